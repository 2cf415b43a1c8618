def f_X10_wants_J56 (p0 : Int32) (K2 : Mem → Int32 → Option (Bool × Mem)) (I : Mem) (x2 : Int32) : Option (Bool × Mem) := if inb x2 (ln 47) = true then (if (I 47 x2.toNatClampNeg) = (8 : Int32) then (if inb x2 (ln 52) = true then (if (I 52 x2.toNatClampNeg) = 0 then (K2 I (x2 + (1 : Int32))) else (some (false, I))) else none) else (K2 I (x2 + (1 : Int32)))) else none
set_option maxHeartbeats 4000000 in
set_option maxRecDepth 100000 in
theorem w_X10_wants_J56 {p : Program} {l : Launch} {e : Env} {s : State} {m : MethodId} {args : Array Value} {below : List Frame} {meth : Method} {c : Code} {G : Gx} {K2 : Mem → Int32 → Option (Bool × Mem)} (p0 : Int32) {res : Bool} {J : Mem} (C : CX p l s m args meth c cX10_wants 3 yX10_wants.cls G) (hr : meth.sig.returnType = (some .boolean)) (hK2 : ∀ (I : Mem) (x2 : Int32) (H : Heap) (locs : List Loc) (ls : Array Slot), HW G s H locs I → lv_has ls 3 [(0, .ref (G.2.1 45)), (2, .int x2)] → K2 I x2 = some (res, J) → W p l e { frames := 0, cells := 0, slots := 0, locals := 0 } s m args below meth c H locs 0 0 (MQ below (Qi9 G (b2i res) J s.heap.size) args s 0 0 (AA G s.heap.size)) (F0 m 2 ls [])) :
    ∀ (I : Mem) (x2 : Int32) (H : Heap) (locs : List Loc) (ls : Array Slot), HW G s H locs I → lv_has ls 3 [(0, .ref (G.2.1 45)), (2, .int x2)] → f_X10_wants_J56 p0 K2 I x2 = some (res, J) → W p l e { frames := 0, cells := 0, slots := 0, locals := 0 } s m args below meth c H locs 0 0 (MQ below (Qi9 G (b2i res) J s.heap.size) args s 0 0 (AA G s.heap.size)) (F0 m 56 ls []) := by
  intro I x2  H locs ls hH hl hf
  have hf : (if inb x2 (ln 47) = true then (if (I 47 x2.toNatClampNeg) = (8 : Int32) then (if inb x2 (ln 52) = true then (if (I 52 x2.toNatClampNeg) = 0 then (K2 I (x2 + (1 : Int32))) else (some (false, I))) else none) else (K2 I (x2 + (1 : Int32)))) else none) = _ := hf
  refine lv_aload_n C.1 C.2.1 dX10_wants_56 rfl (lv_at hl 0 rfl) ?_
  refine g_X10_10 C hH kk_45 tw_824 dX10_wants_57 ?_
  refine lv_iload_n C.1 C.2.1 dX10_wants_60 rfl (lv_at hl 1 rfl) ?_
  obtain ⟨q12, hf⟩ := itn hf
  refine x_iald C hH kk_47 q12 dX10_wants_61 ?_
  refine lv_bipush (v := (8 : Int32)) C.1 C.2.1 dX10_wants_62 (by decide) ?_
  refine lv_icmp_ne (tgt := 78) C.1 C.2.1 dX10_wants_64 (by decide) (fun q15 => ?_) (fun q15 => ?_)
  · have hf := (if_neg q15).symm.trans hf
    refine lv_iinc (v := (x2 + (1 : Int32))) (lv' := [(2, .int (x2 + (1 : Int32))), (0, .ref (G.2.1 45))]) C.1 C.2.1 dX10_wants_78 hl (k := 1) rfl rfl (by decide) rfl (fun ls hl => ?_)
    refine lv_goto (tgt := 2) C.1 C.2.1 dX10_wants_81 (by decide) ?_
    exact hK2 I (x2 + (1 : Int32))  _ _ _ hH (lv_sub hl [1, 0] rfl) hf
  · have hf := (if_pos q15).symm.trans hf
    refine lv_aload_n C.1 C.2.1 dX10_wants_67 rfl (lv_at hl 0 rfl) ?_
    refine g_X10_15 C hH kk_45 tw_829 dX10_wants_68 ?_
    refine lv_iload_n C.1 C.2.1 dX10_wants_71 rfl (lv_at hl 1 rfl) ?_
    obtain ⟨q13, hf⟩ := itn hf
    refine x_zald C hH kk_52 q13 dX10_wants_72 ?_
    refine lv_if_eq (tgt := 78) C.1 C.2.1 dX10_wants_73 (by decide) (fun q14 => ?_) (fun q14 => ?_)
    · have hf := (if_pos q14).symm.trans hf
      refine lv_iinc (v := (x2 + (1 : Int32))) (lv' := [(2, .int (x2 + (1 : Int32))), (0, .ref (G.2.1 45))]) C.1 C.2.1 dX10_wants_78 hl (k := 1) rfl rfl (by decide) rfl (fun ls hl => ?_)
      refine lv_goto (tgt := 2) C.1 C.2.1 dX10_wants_81 (by decide) ?_
      exact hK2 I (x2 + (1 : Int32))  _ _ _ hH (lv_sub hl [1, 0] rfl) hf
    · have hf := (if_neg q14).symm.trans hf
      refine lv_iconst (v := (0 : Int32)) C.1 C.2.1 dX10_wants_76 (by decide) ?_
      cases hf
      exact x_zret C hr hH rfl dX10_wants_77
def f_X10_wants_J31 (p0 : Int32) (K2 : Mem → Int32 → Option (Bool × Mem)) (I : Mem) (x2 : Int32) : Option (Bool × Mem) := if inb x2 (ln 47) = true then (if (I 47 x2.toNatClampNeg) = (5 : Int32) then (if inb x2 (ln 51) = true then (if inb x2 (ln 49) = true then (if (I 49 x2.toNatClampNeg) ≤ (I 51 x2.toNatClampNeg) then (some (false, I)) else (f_X10_wants_J56 p0 K2 I x2)) else none) else none) else (f_X10_wants_J56 p0 K2 I x2)) else none
set_option maxHeartbeats 4000000 in
set_option maxRecDepth 100000 in
theorem w_X10_wants_J31 {p : Program} {l : Launch} {e : Env} {s : State} {m : MethodId} {args : Array Value} {below : List Frame} {meth : Method} {c : Code} {G : Gx} {K2 : Mem → Int32 → Option (Bool × Mem)} (p0 : Int32) {res : Bool} {J : Mem} (C : CX p l s m args meth c cX10_wants 3 yX10_wants.cls G) (hr : meth.sig.returnType = (some .boolean)) (hK2 : ∀ (I : Mem) (x2 : Int32) (H : Heap) (locs : List Loc) (ls : Array Slot), HW G s H locs I → lv_has ls 3 [(0, .ref (G.2.1 45)), (2, .int x2)] → K2 I x2 = some (res, J) → W p l e { frames := 0, cells := 0, slots := 0, locals := 0 } s m args below meth c H locs 0 0 (MQ below (Qi9 G (b2i res) J s.heap.size) args s 0 0 (AA G s.heap.size)) (F0 m 2 ls [])) :
    ∀ (I : Mem) (x2 : Int32) (H : Heap) (locs : List Loc) (ls : Array Slot), HW G s H locs I → lv_has ls 3 [(0, .ref (G.2.1 45)), (2, .int x2)] → f_X10_wants_J31 p0 K2 I x2 = some (res, J) → W p l e { frames := 0, cells := 0, slots := 0, locals := 0 } s m args below meth c H locs 0 0 (MQ below (Qi9 G (b2i res) J s.heap.size) args s 0 0 (AA G s.heap.size)) (F0 m 31 ls []) := by
  intro I x2  H locs ls hH hl hf
  have hf : (if inb x2 (ln 47) = true then (if (I 47 x2.toNatClampNeg) = (5 : Int32) then (if inb x2 (ln 51) = true then (if inb x2 (ln 49) = true then (if (I 49 x2.toNatClampNeg) ≤ (I 51 x2.toNatClampNeg) then (some (false, I)) else (f_X10_wants_J56 p0 K2 I x2)) else none) else none) else (f_X10_wants_J56 p0 K2 I x2)) else none) = _ := hf
  refine lv_aload_n C.1 C.2.1 dX10_wants_31 rfl (lv_at hl 0 rfl) ?_
  refine g_X10_10 C hH kk_45 tw_824 dX10_wants_32 ?_
  refine lv_iload_n C.1 C.2.1 dX10_wants_35 rfl (lv_at hl 1 rfl) ?_
  obtain ⟨q7, hf⟩ := itn hf
  refine x_iald C hH kk_47 q7 dX10_wants_36 ?_
  refine lv_iconst (v := (5 : Int32)) C.1 C.2.1 dX10_wants_37 (by decide) ?_
  refine lv_icmp_ne (tgt := 56) C.1 C.2.1 dX10_wants_38 (by decide) (fun q11 => ?_) (fun q11 => ?_)
  · have hf := (if_neg q11).symm.trans hf
    exact w_X10_wants_J56 p0 C hr hK2 I x2 _ _ _ hH (lv_sub hl [0, 1] rfl) hf
  · have hf := (if_pos q11).symm.trans hf
    refine lv_aload_n C.1 C.2.1 dX10_wants_41 rfl (lv_at hl 0 rfl) ?_
    refine g_X10_14 C hH kk_45 tw_828 dX10_wants_42 ?_
    refine lv_iload_n C.1 C.2.1 dX10_wants_45 rfl (lv_at hl 1 rfl) ?_
    obtain ⟨q8, hf⟩ := itn hf
    refine x_iald C hH kk_51 q8 dX10_wants_46 ?_
    refine lv_aload_n C.1 C.2.1 dX10_wants_47 rfl (lv_at hl 0 rfl) ?_
    refine g_X10_12 C hH kk_45 tw_826 dX10_wants_48 ?_
    refine lv_iload_n C.1 C.2.1 dX10_wants_51 rfl (lv_at hl 1 rfl) ?_
    obtain ⟨q9, hf⟩ := itn hf
    refine x_iald C hH kk_49 q9 dX10_wants_52 ?_
    refine lv_icmp_ge (tgt := 76) C.1 C.2.1 dX10_wants_53 (by decide) (fun q10 => ?_) (fun q10 => ?_)
    · have hf := (if_pos q10).symm.trans hf
      refine lv_iconst (v := (0 : Int32)) C.1 C.2.1 dX10_wants_76 (by decide) ?_
      cases hf
      exact x_zret C hr hH rfl dX10_wants_77
    · have hf := (if_neg q10).symm.trans hf
      exact w_X10_wants_J56 p0 C hr hK2 I x2 _ _ _ hH (lv_sub hl [0, 1] rfl) hf
def f_X10_wants_L2 (p0 : Int32)  : Nat → Mem → Int32 → Option (Bool × Mem)
  | 0, _, _ => none
  | n + 1, I, x2 => if (I 45 9) ≤ x2 then (if (I 45 28) = 0 then (some (true, I)) else (some (false, I))) else (if inb x2 (ln 47) = true then (if (I 47 x2.toNatClampNeg) = (4 : Int32) then (if inb x2 (ln 52) = true then (if (I 52 x2.toNatClampNeg) = 0 then (some (true, I)) else (f_X10_wants_J31 p0 (f_X10_wants_L2 p0 n) I x2)) else none) else (f_X10_wants_J31 p0 (f_X10_wants_L2 p0 n) I x2)) else none)
set_option maxHeartbeats 4000000 in
set_option maxRecDepth 100000 in
theorem w_X10_wants_L2 {p : Program} {l : Launch} {e : Env} {s : State} {m : MethodId} {args : Array Value} {below : List Frame} {meth : Method} {c : Code} {G : Gx} (p0 : Int32) {res : Bool} {J : Mem} (C : CX p l s m args meth c cX10_wants 3 yX10_wants.cls G) (hr : meth.sig.returnType = (some .boolean)) :
    ∀ (n : Nat) (I : Mem) (x2 : Int32) (H : Heap) (locs : List Loc) (ls : Array Slot), HW G s H locs I → lv_has ls 3 [(0, .ref (G.2.1 45)), (2, .int x2)] → f_X10_wants_L2 p0 n I x2 = some (res, J) → W p l e { frames := 0, cells := 0, slots := 0, locals := 0 } s m args below meth c H locs 0 0 (MQ below (Qi9 G (b2i res) J s.heap.size) args s 0 0 (AA G s.heap.size)) (F0 m 2 ls []) := by
  intro n
  induction n with
  | zero => intro I x2  H locs ls hH hl hf; exact absurd hf (by simp [f_X10_wants_L2])
  | succ n ih =>
    intro I x2  H locs ls hH hl hf
    have hf : (if (I 45 9) ≤ x2 then (if (I 45 28) = 0 then (some (true, I)) else (some (false, I))) else (if inb x2 (ln 47) = true then (if (I 47 x2.toNatClampNeg) = (4 : Int32) then (if inb x2 (ln 52) = true then (if (I 52 x2.toNatClampNeg) = 0 then (some (true, I)) else (f_X10_wants_J31 p0 (f_X10_wants_L2 p0 n) I x2)) else none) else (f_X10_wants_J31 p0 (f_X10_wants_L2 p0 n) I x2)) else none)) = _ := hf
    refine lv_iload_n C.1 C.2.1 dX10_wants_2 rfl (lv_at hl 1 rfl) ?_
    refine lv_aload_n C.1 C.2.1 dX10_wants_3 rfl (lv_at hl 0 rfl) ?_
    refine g_X10_9 C hH kk_45 tw_823 dX10_wants_4 ?_
    refine lv_icmp_ge (tgt := 84) C.1 C.2.1 dX10_wants_7 (by decide) (fun q6 => ?_) (fun q6 => ?_)
    · have hf := (if_pos q6).symm.trans hf
      refine lv_aload_n C.1 C.2.1 dX10_wants_84 rfl (lv_at hl 0 rfl) ?_
      refine g_X10_28 C hH kk_45 tw_842 dX10_wants_85 ?_
      refine lv_if_ne (tgt := 95) C.1 C.2.1 dX10_wants_88 (by decide) (fun q1 => ?_) (fun q1 => ?_)
      · have hf := (if_neg q1).symm.trans hf
        refine lv_iconst (v := (0 : Int32)) C.1 C.2.1 dX10_wants_95 (by decide) ?_
        cases hf
        exact x_zret C hr hH rfl dX10_wants_96
      · have hf := (if_pos q1).symm.trans hf
        refine lv_iconst (v := (1 : Int32)) C.1 C.2.1 dX10_wants_91 (by decide) ?_
        refine lv_goto (tgt := 96) C.1 C.2.1 dX10_wants_92 (by decide) ?_
        cases hf
        exact x_zret C hr hH rfl dX10_wants_96
    · have hf := (if_neg q6).symm.trans hf
      refine lv_aload_n C.1 C.2.1 dX10_wants_10 rfl (lv_at hl 0 rfl) ?_
      refine g_X10_10 C hH kk_45 tw_824 dX10_wants_11 ?_
      refine lv_iload_n C.1 C.2.1 dX10_wants_14 rfl (lv_at hl 1 rfl) ?_
      obtain ⟨q2, hf⟩ := itn hf
      refine x_iald C hH kk_47 q2 dX10_wants_15 ?_
      refine lv_iconst (v := (4 : Int32)) C.1 C.2.1 dX10_wants_16 (by decide) ?_
      refine lv_icmp_ne (tgt := 31) C.1 C.2.1 dX10_wants_17 (by decide) (fun q5 => ?_) (fun q5 => ?_)
      · have hf := (if_neg q5).symm.trans hf
        exact w_X10_wants_J31 p0 C hr ih I x2 _ _ _ hH (lv_sub hl [0, 1] rfl) hf
      · have hf := (if_pos q5).symm.trans hf
        refine lv_aload_n C.1 C.2.1 dX10_wants_20 rfl (lv_at hl 0 rfl) ?_
        refine g_X10_15 C hH kk_45 tw_829 dX10_wants_21 ?_
        refine lv_iload_n C.1 C.2.1 dX10_wants_24 rfl (lv_at hl 1 rfl) ?_
        obtain ⟨q3, hf⟩ := itn hf
        refine x_zald C hH kk_52 q3 dX10_wants_25 ?_
        refine lv_if_ne (tgt := 31) C.1 C.2.1 dX10_wants_26 (by decide) (fun q4 => ?_) (fun q4 => ?_)
        · have hf := (if_neg q4).symm.trans hf
          exact w_X10_wants_J31 p0 C hr ih I x2 _ _ _ hH (lv_sub hl [0, 1] rfl) hf
        · have hf := (if_pos q4).symm.trans hf
          refine lv_iconst (v := (1 : Int32)) C.1 C.2.1 dX10_wants_29 (by decide) ?_
          cases hf
          exact x_zret C hr hH rfl dX10_wants_30
def f_X10_wants (I : Mem) (p0 : Int32) : Option (Bool × Mem) := f_X10_wants_L2 p0 FU I p0
set_option maxHeartbeats 4000000 in
set_option maxRecDepth 100000 in
theorem c_X10_wants (l : Launch) (G : Gx) (I : Mem) (p0 : Int32) {res : Bool} {J : Mem} (hf : f_X10_wants I p0 = some (res, J)) : Mi l yX10_wants (.code yX10_wants cX10_wants 3 (some .boolean)) 0 0 G I [.ref (G.2.1 45), .int p0] (b2i res) J := by
  refine Mi.of (by decide +kernel) (Nat.le_of_ble_eq_true rfl) (fun p e s m below meth c ls C hr hH hl => ?_)
  have hl : lv_has ls 3 [(0, .ref (G.2.1 45)), (1, .int p0)] := hl
  have hf : (f_X10_wants_L2 p0 FU I p0) = _ := hf
  refine lv_iload_n C.1 C.2.1 dX10_wants_0 rfl (lv_at hl 1 rfl) ?_
  refine lv_istore_n (lv' := [(2, .int p0), (0, .ref (G.2.1 45)), (1, .int p0)]) C.1 C.2.1 dX10_wants_1 rfl hl (by decide) rfl (fun ls hl => ?_)
  exact w_X10_wants_L2 p0 C hr FU I p0 _ _ _ hH (lv_sub hl [1, 0] rfl) hf
def f_X10_begin (I : Mem) (p0 : Int32) (p1 : Int32) (p2 : Int32) : Option Mem := if inb (I 45 17) (ln 54) = true then (if inb ((st I 54 (I 45 17).toNatClampNeg p0) 45 17) (ln 55) = true then (if inb ((st (st I 54 (I 45 17).toNatClampNeg p0) 55 ((st I 54 (I 45 17).toNatClampNeg p0) 45 17).toNatClampNeg p1) 45 17) (ln 56) = true then (some (st (st (st (st I 54 (I 45 17).toNatClampNeg p0) 55 ((st I 54 (I 45 17).toNatClampNeg p0) 45 17).toNatClampNeg p1) 56 ((st (st I 54 (I 45 17).toNatClampNeg p0) 55 ((st I 54 (I 45 17).toNatClampNeg p0) 45 17).toNatClampNeg p1) 45 17).toNatClampNeg p2) 45 17 (((st (st (st I 54 (I 45 17).toNatClampNeg p0) 55 ((st I 54 (I 45 17).toNatClampNeg p0) 45 17).toNatClampNeg p1) 56 ((st (st I 54 (I 45 17).toNatClampNeg p0) 55 ((st I 54 (I 45 17).toNatClampNeg p0) 45 17).toNatClampNeg p1) 45 17).toNatClampNeg p2) 45 17) + (1 : Int32)))) else none) else none) else none
set_option maxHeartbeats 4000000 in
set_option maxRecDepth 100000 in
theorem c_X10_begin (l : Launch) (G : Gx) (I : Mem) (p0 : Int32) (p1 : Int32) (p2 : Int32) {J : Mem} (hf : f_X10_begin I p0 p1 p2 = some J) : Mv l yX10_begin (.code yX10_begin cX10_begin 4 none) 0 0 G I [.ref (G.2.1 45), .int p0, .int p1, .int p2] J := by
  refine Mv.of (by decide +kernel) (Nat.le_of_ble_eq_true rfl) (fun p e s m below meth c ls C hr hH hl => ?_)
  have hl : lv_has ls 4 [(0, .ref (G.2.1 45)), (1, .int p0), (2, .int p1), (3, .int p2)] := hl
  have hf : (if inb (I 45 17) (ln 54) = true then (if inb ((st I 54 (I 45 17).toNatClampNeg p0) 45 17) (ln 55) = true then (if inb ((st (st I 54 (I 45 17).toNatClampNeg p0) 55 ((st I 54 (I 45 17).toNatClampNeg p0) 45 17).toNatClampNeg p1) 45 17) (ln 56) = true then (some (st (st (st (st I 54 (I 45 17).toNatClampNeg p0) 55 ((st I 54 (I 45 17).toNatClampNeg p0) 45 17).toNatClampNeg p1) 56 ((st (st I 54 (I 45 17).toNatClampNeg p0) 55 ((st I 54 (I 45 17).toNatClampNeg p0) 45 17).toNatClampNeg p1) 45 17).toNatClampNeg p2) 45 17 (((st (st (st I 54 (I 45 17).toNatClampNeg p0) 55 ((st I 54 (I 45 17).toNatClampNeg p0) 45 17).toNatClampNeg p1) 56 ((st (st I 54 (I 45 17).toNatClampNeg p0) 55 ((st I 54 (I 45 17).toNatClampNeg p0) 45 17).toNatClampNeg p1) 45 17).toNatClampNeg p2) 45 17) + (1 : Int32)))) else none) else none) else none) = _ := hf
  refine lv_aload_n C.1 C.2.1 dX10_begin_0 rfl (lv_at hl 0 rfl) ?_
  refine g_X10_18 C hH kk_45 tw_832 dX10_begin_1 ?_
  refine lv_aload_n C.1 C.2.1 dX10_begin_4 rfl (lv_at hl 0 rfl) ?_
  refine g_X10_17 C hH kk_45 tw_831 dX10_begin_5 ?_
  refine lv_iload_n C.1 C.2.1 dX10_begin_8 rfl (lv_at hl 1 rfl) ?_
  obtain ⟨q1, hf⟩ := itn hf
  refine x_iast C hH kk_54 q1 dX10_begin_9 (fun H locs hH => ?_)
  refine lv_aload_n C.1 C.2.1 dX10_begin_10 rfl (lv_at hl 0 rfl) ?_
  refine g_X10_19 C hH kk_45 tw_833 dX10_begin_11 ?_
  refine lv_aload_n C.1 C.2.1 dX10_begin_14 rfl (lv_at hl 0 rfl) ?_
  refine g_X10_17 C hH kk_45 tw_831 dX10_begin_15 ?_
  refine lv_iload_n C.1 C.2.1 dX10_begin_18 rfl (lv_at hl 2 rfl) ?_
  obtain ⟨q2, hf⟩ := itn hf
  refine x_iast C hH kk_55 q2 dX10_begin_19 (fun H locs hH => ?_)
  refine lv_aload_n C.1 C.2.1 dX10_begin_20 rfl (lv_at hl 0 rfl) ?_
  refine g_X10_20 C hH kk_45 tw_834 dX10_begin_21 ?_
  refine lv_aload_n C.1 C.2.1 dX10_begin_24 rfl (lv_at hl 0 rfl) ?_
  refine g_X10_17 C hH kk_45 tw_831 dX10_begin_25 ?_
  refine lv_iload_n C.1 C.2.1 dX10_begin_28 rfl (lv_at hl 3 rfl) ?_
  obtain ⟨q3, hf⟩ := itn hf
  refine x_iast C hH kk_56 q3 dX10_begin_29 (fun H locs hH => ?_)
  refine lv_aload_n C.1 C.2.1 dX10_begin_30 rfl (lv_at hl 0 rfl) ?_
  refine lv_dup C.1 C.2.1 dX10_begin_31 rfl ?_
  refine g_X10_17 C hH kk_45 tw_831 dX10_begin_32 ?_
  refine lv_iconst (v := (1 : Int32)) C.1 C.2.1 dX10_begin_35 (by decide) ?_
  refine lv_iadd C.1 C.2.1 dX10_begin_36 ?_
  refine p_X10_17 C hH kk_45  tw_831 dX10_begin_37 (fun H locs hH => ?_)
  cases hf
  exact x_vret C hr hH dX10_begin_40
def f_X10_goesOn_L5 (p0 : Int32) (p1 : Int32)  : Nat → Mem → Int32 → Int32 → Option Mem
  | 0, _, _, _ => none
  | n + 1, I, x3, x4 => if (I 45 9) ≤ x4 then ((f_X10_reaches I x3).bind fun q1 => (some q1)) else (if inb x4 (ln 50) = true then (if inb x4 (ln 50) = true then (if inb x4 (ln 47) = true then (if ((st I 50 x4.toNatClampNeg ((I 50 x4.toNatClampNeg) + (1 : Int32))) 47 x4.toNatClampNeg) = (2 : Int32) then (if inb x4 (ln 49) = true then ((f_X10_begin (st I 50 x4.toNatClampNeg ((I 50 x4.toNatClampNeg) + (1 : Int32))) x4 x3 ((st I 50 x4.toNatClampNeg ((I 50 x4.toNatClampNeg) + (1 : Int32))) 49 x4.toNatClampNeg)).bind fun q16 => (some q16)) else none) else (if inb x4 (ln 47) = true then (if ((st I 50 x4.toNatClampNeg ((I 50 x4.toNatClampNeg) + (1 : Int32))) 47 x4.toNatClampNeg) = (4 : Int32) then ((f_X10_sortIn (st I 50 x4.toNatClampNeg ((I 50 x4.toNatClampNeg) + (1 : Int32))) x4 x3).bind fun q13 => (some q13)) else ((f_X10_lets (st I 50 x4.toNatClampNeg ((I 50 x4.toNatClampNeg) + (1 : Int32))) x4 x3).bind fun q6 => (if (b2i q6.1) = 0 then (some q6.2) else (if inb x4 (ln 47) = true then (if (q6.2 47 x4.toNatClampNeg) = 0 then (if inb x4 (ln 48) = true then (if inb x4 (ln 49) = true then ((f_X10_mapped q6.2 x3 (q6.2 48 x4.toNatClampNeg) (q6.2 49 x4.toNatClampNeg)).bind fun q10 => (f_X10_goesOn_L5 p0 p1 n q10.2 q10.1 (x4 + (1 : Int32)))) else none) else none) else (f_X10_goesOn_L5 p0 p1 n q6.2 x3 (x4 + (1 : Int32)))) else none)))) else none)) else none) else none) else none)
set_option maxHeartbeats 4000000 in
set_option maxRecDepth 100000 in
theorem w_X10_goesOn_L5 {p : Program} {l : Launch} {e : Env} {s : State} {m : MethodId} {args : Array Value} {below : List Frame} {meth : Method} {c : Code} {G : Gx} (p0 : Int32) (p1 : Int32) {J : Mem} (C : CX p l s m args meth c cX10_goesOn 5 yX10_goesOn.cls G) (hr : meth.sig.returnType = none) :
    ∀ (n : Nat) (I : Mem) (x3 : Int32) (x4 : Int32) (H : Heap) (locs : List Loc) (ls : Array Slot), HW G s H locs I → lv_has ls 5 [(0, .ref (G.2.1 45)), (3, .int x3), (4, .int x4)] → f_X10_goesOn_L5 p0 p1 n I x3 x4 = some J → W p l e { frames := 3, cells := 0, slots := 0, locals := 66 } s m args below meth c H locs 0 0 (MQ below (Qv9 G J s.heap.size) args s 0 0 (AA G s.heap.size)) (F0 m 5 ls []) := by
  intro n
  induction n with
  | zero => intro I x3 x4  H locs ls hH hl hf; exact absurd hf (by simp [f_X10_goesOn_L5])
  | succ n ih =>
    intro I x3 x4  H locs ls hH hl hf
    have hf : (if (I 45 9) ≤ x4 then ((f_X10_reaches I x3).bind fun q1 => (some q1)) else (if inb x4 (ln 50) = true then (if inb x4 (ln 50) = true then (if inb x4 (ln 47) = true then (if ((st I 50 x4.toNatClampNeg ((I 50 x4.toNatClampNeg) + (1 : Int32))) 47 x4.toNatClampNeg) = (2 : Int32) then (if inb x4 (ln 49) = true then ((f_X10_begin (st I 50 x4.toNatClampNeg ((I 50 x4.toNatClampNeg) + (1 : Int32))) x4 x3 ((st I 50 x4.toNatClampNeg ((I 50 x4.toNatClampNeg) + (1 : Int32))) 49 x4.toNatClampNeg)).bind fun q16 => (some q16)) else none) else (if inb x4 (ln 47) = true then (if ((st I 50 x4.toNatClampNeg ((I 50 x4.toNatClampNeg) + (1 : Int32))) 47 x4.toNatClampNeg) = (4 : Int32) then ((f_X10_sortIn (st I 50 x4.toNatClampNeg ((I 50 x4.toNatClampNeg) + (1 : Int32))) x4 x3).bind fun q13 => (some q13)) else ((f_X10_lets (st I 50 x4.toNatClampNeg ((I 50 x4.toNatClampNeg) + (1 : Int32))) x4 x3).bind fun q6 => (if (b2i q6.1) = 0 then (some q6.2) else (if inb x4 (ln 47) = true then (if (q6.2 47 x4.toNatClampNeg) = 0 then (if inb x4 (ln 48) = true then (if inb x4 (ln 49) = true then ((f_X10_mapped q6.2 x3 (q6.2 48 x4.toNatClampNeg) (q6.2 49 x4.toNatClampNeg)).bind fun q10 => (f_X10_goesOn_L5 p0 p1 n q10.2 q10.1 (x4 + (1 : Int32)))) else none) else none) else (f_X10_goesOn_L5 p0 p1 n q6.2 x3 (x4 + (1 : Int32)))) else none)))) else none)) else none) else none) else none)) = _ := hf
    refine lv_iload C.1 C.2.1 dX10_goesOn_5 (lv_at hl 2 rfl) ?_
    refine lv_aload_n C.1 C.2.1 dX10_goesOn_7 rfl (lv_at hl 0 rfl) ?_
    refine g_X10_9 C hH kk_45 tw_823 dX10_goesOn_8 ?_
    refine lv_icmp_ge (tgt := 120) C.1 C.2.1 dX10_goesOn_11 (by decide) (fun q18 => ?_) (fun q18 => ?_)
    · have hf := (if_pos q18).symm.trans hf
      refine lv_aload_n C.1 C.2.1 dX10_goesOn_120 rfl (lv_at hl 0 rfl) ?_
      refine lv_iload_n C.1 C.2.1 dX10_goesOn_121 rfl (lv_at hl 1 rfl) ?_
      obtain ⟨q1, hc, hf⟩ := Option.bind_eq_some_iff.mp hf
      refine x_cv (n := 1) C hH (c_X10_reaches l G I x3 hc) (kd_lt kk_45 (by decide)) (cE_10 kk_45) rfl tw_1036 tw_1033 tw_1035 tw_35 tw_57 (by decide +kernel) ⟨Nat.le_of_ble_eq_true rfl, Nat.le_of_ble_eq_true rfl⟩ rfl hl.1 rfl (Nat.le_of_ble_eq_true rfl) ⟨Nat.le_of_ble_eq_true rfl, Nat.le_of_ble_eq_true rfl⟩ dX10_goesOn_122 (fun H locs hH => ?_)
      cases hf
      exact x_vret C hr hH dX10_goesOn_125
    · have hf := (if_neg q18).symm.trans hf
      refine lv_aload_n C.1 C.2.1 dX10_goesOn_14 rfl (lv_at hl 0 rfl) ?_
      refine g_X10_13 C hH kk_45 tw_827 dX10_goesOn_15 ?_
      refine lv_iload C.1 C.2.1 dX10_goesOn_18 (lv_at hl 2 rfl) ?_
      refine lv_dup2_11 C.1 C.2.1 dX10_goesOn_20 rfl rfl ?_
      obtain ⟨q2, hf⟩ := itn hf
      refine x_iald C hH kk_50 q2 dX10_goesOn_21 ?_
      refine lv_iconst (v := (1 : Int32)) C.1 C.2.1 dX10_goesOn_22 (by decide) ?_
      refine lv_iadd C.1 C.2.1 dX10_goesOn_23 ?_
      obtain ⟨q3, hf⟩ := itn hf
      refine x_iast C hH kk_50 q3 dX10_goesOn_24 (fun H locs hH => ?_)
      refine lv_aload_n C.1 C.2.1 dX10_goesOn_25 rfl (lv_at hl 0 rfl) ?_
      refine g_X10_10 C hH kk_45 tw_824 dX10_goesOn_26 ?_
      refine lv_iload C.1 C.2.1 dX10_goesOn_29 (lv_at hl 2 rfl) ?_
      obtain ⟨q4, hf⟩ := itn hf
      refine x_iald C hH kk_47 q4 dX10_goesOn_31 ?_
      refine lv_iconst (v := (2 : Int32)) C.1 C.2.1 dX10_goesOn_32 (by decide) ?_
      refine lv_icmp_ne (tgt := 51) C.1 C.2.1 dX10_goesOn_33 (by decide) (fun q17 => ?_) (fun q17 => ?_)
      · have hf := (if_neg q17).symm.trans hf
        refine lv_aload_n C.1 C.2.1 dX10_goesOn_51 rfl (lv_at hl 0 rfl) ?_
        refine g_X10_10 C hH kk_45 tw_824 dX10_goesOn_52 ?_
        refine lv_iload C.1 C.2.1 dX10_goesOn_55 (lv_at hl 2 rfl) ?_
        obtain ⟨q5, hf⟩ := itn hf
        refine x_iald C hH kk_47 q5 dX10_goesOn_57 ?_
        refine lv_iconst (v := (4 : Int32)) C.1 C.2.1 dX10_goesOn_58 (by decide) ?_
        refine lv_icmp_ne (tgt := 70) C.1 C.2.1 dX10_goesOn_59 (by decide) (fun q14 => ?_) (fun q14 => ?_)
        · have hf := (if_neg q14).symm.trans hf
          refine lv_aload_n C.1 C.2.1 dX10_goesOn_70 rfl (lv_at hl 0 rfl) ?_
          refine lv_iload C.1 C.2.1 dX10_goesOn_71 (lv_at hl 2 rfl) ?_
          refine lv_iload_n C.1 C.2.1 dX10_goesOn_73 rfl (lv_at hl 1 rfl) ?_
          obtain ⟨q6, hc, hf⟩ := Option.bind_eq_some_iff.mp hf
          refine x_ci (n := 2) C hH (c_X10_lets l G (st I 50 x4.toNatClampNeg ((I 50 x4.toNatClampNeg) + (1 : Int32))) x4 x3 hc) (kd_lt kk_45 (by decide)) (cE_10 kk_45) rfl tw_1018 tw_1015 tw_1017 tw_32 tw_57 (by decide +kernel) ⟨Nat.le_of_ble_eq_true rfl, Nat.le_of_ble_eq_true rfl⟩ rfl hl.1 rfl (Nat.le_of_ble_eq_true rfl) ⟨Nat.le_of_ble_eq_true rfl, Nat.le_of_ble_eq_true rfl⟩ dX10_goesOn_74 (fun H locs hH => ?_)
          refine lv_if_ne (tgt := 81) C.1 C.2.1 dX10_goesOn_77 (by decide) (fun q12 => ?_) (fun q12 => ?_)
          · have hf := (if_neg q12).symm.trans hf
            refine lv_aload_n C.1 C.2.1 dX10_goesOn_81 rfl (lv_at hl 0 rfl) ?_
            refine g_X10_10 C hH kk_45 tw_824 dX10_goesOn_82 ?_
            refine lv_iload C.1 C.2.1 dX10_goesOn_85 (lv_at hl 2 rfl) ?_
            obtain ⟨q7, hf⟩ := itn hf
            refine x_iald C hH kk_47 q7 dX10_goesOn_87 ?_
            refine lv_if_ne (tgt := 112) C.1 C.2.1 dX10_goesOn_88 (by decide) (fun q11 => ?_) (fun q11 => ?_)
            · have hf := (if_neg q11).symm.trans hf
              refine lv_iload_n C.1 C.2.1 dX10_goesOn_112 rfl (lv_at hl 1 rfl) ?_
              refine lv_istore_n (lv' := [(3, .int x3), (0, .ref (G.2.1 45)), (4, .int x4)]) C.1 C.2.1 dX10_goesOn_113 rfl hl (by decide) rfl (fun ls hl => ?_)
              refine lv_iinc (v := (x4 + (1 : Int32))) (lv' := [(4, .int (x4 + (1 : Int32))), (3, .int x3), (0, .ref (G.2.1 45))]) C.1 C.2.1 dX10_goesOn_114 hl (k := 2) rfl rfl (by decide) rfl (fun ls hl => ?_)
              refine lv_goto (tgt := 5) C.1 C.2.1 dX10_goesOn_117 (by decide) ?_
              exact ih q6.2 x3 (x4 + (1 : Int32))  _ _ _ hH (lv_sub hl [2, 1, 0] rfl) hf
            · have hf := (if_pos q11).symm.trans hf
              refine lv_iload_n C.1 C.2.1 dX10_goesOn_91 rfl (lv_at hl 1 rfl) ?_
              refine lv_aload_n C.1 C.2.1 dX10_goesOn_92 rfl (lv_at hl 0 rfl) ?_
              refine g_X10_11 C hH kk_45 tw_825 dX10_goesOn_93 ?_
              refine lv_iload C.1 C.2.1 dX10_goesOn_96 (lv_at hl 2 rfl) ?_
              obtain ⟨q8, hf⟩ := itn hf
              refine x_iald C hH kk_48 q8 dX10_goesOn_98 ?_
              refine lv_aload_n C.1 C.2.1 dX10_goesOn_99 rfl (lv_at hl 0 rfl) ?_
              refine g_X10_12 C hH kk_45 tw_826 dX10_goesOn_100 ?_
              refine lv_iload C.1 C.2.1 dX10_goesOn_103 (lv_at hl 2 rfl) ?_
              obtain ⟨q9, hf⟩ := itn hf
              refine x_iald C hH kk_49 q9 dX10_goesOn_105 ?_
              obtain ⟨q10, hc, hf⟩ := Option.bind_eq_some_iff.mp hf
              refine x_si (n := 3) C hH (c_X10_mapped l G q6.2 x3 (q6.2 48 x4.toNatClampNeg) (q6.2 49 x4.toNatClampNeg) hc) tw_1032 tw_1030 tw_1031 tw_57 (by decide +kernel) ⟨Nat.le_of_ble_eq_true rfl, Nat.le_of_ble_eq_true rfl⟩ rfl hl.1 rfl (Nat.le_of_ble_eq_true rfl) ⟨Nat.le_of_ble_eq_true rfl, Nat.le_of_ble_eq_true rfl⟩ dX10_goesOn_106 (fun H locs hH => ?_)
              refine lv_goto (tgt := 113) C.1 C.2.1 dX10_goesOn_109 (by decide) ?_
              refine lv_istore_n (lv' := [(3, .int q10.1), (0, .ref (G.2.1 45)), (4, .int x4)]) C.1 C.2.1 dX10_goesOn_113 rfl hl (by decide) rfl (fun ls hl => ?_)
              refine lv_iinc (v := (x4 + (1 : Int32))) (lv' := [(4, .int (x4 + (1 : Int32))), (3, .int q10.1), (0, .ref (G.2.1 45))]) C.1 C.2.1 dX10_goesOn_114 hl (k := 2) rfl rfl (by decide) rfl (fun ls hl => ?_)
              refine lv_goto (tgt := 5) C.1 C.2.1 dX10_goesOn_117 (by decide) ?_
              exact ih q10.2 q10.1 (x4 + (1 : Int32))  _ _ _ hH (lv_sub hl [2, 1, 0] rfl) hf
          · have hf := (if_pos q12).symm.trans hf
            cases hf
            exact x_vret C hr hH dX10_goesOn_80
        · have hf := (if_pos q14).symm.trans hf
          refine lv_aload_n C.1 C.2.1 dX10_goesOn_62 rfl (lv_at hl 0 rfl) ?_
          refine lv_iload C.1 C.2.1 dX10_goesOn_63 (lv_at hl 2 rfl) ?_
          refine lv_iload_n C.1 C.2.1 dX10_goesOn_65 rfl (lv_at hl 1 rfl) ?_
          obtain ⟨q13, hc, hf⟩ := Option.bind_eq_some_iff.mp hf
          refine x_cv (n := 2) C hH (c_X10_sortIn l G (st I 50 x4.toNatClampNeg ((I 50 x4.toNatClampNeg) + (1 : Int32))) x4 x3 hc) (kd_lt kk_45 (by decide)) (cE_10 kk_45) rfl tw_1014 tw_1011 tw_1013 tw_31 tw_57 (by decide +kernel) ⟨Nat.le_of_ble_eq_true rfl, Nat.le_of_ble_eq_true rfl⟩ rfl hl.1 rfl (Nat.le_of_ble_eq_true rfl) ⟨Nat.le_of_ble_eq_true rfl, Nat.le_of_ble_eq_true rfl⟩ dX10_goesOn_66 (fun H locs hH => ?_)
          cases hf
          exact x_vret C hr hH dX10_goesOn_69
      · have hf := (if_pos q17).symm.trans hf
        refine lv_aload_n C.1 C.2.1 dX10_goesOn_36 rfl (lv_at hl 0 rfl) ?_
        refine lv_iload C.1 C.2.1 dX10_goesOn_37 (lv_at hl 2 rfl) ?_
        refine lv_iload_n C.1 C.2.1 dX10_goesOn_39 rfl (lv_at hl 1 rfl) ?_
        refine lv_aload_n C.1 C.2.1 dX10_goesOn_40 rfl (lv_at hl 0 rfl) ?_
        refine g_X10_12 C hH kk_45 tw_826 dX10_goesOn_41 ?_
        refine lv_iload C.1 C.2.1 dX10_goesOn_44 (lv_at hl 2 rfl) ?_
        obtain ⟨q15, hf⟩ := itn hf
        refine x_iald C hH kk_49 q15 dX10_goesOn_46 ?_
        obtain ⟨q16, hc, hf⟩ := Option.bind_eq_some_iff.mp hf
        refine x_cv (n := 3) C hH (c_X10_begin l G (st I 50 x4.toNatClampNeg ((I 50 x4.toNatClampNeg) + (1 : Int32))) x4 x3 ((st I 50 x4.toNatClampNeg ((I 50 x4.toNatClampNeg) + (1 : Int32))) 49 x4.toNatClampNeg) hc) (kd_lt kk_45 (by decide)) (cE_10 kk_45) rfl tw_994 tw_991 tw_993 tw_26 tw_57 (by decide +kernel) ⟨Nat.le_of_ble_eq_true rfl, Nat.le_of_ble_eq_true rfl⟩ rfl hl.1 rfl (Nat.le_of_ble_eq_true rfl) ⟨Nat.le_of_ble_eq_true rfl, Nat.le_of_ble_eq_true rfl⟩ dX10_goesOn_47 (fun H locs hH => ?_)
        cases hf
        exact x_vret C hr hH dX10_goesOn_50
def f_X10_goesOn (I : Mem) (p0 : Int32) (p1 : Int32) : Option Mem := f_X10_goesOn_L5 p0 p1 FU I p1 p0
set_option maxHeartbeats 4000000 in
set_option maxRecDepth 100000 in
theorem c_X10_goesOn (l : Launch) (G : Gx) (I : Mem) (p0 : Int32) (p1 : Int32) {J : Mem} (hf : f_X10_goesOn I p0 p1 = some J) : Mv l yX10_goesOn (.code yX10_goesOn cX10_goesOn 5 none) 3 66 G I [.ref (G.2.1 45), .int p0, .int p1] J := by
  refine Mv.of (by decide +kernel) (Nat.le_of_ble_eq_true rfl) (fun p e s m below meth c ls C hr hH hl => ?_)
  have hl : lv_has ls 5 [(0, .ref (G.2.1 45)), (1, .int p0), (2, .int p1)] := hl
  have hf : (f_X10_goesOn_L5 p0 p1 FU I p1 p0) = _ := hf
  refine lv_iload_n C.1 C.2.1 dX10_goesOn_0 rfl (lv_at hl 2 rfl) ?_
  refine lv_istore_n (lv' := [(3, .int p1), (0, .ref (G.2.1 45)), (1, .int p0), (2, .int p1)]) C.1 C.2.1 dX10_goesOn_1 rfl hl (by decide) rfl (fun ls hl => ?_)
  refine lv_iload_n C.1 C.2.1 dX10_goesOn_2 rfl (lv_at hl 2 rfl) ?_
  refine lv_istore (lv' := [(4, .int p0), (3, .int p1), (0, .ref (G.2.1 45)), (1, .int p0), (2, .int p1)]) C.1 C.2.1 dX10_goesOn_3 hl (by decide) rfl (fun ls hl => ?_)
  exact w_X10_goesOn_L5 p0 p1 C hr FU I p1 p0 _ _ _ hH (lv_sub hl [2, 1, 0] rfl) hf
def f_X10_gives_J114 (p0 : Int32)  (I : Mem) (x2 : Int32) (x3 : Int32) (x4 : Int32) (y0 : Int32) (y1 : Int32) : Option (Int32 × Mem) := if inb y1 (ln 55) = true then (if x4 = 0 then (some (x3, (st I 55 y1.toNatClampNeg y0))) else (if 0 ≤ x2 then (if inb (((600 : Int32) * x2) + x3) (ln 53) = true then (some (((st I 55 y1.toNatClampNeg y0) 53 (((600 : Int32) * x2) + x3).toNatClampNeg), (st I 55 y1.toNatClampNeg y0))) else none) else (if inb x3 (ln 46) = true then (some (((st I 55 y1.toNatClampNeg y0) 46 x3.toNatClampNeg), (st I 55 y1.toNatClampNeg y0))) else none))) else none
set_option maxHeartbeats 4000000 in
set_option maxRecDepth 100000 in
theorem w_X10_gives_J114 {p : Program} {l : Launch} {e : Env} {s : State} {m : MethodId} {args : Array Value} {below : List Frame} {meth : Method} {c : Code} {G : Gx} (p0 : Int32) {res : Int32} {J : Mem} (C : CX p l s m args meth c cX10_gives 5 yX10_gives.cls G) (hr : meth.sig.returnType = (some .int)) :
    ∀ (I : Mem) (x2 : Int32) (x3 : Int32) (x4 : Int32) (y0 : Int32) (y1 : Int32) (H : Heap) (locs : List Loc) (ls : Array Slot), HW G s H locs I → lv_has ls 5 [(0, .ref (G.2.1 45)), (2, .int x2), (3, .int x3), (4, .int x4)] → f_X10_gives_J114 p0 I x2 x3 x4 y0 y1 = some (res, J) → W p l e { frames := 0, cells := 0, slots := 0, locals := 0 } s m args below meth c H locs 0 0 (MQ below (Qi9 G res J s.heap.size) args s 0 0 (AA G s.heap.size)) (F0 m 114 ls [.int y0, .int y1, .ref (G.2.1 55)]) := by
  intro I x2 x3 x4 y0 y1  H locs ls hH hl hf
  have hf : (if inb y1 (ln 55) = true then (if x4 = 0 then (some (x3, (st I 55 y1.toNatClampNeg y0))) else (if 0 ≤ x2 then (if inb (((600 : Int32) * x2) + x3) (ln 53) = true then (some (((st I 55 y1.toNatClampNeg y0) 53 (((600 : Int32) * x2) + x3).toNatClampNeg), (st I 55 y1.toNatClampNeg y0))) else none) else (if inb x3 (ln 46) = true then (some (((st I 55 y1.toNatClampNeg y0) 46 x3.toNatClampNeg), (st I 55 y1.toNatClampNeg y0))) else none))) else none) = _ := hf
  obtain ⟨q15, hf⟩ := itn hf
  refine x_iast C hH kk_55 q15 dX10_gives_114 (fun H locs hH => ?_)
  refine lv_iload C.1 C.2.1 dX10_gives_115 (lv_at hl 3 rfl) ?_
  refine lv_if_ne (tgt := 124) C.1 C.2.1 dX10_gives_117 (by decide) (fun q19 => ?_) (fun q19 => ?_)
  · have hf := (if_neg q19).symm.trans hf
    refine lv_iload_n C.1 C.2.1 dX10_gives_124 rfl (lv_at hl 1 rfl) ?_
    refine lv_if_ge (tgt := 137) C.1 C.2.1 dX10_gives_125 (by decide) (fun q18 => ?_) (fun q18 => ?_)
    · have hf := (if_pos q18).symm.trans hf
      refine lv_aload_n C.1 C.2.1 dX10_gives_137 rfl (lv_at hl 0 rfl) ?_
      refine g_X10_16 C hH kk_45 tw_830 dX10_gives_138 ?_
      refine lv_sipush (v := (600 : Int32)) C.1 C.2.1 dX10_gives_141 (by decide) ?_
      refine lv_iload_n C.1 C.2.1 dX10_gives_144 rfl (lv_at hl 1 rfl) ?_
      refine lv_imul C.1 C.2.1 dX10_gives_145 ?_
      refine lv_iload_n C.1 C.2.1 dX10_gives_146 rfl (lv_at hl 2 rfl) ?_
      refine lv_iadd C.1 C.2.1 dX10_gives_147 ?_
      obtain ⟨q16, hf⟩ := itn hf
      refine x_iald C hH kk_53 q16 dX10_gives_148 ?_
      cases hf
      exact x_iret C hr hH dX10_gives_149
    · have hf := (if_neg q18).symm.trans hf
      refine lv_aload_n C.1 C.2.1 dX10_gives_128 rfl (lv_at hl 0 rfl) ?_
      refine g_X10_1 C hH kk_45 tw_815 dX10_gives_129 ?_
      refine lv_iload_n C.1 C.2.1 dX10_gives_132 rfl (lv_at hl 2 rfl) ?_
      obtain ⟨q17, hf⟩ := itn hf
      refine x_iald C hH kk_46 q17 dX10_gives_133 ?_
      refine lv_goto (tgt := 149) C.1 C.2.1 dX10_gives_134 (by decide) ?_
      cases hf
      exact x_iret C hr hH dX10_gives_149
  · have hf := (if_pos q19).symm.trans hf
    refine lv_iload_n C.1 C.2.1 dX10_gives_120 rfl (lv_at hl 2 rfl) ?_
    refine lv_goto (tgt := 149) C.1 C.2.1 dX10_gives_121 (by decide) ?_
    cases hf
    exact x_iret C hr hH dX10_gives_149
def f_X10_gives_J111 (p0 : Int32)  (I : Mem) (x2 : Int32) (x3 : Int32) (x4 : Int32) (y0 : Int32) : Option (Int32 × Mem) := f_X10_gives_J114 p0 I x2 x3 x4 (x3 + (1 : Int32)) y0
set_option maxHeartbeats 4000000 in
set_option maxRecDepth 100000 in
theorem w_X10_gives_J111 {p : Program} {l : Launch} {e : Env} {s : State} {m : MethodId} {args : Array Value} {below : List Frame} {meth : Method} {c : Code} {G : Gx} (p0 : Int32) {res : Int32} {J : Mem} (C : CX p l s m args meth c cX10_gives 5 yX10_gives.cls G) (hr : meth.sig.returnType = (some .int)) :
    ∀ (I : Mem) (x2 : Int32) (x3 : Int32) (x4 : Int32) (y0 : Int32) (H : Heap) (locs : List Loc) (ls : Array Slot), HW G s H locs I → lv_has ls 5 [(0, .ref (G.2.1 45)), (2, .int x2), (3, .int x3), (4, .int x4)] → f_X10_gives_J111 p0 I x2 x3 x4 y0 = some (res, J) → W p l e { frames := 0, cells := 0, slots := 0, locals := 0 } s m args below meth c H locs 0 0 (MQ below (Qi9 G res J s.heap.size) args s 0 0 (AA G s.heap.size)) (F0 m 111 ls [.int y0, .ref (G.2.1 55)]) := by
  intro I x2 x3 x4 y0  H locs ls hH hl hf
  have hf : (f_X10_gives_J114 p0 I x2 x3 x4 (x3 + (1 : Int32)) y0) = _ := hf
  refine lv_iload_n C.1 C.2.1 dX10_gives_111 rfl (lv_at hl 2 rfl) ?_
  refine lv_iconst (v := (1 : Int32)) C.1 C.2.1 dX10_gives_112 (by decide) ?_
  refine lv_iadd C.1 C.2.1 dX10_gives_113 ?_
  exact w_X10_gives_J114 p0 C hr I x2 x3 x4 (x3 + (1 : Int32)) y0 _ _ _ hH (lv_sub hl [0, 1, 2, 3] rfl) hf
def f_X10_gives_J67 (p0 : Int32)  (I : Mem) (x1 : Int32) (x2 : Int32) (x3 : Int32) (x4 : Int32) (y0 : Int32) (y1 : Int32) (y2 : Int32) : Option (Int32 × Mem) := if inb y2 (ln 56) = true then (if x4 = 0 then (if 0 ≤ x2 then (f_X10_gives_J111 p0 (st I 56 y2.toNatClampNeg (y1 - y0)) x2 x3 x4 x1) else (if ((st I 56 y2.toNatClampNeg (y1 - y0)) 45 5) = (2 : Int32) then (f_X10_gives_J114 p0 (st I 56 y2.toNatClampNeg (y1 - y0)) x2 x3 x4 ((x3 * ((st I 56 y2.toNatClampNeg (y1 - y0)) 45 7)) + ((st I 56 y2.toNatClampNeg (y1 - y0)) 45 8)) x1) else (f_X10_gives_J111 p0 (st I 56 y2.toNatClampNeg (y1 - y0)) x2 x3 x4 x1))) else (f_X10_gives_J114 p0 (st I 56 y2.toNatClampNeg (y1 - y0)) x2 x3 x4 (x3 + (1 : Int32)) x1)) else none
set_option maxHeartbeats 4000000 in
set_option maxRecDepth 100000 in
theorem w_X10_gives_J67 {p : Program} {l : Launch} {e : Env} {s : State} {m : MethodId} {args : Array Value} {below : List Frame} {meth : Method} {c : Code} {G : Gx} (p0 : Int32) {res : Int32} {J : Mem} (C : CX p l s m args meth c cX10_gives 5 yX10_gives.cls G) (hr : meth.sig.returnType = (some .int)) :
    ∀ (I : Mem) (x1 : Int32) (x2 : Int32) (x3 : Int32) (x4 : Int32) (y0 : Int32) (y1 : Int32) (y2 : Int32) (H : Heap) (locs : List Loc) (ls : Array Slot), HW G s H locs I → lv_has ls 5 [(0, .ref (G.2.1 45)), (1, .int x1), (2, .int x2), (3, .int x3), (4, .int x4)] → f_X10_gives_J67 p0 I x1 x2 x3 x4 y0 y1 y2 = some (res, J) → W p l e { frames := 0, cells := 0, slots := 0, locals := 0 } s m args below meth c H locs 0 0 (MQ below (Qi9 G res J s.heap.size) args s 0 0 (AA G s.heap.size)) (F0 m 67 ls [.int y0, .int y1, .int y2, .ref (G.2.1 56)]) := by
  intro I x1 x2 x3 x4 y0 y1 y2  H locs ls hH hl hf
  have hf : (if inb y2 (ln 56) = true then (if x4 = 0 then (if 0 ≤ x2 then (f_X10_gives_J111 p0 (st I 56 y2.toNatClampNeg (y1 - y0)) x2 x3 x4 x1) else (if ((st I 56 y2.toNatClampNeg (y1 - y0)) 45 5) = (2 : Int32) then (f_X10_gives_J114 p0 (st I 56 y2.toNatClampNeg (y1 - y0)) x2 x3 x4 ((x3 * ((st I 56 y2.toNatClampNeg (y1 - y0)) 45 7)) + ((st I 56 y2.toNatClampNeg (y1 - y0)) 45 8)) x1) else (f_X10_gives_J111 p0 (st I 56 y2.toNatClampNeg (y1 - y0)) x2 x3 x4 x1))) else (f_X10_gives_J114 p0 (st I 56 y2.toNatClampNeg (y1 - y0)) x2 x3 x4 (x3 + (1 : Int32)) x1)) else none) = _ := hf
  refine lv_isub C.1 C.2.1 dX10_gives_67 ?_
  obtain ⟨q11, hf⟩ := itn hf
  refine x_iast C hH kk_56 q11 dX10_gives_68 (fun H locs hH => ?_)
  refine lv_aload_n C.1 C.2.1 dX10_gives_69 rfl (lv_at hl 0 rfl) ?_
  refine g_X10_19 C hH kk_45 tw_833 dX10_gives_70 ?_
  refine lv_iload_n C.1 C.2.1 dX10_gives_73 rfl (lv_at hl 1 rfl) ?_
  refine lv_iload C.1 C.2.1 dX10_gives_74 (lv_at hl 4 rfl) ?_
  refine lv_if_eq (tgt := 85) C.1 C.2.1 dX10_gives_76 (by decide) (fun q14 => ?_) (fun q14 => ?_)
  · have hf := (if_pos q14).symm.trans hf
    refine lv_iload_n C.1 C.2.1 dX10_gives_85 rfl (lv_at hl 2 rfl) ?_
    refine lv_if_ge (tgt := 111) C.1 C.2.1 dX10_gives_86 (by decide) (fun q13 => ?_) (fun q13 => ?_)
    · have hf := (if_pos q13).symm.trans hf
      exact w_X10_gives_J111 p0 C hr (st I 56 y2.toNatClampNeg (y1 - y0)) x2 x3 x4 x1 _ _ _ hH (lv_sub hl [0, 2, 3, 4] rfl) hf
    · have hf := (if_neg q13).symm.trans hf
      refine lv_aload_n C.1 C.2.1 dX10_gives_89 rfl (lv_at hl 0 rfl) ?_
      refine g_X10_5 C hH kk_45 tw_819 dX10_gives_90 ?_
      refine lv_iconst (v := (2 : Int32)) C.1 C.2.1 dX10_gives_93 (by decide) ?_
      refine lv_icmp_ne (tgt := 111) C.1 C.2.1 dX10_gives_94 (by decide) (fun q12 => ?_) (fun q12 => ?_)
      · have hf := (if_neg q12).symm.trans hf
        exact w_X10_gives_J111 p0 C hr (st I 56 y2.toNatClampNeg (y1 - y0)) x2 x3 x4 x1 _ _ _ hH (lv_sub hl [0, 2, 3, 4] rfl) hf
      · have hf := (if_pos q12).symm.trans hf
        refine lv_iload_n C.1 C.2.1 dX10_gives_97 rfl (lv_at hl 3 rfl) ?_
        refine lv_aload_n C.1 C.2.1 dX10_gives_98 rfl (lv_at hl 0 rfl) ?_
        refine g_X10_7 C hH kk_45 tw_821 dX10_gives_99 ?_
        refine lv_imul C.1 C.2.1 dX10_gives_102 ?_
        refine lv_aload_n C.1 C.2.1 dX10_gives_103 rfl (lv_at hl 0 rfl) ?_
        refine g_X10_8 C hH kk_45 tw_822 dX10_gives_104 ?_
        refine lv_iadd C.1 C.2.1 dX10_gives_107 ?_
        refine lv_goto (tgt := 114) C.1 C.2.1 dX10_gives_108 (by decide) ?_
        exact w_X10_gives_J114 p0 C hr (st I 56 y2.toNatClampNeg (y1 - y0)) x2 x3 x4 ((x3 * ((st I 56 y2.toNatClampNeg (y1 - y0)) 45 7)) + ((st I 56 y2.toNatClampNeg (y1 - y0)) 45 8)) x1 _ _ _ hH (lv_sub hl [0, 2, 3, 4] rfl) hf
  · have hf := (if_neg q14).symm.trans hf
    refine lv_iload_n C.1 C.2.1 dX10_gives_79 rfl (lv_at hl 3 rfl) ?_
    refine lv_iconst (v := (1 : Int32)) C.1 C.2.1 dX10_gives_80 (by decide) ?_
    refine lv_iadd C.1 C.2.1 dX10_gives_81 ?_
    refine lv_goto (tgt := 114) C.1 C.2.1 dX10_gives_82 (by decide) ?_
    exact w_X10_gives_J114 p0 C hr (st I 56 y2.toNatClampNeg (y1 - y0)) x2 x3 x4 (x3 + (1 : Int32)) x1 _ _ _ hH (lv_sub hl [0, 2, 3, 4] rfl) hf
def f_X10_gives_J44 (p0 : Int32)  (I : Mem) (x1 : Int32) (x2 : Int32) (x3 : Int32) (y0 : Int32) : Option (Int32 × Mem) := if inb x1 (ln 56) = true then (if inb x1 (ln 56) = true then (if (I 56 x1.toNatClampNeg) ≤ 0 then (f_X10_gives_J67 p0 I x1 x2 x3 y0 (0 : Int32) (I 56 x1.toNatClampNeg) x1) else (f_X10_gives_J67 p0 I x1 x2 x3 y0 (1 : Int32) (I 56 x1.toNatClampNeg) x1)) else none) else none
set_option maxHeartbeats 4000000 in
set_option maxRecDepth 100000 in
theorem w_X10_gives_J44 {p : Program} {l : Launch} {e : Env} {s : State} {m : MethodId} {args : Array Value} {below : List Frame} {meth : Method} {c : Code} {G : Gx} (p0 : Int32) {res : Int32} {J : Mem} (C : CX p l s m args meth c cX10_gives 5 yX10_gives.cls G) (hr : meth.sig.returnType = (some .int)) :
    ∀ (I : Mem) (x1 : Int32) (x2 : Int32) (x3 : Int32) (y0 : Int32) (H : Heap) (locs : List Loc) (ls : Array Slot), HW G s H locs I → lv_has ls 5 [(0, .ref (G.2.1 45)), (1, .int x1), (2, .int x2), (3, .int x3)] → f_X10_gives_J44 p0 I x1 x2 x3 y0 = some (res, J) → W p l e { frames := 0, cells := 0, slots := 0, locals := 0 } s m args below meth c H locs 0 0 (MQ below (Qi9 G res J s.heap.size) args s 0 0 (AA G s.heap.size)) (F0 m 44 ls [.int y0]) := by
  intro I x1 x2 x3 y0  H locs ls hH hl hf
  have hf : (if inb x1 (ln 56) = true then (if inb x1 (ln 56) = true then (if (I 56 x1.toNatClampNeg) ≤ 0 then (f_X10_gives_J67 p0 I x1 x2 x3 y0 (0 : Int32) (I 56 x1.toNatClampNeg) x1) else (f_X10_gives_J67 p0 I x1 x2 x3 y0 (1 : Int32) (I 56 x1.toNatClampNeg) x1)) else none) else none) = _ := hf
  refine lv_istore (lv' := [(4, .int y0), (0, .ref (G.2.1 45)), (1, .int x1), (2, .int x2), (3, .int x3)]) C.1 C.2.1 dX10_gives_44 hl (by decide) rfl (fun ls hl => ?_)
  refine lv_aload_n C.1 C.2.1 dX10_gives_46 rfl (lv_at hl 1 rfl) ?_
  refine g_X10_20 C hH kk_45 tw_834 dX10_gives_47 ?_
  refine lv_iload_n C.1 C.2.1 dX10_gives_50 rfl (lv_at hl 2 rfl) ?_
  refine lv_dup2_11 C.1 C.2.1 dX10_gives_51 rfl rfl ?_
  obtain ⟨q8, hf⟩ := itn hf
  refine x_iald C hH kk_56 q8 dX10_gives_52 ?_
  refine lv_aload_n C.1 C.2.1 dX10_gives_53 rfl (lv_at hl 1 rfl) ?_
  refine g_X10_20 C hH kk_45 tw_834 dX10_gives_54 ?_
  refine lv_iload_n C.1 C.2.1 dX10_gives_57 rfl (lv_at hl 2 rfl) ?_
  obtain ⟨q9, hf⟩ := itn hf
  refine x_iald C hH kk_56 q9 dX10_gives_58 ?_
  refine lv_if_le (tgt := 66) C.1 C.2.1 dX10_gives_59 (by decide) (fun q10 => ?_) (fun q10 => ?_)
  · have hf := (if_pos q10).symm.trans hf
    refine lv_iconst (v := (0 : Int32)) C.1 C.2.1 dX10_gives_66 (by decide) ?_
    exact w_X10_gives_J67 p0 C hr I x1 x2 x3 y0 (0 : Int32) (I 56 x1.toNatClampNeg) x1 _ _ _ hH (lv_sub hl [1, 2, 3, 4, 0] rfl) hf
  · have hf := (if_neg q10).symm.trans hf
    refine lv_iconst (v := (1 : Int32)) C.1 C.2.1 dX10_gives_62 (by decide) ?_
    refine lv_goto (tgt := 67) C.1 C.2.1 dX10_gives_63 (by decide) ?_
    exact w_X10_gives_J67 p0 C hr I x1 x2 x3 y0 (1 : Int32) (I 56 x1.toNatClampNeg) x1 _ _ _ hH (lv_sub hl [1, 2, 3, 4, 0] rfl) hf
def f_X10_gives_J43 (p0 : Int32)  (I : Mem) (x1 : Int32) (x2 : Int32) (x3 : Int32) : Option (Int32 × Mem) := f_X10_gives_J44 p0 I x1 x2 x3 (0 : Int32)
set_option maxHeartbeats 4000000 in
set_option maxRecDepth 100000 in
theorem w_X10_gives_J43 {p : Program} {l : Launch} {e : Env} {s : State} {m : MethodId} {args : Array Value} {below : List Frame} {meth : Method} {c : Code} {G : Gx} (p0 : Int32) {res : Int32} {J : Mem} (C : CX p l s m args meth c cX10_gives 5 yX10_gives.cls G) (hr : meth.sig.returnType = (some .int)) :
    ∀ (I : Mem) (x1 : Int32) (x2 : Int32) (x3 : Int32) (H : Heap) (locs : List Loc) (ls : Array Slot), HW G s H locs I → lv_has ls 5 [(0, .ref (G.2.1 45)), (1, .int x1), (2, .int x2), (3, .int x3)] → f_X10_gives_J43 p0 I x1 x2 x3 = some (res, J) → W p l e { frames := 0, cells := 0, slots := 0, locals := 0 } s m args below meth c H locs 0 0 (MQ below (Qi9 G res J s.heap.size) args s 0 0 (AA G s.heap.size)) (F0 m 43 ls []) := by
  intro I x1 x2 x3  H locs ls hH hl hf
  have hf : (f_X10_gives_J44 p0 I x1 x2 x3 (0 : Int32)) = _ := hf
  refine lv_iconst (v := (0 : Int32)) C.1 C.2.1 dX10_gives_43 (by decide) ?_
  exact w_X10_gives_J44 p0 C hr I x1 x2 x3 (0 : Int32) _ _ _ hH (lv_sub hl [0, 1, 2, 3] rfl) hf
def f_X10_gives_J39 (p0 : Int32)  (I : Mem) (x1 : Int32) (x2 : Int32) (x3 : Int32) : Option (Int32 × Mem) := f_X10_gives_J44 p0 I x1 x2 x3 (1 : Int32)
set_option maxHeartbeats 4000000 in
set_option maxRecDepth 100000 in
theorem w_X10_gives_J39 {p : Program} {l : Launch} {e : Env} {s : State} {m : MethodId} {args : Array Value} {below : List Frame} {meth : Method} {c : Code} {G : Gx} (p0 : Int32) {res : Int32} {J : Mem} (C : CX p l s m args meth c cX10_gives 5 yX10_gives.cls G) (hr : meth.sig.returnType = (some .int)) :
    ∀ (I : Mem) (x1 : Int32) (x2 : Int32) (x3 : Int32) (H : Heap) (locs : List Loc) (ls : Array Slot), HW G s H locs I → lv_has ls 5 [(0, .ref (G.2.1 45)), (1, .int x1), (2, .int x2), (3, .int x3)] → f_X10_gives_J39 p0 I x1 x2 x3 = some (res, J) → W p l e { frames := 0, cells := 0, slots := 0, locals := 0 } s m args below meth c H locs 0 0 (MQ below (Qi9 G res J s.heap.size) args s 0 0 (AA G s.heap.size)) (F0 m 39 ls []) := by
  intro I x1 x2 x3  H locs ls hH hl hf
  have hf : (f_X10_gives_J44 p0 I x1 x2 x3 (1 : Int32)) = _ := hf
  refine lv_iconst (v := (1 : Int32)) C.1 C.2.1 dX10_gives_39 (by decide) ?_
  refine lv_goto (tgt := 44) C.1 C.2.1 dX10_gives_40 (by decide) ?_
  exact w_X10_gives_J44 p0 C hr I x1 x2 x3 (1 : Int32) _ _ _ hH (lv_sub hl [0, 1, 2, 3] rfl) hf
def f_X10_gives_J28 (p0 : Int32)  (I : Mem) (x1 : Int32) (x2 : Int32) (x3 : Int32) : Option (Int32 × Mem) := if 0 ≤ x2 then (f_X10_gives_J43 p0 I x1 x2 x3) else (if (I 45 5) = 0 then (f_X10_gives_J39 p0 I x1 x2 x3) else (f_X10_gives_J43 p0 I x1 x2 x3))
set_option maxHeartbeats 4000000 in
set_option maxRecDepth 100000 in
theorem w_X10_gives_J28 {p : Program} {l : Launch} {e : Env} {s : State} {m : MethodId} {args : Array Value} {below : List Frame} {meth : Method} {c : Code} {G : Gx} (p0 : Int32) {res : Int32} {J : Mem} (C : CX p l s m args meth c cX10_gives 5 yX10_gives.cls G) (hr : meth.sig.returnType = (some .int)) :
    ∀ (I : Mem) (x1 : Int32) (x2 : Int32) (x3 : Int32) (H : Heap) (locs : List Loc) (ls : Array Slot), HW G s H locs I → lv_has ls 5 [(0, .ref (G.2.1 45)), (1, .int x1), (2, .int x2), (3, .int x3)] → f_X10_gives_J28 p0 I x1 x2 x3 = some (res, J) → W p l e { frames := 0, cells := 0, slots := 0, locals := 0 } s m args below meth c H locs 0 0 (MQ below (Qi9 G res J s.heap.size) args s 0 0 (AA G s.heap.size)) (F0 m 28 ls []) := by
  intro I x1 x2 x3  H locs ls hH hl hf
  have hf : (if 0 ≤ x2 then (f_X10_gives_J43 p0 I x1 x2 x3) else (if (I 45 5) = 0 then (f_X10_gives_J39 p0 I x1 x2 x3) else (f_X10_gives_J43 p0 I x1 x2 x3))) = _ := hf
  refine lv_iload_n C.1 C.2.1 dX10_gives_28 rfl (lv_at hl 2 rfl) ?_
  refine lv_if_ge (tgt := 43) C.1 C.2.1 dX10_gives_29 (by decide) (fun q7 => ?_) (fun q7 => ?_)
  · have hf := (if_pos q7).symm.trans hf
    exact w_X10_gives_J43 p0 C hr I x1 x2 x3 _ _ _ hH (lv_sub hl [0, 1, 2, 3] rfl) hf
  · have hf := (if_neg q7).symm.trans hf
    refine lv_aload_n C.1 C.2.1 dX10_gives_32 rfl (lv_at hl 0 rfl) ?_
    refine g_X10_5 C hH kk_45 tw_819 dX10_gives_33 ?_
    refine lv_if_ne (tgt := 43) C.1 C.2.1 dX10_gives_36 (by decide) (fun q6 => ?_) (fun q6 => ?_)
    · have hf := (if_neg q6).symm.trans hf
      exact w_X10_gives_J43 p0 C hr I x1 x2 x3 _ _ _ hH (lv_sub hl [0, 1, 2, 3] rfl) hf
    · have hf := (if_pos q6).symm.trans hf
      exact w_X10_gives_J39 p0 C hr I x1 x2 x3 _ _ _ hH (lv_sub hl [0, 1, 2, 3] rfl) hf
def f_X10_gives (I : Mem) (p0 : Int32) : Option (Int32 × Mem) := if inb p0 (ln 54) = true then (if inb p0 (ln 55) = true then (if (I 54 p0.toNatClampNeg) < 0 then (f_X10_gives_J28 p0 I p0 (I 54 p0.toNatClampNeg) (I 55 p0.toNatClampNeg)) else (if inb (I 54 p0.toNatClampNeg) (ln 47) = true then (if (I 47 (I 54 p0.toNatClampNeg).toNatClampNeg) = (4 : Int32) then (f_X10_gives_J39 p0 I p0 (I 54 p0.toNatClampNeg) (I 55 p0.toNatClampNeg)) else (f_X10_gives_J28 p0 I p0 (I 54 p0.toNatClampNeg) (I 55 p0.toNatClampNeg))) else none)) else none) else none
set_option maxHeartbeats 4000000 in
set_option maxRecDepth 100000 in
theorem c_X10_gives (l : Launch) (G : Gx) (I : Mem) (p0 : Int32) {res : Int32} {J : Mem} (hf : f_X10_gives I p0 = some (res, J)) : Mi l yX10_gives (.code yX10_gives cX10_gives 5 (some .int)) 0 0 G I [.ref (G.2.1 45), .int p0] res J := by
  refine Mi.of (by decide +kernel) (Nat.le_of_ble_eq_true rfl) (fun p e s m below meth c ls C hr hH hl => ?_)
  have hl : lv_has ls 5 [(0, .ref (G.2.1 45)), (1, .int p0)] := hl
  have hf : (if inb p0 (ln 54) = true then (if inb p0 (ln 55) = true then (if (I 54 p0.toNatClampNeg) < 0 then (f_X10_gives_J28 p0 I p0 (I 54 p0.toNatClampNeg) (I 55 p0.toNatClampNeg)) else (if inb (I 54 p0.toNatClampNeg) (ln 47) = true then (if (I 47 (I 54 p0.toNatClampNeg).toNatClampNeg) = (4 : Int32) then (f_X10_gives_J39 p0 I p0 (I 54 p0.toNatClampNeg) (I 55 p0.toNatClampNeg)) else (f_X10_gives_J28 p0 I p0 (I 54 p0.toNatClampNeg) (I 55 p0.toNatClampNeg))) else none)) else none) else none) = _ := hf
  refine lv_aload_n C.1 C.2.1 dX10_gives_0 rfl (lv_at hl 0 rfl) ?_
  refine g_X10_18 C hH kk_45 tw_832 dX10_gives_1 ?_
  refine lv_iload_n C.1 C.2.1 dX10_gives_4 rfl (lv_at hl 1 rfl) ?_
  obtain ⟨q1, hf⟩ := itn hf
  refine x_iald C hH kk_54 q1 dX10_gives_5 ?_
  refine lv_istore_n (lv' := [(2, .int (I 54 p0.toNatClampNeg)), (0, .ref (G.2.1 45)), (1, .int p0)]) C.1 C.2.1 dX10_gives_6 rfl hl (by decide) rfl (fun ls hl => ?_)
  refine lv_aload_n C.1 C.2.1 dX10_gives_7 rfl (lv_at hl 1 rfl) ?_
  refine g_X10_19 C hH kk_45 tw_833 dX10_gives_8 ?_
  refine lv_iload_n C.1 C.2.1 dX10_gives_11 rfl (lv_at hl 2 rfl) ?_
  obtain ⟨q2, hf⟩ := itn hf
  refine x_iald C hH kk_55 q2 dX10_gives_12 ?_
  refine lv_istore_n (lv' := [(3, .int (I 55 p0.toNatClampNeg)), (2, .int (I 54 p0.toNatClampNeg)), (0, .ref (G.2.1 45)), (1, .int p0)]) C.1 C.2.1 dX10_gives_13 rfl hl (by decide) rfl (fun ls hl => ?_)
  refine lv_iload_n C.1 C.2.1 dX10_gives_14 rfl (lv_at hl 1 rfl) ?_
  refine lv_if_lt (tgt := 28) C.1 C.2.1 dX10_gives_15 (by decide) (fun q5 => ?_) (fun q5 => ?_)
  · have hf := (if_pos q5).symm.trans hf
    exact w_X10_gives_J28 p0 C hr I p0 (I 54 p0.toNatClampNeg) (I 55 p0.toNatClampNeg) _ _ _ hH (lv_sub hl [2, 3, 1, 0] rfl) hf
  · have hf := (if_neg q5).symm.trans hf
    refine lv_aload_n C.1 C.2.1 dX10_gives_18 rfl (lv_at hl 2 rfl) ?_
    refine g_X10_10 C hH kk_45 tw_824 dX10_gives_19 ?_
    refine lv_iload_n C.1 C.2.1 dX10_gives_22 rfl (lv_at hl 1 rfl) ?_
    obtain ⟨q3, hf⟩ := itn hf
    refine x_iald C hH kk_47 q3 dX10_gives_23 ?_
    refine lv_iconst (v := (4 : Int32)) C.1 C.2.1 dX10_gives_24 (by decide) ?_
    refine lv_icmp_eq (tgt := 39) C.1 C.2.1 dX10_gives_25 (by decide) (fun q4 => ?_) (fun q4 => ?_)
    · have hf := (if_pos q4).symm.trans hf
      exact w_X10_gives_J39 p0 C hr I p0 (I 54 p0.toNatClampNeg) (I 55 p0.toNatClampNeg) _ _ _ hH (lv_sub hl [2, 3, 1, 0] rfl) hf
    · have hf := (if_neg q4).symm.trans hf
      exact w_X10_gives_J28 p0 C hr I p0 (I 54 p0.toNatClampNeg) (I 55 p0.toNatClampNeg) _ _ _ hH (lv_sub hl [2, 3, 1, 0] rfl) hf
def f_X10_giveOne (I : Mem)  : Option Mem := if inb ((I 45 17) - (1 : Int32)) (ln 54) = true then (if inb ((I 45 17) - (1 : Int32)) (ln 56) = true then (if (I 56 ((I 45 17) - (1 : Int32)).toNatClampNeg) = 0 then (some (st I 45 17 ((I 45 17) - (1 : Int32)))) else ((f_X10_wants I ((I 54 ((I 45 17) - (1 : Int32)).toNatClampNeg) + (1 : Int32))).bind fun q3 => (if (b2i q3.1) = 0 then (some (st q3.2 45 17 ((q3.2 45 17) - (1 : Int32)))) else (if (q3.2 45 21) = (600 : Int32) then (some (st q3.2 45 22 (1 : Int32))) else ((f_X10_gives (st q3.2 45 21 ((q3.2 45 21) + (1 : Int32))) ((I 45 17) - (1 : Int32))).bind fun q4 => ((f_X10_goesOn q4.2 ((I 54 ((I 45 17) - (1 : Int32)).toNatClampNeg) + (1 : Int32)) q4.1).bind fun q5 => (some q5))))))) else none) else none
set_option maxHeartbeats 4000000 in
set_option maxRecDepth 100000 in
theorem c_X10_giveOne (l : Launch) (G : Gx) (I : Mem) {J : Mem} (hf : f_X10_giveOne I = some J) : Mv l yX10_giveOne (.code yX10_giveOne cX10_giveOne 4 none) 4 90 G I [.ref (G.2.1 45)] J := by
  refine Mv.of (by decide +kernel) (Nat.le_of_ble_eq_true rfl) (fun p e s m below meth c ls C hr hH hl => ?_)
  have hl : lv_has ls 4 [(0, .ref (G.2.1 45))] := hl
  have hf : (if inb ((I 45 17) - (1 : Int32)) (ln 54) = true then (if inb ((I 45 17) - (1 : Int32)) (ln 56) = true then (if (I 56 ((I 45 17) - (1 : Int32)).toNatClampNeg) = 0 then (some (st I 45 17 ((I 45 17) - (1 : Int32)))) else ((f_X10_wants I ((I 54 ((I 45 17) - (1 : Int32)).toNatClampNeg) + (1 : Int32))).bind fun q3 => (if (b2i q3.1) = 0 then (some (st q3.2 45 17 ((q3.2 45 17) - (1 : Int32)))) else (if (q3.2 45 21) = (600 : Int32) then (some (st q3.2 45 22 (1 : Int32))) else ((f_X10_gives (st q3.2 45 21 ((q3.2 45 21) + (1 : Int32))) ((I 45 17) - (1 : Int32))).bind fun q4 => ((f_X10_goesOn q4.2 ((I 54 ((I 45 17) - (1 : Int32)).toNatClampNeg) + (1 : Int32)) q4.1).bind fun q5 => (some q5))))))) else none) else none) = _ := hf
  refine lv_aload_n C.1 C.2.1 dX10_giveOne_0 rfl (lv_at hl 0 rfl) ?_
  refine g_X10_17 C hH kk_45 tw_831 dX10_giveOne_1 ?_
  refine lv_iconst (v := (1 : Int32)) C.1 C.2.1 dX10_giveOne_4 (by decide) ?_
  refine lv_isub C.1 C.2.1 dX10_giveOne_5 ?_
  refine lv_istore_n (lv' := [(1, .int ((I 45 17) - (1 : Int32))), (0, .ref (G.2.1 45))]) C.1 C.2.1 dX10_giveOne_6 rfl hl (by decide) rfl (fun ls hl => ?_)
  refine lv_aload_n C.1 C.2.1 dX10_giveOne_7 rfl (lv_at hl 1 rfl) ?_
  refine g_X10_18 C hH kk_45 tw_832 dX10_giveOne_8 ?_
  refine lv_iload_n C.1 C.2.1 dX10_giveOne_11 rfl (lv_at hl 0 rfl) ?_
  obtain ⟨q1, hf⟩ := itn hf
  refine x_iald C hH kk_54 q1 dX10_giveOne_12 ?_
  refine lv_istore_n (lv' := [(2, .int (I 54 ((I 45 17) - (1 : Int32)).toNatClampNeg)), (1, .int ((I 45 17) - (1 : Int32))), (0, .ref (G.2.1 45))]) C.1 C.2.1 dX10_giveOne_13 rfl hl (by decide) rfl (fun ls hl => ?_)
  refine lv_aload_n C.1 C.2.1 dX10_giveOne_14 rfl (lv_at hl 2 rfl) ?_
  refine g_X10_20 C hH kk_45 tw_834 dX10_giveOne_15 ?_
  refine lv_iload_n C.1 C.2.1 dX10_giveOne_18 rfl (lv_at hl 1 rfl) ?_
  obtain ⟨q2, hf⟩ := itn hf
  refine x_iald C hH kk_56 q2 dX10_giveOne_19 ?_
  refine lv_if_eq (tgt := 33) C.1 C.2.1 dX10_giveOne_20 (by decide) (fun q8 => ?_) (fun q8 => ?_)
  · have hf := (if_pos q8).symm.trans hf
    refine lv_aload_n C.1 C.2.1 dX10_giveOne_33 rfl (lv_at hl 2 rfl) ?_
    refine lv_dup C.1 C.2.1 dX10_giveOne_34 rfl ?_
    refine g_X10_17 C hH kk_45 tw_831 dX10_giveOne_35 ?_
    refine lv_iconst (v := (1 : Int32)) C.1 C.2.1 dX10_giveOne_38 (by decide) ?_
    refine lv_isub C.1 C.2.1 dX10_giveOne_39 ?_
    refine p_X10_17 C hH kk_45  tw_831 dX10_giveOne_40 (fun H locs hH => ?_)
    cases hf
    exact x_vret C hr hH dX10_giveOne_43
  · have hf := (if_neg q8).symm.trans hf
    refine lv_aload_n C.1 C.2.1 dX10_giveOne_23 rfl (lv_at hl 2 rfl) ?_
    refine lv_iload_n C.1 C.2.1 dX10_giveOne_24 rfl (lv_at hl 0 rfl) ?_
    refine lv_iconst (v := (1 : Int32)) C.1 C.2.1 dX10_giveOne_25 (by decide) ?_
    refine lv_iadd C.1 C.2.1 dX10_giveOne_26 ?_
    obtain ⟨q3, hc, hf⟩ := Option.bind_eq_some_iff.mp hf
    refine x_ci (n := 1) C hH (c_X10_wants l G I ((I 54 ((I 45 17) - (1 : Int32)).toNatClampNeg) + (1 : Int32)) hc) (kd_lt kk_45 (by decide)) (cE_10 kk_45) rfl tw_1002 tw_999 tw_1001 tw_28 tw_57 (by decide +kernel) ⟨Nat.le_of_ble_eq_true rfl, Nat.le_of_ble_eq_true rfl⟩ rfl hl.1 rfl (Nat.le_of_ble_eq_true rfl) ⟨Nat.le_of_ble_eq_true rfl, Nat.le_of_ble_eq_true rfl⟩ dX10_giveOne_27 (fun H locs hH => ?_)
    refine lv_if_ne (tgt := 44) C.1 C.2.1 dX10_giveOne_30 (by decide) (fun q7 => ?_) (fun q7 => ?_)
    · have hf := (if_neg q7).symm.trans hf
      refine lv_aload_n C.1 C.2.1 dX10_giveOne_44 rfl (lv_at hl 2 rfl) ?_
      refine g_X10_21 C hH kk_45 tw_835 dX10_giveOne_45 ?_
      refine lv_sipush (v := (600 : Int32)) C.1 C.2.1 dX10_giveOne_48 (by decide) ?_
      refine lv_icmp_ne (tgt := 60) C.1 C.2.1 dX10_giveOne_51 (by decide) (fun q6 => ?_) (fun q6 => ?_)
      · have hf := (if_neg q6).symm.trans hf
        refine lv_aload_n C.1 C.2.1 dX10_giveOne_60 rfl (lv_at hl 2 rfl) ?_
        refine lv_dup C.1 C.2.1 dX10_giveOne_61 rfl ?_
        refine g_X10_21 C hH kk_45 tw_835 dX10_giveOne_62 ?_
        refine lv_iconst (v := (1 : Int32)) C.1 C.2.1 dX10_giveOne_65 (by decide) ?_
        refine lv_iadd C.1 C.2.1 dX10_giveOne_66 ?_
        refine p_X10_21 C hH kk_45  tw_835 dX10_giveOne_67 (fun H locs hH => ?_)
        refine lv_aload_n C.1 C.2.1 dX10_giveOne_70 rfl (lv_at hl 2 rfl) ?_
        refine lv_iload_n C.1 C.2.1 dX10_giveOne_71 rfl (lv_at hl 1 rfl) ?_
        obtain ⟨q4, hc, hf⟩ := Option.bind_eq_some_iff.mp hf
        refine x_ci (n := 1) C hH (c_X10_gives l G (st q3.2 45 21 ((q3.2 45 21) + (1 : Int32))) ((I 45 17) - (1 : Int32)) hc) (kd_lt kk_45 (by decide)) (cE_10 kk_45) rfl tw_1006 tw_1003 tw_1005 tw_29 tw_57 (by decide +kernel) ⟨Nat.le_of_ble_eq_true rfl, Nat.le_of_ble_eq_true rfl⟩ rfl hl.1 rfl (Nat.le_of_ble_eq_true rfl) ⟨Nat.le_of_ble_eq_true rfl, Nat.le_of_ble_eq_true rfl⟩ dX10_giveOne_72 (fun H locs hH => ?_)
        refine lv_istore_n (lv' := [(3, .int q4.1), (2, .int (I 54 ((I 45 17) - (1 : Int32)).toNatClampNeg)), (1, .int ((I 45 17) - (1 : Int32))), (0, .ref (G.2.1 45))]) C.1 C.2.1 dX10_giveOne_75 rfl hl (by decide) rfl (fun ls hl => ?_)
        refine lv_aload_n C.1 C.2.1 dX10_giveOne_76 rfl (lv_at hl 3 rfl) ?_
        refine lv_iload_n C.1 C.2.1 dX10_giveOne_77 rfl (lv_at hl 1 rfl) ?_
        refine lv_iconst (v := (1 : Int32)) C.1 C.2.1 dX10_giveOne_78 (by decide) ?_
        refine lv_iadd C.1 C.2.1 dX10_giveOne_79 ?_
        refine lv_iload_n C.1 C.2.1 dX10_giveOne_80 rfl (lv_at hl 0 rfl) ?_
        obtain ⟨q5, hc, hf⟩ := Option.bind_eq_some_iff.mp hf
        refine x_cv (n := 2) C hH (c_X10_goesOn l G q4.2 ((I 54 ((I 45 17) - (1 : Int32)).toNatClampNeg) + (1 : Int32)) q4.1 hc) (kd_lt kk_45 (by decide)) (cE_10 kk_45) rfl tw_1010 tw_1007 tw_1009 tw_30 tw_57 (by decide +kernel) ⟨Nat.le_of_ble_eq_true rfl, Nat.le_of_ble_eq_true rfl⟩ rfl hl.1 rfl (Nat.le_of_ble_eq_true rfl) ⟨Nat.le_of_ble_eq_true rfl, Nat.le_of_ble_eq_true rfl⟩ dX10_giveOne_81 (fun H locs hH => ?_)
        cases hf
        exact x_vret C hr hH dX10_giveOne_84
      · have hf := (if_pos q6).symm.trans hf
        refine lv_aload_n C.1 C.2.1 dX10_giveOne_54 rfl (lv_at hl 2 rfl) ?_
        refine lv_iconst (v := (1 : Int32)) C.1 C.2.1 dX10_giveOne_55 (by decide) ?_
        refine p_X10_22 C hH kk_45 ⟨rfl, rfl⟩ tw_836 dX10_giveOne_56 (fun H locs hH => ?_)
        cases hf
        exact x_vret C hr hH dX10_giveOne_59
    · have hf := (if_pos q7).symm.trans hf
      refine lv_aload_n C.1 C.2.1 dX10_giveOne_33 rfl (lv_at hl 2 rfl) ?_
      refine lv_dup C.1 C.2.1 dX10_giveOne_34 rfl ?_
      refine g_X10_17 C hH kk_45 tw_831 dX10_giveOne_35 ?_
      refine lv_iconst (v := (1 : Int32)) C.1 C.2.1 dX10_giveOne_38 (by decide) ?_
      refine lv_isub C.1 C.2.1 dX10_giveOne_39 ?_
      refine p_X10_17 C hH kk_45  tw_831 dX10_giveOne_40 (fun H locs hH => ?_)
      cases hf
      exact x_vret C hr hH dX10_giveOne_43
def f_X10_flow_J79  (K57 : Mem → Int32 → Option Mem) (I : Mem) (x1 : Int32) : Option Mem := if (I 45 17) ≤ 0 then (if inb x1 (ln 47) = true then (if (I 47 x1.toNatClampNeg) = (4 : Int32) then (if inb x1 (ln 52) = true then (if inb x1 (ln 51) = true then ((f_X10_begin (st I 52 x1.toNatClampNeg (vp_nar .boolean (1 : Int32))) x1 (0 : Int32) ((st I 52 x1.toNatClampNeg (vp_nar .boolean (1 : Int32))) 51 x1.toNatClampNeg)).bind fun q13 => (K57 q13 (x1 + (1 : Int32)))) else none) else none) else (K57 I (x1 + (1 : Int32)))) else none) else ((f_X10_giveOne I).bind fun q15 => (K57 q15 x1))
set_option maxHeartbeats 4000000 in
set_option maxRecDepth 100000 in
theorem w_X10_flow_J79 {p : Program} {l : Launch} {e : Env} {s : State} {m : MethodId} {args : Array Value} {below : List Frame} {meth : Method} {c : Code} {G : Gx} {K57 : Mem → Int32 → Option Mem} {J : Mem} (C : CX p l s m args meth c cX10_flow 2 yX10_flow.cls G) (hr : meth.sig.returnType = none) (hK57 : ∀ (I : Mem) (x1 : Int32) (H : Heap) (locs : List Loc) (ls : Array Slot), HW G s H locs I → lv_has ls 2 [(0, .ref (G.2.1 45)), (1, .int x1)] → K57 I x1 = some J → W p l e { frames := 5, cells := 0, slots := 0, locals := 113 } s m args below meth c H locs 0 0 (MQ below (Qv9 G J s.heap.size) args s 0 0 (AA G s.heap.size)) (F0 m 57 ls [])) :
    ∀ (I : Mem) (x1 : Int32) (H : Heap) (locs : List Loc) (ls : Array Slot), HW G s H locs I → lv_has ls 2 [(0, .ref (G.2.1 45)), (1, .int x1)] → f_X10_flow_J79 K57 I x1 = some J → W p l e { frames := 5, cells := 0, slots := 0, locals := 113 } s m args below meth c H locs 0 0 (MQ below (Qv9 G J s.heap.size) args s 0 0 (AA G s.heap.size)) (F0 m 79 ls []) := by
  intro I x1  H locs ls hH hl hf
  have hf : (if (I 45 17) ≤ 0 then (if inb x1 (ln 47) = true then (if (I 47 x1.toNatClampNeg) = (4 : Int32) then (if inb x1 (ln 52) = true then (if inb x1 (ln 51) = true then ((f_X10_begin (st I 52 x1.toNatClampNeg (vp_nar .boolean (1 : Int32))) x1 (0 : Int32) ((st I 52 x1.toNatClampNeg (vp_nar .boolean (1 : Int32))) 51 x1.toNatClampNeg)).bind fun q13 => (K57 q13 (x1 + (1 : Int32)))) else none) else none) else (K57 I (x1 + (1 : Int32)))) else none) else ((f_X10_giveOne I).bind fun q15 => (K57 q15 x1))) = _ := hf
  refine lv_aload_n C.1 C.2.1 dX10_flow_79 rfl (lv_at hl 0 rfl) ?_
  refine g_X10_17 C hH kk_45 tw_831 dX10_flow_80 ?_
  refine lv_if_le (tgt := 93) C.1 C.2.1 dX10_flow_83 (by decide) (fun q16 => ?_) (fun q16 => ?_)
  · have hf := (if_pos q16).symm.trans hf
    refine lv_aload_n C.1 C.2.1 dX10_flow_93 rfl (lv_at hl 0 rfl) ?_
    refine g_X10_10 C hH kk_45 tw_824 dX10_flow_94 ?_
    refine lv_iload_n C.1 C.2.1 dX10_flow_97 rfl (lv_at hl 1 rfl) ?_
    obtain ⟨q10, hf⟩ := itn hf
    refine x_iald C hH kk_47 q10 dX10_flow_98 ?_
    refine lv_iconst (v := (4 : Int32)) C.1 C.2.1 dX10_flow_99 (by decide) ?_
    refine lv_icmp_ne (tgt := 122) C.1 C.2.1 dX10_flow_100 (by decide) (fun q14 => ?_) (fun q14 => ?_)
    · have hf := (if_neg q14).symm.trans hf
      refine lv_iinc (v := (x1 + (1 : Int32))) (lv' := [(1, .int (x1 + (1 : Int32))), (0, .ref (G.2.1 45))]) C.1 C.2.1 dX10_flow_122 hl (k := 1) rfl rfl (by decide) rfl (fun ls hl => ?_)
      refine lv_goto (tgt := 57) C.1 C.2.1 dX10_flow_125 (by decide) ?_
      exact hK57 I (x1 + (1 : Int32))  _ _ _ hH (lv_sub hl [1, 0] rfl) hf
    · have hf := (if_pos q14).symm.trans hf
      refine lv_aload_n C.1 C.2.1 dX10_flow_103 rfl (lv_at hl 0 rfl) ?_
      refine g_X10_15 C hH kk_45 tw_829 dX10_flow_104 ?_
      refine lv_iload_n C.1 C.2.1 dX10_flow_107 rfl (lv_at hl 1 rfl) ?_
      refine lv_iconst (v := (1 : Int32)) C.1 C.2.1 dX10_flow_108 (by decide) ?_
      obtain ⟨q11, hf⟩ := itn hf
      refine x_zast C hH kk_52 q11 dX10_flow_109 (fun H locs hH => ?_)
      refine lv_aload_n C.1 C.2.1 dX10_flow_110 rfl (lv_at hl 0 rfl) ?_
      refine lv_iload_n C.1 C.2.1 dX10_flow_111 rfl (lv_at hl 1 rfl) ?_
      refine lv_iconst (v := (0 : Int32)) C.1 C.2.1 dX10_flow_112 (by decide) ?_
      refine lv_aload_n C.1 C.2.1 dX10_flow_113 rfl (lv_at hl 0 rfl) ?_
      refine g_X10_14 C hH kk_45 tw_828 dX10_flow_114 ?_
      refine lv_iload_n C.1 C.2.1 dX10_flow_117 rfl (lv_at hl 1 rfl) ?_
      obtain ⟨q12, hf⟩ := itn hf
      refine x_iald C hH kk_51 q12 dX10_flow_118 ?_
      obtain ⟨q13, hc, hf⟩ := Option.bind_eq_some_iff.mp hf
      refine x_cv (n := 3) C hH (c_X10_begin l G (st I 52 x1.toNatClampNeg (vp_nar .boolean (1 : Int32))) x1 (0 : Int32) ((st I 52 x1.toNatClampNeg (vp_nar .boolean (1 : Int32))) 51 x1.toNatClampNeg) hc) (kd_lt kk_45 (by decide)) (cE_10 kk_45) rfl tw_994 tw_991 tw_993 tw_26 tw_57 (by decide +kernel) ⟨Nat.le_of_ble_eq_true rfl, Nat.le_of_ble_eq_true rfl⟩ rfl hl.1 rfl (Nat.le_of_ble_eq_true rfl) ⟨Nat.le_of_ble_eq_true rfl, Nat.le_of_ble_eq_true rfl⟩ dX10_flow_119 (fun H locs hH => ?_)
      refine lv_iinc (v := (x1 + (1 : Int32))) (lv' := [(1, .int (x1 + (1 : Int32))), (0, .ref (G.2.1 45))]) C.1 C.2.1 dX10_flow_122 hl (k := 1) rfl rfl (by decide) rfl (fun ls hl => ?_)
      refine lv_goto (tgt := 57) C.1 C.2.1 dX10_flow_125 (by decide) ?_
      exact hK57 q13 (x1 + (1 : Int32))  _ _ _ hH (lv_sub hl [1, 0] rfl) hf
  · have hf := (if_neg q16).symm.trans hf
    refine lv_aload_n C.1 C.2.1 dX10_flow_86 rfl (lv_at hl 0 rfl) ?_
    obtain ⟨q15, hc, hf⟩ := Option.bind_eq_some_iff.mp hf
    refine x_cv (n := 0) C hH (c_X10_giveOne l G I  hc) (kd_lt kk_45 (by decide)) (cE_10 kk_45) rfl tw_998 tw_995 tw_997 tw_27 tw_57 (by decide +kernel) ⟨Nat.le_of_ble_eq_true rfl, Nat.le_of_ble_eq_true rfl⟩ rfl hl.1 rfl (Nat.le_of_ble_eq_true rfl) ⟨Nat.le_of_ble_eq_true rfl, Nat.le_of_ble_eq_true rfl⟩ dX10_flow_87 (fun H locs hH => ?_)
    refine lv_goto (tgt := 57) C.1 C.2.1 dX10_flow_90 (by decide) ?_
    exact hK57 q15 x1  _ _ _ hH (lv_sub hl [0, 1] rfl) hf
def f_X10_flow_L57   : Nat → Mem → Int32 → Option Mem
  | 0, _, _ => none
  | n + 1, I, x1 => if (I 45 22) = 0 then (if 0 < (I 45 17) then (f_X10_flow_J79 (f_X10_flow_L57 n) I x1) else (if (I 45 9) ≤ x1 then (some I) else (f_X10_flow_J79 (f_X10_flow_L57 n) I x1))) else (some I)
set_option maxHeartbeats 4000000 in
set_option maxRecDepth 100000 in
theorem w_X10_flow_L57 {p : Program} {l : Launch} {e : Env} {s : State} {m : MethodId} {args : Array Value} {below : List Frame} {meth : Method} {c : Code} {G : Gx} {J : Mem} (C : CX p l s m args meth c cX10_flow 2 yX10_flow.cls G) (hr : meth.sig.returnType = none) :
    ∀ (n : Nat) (I : Mem) (x1 : Int32) (H : Heap) (locs : List Loc) (ls : Array Slot), HW G s H locs I → lv_has ls 2 [(0, .ref (G.2.1 45)), (1, .int x1)] → f_X10_flow_L57 n I x1 = some J → W p l e { frames := 5, cells := 0, slots := 0, locals := 113 } s m args below meth c H locs 0 0 (MQ below (Qv9 G J s.heap.size) args s 0 0 (AA G s.heap.size)) (F0 m 57 ls []) := by
  intro n
  induction n with
  | zero => intro I x1  H locs ls hH hl hf; exact absurd hf (by simp [f_X10_flow_L57])
  | succ n ih =>
    intro I x1  H locs ls hH hl hf
    have hf : (if (I 45 22) = 0 then (if 0 < (I 45 17) then (f_X10_flow_J79 (f_X10_flow_L57 n) I x1) else (if (I 45 9) ≤ x1 then (some I) else (f_X10_flow_J79 (f_X10_flow_L57 n) I x1))) else (some I)) = _ := hf
    refine lv_aload_n C.1 C.2.1 dX10_flow_57 rfl (lv_at hl 0 rfl) ?_
    refine g_X10_22 C hH kk_45 tw_836 dX10_flow_58 ?_
    refine lv_if_ne (tgt := 128) C.1 C.2.1 dX10_flow_61 (by decide) (fun q9 => ?_) (fun q9 => ?_)
    · have hf := (if_neg q9).symm.trans hf
      cases hf
      exact x_vret C hr hH dX10_flow_128
    · have hf := (if_pos q9).symm.trans hf
      refine lv_aload_n C.1 C.2.1 dX10_flow_64 rfl (lv_at hl 0 rfl) ?_
      refine g_X10_17 C hH kk_45 tw_831 dX10_flow_65 ?_
      refine lv_if_gt (tgt := 79) C.1 C.2.1 dX10_flow_68 (by decide) (fun q8 => ?_) (fun q8 => ?_)
      · have hf := (if_pos q8).symm.trans hf
        exact w_X10_flow_J79 C hr ih I x1 _ _ _ hH (lv_sub hl [0, 1] rfl) hf
      · have hf := (if_neg q8).symm.trans hf
        refine lv_iload_n C.1 C.2.1 dX10_flow_71 rfl (lv_at hl 1 rfl) ?_
        refine lv_aload_n C.1 C.2.1 dX10_flow_72 rfl (lv_at hl 0 rfl) ?_
        refine g_X10_9 C hH kk_45 tw_823 dX10_flow_73 ?_
        refine lv_icmp_ge (tgt := 128) C.1 C.2.1 dX10_flow_76 (by decide) (fun q7 => ?_) (fun q7 => ?_)
        · have hf := (if_pos q7).symm.trans hf
          cases hf
          exact x_vret C hr hH dX10_flow_128
        · have hf := (if_neg q7).symm.trans hf
          exact w_X10_flow_J79 C hr ih I x1 _ _ _ hH (lv_sub hl [0, 1] rfl) hf
def f_X10_flow_J22   (I : Mem) (y0 : Int32) (y1 : Int32) : Option Mem := if (I 45 5) = 0 then ((f_X10_begin I y1 y0 (I 45 2)).bind fun q5 => (f_X10_flow_L57 FU q5 (0 : Int32))) else (if (I 45 5) = (1 : Int32) then ((f_X10_begin I y1 y0 (I 45 7)).bind fun q3 => (f_X10_flow_L57 FU q3 (0 : Int32))) else ((f_X10_begin I y1 y0 (-1 : Int32)).bind fun q2 => (f_X10_flow_L57 FU q2 (0 : Int32))))
set_option maxHeartbeats 4000000 in
set_option maxRecDepth 100000 in
theorem w_X10_flow_J22 {p : Program} {l : Launch} {e : Env} {s : State} {m : MethodId} {args : Array Value} {below : List Frame} {meth : Method} {c : Code} {G : Gx} {J : Mem} (C : CX p l s m args meth c cX10_flow 2 yX10_flow.cls G) (hr : meth.sig.returnType = none) :
    ∀ (I : Mem) (y0 : Int32) (y1 : Int32) (H : Heap) (locs : List Loc) (ls : Array Slot), HW G s H locs I → lv_has ls 2 [(0, .ref (G.2.1 45))] → f_X10_flow_J22 I y0 y1 = some J → W p l e { frames := 5, cells := 0, slots := 0, locals := 113 } s m args below meth c H locs 0 0 (MQ below (Qv9 G J s.heap.size) args s 0 0 (AA G s.heap.size)) (F0 m 22 ls [.int y0, .int y1, .ref (G.2.1 45)]) := by
  intro I y0 y1  H locs ls hH hl hf
  have hf : (if (I 45 5) = 0 then ((f_X10_begin I y1 y0 (I 45 2)).bind fun q5 => (f_X10_flow_L57 FU q5 (0 : Int32))) else (if (I 45 5) = (1 : Int32) then ((f_X10_begin I y1 y0 (I 45 7)).bind fun q3 => (f_X10_flow_L57 FU q3 (0 : Int32))) else ((f_X10_begin I y1 y0 (-1 : Int32)).bind fun q2 => (f_X10_flow_L57 FU q2 (0 : Int32))))) = _ := hf
  refine lv_aload_n C.1 C.2.1 dX10_flow_22 rfl (lv_at hl 0 rfl) ?_
  refine g_X10_5 C hH kk_45 tw_819 dX10_flow_23 ?_
  refine lv_if_ne (tgt := 36) C.1 C.2.1 dX10_flow_26 (by decide) (fun q6 => ?_) (fun q6 => ?_)
  · have hf := (if_neg q6).symm.trans hf
    refine lv_aload_n C.1 C.2.1 dX10_flow_36 rfl (lv_at hl 0 rfl) ?_
    refine g_X10_5 C hH kk_45 tw_819 dX10_flow_37 ?_
    refine lv_iconst (v := (1 : Int32)) C.1 C.2.1 dX10_flow_40 (by decide) ?_
    refine lv_icmp_ne (tgt := 51) C.1 C.2.1 dX10_flow_41 (by decide) (fun q4 => ?_) (fun q4 => ?_)
    · have hf := (if_neg q4).symm.trans hf
      refine lv_iconst (v := (-1 : Int32)) C.1 C.2.1 dX10_flow_51 (by decide) ?_
      obtain ⟨q2, hc, hf⟩ := Option.bind_eq_some_iff.mp hf
      refine x_cv (n := 3) C hH (c_X10_begin l G I y1 y0 (-1 : Int32) hc) (kd_lt kk_45 (by decide)) (cE_10 kk_45) rfl tw_994 tw_991 tw_993 tw_26 tw_57 (by decide +kernel) ⟨Nat.le_of_ble_eq_true rfl, Nat.le_of_ble_eq_true rfl⟩ rfl hl.1 rfl (Nat.le_of_ble_eq_true rfl) ⟨Nat.le_of_ble_eq_true rfl, Nat.le_of_ble_eq_true rfl⟩ dX10_flow_52 (fun H locs hH => ?_)
      refine lv_iconst (v := (0 : Int32)) C.1 C.2.1 dX10_flow_55 (by decide) ?_
      refine lv_istore_n (lv' := [(1, .int (0 : Int32)), (0, .ref (G.2.1 45))]) C.1 C.2.1 dX10_flow_56 rfl hl (by decide) rfl (fun ls hl => ?_)
      exact w_X10_flow_L57 C hr FU q2 (0 : Int32) _ _ _ hH (lv_sub hl [1, 0] rfl) hf
    · have hf := (if_pos q4).symm.trans hf
      refine lv_aload_n C.1 C.2.1 dX10_flow_44 rfl (lv_at hl 0 rfl) ?_
      refine g_X10_7 C hH kk_45 tw_821 dX10_flow_45 ?_
      refine lv_goto (tgt := 52) C.1 C.2.1 dX10_flow_48 (by decide) ?_
      obtain ⟨q3, hc, hf⟩ := Option.bind_eq_some_iff.mp hf
      refine x_cv (n := 3) C hH (c_X10_begin l G I y1 y0 (I 45 7) hc) (kd_lt kk_45 (by decide)) (cE_10 kk_45) rfl tw_994 tw_991 tw_993 tw_26 tw_57 (by decide +kernel) ⟨Nat.le_of_ble_eq_true rfl, Nat.le_of_ble_eq_true rfl⟩ rfl hl.1 rfl (Nat.le_of_ble_eq_true rfl) ⟨Nat.le_of_ble_eq_true rfl, Nat.le_of_ble_eq_true rfl⟩ dX10_flow_52 (fun H locs hH => ?_)
      refine lv_iconst (v := (0 : Int32)) C.1 C.2.1 dX10_flow_55 (by decide) ?_
      refine lv_istore_n (lv' := [(1, .int (0 : Int32)), (0, .ref (G.2.1 45))]) C.1 C.2.1 dX10_flow_56 rfl hl (by decide) rfl (fun ls hl => ?_)
      exact w_X10_flow_L57 C hr FU q3 (0 : Int32) _ _ _ hH (lv_sub hl [1, 0] rfl) hf
  · have hf := (if_pos q6).symm.trans hf
    refine lv_aload_n C.1 C.2.1 dX10_flow_29 rfl (lv_at hl 0 rfl) ?_
    refine g_X10_2 C hH kk_45 tw_816 dX10_flow_30 ?_
    refine lv_goto (tgt := 52) C.1 C.2.1 dX10_flow_33 (by decide) ?_
    obtain ⟨q5, hc, hf⟩ := Option.bind_eq_some_iff.mp hf
    refine x_cv (n := 3) C hH (c_X10_begin l G I y1 y0 (I 45 2) hc) (kd_lt kk_45 (by decide)) (cE_10 kk_45) rfl tw_994 tw_991 tw_993 tw_26 tw_57 (by decide +kernel) ⟨Nat.le_of_ble_eq_true rfl, Nat.le_of_ble_eq_true rfl⟩ rfl hl.1 rfl (Nat.le_of_ble_eq_true rfl) ⟨Nat.le_of_ble_eq_true rfl, Nat.le_of_ble_eq_true rfl⟩ dX10_flow_52 (fun H locs hH => ?_)
    refine lv_iconst (v := (0 : Int32)) C.1 C.2.1 dX10_flow_55 (by decide) ?_
    refine lv_istore_n (lv' := [(1, .int (0 : Int32)), (0, .ref (G.2.1 45))]) C.1 C.2.1 dX10_flow_56 rfl hl (by decide) rfl (fun ls hl => ?_)
    exact w_X10_flow_L57 C hr FU q5 (0 : Int32) _ _ _ hH (lv_sub hl [1, 0] rfl) hf
def f_X10_flow (I : Mem)  : Option Mem := if ((st I 45 17 (0 : Int32)) 45 5) = 0 then (f_X10_flow_J22 (st I 45 17 (0 : Int32)) (0 : Int32) (-1 : Int32)) else (f_X10_flow_J22 (st I 45 17 (0 : Int32)) ((st I 45 17 (0 : Int32)) 45 6) (-1 : Int32))
set_option maxHeartbeats 4000000 in
set_option maxRecDepth 100000 in
theorem c_X10_flow (l : Launch) (G : Gx) (I : Mem) {J : Mem} (hf : f_X10_flow I = some J) : Mv l yX10_flow (.code yX10_flow cX10_flow 2 none) 5 113 G I [.ref (G.2.1 45)] J := by
  refine Mv.of (by decide +kernel) (Nat.le_of_ble_eq_true rfl) (fun p e s m below meth c ls C hr hH hl => ?_)
  have hl : lv_has ls 2 [(0, .ref (G.2.1 45))] := hl
  have hf : (if ((st I 45 17 (0 : Int32)) 45 5) = 0 then (f_X10_flow_J22 (st I 45 17 (0 : Int32)) (0 : Int32) (-1 : Int32)) else (f_X10_flow_J22 (st I 45 17 (0 : Int32)) ((st I 45 17 (0 : Int32)) 45 6) (-1 : Int32))) = _ := hf
  refine lv_aload_n C.1 C.2.1 dX10_flow_0 rfl (lv_at hl 0 rfl) ?_
  refine lv_iconst (v := (0 : Int32)) C.1 C.2.1 dX10_flow_1 (by decide) ?_
  refine p_X10_17 C hH kk_45  tw_831 dX10_flow_2 (fun H locs hH => ?_)
  refine lv_aload_n C.1 C.2.1 dX10_flow_5 rfl (lv_at hl 0 rfl) ?_
  refine lv_iconst (v := (-1 : Int32)) C.1 C.2.1 dX10_flow_6 (by decide) ?_
  refine lv_aload_n C.1 C.2.1 dX10_flow_7 rfl (lv_at hl 0 rfl) ?_
  refine g_X10_5 C hH kk_45 tw_819 dX10_flow_8 ?_
  refine lv_if_ne (tgt := 18) C.1 C.2.1 dX10_flow_11 (by decide) (fun q1 => ?_) (fun q1 => ?_)
  · have hf := (if_neg q1).symm.trans hf
    refine lv_aload_n C.1 C.2.1 dX10_flow_18 rfl (lv_at hl 0 rfl) ?_
    refine g_X10_6 C hH kk_45 tw_820 dX10_flow_19 ?_
    exact w_X10_flow_J22 C hr (st I 45 17 (0 : Int32)) ((st I 45 17 (0 : Int32)) 45 6) (-1 : Int32) _ _ _ hH (lv_sub hl [0] rfl) hf
  · have hf := (if_pos q1).symm.trans hf
    refine lv_iconst (v := (0 : Int32)) C.1 C.2.1 dX10_flow_14 (by decide) ?_
    refine lv_goto (tgt := 22) C.1 C.2.1 dX10_flow_15 (by decide) ?_
    exact w_X10_flow_J22 C hr (st I 45 17 (0 : Int32)) (0 : Int32) (-1 : Int32) _ _ _ hH (lv_sub hl [0] rfl) hf
def f_X10_run (I : Mem) (p0 : Int32) (p1 : Int32) (p2 : Int32) : Option (Int32 × Mem) := if ((st I 45 0 (0 : Int32)) 45 3) = 0 then ((f_X10_refuse (st I 45 0 (0 : Int32)) (1 : Int32)).bind fun q1 => (some (q1.1, q1.2))) else (if ((st I 45 0 (0 : Int32)) 45 4) = 0 then ((f_X10_isEnd (st I 45 0 (0 : Int32)) p0 p1 p2).bind fun q2 => (if (b2i q2.1) = 0 then ((f_X10_refuse q2.2 (2 : Int32)).bind fun q6 => (some (q6.1, q6.2))) else ((f_X10_beginEnd q2.2 p0 p1 p2).bind fun q3 => ((f_X10_flow q3).bind fun q4 => ((f_X10_answer q4).bind fun q5 => (some (q5.1, q5.2))))))) else ((f_X10_refuse (st I 45 0 (0 : Int32)) (1 : Int32)).bind fun q8 => (some (q8.1, q8.2))))
set_option maxHeartbeats 4000000 in
set_option maxRecDepth 100000 in
theorem c_X10_run (l : Launch) (G : Gx) (I : Mem) (p0 : Int32) (p1 : Int32) (p2 : Int32) {res : Int32} {J : Mem} (hf : f_X10_run I p0 p1 p2 = some (res, J)) : Mi l yX10_run (.code yX10_run cX10_run 4 (some .int)) 6 134 G I [.ref (G.2.1 45), .int p0, .int p1, .int p2] res J := by
  refine Mi.of (by decide +kernel) (Nat.le_of_ble_eq_true rfl) (fun p e s m below meth c ls C hr hH hl => ?_)
  have hl : lv_has ls 4 [(0, .ref (G.2.1 45)), (1, .int p0), (2, .int p1), (3, .int p2)] := hl
  have hf : (if ((st I 45 0 (0 : Int32)) 45 3) = 0 then ((f_X10_refuse (st I 45 0 (0 : Int32)) (1 : Int32)).bind fun q1 => (some (q1.1, q1.2))) else (if ((st I 45 0 (0 : Int32)) 45 4) = 0 then ((f_X10_isEnd (st I 45 0 (0 : Int32)) p0 p1 p2).bind fun q2 => (if (b2i q2.1) = 0 then ((f_X10_refuse q2.2 (2 : Int32)).bind fun q6 => (some (q6.1, q6.2))) else ((f_X10_beginEnd q2.2 p0 p1 p2).bind fun q3 => ((f_X10_flow q3).bind fun q4 => ((f_X10_answer q4).bind fun q5 => (some (q5.1, q5.2))))))) else ((f_X10_refuse (st I 45 0 (0 : Int32)) (1 : Int32)).bind fun q8 => (some (q8.1, q8.2))))) = _ := hf
  refine lv_aload_n C.1 C.2.1 dX10_run_0 rfl (lv_at hl 0 rfl) ?_
  refine lv_iconst (v := (0 : Int32)) C.1 C.2.1 dX10_run_1 (by decide) ?_
  refine p_X10_0 C hH kk_45  tw_814 dX10_run_2 (fun H locs hH => ?_)
  refine lv_aload_n C.1 C.2.1 dX10_run_5 rfl (lv_at hl 0 rfl) ?_
  refine g_X10_3 C hH kk_45 tw_817 dX10_run_6 ?_
  refine lv_if_eq (tgt := 19) C.1 C.2.1 dX10_run_9 (by decide) (fun q10 => ?_) (fun q10 => ?_)
  · have hf := (if_pos q10).symm.trans hf
    refine lv_aload_n C.1 C.2.1 dX10_run_19 rfl (lv_at hl 0 rfl) ?_
    refine lv_iconst (v := (1 : Int32)) C.1 C.2.1 dX10_run_20 (by decide) ?_
    obtain ⟨q1, hc, hf⟩ := Option.bind_eq_some_iff.mp hf
    refine x_ci (n := 1) C hH (c_X10_refuse l G (st I 45 0 (0 : Int32)) (1 : Int32) hc) (kd_lt kk_45 (by decide)) (cE_10 kk_45) rfl tw_956 tw_953 tw_955 tw_23 tw_57 (by decide +kernel) ⟨Nat.le_of_ble_eq_true rfl, Nat.le_of_ble_eq_true rfl⟩ rfl hl.1 rfl (Nat.le_of_ble_eq_true rfl) ⟨Nat.le_of_ble_eq_true rfl, Nat.le_of_ble_eq_true rfl⟩ dX10_run_21 (fun H locs hH => ?_)
    cases hf
    exact x_iret C hr hH dX10_run_24
  · have hf := (if_neg q10).symm.trans hf
    refine lv_aload_n C.1 C.2.1 dX10_run_12 rfl (lv_at hl 0 rfl) ?_
    refine g_X10_4 C hH kk_45 tw_818 dX10_run_13 ?_
    refine lv_if_eq (tgt := 25) C.1 C.2.1 dX10_run_16 (by decide) (fun q9 => ?_) (fun q9 => ?_)
    · have hf := (if_pos q9).symm.trans hf
      refine lv_iload_n C.1 C.2.1 dX10_run_25 rfl (lv_at hl 1 rfl) ?_
      refine lv_iload_n C.1 C.2.1 dX10_run_26 rfl (lv_at hl 2 rfl) ?_
      refine lv_iload_n C.1 C.2.1 dX10_run_27 rfl (lv_at hl 3 rfl) ?_
      obtain ⟨q2, hc, hf⟩ := Option.bind_eq_some_iff.mp hf
      refine x_si (n := 3) C hH (c_X10_isEnd l G (st I 45 0 (0 : Int32)) p0 p1 p2 hc) tw_982 tw_980 tw_981 tw_57 (by decide +kernel) ⟨Nat.le_of_ble_eq_true rfl, Nat.le_of_ble_eq_true rfl⟩ rfl hl.1 rfl (Nat.le_of_ble_eq_true rfl) ⟨Nat.le_of_ble_eq_true rfl, Nat.le_of_ble_eq_true rfl⟩ dX10_run_28 (fun H locs hH => ?_)
      refine lv_if_ne (tgt := 40) C.1 C.2.1 dX10_run_31 (by decide) (fun q7 => ?_) (fun q7 => ?_)
      · have hf := (if_neg q7).symm.trans hf
        refine lv_aload_n C.1 C.2.1 dX10_run_40 rfl (lv_at hl 0 rfl) ?_
        refine lv_iload_n C.1 C.2.1 dX10_run_41 rfl (lv_at hl 1 rfl) ?_
        refine lv_iload_n C.1 C.2.1 dX10_run_42 rfl (lv_at hl 2 rfl) ?_
        refine lv_iload_n C.1 C.2.1 dX10_run_43 rfl (lv_at hl 3 rfl) ?_
        obtain ⟨q3, hc, hf⟩ := Option.bind_eq_some_iff.mp hf
        refine x_cv (n := 3) C hH (c_X10_beginEnd l G q2.2 p0 p1 p2 hc) (kd_lt kk_45 (by decide)) (cE_10 kk_45) rfl tw_986 tw_983 tw_985 tw_24 tw_57 (by decide +kernel) ⟨Nat.le_of_ble_eq_true rfl, Nat.le_of_ble_eq_true rfl⟩ rfl hl.1 rfl (Nat.le_of_ble_eq_true rfl) ⟨Nat.le_of_ble_eq_true rfl, Nat.le_of_ble_eq_true rfl⟩ dX10_run_44 (fun H locs hH => ?_)
        refine lv_aload_n C.1 C.2.1 dX10_run_47 rfl (lv_at hl 0 rfl) ?_
        obtain ⟨q4, hc, hf⟩ := Option.bind_eq_some_iff.mp hf
        refine x_cv (n := 0) C hH (c_X10_flow l G q3  hc) (kd_lt kk_45 (by decide)) (cE_10 kk_45) rfl tw_990 tw_987 tw_989 tw_25 tw_57 (by decide +kernel) ⟨Nat.le_of_ble_eq_true rfl, Nat.le_of_ble_eq_true rfl⟩ rfl hl.1 rfl (Nat.le_of_ble_eq_true rfl) ⟨Nat.le_of_ble_eq_true rfl, Nat.le_of_ble_eq_true rfl⟩ dX10_run_48 (fun H locs hH => ?_)
        refine lv_aload_n C.1 C.2.1 dX10_run_51 rfl (lv_at hl 0 rfl) ?_
        obtain ⟨q5, hc, hf⟩ := Option.bind_eq_some_iff.mp hf
        refine x_ci (n := 0) C hH (c_X10_answer l G q4  hc) (kd_lt kk_45 (by decide)) (cE_10 kk_45) rfl tw_1048 tw_1045 tw_1047 tw_38 tw_57 (by decide +kernel) ⟨Nat.le_of_ble_eq_true rfl, Nat.le_of_ble_eq_true rfl⟩ rfl hl.1 rfl (Nat.le_of_ble_eq_true rfl) ⟨Nat.le_of_ble_eq_true rfl, Nat.le_of_ble_eq_true rfl⟩ dX10_run_52 (fun H locs hH => ?_)
        cases hf
        exact x_iret C hr hH dX10_run_55
      · have hf := (if_pos q7).symm.trans hf
        refine lv_aload_n C.1 C.2.1 dX10_run_34 rfl (lv_at hl 0 rfl) ?_
        refine lv_iconst (v := (2 : Int32)) C.1 C.2.1 dX10_run_35 (by decide) ?_
        obtain ⟨q6, hc, hf⟩ := Option.bind_eq_some_iff.mp hf
        refine x_ci (n := 1) C hH (c_X10_refuse l G q2.2 (2 : Int32) hc) (kd_lt kk_45 (by decide)) (cE_10 kk_45) rfl tw_956 tw_953 tw_955 tw_23 tw_57 (by decide +kernel) ⟨Nat.le_of_ble_eq_true rfl, Nat.le_of_ble_eq_true rfl⟩ rfl hl.1 rfl (Nat.le_of_ble_eq_true rfl) ⟨Nat.le_of_ble_eq_true rfl, Nat.le_of_ble_eq_true rfl⟩ dX10_run_36 (fun H locs hH => ?_)
        cases hf
        exact x_iret C hr hH dX10_run_39
    · have hf := (if_neg q9).symm.trans hf
      refine lv_aload_n C.1 C.2.1 dX10_run_19 rfl (lv_at hl 0 rfl) ?_
      refine lv_iconst (v := (1 : Int32)) C.1 C.2.1 dX10_run_20 (by decide) ?_
      obtain ⟨q8, hc, hf⟩ := Option.bind_eq_some_iff.mp hf
      refine x_ci (n := 1) C hH (c_X10_refuse l G (st I 45 0 (0 : Int32)) (1 : Int32) hc) (kd_lt kk_45 (by decide)) (cE_10 kk_45) rfl tw_956 tw_953 tw_955 tw_23 tw_57 (by decide +kernel) ⟨Nat.le_of_ble_eq_true rfl, Nat.le_of_ble_eq_true rfl⟩ rfl hl.1 rfl (Nat.le_of_ble_eq_true rfl) ⟨Nat.le_of_ble_eq_true rfl, Nat.le_of_ble_eq_true rfl⟩ dX10_run_21 (fun H locs hH => ?_)
      cases hf
      exact x_iret C hr hH dX10_run_24
def f_X10_pool_J27 (p0 : Int32) (p1 : Int32) (p2 : Int32)  (I : Mem) (x1 : Int32) (x2 : Int32) (x3 : Int32) (y0 : Int32) : Option Mem := if ((st I 45 0 y0) 45 0) = 0 then (some (st (st (st (st I 45 0 y0) 45 36 x1) 45 37 x2) 45 38 x3)) else (some (st I 45 0 y0))
set_option maxHeartbeats 4000000 in
set_option maxRecDepth 100000 in
theorem w_X10_pool_J27 {p : Program} {l : Launch} {e : Env} {s : State} {m : MethodId} {args : Array Value} {below : List Frame} {meth : Method} {c : Code} {G : Gx} (p0 : Int32) (p1 : Int32) (p2 : Int32) {J : Mem} (C : CX p l s m args meth c cX10_pool 4 yX10_pool.cls G) (hr : meth.sig.returnType = none) :
    ∀ (I : Mem) (x1 : Int32) (x2 : Int32) (x3 : Int32) (y0 : Int32) (H : Heap) (locs : List Loc) (ls : Array Slot), HW G s H locs I → lv_has ls 4 [(0, .ref (G.2.1 45)), (1, .int x1), (2, .int x2), (3, .int x3)] → f_X10_pool_J27 p0 p1 p2 I x1 x2 x3 y0 = some J → W p l e { frames := 0, cells := 0, slots := 0, locals := 0 } s m args below meth c H locs 0 0 (MQ below (Qv9 G J s.heap.size) args s 0 0 (AA G s.heap.size)) (F0 m 27 ls [.int y0, .ref (G.2.1 45)]) := by
  intro I x1 x2 x3 y0  H locs ls hH hl hf
  have hf : (if ((st I 45 0 y0) 45 0) = 0 then (some (st (st (st (st I 45 0 y0) 45 36 x1) 45 37 x2) 45 38 x3)) else (some (st I 45 0 y0))) = _ := hf
  refine p_X10_0 C hH kk_45  tw_814 dX10_pool_27 (fun H locs hH => ?_)
  refine lv_aload_n C.1 C.2.1 dX10_pool_30 rfl (lv_at hl 0 rfl) ?_
  refine g_X10_0 C hH kk_45 tw_814 dX10_pool_31 ?_
  refine lv_if_eq (tgt := 38) C.1 C.2.1 dX10_pool_34 (by decide) (fun q5 => ?_) (fun q5 => ?_)
  · have hf := (if_pos q5).symm.trans hf
    refine lv_aload_n C.1 C.2.1 dX10_pool_38 rfl (lv_at hl 0 rfl) ?_
    refine lv_iload_n C.1 C.2.1 dX10_pool_39 rfl (lv_at hl 1 rfl) ?_
    refine p_X10_36 C hH kk_45  tw_850 dX10_pool_40 (fun H locs hH => ?_)
    refine lv_aload_n C.1 C.2.1 dX10_pool_43 rfl (lv_at hl 0 rfl) ?_
    refine lv_iload_n C.1 C.2.1 dX10_pool_44 rfl (lv_at hl 2 rfl) ?_
    refine p_X10_37 C hH kk_45  tw_851 dX10_pool_45 (fun H locs hH => ?_)
    refine lv_aload_n C.1 C.2.1 dX10_pool_48 rfl (lv_at hl 0 rfl) ?_
    refine lv_iload_n C.1 C.2.1 dX10_pool_49 rfl (lv_at hl 3 rfl) ?_
    refine p_X10_38 C hH kk_45  tw_852 dX10_pool_50 (fun H locs hH => ?_)
    cases hf
    exact x_vret C hr hH dX10_pool_53
  · have hf := (if_neg q5).symm.trans hf
    cases hf
    exact x_vret C hr hH dX10_pool_37
def f_X10_pool_J22 (p0 : Int32) (p1 : Int32) (p2 : Int32)  (I : Mem) (x1 : Int32) (x2 : Int32) (x3 : Int32) : Option Mem := f_X10_pool_J27 p0 p1 p2 I x1 x2 x3 (1 : Int32)
set_option maxHeartbeats 4000000 in
set_option maxRecDepth 100000 in
theorem w_X10_pool_J22 {p : Program} {l : Launch} {e : Env} {s : State} {m : MethodId} {args : Array Value} {below : List Frame} {meth : Method} {c : Code} {G : Gx} (p0 : Int32) (p1 : Int32) (p2 : Int32) {J : Mem} (C : CX p l s m args meth c cX10_pool 4 yX10_pool.cls G) (hr : meth.sig.returnType = none) :
    ∀ (I : Mem) (x1 : Int32) (x2 : Int32) (x3 : Int32) (H : Heap) (locs : List Loc) (ls : Array Slot), HW G s H locs I → lv_has ls 4 [(0, .ref (G.2.1 45)), (1, .int x1), (2, .int x2), (3, .int x3)] → f_X10_pool_J22 p0 p1 p2 I x1 x2 x3 = some J → W p l e { frames := 0, cells := 0, slots := 0, locals := 0 } s m args below meth c H locs 0 0 (MQ below (Qv9 G J s.heap.size) args s 0 0 (AA G s.heap.size)) (F0 m 22 ls [.ref (G.2.1 45)]) := by
  intro I x1 x2 x3  H locs ls hH hl hf
  have hf : (f_X10_pool_J27 p0 p1 p2 I x1 x2 x3 (1 : Int32)) = _ := hf
  refine lv_iconst (v := (1 : Int32)) C.1 C.2.1 dX10_pool_22 (by decide) ?_
  refine lv_goto (tgt := 27) C.1 C.2.1 dX10_pool_23 (by decide) ?_
  exact w_X10_pool_J27 p0 p1 p2 C hr I x1 x2 x3 (1 : Int32) _ _ _ hH (lv_sub hl [0, 1, 2, 3] rfl) hf
def f_X10_pool (I : Mem) (p0 : Int32) (p1 : Int32) (p2 : Int32) : Option Mem := if p0 < (1 : Int32) then (f_X10_pool_J22 p0 p1 p2 I p0 p1 p2) else (if (20 : Int32) < p0 then (f_X10_pool_J22 p0 p1 p2 I p0 p1 p2) else (if p1 < (1 : Int32) then (f_X10_pool_J22 p0 p1 p2 I p0 p1 p2) else (if p1 ≤ (4 : Int32) then (f_X10_pool_J27 p0 p1 p2 I p0 p1 p2 (0 : Int32)) else (f_X10_pool_J22 p0 p1 p2 I p0 p1 p2))))
set_option maxHeartbeats 4000000 in
set_option maxRecDepth 100000 in
theorem c_X10_pool (l : Launch) (G : Gx) (I : Mem) (p0 : Int32) (p1 : Int32) (p2 : Int32) {J : Mem} (hf : f_X10_pool I p0 p1 p2 = some J) : Mv l yX10_pool (.code yX10_pool cX10_pool 4 none) 0 0 G I [.ref (G.2.1 45), .int p0, .int p1, .int p2] J := by
  refine Mv.of (by decide +kernel) (Nat.le_of_ble_eq_true rfl) (fun p e s m below meth c ls C hr hH hl => ?_)
  have hl : lv_has ls 4 [(0, .ref (G.2.1 45)), (1, .int p0), (2, .int p1), (3, .int p2)] := hl
  have hf : (if p0 < (1 : Int32) then (f_X10_pool_J22 p0 p1 p2 I p0 p1 p2) else (if (20 : Int32) < p0 then (f_X10_pool_J22 p0 p1 p2 I p0 p1 p2) else (if p1 < (1 : Int32) then (f_X10_pool_J22 p0 p1 p2 I p0 p1 p2) else (if p1 ≤ (4 : Int32) then (f_X10_pool_J27 p0 p1 p2 I p0 p1 p2 (0 : Int32)) else (f_X10_pool_J22 p0 p1 p2 I p0 p1 p2))))) = _ := hf
  refine lv_aload_n C.1 C.2.1 dX10_pool_0 rfl (lv_at hl 0 rfl) ?_
  refine lv_iload_n C.1 C.2.1 dX10_pool_1 rfl (lv_at hl 1 rfl) ?_
  refine lv_iconst (v := (1 : Int32)) C.1 C.2.1 dX10_pool_2 (by decide) ?_
  refine lv_icmp_lt (tgt := 22) C.1 C.2.1 dX10_pool_3 (by decide) (fun q4 => ?_) (fun q4 => ?_)
  · have hf := (if_pos q4).symm.trans hf
    exact w_X10_pool_J22 p0 p1 p2 C hr I p0 p1 p2 _ _ _ hH (lv_sub hl [0, 1, 2, 3] rfl) hf
  · have hf := (if_neg q4).symm.trans hf
    refine lv_iload_n C.1 C.2.1 dX10_pool_6 rfl (lv_at hl 1 rfl) ?_
    refine lv_bipush (v := (20 : Int32)) C.1 C.2.1 dX10_pool_7 (by decide) ?_
    refine lv_icmp_gt (tgt := 22) C.1 C.2.1 dX10_pool_9 (by decide) (fun q3 => ?_) (fun q3 => ?_)
    · have hf := (if_pos q3).symm.trans hf
      exact w_X10_pool_J22 p0 p1 p2 C hr I p0 p1 p2 _ _ _ hH (lv_sub hl [0, 1, 2, 3] rfl) hf
    · have hf := (if_neg q3).symm.trans hf
      refine lv_iload_n C.1 C.2.1 dX10_pool_12 rfl (lv_at hl 2 rfl) ?_
      refine lv_iconst (v := (1 : Int32)) C.1 C.2.1 dX10_pool_13 (by decide) ?_
      refine lv_icmp_lt (tgt := 22) C.1 C.2.1 dX10_pool_14 (by decide) (fun q2 => ?_) (fun q2 => ?_)
      · have hf := (if_pos q2).symm.trans hf
        exact w_X10_pool_J22 p0 p1 p2 C hr I p0 p1 p2 _ _ _ hH (lv_sub hl [0, 1, 2, 3] rfl) hf
      · have hf := (if_neg q2).symm.trans hf
        refine lv_iload_n C.1 C.2.1 dX10_pool_17 rfl (lv_at hl 2 rfl) ?_
        refine lv_iconst (v := (4 : Int32)) C.1 C.2.1 dX10_pool_18 (by decide) ?_
        refine lv_icmp_le (tgt := 26) C.1 C.2.1 dX10_pool_19 (by decide) (fun q1 => ?_) (fun q1 => ?_)
        · have hf := (if_pos q1).symm.trans hf
          refine lv_iconst (v := (0 : Int32)) C.1 C.2.1 dX10_pool_26 (by decide) ?_
          exact w_X10_pool_J27 p0 p1 p2 C hr I p0 p1 p2 (0 : Int32) _ _ _ hH (lv_sub hl [0, 1, 2, 3] rfl) hf
        · have hf := (if_neg q1).symm.trans hf
          exact w_X10_pool_J22 p0 p1 p2 C hr I p0 p1 p2 _ _ _ hH (lv_sub hl [0, 1, 2, 3] rfl) hf
def f_X10_addTask (I : Mem) (p0 : Int32) (p1 : Int32) (p2 : Int32) : Option Mem := if inb p0 (ln 63) = true then (if inb (((48 : Int32) * p0) + (I 63 p0.toNatClampNeg)) (ln 61) = true then (if inb (((48 : Int32) * p0) + (I 63 p0.toNatClampNeg)) (ln 62) = true then (if inb p0 (ln 63) = true then (if inb p0 (ln 63) = true then (some (st (st (st I 61 (((48 : Int32) * p0) + (I 63 p0.toNatClampNeg)).toNatClampNeg p1) 62 (((48 : Int32) * p0) + (I 63 p0.toNatClampNeg)).toNatClampNeg p2) 63 p0.toNatClampNeg (((st (st I 61 (((48 : Int32) * p0) + (I 63 p0.toNatClampNeg)).toNatClampNeg p1) 62 (((48 : Int32) * p0) + (I 63 p0.toNatClampNeg)).toNatClampNeg p2) 63 p0.toNatClampNeg) + (1 : Int32)))) else none) else none) else none) else none) else none
set_option maxHeartbeats 4000000 in
set_option maxRecDepth 100000 in
theorem c_X10_addTask (l : Launch) (G : Gx) (I : Mem) (p0 : Int32) (p1 : Int32) (p2 : Int32) {J : Mem} (hf : f_X10_addTask I p0 p1 p2 = some J) : Mv l yX10_addTask (.code yX10_addTask cX10_addTask 5 none) 0 0 G I [.ref (G.2.1 45), .int p0, .int p1, .int p2] J := by
  refine Mv.of (by decide +kernel) (Nat.le_of_ble_eq_true rfl) (fun p e s m below meth c ls C hr hH hl => ?_)
  have hl : lv_has ls 5 [(0, .ref (G.2.1 45)), (1, .int p0), (2, .int p1), (3, .int p2)] := hl
  have hf : (if inb p0 (ln 63) = true then (if inb (((48 : Int32) * p0) + (I 63 p0.toNatClampNeg)) (ln 61) = true then (if inb (((48 : Int32) * p0) + (I 63 p0.toNatClampNeg)) (ln 62) = true then (if inb p0 (ln 63) = true then (if inb p0 (ln 63) = true then (some (st (st (st I 61 (((48 : Int32) * p0) + (I 63 p0.toNatClampNeg)).toNatClampNeg p1) 62 (((48 : Int32) * p0) + (I 63 p0.toNatClampNeg)).toNatClampNeg p2) 63 p0.toNatClampNeg (((st (st I 61 (((48 : Int32) * p0) + (I 63 p0.toNatClampNeg)).toNatClampNeg p1) 62 (((48 : Int32) * p0) + (I 63 p0.toNatClampNeg)).toNatClampNeg p2) 63 p0.toNatClampNeg) + (1 : Int32)))) else none) else none) else none) else none) else none) = _ := hf
  refine lv_bipush (v := (48 : Int32)) C.1 C.2.1 dX10_addTask_0 (by decide) ?_
  refine lv_iload_n C.1 C.2.1 dX10_addTask_2 rfl (lv_at hl 1 rfl) ?_
  refine lv_imul C.1 C.2.1 dX10_addTask_3 ?_
  refine lv_aload_n C.1 C.2.1 dX10_addTask_4 rfl (lv_at hl 0 rfl) ?_
  refine g_X10_41 C hH kk_45 tw_855 dX10_addTask_5 ?_
  refine lv_iload_n C.1 C.2.1 dX10_addTask_8 rfl (lv_at hl 1 rfl) ?_
  obtain ⟨q1, hf⟩ := itn hf
  refine x_iald C hH kk_63 q1 dX10_addTask_9 ?_
  refine lv_iadd C.1 C.2.1 dX10_addTask_10 ?_
  refine lv_istore (lv' := [(4, .int (((48 : Int32) * p0) + (I 63 p0.toNatClampNeg))), (0, .ref (G.2.1 45)), (1, .int p0), (2, .int p1), (3, .int p2)]) C.1 C.2.1 dX10_addTask_11 hl (by decide) rfl (fun ls hl => ?_)
  refine lv_aload_n C.1 C.2.1 dX10_addTask_13 rfl (lv_at hl 1 rfl) ?_
  refine g_X10_39 C hH kk_45 tw_853 dX10_addTask_14 ?_
  refine lv_iload C.1 C.2.1 dX10_addTask_17 (lv_at hl 0 rfl) ?_
  refine lv_iload_n C.1 C.2.1 dX10_addTask_19 rfl (lv_at hl 3 rfl) ?_
  obtain ⟨q2, hf⟩ := itn hf
  refine x_iast C hH kk_61 q2 dX10_addTask_20 (fun H locs hH => ?_)
  refine lv_aload_n C.1 C.2.1 dX10_addTask_21 rfl (lv_at hl 1 rfl) ?_
  refine g_X10_40 C hH kk_45 tw_854 dX10_addTask_22 ?_
  refine lv_iload C.1 C.2.1 dX10_addTask_25 (lv_at hl 0 rfl) ?_
  refine lv_iload_n C.1 C.2.1 dX10_addTask_27 rfl (lv_at hl 4 rfl) ?_
  obtain ⟨q3, hf⟩ := itn hf
  refine x_iast C hH kk_62 q3 dX10_addTask_28 (fun H locs hH => ?_)
  refine lv_aload_n C.1 C.2.1 dX10_addTask_29 rfl (lv_at hl 1 rfl) ?_
  refine g_X10_41 C hH kk_45 tw_855 dX10_addTask_30 ?_
  refine lv_iload_n C.1 C.2.1 dX10_addTask_33 rfl (lv_at hl 2 rfl) ?_
  refine lv_dup2_11 C.1 C.2.1 dX10_addTask_34 rfl rfl ?_
  obtain ⟨q4, hf⟩ := itn hf
  refine x_iald C hH kk_63 q4 dX10_addTask_35 ?_
  refine lv_iconst (v := (1 : Int32)) C.1 C.2.1 dX10_addTask_36 (by decide) ?_
  refine lv_iadd C.1 C.2.1 dX10_addTask_37 ?_
  obtain ⟨q5, hf⟩ := itn hf
  refine x_iast C hH kk_63 q5 dX10_addTask_38 (fun H locs hH => ?_)
  cases hf
  exact x_vret C hr hH dX10_addTask_39
def f_X10_victim_L2 (p0 : Int32)  : Nat → Mem → Int32 → Option (Int32 × Mem)
  | 0, _, _ => none
  | n + 1, I, x2 => if inb x2 (ln 63) = true then (if (I 63 x2.toNatClampNeg) = 0 then (if (I 45 37) = 0 then none else (f_X10_victim_L2 p0 n I ((x2 + (1 : Int32)) - (x2 + (1 : Int32)) / (I 45 37) * (I 45 37)))) else (some (x2, I))) else none
set_option maxHeartbeats 4000000 in
set_option maxRecDepth 100000 in
theorem w_X10_victim_L2 {p : Program} {l : Launch} {e : Env} {s : State} {m : MethodId} {args : Array Value} {below : List Frame} {meth : Method} {c : Code} {G : Gx} (p0 : Int32) {res : Int32} {J : Mem} (C : CX p l s m args meth c cX10_victim 3 yX10_victim.cls G) (hr : meth.sig.returnType = (some .int)) :
    ∀ (n : Nat) (I : Mem) (x2 : Int32) (H : Heap) (locs : List Loc) (ls : Array Slot), HW G s H locs I → lv_has ls 3 [(0, .ref (G.2.1 45)), (2, .int x2)] → f_X10_victim_L2 p0 n I x2 = some (res, J) → W p l e { frames := 0, cells := 0, slots := 0, locals := 0 } s m args below meth c H locs 0 0 (MQ below (Qi9 G res J s.heap.size) args s 0 0 (AA G s.heap.size)) (F0 m 2 ls []) := by
  intro n
  induction n with
  | zero => intro I x2  H locs ls hH hl hf; exact absurd hf (by simp [f_X10_victim_L2])
  | succ n ih =>
    intro I x2  H locs ls hH hl hf
    have hf : (if inb x2 (ln 63) = true then (if (I 63 x2.toNatClampNeg) = 0 then (if (I 45 37) = 0 then none else (f_X10_victim_L2 p0 n I ((x2 + (1 : Int32)) - (x2 + (1 : Int32)) / (I 45 37) * (I 45 37)))) else (some (x2, I))) else none) = _ := hf
    refine lv_aload_n C.1 C.2.1 dX10_victim_2 rfl (lv_at hl 0 rfl) ?_
    refine g_X10_41 C hH kk_45 tw_855 dX10_victim_3 ?_
    refine lv_iload_n C.1 C.2.1 dX10_victim_6 rfl (lv_at hl 1 rfl) ?_
    obtain ⟨q1, hf⟩ := itn hf
    refine x_iald C hH kk_63 q1 dX10_victim_7 ?_
    refine lv_if_ne (tgt := 23) C.1 C.2.1 dX10_victim_8 (by decide) (fun q3 => ?_) (fun q3 => ?_)
    · have hf := (if_neg q3).symm.trans hf
      refine lv_iload_n C.1 C.2.1 dX10_victim_23 rfl (lv_at hl 1 rfl) ?_
      cases hf
      exact x_iret C hr hH dX10_victim_24
    · have hf := (if_pos q3).symm.trans hf
      refine lv_iload_n C.1 C.2.1 dX10_victim_11 rfl (lv_at hl 1 rfl) ?_
      refine lv_iconst (v := (1 : Int32)) C.1 C.2.1 dX10_victim_12 (by decide) ?_
      refine lv_iadd C.1 C.2.1 dX10_victim_13 ?_
      refine lv_aload_n C.1 C.2.1 dX10_victim_14 rfl (lv_at hl 0 rfl) ?_
      refine g_X10_37 C hH kk_45 tw_851 dX10_victim_15 ?_
      obtain ⟨q2, hf⟩ := itn' hf
      refine lv_irem C.1 C.2.1 dX10_victim_18 q2 ?_
      refine lv_istore_n (lv' := [(2, .int ((x2 + (1 : Int32)) - (x2 + (1 : Int32)) / (I 45 37) * (I 45 37))), (0, .ref (G.2.1 45))]) C.1 C.2.1 dX10_victim_19 rfl hl (by decide) rfl (fun ls hl => ?_)
      refine lv_goto (tgt := 2) C.1 C.2.1 dX10_victim_20 (by decide) ?_
      exact ih I ((x2 + (1 : Int32)) - (x2 + (1 : Int32)) / (I 45 37) * (I 45 37))  _ _ _ hH (lv_sub hl [1, 0] rfl) hf
def f_X10_victim (I : Mem) (p0 : Int32) : Option (Int32 × Mem) := f_X10_victim_L2 p0 FU I p0
set_option maxHeartbeats 4000000 in
set_option maxRecDepth 100000 in
theorem c_X10_victim (l : Launch) (G : Gx) (I : Mem) (p0 : Int32) {res : Int32} {J : Mem} (hf : f_X10_victim I p0 = some (res, J)) : Mi l yX10_victim (.code yX10_victim cX10_victim 3 (some .int)) 0 0 G I [.ref (G.2.1 45), .int p0] res J := by
  refine Mi.of (by decide +kernel) (Nat.le_of_ble_eq_true rfl) (fun p e s m below meth c ls C hr hH hl => ?_)
  have hl : lv_has ls 3 [(0, .ref (G.2.1 45)), (1, .int p0)] := hl
  have hf : (f_X10_victim_L2 p0 FU I p0) = _ := hf
  refine lv_iload_n C.1 C.2.1 dX10_victim_0 rfl (lv_at hl 1 rfl) ?_
  refine lv_istore_n (lv' := [(2, .int p0), (0, .ref (G.2.1 45)), (1, .int p0)]) C.1 C.2.1 dX10_victim_1 rfl hl (by decide) rfl (fun ls hl => ?_)
  exact w_X10_victim_L2 p0 C hr FU I p0 _ _ _ hH (lv_sub hl [1, 0] rfl) hf
def f_X10_turn_J142 (p0 : Int32)  (I : Mem) (x1 : Int32) (x4 : Int32) (x5 : Int32) (y0 : Int32) (y1 : Int32) (y2 : Int32) : Option Mem := if inb y2 (ln 64) = true then (if x5 ≤ ((st I 64 y2.toNatClampNeg (y1 + y0)) 45 36) then (if inb (1 : Int32) (ln 64) = true then (if inb (1 : Int32) (ln 64) = true then (if inb ((3 : Int32) + x1) (ln 64) = true then (if inb ((3 : Int32) + x1) (ln 64) = true then (some (st (st (st I 64 y2.toNatClampNeg (y1 + y0)) 64 (1 : Int32).toNatClampNeg (((st I 64 y2.toNatClampNeg (y1 + y0)) 64 (1 : Int32).toNatClampNeg) + (1 : Int32))) 64 ((3 : Int32) + x1).toNatClampNeg (((st (st I 64 y2.toNatClampNeg (y1 + y0)) 64 (1 : Int32).toNatClampNeg (((st I 64 y2.toNatClampNeg (y1 + y0)) 64 (1 : Int32).toNatClampNeg) + (1 : Int32))) 64 ((3 : Int32) + x1).toNatClampNeg) + (1 : Int32)))) else none) else none) else none) else none) else (if (2 : Int32) = 0 then none else (if (2 : Int32) = 0 then none else ((f_X10_addTask (st I 64 y2.toNatClampNeg (y1 + y0)) x1 (x4 + (x5 / (2 : Int32))) (x5 - (x5 / (2 : Int32)))).bind fun q23 => (if (2 : Int32) = 0 then none else ((f_X10_addTask q23 x1 x4 (x5 / (2 : Int32))).bind fun q24 => (some q24))))))) else none
set_option maxHeartbeats 4000000 in
set_option maxRecDepth 100000 in
theorem w_X10_turn_J142 {p : Program} {l : Launch} {e : Env} {s : State} {m : MethodId} {args : Array Value} {below : List Frame} {meth : Method} {c : Code} {G : Gx} (p0 : Int32) {J : Mem} (C : CX p l s m args meth c cX10_turn 7 yX10_turn.cls G) (hr : meth.sig.returnType = none) :
    ∀ (I : Mem) (x1 : Int32) (x4 : Int32) (x5 : Int32) (y0 : Int32) (y1 : Int32) (y2 : Int32) (H : Heap) (locs : List Loc) (ls : Array Slot), HW G s H locs I → lv_has ls 7 [(0, .ref (G.2.1 45)), (1, .int x1), (4, .int x4), (5, .int x5)] → f_X10_turn_J142 p0 I x1 x4 x5 y0 y1 y2 = some J → W p l e { frames := 1, cells := 0, slots := 0, locals := 24 } s m args below meth c H locs 0 0 (MQ below (Qv9 G J s.heap.size) args s 0 0 (AA G s.heap.size)) (F0 m 142 ls [.int y0, .int y1, .int y2, .ref (G.2.1 64)]) := by
  intro I x1 x4 x5 y0 y1 y2  H locs ls hH hl hf
  have hf : (if inb y2 (ln 64) = true then (if x5 ≤ ((st I 64 y2.toNatClampNeg (y1 + y0)) 45 36) then (if inb (1 : Int32) (ln 64) = true then (if inb (1 : Int32) (ln 64) = true then (if inb ((3 : Int32) + x1) (ln 64) = true then (if inb ((3 : Int32) + x1) (ln 64) = true then (some (st (st (st I 64 y2.toNatClampNeg (y1 + y0)) 64 (1 : Int32).toNatClampNeg (((st I 64 y2.toNatClampNeg (y1 + y0)) 64 (1 : Int32).toNatClampNeg) + (1 : Int32))) 64 ((3 : Int32) + x1).toNatClampNeg (((st (st I 64 y2.toNatClampNeg (y1 + y0)) 64 (1 : Int32).toNatClampNeg (((st I 64 y2.toNatClampNeg (y1 + y0)) 64 (1 : Int32).toNatClampNeg) + (1 : Int32))) 64 ((3 : Int32) + x1).toNatClampNeg) + (1 : Int32)))) else none) else none) else none) else none) else (if (2 : Int32) = 0 then none else (if (2 : Int32) = 0 then none else ((f_X10_addTask (st I 64 y2.toNatClampNeg (y1 + y0)) x1 (x4 + (x5 / (2 : Int32))) (x5 - (x5 / (2 : Int32)))).bind fun q23 => (if (2 : Int32) = 0 then none else ((f_X10_addTask q23 x1 x4 (x5 / (2 : Int32))).bind fun q24 => (some q24))))))) else none) = _ := hf
  refine lv_iadd C.1 C.2.1 dX10_turn_142 ?_
  obtain ⟨q18, hf⟩ := itn hf
  refine x_iast C hH kk_64 q18 dX10_turn_143 (fun H locs hH => ?_)
  refine lv_iload C.1 C.2.1 dX10_turn_144 (lv_at hl 3 rfl) ?_
  refine lv_aload_n C.1 C.2.1 dX10_turn_146 rfl (lv_at hl 0 rfl) ?_
  refine g_X10_36 C hH kk_45 tw_850 dX10_turn_147 ?_
  refine lv_icmp_le (tgt := 186) C.1 C.2.1 dX10_turn_150 (by decide) (fun q28 => ?_) (fun q28 => ?_)
  · have hf := (if_pos q28).symm.trans hf
    refine lv_aload_n C.1 C.2.1 dX10_turn_186 rfl (lv_at hl 0 rfl) ?_
    refine g_X10_42 C hH kk_45 tw_856 dX10_turn_187 ?_
    refine lv_iconst (v := (1 : Int32)) C.1 C.2.1 dX10_turn_190 (by decide) ?_
    refine lv_dup2_11 C.1 C.2.1 dX10_turn_191 rfl rfl ?_
    obtain ⟨q19, hf⟩ := itn hf
    refine x_iald C hH kk_64 q19 dX10_turn_192 ?_
    refine lv_iconst (v := (1 : Int32)) C.1 C.2.1 dX10_turn_193 (by decide) ?_
    refine lv_iadd C.1 C.2.1 dX10_turn_194 ?_
    obtain ⟨q20, hf⟩ := itn hf
    refine x_iast C hH kk_64 q20 dX10_turn_195 (fun H locs hH => ?_)
    refine lv_aload_n C.1 C.2.1 dX10_turn_196 rfl (lv_at hl 0 rfl) ?_
    refine g_X10_42 C hH kk_45 tw_856 dX10_turn_197 ?_
    refine lv_iconst (v := (3 : Int32)) C.1 C.2.1 dX10_turn_200 (by decide) ?_
    refine lv_iload_n C.1 C.2.1 dX10_turn_201 rfl (lv_at hl 1 rfl) ?_
    refine lv_iadd C.1 C.2.1 dX10_turn_202 ?_
    refine lv_dup2_11 C.1 C.2.1 dX10_turn_203 rfl rfl ?_
    obtain ⟨q21, hf⟩ := itn hf
    refine x_iald C hH kk_64 q21 dX10_turn_204 ?_
    refine lv_iconst (v := (1 : Int32)) C.1 C.2.1 dX10_turn_205 (by decide) ?_
    refine lv_iadd C.1 C.2.1 dX10_turn_206 ?_
    obtain ⟨q22, hf⟩ := itn hf
    refine x_iast C hH kk_64 q22 dX10_turn_207 (fun H locs hH => ?_)
    cases hf
    exact x_vret C hr hH dX10_turn_208
  · have hf := (if_neg q28).symm.trans hf
    refine lv_aload_n C.1 C.2.1 dX10_turn_153 rfl (lv_at hl 0 rfl) ?_
    refine lv_iload_n C.1 C.2.1 dX10_turn_154 rfl (lv_at hl 1 rfl) ?_
    refine lv_iload C.1 C.2.1 dX10_turn_155 (lv_at hl 2 rfl) ?_
    refine lv_iload C.1 C.2.1 dX10_turn_157 (lv_at hl 3 rfl) ?_
    refine lv_iconst (v := (2 : Int32)) C.1 C.2.1 dX10_turn_159 (by decide) ?_
    obtain ⟨q27, hf⟩ := itn' hf
    refine lv_idiv C.1 C.2.1 dX10_turn_160 q27 ?_
    refine lv_iadd C.1 C.2.1 dX10_turn_161 ?_
    refine lv_iload C.1 C.2.1 dX10_turn_162 (lv_at hl 3 rfl) ?_
    refine lv_iload C.1 C.2.1 dX10_turn_164 (lv_at hl 3 rfl) ?_
    refine lv_iconst (v := (2 : Int32)) C.1 C.2.1 dX10_turn_166 (by decide) ?_
    obtain ⟨q26, hf⟩ := itn' hf
    refine lv_idiv C.1 C.2.1 dX10_turn_167 q26 ?_
    refine lv_isub C.1 C.2.1 dX10_turn_168 ?_
    obtain ⟨q23, hc, hf⟩ := Option.bind_eq_some_iff.mp hf
    refine x_cv (n := 3) C hH (c_X10_addTask l G (st I 64 y2.toNatClampNeg (y1 + y0)) x1 (x4 + (x5 / (2 : Int32))) (x5 - (x5 / (2 : Int32))) hc) (kd_lt kk_45 (by decide)) (cE_10 kk_45) rfl tw_1064 tw_1061 tw_1063 tw_40 tw_57 (by decide +kernel) ⟨Nat.le_of_ble_eq_true rfl, Nat.le_of_ble_eq_true rfl⟩ rfl hl.1 rfl (Nat.le_of_ble_eq_true rfl) ⟨Nat.le_of_ble_eq_true rfl, Nat.le_of_ble_eq_true rfl⟩ dX10_turn_169 (fun H locs hH => ?_)
    refine lv_aload_n C.1 C.2.1 dX10_turn_172 rfl (lv_at hl 0 rfl) ?_
    refine lv_iload_n C.1 C.2.1 dX10_turn_173 rfl (lv_at hl 1 rfl) ?_
    refine lv_iload C.1 C.2.1 dX10_turn_174 (lv_at hl 2 rfl) ?_
    refine lv_iload C.1 C.2.1 dX10_turn_176 (lv_at hl 3 rfl) ?_
    refine lv_iconst (v := (2 : Int32)) C.1 C.2.1 dX10_turn_178 (by decide) ?_
    obtain ⟨q25, hf⟩ := itn' hf
    refine lv_idiv C.1 C.2.1 dX10_turn_179 q25 ?_
    obtain ⟨q24, hc, hf⟩ := Option.bind_eq_some_iff.mp hf
    refine x_cv (n := 3) C hH (c_X10_addTask l G q23 x1 x4 (x5 / (2 : Int32)) hc) (kd_lt kk_45 (by decide)) (cE_10 kk_45) rfl tw_1064 tw_1061 tw_1063 tw_40 tw_57 (by decide +kernel) ⟨Nat.le_of_ble_eq_true rfl, Nat.le_of_ble_eq_true rfl⟩ rfl hl.1 rfl (Nat.le_of_ble_eq_true rfl) ⟨Nat.le_of_ble_eq_true rfl, Nat.le_of_ble_eq_true rfl⟩ dX10_turn_180 (fun H locs hH => ?_)
    refine lv_goto (tgt := 208) C.1 C.2.1 dX10_turn_183 (by decide) ?_
    cases hf
    exact x_vret C hr hH dX10_turn_208
def f_X10_turn_L61 (p0 : Int32)  : Nat → Mem → Int32 → Int32 → Int32 → Int32 → Int32 → Option Mem
  | 0, _, _, _, _, _, _ => none
  | n + 1, I, x1, x2, x4, x5, x6 => if inb x2 (ln 63) = true then (if (((48 : Int32) * x2) + (I 63 x2.toNatClampNeg)) ≤ x6 then (if inb (0 : Int32) (ln 64) = true then (if inb (0 : Int32) (ln 64) = true then (if inb (2 : Int32) (ln 64) = true then (if x2 = x1 then (f_X10_turn_J142 p0 (st I 64 (0 : Int32).toNatClampNeg ((I 64 (0 : Int32).toNatClampNeg) + (1 : Int32))) x1 x4 x5 (0 : Int32) ((st I 64 (0 : Int32).toNatClampNeg ((I 64 (0 : Int32).toNatClampNeg) + (1 : Int32))) 64 (2 : Int32).toNatClampNeg) (2 : Int32)) else (f_X10_turn_J142 p0 (st I 64 (0 : Int32).toNatClampNeg ((I 64 (0 : Int32).toNatClampNeg) + (1 : Int32))) x1 x4 x5 (1 : Int32) ((st I 64 (0 : Int32).toNatClampNeg ((I 64 (0 : Int32).toNatClampNeg) + (1 : Int32))) 64 (2 : Int32).toNatClampNeg) (2 : Int32))) else none) else none) else none) else (if inb (x6 + (1 : Int32)) (ln 61) = true then (if inb x6 (ln 61) = true then (if inb (x6 + (1 : Int32)) (ln 62) = true then (if inb x6 (ln 62) = true then (f_X10_turn_L61 p0 n (st (st I 61 x6.toNatClampNeg (I 61 (x6 + (1 : Int32)).toNatClampNeg)) 62 x6.toNatClampNeg ((st I 61 x6.toNatClampNeg (I 61 (x6 + (1 : Int32)).toNatClampNeg)) 62 (x6 + (1 : Int32)).toNatClampNeg)) x1 x2 x4 x5 (x6 + (1 : Int32))) else none) else none) else none) else none)) else none
set_option maxHeartbeats 4000000 in
set_option maxRecDepth 100000 in
theorem w_X10_turn_L61 {p : Program} {l : Launch} {e : Env} {s : State} {m : MethodId} {args : Array Value} {below : List Frame} {meth : Method} {c : Code} {G : Gx} (p0 : Int32) {J : Mem} (C : CX p l s m args meth c cX10_turn 7 yX10_turn.cls G) (hr : meth.sig.returnType = none) :
    ∀ (n : Nat) (I : Mem) (x1 : Int32) (x2 : Int32) (x4 : Int32) (x5 : Int32) (x6 : Int32) (H : Heap) (locs : List Loc) (ls : Array Slot), HW G s H locs I → lv_has ls 7 [(0, .ref (G.2.1 45)), (1, .int x1), (2, .int x2), (4, .int x4), (5, .int x5), (6, .int x6)] → f_X10_turn_L61 p0 n I x1 x2 x4 x5 x6 = some J → W p l e { frames := 1, cells := 0, slots := 0, locals := 24 } s m args below meth c H locs 0 0 (MQ below (Qv9 G J s.heap.size) args s 0 0 (AA G s.heap.size)) (F0 m 61 ls []) := by
  intro n
  induction n with
  | zero => intro I x1 x2 x4 x5 x6  H locs ls hH hl hf; exact absurd hf (by simp [f_X10_turn_L61])
  | succ n ih =>
    intro I x1 x2 x4 x5 x6  H locs ls hH hl hf
    have hf : (if inb x2 (ln 63) = true then (if (((48 : Int32) * x2) + (I 63 x2.toNatClampNeg)) ≤ x6 then (if inb (0 : Int32) (ln 64) = true then (if inb (0 : Int32) (ln 64) = true then (if inb (2 : Int32) (ln 64) = true then (if x2 = x1 then (f_X10_turn_J142 p0 (st I 64 (0 : Int32).toNatClampNeg ((I 64 (0 : Int32).toNatClampNeg) + (1 : Int32))) x1 x4 x5 (0 : Int32) ((st I 64 (0 : Int32).toNatClampNeg ((I 64 (0 : Int32).toNatClampNeg) + (1 : Int32))) 64 (2 : Int32).toNatClampNeg) (2 : Int32)) else (f_X10_turn_J142 p0 (st I 64 (0 : Int32).toNatClampNeg ((I 64 (0 : Int32).toNatClampNeg) + (1 : Int32))) x1 x4 x5 (1 : Int32) ((st I 64 (0 : Int32).toNatClampNeg ((I 64 (0 : Int32).toNatClampNeg) + (1 : Int32))) 64 (2 : Int32).toNatClampNeg) (2 : Int32))) else none) else none) else none) else (if inb (x6 + (1 : Int32)) (ln 61) = true then (if inb x6 (ln 61) = true then (if inb (x6 + (1 : Int32)) (ln 62) = true then (if inb x6 (ln 62) = true then (f_X10_turn_L61 p0 n (st (st I 61 x6.toNatClampNeg (I 61 (x6 + (1 : Int32)).toNatClampNeg)) 62 x6.toNatClampNeg ((st I 61 x6.toNatClampNeg (I 61 (x6 + (1 : Int32)).toNatClampNeg)) 62 (x6 + (1 : Int32)).toNatClampNeg)) x1 x2 x4 x5 (x6 + (1 : Int32))) else none) else none) else none) else none)) else none) = _ := hf
    refine lv_iload C.1 C.2.1 dX10_turn_61 (lv_at hl 5 rfl) ?_
    refine lv_bipush (v := (48 : Int32)) C.1 C.2.1 dX10_turn_63 (by decide) ?_
    refine lv_iload_n C.1 C.2.1 dX10_turn_65 rfl (lv_at hl 2 rfl) ?_
    refine lv_imul C.1 C.2.1 dX10_turn_66 ?_
    refine lv_aload_n C.1 C.2.1 dX10_turn_67 rfl (lv_at hl 0 rfl) ?_
    refine g_X10_41 C hH kk_45 tw_855 dX10_turn_68 ?_
    refine lv_iload_n C.1 C.2.1 dX10_turn_71 rfl (lv_at hl 2 rfl) ?_
    obtain ⟨q8, hf⟩ := itn hf
    refine x_iald C hH kk_63 q8 dX10_turn_72 ?_
    refine lv_iadd C.1 C.2.1 dX10_turn_73 ?_
    refine lv_icmp_ge (tgt := 115) C.1 C.2.1 dX10_turn_74 (by decide) (fun q17 => ?_) (fun q17 => ?_)
    · have hf := (if_pos q17).symm.trans hf
      refine lv_aload_n C.1 C.2.1 dX10_turn_115 rfl (lv_at hl 0 rfl) ?_
      refine g_X10_42 C hH kk_45 tw_856 dX10_turn_116 ?_
      refine lv_iconst (v := (0 : Int32)) C.1 C.2.1 dX10_turn_119 (by decide) ?_
      refine lv_dup2_11 C.1 C.2.1 dX10_turn_120 rfl rfl ?_
      obtain ⟨q9, hf⟩ := itn hf
      refine x_iald C hH kk_64 q9 dX10_turn_121 ?_
      refine lv_iconst (v := (1 : Int32)) C.1 C.2.1 dX10_turn_122 (by decide) ?_
      refine lv_iadd C.1 C.2.1 dX10_turn_123 ?_
      obtain ⟨q10, hf⟩ := itn hf
      refine x_iast C hH kk_64 q10 dX10_turn_124 (fun H locs hH => ?_)
      refine lv_aload_n C.1 C.2.1 dX10_turn_125 rfl (lv_at hl 0 rfl) ?_
      refine g_X10_42 C hH kk_45 tw_856 dX10_turn_126 ?_
      refine lv_iconst (v := (2 : Int32)) C.1 C.2.1 dX10_turn_129 (by decide) ?_
      refine lv_dup2_11 C.1 C.2.1 dX10_turn_130 rfl rfl ?_
      obtain ⟨q11, hf⟩ := itn hf
      refine x_iald C hH kk_64 q11 dX10_turn_131 ?_
      refine lv_iload_n C.1 C.2.1 dX10_turn_132 rfl (lv_at hl 2 rfl) ?_
      refine lv_iload_n C.1 C.2.1 dX10_turn_133 rfl (lv_at hl 1 rfl) ?_
      refine lv_icmp_ne (tgt := 141) C.1 C.2.1 dX10_turn_134 (by decide) (fun q12 => ?_) (fun q12 => ?_)
      · have hf := (if_neg q12).symm.trans hf
        refine lv_iconst (v := (1 : Int32)) C.1 C.2.1 dX10_turn_141 (by decide) ?_
        exact w_X10_turn_J142 p0 C hr (st I 64 (0 : Int32).toNatClampNeg ((I 64 (0 : Int32).toNatClampNeg) + (1 : Int32))) x1 x4 x5 (1 : Int32) ((st I 64 (0 : Int32).toNatClampNeg ((I 64 (0 : Int32).toNatClampNeg) + (1 : Int32))) 64 (2 : Int32).toNatClampNeg) (2 : Int32) _ _ _ hH (lv_sub hl [0, 1, 3, 4] rfl) hf
      · have hf := (if_pos q12).symm.trans hf
        refine lv_iconst (v := (0 : Int32)) C.1 C.2.1 dX10_turn_137 (by decide) ?_
        refine lv_goto (tgt := 142) C.1 C.2.1 dX10_turn_138 (by decide) ?_
        exact w_X10_turn_J142 p0 C hr (st I 64 (0 : Int32).toNatClampNeg ((I 64 (0 : Int32).toNatClampNeg) + (1 : Int32))) x1 x4 x5 (0 : Int32) ((st I 64 (0 : Int32).toNatClampNeg ((I 64 (0 : Int32).toNatClampNeg) + (1 : Int32))) 64 (2 : Int32).toNatClampNeg) (2 : Int32) _ _ _ hH (lv_sub hl [0, 1, 3, 4] rfl) hf
    · have hf := (if_neg q17).symm.trans hf
      refine lv_aload_n C.1 C.2.1 dX10_turn_77 rfl (lv_at hl 0 rfl) ?_
      refine g_X10_39 C hH kk_45 tw_853 dX10_turn_78 ?_
      refine lv_iload C.1 C.2.1 dX10_turn_81 (lv_at hl 5 rfl) ?_
      refine lv_aload_n C.1 C.2.1 dX10_turn_83 rfl (lv_at hl 0 rfl) ?_
      refine g_X10_39 C hH kk_45 tw_853 dX10_turn_84 ?_
      refine lv_iload C.1 C.2.1 dX10_turn_87 (lv_at hl 5 rfl) ?_
      refine lv_iconst (v := (1 : Int32)) C.1 C.2.1 dX10_turn_89 (by decide) ?_
      refine lv_iadd C.1 C.2.1 dX10_turn_90 ?_
      obtain ⟨q13, hf⟩ := itn hf
      refine x_iald C hH kk_61 q13 dX10_turn_91 ?_
      obtain ⟨q14, hf⟩ := itn hf
      refine x_iast C hH kk_61 q14 dX10_turn_92 (fun H locs hH => ?_)
      refine lv_aload_n C.1 C.2.1 dX10_turn_93 rfl (lv_at hl 0 rfl) ?_
      refine g_X10_40 C hH kk_45 tw_854 dX10_turn_94 ?_
      refine lv_iload C.1 C.2.1 dX10_turn_97 (lv_at hl 5 rfl) ?_
      refine lv_aload_n C.1 C.2.1 dX10_turn_99 rfl (lv_at hl 0 rfl) ?_
      refine g_X10_40 C hH kk_45 tw_854 dX10_turn_100 ?_
      refine lv_iload C.1 C.2.1 dX10_turn_103 (lv_at hl 5 rfl) ?_
      refine lv_iconst (v := (1 : Int32)) C.1 C.2.1 dX10_turn_105 (by decide) ?_
      refine lv_iadd C.1 C.2.1 dX10_turn_106 ?_
      obtain ⟨q15, hf⟩ := itn hf
      refine x_iald C hH kk_62 q15 dX10_turn_107 ?_
      obtain ⟨q16, hf⟩ := itn hf
      refine x_iast C hH kk_62 q16 dX10_turn_108 (fun H locs hH => ?_)
      refine lv_iinc (v := (x6 + (1 : Int32))) (lv' := [(6, .int (x6 + (1 : Int32))), (0, .ref (G.2.1 45)), (1, .int x1), (2, .int x2), (4, .int x4), (5, .int x5)]) C.1 C.2.1 dX10_turn_109 hl (k := 5) rfl rfl (by decide) rfl (fun ls hl => ?_)
      refine lv_goto (tgt := 61) C.1 C.2.1 dX10_turn_112 (by decide) ?_
      exact ih (st (st I 61 x6.toNatClampNeg (I 61 (x6 + (1 : Int32)).toNatClampNeg)) 62 x6.toNatClampNeg ((st I 61 x6.toNatClampNeg (I 61 (x6 + (1 : Int32)).toNatClampNeg)) 62 (x6 + (1 : Int32)).toNatClampNeg)) x1 x2 x4 x5 (x6 + (1 : Int32))  _ _ _ hH (lv_sub hl [1, 2, 3, 4, 5, 0] rfl) hf
def f_X10_turn_J31 (p0 : Int32)  (I : Mem) (x1 : Int32) (x2 : Int32) (y0 : Int32) : Option Mem := if inb y0 (ln 61) = true then (if inb y0 (ln 62) = true then (if inb x2 (ln 63) = true then (if inb x2 (ln 63) = true then (f_X10_turn_L61 p0 FU (st I 63 x2.toNatClampNeg ((I 63 x2.toNatClampNeg) - (1 : Int32))) x1 x2 (I 61 y0.toNatClampNeg) (I 62 y0.toNatClampNeg) y0) else none) else none) else none) else none
set_option maxHeartbeats 4000000 in
set_option maxRecDepth 100000 in
theorem w_X10_turn_J31 {p : Program} {l : Launch} {e : Env} {s : State} {m : MethodId} {args : Array Value} {below : List Frame} {meth : Method} {c : Code} {G : Gx} (p0 : Int32) {J : Mem} (C : CX p l s m args meth c cX10_turn 7 yX10_turn.cls G) (hr : meth.sig.returnType = none) :
    ∀ (I : Mem) (x1 : Int32) (x2 : Int32) (y0 : Int32) (H : Heap) (locs : List Loc) (ls : Array Slot), HW G s H locs I → lv_has ls 7 [(0, .ref (G.2.1 45)), (1, .int x1), (2, .int x2)] → f_X10_turn_J31 p0 I x1 x2 y0 = some J → W p l e { frames := 1, cells := 0, slots := 0, locals := 24 } s m args below meth c H locs 0 0 (MQ below (Qv9 G J s.heap.size) args s 0 0 (AA G s.heap.size)) (F0 m 31 ls [.int y0]) := by
  intro I x1 x2 y0  H locs ls hH hl hf
  have hf : (if inb y0 (ln 61) = true then (if inb y0 (ln 62) = true then (if inb x2 (ln 63) = true then (if inb x2 (ln 63) = true then (f_X10_turn_L61 p0 FU (st I 63 x2.toNatClampNeg ((I 63 x2.toNatClampNeg) - (1 : Int32))) x1 x2 (I 61 y0.toNatClampNeg) (I 62 y0.toNatClampNeg) y0) else none) else none) else none) else none) = _ := hf
  refine lv_istore_n (lv' := [(3, .int y0), (0, .ref (G.2.1 45)), (1, .int x1), (2, .int x2)]) C.1 C.2.1 dX10_turn_31 rfl hl (by decide) rfl (fun ls hl => ?_)
  refine lv_aload_n C.1 C.2.1 dX10_turn_32 rfl (lv_at hl 1 rfl) ?_
  refine g_X10_39 C hH kk_45 tw_853 dX10_turn_33 ?_
  refine lv_iload_n C.1 C.2.1 dX10_turn_36 rfl (lv_at hl 0 rfl) ?_
  obtain ⟨q4, hf⟩ := itn hf
  refine x_iald C hH kk_61 q4 dX10_turn_37 ?_
  refine lv_istore (lv' := [(4, .int (I 61 y0.toNatClampNeg)), (3, .int y0), (0, .ref (G.2.1 45)), (1, .int x1), (2, .int x2)]) C.1 C.2.1 dX10_turn_38 hl (by decide) rfl (fun ls hl => ?_)
  refine lv_aload_n C.1 C.2.1 dX10_turn_40 rfl (lv_at hl 2 rfl) ?_
  refine g_X10_40 C hH kk_45 tw_854 dX10_turn_41 ?_
  refine lv_iload_n C.1 C.2.1 dX10_turn_44 rfl (lv_at hl 1 rfl) ?_
  obtain ⟨q5, hf⟩ := itn hf
  refine x_iald C hH kk_62 q5 dX10_turn_45 ?_
  refine lv_istore (lv' := [(5, .int (I 62 y0.toNatClampNeg)), (4, .int (I 61 y0.toNatClampNeg)), (3, .int y0), (0, .ref (G.2.1 45)), (1, .int x1), (2, .int x2)]) C.1 C.2.1 dX10_turn_46 hl (by decide) rfl (fun ls hl => ?_)
  refine lv_aload_n C.1 C.2.1 dX10_turn_48 rfl (lv_at hl 3 rfl) ?_
  refine g_X10_41 C hH kk_45 tw_855 dX10_turn_49 ?_
  refine lv_iload_n C.1 C.2.1 dX10_turn_52 rfl (lv_at hl 5 rfl) ?_
  refine lv_dup2_11 C.1 C.2.1 dX10_turn_53 rfl rfl ?_
  obtain ⟨q6, hf⟩ := itn hf
  refine x_iald C hH kk_63 q6 dX10_turn_54 ?_
  refine lv_iconst (v := (1 : Int32)) C.1 C.2.1 dX10_turn_55 (by decide) ?_
  refine lv_isub C.1 C.2.1 dX10_turn_56 ?_
  obtain ⟨q7, hf⟩ := itn hf
  refine x_iast C hH kk_63 q7 dX10_turn_57 (fun H locs hH => ?_)
  refine lv_iload_n C.1 C.2.1 dX10_turn_58 rfl (lv_at hl 2 rfl) ?_
  refine lv_istore (lv' := [(6, .int y0), (5, .int (I 62 y0.toNatClampNeg)), (4, .int (I 61 y0.toNatClampNeg)), (3, .int y0), (0, .ref (G.2.1 45)), (1, .int x1), (2, .int x2)]) C.1 C.2.1 dX10_turn_59 hl (by decide) rfl (fun ls hl => ?_)
  exact w_X10_turn_L61 p0 C hr FU (st I 63 x2.toNatClampNeg ((I 63 x2.toNatClampNeg) - (1 : Int32))) x1 x2 (I 61 y0.toNatClampNeg) (I 62 y0.toNatClampNeg) y0 _ _ _ hH (lv_sub hl [4, 5, 6, 2, 1, 0] rfl) hf
def f_X10_turn (I : Mem) (p0 : Int32) : Option Mem := (f_X10_victim I p0).bind fun q1 => (if q1.1 = p0 then (if inb p0 (ln 63) = true then (f_X10_turn_J31 p0 q1.2 p0 q1.1 ((((48 : Int32) * p0) + (q1.2 63 p0.toNatClampNeg)) - (1 : Int32))) else none) else (f_X10_turn_J31 p0 q1.2 p0 q1.1 ((48 : Int32) * q1.1)))
set_option maxHeartbeats 4000000 in
set_option maxRecDepth 100000 in
theorem c_X10_turn (l : Launch) (G : Gx) (I : Mem) (p0 : Int32) {J : Mem} (hf : f_X10_turn I p0 = some J) : Mv l yX10_turn (.code yX10_turn cX10_turn 7 none) 1 24 G I [.ref (G.2.1 45), .int p0] J := by
  refine Mv.of (by decide +kernel) (Nat.le_of_ble_eq_true rfl) (fun p e s m below meth c ls C hr hH hl => ?_)
  have hl : lv_has ls 7 [(0, .ref (G.2.1 45)), (1, .int p0)] := hl
  have hf : ((f_X10_victim I p0).bind fun q1 => (if q1.1 = p0 then (if inb p0 (ln 63) = true then (f_X10_turn_J31 p0 q1.2 p0 q1.1 ((((48 : Int32) * p0) + (q1.2 63 p0.toNatClampNeg)) - (1 : Int32))) else none) else (f_X10_turn_J31 p0 q1.2 p0 q1.1 ((48 : Int32) * q1.1)))) = _ := hf
  refine lv_aload_n C.1 C.2.1 dX10_turn_0 rfl (lv_at hl 0 rfl) ?_
  refine lv_iload_n C.1 C.2.1 dX10_turn_1 rfl (lv_at hl 1 rfl) ?_
  obtain ⟨q1, hc, hf⟩ := Option.bind_eq_some_iff.mp hf
  refine x_ci (n := 1) C hH (c_X10_victim l G I p0 hc) (kd_lt kk_45 (by decide)) (cE_10 kk_45) rfl tw_1073 tw_1070 tw_1072 tw_42 tw_57 (by decide +kernel) ⟨Nat.le_of_ble_eq_true rfl, Nat.le_of_ble_eq_true rfl⟩ rfl hl.1 rfl (Nat.le_of_ble_eq_true rfl) ⟨Nat.le_of_ble_eq_true rfl, Nat.le_of_ble_eq_true rfl⟩ dX10_turn_2 (fun H locs hH => ?_)
  refine lv_istore_n (lv' := [(2, .int q1.1), (0, .ref (G.2.1 45)), (1, .int p0)]) C.1 C.2.1 dX10_turn_5 rfl hl (by decide) rfl (fun ls hl => ?_)
  refine lv_iload_n C.1 C.2.1 dX10_turn_6 rfl (lv_at hl 0 rfl) ?_
  refine lv_iload_n C.1 C.2.1 dX10_turn_7 rfl (lv_at hl 2 rfl) ?_
  refine lv_icmp_ne (tgt := 27) C.1 C.2.1 dX10_turn_8 (by decide) (fun q3 => ?_) (fun q3 => ?_)
  · have hf := (if_neg q3).symm.trans hf
    refine lv_bipush (v := (48 : Int32)) C.1 C.2.1 dX10_turn_27 (by decide) ?_
    refine lv_iload_n C.1 C.2.1 dX10_turn_29 rfl (lv_at hl 0 rfl) ?_
    refine lv_imul C.1 C.2.1 dX10_turn_30 ?_
    exact w_X10_turn_J31 p0 C hr q1.2 p0 q1.1 ((48 : Int32) * q1.1) _ _ _ hH (lv_sub hl [1, 2, 0] rfl) hf
  · have hf := (if_pos q3).symm.trans hf
    refine lv_bipush (v := (48 : Int32)) C.1 C.2.1 dX10_turn_11 (by decide) ?_
    refine lv_iload_n C.1 C.2.1 dX10_turn_13 rfl (lv_at hl 2 rfl) ?_
    refine lv_imul C.1 C.2.1 dX10_turn_14 ?_
    refine lv_aload_n C.1 C.2.1 dX10_turn_15 rfl (lv_at hl 1 rfl) ?_
    refine g_X10_41 C hH kk_45 tw_855 dX10_turn_16 ?_
    refine lv_iload_n C.1 C.2.1 dX10_turn_19 rfl (lv_at hl 2 rfl) ?_
    obtain ⟨q2, hf⟩ := itn hf
    refine x_iald C hH kk_63 q2 dX10_turn_20 ?_
    refine lv_iadd C.1 C.2.1 dX10_turn_21 ?_
    refine lv_iconst (v := (1 : Int32)) C.1 C.2.1 dX10_turn_22 (by decide) ?_
    refine lv_isub C.1 C.2.1 dX10_turn_23 ?_
    refine lv_goto (tgt := 31) C.1 C.2.1 dX10_turn_24 (by decide) ?_
    exact w_X10_turn_J31 p0 C hr q1.2 p0 q1.1 ((((48 : Int32) * p0) + (q1.2 63 p0.toNatClampNeg)) - (1 : Int32)) _ _ _ hH (lv_sub hl [1, 2, 0] rfl) hf
def f_X10_workThrough_L53 (p0 : Int32)  : Nat → Mem → Int32 → Option Mem
  | 0, _, _ => none
  | n + 1, I, x2 => if inb (0 : Int32) (ln 63) = true then (if inb (1 : Int32) (ln 63) = true then (if inb (2 : Int32) (ln 63) = true then (if inb (3 : Int32) (ln 63) = true then (if ((((I 63 (0 : Int32).toNatClampNeg) + (I 63 (1 : Int32).toNatClampNeg)) + (I 63 (2 : Int32).toNatClampNeg)) + (I 63 (3 : Int32).toNatClampNeg)) ≤ 0 then (some I) else (if (I 45 37) = 0 then none else ((f_X10_turn I ((((x2 * (1103515245 : Int32)) + (12345 : Int32)).toUInt32 >>> (((16 : Int32) : Int32).toUInt32 &&& Int32.toUInt32 31)).toInt32 - (((x2 * (1103515245 : Int32)) + (12345 : Int32)).toUInt32 >>> (((16 : Int32) : Int32).toUInt32 &&& Int32.toUInt32 31)).toInt32 / (I 45 37) * (I 45 37))).bind fun q10 => (f_X10_workThrough_L53 p0 n q10 ((x2 * (1103515245 : Int32)) + (12345 : Int32)))))) else none) else none) else none) else none
set_option maxHeartbeats 4000000 in
set_option maxRecDepth 100000 in
theorem w_X10_workThrough_L53 {p : Program} {l : Launch} {e : Env} {s : State} {m : MethodId} {args : Array Value} {below : List Frame} {meth : Method} {c : Code} {G : Gx} (p0 : Int32) {J : Mem} (C : CX p l s m args meth c cX10_workThrough 3 yX10_workThrough.cls G) (hr : meth.sig.returnType = none) :
    ∀ (n : Nat) (I : Mem) (x2 : Int32) (H : Heap) (locs : List Loc) (ls : Array Slot), HW G s H locs I → lv_has ls 3 [(0, .ref (G.2.1 45)), (2, .int x2)] → f_X10_workThrough_L53 p0 n I x2 = some J → W p l e { frames := 2, cells := 0, slots := 0, locals := 50 } s m args below meth c H locs 0 0 (MQ below (Qv9 G J s.heap.size) args s 0 0 (AA G s.heap.size)) (F0 m 53 ls []) := by
  intro n
  induction n with
  | zero => intro I x2  H locs ls hH hl hf; exact absurd hf (by simp [f_X10_workThrough_L53])
  | succ n ih =>
    intro I x2  H locs ls hH hl hf
    have hf : (if inb (0 : Int32) (ln 63) = true then (if inb (1 : Int32) (ln 63) = true then (if inb (2 : Int32) (ln 63) = true then (if inb (3 : Int32) (ln 63) = true then (if ((((I 63 (0 : Int32).toNatClampNeg) + (I 63 (1 : Int32).toNatClampNeg)) + (I 63 (2 : Int32).toNatClampNeg)) + (I 63 (3 : Int32).toNatClampNeg)) ≤ 0 then (some I) else (if (I 45 37) = 0 then none else ((f_X10_turn I ((((x2 * (1103515245 : Int32)) + (12345 : Int32)).toUInt32 >>> (((16 : Int32) : Int32).toUInt32 &&& Int32.toUInt32 31)).toInt32 - (((x2 * (1103515245 : Int32)) + (12345 : Int32)).toUInt32 >>> (((16 : Int32) : Int32).toUInt32 &&& Int32.toUInt32 31)).toInt32 / (I 45 37) * (I 45 37))).bind fun q10 => (f_X10_workThrough_L53 p0 n q10 ((x2 * (1103515245 : Int32)) + (12345 : Int32)))))) else none) else none) else none) else none) = _ := hf
    refine lv_aload_n C.1 C.2.1 dX10_workThrough_53 rfl (lv_at hl 0 rfl) ?_
    refine g_X10_41 C hH kk_45 tw_855 dX10_workThrough_54 ?_
    refine lv_iconst (v := (0 : Int32)) C.1 C.2.1 dX10_workThrough_57 (by decide) ?_
    obtain ⟨q6, hf⟩ := itn hf
    refine x_iald C hH kk_63 q6 dX10_workThrough_58 ?_
    refine lv_aload_n C.1 C.2.1 dX10_workThrough_59 rfl (lv_at hl 0 rfl) ?_
    refine g_X10_41 C hH kk_45 tw_855 dX10_workThrough_60 ?_
    refine lv_iconst (v := (1 : Int32)) C.1 C.2.1 dX10_workThrough_63 (by decide) ?_
    obtain ⟨q7, hf⟩ := itn hf
    refine x_iald C hH kk_63 q7 dX10_workThrough_64 ?_
    refine lv_iadd C.1 C.2.1 dX10_workThrough_65 ?_
    refine lv_aload_n C.1 C.2.1 dX10_workThrough_66 rfl (lv_at hl 0 rfl) ?_
    refine g_X10_41 C hH kk_45 tw_855 dX10_workThrough_67 ?_
    refine lv_iconst (v := (2 : Int32)) C.1 C.2.1 dX10_workThrough_70 (by decide) ?_
    obtain ⟨q8, hf⟩ := itn hf
    refine x_iald C hH kk_63 q8 dX10_workThrough_71 ?_
    refine lv_iadd C.1 C.2.1 dX10_workThrough_72 ?_
    refine lv_aload_n C.1 C.2.1 dX10_workThrough_73 rfl (lv_at hl 0 rfl) ?_
    refine g_X10_41 C hH kk_45 tw_855 dX10_workThrough_74 ?_
    refine lv_iconst (v := (3 : Int32)) C.1 C.2.1 dX10_workThrough_77 (by decide) ?_
    obtain ⟨q9, hf⟩ := itn hf
    refine x_iald C hH kk_63 q9 dX10_workThrough_78 ?_
    refine lv_iadd C.1 C.2.1 dX10_workThrough_79 ?_
    refine lv_if_le (tgt := 108) C.1 C.2.1 dX10_workThrough_80 (by decide) (fun q12 => ?_) (fun q12 => ?_)
    · have hf := (if_pos q12).symm.trans hf
      cases hf
      exact x_vret C hr hH dX10_workThrough_108
    · have hf := (if_neg q12).symm.trans hf
      refine lv_iload_n C.1 C.2.1 dX10_workThrough_83 rfl (lv_at hl 1 rfl) ?_
      refine lv_ldc (v := (1103515245 : Int32)) C.1 C.2.1 C.2.2.2.1 (C.word tw_1065 rfl) dX10_workThrough_84 ?_
      refine lv_imul C.1 C.2.1 dX10_workThrough_86 ?_
      refine lv_sipush (v := (12345 : Int32)) C.1 C.2.1 dX10_workThrough_87 (by decide) ?_
      refine lv_iadd C.1 C.2.1 dX10_workThrough_90 ?_
      refine lv_istore_n (lv' := [(2, .int ((x2 * (1103515245 : Int32)) + (12345 : Int32))), (0, .ref (G.2.1 45))]) C.1 C.2.1 dX10_workThrough_91 rfl hl (by decide) rfl (fun ls hl => ?_)
      refine lv_aload_n C.1 C.2.1 dX10_workThrough_92 rfl (lv_at hl 1 rfl) ?_
      refine lv_iload_n C.1 C.2.1 dX10_workThrough_93 rfl (lv_at hl 0 rfl) ?_
      refine lv_bipush (v := (16 : Int32)) C.1 C.2.1 dX10_workThrough_94 (by decide) ?_
      refine lv_iushr (v := (((x2 * (1103515245 : Int32)) + (12345 : Int32)).toUInt32 >>> (((16 : Int32) : Int32).toUInt32 &&& Int32.toUInt32 31)).toInt32) C.1 C.2.1 dX10_workThrough_96 rfl ?_
      refine lv_aload_n C.1 C.2.1 dX10_workThrough_97 rfl (lv_at hl 1 rfl) ?_
      refine g_X10_37 C hH kk_45 tw_851 dX10_workThrough_98 ?_
      obtain ⟨q11, hf⟩ := itn' hf
      refine lv_irem C.1 C.2.1 dX10_workThrough_101 q11 ?_
      obtain ⟨q10, hc, hf⟩ := Option.bind_eq_some_iff.mp hf
      refine x_cv (n := 1) C hH (c_X10_turn l G I ((((x2 * (1103515245 : Int32)) + (12345 : Int32)).toUInt32 >>> (((16 : Int32) : Int32).toUInt32 &&& Int32.toUInt32 31)).toInt32 - (((x2 * (1103515245 : Int32)) + (12345 : Int32)).toUInt32 >>> (((16 : Int32) : Int32).toUInt32 &&& Int32.toUInt32 31)).toInt32 / (I 45 37) * (I 45 37)) hc) (kd_lt kk_45 (by decide)) (cE_10 kk_45) rfl tw_1069 tw_1066 tw_1068 tw_41 tw_57 (by decide +kernel) ⟨Nat.le_of_ble_eq_true rfl, Nat.le_of_ble_eq_true rfl⟩ rfl hl.1 rfl (Nat.le_of_ble_eq_true rfl) ⟨Nat.le_of_ble_eq_true rfl, Nat.le_of_ble_eq_true rfl⟩ dX10_workThrough_102 (fun H locs hH => ?_)
      refine lv_goto (tgt := 53) C.1 C.2.1 dX10_workThrough_105 (by decide) ?_
      exact ih q10 ((x2 * (1103515245 : Int32)) + (12345 : Int32))  _ _ _ hH (lv_sub hl [1, 0] rfl) hf
def f_X10_workThrough_L23 (p0 : Int32)  : Nat → Mem → Int32 → Int32 → Option Mem
  | 0, _, _, _ => none
  | n + 1, I, x1, x2 => if (4 : Int32) ≤ x2 then ((f_X10_addTask I (0 : Int32) (0 : Int32) x1).bind fun q3 => (f_X10_workThrough_L53 p0 FU q3 (I 45 38))) else (if inb x2 (ln 63) = true then (f_X10_workThrough_L23 p0 n (st I 63 x2.toNatClampNeg (0 : Int32)) x1 (x2 + (1 : Int32))) else none)
set_option maxHeartbeats 4000000 in
set_option maxRecDepth 100000 in
theorem w_X10_workThrough_L23 {p : Program} {l : Launch} {e : Env} {s : State} {m : MethodId} {args : Array Value} {below : List Frame} {meth : Method} {c : Code} {G : Gx} (p0 : Int32) {J : Mem} (C : CX p l s m args meth c cX10_workThrough 3 yX10_workThrough.cls G) (hr : meth.sig.returnType = none) :
    ∀ (n : Nat) (I : Mem) (x1 : Int32) (x2 : Int32) (H : Heap) (locs : List Loc) (ls : Array Slot), HW G s H locs I → lv_has ls 3 [(0, .ref (G.2.1 45)), (1, .int x1), (2, .int x2)] → f_X10_workThrough_L23 p0 n I x1 x2 = some J → W p l e { frames := 2, cells := 0, slots := 0, locals := 50 } s m args below meth c H locs 0 0 (MQ below (Qv9 G J s.heap.size) args s 0 0 (AA G s.heap.size)) (F0 m 23 ls []) := by
  intro n
  induction n with
  | zero => intro I x1 x2  H locs ls hH hl hf; exact absurd hf (by simp [f_X10_workThrough_L23])
  | succ n ih =>
    intro I x1 x2  H locs ls hH hl hf
    have hf : (if (4 : Int32) ≤ x2 then ((f_X10_addTask I (0 : Int32) (0 : Int32) x1).bind fun q3 => (f_X10_workThrough_L53 p0 FU q3 (I 45 38))) else (if inb x2 (ln 63) = true then (f_X10_workThrough_L23 p0 n (st I 63 x2.toNatClampNeg (0 : Int32)) x1 (x2 + (1 : Int32))) else none)) = _ := hf
    refine lv_iload_n C.1 C.2.1 dX10_workThrough_23 rfl (lv_at hl 2 rfl) ?_
    refine lv_iconst (v := (4 : Int32)) C.1 C.2.1 dX10_workThrough_24 (by decide) ?_
    refine lv_icmp_ge (tgt := 41) C.1 C.2.1 dX10_workThrough_25 (by decide) (fun q5 => ?_) (fun q5 => ?_)
    · have hf := (if_pos q5).symm.trans hf
      refine lv_aload_n C.1 C.2.1 dX10_workThrough_41 rfl (lv_at hl 0 rfl) ?_
      refine g_X10_38 C hH kk_45 tw_852 dX10_workThrough_42 ?_
      refine lv_istore_n (lv' := [(2, .int (I 45 38)), (0, .ref (G.2.1 45)), (1, .int x1)]) C.1 C.2.1 dX10_workThrough_45 rfl hl (by decide) rfl (fun ls hl => ?_)
      refine lv_aload_n C.1 C.2.1 dX10_workThrough_46 rfl (lv_at hl 1 rfl) ?_
      refine lv_iconst (v := (0 : Int32)) C.1 C.2.1 dX10_workThrough_47 (by decide) ?_
      refine lv_iconst (v := (0 : Int32)) C.1 C.2.1 dX10_workThrough_48 (by decide) ?_
      refine lv_iload_n C.1 C.2.1 dX10_workThrough_49 rfl (lv_at hl 2 rfl) ?_
      obtain ⟨q3, hc, hf⟩ := Option.bind_eq_some_iff.mp hf
      refine x_cv (n := 3) C hH (c_X10_addTask l G I (0 : Int32) (0 : Int32) x1 hc) (kd_lt kk_45 (by decide)) (cE_10 kk_45) rfl tw_1064 tw_1061 tw_1063 tw_40 tw_57 (by decide +kernel) ⟨Nat.le_of_ble_eq_true rfl, Nat.le_of_ble_eq_true rfl⟩ rfl hl.1 rfl (Nat.le_of_ble_eq_true rfl) ⟨Nat.le_of_ble_eq_true rfl, Nat.le_of_ble_eq_true rfl⟩ dX10_workThrough_50 (fun H locs hH => ?_)
      exact w_X10_workThrough_L53 p0 C hr FU q3 (I 45 38) _ _ _ hH (lv_sub hl [1, 0] rfl) hf
    · have hf := (if_neg q5).symm.trans hf
      refine lv_aload_n C.1 C.2.1 dX10_workThrough_28 rfl (lv_at hl 0 rfl) ?_
      refine g_X10_41 C hH kk_45 tw_855 dX10_workThrough_29 ?_
      refine lv_iload_n C.1 C.2.1 dX10_workThrough_32 rfl (lv_at hl 2 rfl) ?_
      refine lv_iconst (v := (0 : Int32)) C.1 C.2.1 dX10_workThrough_33 (by decide) ?_
      obtain ⟨q4, hf⟩ := itn hf
      refine x_iast C hH kk_63 q4 dX10_workThrough_34 (fun H locs hH => ?_)
      refine lv_iinc (v := (x2 + (1 : Int32))) (lv' := [(2, .int (x2 + (1 : Int32))), (0, .ref (G.2.1 45)), (1, .int x1)]) C.1 C.2.1 dX10_workThrough_35 hl (k := 2) rfl rfl (by decide) rfl (fun ls hl => ?_)
      refine lv_goto (tgt := 23) C.1 C.2.1 dX10_workThrough_38 (by decide) ?_
      exact ih (st I 63 x2.toNatClampNeg (0 : Int32)) x1 (x2 + (1 : Int32))  _ _ _ hH (lv_sub hl [1, 2, 0] rfl) hf
def f_X10_workThrough_L2 (p0 : Int32)  : Nat → Mem → Int32 → Int32 → Option Mem
  | 0, _, _, _ => none
  | n + 1, I, x1, x2 => if (7 : Int32) ≤ x2 then (f_X10_workThrough_L23 p0 FU I x1 (0 : Int32)) else (if inb x2 (ln 64) = true then (f_X10_workThrough_L2 p0 n (st I 64 x2.toNatClampNeg (0 : Int32)) x1 (x2 + (1 : Int32))) else none)
set_option maxHeartbeats 4000000 in
set_option maxRecDepth 100000 in
theorem w_X10_workThrough_L2 {p : Program} {l : Launch} {e : Env} {s : State} {m : MethodId} {args : Array Value} {below : List Frame} {meth : Method} {c : Code} {G : Gx} (p0 : Int32) {J : Mem} (C : CX p l s m args meth c cX10_workThrough 3 yX10_workThrough.cls G) (hr : meth.sig.returnType = none) :
    ∀ (n : Nat) (I : Mem) (x1 : Int32) (x2 : Int32) (H : Heap) (locs : List Loc) (ls : Array Slot), HW G s H locs I → lv_has ls 3 [(0, .ref (G.2.1 45)), (1, .int x1), (2, .int x2)] → f_X10_workThrough_L2 p0 n I x1 x2 = some J → W p l e { frames := 2, cells := 0, slots := 0, locals := 50 } s m args below meth c H locs 0 0 (MQ below (Qv9 G J s.heap.size) args s 0 0 (AA G s.heap.size)) (F0 m 2 ls []) := by
  intro n
  induction n with
  | zero => intro I x1 x2  H locs ls hH hl hf; exact absurd hf (by simp [f_X10_workThrough_L2])
  | succ n ih =>
    intro I x1 x2  H locs ls hH hl hf
    have hf : (if (7 : Int32) ≤ x2 then (f_X10_workThrough_L23 p0 FU I x1 (0 : Int32)) else (if inb x2 (ln 64) = true then (f_X10_workThrough_L2 p0 n (st I 64 x2.toNatClampNeg (0 : Int32)) x1 (x2 + (1 : Int32))) else none)) = _ := hf
    refine lv_iload_n C.1 C.2.1 dX10_workThrough_2 rfl (lv_at hl 2 rfl) ?_
    refine lv_bipush (v := (7 : Int32)) C.1 C.2.1 dX10_workThrough_3 (by decide) ?_
    refine lv_icmp_ge (tgt := 21) C.1 C.2.1 dX10_workThrough_5 (by decide) (fun q2 => ?_) (fun q2 => ?_)
    · have hf := (if_pos q2).symm.trans hf
      refine lv_iconst (v := (0 : Int32)) C.1 C.2.1 dX10_workThrough_21 (by decide) ?_
      refine lv_istore_n (lv' := [(2, .int (0 : Int32)), (0, .ref (G.2.1 45)), (1, .int x1)]) C.1 C.2.1 dX10_workThrough_22 rfl hl (by decide) rfl (fun ls hl => ?_)
      exact w_X10_workThrough_L23 p0 C hr FU I x1 (0 : Int32) _ _ _ hH (lv_sub hl [1, 2, 0] rfl) hf
    · have hf := (if_neg q2).symm.trans hf
      refine lv_aload_n C.1 C.2.1 dX10_workThrough_8 rfl (lv_at hl 0 rfl) ?_
      refine g_X10_42 C hH kk_45 tw_856 dX10_workThrough_9 ?_
      refine lv_iload_n C.1 C.2.1 dX10_workThrough_12 rfl (lv_at hl 2 rfl) ?_
      refine lv_iconst (v := (0 : Int32)) C.1 C.2.1 dX10_workThrough_13 (by decide) ?_
      obtain ⟨q1, hf⟩ := itn hf
      refine x_iast C hH kk_64 q1 dX10_workThrough_14 (fun H locs hH => ?_)
      refine lv_iinc (v := (x2 + (1 : Int32))) (lv' := [(2, .int (x2 + (1 : Int32))), (0, .ref (G.2.1 45)), (1, .int x1)]) C.1 C.2.1 dX10_workThrough_15 hl (k := 2) rfl rfl (by decide) rfl (fun ls hl => ?_)
      refine lv_goto (tgt := 2) C.1 C.2.1 dX10_workThrough_18 (by decide) ?_
      exact ih (st I 64 x2.toNatClampNeg (0 : Int32)) x1 (x2 + (1 : Int32))  _ _ _ hH (lv_sub hl [1, 2, 0] rfl) hf
def f_X10_workThrough (I : Mem) (p0 : Int32) : Option Mem := f_X10_workThrough_L2 p0 FU I p0 (0 : Int32)
set_option maxHeartbeats 4000000 in
set_option maxRecDepth 100000 in
theorem c_X10_workThrough (l : Launch) (G : Gx) (I : Mem) (p0 : Int32) {J : Mem} (hf : f_X10_workThrough I p0 = some J) : Mv l yX10_workThrough (.code yX10_workThrough cX10_workThrough 3 none) 2 50 G I [.ref (G.2.1 45), .int p0] J := by
  refine Mv.of (by decide +kernel) (Nat.le_of_ble_eq_true rfl) (fun p e s m below meth c ls C hr hH hl => ?_)
  have hl : lv_has ls 3 [(0, .ref (G.2.1 45)), (1, .int p0)] := hl
  have hf : (f_X10_workThrough_L2 p0 FU I p0 (0 : Int32)) = _ := hf
  refine lv_iconst (v := (0 : Int32)) C.1 C.2.1 dX10_workThrough_0 (by decide) ?_
  refine lv_istore_n (lv' := [(2, .int (0 : Int32)), (0, .ref (G.2.1 45)), (1, .int p0)]) C.1 C.2.1 dX10_workThrough_1 rfl hl (by decide) rfl (fun ls hl => ?_)
  exact w_X10_workThrough_L2 p0 C hr FU I p0 (0 : Int32) _ _ _ hH (lv_sub hl [1, 2, 0] rfl) hf
def f_X10_out (I : Mem) (p0 : Int32) : Option Mem := if (I 45 35) = (600 : Int32) then (some (st I 45 22 (1 : Int32))) else (if inb (I 45 35) (ln 60) = true then (some (st (st I 60 (I 45 35).toNatClampNeg p0) 45 35 (((st I 60 (I 45 35).toNatClampNeg p0) 45 35) + (1 : Int32)))) else none)
set_option maxHeartbeats 4000000 in
set_option maxRecDepth 100000 in
theorem c_X10_out (l : Launch) (G : Gx) (I : Mem) (p0 : Int32) {J : Mem} (hf : f_X10_out I p0 = some J) : Mv l yX10_out (.code yX10_out cX10_out 2 none) 0 0 G I [.ref (G.2.1 45), .int p0] J := by
  refine Mv.of (by decide +kernel) (Nat.le_of_ble_eq_true rfl) (fun p e s m below meth c ls C hr hH hl => ?_)
  have hl : lv_has ls 2 [(0, .ref (G.2.1 45)), (1, .int p0)] := hl
  have hf : (if (I 45 35) = (600 : Int32) then (some (st I 45 22 (1 : Int32))) else (if inb (I 45 35) (ln 60) = true then (some (st (st I 60 (I 45 35).toNatClampNeg p0) 45 35 (((st I 60 (I 45 35).toNatClampNeg p0) 45 35) + (1 : Int32)))) else none)) = _ := hf
  refine lv_aload_n C.1 C.2.1 dX10_out_0 rfl (lv_at hl 0 rfl) ?_
  refine g_X10_35 C hH kk_45 tw_849 dX10_out_1 ?_
  refine lv_sipush (v := (600 : Int32)) C.1 C.2.1 dX10_out_4 (by decide) ?_
  refine lv_icmp_ne (tgt := 16) C.1 C.2.1 dX10_out_7 (by decide) (fun q2 => ?_) (fun q2 => ?_)
  · have hf := (if_neg q2).symm.trans hf
    refine lv_aload_n C.1 C.2.1 dX10_out_16 rfl (lv_at hl 0 rfl) ?_
    refine g_X10_33 C hH kk_45 tw_847 dX10_out_17 ?_
    refine lv_aload_n C.1 C.2.1 dX10_out_20 rfl (lv_at hl 0 rfl) ?_
    refine g_X10_35 C hH kk_45 tw_849 dX10_out_21 ?_
    refine lv_iload_n C.1 C.2.1 dX10_out_24 rfl (lv_at hl 1 rfl) ?_
    obtain ⟨q1, hf⟩ := itn hf
    refine x_iast C hH kk_60 q1 dX10_out_25 (fun H locs hH => ?_)
    refine lv_aload_n C.1 C.2.1 dX10_out_26 rfl (lv_at hl 0 rfl) ?_
    refine lv_dup C.1 C.2.1 dX10_out_27 rfl ?_
    refine g_X10_35 C hH kk_45 tw_849 dX10_out_28 ?_
    refine lv_iconst (v := (1 : Int32)) C.1 C.2.1 dX10_out_31 (by decide) ?_
    refine lv_iadd C.1 C.2.1 dX10_out_32 ?_
    refine p_X10_35 C hH kk_45  tw_849 dX10_out_33 (fun H locs hH => ?_)
    cases hf
    exact x_vret C hr hH dX10_out_36
  · have hf := (if_pos q2).symm.trans hf
    refine lv_aload_n C.1 C.2.1 dX10_out_10 rfl (lv_at hl 0 rfl) ?_
    refine lv_iconst (v := (1 : Int32)) C.1 C.2.1 dX10_out_11 (by decide) ?_
    refine p_X10_22 C hH kk_45 ⟨rfl, rfl⟩ tw_836 dX10_out_12 (fun H locs hH => ?_)
    cases hf
    exact x_vret C hr hH dX10_out_15
def f_X10_flatInParts_L2 (p0 : Int32) (p1 : Int32)  : Nat → Mem → Int32 → Int32 → Int32 → Option Mem
  | 0, _, _, _, _ => none
  | n + 1, I, x1, x2, x3 => if x2 ≤ x3 then (some I) else ((f_X10_out I (x1 + x3)).bind fun q1 => (f_X10_flatInParts_L2 p0 p1 n q1 x1 x2 (x3 + (1 : Int32))))
set_option maxHeartbeats 4000000 in
set_option maxRecDepth 100000 in
theorem w_X10_flatInParts_L2 {p : Program} {l : Launch} {e : Env} {s : State} {m : MethodId} {args : Array Value} {below : List Frame} {meth : Method} {c : Code} {G : Gx} (p0 : Int32) (p1 : Int32) {J : Mem} (C : CX p l s m args meth c cX10_flatInParts 4 yX10_flatInParts.cls G) (hr : meth.sig.returnType = none) :
    ∀ (n : Nat) (I : Mem) (x1 : Int32) (x2 : Int32) (x3 : Int32) (H : Heap) (locs : List Loc) (ls : Array Slot), HW G s H locs I → lv_has ls 4 [(0, .ref (G.2.1 45)), (1, .int x1), (2, .int x2), (3, .int x3)] → f_X10_flatInParts_L2 p0 p1 n I x1 x2 x3 = some J → W p l e { frames := 1, cells := 0, slots := 0, locals := 21 } s m args below meth c H locs 0 0 (MQ below (Qv9 G J s.heap.size) args s 0 0 (AA G s.heap.size)) (F0 m 2 ls []) := by
  intro n
  induction n with
  | zero => intro I x1 x2 x3  H locs ls hH hl hf; exact absurd hf (by simp [f_X10_flatInParts_L2])
  | succ n ih =>
    intro I x1 x2 x3  H locs ls hH hl hf
    have hf : (if x2 ≤ x3 then (some I) else ((f_X10_out I (x1 + x3)).bind fun q1 => (f_X10_flatInParts_L2 p0 p1 n q1 x1 x2 (x3 + (1 : Int32))))) = _ := hf
    refine lv_iload_n C.1 C.2.1 dX10_flatInParts_2 rfl (lv_at hl 3 rfl) ?_
    refine lv_iload_n C.1 C.2.1 dX10_flatInParts_3 rfl (lv_at hl 2 rfl) ?_
    refine lv_icmp_ge (tgt := 20) C.1 C.2.1 dX10_flatInParts_4 (by decide) (fun q2 => ?_) (fun q2 => ?_)
    · have hf := (if_pos q2).symm.trans hf
      cases hf
      exact x_vret C hr hH dX10_flatInParts_20
    · have hf := (if_neg q2).symm.trans hf
      refine lv_aload_n C.1 C.2.1 dX10_flatInParts_7 rfl (lv_at hl 0 rfl) ?_
      refine lv_iload_n C.1 C.2.1 dX10_flatInParts_8 rfl (lv_at hl 1 rfl) ?_
      refine lv_iload_n C.1 C.2.1 dX10_flatInParts_9 rfl (lv_at hl 3 rfl) ?_
      refine lv_iadd C.1 C.2.1 dX10_flatInParts_10 ?_
      obtain ⟨q1, hc, hf⟩ := Option.bind_eq_some_iff.mp hf
      refine x_cv (n := 1) C hH (c_X10_out l G I (x1 + x3) hc) (kd_lt kk_45 (by decide)) (cE_10 kk_45) rfl tw_1081 tw_1078 tw_1080 tw_44 tw_57 (by decide +kernel) ⟨Nat.le_of_ble_eq_true rfl, Nat.le_of_ble_eq_true rfl⟩ rfl hl.1 rfl (Nat.le_of_ble_eq_true rfl) ⟨Nat.le_of_ble_eq_true rfl, Nat.le_of_ble_eq_true rfl⟩ dX10_flatInParts_11 (fun H locs hH => ?_)
      refine lv_iinc (v := (x3 + (1 : Int32))) (lv' := [(3, .int (x3 + (1 : Int32))), (0, .ref (G.2.1 45)), (1, .int x1), (2, .int x2)]) C.1 C.2.1 dX10_flatInParts_14 hl (k := 3) rfl rfl (by decide) rfl (fun ls hl => ?_)
      refine lv_goto (tgt := 2) C.1 C.2.1 dX10_flatInParts_17 (by decide) ?_
      exact ih q1 x1 x2 (x3 + (1 : Int32))  _ _ _ hH (lv_sub hl [1, 2, 3, 0] rfl) hf
def f_X10_flatInParts (I : Mem) (p0 : Int32) (p1 : Int32) : Option Mem := f_X10_flatInParts_L2 p0 p1 FU I p0 p1 (0 : Int32)
set_option maxHeartbeats 4000000 in
set_option maxRecDepth 100000 in
theorem c_X10_flatInParts (l : Launch) (G : Gx) (I : Mem) (p0 : Int32) (p1 : Int32) {J : Mem} (hf : f_X10_flatInParts I p0 p1 = some J) : Mv l yX10_flatInParts (.code yX10_flatInParts cX10_flatInParts 4 none) 1 21 G I [.ref (G.2.1 45), .int p0, .int p1] J := by
  refine Mv.of (by decide +kernel) (Nat.le_of_ble_eq_true rfl) (fun p e s m below meth c ls C hr hH hl => ?_)
  have hl : lv_has ls 4 [(0, .ref (G.2.1 45)), (1, .int p0), (2, .int p1)] := hl
  have hf : (f_X10_flatInParts_L2 p0 p1 FU I p0 p1 (0 : Int32)) = _ := hf
  refine lv_iconst (v := (0 : Int32)) C.1 C.2.1 dX10_flatInParts_0 (by decide) ?_
  refine lv_istore_n (lv' := [(3, .int (0 : Int32)), (0, .ref (G.2.1 45)), (1, .int p0), (2, .int p1)]) C.1 C.2.1 dX10_flatInParts_1 rfl hl (by decide) rfl (fun ls hl => ?_)
  exact w_X10_flatInParts_L2 p0 p1 C hr FU I p0 p1 (0 : Int32) _ _ _ hH (lv_sub hl [1, 2, 3, 0] rfl) hf
def f_X10_stageInParts_L188 (p0 : Int32)  : Nat → Mem → Int32 → Option Mem
  | 0, _, _ => none
  | n + 1, I, x2 => if (I 45 34) ≤ x2 then (some I) else (if inb x2 (ln 60) = true then (if inb x2 (ln 59) = true then (f_X10_stageInParts_L188 p0 n (st I 59 x2.toNatClampNeg (I 60 x2.toNatClampNeg)) (x2 + (1 : Int32))) else none) else none)
set_option maxHeartbeats 4000000 in
set_option maxRecDepth 100000 in
theorem w_X10_stageInParts_L188 {p : Program} {l : Launch} {e : Env} {s : State} {m : MethodId} {args : Array Value} {below : List Frame} {meth : Method} {c : Code} {G : Gx} (p0 : Int32) {J : Mem} (C : CX p l s m args meth c cX10_stageInParts 4 yX10_stageInParts.cls G) (hr : meth.sig.returnType = none) :
    ∀ (n : Nat) (I : Mem) (x2 : Int32) (H : Heap) (locs : List Loc) (ls : Array Slot), HW G s H locs I → lv_has ls 4 [(0, .ref (G.2.1 45)), (2, .int x2)] → f_X10_stageInParts_L188 p0 n I x2 = some J → W p l e { frames := 2, cells := 0, slots := 0, locals := 47 } s m args below meth c H locs 0 0 (MQ below (Qv9 G J s.heap.size) args s 0 0 (AA G s.heap.size)) (F0 m 188 ls []) := by
  intro n
  induction n with
  | zero => intro I x2  H locs ls hH hl hf; exact absurd hf (by simp [f_X10_stageInParts_L188])
  | succ n ih =>
    intro I x2  H locs ls hH hl hf
    have hf : (if (I 45 34) ≤ x2 then (some I) else (if inb x2 (ln 60) = true then (if inb x2 (ln 59) = true then (f_X10_stageInParts_L188 p0 n (st I 59 x2.toNatClampNeg (I 60 x2.toNatClampNeg)) (x2 + (1 : Int32))) else none) else none)) = _ := hf
    refine lv_iload_n C.1 C.2.1 dX10_stageInParts_188 rfl (lv_at hl 1 rfl) ?_
    refine lv_aload_n C.1 C.2.1 dX10_stageInParts_189 rfl (lv_at hl 0 rfl) ?_
    refine g_X10_34 C hH kk_45 tw_848 dX10_stageInParts_190 ?_
    refine lv_icmp_ge (tgt := 214) C.1 C.2.1 dX10_stageInParts_193 (by decide) (fun q30 => ?_) (fun q30 => ?_)
    · have hf := (if_pos q30).symm.trans hf
      cases hf
      exact x_vret C hr hH dX10_stageInParts_214
    · have hf := (if_neg q30).symm.trans hf
      refine lv_aload_n C.1 C.2.1 dX10_stageInParts_196 rfl (lv_at hl 0 rfl) ?_
      refine g_X10_32 C hH kk_45 tw_846 dX10_stageInParts_197 ?_
      refine lv_iload_n C.1 C.2.1 dX10_stageInParts_200 rfl (lv_at hl 1 rfl) ?_
      refine lv_aload_n C.1 C.2.1 dX10_stageInParts_201 rfl (lv_at hl 0 rfl) ?_
      refine g_X10_33 C hH kk_45 tw_847 dX10_stageInParts_202 ?_
      refine lv_iload_n C.1 C.2.1 dX10_stageInParts_205 rfl (lv_at hl 1 rfl) ?_
      obtain ⟨q28, hf⟩ := itn hf
      refine x_iald C hH kk_60 q28 dX10_stageInParts_206 ?_
      obtain ⟨q29, hf⟩ := itn hf
      refine x_iast C hH kk_59 q29 dX10_stageInParts_207 (fun H locs hH => ?_)
      refine lv_iinc (v := (x2 + (1 : Int32))) (lv' := [(2, .int (x2 + (1 : Int32))), (0, .ref (G.2.1 45))]) C.1 C.2.1 dX10_stageInParts_208 hl (k := 1) rfl rfl (by decide) rfl (fun ls hl => ?_)
      refine lv_goto (tgt := 188) C.1 C.2.1 dX10_stageInParts_211 (by decide) ?_
      exact ih (st I 59 x2.toNatClampNeg (I 60 x2.toNatClampNeg)) (x2 + (1 : Int32))  _ _ _ hH (lv_sub hl [1, 0] rfl) hf
def f_X10_stageInParts_L136 (p0 : Int32)  : Nat → Mem → Int32 → Int32 → Option Mem
  | 0, _, _, _ => none
  | n + 1, I, x1, x2 => if inb x1 (ln 51) = true then (if (I 51 x1.toNatClampNeg) ≤ x2 then (f_X10_stageInParts_L188 p0 FU (st I 45 34 (I 45 35)) (0 : Int32)) else (if inb x1 (ln 47) = true then (if (I 47 x1.toNatClampNeg) = (4 : Int32) then (if inb (((600 : Int32) * x1) + x2) (ln 53) = true then ((f_X10_out I (I 53 (((600 : Int32) * x1) + x2).toNatClampNeg)).bind fun q25 => (f_X10_stageInParts_L136 p0 n q25 x1 (x2 + (1 : Int32)))) else none) else (f_X10_stageInParts_L188 p0 FU (st I 45 34 (I 45 35)) (0 : Int32))) else none)) else none
set_option maxHeartbeats 4000000 in
set_option maxRecDepth 100000 in
theorem w_X10_stageInParts_L136 {p : Program} {l : Launch} {e : Env} {s : State} {m : MethodId} {args : Array Value} {below : List Frame} {meth : Method} {c : Code} {G : Gx} (p0 : Int32) {J : Mem} (C : CX p l s m args meth c cX10_stageInParts 4 yX10_stageInParts.cls G) (hr : meth.sig.returnType = none) :
    ∀ (n : Nat) (I : Mem) (x1 : Int32) (x2 : Int32) (H : Heap) (locs : List Loc) (ls : Array Slot), HW G s H locs I → lv_has ls 4 [(0, .ref (G.2.1 45)), (1, .int x1), (2, .int x2)] → f_X10_stageInParts_L136 p0 n I x1 x2 = some J → W p l e { frames := 2, cells := 0, slots := 0, locals := 47 } s m args below meth c H locs 0 0 (MQ below (Qv9 G J s.heap.size) args s 0 0 (AA G s.heap.size)) (F0 m 136 ls []) := by
  intro n
  induction n with
  | zero => intro I x1 x2  H locs ls hH hl hf; exact absurd hf (by simp [f_X10_stageInParts_L136])
  | succ n ih =>
    intro I x1 x2  H locs ls hH hl hf
    have hf : (if inb x1 (ln 51) = true then (if (I 51 x1.toNatClampNeg) ≤ x2 then (f_X10_stageInParts_L188 p0 FU (st I 45 34 (I 45 35)) (0 : Int32)) else (if inb x1 (ln 47) = true then (if (I 47 x1.toNatClampNeg) = (4 : Int32) then (if inb (((600 : Int32) * x1) + x2) (ln 53) = true then ((f_X10_out I (I 53 (((600 : Int32) * x1) + x2).toNatClampNeg)).bind fun q25 => (f_X10_stageInParts_L136 p0 n q25 x1 (x2 + (1 : Int32)))) else none) else (f_X10_stageInParts_L188 p0 FU (st I 45 34 (I 45 35)) (0 : Int32))) else none)) else none) = _ := hf
    refine lv_iload_n C.1 C.2.1 dX10_stageInParts_136 rfl (lv_at hl 2 rfl) ?_
    refine lv_aload_n C.1 C.2.1 dX10_stageInParts_137 rfl (lv_at hl 0 rfl) ?_
    refine g_X10_14 C hH kk_45 tw_828 dX10_stageInParts_138 ?_
    refine lv_iload_n C.1 C.2.1 dX10_stageInParts_141 rfl (lv_at hl 1 rfl) ?_
    obtain ⟨q22, hf⟩ := itn hf
    refine x_iald C hH kk_51 q22 dX10_stageInParts_142 ?_
    refine lv_icmp_ge (tgt := 178) C.1 C.2.1 dX10_stageInParts_143 (by decide) (fun q27 => ?_) (fun q27 => ?_)
    · have hf := (if_pos q27).symm.trans hf
      refine lv_aload_n C.1 C.2.1 dX10_stageInParts_178 rfl (lv_at hl 0 rfl) ?_
      refine lv_aload_n C.1 C.2.1 dX10_stageInParts_179 rfl (lv_at hl 0 rfl) ?_
      refine g_X10_35 C hH kk_45 tw_849 dX10_stageInParts_180 ?_
      refine p_X10_34 C hH kk_45  tw_848 dX10_stageInParts_183 (fun H locs hH => ?_)
      refine lv_iconst (v := (0 : Int32)) C.1 C.2.1 dX10_stageInParts_186 (by decide) ?_
      refine lv_istore_n (lv' := [(2, .int (0 : Int32)), (0, .ref (G.2.1 45)), (1, .int x1)]) C.1 C.2.1 dX10_stageInParts_187 rfl hl (by decide) rfl (fun ls hl => ?_)
      exact w_X10_stageInParts_L188 p0 C hr FU (st I 45 34 (I 45 35)) (0 : Int32) _ _ _ hH (lv_sub hl [1, 0] rfl) hf
    · have hf := (if_neg q27).symm.trans hf
      refine lv_aload_n C.1 C.2.1 dX10_stageInParts_146 rfl (lv_at hl 0 rfl) ?_
      refine g_X10_10 C hH kk_45 tw_824 dX10_stageInParts_147 ?_
      refine lv_iload_n C.1 C.2.1 dX10_stageInParts_150 rfl (lv_at hl 1 rfl) ?_
      obtain ⟨q23, hf⟩ := itn hf
      refine x_iald C hH kk_47 q23 dX10_stageInParts_151 ?_
      refine lv_iconst (v := (4 : Int32)) C.1 C.2.1 dX10_stageInParts_152 (by decide) ?_
      refine lv_icmp_ne (tgt := 178) C.1 C.2.1 dX10_stageInParts_153 (by decide) (fun q26 => ?_) (fun q26 => ?_)
      · have hf := (if_neg q26).symm.trans hf
        refine lv_aload_n C.1 C.2.1 dX10_stageInParts_178 rfl (lv_at hl 0 rfl) ?_
        refine lv_aload_n C.1 C.2.1 dX10_stageInParts_179 rfl (lv_at hl 0 rfl) ?_
        refine g_X10_35 C hH kk_45 tw_849 dX10_stageInParts_180 ?_
        refine p_X10_34 C hH kk_45  tw_848 dX10_stageInParts_183 (fun H locs hH => ?_)
        refine lv_iconst (v := (0 : Int32)) C.1 C.2.1 dX10_stageInParts_186 (by decide) ?_
        refine lv_istore_n (lv' := [(2, .int (0 : Int32)), (0, .ref (G.2.1 45)), (1, .int x1)]) C.1 C.2.1 dX10_stageInParts_187 rfl hl (by decide) rfl (fun ls hl => ?_)
        exact w_X10_stageInParts_L188 p0 C hr FU (st I 45 34 (I 45 35)) (0 : Int32) _ _ _ hH (lv_sub hl [1, 0] rfl) hf
      · have hf := (if_pos q26).symm.trans hf
        refine lv_aload_n C.1 C.2.1 dX10_stageInParts_156 rfl (lv_at hl 0 rfl) ?_
        refine lv_aload_n C.1 C.2.1 dX10_stageInParts_157 rfl (lv_at hl 0 rfl) ?_
        refine g_X10_16 C hH kk_45 tw_830 dX10_stageInParts_158 ?_
        refine lv_sipush (v := (600 : Int32)) C.1 C.2.1 dX10_stageInParts_161 (by decide) ?_
        refine lv_iload_n C.1 C.2.1 dX10_stageInParts_164 rfl (lv_at hl 1 rfl) ?_
        refine lv_imul C.1 C.2.1 dX10_stageInParts_165 ?_
        refine lv_iload_n C.1 C.2.1 dX10_stageInParts_166 rfl (lv_at hl 2 rfl) ?_
        refine lv_iadd C.1 C.2.1 dX10_stageInParts_167 ?_
        obtain ⟨q24, hf⟩ := itn hf
        refine x_iald C hH kk_53 q24 dX10_stageInParts_168 ?_
        obtain ⟨q25, hc, hf⟩ := Option.bind_eq_some_iff.mp hf
        refine x_cv (n := 1) C hH (c_X10_out l G I (I 53 (((600 : Int32) * x1) + x2).toNatClampNeg) hc) (kd_lt kk_45 (by decide)) (cE_10 kk_45) rfl tw_1081 tw_1078 tw_1080 tw_44 tw_57 (by decide +kernel) ⟨Nat.le_of_ble_eq_true rfl, Nat.le_of_ble_eq_true rfl⟩ rfl hl.1 rfl (Nat.le_of_ble_eq_true rfl) ⟨Nat.le_of_ble_eq_true rfl, Nat.le_of_ble_eq_true rfl⟩ dX10_stageInParts_169 (fun H locs hH => ?_)
        refine lv_iinc (v := (x2 + (1 : Int32))) (lv' := [(2, .int (x2 + (1 : Int32))), (0, .ref (G.2.1 45)), (1, .int x1)]) C.1 C.2.1 dX10_stageInParts_172 hl (k := 2) rfl rfl (by decide) rfl (fun ls hl => ?_)
        refine lv_goto (tgt := 136) C.1 C.2.1 dX10_stageInParts_175 (by decide) ?_
        exact ih q25 x1 (x2 + (1 : Int32))  _ _ _ hH (lv_sub hl [1, 2, 0] rfl) hf
def f_X10_stageInParts_L7 (p0 : Int32)  : Nat → Mem → Int32 → Int32 → Option Mem
  | 0, _, _, _ => none
  | n + 1, I, x1, x2 => if (I 45 34) ≤ x2 then (f_X10_stageInParts_L136 p0 FU I x1 (0 : Int32)) else (if (I 45 22) = 0 then (if inb x2 (ln 59) = true then (if inb x1 (ln 50) = true then (if inb x1 (ln 50) = true then (if inb x1 (ln 47) = true then (if ((st I 50 x1.toNatClampNeg ((I 50 x1.toNatClampNeg) + (1 : Int32))) 47 x1.toNatClampNeg) = (4 : Int32) then ((f_X10_sortIn (st I 50 x1.toNatClampNeg ((I 50 x1.toNatClampNeg) + (1 : Int32))) x1 (I 59 x2.toNatClampNeg)).bind fun q18 => (f_X10_stageInParts_L7 p0 n q18 x1 (x2 + (1 : Int32)))) else (if inb x1 (ln 47) = true then (if ((st I 50 x1.toNatClampNeg ((I 50 x1.toNatClampNeg) + (1 : Int32))) 47 x1.toNatClampNeg) = 0 then (if inb x1 (ln 48) = true then (if inb x1 (ln 49) = true then ((f_X10_mapped (st I 50 x1.toNatClampNeg ((I 50 x1.toNatClampNeg) + (1 : Int32))) (I 59 x2.toNatClampNeg) ((st I 50 x1.toNatClampNeg ((I 50 x1.toNatClampNeg) + (1 : Int32))) 48 x1.toNatClampNeg) ((st I 50 x1.toNatClampNeg ((I 50 x1.toNatClampNeg) + (1 : Int32))) 49 x1.toNatClampNeg)).bind fun q15 => ((f_X10_out q15.2 q15.1).bind fun q16 => (f_X10_stageInParts_L7 p0 n q16 x1 (x2 + (1 : Int32))))) else none) else none) else (if inb x1 (ln 47) = true then (if ((st I 50 x1.toNatClampNeg ((I 50 x1.toNatClampNeg) + (1 : Int32))) 47 x1.toNatClampNeg) = (2 : Int32) then (if inb x1 (ln 49) = true then ((f_X10_flatInParts (st I 50 x1.toNatClampNeg ((I 50 x1.toNatClampNeg) + (1 : Int32))) (I 59 x2.toNatClampNeg) ((st I 50 x1.toNatClampNeg ((I 50 x1.toNatClampNeg) + (1 : Int32))) 49 x1.toNatClampNeg)).bind fun q11 => (f_X10_stageInParts_L7 p0 n q11 x1 (x2 + (1 : Int32)))) else none) else ((f_X10_lets (st I 50 x1.toNatClampNeg ((I 50 x1.toNatClampNeg) + (1 : Int32))) x1 (I 59 x2.toNatClampNeg)).bind fun q7 => (if (b2i q7.1) = 0 then (f_X10_stageInParts_L7 p0 n q7.2 x1 (x2 + (1 : Int32))) else ((f_X10_out q7.2 (I 59 x2.toNatClampNeg)).bind fun q8 => (f_X10_stageInParts_L7 p0 n q8 x1 (x2 + (1 : Int32))))))) else none)) else none)) else none) else none) else none) else none) else (f_X10_stageInParts_L136 p0 FU I x1 (0 : Int32)))
set_option maxHeartbeats 4000000 in
set_option maxRecDepth 100000 in
theorem w_X10_stageInParts_L7 {p : Program} {l : Launch} {e : Env} {s : State} {m : MethodId} {args : Array Value} {below : List Frame} {meth : Method} {c : Code} {G : Gx} (p0 : Int32) {J : Mem} (C : CX p l s m args meth c cX10_stageInParts 4 yX10_stageInParts.cls G) (hr : meth.sig.returnType = none) :
    ∀ (n : Nat) (I : Mem) (x1 : Int32) (x2 : Int32) (H : Heap) (locs : List Loc) (ls : Array Slot), HW G s H locs I → lv_has ls 4 [(0, .ref (G.2.1 45)), (1, .int x1), (2, .int x2)] → f_X10_stageInParts_L7 p0 n I x1 x2 = some J → W p l e { frames := 2, cells := 0, slots := 0, locals := 47 } s m args below meth c H locs 0 0 (MQ below (Qv9 G J s.heap.size) args s 0 0 (AA G s.heap.size)) (F0 m 7 ls []) := by
  intro n
  induction n with
  | zero => intro I x1 x2  H locs ls hH hl hf; exact absurd hf (by simp [f_X10_stageInParts_L7])
  | succ n ih =>
    intro I x1 x2  H locs ls hH hl hf
    have hf : (if (I 45 34) ≤ x2 then (f_X10_stageInParts_L136 p0 FU I x1 (0 : Int32)) else (if (I 45 22) = 0 then (if inb x2 (ln 59) = true then (if inb x1 (ln 50) = true then (if inb x1 (ln 50) = true then (if inb x1 (ln 47) = true then (if ((st I 50 x1.toNatClampNeg ((I 50 x1.toNatClampNeg) + (1 : Int32))) 47 x1.toNatClampNeg) = (4 : Int32) then ((f_X10_sortIn (st I 50 x1.toNatClampNeg ((I 50 x1.toNatClampNeg) + (1 : Int32))) x1 (I 59 x2.toNatClampNeg)).bind fun q18 => (f_X10_stageInParts_L7 p0 n q18 x1 (x2 + (1 : Int32)))) else (if inb x1 (ln 47) = true then (if ((st I 50 x1.toNatClampNeg ((I 50 x1.toNatClampNeg) + (1 : Int32))) 47 x1.toNatClampNeg) = 0 then (if inb x1 (ln 48) = true then (if inb x1 (ln 49) = true then ((f_X10_mapped (st I 50 x1.toNatClampNeg ((I 50 x1.toNatClampNeg) + (1 : Int32))) (I 59 x2.toNatClampNeg) ((st I 50 x1.toNatClampNeg ((I 50 x1.toNatClampNeg) + (1 : Int32))) 48 x1.toNatClampNeg) ((st I 50 x1.toNatClampNeg ((I 50 x1.toNatClampNeg) + (1 : Int32))) 49 x1.toNatClampNeg)).bind fun q15 => ((f_X10_out q15.2 q15.1).bind fun q16 => (f_X10_stageInParts_L7 p0 n q16 x1 (x2 + (1 : Int32))))) else none) else none) else (if inb x1 (ln 47) = true then (if ((st I 50 x1.toNatClampNeg ((I 50 x1.toNatClampNeg) + (1 : Int32))) 47 x1.toNatClampNeg) = (2 : Int32) then (if inb x1 (ln 49) = true then ((f_X10_flatInParts (st I 50 x1.toNatClampNeg ((I 50 x1.toNatClampNeg) + (1 : Int32))) (I 59 x2.toNatClampNeg) ((st I 50 x1.toNatClampNeg ((I 50 x1.toNatClampNeg) + (1 : Int32))) 49 x1.toNatClampNeg)).bind fun q11 => (f_X10_stageInParts_L7 p0 n q11 x1 (x2 + (1 : Int32)))) else none) else ((f_X10_lets (st I 50 x1.toNatClampNeg ((I 50 x1.toNatClampNeg) + (1 : Int32))) x1 (I 59 x2.toNatClampNeg)).bind fun q7 => (if (b2i q7.1) = 0 then (f_X10_stageInParts_L7 p0 n q7.2 x1 (x2 + (1 : Int32))) else ((f_X10_out q7.2 (I 59 x2.toNatClampNeg)).bind fun q8 => (f_X10_stageInParts_L7 p0 n q8 x1 (x2 + (1 : Int32))))))) else none)) else none)) else none) else none) else none) else none) else (f_X10_stageInParts_L136 p0 FU I x1 (0 : Int32)))) = _ := hf
    refine lv_iload_n C.1 C.2.1 dX10_stageInParts_7 rfl (lv_at hl 2 rfl) ?_
    refine lv_aload_n C.1 C.2.1 dX10_stageInParts_8 rfl (lv_at hl 0 rfl) ?_
    refine g_X10_34 C hH kk_45 tw_848 dX10_stageInParts_9 ?_
    refine lv_icmp_ge (tgt := 134) C.1 C.2.1 dX10_stageInParts_12 (by decide) (fun q21 => ?_) (fun q21 => ?_)
    · have hf := (if_pos q21).symm.trans hf
      refine lv_iconst (v := (0 : Int32)) C.1 C.2.1 dX10_stageInParts_134 (by decide) ?_
      refine lv_istore_n (lv' := [(2, .int (0 : Int32)), (0, .ref (G.2.1 45)), (1, .int x1)]) C.1 C.2.1 dX10_stageInParts_135 rfl hl (by decide) rfl (fun ls hl => ?_)
      exact w_X10_stageInParts_L136 p0 C hr FU I x1 (0 : Int32) _ _ _ hH (lv_sub hl [1, 2, 0] rfl) hf
    · have hf := (if_neg q21).symm.trans hf
      refine lv_aload_n C.1 C.2.1 dX10_stageInParts_15 rfl (lv_at hl 0 rfl) ?_
      refine g_X10_22 C hH kk_45 tw_836 dX10_stageInParts_16 ?_
      refine lv_if_ne (tgt := 134) C.1 C.2.1 dX10_stageInParts_19 (by decide) (fun q20 => ?_) (fun q20 => ?_)
      · have hf := (if_neg q20).symm.trans hf
        refine lv_iconst (v := (0 : Int32)) C.1 C.2.1 dX10_stageInParts_134 (by decide) ?_
        refine lv_istore_n (lv' := [(2, .int (0 : Int32)), (0, .ref (G.2.1 45)), (1, .int x1)]) C.1 C.2.1 dX10_stageInParts_135 rfl hl (by decide) rfl (fun ls hl => ?_)
        exact w_X10_stageInParts_L136 p0 C hr FU I x1 (0 : Int32) _ _ _ hH (lv_sub hl [1, 2, 0] rfl) hf
      · have hf := (if_pos q20).symm.trans hf
        refine lv_aload_n C.1 C.2.1 dX10_stageInParts_22 rfl (lv_at hl 0 rfl) ?_
        refine g_X10_32 C hH kk_45 tw_846 dX10_stageInParts_23 ?_
        refine lv_iload_n C.1 C.2.1 dX10_stageInParts_26 rfl (lv_at hl 2 rfl) ?_
        obtain ⟨q1, hf⟩ := itn hf
        refine x_iald C hH kk_59 q1 dX10_stageInParts_27 ?_
        refine lv_istore_n (lv' := [(3, .int (I 59 x2.toNatClampNeg)), (0, .ref (G.2.1 45)), (1, .int x1), (2, .int x2)]) C.1 C.2.1 dX10_stageInParts_28 rfl hl (by decide) rfl (fun ls hl => ?_)
        refine lv_aload_n C.1 C.2.1 dX10_stageInParts_29 rfl (lv_at hl 1 rfl) ?_
        refine g_X10_13 C hH kk_45 tw_827 dX10_stageInParts_30 ?_
        refine lv_iload_n C.1 C.2.1 dX10_stageInParts_33 rfl (lv_at hl 2 rfl) ?_
        refine lv_dup2_11 C.1 C.2.1 dX10_stageInParts_34 rfl rfl ?_
        obtain ⟨q2, hf⟩ := itn hf
        refine x_iald C hH kk_50 q2 dX10_stageInParts_35 ?_
        refine lv_iconst (v := (1 : Int32)) C.1 C.2.1 dX10_stageInParts_36 (by decide) ?_
        refine lv_iadd C.1 C.2.1 dX10_stageInParts_37 ?_
        obtain ⟨q3, hf⟩ := itn hf
        refine x_iast C hH kk_50 q3 dX10_stageInParts_38 (fun H locs hH => ?_)
        refine lv_aload_n C.1 C.2.1 dX10_stageInParts_39 rfl (lv_at hl 1 rfl) ?_
        refine g_X10_10 C hH kk_45 tw_824 dX10_stageInParts_40 ?_
        refine lv_iload_n C.1 C.2.1 dX10_stageInParts_43 rfl (lv_at hl 2 rfl) ?_
        obtain ⟨q4, hf⟩ := itn hf
        refine x_iald C hH kk_47 q4 dX10_stageInParts_44 ?_
        refine lv_iconst (v := (4 : Int32)) C.1 C.2.1 dX10_stageInParts_45 (by decide) ?_
        refine lv_icmp_ne (tgt := 58) C.1 C.2.1 dX10_stageInParts_46 (by decide) (fun q19 => ?_) (fun q19 => ?_)
        · have hf := (if_neg q19).symm.trans hf
          refine lv_aload_n C.1 C.2.1 dX10_stageInParts_58 rfl (lv_at hl 1 rfl) ?_
          refine g_X10_10 C hH kk_45 tw_824 dX10_stageInParts_59 ?_
          refine lv_iload_n C.1 C.2.1 dX10_stageInParts_62 rfl (lv_at hl 2 rfl) ?_
          obtain ⟨q5, hf⟩ := itn hf
          refine x_iald C hH kk_47 q5 dX10_stageInParts_63 ?_
          refine lv_if_ne (tgt := 90) C.1 C.2.1 dX10_stageInParts_64 (by decide) (fun q17 => ?_) (fun q17 => ?_)
          · have hf := (if_neg q17).symm.trans hf
            refine lv_aload_n C.1 C.2.1 dX10_stageInParts_90 rfl (lv_at hl 1 rfl) ?_
            refine g_X10_10 C hH kk_45 tw_824 dX10_stageInParts_91 ?_
            refine lv_iload_n C.1 C.2.1 dX10_stageInParts_94 rfl (lv_at hl 2 rfl) ?_
            obtain ⟨q6, hf⟩ := itn hf
            refine x_iald C hH kk_47 q6 dX10_stageInParts_95 ?_
            refine lv_iconst (v := (2 : Int32)) C.1 C.2.1 dX10_stageInParts_96 (by decide) ?_
            refine lv_icmp_ne (tgt := 114) C.1 C.2.1 dX10_stageInParts_97 (by decide) (fun q12 => ?_) (fun q12 => ?_)
            · have hf := (if_neg q12).symm.trans hf
              refine lv_aload_n C.1 C.2.1 dX10_stageInParts_114 rfl (lv_at hl 1 rfl) ?_
              refine lv_iload_n C.1 C.2.1 dX10_stageInParts_115 rfl (lv_at hl 2 rfl) ?_
              refine lv_iload_n C.1 C.2.1 dX10_stageInParts_116 rfl (lv_at hl 0 rfl) ?_
              obtain ⟨q7, hc, hf⟩ := Option.bind_eq_some_iff.mp hf
              refine x_ci (n := 2) C hH (c_X10_lets l G (st I 50 x1.toNatClampNeg ((I 50 x1.toNatClampNeg) + (1 : Int32))) x1 (I 59 x2.toNatClampNeg) hc) (kd_lt kk_45 (by decide)) (cE_10 kk_45) rfl tw_1018 tw_1015 tw_1017 tw_32 tw_57 (by decide +kernel) ⟨Nat.le_of_ble_eq_true rfl, Nat.le_of_ble_eq_true rfl⟩ rfl hl.1 rfl (Nat.le_of_ble_eq_true rfl) ⟨Nat.le_of_ble_eq_true rfl, Nat.le_of_ble_eq_true rfl⟩ dX10_stageInParts_117 (fun H locs hH => ?_)
              refine lv_if_eq (tgt := 128) C.1 C.2.1 dX10_stageInParts_120 (by decide) (fun q9 => ?_) (fun q9 => ?_)
              · have hf := (if_pos q9).symm.trans hf
                refine lv_iinc (v := (x2 + (1 : Int32))) (lv' := [(2, .int (x2 + (1 : Int32))), (3, .int (I 59 x2.toNatClampNeg)), (0, .ref (G.2.1 45)), (1, .int x1)]) C.1 C.2.1 dX10_stageInParts_128 hl (k := 3) rfl rfl (by decide) rfl (fun ls hl => ?_)
                refine lv_goto (tgt := 7) C.1 C.2.1 dX10_stageInParts_131 (by decide) ?_
                exact ih q7.2 x1 (x2 + (1 : Int32))  _ _ _ hH (lv_sub hl [2, 3, 0] rfl) hf
              · have hf := (if_neg q9).symm.trans hf
                refine lv_aload_n C.1 C.2.1 dX10_stageInParts_123 rfl (lv_at hl 1 rfl) ?_
                refine lv_iload_n C.1 C.2.1 dX10_stageInParts_124 rfl (lv_at hl 0 rfl) ?_
                obtain ⟨q8, hc, hf⟩ := Option.bind_eq_some_iff.mp hf
                refine x_cv (n := 1) C hH (c_X10_out l G q7.2 (I 59 x2.toNatClampNeg) hc) (kd_lt kk_45 (by decide)) (cE_10 kk_45) rfl tw_1081 tw_1078 tw_1080 tw_44 tw_57 (by decide +kernel) ⟨Nat.le_of_ble_eq_true rfl, Nat.le_of_ble_eq_true rfl⟩ rfl hl.1 rfl (Nat.le_of_ble_eq_true rfl) ⟨Nat.le_of_ble_eq_true rfl, Nat.le_of_ble_eq_true rfl⟩ dX10_stageInParts_125 (fun H locs hH => ?_)
                refine lv_iinc (v := (x2 + (1 : Int32))) (lv' := [(2, .int (x2 + (1 : Int32))), (3, .int (I 59 x2.toNatClampNeg)), (0, .ref (G.2.1 45)), (1, .int x1)]) C.1 C.2.1 dX10_stageInParts_128 hl (k := 3) rfl rfl (by decide) rfl (fun ls hl => ?_)
                refine lv_goto (tgt := 7) C.1 C.2.1 dX10_stageInParts_131 (by decide) ?_
                exact ih q8 x1 (x2 + (1 : Int32))  _ _ _ hH (lv_sub hl [2, 3, 0] rfl) hf
            · have hf := (if_pos q12).symm.trans hf
              refine lv_aload_n C.1 C.2.1 dX10_stageInParts_100 rfl (lv_at hl 1 rfl) ?_
              refine lv_iload_n C.1 C.2.1 dX10_stageInParts_101 rfl (lv_at hl 0 rfl) ?_
              refine lv_aload_n C.1 C.2.1 dX10_stageInParts_102 rfl (lv_at hl 1 rfl) ?_
              refine g_X10_12 C hH kk_45 tw_826 dX10_stageInParts_103 ?_
              refine lv_iload_n C.1 C.2.1 dX10_stageInParts_106 rfl (lv_at hl 2 rfl) ?_
              obtain ⟨q10, hf⟩ := itn hf
              refine x_iald C hH kk_49 q10 dX10_stageInParts_107 ?_
              obtain ⟨q11, hc, hf⟩ := Option.bind_eq_some_iff.mp hf
              refine x_cv (n := 2) C hH (c_X10_flatInParts l G (st I 50 x1.toNatClampNeg ((I 50 x1.toNatClampNeg) + (1 : Int32))) (I 59 x2.toNatClampNeg) ((st I 50 x1.toNatClampNeg ((I 50 x1.toNatClampNeg) + (1 : Int32))) 49 x1.toNatClampNeg) hc) (kd_lt kk_45 (by decide)) (cE_10 kk_45) rfl tw_1085 tw_1082 tw_1084 tw_45 tw_57 (by decide +kernel) ⟨Nat.le_of_ble_eq_true rfl, Nat.le_of_ble_eq_true rfl⟩ rfl hl.1 rfl (Nat.le_of_ble_eq_true rfl) ⟨Nat.le_of_ble_eq_true rfl, Nat.le_of_ble_eq_true rfl⟩ dX10_stageInParts_108 (fun H locs hH => ?_)
              refine lv_goto (tgt := 128) C.1 C.2.1 dX10_stageInParts_111 (by decide) ?_
              refine lv_iinc (v := (x2 + (1 : Int32))) (lv' := [(2, .int (x2 + (1 : Int32))), (3, .int (I 59 x2.toNatClampNeg)), (0, .ref (G.2.1 45)), (1, .int x1)]) C.1 C.2.1 dX10_stageInParts_128 hl (k := 3) rfl rfl (by decide) rfl (fun ls hl => ?_)
              refine lv_goto (tgt := 7) C.1 C.2.1 dX10_stageInParts_131 (by decide) ?_
              exact ih q11 x1 (x2 + (1 : Int32))  _ _ _ hH (lv_sub hl [2, 3, 0] rfl) hf
          · have hf := (if_pos q17).symm.trans hf
            refine lv_aload_n C.1 C.2.1 dX10_stageInParts_67 rfl (lv_at hl 1 rfl) ?_
            refine lv_iload_n C.1 C.2.1 dX10_stageInParts_68 rfl (lv_at hl 0 rfl) ?_
            refine lv_aload_n C.1 C.2.1 dX10_stageInParts_69 rfl (lv_at hl 1 rfl) ?_
            refine g_X10_11 C hH kk_45 tw_825 dX10_stageInParts_70 ?_
            refine lv_iload_n C.1 C.2.1 dX10_stageInParts_73 rfl (lv_at hl 2 rfl) ?_
            obtain ⟨q13, hf⟩ := itn hf
            refine x_iald C hH kk_48 q13 dX10_stageInParts_74 ?_
            refine lv_aload_n C.1 C.2.1 dX10_stageInParts_75 rfl (lv_at hl 1 rfl) ?_
            refine g_X10_12 C hH kk_45 tw_826 dX10_stageInParts_76 ?_
            refine lv_iload_n C.1 C.2.1 dX10_stageInParts_79 rfl (lv_at hl 2 rfl) ?_
            obtain ⟨q14, hf⟩ := itn hf
            refine x_iald C hH kk_49 q14 dX10_stageInParts_80 ?_
            obtain ⟨q15, hc, hf⟩ := Option.bind_eq_some_iff.mp hf
            refine x_si (n := 3) C hH (c_X10_mapped l G (st I 50 x1.toNatClampNeg ((I 50 x1.toNatClampNeg) + (1 : Int32))) (I 59 x2.toNatClampNeg) ((st I 50 x1.toNatClampNeg ((I 50 x1.toNatClampNeg) + (1 : Int32))) 48 x1.toNatClampNeg) ((st I 50 x1.toNatClampNeg ((I 50 x1.toNatClampNeg) + (1 : Int32))) 49 x1.toNatClampNeg) hc) tw_1032 tw_1030 tw_1031 tw_57 (by decide +kernel) ⟨Nat.le_of_ble_eq_true rfl, Nat.le_of_ble_eq_true rfl⟩ rfl hl.1 rfl (Nat.le_of_ble_eq_true rfl) ⟨Nat.le_of_ble_eq_true rfl, Nat.le_of_ble_eq_true rfl⟩ dX10_stageInParts_81 (fun H locs hH => ?_)
            obtain ⟨q16, hc, hf⟩ := Option.bind_eq_some_iff.mp hf
            refine x_cv (n := 1) C hH (c_X10_out l G q15.2 q15.1 hc) (kd_lt kk_45 (by decide)) (cE_10 kk_45) rfl tw_1081 tw_1078 tw_1080 tw_44 tw_57 (by decide +kernel) ⟨Nat.le_of_ble_eq_true rfl, Nat.le_of_ble_eq_true rfl⟩ rfl hl.1 rfl (Nat.le_of_ble_eq_true rfl) ⟨Nat.le_of_ble_eq_true rfl, Nat.le_of_ble_eq_true rfl⟩ dX10_stageInParts_84 (fun H locs hH => ?_)
            refine lv_goto (tgt := 128) C.1 C.2.1 dX10_stageInParts_87 (by decide) ?_
            refine lv_iinc (v := (x2 + (1 : Int32))) (lv' := [(2, .int (x2 + (1 : Int32))), (3, .int (I 59 x2.toNatClampNeg)), (0, .ref (G.2.1 45)), (1, .int x1)]) C.1 C.2.1 dX10_stageInParts_128 hl (k := 3) rfl rfl (by decide) rfl (fun ls hl => ?_)
            refine lv_goto (tgt := 7) C.1 C.2.1 dX10_stageInParts_131 (by decide) ?_
            exact ih q16 x1 (x2 + (1 : Int32))  _ _ _ hH (lv_sub hl [2, 3, 0] rfl) hf
        · have hf := (if_pos q19).symm.trans hf
          refine lv_aload_n C.1 C.2.1 dX10_stageInParts_49 rfl (lv_at hl 1 rfl) ?_
          refine lv_iload_n C.1 C.2.1 dX10_stageInParts_50 rfl (lv_at hl 2 rfl) ?_
          refine lv_iload_n C.1 C.2.1 dX10_stageInParts_51 rfl (lv_at hl 0 rfl) ?_
          obtain ⟨q18, hc, hf⟩ := Option.bind_eq_some_iff.mp hf
          refine x_cv (n := 2) C hH (c_X10_sortIn l G (st I 50 x1.toNatClampNeg ((I 50 x1.toNatClampNeg) + (1 : Int32))) x1 (I 59 x2.toNatClampNeg) hc) (kd_lt kk_45 (by decide)) (cE_10 kk_45) rfl tw_1014 tw_1011 tw_1013 tw_31 tw_57 (by decide +kernel) ⟨Nat.le_of_ble_eq_true rfl, Nat.le_of_ble_eq_true rfl⟩ rfl hl.1 rfl (Nat.le_of_ble_eq_true rfl) ⟨Nat.le_of_ble_eq_true rfl, Nat.le_of_ble_eq_true rfl⟩ dX10_stageInParts_52 (fun H locs hH => ?_)
          refine lv_goto (tgt := 128) C.1 C.2.1 dX10_stageInParts_55 (by decide) ?_
          refine lv_iinc (v := (x2 + (1 : Int32))) (lv' := [(2, .int (x2 + (1 : Int32))), (3, .int (I 59 x2.toNatClampNeg)), (0, .ref (G.2.1 45)), (1, .int x1)]) C.1 C.2.1 dX10_stageInParts_128 hl (k := 3) rfl rfl (by decide) rfl (fun ls hl => ?_)
          refine lv_goto (tgt := 7) C.1 C.2.1 dX10_stageInParts_131 (by decide) ?_
          exact ih q18 x1 (x2 + (1 : Int32))  _ _ _ hH (lv_sub hl [2, 3, 0] rfl) hf
def f_X10_stageInParts (I : Mem) (p0 : Int32) : Option Mem := f_X10_stageInParts_L7 p0 FU (st I 45 35 (0 : Int32)) p0 (0 : Int32)
set_option maxHeartbeats 4000000 in
set_option maxRecDepth 100000 in
theorem c_X10_stageInParts (l : Launch) (G : Gx) (I : Mem) (p0 : Int32) {J : Mem} (hf : f_X10_stageInParts I p0 = some J) : Mv l yX10_stageInParts (.code yX10_stageInParts cX10_stageInParts 4 none) 2 47 G I [.ref (G.2.1 45), .int p0] J := by
  refine Mv.of (by decide +kernel) (Nat.le_of_ble_eq_true rfl) (fun p e s m below meth c ls C hr hH hl => ?_)
  have hl : lv_has ls 4 [(0, .ref (G.2.1 45)), (1, .int p0)] := hl
  have hf : (f_X10_stageInParts_L7 p0 FU (st I 45 35 (0 : Int32)) p0 (0 : Int32)) = _ := hf
  refine lv_aload_n C.1 C.2.1 dX10_stageInParts_0 rfl (lv_at hl 0 rfl) ?_
  refine lv_iconst (v := (0 : Int32)) C.1 C.2.1 dX10_stageInParts_1 (by decide) ?_
  refine p_X10_35 C hH kk_45  tw_849 dX10_stageInParts_2 (fun H locs hH => ?_)
  refine lv_iconst (v := (0 : Int32)) C.1 C.2.1 dX10_stageInParts_5 (by decide) ?_
  refine lv_istore_n (lv' := [(2, .int (0 : Int32)), (0, .ref (G.2.1 45)), (1, .int p0)]) C.1 C.2.1 dX10_stageInParts_6 rfl hl (by decide) rfl (fun ls hl => ?_)
  exact w_X10_stageInParts_L7 p0 C hr FU (st I 45 35 (0 : Int32)) p0 (0 : Int32) _ _ _ hH (lv_sub hl [1, 2, 0] rfl) hf
def f_X10_parts_L168 (p0 : Int32) (p1 : Int32) (p2 : Int32)  : Nat → Mem → Int32 → Option (Int32 × Mem)
  | 0, _, _ => none
  | n + 1, I, x4 => if (I 45 34) ≤ x4 then ((f_X10_answer I).bind fun q21 => (some (q21.1, q21.2))) else (if (I 45 22) = 0 then (if inb x4 (ln 59) = true then ((f_X10_reaches I (I 59 x4.toNatClampNeg)).bind fun q24 => (f_X10_parts_L168 p0 p1 p2 n q24 (x4 + (1 : Int32)))) else none) else ((f_X10_answer I).bind fun q22 => (some (q22.1, q22.2))))
set_option maxHeartbeats 4000000 in
set_option maxRecDepth 100000 in
theorem w_X10_parts_L168 {p : Program} {l : Launch} {e : Env} {s : State} {m : MethodId} {args : Array Value} {below : List Frame} {meth : Method} {c : Code} {G : Gx} (p0 : Int32) (p1 : Int32) (p2 : Int32) {res : Int32} {J : Mem} (C : CX p l s m args meth c cX10_parts 5 yX10_parts.cls G) (hr : meth.sig.returnType = (some .int)) :
    ∀ (n : Nat) (I : Mem) (x4 : Int32) (H : Heap) (locs : List Loc) (ls : Array Slot), HW G s H locs I → lv_has ls 5 [(0, .ref (G.2.1 45)), (4, .int x4)] → f_X10_parts_L168 p0 p1 p2 n I x4 = some (res, J) → W p l e { frames := 3, cells := 0, slots := 0, locals := 72 } s m args below meth c H locs 0 0 (MQ below (Qi9 G res J s.heap.size) args s 0 0 (AA G s.heap.size)) (F0 m 168 ls []) := by
  intro n
  induction n with
  | zero => intro I x4  H locs ls hH hl hf; exact absurd hf (by simp [f_X10_parts_L168])
  | succ n ih =>
    intro I x4  H locs ls hH hl hf
    have hf : (if (I 45 34) ≤ x4 then ((f_X10_answer I).bind fun q21 => (some (q21.1, q21.2))) else (if (I 45 22) = 0 then (if inb x4 (ln 59) = true then ((f_X10_reaches I (I 59 x4.toNatClampNeg)).bind fun q24 => (f_X10_parts_L168 p0 p1 p2 n q24 (x4 + (1 : Int32)))) else none) else ((f_X10_answer I).bind fun q22 => (some (q22.1, q22.2))))) = _ := hf
    refine lv_iload C.1 C.2.1 dX10_parts_168 (lv_at hl 1 rfl) ?_
    refine lv_aload_n C.1 C.2.1 dX10_parts_170 rfl (lv_at hl 0 rfl) ?_
    refine g_X10_34 C hH kk_45 tw_848 dX10_parts_171 ?_
    refine lv_icmp_ge (tgt := 201) C.1 C.2.1 dX10_parts_174 (by decide) (fun q26 => ?_) (fun q26 => ?_)
    · have hf := (if_pos q26).symm.trans hf
      refine lv_aload_n C.1 C.2.1 dX10_parts_201 rfl (lv_at hl 0 rfl) ?_
      obtain ⟨q21, hc, hf⟩ := Option.bind_eq_some_iff.mp hf
      refine x_ci (n := 0) C hH (c_X10_answer l G I  hc) (kd_lt kk_45 (by decide)) (cE_10 kk_45) rfl tw_1048 tw_1045 tw_1047 tw_38 tw_57 (by decide +kernel) ⟨Nat.le_of_ble_eq_true rfl, Nat.le_of_ble_eq_true rfl⟩ rfl hl.1 rfl (Nat.le_of_ble_eq_true rfl) ⟨Nat.le_of_ble_eq_true rfl, Nat.le_of_ble_eq_true rfl⟩ dX10_parts_202 (fun H locs hH => ?_)
      cases hf
      exact x_iret C hr hH dX10_parts_205
    · have hf := (if_neg q26).symm.trans hf
      refine lv_aload_n C.1 C.2.1 dX10_parts_177 rfl (lv_at hl 0 rfl) ?_
      refine g_X10_22 C hH kk_45 tw_836 dX10_parts_178 ?_
      refine lv_if_ne (tgt := 201) C.1 C.2.1 dX10_parts_181 (by decide) (fun q25 => ?_) (fun q25 => ?_)
      · have hf := (if_neg q25).symm.trans hf
        refine lv_aload_n C.1 C.2.1 dX10_parts_201 rfl (lv_at hl 0 rfl) ?_
        obtain ⟨q22, hc, hf⟩ := Option.bind_eq_some_iff.mp hf
        refine x_ci (n := 0) C hH (c_X10_answer l G I  hc) (kd_lt kk_45 (by decide)) (cE_10 kk_45) rfl tw_1048 tw_1045 tw_1047 tw_38 tw_57 (by decide +kernel) ⟨Nat.le_of_ble_eq_true rfl, Nat.le_of_ble_eq_true rfl⟩ rfl hl.1 rfl (Nat.le_of_ble_eq_true rfl) ⟨Nat.le_of_ble_eq_true rfl, Nat.le_of_ble_eq_true rfl⟩ dX10_parts_202 (fun H locs hH => ?_)
        cases hf
        exact x_iret C hr hH dX10_parts_205
      · have hf := (if_pos q25).symm.trans hf
        refine lv_aload_n C.1 C.2.1 dX10_parts_184 rfl (lv_at hl 0 rfl) ?_
        refine lv_aload_n C.1 C.2.1 dX10_parts_185 rfl (lv_at hl 0 rfl) ?_
        refine g_X10_32 C hH kk_45 tw_846 dX10_parts_186 ?_
        refine lv_iload C.1 C.2.1 dX10_parts_189 (lv_at hl 1 rfl) ?_
        obtain ⟨q23, hf⟩ := itn hf
        refine x_iald C hH kk_59 q23 dX10_parts_191 ?_
        obtain ⟨q24, hc, hf⟩ := Option.bind_eq_some_iff.mp hf
        refine x_cv (n := 1) C hH (c_X10_reaches l G I (I 59 x4.toNatClampNeg) hc) (kd_lt kk_45 (by decide)) (cE_10 kk_45) rfl tw_1036 tw_1033 tw_1035 tw_35 tw_57 (by decide +kernel) ⟨Nat.le_of_ble_eq_true rfl, Nat.le_of_ble_eq_true rfl⟩ rfl hl.1 rfl (Nat.le_of_ble_eq_true rfl) ⟨Nat.le_of_ble_eq_true rfl, Nat.le_of_ble_eq_true rfl⟩ dX10_parts_192 (fun H locs hH => ?_)
        refine lv_iinc (v := (x4 + (1 : Int32))) (lv' := [(4, .int (x4 + (1 : Int32))), (0, .ref (G.2.1 45))]) C.1 C.2.1 dX10_parts_195 hl (k := 1) rfl rfl (by decide) rfl (fun ls hl => ?_)
        refine lv_goto (tgt := 168) C.1 C.2.1 dX10_parts_198 (by decide) ?_
        exact ih q24 (x4 + (1 : Int32))  _ _ _ hH (lv_sub hl [1, 0] rfl) hf
def f_X10_parts_L137 (p0 : Int32) (p1 : Int32) (p2 : Int32)  : Nat → Mem → Int32 → Option (Int32 × Mem)
  | 0, _, _ => none
  | n + 1, I, x4 => if (I 45 9) ≤ x4 then (f_X10_parts_L168 p0 p1 p2 FU I (0 : Int32)) else (if (I 45 22) = 0 then ((f_X10_stageInParts I x4).bind fun q18 => (f_X10_parts_L137 p0 p1 p2 n q18 (x4 + (1 : Int32)))) else (f_X10_parts_L168 p0 p1 p2 FU I (0 : Int32)))
set_option maxHeartbeats 4000000 in
set_option maxRecDepth 100000 in
theorem w_X10_parts_L137 {p : Program} {l : Launch} {e : Env} {s : State} {m : MethodId} {args : Array Value} {below : List Frame} {meth : Method} {c : Code} {G : Gx} (p0 : Int32) (p1 : Int32) (p2 : Int32) {res : Int32} {J : Mem} (C : CX p l s m args meth c cX10_parts 5 yX10_parts.cls G) (hr : meth.sig.returnType = (some .int)) :
    ∀ (n : Nat) (I : Mem) (x4 : Int32) (H : Heap) (locs : List Loc) (ls : Array Slot), HW G s H locs I → lv_has ls 5 [(0, .ref (G.2.1 45)), (4, .int x4)] → f_X10_parts_L137 p0 p1 p2 n I x4 = some (res, J) → W p l e { frames := 3, cells := 0, slots := 0, locals := 72 } s m args below meth c H locs 0 0 (MQ below (Qi9 G res J s.heap.size) args s 0 0 (AA G s.heap.size)) (F0 m 137 ls []) := by
  intro n
  induction n with
  | zero => intro I x4  H locs ls hH hl hf; exact absurd hf (by simp [f_X10_parts_L137])
  | succ n ih =>
    intro I x4  H locs ls hH hl hf
    have hf : (if (I 45 9) ≤ x4 then (f_X10_parts_L168 p0 p1 p2 FU I (0 : Int32)) else (if (I 45 22) = 0 then ((f_X10_stageInParts I x4).bind fun q18 => (f_X10_parts_L137 p0 p1 p2 n q18 (x4 + (1 : Int32)))) else (f_X10_parts_L168 p0 p1 p2 FU I (0 : Int32)))) = _ := hf
    refine lv_iload C.1 C.2.1 dX10_parts_137 (lv_at hl 1 rfl) ?_
    refine lv_aload_n C.1 C.2.1 dX10_parts_139 rfl (lv_at hl 0 rfl) ?_
    refine g_X10_9 C hH kk_45 tw_823 dX10_parts_140 ?_
    refine lv_icmp_ge (tgt := 165) C.1 C.2.1 dX10_parts_143 (by decide) (fun q20 => ?_) (fun q20 => ?_)
    · have hf := (if_pos q20).symm.trans hf
      refine lv_iconst (v := (0 : Int32)) C.1 C.2.1 dX10_parts_165 (by decide) ?_
      refine lv_istore (lv' := [(4, .int (0 : Int32)), (0, .ref (G.2.1 45))]) C.1 C.2.1 dX10_parts_166 hl (by decide) rfl (fun ls hl => ?_)
      exact w_X10_parts_L168 p0 p1 p2 C hr FU I (0 : Int32) _ _ _ hH (lv_sub hl [1, 0] rfl) hf
    · have hf := (if_neg q20).symm.trans hf
      refine lv_aload_n C.1 C.2.1 dX10_parts_146 rfl (lv_at hl 0 rfl) ?_
      refine g_X10_22 C hH kk_45 tw_836 dX10_parts_147 ?_
      refine lv_if_ne (tgt := 165) C.1 C.2.1 dX10_parts_150 (by decide) (fun q19 => ?_) (fun q19 => ?_)
      · have hf := (if_neg q19).symm.trans hf
        refine lv_iconst (v := (0 : Int32)) C.1 C.2.1 dX10_parts_165 (by decide) ?_
        refine lv_istore (lv' := [(4, .int (0 : Int32)), (0, .ref (G.2.1 45))]) C.1 C.2.1 dX10_parts_166 hl (by decide) rfl (fun ls hl => ?_)
        exact w_X10_parts_L168 p0 p1 p2 C hr FU I (0 : Int32) _ _ _ hH (lv_sub hl [1, 0] rfl) hf
      · have hf := (if_pos q19).symm.trans hf
        refine lv_aload_n C.1 C.2.1 dX10_parts_153 rfl (lv_at hl 0 rfl) ?_
        refine lv_iload C.1 C.2.1 dX10_parts_154 (lv_at hl 1 rfl) ?_
        obtain ⟨q18, hc, hf⟩ := Option.bind_eq_some_iff.mp hf
        refine x_cv (n := 1) C hH (c_X10_stageInParts l G I x4 hc) (kd_lt kk_45 (by decide)) (cE_10 kk_45) rfl tw_1077 tw_1074 tw_1076 tw_43 tw_57 (by decide +kernel) ⟨Nat.le_of_ble_eq_true rfl, Nat.le_of_ble_eq_true rfl⟩ rfl hl.1 rfl (Nat.le_of_ble_eq_true rfl) ⟨Nat.le_of_ble_eq_true rfl, Nat.le_of_ble_eq_true rfl⟩ dX10_parts_156 (fun H locs hH => ?_)
        refine lv_iinc (v := (x4 + (1 : Int32))) (lv' := [(4, .int (x4 + (1 : Int32))), (0, .ref (G.2.1 45))]) C.1 C.2.1 dX10_parts_159 hl (k := 1) rfl rfl (by decide) rfl (fun ls hl => ?_)
        refine lv_goto (tgt := 137) C.1 C.2.1 dX10_parts_162 (by decide) ?_
        exact ih q18 (x4 + (1 : Int32))  _ _ _ hH (lv_sub hl [1, 0] rfl) hf
def f_X10_parts_L80 (p0 : Int32) (p1 : Int32) (p2 : Int32)  : Nat → Mem → Int32 → Option (Int32 × Mem)
  | 0, _, _ => none
  | n + 1, I, x4 => if (I 45 34) ≤ x4 then ((f_X10_workThrough I (I 45 34)).bind fun q12 => (f_X10_parts_L137 p0 p1 p2 FU q12 (0 : Int32))) else (if (I 45 5) = 0 then (if inb x4 (ln 46) = true then (if inb x4 (ln 59) = true then (f_X10_parts_L80 p0 p1 p2 n (st I 59 x4.toNatClampNeg (I 46 x4.toNatClampNeg)) (x4 + (1 : Int32))) else none) else none) else (if inb x4 (ln 59) = true then (f_X10_parts_L80 p0 p1 p2 n (st I 59 x4.toNatClampNeg ((I 45 6) + x4)) (x4 + (1 : Int32))) else none))
set_option maxHeartbeats 4000000 in
set_option maxRecDepth 100000 in
theorem w_X10_parts_L80 {p : Program} {l : Launch} {e : Env} {s : State} {m : MethodId} {args : Array Value} {below : List Frame} {meth : Method} {c : Code} {G : Gx} (p0 : Int32) (p1 : Int32) (p2 : Int32) {res : Int32} {J : Mem} (C : CX p l s m args meth c cX10_parts 5 yX10_parts.cls G) (hr : meth.sig.returnType = (some .int)) :
    ∀ (n : Nat) (I : Mem) (x4 : Int32) (H : Heap) (locs : List Loc) (ls : Array Slot), HW G s H locs I → lv_has ls 5 [(0, .ref (G.2.1 45)), (4, .int x4)] → f_X10_parts_L80 p0 p1 p2 n I x4 = some (res, J) → W p l e { frames := 3, cells := 0, slots := 0, locals := 72 } s m args below meth c H locs 0 0 (MQ below (Qi9 G res J s.heap.size) args s 0 0 (AA G s.heap.size)) (F0 m 80 ls []) := by
  intro n
  induction n with
  | zero => intro I x4  H locs ls hH hl hf; exact absurd hf (by simp [f_X10_parts_L80])
  | succ n ih =>
    intro I x4  H locs ls hH hl hf
    have hf : (if (I 45 34) ≤ x4 then ((f_X10_workThrough I (I 45 34)).bind fun q12 => (f_X10_parts_L137 p0 p1 p2 FU q12 (0 : Int32))) else (if (I 45 5) = 0 then (if inb x4 (ln 46) = true then (if inb x4 (ln 59) = true then (f_X10_parts_L80 p0 p1 p2 n (st I 59 x4.toNatClampNeg (I 46 x4.toNatClampNeg)) (x4 + (1 : Int32))) else none) else none) else (if inb x4 (ln 59) = true then (f_X10_parts_L80 p0 p1 p2 n (st I 59 x4.toNatClampNeg ((I 45 6) + x4)) (x4 + (1 : Int32))) else none))) = _ := hf
    refine lv_iload C.1 C.2.1 dX10_parts_80 (lv_at hl 1 rfl) ?_
    refine lv_aload_n C.1 C.2.1 dX10_parts_82 rfl (lv_at hl 0 rfl) ?_
    refine g_X10_34 C hH kk_45 tw_848 dX10_parts_83 ?_
    refine lv_icmp_ge (tgt := 126) C.1 C.2.1 dX10_parts_86 (by decide) (fun q17 => ?_) (fun q17 => ?_)
    · have hf := (if_pos q17).symm.trans hf
      refine lv_aload_n C.1 C.2.1 dX10_parts_126 rfl (lv_at hl 0 rfl) ?_
      refine lv_aload_n C.1 C.2.1 dX10_parts_127 rfl (lv_at hl 0 rfl) ?_
      refine g_X10_34 C hH kk_45 tw_848 dX10_parts_128 ?_
      obtain ⟨q12, hc, hf⟩ := Option.bind_eq_some_iff.mp hf
      refine x_cv (n := 1) C hH (c_X10_workThrough l G I (I 45 34) hc) (kd_lt kk_45 (by decide)) (cE_10 kk_45) rfl tw_1060 tw_1057 tw_1059 tw_39 tw_57 (by decide +kernel) ⟨Nat.le_of_ble_eq_true rfl, Nat.le_of_ble_eq_true rfl⟩ rfl hl.1 rfl (Nat.le_of_ble_eq_true rfl) ⟨Nat.le_of_ble_eq_true rfl, Nat.le_of_ble_eq_true rfl⟩ dX10_parts_131 (fun H locs hH => ?_)
      refine lv_iconst (v := (0 : Int32)) C.1 C.2.1 dX10_parts_134 (by decide) ?_
      refine lv_istore (lv' := [(4, .int (0 : Int32)), (0, .ref (G.2.1 45))]) C.1 C.2.1 dX10_parts_135 hl (by decide) rfl (fun ls hl => ?_)
      exact w_X10_parts_L137 p0 p1 p2 C hr FU q12 (0 : Int32) _ _ _ hH (lv_sub hl [1, 0] rfl) hf
    · have hf := (if_neg q17).symm.trans hf
      refine lv_aload_n C.1 C.2.1 dX10_parts_89 rfl (lv_at hl 0 rfl) ?_
      refine g_X10_32 C hH kk_45 tw_846 dX10_parts_90 ?_
      refine lv_iload C.1 C.2.1 dX10_parts_93 (lv_at hl 1 rfl) ?_
      refine lv_aload_n C.1 C.2.1 dX10_parts_95 rfl (lv_at hl 0 rfl) ?_
      refine g_X10_5 C hH kk_45 tw_819 dX10_parts_96 ?_
      refine lv_if_ne (tgt := 112) C.1 C.2.1 dX10_parts_99 (by decide) (fun q16 => ?_) (fun q16 => ?_)
      · have hf := (if_neg q16).symm.trans hf
        refine lv_aload_n C.1 C.2.1 dX10_parts_112 rfl (lv_at hl 0 rfl) ?_
        refine g_X10_6 C hH kk_45 tw_820 dX10_parts_113 ?_
        refine lv_iload C.1 C.2.1 dX10_parts_116 (lv_at hl 1 rfl) ?_
        refine lv_iadd C.1 C.2.1 dX10_parts_118 ?_
        obtain ⟨q13, hf⟩ := itn hf
        refine x_iast C hH kk_59 q13 dX10_parts_119 (fun H locs hH => ?_)
        refine lv_iinc (v := (x4 + (1 : Int32))) (lv' := [(4, .int (x4 + (1 : Int32))), (0, .ref (G.2.1 45))]) C.1 C.2.1 dX10_parts_120 hl (k := 1) rfl rfl (by decide) rfl (fun ls hl => ?_)
        refine lv_goto (tgt := 80) C.1 C.2.1 dX10_parts_123 (by decide) ?_
        exact ih (st I 59 x4.toNatClampNeg ((I 45 6) + x4)) (x4 + (1 : Int32))  _ _ _ hH (lv_sub hl [1, 0] rfl) hf
      · have hf := (if_pos q16).symm.trans hf
        refine lv_aload_n C.1 C.2.1 dX10_parts_102 rfl (lv_at hl 0 rfl) ?_
        refine g_X10_1 C hH kk_45 tw_815 dX10_parts_103 ?_
        refine lv_iload C.1 C.2.1 dX10_parts_106 (lv_at hl 1 rfl) ?_
        obtain ⟨q14, hf⟩ := itn hf
        refine x_iald C hH kk_46 q14 dX10_parts_108 ?_
        refine lv_goto (tgt := 119) C.1 C.2.1 dX10_parts_109 (by decide) ?_
        obtain ⟨q15, hf⟩ := itn hf
        refine x_iast C hH kk_59 q15 dX10_parts_119 (fun H locs hH => ?_)
        refine lv_iinc (v := (x4 + (1 : Int32))) (lv' := [(4, .int (x4 + (1 : Int32))), (0, .ref (G.2.1 45))]) C.1 C.2.1 dX10_parts_120 hl (k := 1) rfl rfl (by decide) rfl (fun ls hl => ?_)
        refine lv_goto (tgt := 80) C.1 C.2.1 dX10_parts_123 (by decide) ?_
        exact ih (st I 59 x4.toNatClampNeg (I 46 x4.toNatClampNeg)) (x4 + (1 : Int32))  _ _ _ hH (lv_sub hl [1, 0] rfl) hf
def f_X10_parts (I : Mem) (p0 : Int32) (p1 : Int32) (p2 : Int32) : Option (Int32 × Mem) := if ((st I 45 0 (0 : Int32)) 45 3) = 0 then ((f_X10_refuse (st I 45 0 (0 : Int32)) (1 : Int32)).bind fun q1 => (some (q1.1, q1.2))) else (if ((st I 45 0 (0 : Int32)) 45 4) = 0 then ((f_X10_isEnd (st I 45 0 (0 : Int32)) p0 p1 p2).bind fun q2 => (if (b2i q2.1) = 0 then ((f_X10_refuse q2.2 (2 : Int32)).bind fun q3 => (some (q3.1, q3.2))) else (if (q2.2 45 5) = (2 : Int32) then ((f_X10_refuse q2.2 (2 : Int32)).bind fun q6 => (some (q6.1, q6.2))) else ((f_X10_beginEnd q2.2 p0 p1 p2).bind fun q4 => (if (q4 45 5) = 0 then (f_X10_parts_L80 p0 p1 p2 FU (st q4 45 34 (q4 45 2)) (0 : Int32)) else (f_X10_parts_L80 p0 p1 p2 FU (st q4 45 34 (q4 45 7)) (0 : Int32))))))) else ((f_X10_refuse (st I 45 0 (0 : Int32)) (1 : Int32)).bind fun q9 => (some (q9.1, q9.2))))
set_option maxHeartbeats 4000000 in
set_option maxRecDepth 100000 in
theorem c_X10_parts (l : Launch) (G : Gx) (I : Mem) (p0 : Int32) (p1 : Int32) (p2 : Int32) {res : Int32} {J : Mem} (hf : f_X10_parts I p0 p1 p2 = some (res, J)) : Mi l yX10_parts (.code yX10_parts cX10_parts 5 (some .int)) 3 72 G I [.ref (G.2.1 45), .int p0, .int p1, .int p2] res J := by
  refine Mi.of (by decide +kernel) (Nat.le_of_ble_eq_true rfl) (fun p e s m below meth c ls C hr hH hl => ?_)
  have hl : lv_has ls 5 [(0, .ref (G.2.1 45)), (1, .int p0), (2, .int p1), (3, .int p2)] := hl
  have hf : (if ((st I 45 0 (0 : Int32)) 45 3) = 0 then ((f_X10_refuse (st I 45 0 (0 : Int32)) (1 : Int32)).bind fun q1 => (some (q1.1, q1.2))) else (if ((st I 45 0 (0 : Int32)) 45 4) = 0 then ((f_X10_isEnd (st I 45 0 (0 : Int32)) p0 p1 p2).bind fun q2 => (if (b2i q2.1) = 0 then ((f_X10_refuse q2.2 (2 : Int32)).bind fun q3 => (some (q3.1, q3.2))) else (if (q2.2 45 5) = (2 : Int32) then ((f_X10_refuse q2.2 (2 : Int32)).bind fun q6 => (some (q6.1, q6.2))) else ((f_X10_beginEnd q2.2 p0 p1 p2).bind fun q4 => (if (q4 45 5) = 0 then (f_X10_parts_L80 p0 p1 p2 FU (st q4 45 34 (q4 45 2)) (0 : Int32)) else (f_X10_parts_L80 p0 p1 p2 FU (st q4 45 34 (q4 45 7)) (0 : Int32))))))) else ((f_X10_refuse (st I 45 0 (0 : Int32)) (1 : Int32)).bind fun q9 => (some (q9.1, q9.2))))) = _ := hf
  refine lv_aload_n C.1 C.2.1 dX10_parts_0 rfl (lv_at hl 0 rfl) ?_
  refine lv_iconst (v := (0 : Int32)) C.1 C.2.1 dX10_parts_1 (by decide) ?_
  refine p_X10_0 C hH kk_45  tw_814 dX10_parts_2 (fun H locs hH => ?_)
  refine lv_aload_n C.1 C.2.1 dX10_parts_5 rfl (lv_at hl 0 rfl) ?_
  refine g_X10_3 C hH kk_45 tw_817 dX10_parts_6 ?_
  refine lv_if_eq (tgt := 19) C.1 C.2.1 dX10_parts_9 (by decide) (fun q11 => ?_) (fun q11 => ?_)
  · have hf := (if_pos q11).symm.trans hf
    refine lv_aload_n C.1 C.2.1 dX10_parts_19 rfl (lv_at hl 0 rfl) ?_
    refine lv_iconst (v := (1 : Int32)) C.1 C.2.1 dX10_parts_20 (by decide) ?_
    obtain ⟨q1, hc, hf⟩ := Option.bind_eq_some_iff.mp hf
    refine x_ci (n := 1) C hH (c_X10_refuse l G (st I 45 0 (0 : Int32)) (1 : Int32) hc) (kd_lt kk_45 (by decide)) (cE_10 kk_45) rfl tw_956 tw_953 tw_955 tw_23 tw_57 (by decide +kernel) ⟨Nat.le_of_ble_eq_true rfl, Nat.le_of_ble_eq_true rfl⟩ rfl hl.1 rfl (Nat.le_of_ble_eq_true rfl) ⟨Nat.le_of_ble_eq_true rfl, Nat.le_of_ble_eq_true rfl⟩ dX10_parts_21 (fun H locs hH => ?_)
    cases hf
    exact x_iret C hr hH dX10_parts_24
  · have hf := (if_neg q11).symm.trans hf
    refine lv_aload_n C.1 C.2.1 dX10_parts_12 rfl (lv_at hl 0 rfl) ?_
    refine g_X10_4 C hH kk_45 tw_818 dX10_parts_13 ?_
    refine lv_if_eq (tgt := 25) C.1 C.2.1 dX10_parts_16 (by decide) (fun q10 => ?_) (fun q10 => ?_)
    · have hf := (if_pos q10).symm.trans hf
      refine lv_iload_n C.1 C.2.1 dX10_parts_25 rfl (lv_at hl 1 rfl) ?_
      refine lv_iload_n C.1 C.2.1 dX10_parts_26 rfl (lv_at hl 2 rfl) ?_
      refine lv_iload_n C.1 C.2.1 dX10_parts_27 rfl (lv_at hl 3 rfl) ?_
      obtain ⟨q2, hc, hf⟩ := Option.bind_eq_some_iff.mp hf
      refine x_si (n := 3) C hH (c_X10_isEnd l G (st I 45 0 (0 : Int32)) p0 p1 p2 hc) tw_982 tw_980 tw_981 tw_57 (by decide +kernel) ⟨Nat.le_of_ble_eq_true rfl, Nat.le_of_ble_eq_true rfl⟩ rfl hl.1 rfl (Nat.le_of_ble_eq_true rfl) ⟨Nat.le_of_ble_eq_true rfl, Nat.le_of_ble_eq_true rfl⟩ dX10_parts_28 (fun H locs hH => ?_)
      refine lv_if_eq (tgt := 42) C.1 C.2.1 dX10_parts_31 (by decide) (fun q8 => ?_) (fun q8 => ?_)
      · have hf := (if_pos q8).symm.trans hf
        refine lv_aload_n C.1 C.2.1 dX10_parts_42 rfl (lv_at hl 0 rfl) ?_
        refine lv_iconst (v := (2 : Int32)) C.1 C.2.1 dX10_parts_43 (by decide) ?_
        obtain ⟨q3, hc, hf⟩ := Option.bind_eq_some_iff.mp hf
        refine x_ci (n := 1) C hH (c_X10_refuse l G q2.2 (2 : Int32) hc) (kd_lt kk_45 (by decide)) (cE_10 kk_45) rfl tw_956 tw_953 tw_955 tw_23 tw_57 (by decide +kernel) ⟨Nat.le_of_ble_eq_true rfl, Nat.le_of_ble_eq_true rfl⟩ rfl hl.1 rfl (Nat.le_of_ble_eq_true rfl) ⟨Nat.le_of_ble_eq_true rfl, Nat.le_of_ble_eq_true rfl⟩ dX10_parts_44 (fun H locs hH => ?_)
        cases hf
        exact x_iret C hr hH dX10_parts_47
      · have hf := (if_neg q8).symm.trans hf
        refine lv_aload_n C.1 C.2.1 dX10_parts_34 rfl (lv_at hl 0 rfl) ?_
        refine g_X10_5 C hH kk_45 tw_819 dX10_parts_35 ?_
        refine lv_iconst (v := (2 : Int32)) C.1 C.2.1 dX10_parts_38 (by decide) ?_
        refine lv_icmp_ne (tgt := 48) C.1 C.2.1 dX10_parts_39 (by decide) (fun q7 => ?_) (fun q7 => ?_)
        · have hf := (if_neg q7).symm.trans hf
          refine lv_aload_n C.1 C.2.1 dX10_parts_48 rfl (lv_at hl 0 rfl) ?_
          refine lv_iload_n C.1 C.2.1 dX10_parts_49 rfl (lv_at hl 1 rfl) ?_
          refine lv_iload_n C.1 C.2.1 dX10_parts_50 rfl (lv_at hl 2 rfl) ?_
          refine lv_iload_n C.1 C.2.1 dX10_parts_51 rfl (lv_at hl 3 rfl) ?_
          obtain ⟨q4, hc, hf⟩ := Option.bind_eq_some_iff.mp hf
          refine x_cv (n := 3) C hH (c_X10_beginEnd l G q2.2 p0 p1 p2 hc) (kd_lt kk_45 (by decide)) (cE_10 kk_45) rfl tw_986 tw_983 tw_985 tw_24 tw_57 (by decide +kernel) ⟨Nat.le_of_ble_eq_true rfl, Nat.le_of_ble_eq_true rfl⟩ rfl hl.1 rfl (Nat.le_of_ble_eq_true rfl) ⟨Nat.le_of_ble_eq_true rfl, Nat.le_of_ble_eq_true rfl⟩ dX10_parts_52 (fun H locs hH => ?_)
          refine lv_aload_n C.1 C.2.1 dX10_parts_55 rfl (lv_at hl 0 rfl) ?_
          refine lv_aload_n C.1 C.2.1 dX10_parts_56 rfl (lv_at hl 0 rfl) ?_
          refine g_X10_5 C hH kk_45 tw_819 dX10_parts_57 ?_
          refine lv_if_ne (tgt := 70) C.1 C.2.1 dX10_parts_60 (by decide) (fun q5 => ?_) (fun q5 => ?_)
          · have hf := (if_neg q5).symm.trans hf
            refine lv_aload_n C.1 C.2.1 dX10_parts_70 rfl (lv_at hl 0 rfl) ?_
            refine g_X10_7 C hH kk_45 tw_821 dX10_parts_71 ?_
            refine p_X10_34 C hH kk_45  tw_848 dX10_parts_74 (fun H locs hH => ?_)
            refine lv_iconst (v := (0 : Int32)) C.1 C.2.1 dX10_parts_77 (by decide) ?_
            refine lv_istore (lv' := [(4, .int (0 : Int32)), (0, .ref (G.2.1 45)), (1, .int p0), (2, .int p1), (3, .int p2)]) C.1 C.2.1 dX10_parts_78 hl (by decide) rfl (fun ls hl => ?_)
            exact w_X10_parts_L80 p0 p1 p2 C hr FU (st q4 45 34 (q4 45 7)) (0 : Int32) _ _ _ hH (lv_sub hl [1, 0] rfl) hf
          · have hf := (if_pos q5).symm.trans hf
            refine lv_aload_n C.1 C.2.1 dX10_parts_63 rfl (lv_at hl 0 rfl) ?_
            refine g_X10_2 C hH kk_45 tw_816 dX10_parts_64 ?_
            refine lv_goto (tgt := 74) C.1 C.2.1 dX10_parts_67 (by decide) ?_
            refine p_X10_34 C hH kk_45  tw_848 dX10_parts_74 (fun H locs hH => ?_)
            refine lv_iconst (v := (0 : Int32)) C.1 C.2.1 dX10_parts_77 (by decide) ?_
            refine lv_istore (lv' := [(4, .int (0 : Int32)), (0, .ref (G.2.1 45)), (1, .int p0), (2, .int p1), (3, .int p2)]) C.1 C.2.1 dX10_parts_78 hl (by decide) rfl (fun ls hl => ?_)
            exact w_X10_parts_L80 p0 p1 p2 C hr FU (st q4 45 34 (q4 45 2)) (0 : Int32) _ _ _ hH (lv_sub hl [1, 0] rfl) hf
        · have hf := (if_pos q7).symm.trans hf
          refine lv_aload_n C.1 C.2.1 dX10_parts_42 rfl (lv_at hl 0 rfl) ?_
          refine lv_iconst (v := (2 : Int32)) C.1 C.2.1 dX10_parts_43 (by decide) ?_
          obtain ⟨q6, hc, hf⟩ := Option.bind_eq_some_iff.mp hf
          refine x_ci (n := 1) C hH (c_X10_refuse l G q2.2 (2 : Int32) hc) (kd_lt kk_45 (by decide)) (cE_10 kk_45) rfl tw_956 tw_953 tw_955 tw_23 tw_57 (by decide +kernel) ⟨Nat.le_of_ble_eq_true rfl, Nat.le_of_ble_eq_true rfl⟩ rfl hl.1 rfl (Nat.le_of_ble_eq_true rfl) ⟨Nat.le_of_ble_eq_true rfl, Nat.le_of_ble_eq_true rfl⟩ dX10_parts_44 (fun H locs hH => ?_)
          cases hf
          exact x_iret C hr hH dX10_parts_47
    · have hf := (if_neg q10).symm.trans hf
      refine lv_aload_n C.1 C.2.1 dX10_parts_19 rfl (lv_at hl 0 rfl) ?_
      refine lv_iconst (v := (1 : Int32)) C.1 C.2.1 dX10_parts_20 (by decide) ?_
      obtain ⟨q9, hc, hf⟩ := Option.bind_eq_some_iff.mp hf
      refine x_ci (n := 1) C hH (c_X10_refuse l G (st I 45 0 (0 : Int32)) (1 : Int32) hc) (kd_lt kk_45 (by decide)) (cE_10 kk_45) rfl tw_956 tw_953 tw_955 tw_23 tw_57 (by decide +kernel) ⟨Nat.le_of_ble_eq_true rfl, Nat.le_of_ble_eq_true rfl⟩ rfl hl.1 rfl (Nat.le_of_ble_eq_true rfl) ⟨Nat.le_of_ble_eq_true rfl, Nat.le_of_ble_eq_true rfl⟩ dX10_parts_21 (fun H locs hH => ?_)
      cases hf
      exact x_iret C hr hH dX10_parts_24
def f_X10_seen (I : Mem) (p0 : Int32) : Option (Int32 × Mem) := if ((st I 45 0 (0 : Int32)) 45 3) = 0 then (some ((-1 : Int32), (st I 45 0 (0 : Int32)))) else (if p0 < 0 then (some ((-1 : Int32), (st I 45 0 (0 : Int32)))) else (if ((st I 45 0 (0 : Int32)) 45 9) ≤ p0 then (some ((-1 : Int32), (st I 45 0 (0 : Int32)))) else (if inb p0 (ln 50) = true then (some (((st I 45 0 (0 : Int32)) 50 p0.toNatClampNeg), (st I 45 0 (0 : Int32)))) else none)))
set_option maxHeartbeats 4000000 in
set_option maxRecDepth 100000 in
theorem c_X10_seen (l : Launch) (G : Gx) (I : Mem) (p0 : Int32) {res : Int32} {J : Mem} (hf : f_X10_seen I p0 = some (res, J)) : Mi l yX10_seen (.code yX10_seen cX10_seen 2 (some .int)) 0 0 G I [.ref (G.2.1 45), .int p0] res J := by
  refine Mi.of (by decide +kernel) (Nat.le_of_ble_eq_true rfl) (fun p e s m below meth c ls C hr hH hl => ?_)
  have hl : lv_has ls 2 [(0, .ref (G.2.1 45)), (1, .int p0)] := hl
  have hf : (if ((st I 45 0 (0 : Int32)) 45 3) = 0 then (some ((-1 : Int32), (st I 45 0 (0 : Int32)))) else (if p0 < 0 then (some ((-1 : Int32), (st I 45 0 (0 : Int32)))) else (if ((st I 45 0 (0 : Int32)) 45 9) ≤ p0 then (some ((-1 : Int32), (st I 45 0 (0 : Int32)))) else (if inb p0 (ln 50) = true then (some (((st I 45 0 (0 : Int32)) 50 p0.toNatClampNeg), (st I 45 0 (0 : Int32)))) else none)))) = _ := hf
  refine lv_aload_n C.1 C.2.1 dX10_seen_0 rfl (lv_at hl 0 rfl) ?_
  refine lv_iconst (v := (0 : Int32)) C.1 C.2.1 dX10_seen_1 (by decide) ?_
  refine p_X10_0 C hH kk_45  tw_814 dX10_seen_2 (fun H locs hH => ?_)
  refine lv_aload_n C.1 C.2.1 dX10_seen_5 rfl (lv_at hl 0 rfl) ?_
  refine g_X10_3 C hH kk_45 tw_817 dX10_seen_6 ?_
  refine lv_if_eq (tgt := 33) C.1 C.2.1 dX10_seen_9 (by decide) (fun q4 => ?_) (fun q4 => ?_)
  · have hf := (if_pos q4).symm.trans hf
    refine lv_iconst (v := (-1 : Int32)) C.1 C.2.1 dX10_seen_33 (by decide) ?_
    cases hf
    exact x_iret C hr hH dX10_seen_34
  · have hf := (if_neg q4).symm.trans hf
    refine lv_iload_n C.1 C.2.1 dX10_seen_12 rfl (lv_at hl 1 rfl) ?_
    refine lv_if_lt (tgt := 33) C.1 C.2.1 dX10_seen_13 (by decide) (fun q3 => ?_) (fun q3 => ?_)
    · have hf := (if_pos q3).symm.trans hf
      refine lv_iconst (v := (-1 : Int32)) C.1 C.2.1 dX10_seen_33 (by decide) ?_
      cases hf
      exact x_iret C hr hH dX10_seen_34
    · have hf := (if_neg q3).symm.trans hf
      refine lv_iload_n C.1 C.2.1 dX10_seen_16 rfl (lv_at hl 1 rfl) ?_
      refine lv_aload_n C.1 C.2.1 dX10_seen_17 rfl (lv_at hl 0 rfl) ?_
      refine g_X10_9 C hH kk_45 tw_823 dX10_seen_18 ?_
      refine lv_icmp_ge (tgt := 33) C.1 C.2.1 dX10_seen_21 (by decide) (fun q2 => ?_) (fun q2 => ?_)
      · have hf := (if_pos q2).symm.trans hf
        refine lv_iconst (v := (-1 : Int32)) C.1 C.2.1 dX10_seen_33 (by decide) ?_
        cases hf
        exact x_iret C hr hH dX10_seen_34
      · have hf := (if_neg q2).symm.trans hf
        refine lv_aload_n C.1 C.2.1 dX10_seen_24 rfl (lv_at hl 0 rfl) ?_
        refine g_X10_13 C hH kk_45 tw_827 dX10_seen_25 ?_
        refine lv_iload_n C.1 C.2.1 dX10_seen_28 rfl (lv_at hl 1 rfl) ?_
        obtain ⟨q1, hf⟩ := itn hf
        refine x_iald C hH kk_50 q1 dX10_seen_29 ?_
        refine lv_goto (tgt := 34) C.1 C.2.1 dX10_seen_30 (by decide) ?_
        cases hf
        exact x_iret C hr hH dX10_seen_34
def f_X10_kept (I : Mem) (p0 : Int32) : Option (Int32 × Mem) := if p0 < 0 then (if ((st I 45 0 (1 : Int32)) 45 0) = 0 then (if inb p0 (ln 58) = true then (some (((st I 45 0 (1 : Int32)) 58 p0.toNatClampNeg), (st I 45 0 (1 : Int32)))) else none) else (some ((0 : Int32), (st I 45 0 (1 : Int32))))) else (if (I 45 30) ≤ p0 then (if ((st I 45 0 (1 : Int32)) 45 0) = 0 then (if inb p0 (ln 58) = true then (some (((st I 45 0 (1 : Int32)) 58 p0.toNatClampNeg), (st I 45 0 (1 : Int32)))) else none) else (some ((0 : Int32), (st I 45 0 (1 : Int32))))) else (if ((st I 45 0 (0 : Int32)) 45 0) = 0 then (if inb p0 (ln 58) = true then (some (((st I 45 0 (0 : Int32)) 58 p0.toNatClampNeg), (st I 45 0 (0 : Int32)))) else none) else (some ((0 : Int32), (st I 45 0 (0 : Int32))))))
set_option maxHeartbeats 4000000 in
set_option maxRecDepth 100000 in
theorem c_X10_kept (l : Launch) (G : Gx) (I : Mem) (p0 : Int32) {res : Int32} {J : Mem} (hf : f_X10_kept I p0 = some (res, J)) : Mi l yX10_kept (.code yX10_kept cX10_kept 2 (some .int)) 0 0 G I [.ref (G.2.1 45), .int p0] res J := by
  refine Mi.of (by decide +kernel) (Nat.le_of_ble_eq_true rfl) (fun p e s m below meth c ls C hr hH hl => ?_)
  have hl : lv_has ls 2 [(0, .ref (G.2.1 45)), (1, .int p0)] := hl
  have hf : (if p0 < 0 then (if ((st I 45 0 (1 : Int32)) 45 0) = 0 then (if inb p0 (ln 58) = true then (some (((st I 45 0 (1 : Int32)) 58 p0.toNatClampNeg), (st I 45 0 (1 : Int32)))) else none) else (some ((0 : Int32), (st I 45 0 (1 : Int32))))) else (if (I 45 30) ≤ p0 then (if ((st I 45 0 (1 : Int32)) 45 0) = 0 then (if inb p0 (ln 58) = true then (some (((st I 45 0 (1 : Int32)) 58 p0.toNatClampNeg), (st I 45 0 (1 : Int32)))) else none) else (some ((0 : Int32), (st I 45 0 (1 : Int32))))) else (if ((st I 45 0 (0 : Int32)) 45 0) = 0 then (if inb p0 (ln 58) = true then (some (((st I 45 0 (0 : Int32)) 58 p0.toNatClampNeg), (st I 45 0 (0 : Int32)))) else none) else (some ((0 : Int32), (st I 45 0 (0 : Int32))))))) = _ := hf
  refine lv_aload_n C.1 C.2.1 dX10_kept_0 rfl (lv_at hl 0 rfl) ?_
  refine lv_iload_n C.1 C.2.1 dX10_kept_1 rfl (lv_at hl 1 rfl) ?_
  refine lv_if_lt (tgt := 17) C.1 C.2.1 dX10_kept_2 (by decide) (fun q8 => ?_) (fun q8 => ?_)
  · have hf := (if_pos q8).symm.trans hf
    refine lv_iconst (v := (1 : Int32)) C.1 C.2.1 dX10_kept_17 (by decide) ?_
    refine p_X10_0 C hH kk_45  tw_814 dX10_kept_18 (fun H locs hH => ?_)
    refine lv_aload_n C.1 C.2.1 dX10_kept_21 rfl (lv_at hl 0 rfl) ?_
    refine g_X10_0 C hH kk_45 tw_814 dX10_kept_22 ?_
    refine lv_if_ne (tgt := 37) C.1 C.2.1 dX10_kept_25 (by decide) (fun q2 => ?_) (fun q2 => ?_)
    · have hf := (if_neg q2).symm.trans hf
      refine lv_iconst (v := (0 : Int32)) C.1 C.2.1 dX10_kept_37 (by decide) ?_
      cases hf
      exact x_iret C hr hH dX10_kept_38
    · have hf := (if_pos q2).symm.trans hf
      refine lv_aload_n C.1 C.2.1 dX10_kept_28 rfl (lv_at hl 0 rfl) ?_
      refine g_X10_31 C hH kk_45 tw_845 dX10_kept_29 ?_
      refine lv_iload_n C.1 C.2.1 dX10_kept_32 rfl (lv_at hl 1 rfl) ?_
      obtain ⟨q1, hf⟩ := itn hf
      refine x_iald C hH kk_58 q1 dX10_kept_33 ?_
      refine lv_goto (tgt := 38) C.1 C.2.1 dX10_kept_34 (by decide) ?_
      cases hf
      exact x_iret C hr hH dX10_kept_38
  · have hf := (if_neg q8).symm.trans hf
    refine lv_iload_n C.1 C.2.1 dX10_kept_5 rfl (lv_at hl 1 rfl) ?_
    refine lv_aload_n C.1 C.2.1 dX10_kept_6 rfl (lv_at hl 0 rfl) ?_
    refine g_X10_30 C hH kk_45 tw_844 dX10_kept_7 ?_
    refine lv_icmp_ge (tgt := 17) C.1 C.2.1 dX10_kept_10 (by decide) (fun q7 => ?_) (fun q7 => ?_)
    · have hf := (if_pos q7).symm.trans hf
      refine lv_iconst (v := (1 : Int32)) C.1 C.2.1 dX10_kept_17 (by decide) ?_
      refine p_X10_0 C hH kk_45  tw_814 dX10_kept_18 (fun H locs hH => ?_)
      refine lv_aload_n C.1 C.2.1 dX10_kept_21 rfl (lv_at hl 0 rfl) ?_
      refine g_X10_0 C hH kk_45 tw_814 dX10_kept_22 ?_
      refine lv_if_ne (tgt := 37) C.1 C.2.1 dX10_kept_25 (by decide) (fun q4 => ?_) (fun q4 => ?_)
      · have hf := (if_neg q4).symm.trans hf
        refine lv_iconst (v := (0 : Int32)) C.1 C.2.1 dX10_kept_37 (by decide) ?_
        cases hf
        exact x_iret C hr hH dX10_kept_38
      · have hf := (if_pos q4).symm.trans hf
        refine lv_aload_n C.1 C.2.1 dX10_kept_28 rfl (lv_at hl 0 rfl) ?_
        refine g_X10_31 C hH kk_45 tw_845 dX10_kept_29 ?_
        refine lv_iload_n C.1 C.2.1 dX10_kept_32 rfl (lv_at hl 1 rfl) ?_
        obtain ⟨q3, hf⟩ := itn hf
        refine x_iald C hH kk_58 q3 dX10_kept_33 ?_
        refine lv_goto (tgt := 38) C.1 C.2.1 dX10_kept_34 (by decide) ?_
        cases hf
        exact x_iret C hr hH dX10_kept_38
    · have hf := (if_neg q7).symm.trans hf
      refine lv_iconst (v := (0 : Int32)) C.1 C.2.1 dX10_kept_13 (by decide) ?_
      refine lv_goto (tgt := 18) C.1 C.2.1 dX10_kept_14 (by decide) ?_
      refine p_X10_0 C hH kk_45  tw_814 dX10_kept_18 (fun H locs hH => ?_)
      refine lv_aload_n C.1 C.2.1 dX10_kept_21 rfl (lv_at hl 0 rfl) ?_
      refine g_X10_0 C hH kk_45 tw_814 dX10_kept_22 ?_
      refine lv_if_ne (tgt := 37) C.1 C.2.1 dX10_kept_25 (by decide) (fun q6 => ?_) (fun q6 => ?_)
      · have hf := (if_neg q6).symm.trans hf
        refine lv_iconst (v := (0 : Int32)) C.1 C.2.1 dX10_kept_37 (by decide) ?_
        cases hf
        exact x_iret C hr hH dX10_kept_38
      · have hf := (if_pos q6).symm.trans hf
        refine lv_aload_n C.1 C.2.1 dX10_kept_28 rfl (lv_at hl 0 rfl) ?_
        refine g_X10_31 C hH kk_45 tw_845 dX10_kept_29 ?_
        refine lv_iload_n C.1 C.2.1 dX10_kept_32 rfl (lv_at hl 1 rfl) ?_
        obtain ⟨q5, hf⟩ := itn hf
        refine x_iald C hH kk_58 q5 dX10_kept_33 ?_
        refine lv_goto (tgt := 38) C.1 C.2.1 dX10_kept_34 (by decide) ?_
        cases hf
        exact x_iret C hr hH dX10_kept_38
def f_X10_pooled (I : Mem) (p0 : Int32) : Option (Int32 × Mem) := if p0 < 0 then (some ((-1 : Int32), (st I 45 0 (0 : Int32)))) else (if (7 : Int32) ≤ p0 then (some ((-1 : Int32), (st I 45 0 (0 : Int32)))) else (if inb p0 (ln 64) = true then (some (((st I 45 0 (0 : Int32)) 64 p0.toNatClampNeg), (st I 45 0 (0 : Int32)))) else none))
set_option maxHeartbeats 4000000 in
set_option maxRecDepth 100000 in
theorem c_X10_pooled (l : Launch) (G : Gx) (I : Mem) (p0 : Int32) {res : Int32} {J : Mem} (hf : f_X10_pooled I p0 = some (res, J)) : Mi l yX10_pooled (.code yX10_pooled cX10_pooled 2 (some .int)) 0 0 G I [.ref (G.2.1 45), .int p0] res J := by
  refine Mi.of (by decide +kernel) (Nat.le_of_ble_eq_true rfl) (fun p e s m below meth c ls C hr hH hl => ?_)
  have hl : lv_has ls 2 [(0, .ref (G.2.1 45)), (1, .int p0)] := hl
  have hf : (if p0 < 0 then (some ((-1 : Int32), (st I 45 0 (0 : Int32)))) else (if (7 : Int32) ≤ p0 then (some ((-1 : Int32), (st I 45 0 (0 : Int32)))) else (if inb p0 (ln 64) = true then (some (((st I 45 0 (0 : Int32)) 64 p0.toNatClampNeg), (st I 45 0 (0 : Int32)))) else none))) = _ := hf
  refine lv_aload_n C.1 C.2.1 dX10_pooled_0 rfl (lv_at hl 0 rfl) ?_
  refine lv_iconst (v := (0 : Int32)) C.1 C.2.1 dX10_pooled_1 (by decide) ?_
  refine p_X10_0 C hH kk_45  tw_814 dX10_pooled_2 (fun H locs hH => ?_)
  refine lv_iload_n C.1 C.2.1 dX10_pooled_5 rfl (lv_at hl 1 rfl) ?_
  refine lv_if_lt (tgt := 24) C.1 C.2.1 dX10_pooled_6 (by decide) (fun q3 => ?_) (fun q3 => ?_)
  · have hf := (if_pos q3).symm.trans hf
    refine lv_iconst (v := (-1 : Int32)) C.1 C.2.1 dX10_pooled_24 (by decide) ?_
    cases hf
    exact x_iret C hr hH dX10_pooled_25
  · have hf := (if_neg q3).symm.trans hf
    refine lv_iload_n C.1 C.2.1 dX10_pooled_9 rfl (lv_at hl 1 rfl) ?_
    refine lv_bipush (v := (7 : Int32)) C.1 C.2.1 dX10_pooled_10 (by decide) ?_
    refine lv_icmp_ge (tgt := 24) C.1 C.2.1 dX10_pooled_12 (by decide) (fun q2 => ?_) (fun q2 => ?_)
    · have hf := (if_pos q2).symm.trans hf
      refine lv_iconst (v := (-1 : Int32)) C.1 C.2.1 dX10_pooled_24 (by decide) ?_
      cases hf
      exact x_iret C hr hH dX10_pooled_25
    · have hf := (if_neg q2).symm.trans hf
      refine lv_aload_n C.1 C.2.1 dX10_pooled_15 rfl (lv_at hl 0 rfl) ?_
      refine g_X10_42 C hH kk_45 tw_856 dX10_pooled_16 ?_
      refine lv_iload_n C.1 C.2.1 dX10_pooled_19 rfl (lv_at hl 1 rfl) ?_
      obtain ⟨q1, hf⟩ := itn hf
      refine x_iald C hH kk_64 q1 dX10_pooled_20 ?_
      refine lv_goto (tgt := 25) C.1 C.2.1 dX10_pooled_21 (by decide) ?_
      cases hf
      exact x_iret C hr hH dX10_pooled_25
