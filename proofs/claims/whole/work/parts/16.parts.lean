def f_X4_letFlat_L2 (p0 : Int32) (p1 : Int32)  : Nat → Mem → Int32 → Int32 → Int32 → Option (Bool × Mem)
  | 0, _, _, _, _ => none
  | n + 1, I, x1, x2, x3 => if x2 ≤ x3 then (some (true, I)) else ((f_X5_isFull I 33).bind fun q1 => (if (b2i q1.1) = 0 then ((f_X5_add q1.2 33 (x1 + x3)).bind fun q2 => (f_X4_letFlat_L2 p0 p1 n q2 x1 x2 (x3 + (1 : Int32)))) else (some (false, q1.2))))
set_option maxHeartbeats 4000000 in
set_option maxRecDepth 100000 in
theorem w_X4_letFlat_L2 {p : Program} {l : Launch} {e : Env} {s : State} {m : MethodId} {args : Array Value} {below : List Frame} {meth : Method} {c : Code} {G : Gx} (p0 : Int32) (p1 : Int32) {res : Bool} {J : Mem} (C : CX p l s m args meth c cX4_letFlat 4 yX4_letFlat.cls G) (hr : meth.sig.returnType = (some .boolean)) :
    ∀ (n : Nat) (I : Mem) (x1 : Int32) (x2 : Int32) (x3 : Int32) (H : Heap) (locs : List Loc) (ls : Array Slot), HW G s H locs I → lv_has ls 4 [(0, .ref (G.2.1 30)), (1, .int x1), (2, .int x2), (3, .int x3)] → f_X4_letFlat_L2 p0 p1 n I x1 x2 x3 = some (res, J) → W p l e { frames := 3, cells := 0, slots := 0, locals := 103 } s m args below meth c H locs 0 0 (MQ below (Qi9 G (b2i res) J s.heap.size) args s 0 0 (AA G s.heap.size)) (F0 m 2 ls []) := by
  intro n
  induction n with
  | zero => intro I x1 x2 x3  H locs ls hH hl hf; exact absurd hf (by simp [f_X4_letFlat_L2])
  | succ n ih =>
    intro I x1 x2 x3  H locs ls hH hl hf
    have hf : (if x2 ≤ x3 then (some (true, I)) else ((f_X5_isFull I 33).bind fun q1 => (if (b2i q1.1) = 0 then ((f_X5_add q1.2 33 (x1 + x3)).bind fun q2 => (f_X4_letFlat_L2 p0 p1 n q2 x1 x2 (x3 + (1 : Int32)))) else (some (false, q1.2))))) = _ := hf
    refine lv_iload_n C.1 C.2.1 dX4_letFlat_2 rfl (lv_at hl 3 rfl) ?_
    refine lv_iload_n C.1 C.2.1 dX4_letFlat_3 rfl (lv_at hl 2 rfl) ?_
    refine lv_icmp_ge (tgt := 35) C.1 C.2.1 dX4_letFlat_4 (by decide) (fun q4 => ?_) (fun q4 => ?_)
    · have hf := (if_pos q4).symm.trans hf
      refine lv_iconst (v := (1 : Int32)) C.1 C.2.1 dX4_letFlat_35 (by decide) ?_
      cases hf
      exact x_zret C hr hH rfl dX4_letFlat_36
    · have hf := (if_neg q4).symm.trans hf
      refine lv_aload_n C.1 C.2.1 dX4_letFlat_7 rfl (lv_at hl 0 rfl) ?_
      refine g_X4_3 C hH kk_30 tw_260 dX4_letFlat_8 ?_
      obtain ⟨q1, hc, hf⟩ := Option.bind_eq_some_iff.mp hf
      refine x_ci (n := 0) C hH (c_X5_isFull l G I 33 kk_33 hc) (kd_lt kk_33 (by decide)) (cE_5 kk_33) rfl tw_376 tw_790 tw_374 tw_375 tw_48 (by decide +kernel) ⟨Nat.le_of_ble_eq_true rfl, Nat.le_of_ble_eq_true rfl⟩ rfl hl.1 rfl (Nat.le_of_ble_eq_true rfl) ⟨Nat.le_of_ble_eq_true rfl, Nat.le_of_ble_eq_true rfl⟩ dX4_letFlat_11 (fun H locs hH => ?_)
      refine lv_if_eq (tgt := 19) C.1 C.2.1 dX4_letFlat_14 (by decide) (fun q3 => ?_) (fun q3 => ?_)
      · have hf := (if_pos q3).symm.trans hf
        refine lv_aload_n C.1 C.2.1 dX4_letFlat_19 rfl (lv_at hl 0 rfl) ?_
        refine g_X4_3 C hH kk_30 tw_260 dX4_letFlat_20 ?_
        refine lv_iload_n C.1 C.2.1 dX4_letFlat_23 rfl (lv_at hl 1 rfl) ?_
        refine lv_iload_n C.1 C.2.1 dX4_letFlat_24 rfl (lv_at hl 3 rfl) ?_
        refine lv_iadd C.1 C.2.1 dX4_letFlat_25 ?_
        obtain ⟨q2, hc, hf⟩ := Option.bind_eq_some_iff.mp hf
        refine x_cv (n := 1) C hH (c_X5_add l G q1.2 33 (x1 + x3) kk_33 hc) (kd_lt kk_33 (by decide)) (cE_5 kk_33) rfl tw_449 tw_781 tw_447 tw_448 tw_48 (by decide +kernel) ⟨Nat.le_of_ble_eq_true rfl, Nat.le_of_ble_eq_true rfl⟩ rfl hl.1 rfl (Nat.le_of_ble_eq_true rfl) ⟨Nat.le_of_ble_eq_true rfl, Nat.le_of_ble_eq_true rfl⟩ dX4_letFlat_26 (fun H locs hH => ?_)
        refine lv_iinc (v := (x3 + (1 : Int32))) (lv' := [(3, .int (x3 + (1 : Int32))), (0, .ref (G.2.1 30)), (1, .int x1), (2, .int x2)]) C.1 C.2.1 dX4_letFlat_29 hl (k := 3) rfl rfl (by decide) rfl (fun ls hl => ?_)
        refine lv_goto (tgt := 2) C.1 C.2.1 dX4_letFlat_32 (by decide) ?_
        exact ih q2 x1 x2 (x3 + (1 : Int32))  _ _ _ hH (lv_sub hl [1, 2, 3, 0] rfl) hf
      · have hf := (if_neg q3).symm.trans hf
        refine lv_iconst (v := (0 : Int32)) C.1 C.2.1 dX4_letFlat_17 (by decide) ?_
        cases hf
        exact x_zret C hr hH rfl dX4_letFlat_18
def f_X4_letFlat (I : Mem) (p0 : Int32) (p1 : Int32) : Option (Bool × Mem) := f_X4_letFlat_L2 p0 p1 FU I p0 p1 (0 : Int32)
set_option maxHeartbeats 4000000 in
set_option maxRecDepth 100000 in
theorem c_X4_letFlat (l : Launch) (G : Gx) (I : Mem) (p0 : Int32) (p1 : Int32) {res : Bool} {J : Mem} (hf : f_X4_letFlat I p0 p1 = some (res, J)) : Mi l yX4_letFlat (.code yX4_letFlat cX4_letFlat 4 (some .boolean)) 3 103 G I [.ref (G.2.1 30), .int p0, .int p1] (b2i res) J := by
  refine Mi.of (by decide +kernel) (Nat.le_of_ble_eq_true rfl) (fun p e s m below meth c ls C hr hH hl => ?_)
  have hl : lv_has ls 4 [(0, .ref (G.2.1 30)), (1, .int p0), (2, .int p1)] := hl
  have hf : (f_X4_letFlat_L2 p0 p1 FU I p0 p1 (0 : Int32)) = _ := hf
  refine lv_iconst (v := (0 : Int32)) C.1 C.2.1 dX4_letFlat_0 (by decide) ?_
  refine lv_istore_n (lv' := [(3, .int (0 : Int32)), (0, .ref (G.2.1 30)), (1, .int p0), (2, .int p1)]) C.1 C.2.1 dX4_letFlat_1 rfl hl (by decide) rfl (fun ls hl => ?_)
  exact w_X4_letFlat_L2 p0 p1 C hr FU I p0 p1 (0 : Int32) _ _ _ hH (lv_sub hl [1, 2, 3, 0] rfl) hf
def f_X4_workOn_L9 (p0 : Nat)  : Nat → Mem → Int32 → Option (Bool × Mem)
  | 0, _, _ => none
  | n + 1, I, x2 => if (I 31 1) ≤ x2 then (if (I p0 1) = (4 : Int32) then ((f_X5_copyFrom I 33 (p0 + 1)).bind fun q2 => (some (true, q2))) else (some (true, I))) else (if ((st I p0 4 ((I p0 4) + (1 : Int32))) p0 1) = (2 : Int32) then (if inb x2 (ln 32) = true then ((f_X4_letFlat (st I p0 4 ((I p0 4) + (1 : Int32))) ((st I p0 4 ((I p0 4) + (1 : Int32))) 32 x2.toNatClampNeg) ((st I p0 4 ((I p0 4) + (1 : Int32))) p0 3)).bind fun q11 => (if (b2i q11.1) = 0 then (some (false, q11.2)) else (f_X4_workOn_L9 p0 n q11.2 (x2 + (1 : Int32))))) else none) else (if inb x2 (ln 32) = true then ((f_X7_letsOn (st I p0 4 ((I p0 4) + (1 : Int32))) p0 ((st I p0 4 ((I p0 4) + (1 : Int32))) 32 x2.toNatClampNeg)).bind fun q5 => (if (b2i q5.1) = 0 then (f_X4_workOn_L9 p0 n q5.2 (x2 + (1 : Int32))) else (if inb x2 (ln 32) = true then ((f_X7_changed q5.2 p0 (q5.2 32 x2.toNatClampNeg)).bind fun q7 => ((f_X5_add q7.2 33 q7.1).bind fun q8 => (f_X4_workOn_L9 p0 n q8 (x2 + (1 : Int32))))) else none))) else none))
set_option maxHeartbeats 4000000 in
set_option maxRecDepth 100000 in
theorem w_X4_workOn_L9 {p : Program} {l : Launch} {e : Env} {s : State} {m : MethodId} {args : Array Value} {below : List Frame} {meth : Method} {c : Code} {G : Gx} (p0 : Nat) (hp0 : kd p0 = 7) {res : Bool} {J : Mem} (C : CX p l s m args meth c cX4_workOn 3 yX4_workOn.cls G) (hr : meth.sig.returnType = (some .boolean)) :
    ∀ (n : Nat) (I : Mem) (x2 : Int32) (H : Heap) (locs : List Loc) (ls : Array Slot), HW G s H locs I → lv_has ls 3 [(0, .ref (G.2.1 30)), (1, .ref (G.2.1 p0)), (2, .int x2)] → f_X4_workOn_L9 p0 n I x2 = some (res, J) → W p l e { frames := 4, cells := 0, slots := 0, locals := 126 } s m args below meth c H locs 0 0 (MQ below (Qi9 G (b2i res) J s.heap.size) args s 0 0 (AA G s.heap.size)) (F0 m 9 ls []) := by
  intro n
  induction n with
  | zero => intro I x2  H locs ls hH hl hf; exact absurd hf (by simp [f_X4_workOn_L9])
  | succ n ih =>
    intro I x2  H locs ls hH hl hf
    have hf : (if (I 31 1) ≤ x2 then (if (I p0 1) = (4 : Int32) then ((f_X5_copyFrom I 33 (p0 + 1)).bind fun q2 => (some (true, q2))) else (some (true, I))) else (if ((st I p0 4 ((I p0 4) + (1 : Int32))) p0 1) = (2 : Int32) then (if inb x2 (ln 32) = true then ((f_X4_letFlat (st I p0 4 ((I p0 4) + (1 : Int32))) ((st I p0 4 ((I p0 4) + (1 : Int32))) 32 x2.toNatClampNeg) ((st I p0 4 ((I p0 4) + (1 : Int32))) p0 3)).bind fun q11 => (if (b2i q11.1) = 0 then (some (false, q11.2)) else (f_X4_workOn_L9 p0 n q11.2 (x2 + (1 : Int32))))) else none) else (if inb x2 (ln 32) = true then ((f_X7_letsOn (st I p0 4 ((I p0 4) + (1 : Int32))) p0 ((st I p0 4 ((I p0 4) + (1 : Int32))) 32 x2.toNatClampNeg)).bind fun q5 => (if (b2i q5.1) = 0 then (f_X4_workOn_L9 p0 n q5.2 (x2 + (1 : Int32))) else (if inb x2 (ln 32) = true then ((f_X7_changed q5.2 p0 (q5.2 32 x2.toNatClampNeg)).bind fun q7 => ((f_X5_add q7.2 33 q7.1).bind fun q8 => (f_X4_workOn_L9 p0 n q8 (x2 + (1 : Int32))))) else none))) else none))) = _ := hf
    refine lv_iload_n C.1 C.2.1 dX4_workOn_9 rfl (lv_at hl 2 rfl) ?_
    refine lv_aload_n C.1 C.2.1 dX4_workOn_10 rfl (lv_at hl 0 rfl) ?_
    refine g_X4_2 C hH kk_30 tw_259 dX4_workOn_11 ?_
    refine gN_X5_1 C hH kk_31 tw_89 dX4_workOn_14 ?_
    refine lv_icmp_ge (tgt := 102) C.1 C.2.1 dX4_workOn_17 (by decide) (fun q14 => ?_) (fun q14 => ?_)
    · have hf := (if_pos q14).symm.trans hf
      refine lv_aload_n C.1 C.2.1 dX4_workOn_102 rfl (lv_at hl 1 rfl) ?_
      refine gN_X7_1 C hH hp0 tw_146 dX4_workOn_103 ?_
      refine lv_iconst (v := (4 : Int32)) C.1 C.2.1 dX4_workOn_106 (by decide) ?_
      refine lv_icmp_ne (tgt := 121) C.1 C.2.1 dX4_workOn_107 (by decide) (fun q3 => ?_) (fun q3 => ?_)
      · have hf := (if_neg q3).symm.trans hf
        refine lv_iconst (v := (1 : Int32)) C.1 C.2.1 dX4_workOn_121 (by decide) ?_
        cases hf
        exact x_zret C hr hH rfl dX4_workOn_122
      · have hf := (if_pos q3).symm.trans hf
        refine lv_aload_n C.1 C.2.1 dX4_workOn_110 rfl (lv_at hl 0 rfl) ?_
        refine g_X4_3 C hH kk_30 tw_260 dX4_workOn_111 ?_
        refine lv_aload_n C.1 C.2.1 dX4_workOn_114 rfl (lv_at hl 1 rfl) ?_
        refine gN_X7_0 C hH hp0 tw_143 dX4_workOn_115 ?_
        obtain ⟨q2, hc, hf⟩ := Option.bind_eq_some_iff.mp hf
        refine x_cv (n := 1) C hH (c_X5_copyFrom l G I 33 (p0 + 1) kk_33 (kd_held hp0) hc) (kd_lt kk_33 (by decide)) (cE_5 kk_33) rfl tw_796 tw_793 tw_794 tw_795 tw_48 (by decide +kernel) ⟨Nat.le_of_ble_eq_true rfl, Nat.le_of_ble_eq_true rfl⟩ rfl hl.1 rfl (Nat.le_of_ble_eq_true rfl) ⟨Nat.le_of_ble_eq_true rfl, Nat.le_of_ble_eq_true rfl⟩ dX4_workOn_118 (fun H locs hH => ?_)
        refine lv_iconst (v := (1 : Int32)) C.1 C.2.1 dX4_workOn_121 (by decide) ?_
        cases hf
        exact x_zret C hr hH rfl dX4_workOn_122
    · have hf := (if_neg q14).symm.trans hf
      refine lv_aload_n C.1 C.2.1 dX4_workOn_20 rfl (lv_at hl 1 rfl) ?_
      refine lv_dup C.1 C.2.1 dX4_workOn_21 rfl ?_
      refine gN_X7_4 C hH hp0 tw_152 dX4_workOn_22 ?_
      refine lv_iconst (v := (1 : Int32)) C.1 C.2.1 dX4_workOn_25 (by decide) ?_
      refine lv_iadd C.1 C.2.1 dX4_workOn_26 ?_
      refine pN_X7_4 C hH hp0  tw_152 dX4_workOn_27 (fun H locs hH => ?_)
      refine lv_aload_n C.1 C.2.1 dX4_workOn_30 rfl (lv_at hl 1 rfl) ?_
      refine gN_X7_1 C hH hp0 tw_146 dX4_workOn_31 ?_
      refine lv_iconst (v := (2 : Int32)) C.1 C.2.1 dX4_workOn_34 (by decide) ?_
      refine lv_icmp_ne (tgt := 60) C.1 C.2.1 dX4_workOn_35 (by decide) (fun q13 => ?_) (fun q13 => ?_)
      · have hf := (if_neg q13).symm.trans hf
        refine lv_aload_n C.1 C.2.1 dX4_workOn_60 rfl (lv_at hl 1 rfl) ?_
        refine lv_aload_n C.1 C.2.1 dX4_workOn_61 rfl (lv_at hl 0 rfl) ?_
        refine g_X4_2 C hH kk_30 tw_259 dX4_workOn_62 ?_
        refine gN_X5_0 C hH kk_31 tw_82 dX4_workOn_65 ?_
        refine lv_iload_n C.1 C.2.1 dX4_workOn_68 rfl (lv_at hl 2 rfl) ?_
        obtain ⟨q4, hf⟩ := itn hf
        refine x_iald C hH kk_32 q4 dX4_workOn_69 ?_
        obtain ⟨q5, hc, hf⟩ := Option.bind_eq_some_iff.mp hf
        refine x_ci (n := 1) C hH (c_X7_letsOn l G (st I p0 4 ((I p0 4) + (1 : Int32))) p0 ((st I p0 4 ((I p0 4) + (1 : Int32))) 32 x2.toNatClampNeg) hp0 hc) (kd_lt hp0 (by decide)) (cE_7 hp0) rfl tw_613 tw_791 tw_611 tw_612 tw_51 (by decide +kernel) ⟨Nat.le_of_ble_eq_true rfl, Nat.le_of_ble_eq_true rfl⟩ rfl hl.1 rfl (Nat.le_of_ble_eq_true rfl) ⟨Nat.le_of_ble_eq_true rfl, Nat.le_of_ble_eq_true rfl⟩ dX4_workOn_70 (fun H locs hH => ?_)
        refine lv_if_eq (tgt := 96) C.1 C.2.1 dX4_workOn_73 (by decide) (fun q9 => ?_) (fun q9 => ?_)
        · have hf := (if_pos q9).symm.trans hf
          refine lv_iinc (v := (x2 + (1 : Int32))) (lv' := [(2, .int (x2 + (1 : Int32))), (0, .ref (G.2.1 30)), (1, .ref (G.2.1 p0))]) C.1 C.2.1 dX4_workOn_96 hl (k := 2) rfl rfl (by decide) rfl (fun ls hl => ?_)
          refine lv_goto (tgt := 9) C.1 C.2.1 dX4_workOn_99 (by decide) ?_
          exact ih q5.2 (x2 + (1 : Int32))  _ _ _ hH (lv_sub hl [1, 2, 0] rfl) hf
        · have hf := (if_neg q9).symm.trans hf
          refine lv_aload_n C.1 C.2.1 dX4_workOn_76 rfl (lv_at hl 0 rfl) ?_
          refine g_X4_3 C hH kk_30 tw_260 dX4_workOn_77 ?_
          refine lv_aload_n C.1 C.2.1 dX4_workOn_80 rfl (lv_at hl 1 rfl) ?_
          refine lv_aload_n C.1 C.2.1 dX4_workOn_81 rfl (lv_at hl 0 rfl) ?_
          refine g_X4_2 C hH kk_30 tw_259 dX4_workOn_82 ?_
          refine gN_X5_0 C hH kk_31 tw_82 dX4_workOn_85 ?_
          refine lv_iload_n C.1 C.2.1 dX4_workOn_88 rfl (lv_at hl 2 rfl) ?_
          obtain ⟨q6, hf⟩ := itn hf
          refine x_iald C hH kk_32 q6 dX4_workOn_89 ?_
          obtain ⟨q7, hc, hf⟩ := Option.bind_eq_some_iff.mp hf
          refine x_ci (n := 1) C hH (c_X7_changed l G q5.2 p0 (q5.2 32 x2.toNatClampNeg) hp0 hc) (kd_lt hp0 (by decide)) (cE_7 hp0) rfl tw_636 tw_792 tw_634 tw_635 tw_51 (by decide +kernel) ⟨Nat.le_of_ble_eq_true rfl, Nat.le_of_ble_eq_true rfl⟩ rfl hl.1 rfl (Nat.le_of_ble_eq_true rfl) ⟨Nat.le_of_ble_eq_true rfl, Nat.le_of_ble_eq_true rfl⟩ dX4_workOn_90 (fun H locs hH => ?_)
          obtain ⟨q8, hc, hf⟩ := Option.bind_eq_some_iff.mp hf
          refine x_cv (n := 1) C hH (c_X5_add l G q7.2 33 q7.1 kk_33 hc) (kd_lt kk_33 (by decide)) (cE_5 kk_33) rfl tw_449 tw_781 tw_447 tw_448 tw_48 (by decide +kernel) ⟨Nat.le_of_ble_eq_true rfl, Nat.le_of_ble_eq_true rfl⟩ rfl hl.1 rfl (Nat.le_of_ble_eq_true rfl) ⟨Nat.le_of_ble_eq_true rfl, Nat.le_of_ble_eq_true rfl⟩ dX4_workOn_93 (fun H locs hH => ?_)
          refine lv_iinc (v := (x2 + (1 : Int32))) (lv' := [(2, .int (x2 + (1 : Int32))), (0, .ref (G.2.1 30)), (1, .ref (G.2.1 p0))]) C.1 C.2.1 dX4_workOn_96 hl (k := 2) rfl rfl (by decide) rfl (fun ls hl => ?_)
          refine lv_goto (tgt := 9) C.1 C.2.1 dX4_workOn_99 (by decide) ?_
          exact ih q8 (x2 + (1 : Int32))  _ _ _ hH (lv_sub hl [1, 2, 0] rfl) hf
      · have hf := (if_pos q13).symm.trans hf
        refine lv_aload_n C.1 C.2.1 dX4_workOn_38 rfl (lv_at hl 0 rfl) ?_
        refine lv_aload_n C.1 C.2.1 dX4_workOn_39 rfl (lv_at hl 0 rfl) ?_
        refine g_X4_2 C hH kk_30 tw_259 dX4_workOn_40 ?_
        refine gN_X5_0 C hH kk_31 tw_82 dX4_workOn_43 ?_
        refine lv_iload_n C.1 C.2.1 dX4_workOn_46 rfl (lv_at hl 2 rfl) ?_
        obtain ⟨q10, hf⟩ := itn hf
        refine x_iald C hH kk_32 q10 dX4_workOn_47 ?_
        refine lv_aload_n C.1 C.2.1 dX4_workOn_48 rfl (lv_at hl 1 rfl) ?_
        refine gN_X7_3 C hH hp0 tw_149 dX4_workOn_49 ?_
        obtain ⟨q11, hc, hf⟩ := Option.bind_eq_some_iff.mp hf
        refine x_ci (n := 2) C hH (c_X4_letFlat l G (st I p0 4 ((I p0 4) + (1 : Int32))) ((st I p0 4 ((I p0 4) + (1 : Int32))) 32 x2.toNatClampNeg) ((st I p0 4 ((I p0 4) + (1 : Int32))) p0 3) hc) (kd_lt kk_30 (by decide)) (cE_4 kk_30) rfl tw_789 tw_786 tw_788 tw_22 tw_54 (by decide +kernel) ⟨Nat.le_of_ble_eq_true rfl, Nat.le_of_ble_eq_true rfl⟩ rfl hl.1 rfl (Nat.le_of_ble_eq_true rfl) ⟨Nat.le_of_ble_eq_true rfl, Nat.le_of_ble_eq_true rfl⟩ dX4_workOn_52 (fun H locs hH => ?_)
        refine lv_if_ne (tgt := 96) C.1 C.2.1 dX4_workOn_55 (by decide) (fun q12 => ?_) (fun q12 => ?_)
        · have hf := (if_neg q12).symm.trans hf
          refine lv_iinc (v := (x2 + (1 : Int32))) (lv' := [(2, .int (x2 + (1 : Int32))), (0, .ref (G.2.1 30)), (1, .ref (G.2.1 p0))]) C.1 C.2.1 dX4_workOn_96 hl (k := 2) rfl rfl (by decide) rfl (fun ls hl => ?_)
          refine lv_goto (tgt := 9) C.1 C.2.1 dX4_workOn_99 (by decide) ?_
          exact ih q11.2 (x2 + (1 : Int32))  _ _ _ hH (lv_sub hl [1, 2, 0] rfl) hf
        · have hf := (if_pos q12).symm.trans hf
          refine lv_iconst (v := (0 : Int32)) C.1 C.2.1 dX4_workOn_58 (by decide) ?_
          cases hf
          exact x_zret C hr hH rfl dX4_workOn_59
def f_X4_workOn (I : Mem) (p0 : Nat) : Option (Bool × Mem) := (f_X5_clear I 33).bind fun q1 => (f_X4_workOn_L9 p0 FU q1 (0 : Int32))
set_option maxHeartbeats 4000000 in
set_option maxRecDepth 100000 in
theorem c_X4_workOn (l : Launch) (G : Gx) (I : Mem) (p0 : Nat) (hp0 : kd p0 = 7) {res : Bool} {J : Mem} (hf : f_X4_workOn I p0 = some (res, J)) : Mi l yX4_workOn (.code yX4_workOn cX4_workOn 3 (some .boolean)) 4 126 G I [.ref (G.2.1 30), .ref (G.2.1 p0)] (b2i res) J := by
  refine Mi.of (by decide +kernel) (Nat.le_of_ble_eq_true rfl) (fun p e s m below meth c ls C hr hH hl => ?_)
  have hl : lv_has ls 3 [(0, .ref (G.2.1 30)), (1, .ref (G.2.1 p0))] := hl
  have hf : ((f_X5_clear I 33).bind fun q1 => (f_X4_workOn_L9 p0 FU q1 (0 : Int32))) = _ := hf
  refine lv_aload_n C.1 C.2.1 dX4_workOn_0 rfl (lv_at hl 0 rfl) ?_
  refine g_X4_3 C hH kk_30 tw_260 dX4_workOn_1 ?_
  obtain ⟨q1, hc, hf⟩ := Option.bind_eq_some_iff.mp hf
  refine x_cv (n := 0) C hH (c_X5_clear l G I 33 kk_33 hc) (kd_lt kk_33 (by decide)) (cE_5 kk_33) rfl tw_349 tw_778 tw_347 tw_348 tw_48 (by decide +kernel) ⟨Nat.le_of_ble_eq_true rfl, Nat.le_of_ble_eq_true rfl⟩ rfl hl.1 rfl (Nat.le_of_ble_eq_true rfl) ⟨Nat.le_of_ble_eq_true rfl, Nat.le_of_ble_eq_true rfl⟩ dX4_workOn_4 (fun H locs hH => ?_)
  refine lv_iconst (v := (0 : Int32)) C.1 C.2.1 dX4_workOn_7 (by decide) ?_
  refine lv_istore_n (lv' := [(2, .int (0 : Int32)), (0, .ref (G.2.1 30)), (1, .ref (G.2.1 p0))]) C.1 C.2.1 dX4_workOn_8 rfl hl (by decide) rfl (fun ls hl => ?_)
  exact w_X4_workOn_L9 p0 hp0 C hr FU q1 (0 : Int32) _ _ _ hH (lv_sub hl [1, 2, 0] rfl) hf
def f_X4_takeSource_L9   : Nat → Mem → Int32 → Option Mem
  | 0, _, _ => none
  | n + 1, I, x1 => if (40 : Int32) ≤ x1 then (some I) else ((f_X6_hasMore I).bind fun q2 => (if (b2i q2.1) = 0 then (some q2.2) else ((f_X6_next q2.2).bind fun q3 => ((f_X5_add q3.2 31 q3.1).bind fun q4 => (f_X4_takeSource_L9 n q4 (x1 + (1 : Int32)))))))
set_option maxHeartbeats 4000000 in
set_option maxRecDepth 100000 in
theorem w_X4_takeSource_L9 {p : Program} {l : Launch} {e : Env} {s : State} {m : MethodId} {args : Array Value} {below : List Frame} {meth : Method} {c : Code} {G : Gx} {J : Mem} (C : CX p l s m args meth c cX4_takeSource 2 yX4_takeSource.cls G) (hr : meth.sig.returnType = none) :
    ∀ (n : Nat) (I : Mem) (x1 : Int32) (H : Heap) (locs : List Loc) (ls : Array Slot), HW G s H locs I → lv_has ls 2 [(0, .ref (G.2.1 30)), (1, .int x1)] → f_X4_takeSource_L9 n I x1 = some J → W p l e { frames := 3, cells := 0, slots := 0, locals := 103 } s m args below meth c H locs 0 0 (MQ below (Qv9 G J s.heap.size) args s 0 0 (AA G s.heap.size)) (F0 m 9 ls []) := by
  intro n
  induction n with
  | zero => intro I x1  H locs ls hH hl hf; exact absurd hf (by simp [f_X4_takeSource_L9])
  | succ n ih =>
    intro I x1  H locs ls hH hl hf
    have hf : (if (40 : Int32) ≤ x1 then (some I) else ((f_X6_hasMore I).bind fun q2 => (if (b2i q2.1) = 0 then (some q2.2) else ((f_X6_next q2.2).bind fun q3 => ((f_X5_add q3.2 31 q3.1).bind fun q4 => (f_X4_takeSource_L9 n q4 (x1 + (1 : Int32)))))))) = _ := hf
    refine lv_iload_n C.1 C.2.1 dX4_takeSource_9 rfl (lv_at hl 1 rfl) ?_
    refine lv_bipush (v := (40 : Int32)) C.1 C.2.1 dX4_takeSource_10 (by decide) ?_
    refine lv_icmp_ge (tgt := 51) C.1 C.2.1 dX4_takeSource_12 (by decide) (fun q6 => ?_) (fun q6 => ?_)
    · have hf := (if_pos q6).symm.trans hf
      cases hf
      exact x_vret C hr hH dX4_takeSource_51
    · have hf := (if_neg q6).symm.trans hf
      refine lv_aload_n C.1 C.2.1 dX4_takeSource_15 rfl (lv_at hl 0 rfl) ?_
      refine g_X4_0 C hH kk_30 tw_257 dX4_takeSource_16 ?_
      refine gN_X3_0 C hH kk_3 tw_171 dX4_takeSource_19 ?_
      obtain ⟨q2, hc, hf⟩ := Option.bind_eq_some_iff.mp hf
      refine x_ci (n := 0) C hH (c_X6_hasMore l G I  hc) (kd_lt kk_4 (by decide)) (cE_6 kk_4) rfl tw_577 tw_779 tw_575 tw_576 tw_50 (by decide +kernel) ⟨Nat.le_of_ble_eq_true rfl, Nat.le_of_ble_eq_true rfl⟩ rfl hl.1 rfl (Nat.le_of_ble_eq_true rfl) ⟨Nat.le_of_ble_eq_true rfl, Nat.le_of_ble_eq_true rfl⟩ dX4_takeSource_22 (fun H locs hH => ?_)
      refine lv_if_eq (tgt := 51) C.1 C.2.1 dX4_takeSource_25 (by decide) (fun q5 => ?_) (fun q5 => ?_)
      · have hf := (if_pos q5).symm.trans hf
        cases hf
        exact x_vret C hr hH dX4_takeSource_51
      · have hf := (if_neg q5).symm.trans hf
        refine lv_aload_n C.1 C.2.1 dX4_takeSource_28 rfl (lv_at hl 0 rfl) ?_
        refine g_X4_2 C hH kk_30 tw_259 dX4_takeSource_29 ?_
        refine lv_aload_n C.1 C.2.1 dX4_takeSource_32 rfl (lv_at hl 0 rfl) ?_
        refine g_X4_0 C hH kk_30 tw_257 dX4_takeSource_33 ?_
        refine gN_X3_0 C hH kk_3 tw_171 dX4_takeSource_36 ?_
        obtain ⟨q3, hc, hf⟩ := Option.bind_eq_some_iff.mp hf
        refine x_ci (n := 0) C hH (c_X6_next l G q2.2  hc) (kd_lt kk_4 (by decide)) (cE_6 kk_4) rfl tw_601 tw_780 tw_599 tw_600 tw_50 (by decide +kernel) ⟨Nat.le_of_ble_eq_true rfl, Nat.le_of_ble_eq_true rfl⟩ rfl hl.1 rfl (Nat.le_of_ble_eq_true rfl) ⟨Nat.le_of_ble_eq_true rfl, Nat.le_of_ble_eq_true rfl⟩ dX4_takeSource_39 (fun H locs hH => ?_)
        obtain ⟨q4, hc, hf⟩ := Option.bind_eq_some_iff.mp hf
        refine x_cv (n := 1) C hH (c_X5_add l G q3.2 31 q3.1 kk_31 hc) (kd_lt kk_31 (by decide)) (cE_5 kk_31) rfl tw_449 tw_781 tw_447 tw_448 tw_48 (by decide +kernel) ⟨Nat.le_of_ble_eq_true rfl, Nat.le_of_ble_eq_true rfl⟩ rfl hl.1 rfl (Nat.le_of_ble_eq_true rfl) ⟨Nat.le_of_ble_eq_true rfl, Nat.le_of_ble_eq_true rfl⟩ dX4_takeSource_42 (fun H locs hH => ?_)
        refine lv_iinc (v := (x1 + (1 : Int32))) (lv' := [(1, .int (x1 + (1 : Int32))), (0, .ref (G.2.1 30))]) C.1 C.2.1 dX4_takeSource_45 hl (k := 1) rfl rfl (by decide) rfl (fun ls hl => ?_)
        refine lv_goto (tgt := 9) C.1 C.2.1 dX4_takeSource_48 (by decide) ?_
        exact ih q4 (x1 + (1 : Int32))  _ _ _ hH (lv_sub hl [1, 0] rfl) hf
def f_X4_takeSource (I : Mem)  : Option Mem := (f_X5_clear I 31).bind fun q1 => (f_X4_takeSource_L9 FU q1 (0 : Int32))
set_option maxHeartbeats 4000000 in
set_option maxRecDepth 100000 in
theorem c_X4_takeSource (l : Launch) (G : Gx) (I : Mem) {J : Mem} (hf : f_X4_takeSource I = some J) : Mv l yX4_takeSource (.code yX4_takeSource cX4_takeSource 2 none) 3 103 G I [.ref (G.2.1 30)] J := by
  refine Mv.of (by decide +kernel) (Nat.le_of_ble_eq_true rfl) (fun p e s m below meth c ls C hr hH hl => ?_)
  have hl : lv_has ls 2 [(0, .ref (G.2.1 30))] := hl
  have hf : ((f_X5_clear I 31).bind fun q1 => (f_X4_takeSource_L9 FU q1 (0 : Int32))) = _ := hf
  refine lv_aload_n C.1 C.2.1 dX4_takeSource_0 rfl (lv_at hl 0 rfl) ?_
  refine g_X4_2 C hH kk_30 tw_259 dX4_takeSource_1 ?_
  obtain ⟨q1, hc, hf⟩ := Option.bind_eq_some_iff.mp hf
  refine x_cv (n := 0) C hH (c_X5_clear l G I 31 kk_31 hc) (kd_lt kk_31 (by decide)) (cE_5 kk_31) rfl tw_349 tw_778 tw_347 tw_348 tw_48 (by decide +kernel) ⟨Nat.le_of_ble_eq_true rfl, Nat.le_of_ble_eq_true rfl⟩ rfl hl.1 rfl (Nat.le_of_ble_eq_true rfl) ⟨Nat.le_of_ble_eq_true rfl, Nat.le_of_ble_eq_true rfl⟩ dX4_takeSource_4 (fun H locs hH => ?_)
  refine lv_iconst (v := (0 : Int32)) C.1 C.2.1 dX4_takeSource_7 (by decide) ?_
  refine lv_istore_n (lv' := [(1, .int (0 : Int32)), (0, .ref (G.2.1 30))]) C.1 C.2.1 dX4_takeSource_8 rfl hl (by decide) rfl (fun ls hl => ?_)
  exact w_X4_takeSource_L9 C hr FU q1 (0 : Int32) _ _ _ hH (lv_sub hl [1, 0] rfl) hf
def f_X4_comesToEnd_L54   : Nat → Mem → Int32 → Option (Bool × Mem)
  | 0, _, _ => none
  | n + 1, I, x1 => if (I 31 1) ≤ x1 then (some (true, I)) else (if inb x1 (ln 32) = true then ((f_X1_take I (I 32 x1.toNatClampNeg)).bind fun q8 => (f_X4_comesToEnd_L54 n q8 (x1 + (1 : Int32)))) else none)
set_option maxHeartbeats 4000000 in
set_option maxRecDepth 100000 in
theorem w_X4_comesToEnd_L54 {p : Program} {l : Launch} {e : Env} {s : State} {m : MethodId} {args : Array Value} {below : List Frame} {meth : Method} {c : Code} {G : Gx} {res : Bool} {J : Mem} (C : CX p l s m args meth c cX4_comesToEnd 2 yX4_comesToEnd.cls G) (hr : meth.sig.returnType = (some .boolean)) :
    ∀ (n : Nat) (I : Mem) (x1 : Int32) (H : Heap) (locs : List Loc) (ls : Array Slot), HW G s H locs I → lv_has ls 2 [(0, .ref (G.2.1 30)), (1, .int x1)] → f_X4_comesToEnd_L54 n I x1 = some (res, J) → W p l e { frames := 5, cells := 0, slots := 0, locals := 148 } s m args below meth c H locs 0 0 (MQ below (Qi9 G (b2i res) J s.heap.size) args s 0 0 (AA G s.heap.size)) (F0 m 54 ls []) := by
  intro n
  induction n with
  | zero => intro I x1  H locs ls hH hl hf; exact absurd hf (by simp [f_X4_comesToEnd_L54])
  | succ n ih =>
    intro I x1  H locs ls hH hl hf
    have hf : (if (I 31 1) ≤ x1 then (some (true, I)) else (if inb x1 (ln 32) = true then ((f_X1_take I (I 32 x1.toNatClampNeg)).bind fun q8 => (f_X4_comesToEnd_L54 n q8 (x1 + (1 : Int32)))) else none)) = _ := hf
    refine lv_iload_n C.1 C.2.1 dX4_comesToEnd_54 rfl (lv_at hl 1 rfl) ?_
    refine lv_aload_n C.1 C.2.1 dX4_comesToEnd_55 rfl (lv_at hl 0 rfl) ?_
    refine g_X4_2 C hH kk_30 tw_259 dX4_comesToEnd_56 ?_
    refine gN_X5_1 C hH kk_31 tw_89 dX4_comesToEnd_59 ?_
    refine lv_icmp_ge (tgt := 87) C.1 C.2.1 dX4_comesToEnd_62 (by decide) (fun q9 => ?_) (fun q9 => ?_)
    · have hf := (if_pos q9).symm.trans hf
      refine lv_iconst (v := (1 : Int32)) C.1 C.2.1 dX4_comesToEnd_87 (by decide) ?_
      cases hf
      exact x_zret C hr hH rfl dX4_comesToEnd_88
    · have hf := (if_neg q9).symm.trans hf
      refine lv_aload_n C.1 C.2.1 dX4_comesToEnd_65 rfl (lv_at hl 0 rfl) ?_
      refine g_X4_1 C hH kk_30 tw_258 dX4_comesToEnd_66 ?_
      refine lv_aload_n C.1 C.2.1 dX4_comesToEnd_69 rfl (lv_at hl 0 rfl) ?_
      refine g_X4_2 C hH kk_30 tw_259 dX4_comesToEnd_70 ?_
      refine gN_X5_0 C hH kk_31 tw_82 dX4_comesToEnd_73 ?_
      refine lv_iload_n C.1 C.2.1 dX4_comesToEnd_76 rfl (lv_at hl 1 rfl) ?_
      obtain ⟨q7, hf⟩ := itn hf
      refine x_iald C hH kk_32 q7 dX4_comesToEnd_77 ?_
      obtain ⟨q8, hc, hf⟩ := Option.bind_eq_some_iff.mp hf
      refine x_cv (n := 1) C hH (c_X1_take l G I (I 32 x1.toNatClampNeg) hc) (kd_lt kk_24 (by decide)) (cE_1 kk_24) rfl tw_644 tw_799 tw_642 tw_643 tw_52 (by decide +kernel) ⟨Nat.le_of_ble_eq_true rfl, Nat.le_of_ble_eq_true rfl⟩ rfl hl.1 rfl (Nat.le_of_ble_eq_true rfl) ⟨Nat.le_of_ble_eq_true rfl, Nat.le_of_ble_eq_true rfl⟩ dX4_comesToEnd_78 (fun H locs hH => ?_)
      refine lv_iinc (v := (x1 + (1 : Int32))) (lv' := [(1, .int (x1 + (1 : Int32))), (0, .ref (G.2.1 30))]) C.1 C.2.1 dX4_comesToEnd_81 hl (k := 1) rfl rfl (by decide) rfl (fun ls hl => ?_)
      refine lv_goto (tgt := 54) C.1 C.2.1 dX4_comesToEnd_84 (by decide) ?_
      exact ih q8 (x1 + (1 : Int32))  _ _ _ hH (lv_sub hl [1, 0] rfl) hf
def f_X4_comesToEnd_L6   : Nat → Mem → Int32 → Option (Bool × Mem)
  | 0, _, _ => none
  | n + 1, I, x1 => if (I 3 2) ≤ x1 then (f_X4_comesToEnd_L54 FU I (0 : Int32)) else (if inb x1 (ln 5) = true then ((f_X4_workOn I (6 + 3 * x1.toNatClampNeg)).bind fun q3 => (if (b2i q3.1) = 0 then (some (false, q3.2)) else ((f_X5_copyFrom q3.2 31 33).bind fun q4 => (f_X4_comesToEnd_L6 n q4 (x1 + (1 : Int32)))))) else none)
set_option maxHeartbeats 4000000 in
set_option maxRecDepth 100000 in
theorem w_X4_comesToEnd_L6 {p : Program} {l : Launch} {e : Env} {s : State} {m : MethodId} {args : Array Value} {below : List Frame} {meth : Method} {c : Code} {G : Gx} {res : Bool} {J : Mem} (C : CX p l s m args meth c cX4_comesToEnd 2 yX4_comesToEnd.cls G) (hr : meth.sig.returnType = (some .boolean)) :
    ∀ (n : Nat) (I : Mem) (x1 : Int32) (H : Heap) (locs : List Loc) (ls : Array Slot), HW G s H locs I → lv_has ls 2 [(0, .ref (G.2.1 30)), (1, .int x1)] → f_X4_comesToEnd_L6 n I x1 = some (res, J) → W p l e { frames := 5, cells := 0, slots := 0, locals := 148 } s m args below meth c H locs 0 0 (MQ below (Qi9 G (b2i res) J s.heap.size) args s 0 0 (AA G s.heap.size)) (F0 m 6 ls []) := by
  intro n
  induction n with
  | zero => intro I x1  H locs ls hH hl hf; exact absurd hf (by simp [f_X4_comesToEnd_L6])
  | succ n ih =>
    intro I x1  H locs ls hH hl hf
    have hf : (if (I 3 2) ≤ x1 then (f_X4_comesToEnd_L54 FU I (0 : Int32)) else (if inb x1 (ln 5) = true then ((f_X4_workOn I (6 + 3 * x1.toNatClampNeg)).bind fun q3 => (if (b2i q3.1) = 0 then (some (false, q3.2)) else ((f_X5_copyFrom q3.2 31 33).bind fun q4 => (f_X4_comesToEnd_L6 n q4 (x1 + (1 : Int32)))))) else none)) = _ := hf
    refine lv_iload_n C.1 C.2.1 dX4_comesToEnd_6 rfl (lv_at hl 1 rfl) ?_
    refine lv_aload_n C.1 C.2.1 dX4_comesToEnd_7 rfl (lv_at hl 0 rfl) ?_
    refine g_X4_0 C hH kk_30 tw_257 dX4_comesToEnd_8 ?_
    refine gN_X3_2 C hH kk_3 tw_178 dX4_comesToEnd_11 ?_
    refine lv_icmp_ge (tgt := 52) C.1 C.2.1 dX4_comesToEnd_14 (by decide) (fun q6 => ?_) (fun q6 => ?_)
    · have hf := (if_pos q6).symm.trans hf
      refine lv_iconst (v := (0 : Int32)) C.1 C.2.1 dX4_comesToEnd_52 (by decide) ?_
      refine lv_istore_n (lv' := [(1, .int (0 : Int32)), (0, .ref (G.2.1 30))]) C.1 C.2.1 dX4_comesToEnd_53 rfl hl (by decide) rfl (fun ls hl => ?_)
      exact w_X4_comesToEnd_L54 C hr FU I (0 : Int32) _ _ _ hH (lv_sub hl [1, 0] rfl) hf
    · have hf := (if_neg q6).symm.trans hf
      refine lv_aload_n C.1 C.2.1 dX4_comesToEnd_17 rfl (lv_at hl 0 rfl) ?_
      refine lv_aload_n C.1 C.2.1 dX4_comesToEnd_18 rfl (lv_at hl 0 rfl) ?_
      refine g_X4_0 C hH kk_30 tw_257 dX4_comesToEnd_19 ?_
      refine gN_X3_1 C hH kk_3 tw_174 dX4_comesToEnd_22 ?_
      refine lv_iload_n C.1 C.2.1 dX4_comesToEnd_25 rfl (lv_at hl 1 rfl) ?_
      obtain ⟨q2, hf⟩ := itn hf
      refine x_aldS C hH kk_5 q2 dX4_comesToEnd_26 ?_
      obtain ⟨q3, hc, hf⟩ := Option.bind_eq_some_iff.mp hf
      refine x_ci (n := 1) C hH (c_X4_workOn l G I (6 + 3 * x1.toNatClampNeg) (kd_St q2) hc) (kd_lt kk_30 (by decide)) (cE_4 kk_30) rfl tw_785 tw_782 tw_784 tw_21 tw_54 (by decide +kernel) ⟨Nat.le_of_ble_eq_true rfl, Nat.le_of_ble_eq_true rfl⟩ rfl hl.1 rfl (Nat.le_of_ble_eq_true rfl) ⟨Nat.le_of_ble_eq_true rfl, Nat.le_of_ble_eq_true rfl⟩ dX4_comesToEnd_27 (fun H locs hH => ?_)
      refine lv_if_ne (tgt := 35) C.1 C.2.1 dX4_comesToEnd_30 (by decide) (fun q5 => ?_) (fun q5 => ?_)
      · have hf := (if_neg q5).symm.trans hf
        refine lv_aload_n C.1 C.2.1 dX4_comesToEnd_35 rfl (lv_at hl 0 rfl) ?_
        refine g_X4_2 C hH kk_30 tw_259 dX4_comesToEnd_36 ?_
        refine lv_aload_n C.1 C.2.1 dX4_comesToEnd_39 rfl (lv_at hl 0 rfl) ?_
        refine g_X4_3 C hH kk_30 tw_260 dX4_comesToEnd_40 ?_
        obtain ⟨q4, hc, hf⟩ := Option.bind_eq_some_iff.mp hf
        refine x_cv (n := 1) C hH (c_X5_copyFrom l G q3.2 31 33 kk_31 kk_33 hc) (kd_lt kk_31 (by decide)) (cE_5 kk_31) rfl tw_796 tw_793 tw_794 tw_795 tw_48 (by decide +kernel) ⟨Nat.le_of_ble_eq_true rfl, Nat.le_of_ble_eq_true rfl⟩ rfl hl.1 rfl (Nat.le_of_ble_eq_true rfl) ⟨Nat.le_of_ble_eq_true rfl, Nat.le_of_ble_eq_true rfl⟩ dX4_comesToEnd_43 (fun H locs hH => ?_)
        refine lv_iinc (v := (x1 + (1 : Int32))) (lv' := [(1, .int (x1 + (1 : Int32))), (0, .ref (G.2.1 30))]) C.1 C.2.1 dX4_comesToEnd_46 hl (k := 1) rfl rfl (by decide) rfl (fun ls hl => ?_)
        refine lv_goto (tgt := 6) C.1 C.2.1 dX4_comesToEnd_49 (by decide) ?_
        exact ih q4 (x1 + (1 : Int32))  _ _ _ hH (lv_sub hl [1, 0] rfl) hf
      · have hf := (if_pos q5).symm.trans hf
        refine lv_iconst (v := (0 : Int32)) C.1 C.2.1 dX4_comesToEnd_33 (by decide) ?_
        cases hf
        exact x_zret C hr hH rfl dX4_comesToEnd_34
def f_X4_comesToEnd (I : Mem)  : Option (Bool × Mem) := (f_X4_takeSource I).bind fun q1 => (f_X4_comesToEnd_L6 FU q1 (0 : Int32))
set_option maxHeartbeats 4000000 in
set_option maxRecDepth 100000 in
theorem c_X4_comesToEnd (l : Launch) (G : Gx) (I : Mem) {res : Bool} {J : Mem} (hf : f_X4_comesToEnd I = some (res, J)) : Mi l yX4_comesToEnd (.code yX4_comesToEnd cX4_comesToEnd 2 (some .boolean)) 5 148 G I [.ref (G.2.1 30)] (b2i res) J := by
  refine Mi.of (by decide +kernel) (Nat.le_of_ble_eq_true rfl) (fun p e s m below meth c ls C hr hH hl => ?_)
  have hl : lv_has ls 2 [(0, .ref (G.2.1 30))] := hl
  have hf : ((f_X4_takeSource I).bind fun q1 => (f_X4_comesToEnd_L6 FU q1 (0 : Int32))) = _ := hf
  refine lv_aload_n C.1 C.2.1 dX4_comesToEnd_0 rfl (lv_at hl 0 rfl) ?_
  obtain ⟨q1, hc, hf⟩ := Option.bind_eq_some_iff.mp hf
  refine x_cv (n := 0) C hH (c_X4_takeSource l G I  hc) (kd_lt kk_30 (by decide)) (cE_4 kk_30) rfl tw_777 tw_774 tw_776 tw_20 tw_54 (by decide +kernel) ⟨Nat.le_of_ble_eq_true rfl, Nat.le_of_ble_eq_true rfl⟩ rfl hl.1 rfl (Nat.le_of_ble_eq_true rfl) ⟨Nat.le_of_ble_eq_true rfl, Nat.le_of_ble_eq_true rfl⟩ dX4_comesToEnd_1 (fun H locs hH => ?_)
  refine lv_iconst (v := (0 : Int32)) C.1 C.2.1 dX4_comesToEnd_4 (by decide) ?_
  refine lv_istore_n (lv' := [(1, .int (0 : Int32)), (0, .ref (G.2.1 30))]) C.1 C.2.1 dX4_comesToEnd_5 rfl hl (by decide) rfl (fun ls hl => ?_)
  exact w_X4_comesToEnd_L6 C hr FU q1 (0 : Int32) _ _ _ hH (lv_sub hl [1, 0] rfl) hf
