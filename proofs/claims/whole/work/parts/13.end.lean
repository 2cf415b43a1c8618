def f_X1_begin_L50 (p0 : Int32) (p1 : Int32) (p2 : Int32)  : Nat → Mem → Int32 → Int32 → Int32 → Option Mem
  | 0, _, _, _, _ => none
  | n + 1, I, x1, x3, x4 => if x1 = (10 : Int32) then (if x3 ≤ x4 then (some I) else (if kd ((I 24 0).toNatClampNeg) = 5 then ((f_X5_add I ((I 24 0).toNatClampNeg) (0 : Int32)).bind fun q7 => (f_X1_begin_L50 p0 p1 p2 n q7 x1 x3 (x4 + (1 : Int32)))) else none)) else (some I)
set_option maxHeartbeats 4000000 in
set_option maxRecDepth 100000 in
theorem w_X1_begin_L50 {p : Program} {l : Launch} {e : Env} {s : State} {m : MethodId} {args : Array Value} {below : List Frame} {meth : Method} {c : Code} {G : Gx} (p0 : Int32) (p1 : Int32) (p2 : Int32) {J : Mem} (C : CX p l s m args meth c cX1_begin 5 yX1_begin.cls G) (hr : meth.sig.returnType = none) :
    ∀ (n : Nat) (I : Mem) (x1 : Int32) (x3 : Int32) (x4 : Int32) (H : Heap) (locs : List Loc) (ls : Array Slot), HW G s H locs I → lv_has ls 5 [(0, .ref (G.2.1 24)), (1, .int x1), (3, .int x3), (4, .int x4)] → f_X1_begin_L50 p0 p1 p2 n I x1 x3 x4 = some J → W p l e { frames := 3, cells := 0, slots := 0, locals := 103 } s m args below meth c H locs 0 0 (MQ below (Qv9 G J s.heap.size) args s 0 0 (AA G s.heap.size)) (F0 m 50 ls []) := by
  intro n
  induction n with
  | zero => intro I x1 x3 x4  H locs ls hH hl hf; exact absurd hf (by simp [f_X1_begin_L50])
  | succ n ih =>
    intro I x1 x3 x4  H locs ls hH hl hf
    have hf : (if x1 = (10 : Int32) then (if x3 ≤ x4 then (some I) else (if kd ((I 24 0).toNatClampNeg) = 5 then ((f_X5_add I ((I 24 0).toNatClampNeg) (0 : Int32)).bind fun q7 => (f_X1_begin_L50 p0 p1 p2 n q7 x1 x3 (x4 + (1 : Int32)))) else none)) else (some I)) = _ := hf
    refine lv_iload_n C.1 C.2.1 dX1_begin_50 rfl (lv_at hl 1 rfl) ?_
    refine lv_bipush (v := (10 : Int32)) C.1 C.2.1 dX1_begin_51 (by decide) ?_
    refine lv_icmp_ne (tgt := 76) C.1 C.2.1 dX1_begin_53 (by decide) (fun q9 => ?_) (fun q9 => ?_)
    · have hf := (if_neg q9).symm.trans hf
      cases hf
      exact x_vret C hr hH dX1_begin_76
    · have hf := (if_pos q9).symm.trans hf
      refine lv_iload C.1 C.2.1 dX1_begin_56 (lv_at hl 3 rfl) ?_
      refine lv_iload_n C.1 C.2.1 dX1_begin_58 rfl (lv_at hl 2 rfl) ?_
      refine lv_icmp_ge (tgt := 76) C.1 C.2.1 dX1_begin_59 (by decide) (fun q8 => ?_) (fun q8 => ?_)
      · have hf := (if_pos q8).symm.trans hf
        cases hf
        exact x_vret C hr hH dX1_begin_76
      · have hf := (if_neg q8).symm.trans hf
        refine lv_aload_n C.1 C.2.1 dX1_begin_62 rfl (lv_at hl 0 rfl) ?_
        obtain ⟨q6, hf⟩ := itn hf
        refine g_X1_0 C hH kk_24 tw_204 dX1_begin_63 ?_
        refine lv_iconst (v := (0 : Int32)) C.1 C.2.1 dX1_begin_66 (by decide) ?_
        obtain ⟨q7, hc, hf⟩ := Option.bind_eq_some_iff.mp hf
        refine x_cv (n := 1) C hH (c_X5_add l G I ((I 24 0).toNatClampNeg) (0 : Int32) q6 hc) (kd_lt q6 (by decide)) (cE_5 q6) rfl tw_449 tw_565 tw_447 tw_448 tw_48 (by decide +kernel) ⟨Nat.le_of_ble_eq_true rfl, Nat.le_of_ble_eq_true rfl⟩ rfl hl.1 rfl (Nat.le_of_ble_eq_true rfl) ⟨Nat.le_of_ble_eq_true rfl, Nat.le_of_ble_eq_true rfl⟩ dX1_begin_67 (fun H locs hH => ?_)
        refine lv_iinc (v := (x4 + (1 : Int32))) (lv' := [(4, .int (x4 + (1 : Int32))), (0, .ref (G.2.1 24)), (1, .int x1), (3, .int x3)]) C.1 C.2.1 dX1_begin_70 hl (k := 3) rfl rfl (by decide) rfl (fun ls hl => ?_)
        refine lv_goto (tgt := 50) C.1 C.2.1 dX1_begin_73 (by decide) ?_
        exact ih q7 x1 x3 (x4 + (1 : Int32))  _ _ _ hH (lv_sub hl [1, 2, 3, 0] rfl) hf
def f_X1_begin (I : Mem) (p0 : Int32) (p1 : Int32) (p2 : Int32) : Option Mem := if p0 = (8 : Int32) then (if kd (((st (st (st (st (st (st I 24 2 p0) 24 3 p1) 24 4 p2) 24 5 (0 : Int32)) 24 6 p2) 24 7 (0 : Int32)) 24 0).toNatClampNeg) = 5 then ((f_X5_clear (st (st (st (st (st (st I 24 2 p0) 24 3 p1) 24 4 p2) 24 5 (0 : Int32)) 24 6 p2) 24 7 (0 : Int32)) (((st (st (st (st (st (st I 24 2 p0) 24 3 p1) 24 4 p2) 24 5 (0 : Int32)) 24 6 p2) 24 7 (0 : Int32)) 24 0).toNatClampNeg)).bind fun q4 => (f_X1_begin_L50 p0 p1 p2 FU q4 p0 p2 (0 : Int32))) else none) else (if kd (((st (st (st (st (st (st I 24 2 p0) 24 3 p1) 24 4 p2) 24 5 (0 : Int32)) 24 6 (0 : Int32)) 24 7 (0 : Int32)) 24 0).toNatClampNeg) = 5 then ((f_X5_clear (st (st (st (st (st (st I 24 2 p0) 24 3 p1) 24 4 p2) 24 5 (0 : Int32)) 24 6 (0 : Int32)) 24 7 (0 : Int32)) (((st (st (st (st (st (st I 24 2 p0) 24 3 p1) 24 4 p2) 24 5 (0 : Int32)) 24 6 (0 : Int32)) 24 7 (0 : Int32)) 24 0).toNatClampNeg)).bind fun q2 => (f_X1_begin_L50 p0 p1 p2 FU q2 p0 p2 (0 : Int32))) else none)
set_option maxHeartbeats 4000000 in
set_option maxRecDepth 100000 in
theorem c_X1_begin (l : Launch) (G : Gx) (I : Mem) (p0 : Int32) (p1 : Int32) (p2 : Int32) {J : Mem} (hf : f_X1_begin I p0 p1 p2 = some J) : Mv l yX1_begin (.code yX1_begin cX1_begin 5 none) 3 103 G I [.ref (G.2.1 24), .int p0, .int p1, .int p2] J := by
  refine Mv.of (by decide +kernel) (Nat.le_of_ble_eq_true rfl) (fun p e s m below meth c ls C hr hH hl => ?_)
  have hl : lv_has ls 5 [(0, .ref (G.2.1 24)), (1, .int p0), (2, .int p1), (3, .int p2)] := hl
  have hf : (if p0 = (8 : Int32) then (if kd (((st (st (st (st (st (st I 24 2 p0) 24 3 p1) 24 4 p2) 24 5 (0 : Int32)) 24 6 p2) 24 7 (0 : Int32)) 24 0).toNatClampNeg) = 5 then ((f_X5_clear (st (st (st (st (st (st I 24 2 p0) 24 3 p1) 24 4 p2) 24 5 (0 : Int32)) 24 6 p2) 24 7 (0 : Int32)) (((st (st (st (st (st (st I 24 2 p0) 24 3 p1) 24 4 p2) 24 5 (0 : Int32)) 24 6 p2) 24 7 (0 : Int32)) 24 0).toNatClampNeg)).bind fun q4 => (f_X1_begin_L50 p0 p1 p2 FU q4 p0 p2 (0 : Int32))) else none) else (if kd (((st (st (st (st (st (st I 24 2 p0) 24 3 p1) 24 4 p2) 24 5 (0 : Int32)) 24 6 (0 : Int32)) 24 7 (0 : Int32)) 24 0).toNatClampNeg) = 5 then ((f_X5_clear (st (st (st (st (st (st I 24 2 p0) 24 3 p1) 24 4 p2) 24 5 (0 : Int32)) 24 6 (0 : Int32)) 24 7 (0 : Int32)) (((st (st (st (st (st (st I 24 2 p0) 24 3 p1) 24 4 p2) 24 5 (0 : Int32)) 24 6 (0 : Int32)) 24 7 (0 : Int32)) 24 0).toNatClampNeg)).bind fun q2 => (f_X1_begin_L50 p0 p1 p2 FU q2 p0 p2 (0 : Int32))) else none)) = _ := hf
  refine lv_aload_n C.1 C.2.1 dX1_begin_0 rfl (lv_at hl 0 rfl) ?_
  refine lv_iload_n C.1 C.2.1 dX1_begin_1 rfl (lv_at hl 1 rfl) ?_
  refine p_X1_2 C hH kk_24  tw_207 dX1_begin_2 (fun H locs hH => ?_)
  refine lv_aload_n C.1 C.2.1 dX1_begin_5 rfl (lv_at hl 0 rfl) ?_
  refine lv_iload_n C.1 C.2.1 dX1_begin_6 rfl (lv_at hl 2 rfl) ?_
  refine p_X1_3 C hH kk_24  tw_208 dX1_begin_7 (fun H locs hH => ?_)
  refine lv_aload_n C.1 C.2.1 dX1_begin_10 rfl (lv_at hl 0 rfl) ?_
  refine lv_iload_n C.1 C.2.1 dX1_begin_11 rfl (lv_at hl 3 rfl) ?_
  refine p_X1_4 C hH kk_24  tw_209 dX1_begin_12 (fun H locs hH => ?_)
  refine lv_aload_n C.1 C.2.1 dX1_begin_15 rfl (lv_at hl 0 rfl) ?_
  refine lv_iconst (v := (0 : Int32)) C.1 C.2.1 dX1_begin_16 (by decide) ?_
  refine p_X1_5 C hH kk_24  tw_210 dX1_begin_17 (fun H locs hH => ?_)
  refine lv_aload_n C.1 C.2.1 dX1_begin_20 rfl (lv_at hl 0 rfl) ?_
  refine lv_iload_n C.1 C.2.1 dX1_begin_21 rfl (lv_at hl 1 rfl) ?_
  refine lv_bipush (v := (8 : Int32)) C.1 C.2.1 dX1_begin_22 (by decide) ?_
  refine lv_icmp_ne (tgt := 31) C.1 C.2.1 dX1_begin_24 (by decide) (fun q5 => ?_) (fun q5 => ?_)
  · have hf := (if_neg q5).symm.trans hf
    refine lv_iconst (v := (0 : Int32)) C.1 C.2.1 dX1_begin_31 (by decide) ?_
    refine p_X1_6 C hH kk_24  tw_211 dX1_begin_32 (fun H locs hH => ?_)
    refine lv_aload_n C.1 C.2.1 dX1_begin_35 rfl (lv_at hl 0 rfl) ?_
    refine lv_iconst (v := (0 : Int32)) C.1 C.2.1 dX1_begin_36 (by decide) ?_
    refine p_X1_7 C hH kk_24 ⟨rfl, rfl⟩ tw_212 dX1_begin_37 (fun H locs hH => ?_)
    refine lv_aload_n C.1 C.2.1 dX1_begin_40 rfl (lv_at hl 0 rfl) ?_
    obtain ⟨q1, hf⟩ := itn hf
    refine g_X1_0 C hH kk_24 tw_204 dX1_begin_41 ?_
    obtain ⟨q2, hc, hf⟩ := Option.bind_eq_some_iff.mp hf
    refine x_cv (n := 0) C hH (c_X5_clear l G (st (st (st (st (st (st I 24 2 p0) 24 3 p1) 24 4 p2) 24 5 (0 : Int32)) 24 6 (0 : Int32)) 24 7 (0 : Int32)) (((st (st (st (st (st (st I 24 2 p0) 24 3 p1) 24 4 p2) 24 5 (0 : Int32)) 24 6 (0 : Int32)) 24 7 (0 : Int32)) 24 0).toNatClampNeg) q1 hc) (kd_lt q1 (by decide)) (cE_5 q1) rfl tw_349 tw_564 tw_347 tw_348 tw_48 (by decide +kernel) ⟨Nat.le_of_ble_eq_true rfl, Nat.le_of_ble_eq_true rfl⟩ rfl hl.1 rfl (Nat.le_of_ble_eq_true rfl) ⟨Nat.le_of_ble_eq_true rfl, Nat.le_of_ble_eq_true rfl⟩ dX1_begin_44 (fun H locs hH => ?_)
    refine lv_iconst (v := (0 : Int32)) C.1 C.2.1 dX1_begin_47 (by decide) ?_
    refine lv_istore (lv' := [(4, .int (0 : Int32)), (0, .ref (G.2.1 24)), (1, .int p0), (2, .int p1), (3, .int p2)]) C.1 C.2.1 dX1_begin_48 hl (by decide) rfl (fun ls hl => ?_)
    exact w_X1_begin_L50 p0 p1 p2 C hr FU q2 p0 p2 (0 : Int32) _ _ _ hH (lv_sub hl [1, 2, 4, 0] rfl) hf
  · have hf := (if_pos q5).symm.trans hf
    refine lv_iload_n C.1 C.2.1 dX1_begin_27 rfl (lv_at hl 3 rfl) ?_
    refine lv_goto (tgt := 32) C.1 C.2.1 dX1_begin_28 (by decide) ?_
    refine p_X1_6 C hH kk_24  tw_211 dX1_begin_32 (fun H locs hH => ?_)
    refine lv_aload_n C.1 C.2.1 dX1_begin_35 rfl (lv_at hl 0 rfl) ?_
    refine lv_iconst (v := (0 : Int32)) C.1 C.2.1 dX1_begin_36 (by decide) ?_
    refine p_X1_7 C hH kk_24 ⟨rfl, rfl⟩ tw_212 dX1_begin_37 (fun H locs hH => ?_)
    refine lv_aload_n C.1 C.2.1 dX1_begin_40 rfl (lv_at hl 0 rfl) ?_
    obtain ⟨q3, hf⟩ := itn hf
    refine g_X1_0 C hH kk_24 tw_204 dX1_begin_41 ?_
    obtain ⟨q4, hc, hf⟩ := Option.bind_eq_some_iff.mp hf
    refine x_cv (n := 0) C hH (c_X5_clear l G (st (st (st (st (st (st I 24 2 p0) 24 3 p1) 24 4 p2) 24 5 (0 : Int32)) 24 6 p2) 24 7 (0 : Int32)) (((st (st (st (st (st (st I 24 2 p0) 24 3 p1) 24 4 p2) 24 5 (0 : Int32)) 24 6 p2) 24 7 (0 : Int32)) 24 0).toNatClampNeg) q3 hc) (kd_lt q3 (by decide)) (cE_5 q3) rfl tw_349 tw_564 tw_347 tw_348 tw_48 (by decide +kernel) ⟨Nat.le_of_ble_eq_true rfl, Nat.le_of_ble_eq_true rfl⟩ rfl hl.1 rfl (Nat.le_of_ble_eq_true rfl) ⟨Nat.le_of_ble_eq_true rfl, Nat.le_of_ble_eq_true rfl⟩ dX1_begin_44 (fun H locs hH => ?_)
    refine lv_iconst (v := (0 : Int32)) C.1 C.2.1 dX1_begin_47 (by decide) ?_
    refine lv_istore (lv' := [(4, .int (0 : Int32)), (0, .ref (G.2.1 24)), (1, .int p0), (2, .int p1), (3, .int p2)]) C.1 C.2.1 dX1_begin_48 hl (by decide) rfl (fun ls hl => ?_)
    exact w_X1_begin_L50 p0 p1 p2 C hr FU q4 p0 p2 (0 : Int32) _ _ _ hH (lv_sub hl [1, 2, 4, 0] rfl) hf
def f_X1_wantsMore (I : Mem)  : Option (Bool × Mem) := if (I 24 7) = 0 then (some (true, I)) else (some (false, I))
set_option maxHeartbeats 4000000 in
set_option maxRecDepth 100000 in
theorem c_X1_wantsMore (l : Launch) (G : Gx) (I : Mem) {res : Bool} {J : Mem} (hf : f_X1_wantsMore I = some (res, J)) : Mi l yX1_wantsMore (.code yX1_wantsMore cX1_wantsMore 1 (some .boolean)) 0 0 G I [.ref (G.2.1 24)] (b2i res) J := by
  refine Mi.of (by decide +kernel) (Nat.le_of_ble_eq_true rfl) (fun p e s m below meth c ls C hr hH hl => ?_)
  have hl : lv_has ls 1 [(0, .ref (G.2.1 24))] := hl
  have hf : (if (I 24 7) = 0 then (some (true, I)) else (some (false, I))) = _ := hf
  refine lv_aload_n C.1 C.2.1 dX1_wantsMore_0 rfl (lv_at hl 0 rfl) ?_
  refine g_X1_7 C hH kk_24 tw_212 dX1_wantsMore_1 ?_
  refine lv_if_ne (tgt := 11) C.1 C.2.1 dX1_wantsMore_4 (by decide) (fun q1 => ?_) (fun q1 => ?_)
  · have hf := (if_neg q1).symm.trans hf
    refine lv_iconst (v := (0 : Int32)) C.1 C.2.1 dX1_wantsMore_11 (by decide) ?_
    cases hf
    exact x_zret C hr hH rfl dX1_wantsMore_12
  · have hf := (if_pos q1).symm.trans hf
    refine lv_iconst (v := (1 : Int32)) C.1 C.2.1 dX1_wantsMore_7 (by decide) ?_
    refine lv_goto (tgt := 12) C.1 C.2.1 dX1_wantsMore_8 (by decide) ?_
    cases hf
    exact x_zret C hr hH rfl dX1_wantsMore_12
def f_X1_folded (I : Mem) (p0 : Int32) : Option (Int32 × Mem) := if (I 24 3) = (0 : Int32) then (some (((I 24 6) + p0), I)) else (if (I 24 3) = (1 : Int32) then (some (((I 24 6) * p0), I)) else (some ((((I 24 6) * (31 : Int32)) + p0), I)))
set_option maxHeartbeats 4000000 in
set_option maxRecDepth 100000 in
theorem c_X1_folded (l : Launch) (G : Gx) (I : Mem) (p0 : Int32) {res : Int32} {J : Mem} (hf : f_X1_folded I p0 = some (res, J)) : Mi l yX1_folded (.code yX1_folded cX1_folded 2 (some .int)) 0 0 G I [.ref (G.2.1 24), .int p0] res J := by
  refine Mi.of (by decide +kernel) (Nat.le_of_ble_eq_true rfl) (fun p e s m below meth c ls C hr hH hl => ?_)
  have hl : lv_has ls 2 [(0, .ref (G.2.1 24)), (1, .int p0)] := hl
  have hf : (if (I 24 3) = (0 : Int32) then (some (((I 24 6) + p0), I)) else (if (I 24 3) = (1 : Int32) then (some (((I 24 6) * p0), I)) else (some ((((I 24 6) * (31 : Int32)) + p0), I)))) = _ := hf
  refine lv_aload_n C.1 C.2.1 dX1_folded_0 rfl (lv_at hl 0 rfl) ?_
  refine g_X1_3 C hH kk_24 tw_208 dX1_folded_1 ?_
  by_cases q1 : (I 24 3) = (0 : Int32)
  · have hf := (if_pos q1).symm.trans hf
    refine lv_lookup (tgt := 32) (off := 28) C.1 C.2.1 dX1_folded_4 (by decide) (by rw [q1]; decide) (by decide) ?_
    refine lv_aload_n C.1 C.2.1 dX1_folded_32 rfl (lv_at hl 0 rfl) ?_
    refine g_X1_6 C hH kk_24 tw_211 dX1_folded_33 ?_
    refine lv_iload_n C.1 C.2.1 dX1_folded_36 rfl (lv_at hl 1 rfl) ?_
    refine lv_iadd C.1 C.2.1 dX1_folded_37 ?_
    cases hf
    exact x_iret C hr hH dX1_folded_38
  · have hf := (if_neg q1).symm.trans hf
    by_cases q2 : (I 24 3) = (1 : Int32)
    · have hf := (if_pos q2).symm.trans hf
      refine lv_lookup (tgt := 39) (off := 35) C.1 C.2.1 dX1_folded_4 (by decide) (by rw [q2]; decide) (by decide) ?_
      refine lv_aload_n C.1 C.2.1 dX1_folded_39 rfl (lv_at hl 0 rfl) ?_
      refine g_X1_6 C hH kk_24 tw_211 dX1_folded_40 ?_
      refine lv_iload_n C.1 C.2.1 dX1_folded_43 rfl (lv_at hl 1 rfl) ?_
      refine lv_imul C.1 C.2.1 dX1_folded_44 ?_
      cases hf
      exact x_iret C hr hH dX1_folded_45
    · have hf := (if_neg q2).symm.trans hf
      have q1' := ne_toInt (z := 0) (by decide) q1
      have q2' := ne_toInt (z := 1) (by decide) q2
      refine lv_lookup (tgt := 46) (off := 42) C.1 C.2.1 dX1_folded_4 (by decide) (by simp [Op.lookupswitch.offset, Ne.symm q1', Ne.symm q2']) (by decide) ?_
      refine lv_aload_n C.1 C.2.1 dX1_folded_46 rfl (lv_at hl 0 rfl) ?_
      refine g_X1_6 C hH kk_24 tw_211 dX1_folded_47 ?_
      refine lv_bipush (v := (31 : Int32)) C.1 C.2.1 dX1_folded_50 (by decide) ?_
      refine lv_imul C.1 C.2.1 dX1_folded_52 ?_
      refine lv_iload_n C.1 C.2.1 dX1_folded_53 rfl (lv_at hl 1 rfl) ?_
      refine lv_iadd C.1 C.2.1 dX1_folded_54 ?_
      cases hf
      exact x_iret C hr hH dX1_folded_55
def f_X1_take (I : Mem) (p0 : Int32) : Option Mem := if (I 24 2) = (1 : Int32) then (some (st (st I 24 6 ((I 24 6) + p0)) 24 5 (((st I 24 6 ((I 24 6) + p0)) 24 5) + (1 : Int32)))) else (if (I 24 2) = (2 : Int32) then (if (I 24 5) = 0 then (some (st (st I 24 6 p0) 24 5 (((st I 24 6 p0) 24 5) + (1 : Int32)))) else (some (st (st I 24 6 (if p0 < (I 24 6) then p0 else (I 24 6))) 24 5 (((st I 24 6 (if p0 < (I 24 6) then p0 else (I 24 6))) 24 5) + (1 : Int32))))) else (if (I 24 2) = (3 : Int32) then (if (I 24 5) = 0 then (some (st (st I 24 6 p0) 24 5 (((st I 24 6 p0) 24 5) + (1 : Int32)))) else (some (st (st I 24 6 (if (I 24 6) < p0 then p0 else (I 24 6))) 24 5 (((st I 24 6 (if (I 24 6) < p0 then p0 else (I 24 6))) 24 5) + (1 : Int32))))) else (if (I 24 2) = (4 : Int32) then (if (I 24 7) = 0 then (some (st (st (st I 24 6 p0) 24 7 (1 : Int32)) 24 5 (((st (st I 24 6 p0) 24 7 (1 : Int32)) 24 5) + (1 : Int32)))) else (some (st (st (st I 24 6 (I 24 6)) 24 7 (1 : Int32)) 24 5 (((st (st I 24 6 (I 24 6)) 24 7 (1 : Int32)) 24 5) + (1 : Int32))))) else (if (I 24 2) = (5 : Int32) then (if (I 24 7) = 0 then ((f_X9_passes I p0 (I 24 3) (I 24 4)).bind fun q8 => (if (b2i q8.1) = 0 then (some (st (st q8.2 24 7 (0 : Int32)) 24 5 (((st q8.2 24 7 (0 : Int32)) 24 5) + (1 : Int32)))) else (some (st (st q8.2 24 7 (1 : Int32)) 24 5 (((st q8.2 24 7 (1 : Int32)) 24 5) + (1 : Int32)))))) else (some (st (st I 24 7 (1 : Int32)) 24 5 (((st I 24 7 (1 : Int32)) 24 5) + (1 : Int32))))) else (if (I 24 2) = (6 : Int32) then (if (I 24 7) = 0 then ((f_X9_passes I p0 (I 24 3) (I 24 4)).bind fun q12 => (if (b2i q12.1) = 0 then (some (st (st q12.2 24 7 (1 : Int32)) 24 5 (((st q12.2 24 7 (1 : Int32)) 24 5) + (1 : Int32)))) else (some (st (st q12.2 24 7 (0 : Int32)) 24 5 (((st q12.2 24 7 (0 : Int32)) 24 5) + (1 : Int32)))))) else (some (st (st I 24 7 (1 : Int32)) 24 5 (((st I 24 7 (1 : Int32)) 24 5) + (1 : Int32))))) else (if (I 24 2) = (7 : Int32) then (if (I 24 7) = 0 then ((f_X9_passes I p0 (I 24 3) (I 24 4)).bind fun q16 => (if (b2i q16.1) = 0 then (some (st (st q16.2 24 7 (0 : Int32)) 24 5 (((st q16.2 24 7 (0 : Int32)) 24 5) + (1 : Int32)))) else (some (st (st q16.2 24 7 (1 : Int32)) 24 5 (((st q16.2 24 7 (1 : Int32)) 24 5) + (1 : Int32)))))) else (some (st (st I 24 7 (1 : Int32)) 24 5 (((st I 24 7 (1 : Int32)) 24 5) + (1 : Int32))))) else (if (I 24 2) = (8 : Int32) then ((f_X1_folded I p0).bind fun q20 => (some (st (st q20.2 24 6 q20.1) 24 5 (((st q20.2 24 6 q20.1) 24 5) + (1 : Int32))))) else (if (I 24 2) = (9 : Int32) then (if kd ((I 24 0).toNatClampNeg) = 5 then ((f_X5_add I ((I 24 0).toNatClampNeg) p0).bind fun q23 => (some (st q23 24 5 ((q23 24 5) + (1 : Int32))))) else none) else (if (I 24 2) = (10 : Int32) then (if kd ((I 24 0).toNatClampNeg) = 5 then ((f_J9_floorMod I p0 (I 24 4)).bind fun q26 => (if inb q26.1 (ln (((I 24 0).toNatClampNeg) + 1)) = true then (if inb q26.1 (ln (((I 24 0).toNatClampNeg) + 1)) = true then (some (st (st q26.2 (((I 24 0).toNatClampNeg) + 1) q26.1.toNatClampNeg ((q26.2 (((I 24 0).toNatClampNeg) + 1) q26.1.toNatClampNeg) + (1 : Int32))) 24 5 (((st q26.2 (((I 24 0).toNatClampNeg) + 1) q26.1.toNatClampNeg ((q26.2 (((I 24 0).toNatClampNeg) + 1) q26.1.toNatClampNeg) + (1 : Int32))) 24 5) + (1 : Int32)))) else none) else none)) else none) else (some (st I 24 5 ((I 24 5) + (1 : Int32)))))))))))))
set_option maxHeartbeats 4000000 in
set_option maxRecDepth 100000 in
theorem c_X1_take (l : Launch) (G : Gx) (I : Mem) (p0 : Int32) {J : Mem} (hf : f_X1_take I p0 = some J) : Mv l yX1_take (.code yX1_take cX1_take 2 none) 3 103 G I [.ref (G.2.1 24), .int p0] J := by
  refine Mv.of (by decide +kernel) (Nat.le_of_ble_eq_true rfl) (fun p e s m below meth c ls C hr hH hl => ?_)
  have hl : lv_has ls 2 [(0, .ref (G.2.1 24)), (1, .int p0)] := hl
  have hf : (if (I 24 2) = (1 : Int32) then (some (st (st I 24 6 ((I 24 6) + p0)) 24 5 (((st I 24 6 ((I 24 6) + p0)) 24 5) + (1 : Int32)))) else (if (I 24 2) = (2 : Int32) then (if (I 24 5) = 0 then (some (st (st I 24 6 p0) 24 5 (((st I 24 6 p0) 24 5) + (1 : Int32)))) else (some (st (st I 24 6 (if p0 < (I 24 6) then p0 else (I 24 6))) 24 5 (((st I 24 6 (if p0 < (I 24 6) then p0 else (I 24 6))) 24 5) + (1 : Int32))))) else (if (I 24 2) = (3 : Int32) then (if (I 24 5) = 0 then (some (st (st I 24 6 p0) 24 5 (((st I 24 6 p0) 24 5) + (1 : Int32)))) else (some (st (st I 24 6 (if (I 24 6) < p0 then p0 else (I 24 6))) 24 5 (((st I 24 6 (if (I 24 6) < p0 then p0 else (I 24 6))) 24 5) + (1 : Int32))))) else (if (I 24 2) = (4 : Int32) then (if (I 24 7) = 0 then (some (st (st (st I 24 6 p0) 24 7 (1 : Int32)) 24 5 (((st (st I 24 6 p0) 24 7 (1 : Int32)) 24 5) + (1 : Int32)))) else (some (st (st (st I 24 6 (I 24 6)) 24 7 (1 : Int32)) 24 5 (((st (st I 24 6 (I 24 6)) 24 7 (1 : Int32)) 24 5) + (1 : Int32))))) else (if (I 24 2) = (5 : Int32) then (if (I 24 7) = 0 then ((f_X9_passes I p0 (I 24 3) (I 24 4)).bind fun q8 => (if (b2i q8.1) = 0 then (some (st (st q8.2 24 7 (0 : Int32)) 24 5 (((st q8.2 24 7 (0 : Int32)) 24 5) + (1 : Int32)))) else (some (st (st q8.2 24 7 (1 : Int32)) 24 5 (((st q8.2 24 7 (1 : Int32)) 24 5) + (1 : Int32)))))) else (some (st (st I 24 7 (1 : Int32)) 24 5 (((st I 24 7 (1 : Int32)) 24 5) + (1 : Int32))))) else (if (I 24 2) = (6 : Int32) then (if (I 24 7) = 0 then ((f_X9_passes I p0 (I 24 3) (I 24 4)).bind fun q12 => (if (b2i q12.1) = 0 then (some (st (st q12.2 24 7 (1 : Int32)) 24 5 (((st q12.2 24 7 (1 : Int32)) 24 5) + (1 : Int32)))) else (some (st (st q12.2 24 7 (0 : Int32)) 24 5 (((st q12.2 24 7 (0 : Int32)) 24 5) + (1 : Int32)))))) else (some (st (st I 24 7 (1 : Int32)) 24 5 (((st I 24 7 (1 : Int32)) 24 5) + (1 : Int32))))) else (if (I 24 2) = (7 : Int32) then (if (I 24 7) = 0 then ((f_X9_passes I p0 (I 24 3) (I 24 4)).bind fun q16 => (if (b2i q16.1) = 0 then (some (st (st q16.2 24 7 (0 : Int32)) 24 5 (((st q16.2 24 7 (0 : Int32)) 24 5) + (1 : Int32)))) else (some (st (st q16.2 24 7 (1 : Int32)) 24 5 (((st q16.2 24 7 (1 : Int32)) 24 5) + (1 : Int32)))))) else (some (st (st I 24 7 (1 : Int32)) 24 5 (((st I 24 7 (1 : Int32)) 24 5) + (1 : Int32))))) else (if (I 24 2) = (8 : Int32) then ((f_X1_folded I p0).bind fun q20 => (some (st (st q20.2 24 6 q20.1) 24 5 (((st q20.2 24 6 q20.1) 24 5) + (1 : Int32))))) else (if (I 24 2) = (9 : Int32) then (if kd ((I 24 0).toNatClampNeg) = 5 then ((f_X5_add I ((I 24 0).toNatClampNeg) p0).bind fun q23 => (some (st q23 24 5 ((q23 24 5) + (1 : Int32))))) else none) else (if (I 24 2) = (10 : Int32) then (if kd ((I 24 0).toNatClampNeg) = 5 then ((f_J9_floorMod I p0 (I 24 4)).bind fun q26 => (if inb q26.1 (ln (((I 24 0).toNatClampNeg) + 1)) = true then (if inb q26.1 (ln (((I 24 0).toNatClampNeg) + 1)) = true then (some (st (st q26.2 (((I 24 0).toNatClampNeg) + 1) q26.1.toNatClampNeg ((q26.2 (((I 24 0).toNatClampNeg) + 1) q26.1.toNatClampNeg) + (1 : Int32))) 24 5 (((st q26.2 (((I 24 0).toNatClampNeg) + 1) q26.1.toNatClampNeg ((q26.2 (((I 24 0).toNatClampNeg) + 1) q26.1.toNatClampNeg) + (1 : Int32))) 24 5) + (1 : Int32)))) else none) else none)) else none) else (some (st I 24 5 ((I 24 5) + (1 : Int32)))))))))))))) = _ := hf
  refine lv_aload_n C.1 C.2.1 dX1_take_0 rfl (lv_at hl 0 rfl) ?_
  refine g_X1_2 C hH kk_24 tw_207 dX1_take_1 ?_
  by_cases q1 : (I 24 2) = (1 : Int32)
  · have hf := (if_pos q1).symm.trans hf
    refine lv_tableIn (tgt := 60) (off := 56) C.1 C.2.1 dX1_take_4 (by rw [q1]; decide) (by rw [q1]; decide) (by rw [q1]; decide) (by decide) ?_
    refine lv_aload_n C.1 C.2.1 dX1_take_60 rfl (lv_at hl 0 rfl) ?_
    refine lv_dup C.1 C.2.1 dX1_take_61 rfl ?_
    refine g_X1_6 C hH kk_24 tw_211 dX1_take_62 ?_
    refine lv_iload_n C.1 C.2.1 dX1_take_65 rfl (lv_at hl 1 rfl) ?_
    refine lv_iadd C.1 C.2.1 dX1_take_66 ?_
    refine p_X1_6 C hH kk_24  tw_211 dX1_take_67 (fun H locs hH => ?_)
    refine lv_goto (tgt := 266) C.1 C.2.1 dX1_take_70 (by decide) ?_
    refine lv_aload_n C.1 C.2.1 dX1_take_266 rfl (lv_at hl 0 rfl) ?_
    refine lv_dup C.1 C.2.1 dX1_take_267 rfl ?_
    refine g_X1_5 C hH kk_24 tw_210 dX1_take_268 ?_
    refine lv_iconst (v := (1 : Int32)) C.1 C.2.1 dX1_take_271 (by decide) ?_
    refine lv_iadd C.1 C.2.1 dX1_take_272 ?_
    refine p_X1_5 C hH kk_24  tw_210 dX1_take_273 (fun H locs hH => ?_)
    cases hf
    exact x_vret C hr hH dX1_take_276
  · have hf := (if_neg q1).symm.trans hf
    by_cases q3 : (I 24 2) = (2 : Int32)
    · have hf := (if_pos q3).symm.trans hf
      refine lv_tableIn (tgt := 73) (off := 69) C.1 C.2.1 dX1_take_4 (by rw [q3]; decide) (by rw [q3]; decide) (by rw [q3]; decide) (by decide) ?_
      refine lv_aload_n C.1 C.2.1 dX1_take_73 rfl (lv_at hl 0 rfl) ?_
      refine lv_aload_n C.1 C.2.1 dX1_take_74 rfl (lv_at hl 0 rfl) ?_
      refine g_X1_5 C hH kk_24 tw_210 dX1_take_75 ?_
      refine lv_if_ne (tgt := 85) C.1 C.2.1 dX1_take_78 (by decide) (fun q2 => ?_) (fun q2 => ?_)
      · have hf := (if_neg q2).symm.trans hf
        refine lv_aload_n C.1 C.2.1 dX1_take_85 rfl (lv_at hl 0 rfl) ?_
        refine g_X1_6 C hH kk_24 tw_211 dX1_take_86 ?_
        refine lv_iload_n C.1 C.2.1 dX1_take_89 rfl (lv_at hl 1 rfl) ?_
        refine va_mmin C.1 C.2.1 (C.2.2.1.trans hl.1.symm) C.2.2.2.1 (C.word tw_645 rfl) (C.word tw_646 rfl) (C.word tw_64 rfl) (C.word tw_647 rfl) (by decide) (Nat.le_of_ble_eq_true rfl) (by decide) (by decide) dX1_take_90 ?_
        refine p_X1_6 C hH kk_24  tw_211 dX1_take_93 (fun H locs hH => ?_)
        refine lv_goto (tgt := 266) C.1 C.2.1 dX1_take_96 (by decide) ?_
        refine lv_aload_n C.1 C.2.1 dX1_take_266 rfl (lv_at hl 0 rfl) ?_
        refine lv_dup C.1 C.2.1 dX1_take_267 rfl ?_
        refine g_X1_5 C hH kk_24 tw_210 dX1_take_268 ?_
        refine lv_iconst (v := (1 : Int32)) C.1 C.2.1 dX1_take_271 (by decide) ?_
        refine lv_iadd C.1 C.2.1 dX1_take_272 ?_
        refine p_X1_5 C hH kk_24  tw_210 dX1_take_273 (fun H locs hH => ?_)
        cases hf
        exact x_vret C hr hH dX1_take_276
      · have hf := (if_pos q2).symm.trans hf
        refine lv_iload_n C.1 C.2.1 dX1_take_81 rfl (lv_at hl 1 rfl) ?_
        refine lv_goto (tgt := 93) C.1 C.2.1 dX1_take_82 (by decide) ?_
        refine p_X1_6 C hH kk_24  tw_211 dX1_take_93 (fun H locs hH => ?_)
        refine lv_goto (tgt := 266) C.1 C.2.1 dX1_take_96 (by decide) ?_
        refine lv_aload_n C.1 C.2.1 dX1_take_266 rfl (lv_at hl 0 rfl) ?_
        refine lv_dup C.1 C.2.1 dX1_take_267 rfl ?_
        refine g_X1_5 C hH kk_24 tw_210 dX1_take_268 ?_
        refine lv_iconst (v := (1 : Int32)) C.1 C.2.1 dX1_take_271 (by decide) ?_
        refine lv_iadd C.1 C.2.1 dX1_take_272 ?_
        refine p_X1_5 C hH kk_24  tw_210 dX1_take_273 (fun H locs hH => ?_)
        cases hf
        exact x_vret C hr hH dX1_take_276
    · have hf := (if_neg q3).symm.trans hf
      by_cases q5 : (I 24 2) = (3 : Int32)
      · have hf := (if_pos q5).symm.trans hf
        refine lv_tableIn (tgt := 99) (off := 95) C.1 C.2.1 dX1_take_4 (by rw [q5]; decide) (by rw [q5]; decide) (by rw [q5]; decide) (by decide) ?_
        refine lv_aload_n C.1 C.2.1 dX1_take_99 rfl (lv_at hl 0 rfl) ?_
        refine lv_aload_n C.1 C.2.1 dX1_take_100 rfl (lv_at hl 0 rfl) ?_
        refine g_X1_5 C hH kk_24 tw_210 dX1_take_101 ?_
        refine lv_if_ne (tgt := 111) C.1 C.2.1 dX1_take_104 (by decide) (fun q4 => ?_) (fun q4 => ?_)
        · have hf := (if_neg q4).symm.trans hf
          refine lv_aload_n C.1 C.2.1 dX1_take_111 rfl (lv_at hl 0 rfl) ?_
          refine g_X1_6 C hH kk_24 tw_211 dX1_take_112 ?_
          refine lv_iload_n C.1 C.2.1 dX1_take_115 rfl (lv_at hl 1 rfl) ?_
          refine va_mmax C.1 C.2.1 (C.2.2.1.trans hl.1.symm) C.2.2.2.1 (C.word tw_648 rfl) (C.word tw_649 rfl) (C.word tw_64 rfl) (C.word tw_650 rfl) (by decide) (Nat.le_of_ble_eq_true rfl) (by decide) (by decide) dX1_take_116 ?_
          refine p_X1_6 C hH kk_24  tw_211 dX1_take_119 (fun H locs hH => ?_)
          refine lv_goto (tgt := 266) C.1 C.2.1 dX1_take_122 (by decide) ?_
          refine lv_aload_n C.1 C.2.1 dX1_take_266 rfl (lv_at hl 0 rfl) ?_
          refine lv_dup C.1 C.2.1 dX1_take_267 rfl ?_
          refine g_X1_5 C hH kk_24 tw_210 dX1_take_268 ?_
          refine lv_iconst (v := (1 : Int32)) C.1 C.2.1 dX1_take_271 (by decide) ?_
          refine lv_iadd C.1 C.2.1 dX1_take_272 ?_
          refine p_X1_5 C hH kk_24  tw_210 dX1_take_273 (fun H locs hH => ?_)
          cases hf
          exact x_vret C hr hH dX1_take_276
        · have hf := (if_pos q4).symm.trans hf
          refine lv_iload_n C.1 C.2.1 dX1_take_107 rfl (lv_at hl 1 rfl) ?_
          refine lv_goto (tgt := 119) C.1 C.2.1 dX1_take_108 (by decide) ?_
          refine p_X1_6 C hH kk_24  tw_211 dX1_take_119 (fun H locs hH => ?_)
          refine lv_goto (tgt := 266) C.1 C.2.1 dX1_take_122 (by decide) ?_
          refine lv_aload_n C.1 C.2.1 dX1_take_266 rfl (lv_at hl 0 rfl) ?_
          refine lv_dup C.1 C.2.1 dX1_take_267 rfl ?_
          refine g_X1_5 C hH kk_24 tw_210 dX1_take_268 ?_
          refine lv_iconst (v := (1 : Int32)) C.1 C.2.1 dX1_take_271 (by decide) ?_
          refine lv_iadd C.1 C.2.1 dX1_take_272 ?_
          refine p_X1_5 C hH kk_24  tw_210 dX1_take_273 (fun H locs hH => ?_)
          cases hf
          exact x_vret C hr hH dX1_take_276
      · have hf := (if_neg q5).symm.trans hf
        by_cases q7 : (I 24 2) = (4 : Int32)
        · have hf := (if_pos q7).symm.trans hf
          refine lv_tableIn (tgt := 125) (off := 121) C.1 C.2.1 dX1_take_4 (by rw [q7]; decide) (by rw [q7]; decide) (by rw [q7]; decide) (by decide) ?_
          refine lv_aload_n C.1 C.2.1 dX1_take_125 rfl (lv_at hl 0 rfl) ?_
          refine lv_aload_n C.1 C.2.1 dX1_take_126 rfl (lv_at hl 0 rfl) ?_
          refine g_X1_7 C hH kk_24 tw_212 dX1_take_127 ?_
          refine lv_if_eq (tgt := 140) C.1 C.2.1 dX1_take_130 (by decide) (fun q6 => ?_) (fun q6 => ?_)
          · have hf := (if_pos q6).symm.trans hf
            refine lv_iload_n C.1 C.2.1 dX1_take_140 rfl (lv_at hl 1 rfl) ?_
            refine p_X1_6 C hH kk_24  tw_211 dX1_take_141 (fun H locs hH => ?_)
            refine lv_aload_n C.1 C.2.1 dX1_take_144 rfl (lv_at hl 0 rfl) ?_
            refine lv_iconst (v := (1 : Int32)) C.1 C.2.1 dX1_take_145 (by decide) ?_
            refine p_X1_7 C hH kk_24 ⟨rfl, rfl⟩ tw_212 dX1_take_146 (fun H locs hH => ?_)
            refine lv_goto (tgt := 266) C.1 C.2.1 dX1_take_149 (by decide) ?_
            refine lv_aload_n C.1 C.2.1 dX1_take_266 rfl (lv_at hl 0 rfl) ?_
            refine lv_dup C.1 C.2.1 dX1_take_267 rfl ?_
            refine g_X1_5 C hH kk_24 tw_210 dX1_take_268 ?_
            refine lv_iconst (v := (1 : Int32)) C.1 C.2.1 dX1_take_271 (by decide) ?_
            refine lv_iadd C.1 C.2.1 dX1_take_272 ?_
            refine p_X1_5 C hH kk_24  tw_210 dX1_take_273 (fun H locs hH => ?_)
            cases hf
            exact x_vret C hr hH dX1_take_276
          · have hf := (if_neg q6).symm.trans hf
            refine lv_aload_n C.1 C.2.1 dX1_take_133 rfl (lv_at hl 0 rfl) ?_
            refine g_X1_6 C hH kk_24 tw_211 dX1_take_134 ?_
            refine lv_goto (tgt := 141) C.1 C.2.1 dX1_take_137 (by decide) ?_
            refine p_X1_6 C hH kk_24  tw_211 dX1_take_141 (fun H locs hH => ?_)
            refine lv_aload_n C.1 C.2.1 dX1_take_144 rfl (lv_at hl 0 rfl) ?_
            refine lv_iconst (v := (1 : Int32)) C.1 C.2.1 dX1_take_145 (by decide) ?_
            refine p_X1_7 C hH kk_24 ⟨rfl, rfl⟩ tw_212 dX1_take_146 (fun H locs hH => ?_)
            refine lv_goto (tgt := 266) C.1 C.2.1 dX1_take_149 (by decide) ?_
            refine lv_aload_n C.1 C.2.1 dX1_take_266 rfl (lv_at hl 0 rfl) ?_
            refine lv_dup C.1 C.2.1 dX1_take_267 rfl ?_
            refine g_X1_5 C hH kk_24 tw_210 dX1_take_268 ?_
            refine lv_iconst (v := (1 : Int32)) C.1 C.2.1 dX1_take_271 (by decide) ?_
            refine lv_iadd C.1 C.2.1 dX1_take_272 ?_
            refine p_X1_5 C hH kk_24  tw_210 dX1_take_273 (fun H locs hH => ?_)
            cases hf
            exact x_vret C hr hH dX1_take_276
        · have hf := (if_neg q7).symm.trans hf
          by_cases q11 : (I 24 2) = (5 : Int32)
          · have hf := (if_pos q11).symm.trans hf
            refine lv_tableIn (tgt := 152) (off := 148) C.1 C.2.1 dX1_take_4 (by rw [q11]; decide) (by rw [q11]; decide) (by rw [q11]; decide) (by decide) ?_
            refine lv_aload_n C.1 C.2.1 dX1_take_152 rfl (lv_at hl 0 rfl) ?_
            refine lv_aload_n C.1 C.2.1 dX1_take_153 rfl (lv_at hl 0 rfl) ?_
            refine g_X1_7 C hH kk_24 tw_212 dX1_take_154 ?_
            refine lv_if_ne (tgt := 175) C.1 C.2.1 dX1_take_157 (by decide) (fun q10 => ?_) (fun q10 => ?_)
            · have hf := (if_neg q10).symm.trans hf
              refine lv_iconst (v := (1 : Int32)) C.1 C.2.1 dX1_take_175 (by decide) ?_
              refine lv_goto (tgt := 180) C.1 C.2.1 dX1_take_176 (by decide) ?_
              refine p_X1_7 C hH kk_24 ⟨rfl, rfl⟩ tw_212 dX1_take_180 (fun H locs hH => ?_)
              refine lv_goto (tgt := 266) C.1 C.2.1 dX1_take_183 (by decide) ?_
              refine lv_aload_n C.1 C.2.1 dX1_take_266 rfl (lv_at hl 0 rfl) ?_
              refine lv_dup C.1 C.2.1 dX1_take_267 rfl ?_
              refine g_X1_5 C hH kk_24 tw_210 dX1_take_268 ?_
              refine lv_iconst (v := (1 : Int32)) C.1 C.2.1 dX1_take_271 (by decide) ?_
              refine lv_iadd C.1 C.2.1 dX1_take_272 ?_
              refine p_X1_5 C hH kk_24  tw_210 dX1_take_273 (fun H locs hH => ?_)
              cases hf
              exact x_vret C hr hH dX1_take_276
            · have hf := (if_pos q10).symm.trans hf
              refine lv_iload_n C.1 C.2.1 dX1_take_160 rfl (lv_at hl 1 rfl) ?_
              refine lv_aload_n C.1 C.2.1 dX1_take_161 rfl (lv_at hl 0 rfl) ?_
              refine g_X1_3 C hH kk_24 tw_208 dX1_take_162 ?_
              refine lv_aload_n C.1 C.2.1 dX1_take_165 rfl (lv_at hl 0 rfl) ?_
              refine g_X1_4 C hH kk_24 tw_209 dX1_take_166 ?_
              obtain ⟨q8, hc, hf⟩ := Option.bind_eq_some_iff.mp hf
              refine x_sNi (n := 3) C hH (c_X9_passes l G I p0 (I 24 3) (I 24 4) hc) tw_616 tw_651 tw_615 tw_47 (by decide +kernel) ⟨Nat.le_of_ble_eq_true rfl, Nat.le_of_ble_eq_true rfl⟩ rfl hl.1 rfl (Nat.le_of_ble_eq_true rfl) ⟨Nat.le_of_ble_eq_true rfl, Nat.le_of_ble_eq_true rfl⟩ dX1_take_169 (fun H locs hH => ?_)
              refine lv_if_eq (tgt := 179) C.1 C.2.1 dX1_take_172 (by decide) (fun q9 => ?_) (fun q9 => ?_)
              · have hf := (if_pos q9).symm.trans hf
                refine lv_iconst (v := (0 : Int32)) C.1 C.2.1 dX1_take_179 (by decide) ?_
                refine p_X1_7 C hH kk_24 ⟨rfl, rfl⟩ tw_212 dX1_take_180 (fun H locs hH => ?_)
                refine lv_goto (tgt := 266) C.1 C.2.1 dX1_take_183 (by decide) ?_
                refine lv_aload_n C.1 C.2.1 dX1_take_266 rfl (lv_at hl 0 rfl) ?_
                refine lv_dup C.1 C.2.1 dX1_take_267 rfl ?_
                refine g_X1_5 C hH kk_24 tw_210 dX1_take_268 ?_
                refine lv_iconst (v := (1 : Int32)) C.1 C.2.1 dX1_take_271 (by decide) ?_
                refine lv_iadd C.1 C.2.1 dX1_take_272 ?_
                refine p_X1_5 C hH kk_24  tw_210 dX1_take_273 (fun H locs hH => ?_)
                cases hf
                exact x_vret C hr hH dX1_take_276
              · have hf := (if_neg q9).symm.trans hf
                refine lv_iconst (v := (1 : Int32)) C.1 C.2.1 dX1_take_175 (by decide) ?_
                refine lv_goto (tgt := 180) C.1 C.2.1 dX1_take_176 (by decide) ?_
                refine p_X1_7 C hH kk_24 ⟨rfl, rfl⟩ tw_212 dX1_take_180 (fun H locs hH => ?_)
                refine lv_goto (tgt := 266) C.1 C.2.1 dX1_take_183 (by decide) ?_
                refine lv_aload_n C.1 C.2.1 dX1_take_266 rfl (lv_at hl 0 rfl) ?_
                refine lv_dup C.1 C.2.1 dX1_take_267 rfl ?_
                refine g_X1_5 C hH kk_24 tw_210 dX1_take_268 ?_
                refine lv_iconst (v := (1 : Int32)) C.1 C.2.1 dX1_take_271 (by decide) ?_
                refine lv_iadd C.1 C.2.1 dX1_take_272 ?_
                refine p_X1_5 C hH kk_24  tw_210 dX1_take_273 (fun H locs hH => ?_)
                cases hf
                exact x_vret C hr hH dX1_take_276
          · have hf := (if_neg q11).symm.trans hf
            by_cases q15 : (I 24 2) = (6 : Int32)
            · have hf := (if_pos q15).symm.trans hf
              refine lv_tableIn (tgt := 186) (off := 182) C.1 C.2.1 dX1_take_4 (by rw [q15]; decide) (by rw [q15]; decide) (by rw [q15]; decide) (by decide) ?_
              refine lv_aload_n C.1 C.2.1 dX1_take_186 rfl (lv_at hl 0 rfl) ?_
              refine lv_aload_n C.1 C.2.1 dX1_take_187 rfl (lv_at hl 0 rfl) ?_
              refine g_X1_7 C hH kk_24 tw_212 dX1_take_188 ?_
              refine lv_if_ne (tgt := 209) C.1 C.2.1 dX1_take_191 (by decide) (fun q14 => ?_) (fun q14 => ?_)
              · have hf := (if_neg q14).symm.trans hf
                refine lv_iconst (v := (1 : Int32)) C.1 C.2.1 dX1_take_209 (by decide) ?_
                refine lv_goto (tgt := 214) C.1 C.2.1 dX1_take_210 (by decide) ?_
                refine p_X1_7 C hH kk_24 ⟨rfl, rfl⟩ tw_212 dX1_take_214 (fun H locs hH => ?_)
                refine lv_goto (tgt := 266) C.1 C.2.1 dX1_take_217 (by decide) ?_
                refine lv_aload_n C.1 C.2.1 dX1_take_266 rfl (lv_at hl 0 rfl) ?_
                refine lv_dup C.1 C.2.1 dX1_take_267 rfl ?_
                refine g_X1_5 C hH kk_24 tw_210 dX1_take_268 ?_
                refine lv_iconst (v := (1 : Int32)) C.1 C.2.1 dX1_take_271 (by decide) ?_
                refine lv_iadd C.1 C.2.1 dX1_take_272 ?_
                refine p_X1_5 C hH kk_24  tw_210 dX1_take_273 (fun H locs hH => ?_)
                cases hf
                exact x_vret C hr hH dX1_take_276
              · have hf := (if_pos q14).symm.trans hf
                refine lv_iload_n C.1 C.2.1 dX1_take_194 rfl (lv_at hl 1 rfl) ?_
                refine lv_aload_n C.1 C.2.1 dX1_take_195 rfl (lv_at hl 0 rfl) ?_
                refine g_X1_3 C hH kk_24 tw_208 dX1_take_196 ?_
                refine lv_aload_n C.1 C.2.1 dX1_take_199 rfl (lv_at hl 0 rfl) ?_
                refine g_X1_4 C hH kk_24 tw_209 dX1_take_200 ?_
                obtain ⟨q12, hc, hf⟩ := Option.bind_eq_some_iff.mp hf
                refine x_sNi (n := 3) C hH (c_X9_passes l G I p0 (I 24 3) (I 24 4) hc) tw_616 tw_651 tw_615 tw_47 (by decide +kernel) ⟨Nat.le_of_ble_eq_true rfl, Nat.le_of_ble_eq_true rfl⟩ rfl hl.1 rfl (Nat.le_of_ble_eq_true rfl) ⟨Nat.le_of_ble_eq_true rfl, Nat.le_of_ble_eq_true rfl⟩ dX1_take_203 (fun H locs hH => ?_)
                refine lv_if_ne (tgt := 213) C.1 C.2.1 dX1_take_206 (by decide) (fun q13 => ?_) (fun q13 => ?_)
                · have hf := (if_neg q13).symm.trans hf
                  refine lv_iconst (v := (0 : Int32)) C.1 C.2.1 dX1_take_213 (by decide) ?_
                  refine p_X1_7 C hH kk_24 ⟨rfl, rfl⟩ tw_212 dX1_take_214 (fun H locs hH => ?_)
                  refine lv_goto (tgt := 266) C.1 C.2.1 dX1_take_217 (by decide) ?_
                  refine lv_aload_n C.1 C.2.1 dX1_take_266 rfl (lv_at hl 0 rfl) ?_
                  refine lv_dup C.1 C.2.1 dX1_take_267 rfl ?_
                  refine g_X1_5 C hH kk_24 tw_210 dX1_take_268 ?_
                  refine lv_iconst (v := (1 : Int32)) C.1 C.2.1 dX1_take_271 (by decide) ?_
                  refine lv_iadd C.1 C.2.1 dX1_take_272 ?_
                  refine p_X1_5 C hH kk_24  tw_210 dX1_take_273 (fun H locs hH => ?_)
                  cases hf
                  exact x_vret C hr hH dX1_take_276
                · have hf := (if_pos q13).symm.trans hf
                  refine lv_iconst (v := (1 : Int32)) C.1 C.2.1 dX1_take_209 (by decide) ?_
                  refine lv_goto (tgt := 214) C.1 C.2.1 dX1_take_210 (by decide) ?_
                  refine p_X1_7 C hH kk_24 ⟨rfl, rfl⟩ tw_212 dX1_take_214 (fun H locs hH => ?_)
                  refine lv_goto (tgt := 266) C.1 C.2.1 dX1_take_217 (by decide) ?_
                  refine lv_aload_n C.1 C.2.1 dX1_take_266 rfl (lv_at hl 0 rfl) ?_
                  refine lv_dup C.1 C.2.1 dX1_take_267 rfl ?_
                  refine g_X1_5 C hH kk_24 tw_210 dX1_take_268 ?_
                  refine lv_iconst (v := (1 : Int32)) C.1 C.2.1 dX1_take_271 (by decide) ?_
                  refine lv_iadd C.1 C.2.1 dX1_take_272 ?_
                  refine p_X1_5 C hH kk_24  tw_210 dX1_take_273 (fun H locs hH => ?_)
                  cases hf
                  exact x_vret C hr hH dX1_take_276
            · have hf := (if_neg q15).symm.trans hf
              by_cases q19 : (I 24 2) = (7 : Int32)
              · have hf := (if_pos q19).symm.trans hf
                refine lv_tableIn (tgt := 152) (off := 148) C.1 C.2.1 dX1_take_4 (by rw [q19]; decide) (by rw [q19]; decide) (by rw [q19]; decide) (by decide) ?_
                refine lv_aload_n C.1 C.2.1 dX1_take_152 rfl (lv_at hl 0 rfl) ?_
                refine lv_aload_n C.1 C.2.1 dX1_take_153 rfl (lv_at hl 0 rfl) ?_
                refine g_X1_7 C hH kk_24 tw_212 dX1_take_154 ?_
                refine lv_if_ne (tgt := 175) C.1 C.2.1 dX1_take_157 (by decide) (fun q18 => ?_) (fun q18 => ?_)
                · have hf := (if_neg q18).symm.trans hf
                  refine lv_iconst (v := (1 : Int32)) C.1 C.2.1 dX1_take_175 (by decide) ?_
                  refine lv_goto (tgt := 180) C.1 C.2.1 dX1_take_176 (by decide) ?_
                  refine p_X1_7 C hH kk_24 ⟨rfl, rfl⟩ tw_212 dX1_take_180 (fun H locs hH => ?_)
                  refine lv_goto (tgt := 266) C.1 C.2.1 dX1_take_183 (by decide) ?_
                  refine lv_aload_n C.1 C.2.1 dX1_take_266 rfl (lv_at hl 0 rfl) ?_
                  refine lv_dup C.1 C.2.1 dX1_take_267 rfl ?_
                  refine g_X1_5 C hH kk_24 tw_210 dX1_take_268 ?_
                  refine lv_iconst (v := (1 : Int32)) C.1 C.2.1 dX1_take_271 (by decide) ?_
                  refine lv_iadd C.1 C.2.1 dX1_take_272 ?_
                  refine p_X1_5 C hH kk_24  tw_210 dX1_take_273 (fun H locs hH => ?_)
                  cases hf
                  exact x_vret C hr hH dX1_take_276
                · have hf := (if_pos q18).symm.trans hf
                  refine lv_iload_n C.1 C.2.1 dX1_take_160 rfl (lv_at hl 1 rfl) ?_
                  refine lv_aload_n C.1 C.2.1 dX1_take_161 rfl (lv_at hl 0 rfl) ?_
                  refine g_X1_3 C hH kk_24 tw_208 dX1_take_162 ?_
                  refine lv_aload_n C.1 C.2.1 dX1_take_165 rfl (lv_at hl 0 rfl) ?_
                  refine g_X1_4 C hH kk_24 tw_209 dX1_take_166 ?_
                  obtain ⟨q16, hc, hf⟩ := Option.bind_eq_some_iff.mp hf
                  refine x_sNi (n := 3) C hH (c_X9_passes l G I p0 (I 24 3) (I 24 4) hc) tw_616 tw_651 tw_615 tw_47 (by decide +kernel) ⟨Nat.le_of_ble_eq_true rfl, Nat.le_of_ble_eq_true rfl⟩ rfl hl.1 rfl (Nat.le_of_ble_eq_true rfl) ⟨Nat.le_of_ble_eq_true rfl, Nat.le_of_ble_eq_true rfl⟩ dX1_take_169 (fun H locs hH => ?_)
                  refine lv_if_eq (tgt := 179) C.1 C.2.1 dX1_take_172 (by decide) (fun q17 => ?_) (fun q17 => ?_)
                  · have hf := (if_pos q17).symm.trans hf
                    refine lv_iconst (v := (0 : Int32)) C.1 C.2.1 dX1_take_179 (by decide) ?_
                    refine p_X1_7 C hH kk_24 ⟨rfl, rfl⟩ tw_212 dX1_take_180 (fun H locs hH => ?_)
                    refine lv_goto (tgt := 266) C.1 C.2.1 dX1_take_183 (by decide) ?_
                    refine lv_aload_n C.1 C.2.1 dX1_take_266 rfl (lv_at hl 0 rfl) ?_
                    refine lv_dup C.1 C.2.1 dX1_take_267 rfl ?_
                    refine g_X1_5 C hH kk_24 tw_210 dX1_take_268 ?_
                    refine lv_iconst (v := (1 : Int32)) C.1 C.2.1 dX1_take_271 (by decide) ?_
                    refine lv_iadd C.1 C.2.1 dX1_take_272 ?_
                    refine p_X1_5 C hH kk_24  tw_210 dX1_take_273 (fun H locs hH => ?_)
                    cases hf
                    exact x_vret C hr hH dX1_take_276
                  · have hf := (if_neg q17).symm.trans hf
                    refine lv_iconst (v := (1 : Int32)) C.1 C.2.1 dX1_take_175 (by decide) ?_
                    refine lv_goto (tgt := 180) C.1 C.2.1 dX1_take_176 (by decide) ?_
                    refine p_X1_7 C hH kk_24 ⟨rfl, rfl⟩ tw_212 dX1_take_180 (fun H locs hH => ?_)
                    refine lv_goto (tgt := 266) C.1 C.2.1 dX1_take_183 (by decide) ?_
                    refine lv_aload_n C.1 C.2.1 dX1_take_266 rfl (lv_at hl 0 rfl) ?_
                    refine lv_dup C.1 C.2.1 dX1_take_267 rfl ?_
                    refine g_X1_5 C hH kk_24 tw_210 dX1_take_268 ?_
                    refine lv_iconst (v := (1 : Int32)) C.1 C.2.1 dX1_take_271 (by decide) ?_
                    refine lv_iadd C.1 C.2.1 dX1_take_272 ?_
                    refine p_X1_5 C hH kk_24  tw_210 dX1_take_273 (fun H locs hH => ?_)
                    cases hf
                    exact x_vret C hr hH dX1_take_276
              · have hf := (if_neg q19).symm.trans hf
                by_cases q21 : (I 24 2) = (8 : Int32)
                · have hf := (if_pos q21).symm.trans hf
                  refine lv_tableIn (tgt := 220) (off := 216) C.1 C.2.1 dX1_take_4 (by rw [q21]; decide) (by rw [q21]; decide) (by rw [q21]; decide) (by decide) ?_
                  refine lv_aload_n C.1 C.2.1 dX1_take_220 rfl (lv_at hl 0 rfl) ?_
                  refine lv_aload_n C.1 C.2.1 dX1_take_221 rfl (lv_at hl 0 rfl) ?_
                  refine lv_iload_n C.1 C.2.1 dX1_take_222 rfl (lv_at hl 1 rfl) ?_
                  obtain ⟨q20, hc, hf⟩ := Option.bind_eq_some_iff.mp hf
                  refine x_ci (n := 1) C hH (c_X1_folded l G I p0 hc) (kd_lt kk_24 (by decide)) (cE_1 kk_24) rfl tw_655 tw_652 tw_654 tw_14 tw_52 (by decide +kernel) ⟨Nat.le_of_ble_eq_true rfl, Nat.le_of_ble_eq_true rfl⟩ rfl hl.1 rfl (Nat.le_of_ble_eq_true rfl) ⟨Nat.le_of_ble_eq_true rfl, Nat.le_of_ble_eq_true rfl⟩ dX1_take_223 (fun H locs hH => ?_)
                  refine p_X1_6 C hH kk_24  tw_211 dX1_take_226 (fun H locs hH => ?_)
                  refine lv_goto (tgt := 266) C.1 C.2.1 dX1_take_229 (by decide) ?_
                  refine lv_aload_n C.1 C.2.1 dX1_take_266 rfl (lv_at hl 0 rfl) ?_
                  refine lv_dup C.1 C.2.1 dX1_take_267 rfl ?_
                  refine g_X1_5 C hH kk_24 tw_210 dX1_take_268 ?_
                  refine lv_iconst (v := (1 : Int32)) C.1 C.2.1 dX1_take_271 (by decide) ?_
                  refine lv_iadd C.1 C.2.1 dX1_take_272 ?_
                  refine p_X1_5 C hH kk_24  tw_210 dX1_take_273 (fun H locs hH => ?_)
                  cases hf
                  exact x_vret C hr hH dX1_take_276
                · have hf := (if_neg q21).symm.trans hf
                  by_cases q24 : (I 24 2) = (9 : Int32)
                  · have hf := (if_pos q24).symm.trans hf
                    refine lv_tableIn (tgt := 232) (off := 228) C.1 C.2.1 dX1_take_4 (by rw [q24]; decide) (by rw [q24]; decide) (by rw [q24]; decide) (by decide) ?_
                    refine lv_aload_n C.1 C.2.1 dX1_take_232 rfl (lv_at hl 0 rfl) ?_
                    obtain ⟨q22, hf⟩ := itn hf
                    refine g_X1_0 C hH kk_24 tw_204 dX1_take_233 ?_
                    refine lv_iload_n C.1 C.2.1 dX1_take_236 rfl (lv_at hl 1 rfl) ?_
                    obtain ⟨q23, hc, hf⟩ := Option.bind_eq_some_iff.mp hf
                    refine x_cv (n := 1) C hH (c_X5_add l G I ((I 24 0).toNatClampNeg) p0 q22 hc) (kd_lt q22 (by decide)) (cE_5 q22) rfl tw_449 tw_565 tw_447 tw_448 tw_48 (by decide +kernel) ⟨Nat.le_of_ble_eq_true rfl, Nat.le_of_ble_eq_true rfl⟩ rfl hl.1 rfl (Nat.le_of_ble_eq_true rfl) ⟨Nat.le_of_ble_eq_true rfl, Nat.le_of_ble_eq_true rfl⟩ dX1_take_237 (fun H locs hH => ?_)
                    refine lv_goto (tgt := 266) C.1 C.2.1 dX1_take_240 (by decide) ?_
                    refine lv_aload_n C.1 C.2.1 dX1_take_266 rfl (lv_at hl 0 rfl) ?_
                    refine lv_dup C.1 C.2.1 dX1_take_267 rfl ?_
                    refine g_X1_5 C hH kk_24 tw_210 dX1_take_268 ?_
                    refine lv_iconst (v := (1 : Int32)) C.1 C.2.1 dX1_take_271 (by decide) ?_
                    refine lv_iadd C.1 C.2.1 dX1_take_272 ?_
                    refine p_X1_5 C hH kk_24  tw_210 dX1_take_273 (fun H locs hH => ?_)
                    cases hf
                    exact x_vret C hr hH dX1_take_276
                  · have hf := (if_neg q24).symm.trans hf
                    by_cases q29 : (I 24 2) = (10 : Int32)
                    · have hf := (if_pos q29).symm.trans hf
                      refine lv_tableIn (tgt := 243) (off := 239) C.1 C.2.1 dX1_take_4 (by rw [q29]; decide) (by rw [q29]; decide) (by rw [q29]; decide) (by decide) ?_
                      refine lv_aload_n C.1 C.2.1 dX1_take_243 rfl (lv_at hl 0 rfl) ?_
                      obtain ⟨q25, hf⟩ := itn hf
                      refine g_X1_0 C hH kk_24 tw_204 dX1_take_244 ?_
                      refine gN_X5_0 C hH q25 tw_84 dX1_take_247 ?_
                      refine lv_iload_n C.1 C.2.1 dX1_take_250 rfl (lv_at hl 1 rfl) ?_
                      refine lv_aload_n C.1 C.2.1 dX1_take_251 rfl (lv_at hl 0 rfl) ?_
                      refine g_X1_4 C hH kk_24 tw_209 dX1_take_252 ?_
                      obtain ⟨q26, hc, hf⟩ := Option.bind_eq_some_iff.mp hf
                      refine x_sJi (n := 2) C hH (c_J9_floorMod l G I p0 (I 24 4) hc) tw_658 tw_656 tw_657 tw_64 (by decide +kernel) ⟨Nat.le_of_ble_eq_true rfl, Nat.le_of_ble_eq_true rfl⟩ rfl hl.1 rfl (Nat.le_of_ble_eq_true rfl) ⟨Nat.le_of_ble_eq_true rfl, Nat.le_of_ble_eq_true rfl⟩ dX1_take_255 (fun H locs hH => ?_)
                      refine lv_dup2_11 C.1 C.2.1 dX1_take_258 rfl rfl ?_
                      obtain ⟨q27, hf⟩ := itn hf
                      refine x_iald C hH (kd_items q25) q27 dX1_take_259 ?_
                      refine lv_iconst (v := (1 : Int32)) C.1 C.2.1 dX1_take_260 (by decide) ?_
                      refine lv_iadd C.1 C.2.1 dX1_take_261 ?_
                      obtain ⟨q28, hf⟩ := itn hf
                      refine x_iast C hH (kd_items q25) q28 dX1_take_262 (fun H locs hH => ?_)
                      refine lv_goto (tgt := 266) C.1 C.2.1 dX1_take_263 (by decide) ?_
                      refine lv_aload_n C.1 C.2.1 dX1_take_266 rfl (lv_at hl 0 rfl) ?_
                      refine lv_dup C.1 C.2.1 dX1_take_267 rfl ?_
                      refine g_X1_5 C hH kk_24 tw_210 dX1_take_268 ?_
                      refine lv_iconst (v := (1 : Int32)) C.1 C.2.1 dX1_take_271 (by decide) ?_
                      refine lv_iadd C.1 C.2.1 dX1_take_272 ?_
                      refine p_X1_5 C hH kk_24  tw_210 dX1_take_273 (fun H locs hH => ?_)
                      cases hf
                      exact x_vret C hr hH dX1_take_276
                    · have hf := (if_neg q29).symm.trans hf
                      have q1' := ne_toInt (z := 1) (by decide) q1
                      have q3' := ne_toInt (z := 2) (by decide) q3
                      have q5' := ne_toInt (z := 3) (by decide) q5
                      have q7' := ne_toInt (z := 4) (by decide) q7
                      have q11' := ne_toInt (z := 5) (by decide) q11
                      have q15' := ne_toInt (z := 6) (by decide) q15
                      have q19' := ne_toInt (z := 7) (by decide) q19
                      have q21' := ne_toInt (z := 8) (by decide) q21
                      have q24' := ne_toInt (z := 9) (by decide) q24
                      have q29' := ne_toInt (z := 10) (by decide) q29
                      refine x_tblD (tgt := 266) C.1 C.2.1 dX1_take_4 ?_ (by decide) ?_
                      · exact Or.inl (by omega)
                      · refine lv_aload_n C.1 C.2.1 dX1_take_266 rfl (lv_at hl 0 rfl) ?_
                        refine lv_dup C.1 C.2.1 dX1_take_267 rfl ?_
                        refine g_X1_5 C hH kk_24 tw_210 dX1_take_268 ?_
                        refine lv_iconst (v := (1 : Int32)) C.1 C.2.1 dX1_take_271 (by decide) ?_
                        refine lv_iadd C.1 C.2.1 dX1_take_272 ?_
                        refine p_X1_5 C hH kk_24  tw_210 dX1_take_273 (fun H locs hH => ?_)
                        cases hf
                        exact x_vret C hr hH dX1_take_276
def f_X1_hasResult (I : Mem)  : Option (Bool × Mem) := if 0 < (I 24 5) then (some (true, I)) else (if (I 24 2) = (2 : Int32) then (some (false, I)) else (if (I 24 2) = (3 : Int32) then (some (false, I)) else (if (I 24 2) = (4 : Int32) then (some (false, I)) else (some (true, I)))))
set_option maxHeartbeats 4000000 in
set_option maxRecDepth 100000 in
theorem c_X1_hasResult (l : Launch) (G : Gx) (I : Mem) {res : Bool} {J : Mem} (hf : f_X1_hasResult I = some (res, J)) : Mi l yX1_hasResult (.code yX1_hasResult cX1_hasResult 1 (some .boolean)) 0 0 G I [.ref (G.2.1 24)] (b2i res) J := by
  refine Mi.of (by decide +kernel) (Nat.le_of_ble_eq_true rfl) (fun p e s m below meth c ls C hr hH hl => ?_)
  have hl : lv_has ls 1 [(0, .ref (G.2.1 24))] := hl
  have hf : (if 0 < (I 24 5) then (some (true, I)) else (if (I 24 2) = (2 : Int32) then (some (false, I)) else (if (I 24 2) = (3 : Int32) then (some (false, I)) else (if (I 24 2) = (4 : Int32) then (some (false, I)) else (some (true, I)))))) = _ := hf
  refine lv_aload_n C.1 C.2.1 dX1_hasResult_0 rfl (lv_at hl 0 rfl) ?_
  refine g_X1_5 C hH kk_24 tw_210 dX1_hasResult_1 ?_
  refine lv_if_gt (tgt := 31) C.1 C.2.1 dX1_hasResult_4 (by decide) (fun q4 => ?_) (fun q4 => ?_)
  · have hf := (if_pos q4).symm.trans hf
    refine lv_iconst (v := (1 : Int32)) C.1 C.2.1 dX1_hasResult_31 (by decide) ?_
    refine lv_goto (tgt := 36) C.1 C.2.1 dX1_hasResult_32 (by decide) ?_
    cases hf
    exact x_zret C hr hH rfl dX1_hasResult_36
  · have hf := (if_neg q4).symm.trans hf
    refine lv_aload_n C.1 C.2.1 dX1_hasResult_7 rfl (lv_at hl 0 rfl) ?_
    refine g_X1_2 C hH kk_24 tw_207 dX1_hasResult_8 ?_
    refine lv_iconst (v := (2 : Int32)) C.1 C.2.1 dX1_hasResult_11 (by decide) ?_
    refine lv_icmp_eq (tgt := 35) C.1 C.2.1 dX1_hasResult_12 (by decide) (fun q3 => ?_) (fun q3 => ?_)
    · have hf := (if_pos q3).symm.trans hf
      refine lv_iconst (v := (0 : Int32)) C.1 C.2.1 dX1_hasResult_35 (by decide) ?_
      cases hf
      exact x_zret C hr hH rfl dX1_hasResult_36
    · have hf := (if_neg q3).symm.trans hf
      refine lv_aload_n C.1 C.2.1 dX1_hasResult_15 rfl (lv_at hl 0 rfl) ?_
      refine g_X1_2 C hH kk_24 tw_207 dX1_hasResult_16 ?_
      refine lv_iconst (v := (3 : Int32)) C.1 C.2.1 dX1_hasResult_19 (by decide) ?_
      refine lv_icmp_eq (tgt := 35) C.1 C.2.1 dX1_hasResult_20 (by decide) (fun q2 => ?_) (fun q2 => ?_)
      · have hf := (if_pos q2).symm.trans hf
        refine lv_iconst (v := (0 : Int32)) C.1 C.2.1 dX1_hasResult_35 (by decide) ?_
        cases hf
        exact x_zret C hr hH rfl dX1_hasResult_36
      · have hf := (if_neg q2).symm.trans hf
        refine lv_aload_n C.1 C.2.1 dX1_hasResult_23 rfl (lv_at hl 0 rfl) ?_
        refine g_X1_2 C hH kk_24 tw_207 dX1_hasResult_24 ?_
        refine lv_iconst (v := (4 : Int32)) C.1 C.2.1 dX1_hasResult_27 (by decide) ?_
        refine lv_icmp_eq (tgt := 35) C.1 C.2.1 dX1_hasResult_28 (by decide) (fun q1 => ?_) (fun q1 => ?_)
        · have hf := (if_pos q1).symm.trans hf
          refine lv_iconst (v := (0 : Int32)) C.1 C.2.1 dX1_hasResult_35 (by decide) ?_
          cases hf
          exact x_zret C hr hH rfl dX1_hasResult_36
        · have hf := (if_neg q1).symm.trans hf
          refine lv_iconst (v := (1 : Int32)) C.1 C.2.1 dX1_hasResult_31 (by decide) ?_
          refine lv_goto (tgt := 36) C.1 C.2.1 dX1_hasResult_32 (by decide) ?_
          cases hf
          exact x_zret C hr hH rfl dX1_hasResult_36
def f_X1_differentRemainders_L4   : Nat → Mem → Int32 → Int32 → Option (Int32 × Mem)
  | 0, _, _, _ => none
  | n + 1, I, x1, x2 => if kd ((I 24 0).toNatClampNeg) = 5 then (if (I ((I 24 0).toNatClampNeg) 1) ≤ x2 then (some (x1, I)) else (if kd ((I 24 0).toNatClampNeg) = 5 then (if inb x2 (ln (((I 24 0).toNatClampNeg) + 1)) = true then (if (I (((I 24 0).toNatClampNeg) + 1) x2.toNatClampNeg) ≤ 0 then (f_X1_differentRemainders_L4 n I (x1 + (0 : Int32)) (x2 + (1 : Int32))) else (f_X1_differentRemainders_L4 n I (x1 + (1 : Int32)) (x2 + (1 : Int32)))) else none) else none)) else none
set_option maxHeartbeats 4000000 in
set_option maxRecDepth 100000 in
theorem w_X1_differentRemainders_L4 {p : Program} {l : Launch} {e : Env} {s : State} {m : MethodId} {args : Array Value} {below : List Frame} {meth : Method} {c : Code} {G : Gx} {res : Int32} {J : Mem} (C : CX p l s m args meth c cX1_differentRemainders 3 yX1_differentRemainders.cls G) (hr : meth.sig.returnType = (some .int)) :
    ∀ (n : Nat) (I : Mem) (x1 : Int32) (x2 : Int32) (H : Heap) (locs : List Loc) (ls : Array Slot), HW G s H locs I → lv_has ls 3 [(0, .ref (G.2.1 24)), (1, .int x1), (2, .int x2)] → f_X1_differentRemainders_L4 n I x1 x2 = some (res, J) → W p l e { frames := 0, cells := 0, slots := 0, locals := 0 } s m args below meth c H locs 0 0 (MQ below (Qi9 G res J s.heap.size) args s 0 0 (AA G s.heap.size)) (F0 m 4 ls []) := by
  intro n
  induction n with
  | zero => intro I x1 x2  H locs ls hH hl hf; exact absurd hf (by simp [f_X1_differentRemainders_L4])
  | succ n ih =>
    intro I x1 x2  H locs ls hH hl hf
    have hf : (if kd ((I 24 0).toNatClampNeg) = 5 then (if (I ((I 24 0).toNatClampNeg) 1) ≤ x2 then (some (x1, I)) else (if kd ((I 24 0).toNatClampNeg) = 5 then (if inb x2 (ln (((I 24 0).toNatClampNeg) + 1)) = true then (if (I (((I 24 0).toNatClampNeg) + 1) x2.toNatClampNeg) ≤ 0 then (f_X1_differentRemainders_L4 n I (x1 + (0 : Int32)) (x2 + (1 : Int32))) else (f_X1_differentRemainders_L4 n I (x1 + (1 : Int32)) (x2 + (1 : Int32)))) else none) else none)) else none) = _ := hf
    refine lv_iload_n C.1 C.2.1 dX1_differentRemainders_4 rfl (lv_at hl 2 rfl) ?_
    refine lv_aload_n C.1 C.2.1 dX1_differentRemainders_5 rfl (lv_at hl 0 rfl) ?_
    obtain ⟨q1, hf⟩ := itn hf
    refine g_X1_0 C hH kk_24 tw_204 dX1_differentRemainders_6 ?_
    refine gN_X5_1 C hH q1 tw_92 dX1_differentRemainders_9 ?_
    refine lv_icmp_ge (tgt := 41) C.1 C.2.1 dX1_differentRemainders_12 (by decide) (fun q5 => ?_) (fun q5 => ?_)
    · have hf := (if_pos q5).symm.trans hf
      refine lv_iload_n C.1 C.2.1 dX1_differentRemainders_41 rfl (lv_at hl 1 rfl) ?_
      cases hf
      exact x_iret C hr hH dX1_differentRemainders_42
    · have hf := (if_neg q5).symm.trans hf
      refine lv_iload_n C.1 C.2.1 dX1_differentRemainders_15 rfl (lv_at hl 1 rfl) ?_
      refine lv_aload_n C.1 C.2.1 dX1_differentRemainders_16 rfl (lv_at hl 0 rfl) ?_
      obtain ⟨q2, hf⟩ := itn hf
      refine g_X1_0 C hH kk_24 tw_204 dX1_differentRemainders_17 ?_
      refine gN_X5_0 C hH q2 tw_84 dX1_differentRemainders_20 ?_
      refine lv_iload_n C.1 C.2.1 dX1_differentRemainders_23 rfl (lv_at hl 2 rfl) ?_
      obtain ⟨q3, hf⟩ := itn hf
      refine x_iald C hH (kd_items q2) q3 dX1_differentRemainders_24 ?_
      refine lv_if_le (tgt := 32) C.1 C.2.1 dX1_differentRemainders_25 (by decide) (fun q4 => ?_) (fun q4 => ?_)
      · have hf := (if_pos q4).symm.trans hf
        refine lv_iconst (v := (0 : Int32)) C.1 C.2.1 dX1_differentRemainders_32 (by decide) ?_
        refine lv_iadd C.1 C.2.1 dX1_differentRemainders_33 ?_
        refine lv_istore_n (lv' := [(1, .int (x1 + (0 : Int32))), (0, .ref (G.2.1 24)), (2, .int x2)]) C.1 C.2.1 dX1_differentRemainders_34 rfl hl (by decide) rfl (fun ls hl => ?_)
        refine lv_iinc (v := (x2 + (1 : Int32))) (lv' := [(2, .int (x2 + (1 : Int32))), (1, .int (x1 + (0 : Int32))), (0, .ref (G.2.1 24))]) C.1 C.2.1 dX1_differentRemainders_35 hl (k := 2) rfl rfl (by decide) rfl (fun ls hl => ?_)
        refine lv_goto (tgt := 4) C.1 C.2.1 dX1_differentRemainders_38 (by decide) ?_
        exact ih I (x1 + (0 : Int32)) (x2 + (1 : Int32))  _ _ _ hH (lv_sub hl [2, 1, 0] rfl) hf
      · have hf := (if_neg q4).symm.trans hf
        refine lv_iconst (v := (1 : Int32)) C.1 C.2.1 dX1_differentRemainders_28 (by decide) ?_
        refine lv_goto (tgt := 33) C.1 C.2.1 dX1_differentRemainders_29 (by decide) ?_
        refine lv_iadd C.1 C.2.1 dX1_differentRemainders_33 ?_
        refine lv_istore_n (lv' := [(1, .int (x1 + (1 : Int32))), (0, .ref (G.2.1 24)), (2, .int x2)]) C.1 C.2.1 dX1_differentRemainders_34 rfl hl (by decide) rfl (fun ls hl => ?_)
        refine lv_iinc (v := (x2 + (1 : Int32))) (lv' := [(2, .int (x2 + (1 : Int32))), (1, .int (x1 + (1 : Int32))), (0, .ref (G.2.1 24))]) C.1 C.2.1 dX1_differentRemainders_35 hl (k := 2) rfl rfl (by decide) rfl (fun ls hl => ?_)
        refine lv_goto (tgt := 4) C.1 C.2.1 dX1_differentRemainders_38 (by decide) ?_
        exact ih I (x1 + (1 : Int32)) (x2 + (1 : Int32))  _ _ _ hH (lv_sub hl [2, 1, 0] rfl) hf
def f_X1_differentRemainders (I : Mem)  : Option (Int32 × Mem) := f_X1_differentRemainders_L4 FU I (0 : Int32) (0 : Int32)
set_option maxHeartbeats 4000000 in
set_option maxRecDepth 100000 in
theorem c_X1_differentRemainders (l : Launch) (G : Gx) (I : Mem) {res : Int32} {J : Mem} (hf : f_X1_differentRemainders I = some (res, J)) : Mi l yX1_differentRemainders (.code yX1_differentRemainders cX1_differentRemainders 3 (some .int)) 0 0 G I [.ref (G.2.1 24)] res J := by
  refine Mi.of (by decide +kernel) (Nat.le_of_ble_eq_true rfl) (fun p e s m below meth c ls C hr hH hl => ?_)
  have hl : lv_has ls 3 [(0, .ref (G.2.1 24))] := hl
  have hf : (f_X1_differentRemainders_L4 FU I (0 : Int32) (0 : Int32)) = _ := hf
  refine lv_iconst (v := (0 : Int32)) C.1 C.2.1 dX1_differentRemainders_0 (by decide) ?_
  refine lv_istore_n (lv' := [(1, .int (0 : Int32)), (0, .ref (G.2.1 24))]) C.1 C.2.1 dX1_differentRemainders_1 rfl hl (by decide) rfl (fun ls hl => ?_)
  refine lv_iconst (v := (0 : Int32)) C.1 C.2.1 dX1_differentRemainders_2 (by decide) ?_
  refine lv_istore_n (lv' := [(2, .int (0 : Int32)), (1, .int (0 : Int32)), (0, .ref (G.2.1 24))]) C.1 C.2.1 dX1_differentRemainders_3 rfl hl (by decide) rfl (fun ls hl => ?_)
  exact w_X1_differentRemainders_L4 C hr FU I (0 : Int32) (0 : Int32) _ _ _ hH (lv_sub hl [2, 1, 0] rfl) hf
def f_X1_result (I : Mem)  : Option (Int32 × Mem) := if (I 24 2) = (0 : Int32) then (some ((I 24 5), I)) else (if (I 24 2) = (5 : Int32) then (if (I 24 7) = 0 then (some ((0 : Int32), I)) else (some ((1 : Int32), I))) else (if (I 24 2) = (6 : Int32) then (if (I 24 7) = 0 then (some ((1 : Int32), I)) else (some ((0 : Int32), I))) else (if (I 24 2) = (7 : Int32) then (if (I 24 7) = 0 then (some ((1 : Int32), I)) else (some ((0 : Int32), I))) else (if (I 24 2) = (9 : Int32) then (some ((I 24 5), I)) else (if (I 24 2) = (10 : Int32) then ((f_X1_differentRemainders I).bind fun q9 => (some (q9.1, q9.2))) else (some ((I 24 6), I)))))))
set_option maxHeartbeats 4000000 in
set_option maxRecDepth 100000 in
theorem c_X1_result (l : Launch) (G : Gx) (I : Mem) {res : Int32} {J : Mem} (hf : f_X1_result I = some (res, J)) : Mi l yX1_result (.code yX1_result cX1_result 1 (some .int)) 1 22 G I [.ref (G.2.1 24)] res J := by
  refine Mi.of (by decide +kernel) (Nat.le_of_ble_eq_true rfl) (fun p e s m below meth c ls C hr hH hl => ?_)
  have hl : lv_has ls 1 [(0, .ref (G.2.1 24))] := hl
  have hf : (if (I 24 2) = (0 : Int32) then (some ((I 24 5), I)) else (if (I 24 2) = (5 : Int32) then (if (I 24 7) = 0 then (some ((0 : Int32), I)) else (some ((1 : Int32), I))) else (if (I 24 2) = (6 : Int32) then (if (I 24 7) = 0 then (some ((1 : Int32), I)) else (some ((0 : Int32), I))) else (if (I 24 2) = (7 : Int32) then (if (I 24 7) = 0 then (some ((1 : Int32), I)) else (some ((0 : Int32), I))) else (if (I 24 2) = (9 : Int32) then (some ((I 24 5), I)) else (if (I 24 2) = (10 : Int32) then ((f_X1_differentRemainders I).bind fun q9 => (some (q9.1, q9.2))) else (some ((I 24 6), I)))))))) = _ := hf
  refine lv_aload_n C.1 C.2.1 dX1_result_0 rfl (lv_at hl 0 rfl) ?_
  refine g_X1_2 C hH kk_24 tw_207 dX1_result_1 ?_
  by_cases q1 : (I 24 2) = (0 : Int32)
  · have hf := (if_pos q1).symm.trans hf
    refine lv_tableIn (tgt := 64) (off := 60) C.1 C.2.1 dX1_result_4 (by rw [q1]; decide) (by rw [q1]; decide) (by rw [q1]; decide) (by decide) ?_
    refine lv_aload_n C.1 C.2.1 dX1_result_64 rfl (lv_at hl 0 rfl) ?_
    refine g_X1_5 C hH kk_24 tw_210 dX1_result_65 ?_
    cases hf
    exact x_iret C hr hH dX1_result_68
  · have hf := (if_neg q1).symm.trans hf
    by_cases q3 : (I 24 2) = (5 : Int32)
    · have hf := (if_pos q3).symm.trans hf
      refine lv_tableIn (tgt := 69) (off := 65) C.1 C.2.1 dX1_result_4 (by rw [q3]; decide) (by rw [q3]; decide) (by rw [q3]; decide) (by decide) ?_
      refine lv_aload_n C.1 C.2.1 dX1_result_69 rfl (lv_at hl 0 rfl) ?_
      refine g_X1_7 C hH kk_24 tw_212 dX1_result_70 ?_
      refine lv_if_eq (tgt := 80) C.1 C.2.1 dX1_result_73 (by decide) (fun q2 => ?_) (fun q2 => ?_)
      · have hf := (if_pos q2).symm.trans hf
        refine lv_iconst (v := (0 : Int32)) C.1 C.2.1 dX1_result_80 (by decide) ?_
        cases hf
        exact x_iret C hr hH dX1_result_81
      · have hf := (if_neg q2).symm.trans hf
        refine lv_iconst (v := (1 : Int32)) C.1 C.2.1 dX1_result_76 (by decide) ?_
        refine lv_goto (tgt := 81) C.1 C.2.1 dX1_result_77 (by decide) ?_
        cases hf
        exact x_iret C hr hH dX1_result_81
    · have hf := (if_neg q3).symm.trans hf
      by_cases q5 : (I 24 2) = (6 : Int32)
      · have hf := (if_pos q5).symm.trans hf
        refine lv_tableIn (tgt := 82) (off := 78) C.1 C.2.1 dX1_result_4 (by rw [q5]; decide) (by rw [q5]; decide) (by rw [q5]; decide) (by decide) ?_
        refine lv_aload_n C.1 C.2.1 dX1_result_82 rfl (lv_at hl 0 rfl) ?_
        refine g_X1_7 C hH kk_24 tw_212 dX1_result_83 ?_
        refine lv_if_eq (tgt := 93) C.1 C.2.1 dX1_result_86 (by decide) (fun q4 => ?_) (fun q4 => ?_)
        · have hf := (if_pos q4).symm.trans hf
          refine lv_iconst (v := (1 : Int32)) C.1 C.2.1 dX1_result_93 (by decide) ?_
          cases hf
          exact x_iret C hr hH dX1_result_94
        · have hf := (if_neg q4).symm.trans hf
          refine lv_iconst (v := (0 : Int32)) C.1 C.2.1 dX1_result_89 (by decide) ?_
          refine lv_goto (tgt := 94) C.1 C.2.1 dX1_result_90 (by decide) ?_
          cases hf
          exact x_iret C hr hH dX1_result_94
      · have hf := (if_neg q5).symm.trans hf
        by_cases q7 : (I 24 2) = (7 : Int32)
        · have hf := (if_pos q7).symm.trans hf
          refine lv_tableIn (tgt := 82) (off := 78) C.1 C.2.1 dX1_result_4 (by rw [q7]; decide) (by rw [q7]; decide) (by rw [q7]; decide) (by decide) ?_
          refine lv_aload_n C.1 C.2.1 dX1_result_82 rfl (lv_at hl 0 rfl) ?_
          refine g_X1_7 C hH kk_24 tw_212 dX1_result_83 ?_
          refine lv_if_eq (tgt := 93) C.1 C.2.1 dX1_result_86 (by decide) (fun q6 => ?_) (fun q6 => ?_)
          · have hf := (if_pos q6).symm.trans hf
            refine lv_iconst (v := (1 : Int32)) C.1 C.2.1 dX1_result_93 (by decide) ?_
            cases hf
            exact x_iret C hr hH dX1_result_94
          · have hf := (if_neg q6).symm.trans hf
            refine lv_iconst (v := (0 : Int32)) C.1 C.2.1 dX1_result_89 (by decide) ?_
            refine lv_goto (tgt := 94) C.1 C.2.1 dX1_result_90 (by decide) ?_
            cases hf
            exact x_iret C hr hH dX1_result_94
        · have hf := (if_neg q7).symm.trans hf
          by_cases q8 : (I 24 2) = (9 : Int32)
          · have hf := (if_pos q8).symm.trans hf
            refine lv_tableIn (tgt := 64) (off := 60) C.1 C.2.1 dX1_result_4 (by rw [q8]; decide) (by rw [q8]; decide) (by rw [q8]; decide) (by decide) ?_
            refine lv_aload_n C.1 C.2.1 dX1_result_64 rfl (lv_at hl 0 rfl) ?_
            refine g_X1_5 C hH kk_24 tw_210 dX1_result_65 ?_
            cases hf
            exact x_iret C hr hH dX1_result_68
          · have hf := (if_neg q8).symm.trans hf
            by_cases q10 : (I 24 2) = (10 : Int32)
            · have hf := (if_pos q10).symm.trans hf
              refine lv_tableIn (tgt := 95) (off := 91) C.1 C.2.1 dX1_result_4 (by rw [q10]; decide) (by rw [q10]; decide) (by rw [q10]; decide) (by decide) ?_
              refine lv_aload_n C.1 C.2.1 dX1_result_95 rfl (lv_at hl 0 rfl) ?_
              obtain ⟨q9, hc, hf⟩ := Option.bind_eq_some_iff.mp hf
              refine x_ci (n := 0) C hH (c_X1_differentRemainders l G I  hc) (kd_lt kk_24 (by decide)) (cE_1 kk_24) rfl tw_710 tw_707 tw_709 tw_17 tw_52 (by decide +kernel) ⟨Nat.le_of_ble_eq_true rfl, Nat.le_of_ble_eq_true rfl⟩ rfl hl.1 rfl (Nat.le_of_ble_eq_true rfl) ⟨Nat.le_of_ble_eq_true rfl, Nat.le_of_ble_eq_true rfl⟩ dX1_result_96 (fun H locs hH => ?_)
              cases hf
              exact x_iret C hr hH dX1_result_99
            · have hf := (if_neg q10).symm.trans hf
              have q1' := ne_toInt (z := 0) (by decide) q1
              have q3' := ne_toInt (z := 5) (by decide) q3
              have q5' := ne_toInt (z := 6) (by decide) q5
              have q7' := ne_toInt (z := 7) (by decide) q7
              have q8' := ne_toInt (z := 9) (by decide) q8
              have q10' := ne_toInt (z := 10) (by decide) q10
              refine x_tblD (tgt := 100) C.1 C.2.1 dX1_result_4 ?_ (by decide) ?_
              · by_cases hlo : (I 24 2).toInt < 0
                · exact Or.inl (Or.inl hlo)
                · by_cases hhi : 10 < (I 24 2).toInt
                  · exact Or.inl (Or.inr hhi)
                  · refine Or.inr ⟨hlo, hhi, ?_⟩
                    have hv : (I 24 2).toInt = 1 ∨ (I 24 2).toInt = 2 ∨ (I 24 2).toInt = 3 ∨ (I 24 2).toInt = 4 ∨ (I 24 2).toInt = 8 := by omega
                    rcases hv with hv | hv | hv | hv | hv <;> (rw [hv]; decide)
              · refine lv_aload_n C.1 C.2.1 dX1_result_100 rfl (lv_at hl 0 rfl) ?_
                refine g_X1_6 C hH kk_24 tw_211 dX1_result_101 ?_
                cases hf
                exact x_iret C hr hH dX1_result_104
def f_X1_keepGathered (I : Mem)  : Option Mem := if (I 24 2) = (9 : Int32) then (if kd ((I 24 1).toNatClampNeg) = 5 then (if kd ((I 24 0).toNatClampNeg) = 5 then (some (st (st I 24 1 (I 24 0)) 24 0 (I 24 1))) else none) else none) else (if (I 24 2) = (10 : Int32) then (if kd ((I 24 1).toNatClampNeg) = 5 then (if kd ((I 24 0).toNatClampNeg) = 5 then (some (st (st I 24 1 (I 24 0)) 24 0 (I 24 1))) else none) else none) else (some I))
set_option maxHeartbeats 4000000 in
set_option maxRecDepth 100000 in
theorem c_X1_keepGathered (l : Launch) (G : Gx) (I : Mem) {J : Mem} (hf : f_X1_keepGathered I = some J) : Mv l yX1_keepGathered (.code yX1_keepGathered cX1_keepGathered 2 none) 0 0 G I [.ref (G.2.1 24)] J := by
  refine Mv.of (by decide +kernel) (Nat.le_of_ble_eq_true rfl) (fun p e s m below meth c ls C hr hH hl => ?_)
  have hl : lv_has ls 2 [(0, .ref (G.2.1 24))] := hl
  have hf : (if (I 24 2) = (9 : Int32) then (if kd ((I 24 1).toNatClampNeg) = 5 then (if kd ((I 24 0).toNatClampNeg) = 5 then (some (st (st I 24 1 (I 24 0)) 24 0 (I 24 1))) else none) else none) else (if (I 24 2) = (10 : Int32) then (if kd ((I 24 1).toNatClampNeg) = 5 then (if kd ((I 24 0).toNatClampNeg) = 5 then (some (st (st I 24 1 (I 24 0)) 24 0 (I 24 1))) else none) else none) else (some I))) = _ := hf
  refine lv_aload_n C.1 C.2.1 dX1_keepGathered_0 rfl (lv_at hl 0 rfl) ?_
  refine g_X1_2 C hH kk_24 tw_207 dX1_keepGathered_1 ?_
  refine lv_bipush (v := (9 : Int32)) C.1 C.2.1 dX1_keepGathered_4 (by decide) ?_
  refine lv_icmp_eq (tgt := 18) C.1 C.2.1 dX1_keepGathered_6 (by decide) (fun q6 => ?_) (fun q6 => ?_)
  · have hf := (if_pos q6).symm.trans hf
    refine lv_aload_n C.1 C.2.1 dX1_keepGathered_18 rfl (lv_at hl 0 rfl) ?_
    obtain ⟨q1, hf⟩ := itn hf
    refine g_X1_1 C hH kk_24 tw_205 dX1_keepGathered_19 ?_
    refine lv_astore_n (lv' := [(1, .ref (G.2.1 ((I 24 1).toNatClampNeg))), (0, .ref (G.2.1 24))]) C.1 C.2.1 dX1_keepGathered_22 rfl hl (by decide) rfl (fun ls hl => ?_)
    refine lv_aload_n C.1 C.2.1 dX1_keepGathered_23 rfl (lv_at hl 1 rfl) ?_
    refine lv_aload_n C.1 C.2.1 dX1_keepGathered_24 rfl (lv_at hl 1 rfl) ?_
    obtain ⟨q2, hf⟩ := itn hf
    refine g_X1_0 C hH kk_24 tw_204 dX1_keepGathered_25 ?_
    refine p_X1_1 C hH kk_24 tw_205 dX1_keepGathered_28 (fun H locs hH => ?_)
    refine lv_aload_n C.1 C.2.1 dX1_keepGathered_31 rfl (lv_at hl 1 rfl) ?_
    refine lv_aload_n C.1 C.2.1 dX1_keepGathered_32 rfl (lv_at hl 0 rfl) ?_
    refine p_X1_0 C hH kk_24 tw_204 dX1_keepGathered_33 (fun H locs hH => ?_)
    cases hf
    exact x_vret C hr hH dX1_keepGathered_36
  · have hf := (if_neg q6).symm.trans hf
    refine lv_aload_n C.1 C.2.1 dX1_keepGathered_9 rfl (lv_at hl 0 rfl) ?_
    refine g_X1_2 C hH kk_24 tw_207 dX1_keepGathered_10 ?_
    refine lv_bipush (v := (10 : Int32)) C.1 C.2.1 dX1_keepGathered_13 (by decide) ?_
    refine lv_icmp_ne (tgt := 36) C.1 C.2.1 dX1_keepGathered_15 (by decide) (fun q5 => ?_) (fun q5 => ?_)
    · have hf := (if_neg q5).symm.trans hf
      cases hf
      exact x_vret C hr hH dX1_keepGathered_36
    · have hf := (if_pos q5).symm.trans hf
      refine lv_aload_n C.1 C.2.1 dX1_keepGathered_18 rfl (lv_at hl 0 rfl) ?_
      obtain ⟨q3, hf⟩ := itn hf
      refine g_X1_1 C hH kk_24 tw_205 dX1_keepGathered_19 ?_
      refine lv_astore_n (lv' := [(1, .ref (G.2.1 ((I 24 1).toNatClampNeg))), (0, .ref (G.2.1 24))]) C.1 C.2.1 dX1_keepGathered_22 rfl hl (by decide) rfl (fun ls hl => ?_)
      refine lv_aload_n C.1 C.2.1 dX1_keepGathered_23 rfl (lv_at hl 1 rfl) ?_
      refine lv_aload_n C.1 C.2.1 dX1_keepGathered_24 rfl (lv_at hl 1 rfl) ?_
      obtain ⟨q4, hf⟩ := itn hf
      refine g_X1_0 C hH kk_24 tw_204 dX1_keepGathered_25 ?_
      refine p_X1_1 C hH kk_24 tw_205 dX1_keepGathered_28 (fun H locs hH => ?_)
      refine lv_aload_n C.1 C.2.1 dX1_keepGathered_31 rfl (lv_at hl 1 rfl) ?_
      refine lv_aload_n C.1 C.2.1 dX1_keepGathered_32 rfl (lv_at hl 0 rfl) ?_
      refine p_X1_0 C hH kk_24 tw_204 dX1_keepGathered_33 (fun H locs hH => ?_)
      cases hf
      exact x_vret C hr hH dX1_keepGathered_36
