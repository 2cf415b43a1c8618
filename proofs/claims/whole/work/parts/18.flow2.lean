def f_X2_passOn_d : Nat → Mem → Int32 → Int32 → Option Mem
  | 0 => fun _ _ _ => none
  | d + 1 => fun I a b => f_X2_passOn_r I (fun I a b => f_X2_giveFlat_r I (f_X2_passOn_d d) a b) a b
theorem c_X2_passOn_d (l : Launch) (G : Gx) : ∀ (d : Nat) (I : Mem) (a b : Int32) (J : Mem), f_X2_passOn_d d I a b = some J → Mv l yX2_passOn (.code yX2_passOn cX2_passOn 6 none) (6 + 2 * d) (174 + 49 * d) G I [.ref (G.2.1 29), .int a, .int b] J := by
  intro d
  induction d with
  | zero => intro I a b J h; exact absurd h (by simp [f_X2_passOn_d])
  | succ d ih =>
    intro I a b J h
    exact c_X2_passOn_r l G (frQ := 6 + 2 * d + 1) (loQ := 174 + 49 * d + 25) I _ a b (fun I a b J h => c_X2_giveFlat_r l G (frQ := 6 + 2 * d) (loQ := 174 + 49 * d) I _ a b ih (by omega) (by omega) h) (by omega) (by omega) h
def f_X2_passOn (I : Mem) (p0 p1 : Int32) : Option Mem := f_X2_passOn_d 8 I p0 p1
theorem c_X2_passOn (l : Launch) (G : Gx) (I : Mem) (p0 p1 : Int32) {J : Mem} (hf : f_X2_passOn I p0 p1 = some J) : Mv l yX2_passOn (.code yX2_passOn cX2_passOn 6 none) 22 566 G I [.ref (G.2.1 29), .int p0, .int p1] J := c_X2_passOn_d l G 8 I p0 p1 J hf
def f_X2_giveFromSource_L10   : Nat → Mem → Int32 → Option Mem
  | 0, _, _ => none
  | n + 1, I, x2 => if (600 : Int32) < x2 then (some I) else ((f_X6_hasMore I).bind fun q1 => (if (b2i q1.1) = 0 then (some q1.2) else ((f_X2_mayGiveTo q1.2 (0 : Int32)).bind fun q2 => (if (b2i q2.1) = 0 then (some q2.2) else ((f_X6_next q2.2).bind fun q3 => ((f_X2_passOn q3.2 (0 : Int32) q3.1).bind fun q4 => (f_X2_giveFromSource_L10 n q4 (x2 + (1 : Int32)))))))))
set_option maxHeartbeats 4000000 in
set_option maxRecDepth 100000 in
theorem w_X2_giveFromSource_L10 {p : Program} {l : Launch} {e : Env} {s : State} {m : MethodId} {args : Array Value} {below : List Frame} {meth : Method} {c : Code} {G : Gx} {J : Mem} (C : CX p l s m args meth c cX2_giveFromSource 3 yX2_giveFromSource.cls G) (hr : meth.sig.returnType = none) :
    ∀ (n : Nat) (I : Mem) (x2 : Int32) (H : Heap) (locs : List Loc) (ls : Array Slot), HW G s H locs I → lv_has ls 3 [(0, .ref (G.2.1 29)), (1, .ref (G.2.1 4)), (2, .int x2)] → f_X2_giveFromSource_L10 n I x2 = some J → W p l e { frames := 23, cells := 0, slots := 0, locals := 591 } s m args below meth c H locs 0 0 (MQ below (Qv9 G J s.heap.size) args s 0 0 (AA G s.heap.size)) (F0 m 10 ls []) := by
  intro n
  induction n with
  | zero => intro I x2  H locs ls hH hl hf; exact absurd hf (by simp [f_X2_giveFromSource_L10])
  | succ n ih =>
    intro I x2  H locs ls hH hl hf
    have hf : (if (600 : Int32) < x2 then (some I) else ((f_X6_hasMore I).bind fun q1 => (if (b2i q1.1) = 0 then (some q1.2) else ((f_X2_mayGiveTo q1.2 (0 : Int32)).bind fun q2 => (if (b2i q2.1) = 0 then (some q2.2) else ((f_X6_next q2.2).bind fun q3 => ((f_X2_passOn q3.2 (0 : Int32) q3.1).bind fun q4 => (f_X2_giveFromSource_L10 n q4 (x2 + (1 : Int32)))))))))) = _ := hf
    refine lv_iload_n C.1 C.2.1 dX2_giveFromSource_10 rfl (lv_at hl 2 rfl) ?_
    refine lv_sipush (v := (600 : Int32)) C.1 C.2.1 dX2_giveFromSource_11 (by decide) ?_
    refine lv_icmp_gt (tgt := 47) C.1 C.2.1 dX2_giveFromSource_14 (by decide) (fun q7 => ?_) (fun q7 => ?_)
    · have hf := (if_pos q7).symm.trans hf
      cases hf
      exact x_vret C hr hH dX2_giveFromSource_47
    · have hf := (if_neg q7).symm.trans hf
      refine lv_aload_n C.1 C.2.1 dX2_giveFromSource_17 rfl (lv_at hl 1 rfl) ?_
      obtain ⟨q1, hc, hf⟩ := Option.bind_eq_some_iff.mp hf
      refine x_ci (n := 0) C hH (c_X6_hasMore l G I  hc) (kd_lt kk_4 (by decide)) (cE_6 kk_4) rfl tw_577 tw_574 tw_575 tw_576 tw_50 (by decide +kernel) ⟨Nat.le_of_ble_eq_true rfl, Nat.le_of_ble_eq_true rfl⟩ rfl hl.1 rfl (Nat.le_of_ble_eq_true rfl) ⟨Nat.le_of_ble_eq_true rfl, Nat.le_of_ble_eq_true rfl⟩ dX2_giveFromSource_18 (fun H locs hH => ?_)
      refine lv_if_eq (tgt := 47) C.1 C.2.1 dX2_giveFromSource_21 (by decide) (fun q6 => ?_) (fun q6 => ?_)
      · have hf := (if_pos q6).symm.trans hf
        cases hf
        exact x_vret C hr hH dX2_giveFromSource_47
      · have hf := (if_neg q6).symm.trans hf
        refine lv_aload_n C.1 C.2.1 dX2_giveFromSource_24 rfl (lv_at hl 0 rfl) ?_
        refine lv_iconst (v := (0 : Int32)) C.1 C.2.1 dX2_giveFromSource_25 (by decide) ?_
        obtain ⟨q2, hc, hf⟩ := Option.bind_eq_some_iff.mp hf
        refine x_ci (n := 1) C hH (c_X2_mayGiveTo l G q1.2 (0 : Int32) hc) (kd_lt kk_29 (by decide)) (cE_2 kk_29) rfl tw_585 tw_582 tw_584 tw_7 tw_53 (by decide +kernel) ⟨Nat.le_of_ble_eq_true rfl, Nat.le_of_ble_eq_true rfl⟩ rfl hl.1 rfl (Nat.le_of_ble_eq_true rfl) ⟨Nat.le_of_ble_eq_true rfl, Nat.le_of_ble_eq_true rfl⟩ dX2_giveFromSource_26 (fun H locs hH => ?_)
        refine lv_if_eq (tgt := 47) C.1 C.2.1 dX2_giveFromSource_29 (by decide) (fun q5 => ?_) (fun q5 => ?_)
        · have hf := (if_pos q5).symm.trans hf
          cases hf
          exact x_vret C hr hH dX2_giveFromSource_47
        · have hf := (if_neg q5).symm.trans hf
          refine lv_aload_n C.1 C.2.1 dX2_giveFromSource_32 rfl (lv_at hl 0 rfl) ?_
          refine lv_iconst (v := (0 : Int32)) C.1 C.2.1 dX2_giveFromSource_33 (by decide) ?_
          refine lv_aload_n C.1 C.2.1 dX2_giveFromSource_34 rfl (lv_at hl 1 rfl) ?_
          obtain ⟨q3, hc, hf⟩ := Option.bind_eq_some_iff.mp hf
          refine x_ci (n := 0) C hH (c_X6_next l G q2.2  hc) (kd_lt kk_4 (by decide)) (cE_6 kk_4) rfl tw_601 tw_598 tw_599 tw_600 tw_50 (by decide +kernel) ⟨Nat.le_of_ble_eq_true rfl, Nat.le_of_ble_eq_true rfl⟩ rfl hl.1 rfl (Nat.le_of_ble_eq_true rfl) ⟨Nat.le_of_ble_eq_true rfl, Nat.le_of_ble_eq_true rfl⟩ dX2_giveFromSource_35 (fun H locs hH => ?_)
          obtain ⟨q4, hc, hf⟩ := Option.bind_eq_some_iff.mp hf
          refine x_cv (n := 2) C hH (c_X2_passOn l G q3.2 (0 : Int32) q3.1 hc) (kd_lt kk_29 (by decide)) (cE_2 kk_29) rfl tw_605 tw_602 tw_604 tw_9 tw_53 (by decide +kernel) ⟨Nat.le_of_ble_eq_true rfl, Nat.le_of_ble_eq_true rfl⟩ rfl hl.1 rfl (Nat.le_of_ble_eq_true rfl) ⟨Nat.le_of_ble_eq_true rfl, Nat.le_of_ble_eq_true rfl⟩ dX2_giveFromSource_38 (fun H locs hH => ?_)
          refine lv_iinc (v := (x2 + (1 : Int32))) (lv' := [(2, .int (x2 + (1 : Int32))), (0, .ref (G.2.1 29)), (1, .ref (G.2.1 4))]) C.1 C.2.1 dX2_giveFromSource_41 hl (k := 2) rfl rfl (by decide) rfl (fun ls hl => ?_)
          refine lv_goto (tgt := 10) C.1 C.2.1 dX2_giveFromSource_44 (by decide) ?_
          exact ih q4 (x2 + (1 : Int32))  _ _ _ hH (lv_sub hl [1, 2, 0] rfl) hf
def f_X2_giveFromSource (I : Mem)  : Option Mem := f_X2_giveFromSource_L10 FU I (0 : Int32)
set_option maxHeartbeats 4000000 in
set_option maxRecDepth 100000 in
theorem c_X2_giveFromSource (l : Launch) (G : Gx) (I : Mem) {J : Mem} (hf : f_X2_giveFromSource I = some J) : Mv l yX2_giveFromSource (.code yX2_giveFromSource cX2_giveFromSource 3 none) 23 591 G I [.ref (G.2.1 29)] J := by
  refine Mv.of (by decide +kernel) (Nat.le_of_ble_eq_true rfl) (fun p e s m below meth c ls C hr hH hl => ?_)
  have hl : lv_has ls 3 [(0, .ref (G.2.1 29))] := hl
  have hf : (f_X2_giveFromSource_L10 FU I (0 : Int32)) = _ := hf
  refine lv_aload_n C.1 C.2.1 dX2_giveFromSource_0 rfl (lv_at hl 0 rfl) ?_
  refine g_X2_0 C hH kk_29 tw_236 dX2_giveFromSource_1 ?_
  refine gN_X3_0 C hH kk_3 tw_170 dX2_giveFromSource_4 ?_
  refine lv_astore_n (lv' := [(1, .ref (G.2.1 4)), (0, .ref (G.2.1 29))]) C.1 C.2.1 dX2_giveFromSource_7 rfl hl (by decide) rfl (fun ls hl => ?_)
  refine lv_iconst (v := (0 : Int32)) C.1 C.2.1 dX2_giveFromSource_8 (by decide) ?_
  refine lv_istore_n (lv' := [(2, .int (0 : Int32)), (1, .ref (G.2.1 4)), (0, .ref (G.2.1 29))]) C.1 C.2.1 dX2_giveFromSource_9 rfl hl (by decide) rfl (fun ls hl => ?_)
  exact w_X2_giveFromSource_L10 C hr FU I (0 : Int32) _ _ _ hH (lv_sub hl [2, 1, 0] rfl) hf
def f_X2_giveSorted_L15 (p0 : Int32)  : Nat → Mem → Int32 → Nat → Int32 → Option Mem
  | 0, _, _, _, _ => none
  | n + 1, I, x1, r2, x3 => if (I r2 1) ≤ x3 then (some I) else ((f_X2_mayGiveTo I (x1 + (1 : Int32))).bind fun q2 => (if (b2i q2.1) = 0 then (some q2.2) else (if inb x3 (ln (r2 + 1)) = true then ((f_X2_passOn q2.2 (x1 + (1 : Int32)) (q2.2 (r2 + 1) x3.toNatClampNeg)).bind fun q4 => (f_X2_giveSorted_L15 p0 n q4 x1 r2 (x3 + (1 : Int32)))) else none)))
set_option maxHeartbeats 4000000 in
set_option maxRecDepth 100000 in
theorem w_X2_giveSorted_L15 {p : Program} {l : Launch} {e : Env} {s : State} {m : MethodId} {args : Array Value} {below : List Frame} {meth : Method} {c : Code} {G : Gx} (p0 : Int32) {J : Mem} (C : CX p l s m args meth c cX2_giveSorted 4 yX2_giveSorted.cls G) (hr : meth.sig.returnType = none) :
    ∀ (n : Nat) (I : Mem) (x1 : Int32) (r2 : Nat) (x3 : Int32) (hr2 : kd r2 = 5) (H : Heap) (locs : List Loc) (ls : Array Slot), HW G s H locs I → lv_has ls 4 [(0, .ref (G.2.1 29)), (1, .int x1), (2, .ref (G.2.1 r2)), (3, .int x3)] → f_X2_giveSorted_L15 p0 n I x1 r2 x3 = some J → W p l e { frames := 23, cells := 0, slots := 0, locals := 591 } s m args below meth c H locs 0 0 (MQ below (Qv9 G J s.heap.size) args s 0 0 (AA G s.heap.size)) (F0 m 15 ls []) := by
  intro n
  induction n with
  | zero => intro I x1 r2 x3 hr2 H locs ls hH hl hf; exact absurd hf (by simp [f_X2_giveSorted_L15])
  | succ n ih =>
    intro I x1 r2 x3 hr2 H locs ls hH hl hf
    have hf : (if (I r2 1) ≤ x3 then (some I) else ((f_X2_mayGiveTo I (x1 + (1 : Int32))).bind fun q2 => (if (b2i q2.1) = 0 then (some q2.2) else (if inb x3 (ln (r2 + 1)) = true then ((f_X2_passOn q2.2 (x1 + (1 : Int32)) (q2.2 (r2 + 1) x3.toNatClampNeg)).bind fun q4 => (f_X2_giveSorted_L15 p0 n q4 x1 r2 (x3 + (1 : Int32)))) else none)))) = _ := hf
    refine lv_iload_n C.1 C.2.1 dX2_giveSorted_15 rfl (lv_at hl 3 rfl) ?_
    refine lv_aload_n C.1 C.2.1 dX2_giveSorted_16 rfl (lv_at hl 2 rfl) ?_
    refine gN_X5_1 C hH hr2 tw_91 dX2_giveSorted_17 ?_
    refine lv_icmp_ge (tgt := 52) C.1 C.2.1 dX2_giveSorted_20 (by decide) (fun q6 => ?_) (fun q6 => ?_)
    · have hf := (if_pos q6).symm.trans hf
      cases hf
      exact x_vret C hr hH dX2_giveSorted_52
    · have hf := (if_neg q6).symm.trans hf
      refine lv_aload_n C.1 C.2.1 dX2_giveSorted_23 rfl (lv_at hl 0 rfl) ?_
      refine lv_iload_n C.1 C.2.1 dX2_giveSorted_24 rfl (lv_at hl 1 rfl) ?_
      refine lv_iconst (v := (1 : Int32)) C.1 C.2.1 dX2_giveSorted_25 (by decide) ?_
      refine lv_iadd C.1 C.2.1 dX2_giveSorted_26 ?_
      obtain ⟨q2, hc, hf⟩ := Option.bind_eq_some_iff.mp hf
      refine x_ci (n := 1) C hH (c_X2_mayGiveTo l G I (x1 + (1 : Int32)) hc) (kd_lt kk_29 (by decide)) (cE_2 kk_29) rfl tw_585 tw_582 tw_584 tw_7 tw_53 (by decide +kernel) ⟨Nat.le_of_ble_eq_true rfl, Nat.le_of_ble_eq_true rfl⟩ rfl hl.1 rfl (Nat.le_of_ble_eq_true rfl) ⟨Nat.le_of_ble_eq_true rfl, Nat.le_of_ble_eq_true rfl⟩ dX2_giveSorted_27 (fun H locs hH => ?_)
      refine lv_if_eq (tgt := 52) C.1 C.2.1 dX2_giveSorted_30 (by decide) (fun q5 => ?_) (fun q5 => ?_)
      · have hf := (if_pos q5).symm.trans hf
        cases hf
        exact x_vret C hr hH dX2_giveSorted_52
      · have hf := (if_neg q5).symm.trans hf
        refine lv_aload_n C.1 C.2.1 dX2_giveSorted_33 rfl (lv_at hl 0 rfl) ?_
        refine lv_iload_n C.1 C.2.1 dX2_giveSorted_34 rfl (lv_at hl 1 rfl) ?_
        refine lv_iconst (v := (1 : Int32)) C.1 C.2.1 dX2_giveSorted_35 (by decide) ?_
        refine lv_iadd C.1 C.2.1 dX2_giveSorted_36 ?_
        refine lv_aload_n C.1 C.2.1 dX2_giveSorted_37 rfl (lv_at hl 2 rfl) ?_
        refine gN_X5_0 C hH hr2 tw_83 dX2_giveSorted_38 ?_
        refine lv_iload_n C.1 C.2.1 dX2_giveSorted_41 rfl (lv_at hl 3 rfl) ?_
        obtain ⟨q3, hf⟩ := itn hf
        refine x_iald C hH (kd_items hr2) q3 dX2_giveSorted_42 ?_
        obtain ⟨q4, hc, hf⟩ := Option.bind_eq_some_iff.mp hf
        refine x_cv (n := 2) C hH (c_X2_passOn l G q2.2 (x1 + (1 : Int32)) (q2.2 (r2 + 1) x3.toNatClampNeg) hc) (kd_lt kk_29 (by decide)) (cE_2 kk_29) rfl tw_605 tw_602 tw_604 tw_9 tw_53 (by decide +kernel) ⟨Nat.le_of_ble_eq_true rfl, Nat.le_of_ble_eq_true rfl⟩ rfl hl.1 rfl (Nat.le_of_ble_eq_true rfl) ⟨Nat.le_of_ble_eq_true rfl, Nat.le_of_ble_eq_true rfl⟩ dX2_giveSorted_43 (fun H locs hH => ?_)
        refine lv_iinc (v := (x3 + (1 : Int32))) (lv' := [(3, .int (x3 + (1 : Int32))), (0, .ref (G.2.1 29)), (1, .int x1), (2, .ref (G.2.1 r2))]) C.1 C.2.1 dX2_giveSorted_46 hl (k := 3) rfl rfl (by decide) rfl (fun ls hl => ?_)
        refine lv_goto (tgt := 15) C.1 C.2.1 dX2_giveSorted_49 (by decide) ?_
        exact ih q4 x1 r2 (x3 + (1 : Int32)) hr2 _ _ _ hH (lv_sub hl [1, 2, 3, 0] rfl) hf
def f_X2_giveSorted (I : Mem) (p0 : Int32) : Option Mem := if inb p0 (ln 5) = true then (f_X2_giveSorted_L15 p0 FU I p0 ((6 + 3 * p0.toNatClampNeg) + 1) (0 : Int32)) else none
set_option maxHeartbeats 4000000 in
set_option maxRecDepth 100000 in
theorem c_X2_giveSorted (l : Launch) (G : Gx) (I : Mem) (p0 : Int32) {J : Mem} (hf : f_X2_giveSorted I p0 = some J) : Mv l yX2_giveSorted (.code yX2_giveSorted cX2_giveSorted 4 none) 23 591 G I [.ref (G.2.1 29), .int p0] J := by
  refine Mv.of (by decide +kernel) (Nat.le_of_ble_eq_true rfl) (fun p e s m below meth c ls C hr hH hl => ?_)
  have hl : lv_has ls 4 [(0, .ref (G.2.1 29)), (1, .int p0)] := hl
  have hf : (if inb p0 (ln 5) = true then (f_X2_giveSorted_L15 p0 FU I p0 ((6 + 3 * p0.toNatClampNeg) + 1) (0 : Int32)) else none) = _ := hf
  refine lv_aload_n C.1 C.2.1 dX2_giveSorted_0 rfl (lv_at hl 0 rfl) ?_
  refine g_X2_0 C hH kk_29 tw_236 dX2_giveSorted_1 ?_
  refine gN_X3_1 C hH kk_3 tw_175 dX2_giveSorted_4 ?_
  refine lv_iload_n C.1 C.2.1 dX2_giveSorted_7 rfl (lv_at hl 1 rfl) ?_
  obtain ⟨q1, hf⟩ := itn hf
  refine x_aldS C hH kk_5 q1 dX2_giveSorted_8 ?_
  refine gN_X7_0 C hH (kd_St q1) tw_142 dX2_giveSorted_9 ?_
  refine lv_astore_n (lv' := [(2, .ref (G.2.1 ((6 + 3 * p0.toNatClampNeg) + 1))), (0, .ref (G.2.1 29)), (1, .int p0)]) C.1 C.2.1 dX2_giveSorted_12 rfl hl (by decide) rfl (fun ls hl => ?_)
  refine lv_iconst (v := (0 : Int32)) C.1 C.2.1 dX2_giveSorted_13 (by decide) ?_
  refine lv_istore_n (lv' := [(3, .int (0 : Int32)), (2, .ref (G.2.1 ((6 + 3 * p0.toNatClampNeg) + 1))), (0, .ref (G.2.1 29)), (1, .int p0)]) C.1 C.2.1 dX2_giveSorted_14 rfl hl (by decide) rfl (fun ls hl => ?_)
  exact w_X2_giveSorted_L15 p0 C hr FU I p0 ((6 + 3 * p0.toNatClampNeg) + 1) (0 : Int32) (kd_held (kd_St q1)) _ _ _ hH (lv_sub hl [2, 3, 1, 0] rfl) hf
def f_X2_comesToEnd_L16   : Nat → Mem → Int32 → Option (Bool × Mem)
  | 0, _, _ => none
  | n + 1, I, x1 => if (I 3 2) ≤ x1 then (if (I 29 3) = 0 then (some (true, I)) else (some (false, I))) else (if inb x1 (ln 5) = true then (if (I (6 + 3 * x1.toNatClampNeg) 1) = (4 : Int32) then ((f_X2_giveSorted I x1).bind fun q4 => (f_X2_comesToEnd_L16 n q4 (x1 + (1 : Int32)))) else (f_X2_comesToEnd_L16 n I (x1 + (1 : Int32)))) else none)
set_option maxHeartbeats 4000000 in
set_option maxRecDepth 100000 in
theorem w_X2_comesToEnd_L16 {p : Program} {l : Launch} {e : Env} {s : State} {m : MethodId} {args : Array Value} {below : List Frame} {meth : Method} {c : Code} {G : Gx} {res : Bool} {J : Mem} (C : CX p l s m args meth c cX2_comesToEnd 2 yX2_comesToEnd.cls G) (hr : meth.sig.returnType = (some .boolean)) :
    ∀ (n : Nat) (I : Mem) (x1 : Int32) (H : Heap) (locs : List Loc) (ls : Array Slot), HW G s H locs I → lv_has ls 2 [(0, .ref (G.2.1 29)), (1, .int x1)] → f_X2_comesToEnd_L16 n I x1 = some (res, J) → W p l e { frames := 24, cells := 0, slots := 0, locals := 614 } s m args below meth c H locs 0 0 (MQ below (Qi9 G (b2i res) J s.heap.size) args s 0 0 (AA G s.heap.size)) (F0 m 16 ls []) := by
  intro n
  induction n with
  | zero => intro I x1  H locs ls hH hl hf; exact absurd hf (by simp [f_X2_comesToEnd_L16])
  | succ n ih =>
    intro I x1  H locs ls hH hl hf
    have hf : (if (I 3 2) ≤ x1 then (if (I 29 3) = 0 then (some (true, I)) else (some (false, I))) else (if inb x1 (ln 5) = true then (if (I (6 + 3 * x1.toNatClampNeg) 1) = (4 : Int32) then ((f_X2_giveSorted I x1).bind fun q4 => (f_X2_comesToEnd_L16 n q4 (x1 + (1 : Int32)))) else (f_X2_comesToEnd_L16 n I (x1 + (1 : Int32)))) else none)) = _ := hf
    refine lv_iload_n C.1 C.2.1 dX2_comesToEnd_16 rfl (lv_at hl 1 rfl) ?_
    refine lv_aload_n C.1 C.2.1 dX2_comesToEnd_17 rfl (lv_at hl 0 rfl) ?_
    refine g_X2_0 C hH kk_29 tw_236 dX2_comesToEnd_18 ?_
    refine gN_X3_2 C hH kk_3 tw_179 dX2_comesToEnd_21 ?_
    refine lv_icmp_ge (tgt := 54) C.1 C.2.1 dX2_comesToEnd_24 (by decide) (fun q6 => ?_) (fun q6 => ?_)
    · have hf := (if_pos q6).symm.trans hf
      refine lv_aload_n C.1 C.2.1 dX2_comesToEnd_54 rfl (lv_at hl 0 rfl) ?_
      refine g_X2_3 C hH kk_29 tw_239 dX2_comesToEnd_55 ?_
      refine lv_if_ne (tgt := 65) C.1 C.2.1 dX2_comesToEnd_58 (by decide) (fun q2 => ?_) (fun q2 => ?_)
      · have hf := (if_neg q2).symm.trans hf
        refine lv_iconst (v := (0 : Int32)) C.1 C.2.1 dX2_comesToEnd_65 (by decide) ?_
        cases hf
        exact x_zret C hr hH rfl dX2_comesToEnd_66
      · have hf := (if_pos q2).symm.trans hf
        refine lv_iconst (v := (1 : Int32)) C.1 C.2.1 dX2_comesToEnd_61 (by decide) ?_
        refine lv_goto (tgt := 66) C.1 C.2.1 dX2_comesToEnd_62 (by decide) ?_
        cases hf
        exact x_zret C hr hH rfl dX2_comesToEnd_66
    · have hf := (if_neg q6).symm.trans hf
      refine lv_aload_n C.1 C.2.1 dX2_comesToEnd_27 rfl (lv_at hl 0 rfl) ?_
      refine g_X2_0 C hH kk_29 tw_236 dX2_comesToEnd_28 ?_
      refine gN_X3_1 C hH kk_3 tw_175 dX2_comesToEnd_31 ?_
      refine lv_iload_n C.1 C.2.1 dX2_comesToEnd_34 rfl (lv_at hl 1 rfl) ?_
      obtain ⟨q3, hf⟩ := itn hf
      refine x_aldS C hH kk_5 q3 dX2_comesToEnd_35 ?_
      refine gN_X7_1 C hH (kd_St q3) tw_145 dX2_comesToEnd_36 ?_
      refine lv_iconst (v := (4 : Int32)) C.1 C.2.1 dX2_comesToEnd_39 (by decide) ?_
      refine lv_icmp_ne (tgt := 48) C.1 C.2.1 dX2_comesToEnd_40 (by decide) (fun q5 => ?_) (fun q5 => ?_)
      · have hf := (if_neg q5).symm.trans hf
        refine lv_iinc (v := (x1 + (1 : Int32))) (lv' := [(1, .int (x1 + (1 : Int32))), (0, .ref (G.2.1 29))]) C.1 C.2.1 dX2_comesToEnd_48 hl (k := 1) rfl rfl (by decide) rfl (fun ls hl => ?_)
        refine lv_goto (tgt := 16) C.1 C.2.1 dX2_comesToEnd_51 (by decide) ?_
        exact ih I (x1 + (1 : Int32))  _ _ _ hH (lv_sub hl [1, 0] rfl) hf
      · have hf := (if_pos q5).symm.trans hf
        refine lv_aload_n C.1 C.2.1 dX2_comesToEnd_43 rfl (lv_at hl 0 rfl) ?_
        refine lv_iload_n C.1 C.2.1 dX2_comesToEnd_44 rfl (lv_at hl 1 rfl) ?_
        obtain ⟨q4, hc, hf⟩ := Option.bind_eq_some_iff.mp hf
        refine x_cv (n := 1) C hH (c_X2_giveSorted l G I x1 hc) (kd_lt kk_29 (by decide)) (cE_2 kk_29) rfl tw_662 tw_659 tw_661 tw_15 tw_53 (by decide +kernel) ⟨Nat.le_of_ble_eq_true rfl, Nat.le_of_ble_eq_true rfl⟩ rfl hl.1 rfl (Nat.le_of_ble_eq_true rfl) ⟨Nat.le_of_ble_eq_true rfl, Nat.le_of_ble_eq_true rfl⟩ dX2_comesToEnd_45 (fun H locs hH => ?_)
        refine lv_iinc (v := (x1 + (1 : Int32))) (lv' := [(1, .int (x1 + (1 : Int32))), (0, .ref (G.2.1 29))]) C.1 C.2.1 dX2_comesToEnd_48 hl (k := 1) rfl rfl (by decide) rfl (fun ls hl => ?_)
        refine lv_goto (tgt := 16) C.1 C.2.1 dX2_comesToEnd_51 (by decide) ?_
        exact ih q4 (x1 + (1 : Int32))  _ _ _ hH (lv_sub hl [1, 0] rfl) hf
def f_X2_comesToEnd (I : Mem)  : Option (Bool × Mem) := (f_X2_giveFromSource (st (st I 29 2 (0 : Int32)) 29 3 (0 : Int32))).bind fun q1 => (f_X2_comesToEnd_L16 FU q1 (0 : Int32))
set_option maxHeartbeats 4000000 in
set_option maxRecDepth 100000 in
theorem c_X2_comesToEnd (l : Launch) (G : Gx) (I : Mem) {res : Bool} {J : Mem} (hf : f_X2_comesToEnd I = some (res, J)) : Mi l yX2_comesToEnd (.code yX2_comesToEnd cX2_comesToEnd 2 (some .boolean)) 24 614 G I [.ref (G.2.1 29)] (b2i res) J := by
  refine Mi.of (by decide +kernel) (Nat.le_of_ble_eq_true rfl) (fun p e s m below meth c ls C hr hH hl => ?_)
  have hl : lv_has ls 2 [(0, .ref (G.2.1 29))] := hl
  have hf : ((f_X2_giveFromSource (st (st I 29 2 (0 : Int32)) 29 3 (0 : Int32))).bind fun q1 => (f_X2_comesToEnd_L16 FU q1 (0 : Int32))) = _ := hf
  refine lv_aload_n C.1 C.2.1 dX2_comesToEnd_0 rfl (lv_at hl 0 rfl) ?_
  refine lv_iconst (v := (0 : Int32)) C.1 C.2.1 dX2_comesToEnd_1 (by decide) ?_
  refine p_X2_2 C hH kk_29  tw_238 dX2_comesToEnd_2 (fun H locs hH => ?_)
  refine lv_aload_n C.1 C.2.1 dX2_comesToEnd_5 rfl (lv_at hl 0 rfl) ?_
  refine lv_iconst (v := (0 : Int32)) C.1 C.2.1 dX2_comesToEnd_6 (by decide) ?_
  refine p_X2_3 C hH kk_29 ⟨rfl, rfl⟩ tw_239 dX2_comesToEnd_7 (fun H locs hH => ?_)
  refine lv_aload_n C.1 C.2.1 dX2_comesToEnd_10 rfl (lv_at hl 0 rfl) ?_
  obtain ⟨q1, hc, hf⟩ := Option.bind_eq_some_iff.mp hf
  refine x_cv (n := 0) C hH (c_X2_giveFromSource l G (st (st I 29 2 (0 : Int32)) 29 3 (0 : Int32))  hc) (kd_lt kk_29 (by decide)) (cE_2 kk_29) rfl tw_573 tw_570 tw_572 tw_6 tw_53 (by decide +kernel) ⟨Nat.le_of_ble_eq_true rfl, Nat.le_of_ble_eq_true rfl⟩ rfl hl.1 rfl (Nat.le_of_ble_eq_true rfl) ⟨Nat.le_of_ble_eq_true rfl, Nat.le_of_ble_eq_true rfl⟩ dX2_comesToEnd_11 (fun H locs hH => ?_)
  refine lv_iconst (v := (0 : Int32)) C.1 C.2.1 dX2_comesToEnd_14 (by decide) ?_
  refine lv_istore_n (lv' := [(1, .int (0 : Int32)), (0, .ref (G.2.1 29))]) C.1 C.2.1 dX2_comesToEnd_15 rfl hl (by decide) rfl (fun ls hl => ?_)
  exact w_X2_comesToEnd_L16 C hr FU q1 (0 : Int32) _ _ _ hH (lv_sub hl [1, 0] rfl) hf
