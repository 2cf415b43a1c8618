def f_X2_isWantedFrom_L2 (p0 : Int32)  : Nat → Mem → Int32 → Option (Bool × Mem)
  | 0, _, _ => none
  | n + 1, I, x2 => if (I 3 2) ≤ x2 then ((f_X1_wantsMore I).bind fun q1 => (some (q1.1, q1.2))) else (if inb x2 (ln 5) = true then (if (I (6 + 3 * x2.toNatClampNeg) 1) = (4 : Int32) then (some (true, I)) else (if inb x2 (ln 5) = true then ((f_X7_isClosed I (6 + 3 * x2.toNatClampNeg)).bind fun q4 => (if (b2i q4.1) = 0 then (f_X2_isWantedFrom_L2 p0 n q4.2 (x2 + (1 : Int32))) else (some (false, q4.2)))) else none)) else none)
set_option maxHeartbeats 4000000 in
set_option maxRecDepth 100000 in
theorem w_X2_isWantedFrom_L2 {p : Program} {l : Launch} {e : Env} {s : State} {m : MethodId} {args : Array Value} {below : List Frame} {meth : Method} {c : Code} {G : Gx} (p0 : Int32) {res : Bool} {J : Mem} (C : CX p l s m args meth c cX2_isWantedFrom 3 yX2_isWantedFrom.cls G) (hr : meth.sig.returnType = (some .boolean)) :
    ∀ (n : Nat) (I : Mem) (x2 : Int32) (H : Heap) (locs : List Loc) (ls : Array Slot), HW G s H locs I → lv_has ls 3 [(0, .ref (G.2.1 29)), (2, .int x2)] → f_X2_isWantedFrom_L2 p0 n I x2 = some (res, J) → W p l e { frames := 1, cells := 0, slots := 0, locals := 20 } s m args below meth c H locs 0 0 (MQ below (Qi9 G (b2i res) J s.heap.size) args s 0 0 (AA G s.heap.size)) (F0 m 2 ls []) := by
  intro n
  induction n with
  | zero => intro I x2  H locs ls hH hl hf; exact absurd hf (by simp [f_X2_isWantedFrom_L2])
  | succ n ih =>
    intro I x2  H locs ls hH hl hf
    have hf : (if (I 3 2) ≤ x2 then ((f_X1_wantsMore I).bind fun q1 => (some (q1.1, q1.2))) else (if inb x2 (ln 5) = true then (if (I (6 + 3 * x2.toNatClampNeg) 1) = (4 : Int32) then (some (true, I)) else (if inb x2 (ln 5) = true then ((f_X7_isClosed I (6 + 3 * x2.toNatClampNeg)).bind fun q4 => (if (b2i q4.1) = 0 then (f_X2_isWantedFrom_L2 p0 n q4.2 (x2 + (1 : Int32))) else (some (false, q4.2)))) else none)) else none)) = _ := hf
    refine lv_iload_n C.1 C.2.1 dX2_isWantedFrom_2 rfl (lv_at hl 1 rfl) ?_
    refine lv_aload_n C.1 C.2.1 dX2_isWantedFrom_3 rfl (lv_at hl 0 rfl) ?_
    refine g_X2_0 C hH kk_29 tw_236 dX2_isWantedFrom_4 ?_
    refine gN_X3_2 C hH kk_3 tw_179 dX2_isWantedFrom_7 ?_
    refine lv_icmp_ge (tgt := 54) C.1 C.2.1 dX2_isWantedFrom_10 (by decide) (fun q7 => ?_) (fun q7 => ?_)
    · have hf := (if_pos q7).symm.trans hf
      refine lv_aload_n C.1 C.2.1 dX2_isWantedFrom_54 rfl (lv_at hl 0 rfl) ?_
      refine g_X2_1 C hH kk_29 tw_237 dX2_isWantedFrom_55 ?_
      obtain ⟨q1, hc, hf⟩ := Option.bind_eq_some_iff.mp hf
      refine x_ci (n := 0) C hH (c_X1_wantsMore l G I  hc) (kd_lt kk_24 (by decide)) (cE_1 kk_24) rfl tw_597 tw_594 tw_595 tw_596 tw_52 (by decide +kernel) ⟨Nat.le_of_ble_eq_true rfl, Nat.le_of_ble_eq_true rfl⟩ rfl hl.1 rfl (Nat.le_of_ble_eq_true rfl) ⟨Nat.le_of_ble_eq_true rfl, Nat.le_of_ble_eq_true rfl⟩ dX2_isWantedFrom_58 (fun H locs hH => ?_)
      cases hf
      exact x_zret C hr hH rfl dX2_isWantedFrom_61
    · have hf := (if_neg q7).symm.trans hf
      refine lv_aload_n C.1 C.2.1 dX2_isWantedFrom_13 rfl (lv_at hl 0 rfl) ?_
      refine g_X2_0 C hH kk_29 tw_236 dX2_isWantedFrom_14 ?_
      refine gN_X3_1 C hH kk_3 tw_175 dX2_isWantedFrom_17 ?_
      refine lv_iload_n C.1 C.2.1 dX2_isWantedFrom_20 rfl (lv_at hl 1 rfl) ?_
      obtain ⟨q2, hf⟩ := itn hf
      refine x_aldS C hH kk_5 q2 dX2_isWantedFrom_21 ?_
      refine gN_X7_1 C hH (kd_St q2) tw_145 dX2_isWantedFrom_22 ?_
      refine lv_iconst (v := (4 : Int32)) C.1 C.2.1 dX2_isWantedFrom_25 (by decide) ?_
      refine lv_icmp_ne (tgt := 31) C.1 C.2.1 dX2_isWantedFrom_26 (by decide) (fun q6 => ?_) (fun q6 => ?_)
      · have hf := (if_neg q6).symm.trans hf
        refine lv_aload_n C.1 C.2.1 dX2_isWantedFrom_31 rfl (lv_at hl 0 rfl) ?_
        refine g_X2_0 C hH kk_29 tw_236 dX2_isWantedFrom_32 ?_
        refine gN_X3_1 C hH kk_3 tw_175 dX2_isWantedFrom_35 ?_
        refine lv_iload_n C.1 C.2.1 dX2_isWantedFrom_38 rfl (lv_at hl 1 rfl) ?_
        obtain ⟨q3, hf⟩ := itn hf
        refine x_aldS C hH kk_5 q3 dX2_isWantedFrom_39 ?_
        obtain ⟨q4, hc, hf⟩ := Option.bind_eq_some_iff.mp hf
        refine x_ci (n := 0) C hH (c_X7_isClosed l G I (6 + 3 * x2.toNatClampNeg) (kd_St q3) hc) (kd_lt (kd_St q3) (by decide)) (cE_7 (kd_St q3)) rfl tw_593 tw_590 tw_591 tw_592 tw_51 (by decide +kernel) ⟨Nat.le_of_ble_eq_true rfl, Nat.le_of_ble_eq_true rfl⟩ rfl hl.1 rfl (Nat.le_of_ble_eq_true rfl) ⟨Nat.le_of_ble_eq_true rfl, Nat.le_of_ble_eq_true rfl⟩ dX2_isWantedFrom_40 (fun H locs hH => ?_)
        refine lv_if_eq (tgt := 48) C.1 C.2.1 dX2_isWantedFrom_43 (by decide) (fun q5 => ?_) (fun q5 => ?_)
        · have hf := (if_pos q5).symm.trans hf
          refine lv_iinc (v := (x2 + (1 : Int32))) (lv' := [(2, .int (x2 + (1 : Int32))), (0, .ref (G.2.1 29))]) C.1 C.2.1 dX2_isWantedFrom_48 hl (k := 1) rfl rfl (by decide) rfl (fun ls hl => ?_)
          refine lv_goto (tgt := 2) C.1 C.2.1 dX2_isWantedFrom_51 (by decide) ?_
          exact ih q4.2 (x2 + (1 : Int32))  _ _ _ hH (lv_sub hl [1, 0] rfl) hf
        · have hf := (if_neg q5).symm.trans hf
          refine lv_iconst (v := (0 : Int32)) C.1 C.2.1 dX2_isWantedFrom_46 (by decide) ?_
          cases hf
          exact x_zret C hr hH rfl dX2_isWantedFrom_47
      · have hf := (if_pos q6).symm.trans hf
        refine lv_iconst (v := (1 : Int32)) C.1 C.2.1 dX2_isWantedFrom_29 (by decide) ?_
        cases hf
        exact x_zret C hr hH rfl dX2_isWantedFrom_30
def f_X2_isWantedFrom (I : Mem) (p0 : Int32) : Option (Bool × Mem) := f_X2_isWantedFrom_L2 p0 FU I p0
set_option maxHeartbeats 4000000 in
set_option maxRecDepth 100000 in
theorem c_X2_isWantedFrom (l : Launch) (G : Gx) (I : Mem) (p0 : Int32) {res : Bool} {J : Mem} (hf : f_X2_isWantedFrom I p0 = some (res, J)) : Mi l yX2_isWantedFrom (.code yX2_isWantedFrom cX2_isWantedFrom 3 (some .boolean)) 1 20 G I [.ref (G.2.1 29), .int p0] (b2i res) J := by
  refine Mi.of (by decide +kernel) (Nat.le_of_ble_eq_true rfl) (fun p e s m below meth c ls C hr hH hl => ?_)
  have hl : lv_has ls 3 [(0, .ref (G.2.1 29)), (1, .int p0)] := hl
  have hf : (f_X2_isWantedFrom_L2 p0 FU I p0) = _ := hf
  refine lv_iload_n C.1 C.2.1 dX2_isWantedFrom_0 rfl (lv_at hl 1 rfl) ?_
  refine lv_istore_n (lv' := [(2, .int p0), (0, .ref (G.2.1 29)), (1, .int p0)]) C.1 C.2.1 dX2_isWantedFrom_1 rfl hl (by decide) rfl (fun ls hl => ?_)
  exact w_X2_isWantedFrom_L2 p0 C hr FU I p0 _ _ _ hH (lv_sub hl [1, 0] rfl) hf
def f_X2_mayGiveTo (I : Mem) (p0 : Int32) : Option (Bool × Mem) := if (I 29 3) = 0 then ((f_X2_isWantedFrom I p0).bind fun q1 => (if (b2i q1.1) = 0 then (some (false, q1.2)) else (if (q1.2 29 2) = (600 : Int32) then (some (false, (st q1.2 29 3 (1 : Int32)))) else (some (true, (st q1.2 29 2 ((q1.2 29 2) + (1 : Int32)))))))) else (some (false, I))
set_option maxHeartbeats 4000000 in
set_option maxRecDepth 100000 in
theorem c_X2_mayGiveTo (l : Launch) (G : Gx) (I : Mem) (p0 : Int32) {res : Bool} {J : Mem} (hf : f_X2_mayGiveTo I p0 = some (res, J)) : Mi l yX2_mayGiveTo (.code yX2_mayGiveTo cX2_mayGiveTo 2 (some .boolean)) 2 42 G I [.ref (G.2.1 29), .int p0] (b2i res) J := by
  refine Mi.of (by decide +kernel) (Nat.le_of_ble_eq_true rfl) (fun p e s m below meth c ls C hr hH hl => ?_)
  have hl : lv_has ls 2 [(0, .ref (G.2.1 29)), (1, .int p0)] := hl
  have hf : (if (I 29 3) = 0 then ((f_X2_isWantedFrom I p0).bind fun q1 => (if (b2i q1.1) = 0 then (some (false, q1.2)) else (if (q1.2 29 2) = (600 : Int32) then (some (false, (st q1.2 29 3 (1 : Int32)))) else (some (true, (st q1.2 29 2 ((q1.2 29 2) + (1 : Int32)))))))) else (some (false, I))) = _ := hf
  refine lv_aload_n C.1 C.2.1 dX2_mayGiveTo_0 rfl (lv_at hl 0 rfl) ?_
  refine g_X2_3 C hH kk_29 tw_239 dX2_mayGiveTo_1 ?_
  refine lv_if_ne (tgt := 15) C.1 C.2.1 dX2_mayGiveTo_4 (by decide) (fun q4 => ?_) (fun q4 => ?_)
  · have hf := (if_neg q4).symm.trans hf
    refine lv_iconst (v := (0 : Int32)) C.1 C.2.1 dX2_mayGiveTo_15 (by decide) ?_
    cases hf
    exact x_zret C hr hH rfl dX2_mayGiveTo_16
  · have hf := (if_pos q4).symm.trans hf
    refine lv_aload_n C.1 C.2.1 dX2_mayGiveTo_7 rfl (lv_at hl 0 rfl) ?_
    refine lv_iload_n C.1 C.2.1 dX2_mayGiveTo_8 rfl (lv_at hl 1 rfl) ?_
    obtain ⟨q1, hc, hf⟩ := Option.bind_eq_some_iff.mp hf
    refine x_ci (n := 1) C hH (c_X2_isWantedFrom l G I p0 hc) (kd_lt kk_29 (by decide)) (cE_2 kk_29) rfl tw_589 tw_586 tw_588 tw_8 tw_53 (by decide +kernel) ⟨Nat.le_of_ble_eq_true rfl, Nat.le_of_ble_eq_true rfl⟩ rfl hl.1 rfl (Nat.le_of_ble_eq_true rfl) ⟨Nat.le_of_ble_eq_true rfl, Nat.le_of_ble_eq_true rfl⟩ dX2_mayGiveTo_9 (fun H locs hH => ?_)
    refine lv_if_ne (tgt := 17) C.1 C.2.1 dX2_mayGiveTo_12 (by decide) (fun q3 => ?_) (fun q3 => ?_)
    · have hf := (if_neg q3).symm.trans hf
      refine lv_aload_n C.1 C.2.1 dX2_mayGiveTo_17 rfl (lv_at hl 0 rfl) ?_
      refine g_X2_2 C hH kk_29 tw_238 dX2_mayGiveTo_18 ?_
      refine lv_sipush (v := (600 : Int32)) C.1 C.2.1 dX2_mayGiveTo_21 (by decide) ?_
      refine lv_icmp_ne (tgt := 34) C.1 C.2.1 dX2_mayGiveTo_24 (by decide) (fun q2 => ?_) (fun q2 => ?_)
      · have hf := (if_neg q2).symm.trans hf
        refine lv_aload_n C.1 C.2.1 dX2_mayGiveTo_34 rfl (lv_at hl 0 rfl) ?_
        refine lv_dup C.1 C.2.1 dX2_mayGiveTo_35 rfl ?_
        refine g_X2_2 C hH kk_29 tw_238 dX2_mayGiveTo_36 ?_
        refine lv_iconst (v := (1 : Int32)) C.1 C.2.1 dX2_mayGiveTo_39 (by decide) ?_
        refine lv_iadd C.1 C.2.1 dX2_mayGiveTo_40 ?_
        refine p_X2_2 C hH kk_29  tw_238 dX2_mayGiveTo_41 (fun H locs hH => ?_)
        refine lv_iconst (v := (1 : Int32)) C.1 C.2.1 dX2_mayGiveTo_44 (by decide) ?_
        cases hf
        exact x_zret C hr hH rfl dX2_mayGiveTo_45
      · have hf := (if_pos q2).symm.trans hf
        refine lv_aload_n C.1 C.2.1 dX2_mayGiveTo_27 rfl (lv_at hl 0 rfl) ?_
        refine lv_iconst (v := (1 : Int32)) C.1 C.2.1 dX2_mayGiveTo_28 (by decide) ?_
        refine p_X2_3 C hH kk_29 ⟨rfl, rfl⟩ tw_239 dX2_mayGiveTo_29 (fun H locs hH => ?_)
        refine lv_iconst (v := (0 : Int32)) C.1 C.2.1 dX2_mayGiveTo_32 (by decide) ?_
        cases hf
        exact x_zret C hr hH rfl dX2_mayGiveTo_33
    · have hf := (if_pos q3).symm.trans hf
      refine lv_iconst (v := (0 : Int32)) C.1 C.2.1 dX2_mayGiveTo_15 (by decide) ?_
      cases hf
      exact x_zret C hr hH rfl dX2_mayGiveTo_16
def f_X2_giveFlat_r_L16 (P : Mem → Int32 → Int32 → Option Mem) (p0 : Int32) (p1 : Int32)  : Nat → Mem → Int32 → Int32 → Int32 → Int32 → Option Mem
  | 0, _, _, _, _, _ => none
  | n + 1, I, x1, x2, x3, x4 => if x3 ≤ x4 then (some I) else ((f_X2_mayGiveTo I (x1 + (1 : Int32))).bind fun q2 => (if (b2i q2.1) = 0 then (some q2.2) else ((P q2.2 (x1 + (1 : Int32)) (x2 + x4)).bind fun q3 => (f_X2_giveFlat_r_L16 P p0 p1 n q3 x1 x2 x3 (x4 + (1 : Int32))))))
set_option maxHeartbeats 4000000 in
set_option maxRecDepth 100000 in
theorem w_X2_giveFlat_r_L16 {p : Program} {l : Launch} {e : Env} {s : State} {m : MethodId} {args : Array Value} {below : List Frame} {meth : Method} {c : Code} {G : Gx} {fr lo frQ loQ : Nat} (P : Mem → Int32 → Int32 → Option Mem) (p0 : Int32) (p1 : Int32) (hP : ∀ (I : Mem) (a b : Int32) (J : Mem), P I a b = some J → Mv l yX2_passOn (.code yX2_passOn cX2_passOn 6 none) frQ loQ G I [.ref (G.2.1 29), .int a, .int b] J) (hroom : frQ + 1 ≤ fr ∧ 8 + (6 + 11) + loQ ≤ lo) (hfr : 3 ≤ fr ∧ 63 ≤ lo) {J : Mem} (C : CX p l s m args meth c cX2_giveFlat 5 yX2_giveFlat.cls G) (hr : meth.sig.returnType = none) :
    ∀ (n : Nat) (I : Mem) (x1 : Int32) (x2 : Int32) (x3 : Int32) (x4 : Int32) (H : Heap) (locs : List Loc) (ls : Array Slot), HW G s H locs I → lv_has ls 5 [(0, .ref (G.2.1 29)), (1, .int x1), (2, .int x2), (3, .int x3), (4, .int x4)] → f_X2_giveFlat_r_L16 P p0 p1 n I x1 x2 x3 x4 = some J → W p l e { frames := fr, cells := 0, slots := 0, locals := lo } s m args below meth c H locs 0 0 (MQ below (Qv9 G J s.heap.size) args s 0 0 (AA G s.heap.size)) (F0 m 16 ls []) := by
  intro n
  induction n with
  | zero => intro I x1 x2 x3 x4  H locs ls hH hl hf; exact absurd hf (by simp [f_X2_giveFlat_r_L16])
  | succ n ih =>
    intro I x1 x2 x3 x4  H locs ls hH hl hf
    have hf : (if x3 ≤ x4 then (some I) else ((f_X2_mayGiveTo I (x1 + (1 : Int32))).bind fun q2 => (if (b2i q2.1) = 0 then (some q2.2) else ((P q2.2 (x1 + (1 : Int32)) (x2 + x4)).bind fun q3 => (f_X2_giveFlat_r_L16 P p0 p1 n q3 x1 x2 x3 (x4 + (1 : Int32))))))) = _ := hf
    refine lv_iload C.1 C.2.1 dX2_giveFlat_16 (lv_at hl 4 rfl) ?_
    refine lv_iload_n C.1 C.2.1 dX2_giveFlat_18 rfl (lv_at hl 3 rfl) ?_
    refine lv_icmp_ge (tgt := 49) C.1 C.2.1 dX2_giveFlat_19 (by decide) (fun q5 => ?_) (fun q5 => ?_)
    · have hf := (if_pos q5).symm.trans hf
      cases hf
      exact x_vret C hr hH dX2_giveFlat_49
    · have hf := (if_neg q5).symm.trans hf
      refine lv_aload_n C.1 C.2.1 dX2_giveFlat_22 rfl (lv_at hl 0 rfl) ?_
      refine lv_iload_n C.1 C.2.1 dX2_giveFlat_23 rfl (lv_at hl 1 rfl) ?_
      refine lv_iconst (v := (1 : Int32)) C.1 C.2.1 dX2_giveFlat_24 (by decide) ?_
      refine lv_iadd C.1 C.2.1 dX2_giveFlat_25 ?_
      obtain ⟨q2, hc, hf⟩ := Option.bind_eq_some_iff.mp hf
      refine x_ci (n := 1) C hH (c_X2_mayGiveTo l G I (x1 + (1 : Int32)) hc) (kd_lt kk_29 (by decide)) (cE_2 kk_29) rfl tw_585 tw_582 tw_584 tw_7 tw_53 (by decide +kernel) ⟨Nat.le_trans (Nat.le_of_ble_eq_true rfl) hfr.1, Nat.le_trans (Nat.le_of_ble_eq_true rfl) hfr.2⟩ rfl hl.1 rfl (Nat.le_of_ble_eq_true rfl) ⟨Nat.le_of_ble_eq_true rfl, Nat.le_of_ble_eq_true rfl⟩ dX2_giveFlat_26 (fun H locs hH => ?_)
      refine lv_if_eq (tgt := 49) C.1 C.2.1 dX2_giveFlat_29 (by decide) (fun q4 => ?_) (fun q4 => ?_)
      · have hf := (if_pos q4).symm.trans hf
        cases hf
        exact x_vret C hr hH dX2_giveFlat_49
      · have hf := (if_neg q4).symm.trans hf
        refine lv_aload_n C.1 C.2.1 dX2_giveFlat_32 rfl (lv_at hl 0 rfl) ?_
        refine lv_iload_n C.1 C.2.1 dX2_giveFlat_33 rfl (lv_at hl 1 rfl) ?_
        refine lv_iconst (v := (1 : Int32)) C.1 C.2.1 dX2_giveFlat_34 (by decide) ?_
        refine lv_iadd C.1 C.2.1 dX2_giveFlat_35 ?_
        refine lv_iload_n C.1 C.2.1 dX2_giveFlat_36 rfl (lv_at hl 2 rfl) ?_
        refine lv_iload C.1 C.2.1 dX2_giveFlat_37 (lv_at hl 4 rfl) ?_
        refine lv_iadd C.1 C.2.1 dX2_giveFlat_39 ?_
        obtain ⟨q3, hc, hf⟩ := Option.bind_eq_some_iff.mp hf
        refine x_cv (n := 2) C hH (hP _ _ _ _ hc) (kd_lt kk_29 (by decide)) (cE_2 kk_29) rfl tw_605 tw_602 tw_604 tw_9 tw_53 (by decide +kernel) hroom rfl hl.1 rfl (Nat.le_of_ble_eq_true rfl) ⟨Nat.le_of_ble_eq_true rfl, Nat.le_of_ble_eq_true rfl⟩ dX2_giveFlat_40 (fun H locs hH => ?_)
        refine lv_iinc (v := (x4 + (1 : Int32))) (lv' := [(4, .int (x4 + (1 : Int32))), (0, .ref (G.2.1 29)), (1, .int x1), (2, .int x2), (3, .int x3)]) C.1 C.2.1 dX2_giveFlat_43 hl (k := 4) rfl rfl (by decide) rfl (fun ls hl => ?_)
        refine lv_goto (tgt := 16) C.1 C.2.1 dX2_giveFlat_46 (by decide) ?_
        exact ih q3 x1 x2 x3 (x4 + (1 : Int32))  _ _ _ hH (lv_sub hl [1, 2, 3, 4, 0] rfl) hf
def f_X2_giveFlat_r (I : Mem) (P : Mem → Int32 → Int32 → Option Mem) (p0 : Int32) (p1 : Int32) : Option Mem := if inb p0 (ln 5) = true then (f_X2_giveFlat_r_L16 P p0 p1 FU I p0 p1 (I (6 + 3 * p0.toNatClampNeg) 3) (0 : Int32)) else none
set_option maxHeartbeats 4000000 in
set_option maxRecDepth 100000 in
theorem c_X2_giveFlat_r (l : Launch) (G : Gx) {fr lo frQ loQ : Nat} (I : Mem) (P : Mem → Int32 → Int32 → Option Mem) (p0 : Int32) (p1 : Int32) (hP : ∀ (I : Mem) (a b : Int32) (J : Mem), P I a b = some J → Mv l yX2_passOn (.code yX2_passOn cX2_passOn 6 none) frQ loQ G I [.ref (G.2.1 29), .int a, .int b] J) (hroom : frQ + 1 ≤ fr ∧ 8 + (6 + 11) + loQ ≤ lo) (hfr : 3 ≤ fr ∧ 63 ≤ lo) {J : Mem} (hf : f_X2_giveFlat_r I P p0 p1 = some J) : Mv l yX2_giveFlat (.code yX2_giveFlat cX2_giveFlat 5 none) fr lo G I [.ref (G.2.1 29), .int p0, .int p1] J := by
  refine Mv.of (by decide +kernel) (Nat.le_of_ble_eq_true rfl) (fun p e s m below meth c ls C hr hH hl => ?_)
  have hl : lv_has ls 5 [(0, .ref (G.2.1 29)), (1, .int p0), (2, .int p1)] := hl
  have hf : (if inb p0 (ln 5) = true then (f_X2_giveFlat_r_L16 P p0 p1 FU I p0 p1 (I (6 + 3 * p0.toNatClampNeg) 3) (0 : Int32)) else none) = _ := hf
  refine lv_aload_n C.1 C.2.1 dX2_giveFlat_0 rfl (lv_at hl 0 rfl) ?_
  refine g_X2_0 C hH kk_29 tw_236 dX2_giveFlat_1 ?_
  refine gN_X3_1 C hH kk_3 tw_175 dX2_giveFlat_4 ?_
  refine lv_iload_n C.1 C.2.1 dX2_giveFlat_7 rfl (lv_at hl 1 rfl) ?_
  obtain ⟨q1, hf⟩ := itn hf
  refine x_aldS C hH kk_5 q1 dX2_giveFlat_8 ?_
  refine gN_X7_3 C hH (kd_St q1) tw_150 dX2_giveFlat_9 ?_
  refine lv_istore_n (lv' := [(3, .int (I (6 + 3 * p0.toNatClampNeg) 3)), (0, .ref (G.2.1 29)), (1, .int p0), (2, .int p1)]) C.1 C.2.1 dX2_giveFlat_12 rfl hl (by decide) rfl (fun ls hl => ?_)
  refine lv_iconst (v := (0 : Int32)) C.1 C.2.1 dX2_giveFlat_13 (by decide) ?_
  refine lv_istore (lv' := [(4, .int (0 : Int32)), (3, .int (I (6 + 3 * p0.toNatClampNeg) 3)), (0, .ref (G.2.1 29)), (1, .int p0), (2, .int p1)]) C.1 C.2.1 dX2_giveFlat_14 hl (by decide) rfl (fun ls hl => ?_)
  exact w_X2_giveFlat_r_L16 P p0 p1 hP hroom hfr C hr FU I p0 p1 (I (6 + 3 * p0.toNatClampNeg) 3) (0 : Int32) _ _ _ hH (lv_sub hl [2, 3, 4, 1, 0] rfl) hf
def f_X2_passOn_r_L5 (P : Mem → Int32 → Int32 → Option Mem) (p0 : Int32) (p1 : Int32)  : Nat → Mem → Int32 → Int32 → Option Mem
  | 0, _, _, _ => none
  | n + 1, I, x3, x4 => if (I 3 2) ≤ x4 then ((f_X1_take I x3).bind fun q1 => (some q1)) else (if inb x4 (ln 5) = true then (if ((st I (6 + 3 * x4.toNatClampNeg) 4 ((I (6 + 3 * x4.toNatClampNeg) 4) + (1 : Int32))) (6 + 3 * x4.toNatClampNeg) 1) = (2 : Int32) then ((P (st I (6 + 3 * x4.toNatClampNeg) 4 ((I (6 + 3 * x4.toNatClampNeg) 4) + (1 : Int32))) x4 x3).bind fun q6 => (some q6)) else ((f_X7_letsOn (st I (6 + 3 * x4.toNatClampNeg) 4 ((I (6 + 3 * x4.toNatClampNeg) 4) + (1 : Int32))) (6 + 3 * x4.toNatClampNeg) x3).bind fun q3 => (if (b2i q3.1) = 0 then (some q3.2) else ((f_X7_changed q3.2 (6 + 3 * x4.toNatClampNeg) x3).bind fun q4 => (f_X2_passOn_r_L5 P p0 p1 n q4.2 q4.1 (x4 + (1 : Int32))))))) else none)
set_option maxHeartbeats 4000000 in
set_option maxRecDepth 100000 in
theorem w_X2_passOn_r_L5 {p : Program} {l : Launch} {e : Env} {s : State} {m : MethodId} {args : Array Value} {below : List Frame} {meth : Method} {c : Code} {G : Gx} {fr lo frQ loQ : Nat} (P : Mem → Int32 → Int32 → Option Mem) (p0 : Int32) (p1 : Int32) (hP : ∀ (I : Mem) (a b : Int32) (J : Mem), P I a b = some J → Mv l yX2_giveFlat (.code yX2_giveFlat cX2_giveFlat 5 none) frQ loQ G I [.ref (G.2.1 29), .int a, .int b] J) (hroom : frQ + 1 ≤ fr ∧ 8 + (5 + 11) + loQ ≤ lo) (hfr : 4 ≤ fr ∧ 125 ≤ lo) {J : Mem} (C : CX p l s m args meth c cX2_passOn 6 yX2_passOn.cls G) (hr : meth.sig.returnType = none) :
    ∀ (n : Nat) (I : Mem) (x3 : Int32) (x4 : Int32) (H : Heap) (locs : List Loc) (ls : Array Slot), HW G s H locs I → lv_has ls 6 [(0, .ref (G.2.1 29)), (3, .int x3), (4, .int x4)] → f_X2_passOn_r_L5 P p0 p1 n I x3 x4 = some J → W p l e { frames := fr, cells := 0, slots := 0, locals := lo } s m args below meth c H locs 0 0 (MQ below (Qv9 G J s.heap.size) args s 0 0 (AA G s.heap.size)) (F0 m 5 ls []) := by
  intro n
  induction n with
  | zero => intro I x3 x4  H locs ls hH hl hf; exact absurd hf (by simp [f_X2_passOn_r_L5])
  | succ n ih =>
    intro I x3 x4  H locs ls hH hl hf
    have hf : (if (I 3 2) ≤ x4 then ((f_X1_take I x3).bind fun q1 => (some q1)) else (if inb x4 (ln 5) = true then (if ((st I (6 + 3 * x4.toNatClampNeg) 4 ((I (6 + 3 * x4.toNatClampNeg) 4) + (1 : Int32))) (6 + 3 * x4.toNatClampNeg) 1) = (2 : Int32) then ((P (st I (6 + 3 * x4.toNatClampNeg) 4 ((I (6 + 3 * x4.toNatClampNeg) 4) + (1 : Int32))) x4 x3).bind fun q6 => (some q6)) else ((f_X7_letsOn (st I (6 + 3 * x4.toNatClampNeg) 4 ((I (6 + 3 * x4.toNatClampNeg) 4) + (1 : Int32))) (6 + 3 * x4.toNatClampNeg) x3).bind fun q3 => (if (b2i q3.1) = 0 then (some q3.2) else ((f_X7_changed q3.2 (6 + 3 * x4.toNatClampNeg) x3).bind fun q4 => (f_X2_passOn_r_L5 P p0 p1 n q4.2 q4.1 (x4 + (1 : Int32))))))) else none)) = _ := hf
    refine lv_iload C.1 C.2.1 dX2_passOn_5 (lv_at hl 2 rfl) ?_
    refine lv_aload_n C.1 C.2.1 dX2_passOn_7 rfl (lv_at hl 0 rfl) ?_
    refine g_X2_0 C hH kk_29 tw_236 dX2_passOn_8 ?_
    refine gN_X3_2 C hH kk_3 tw_179 dX2_passOn_11 ?_
    refine lv_icmp_ge (tgt := 80) C.1 C.2.1 dX2_passOn_14 (by decide) (fun q8 => ?_) (fun q8 => ?_)
    · have hf := (if_pos q8).symm.trans hf
      refine lv_aload_n C.1 C.2.1 dX2_passOn_80 rfl (lv_at hl 0 rfl) ?_
      refine g_X2_1 C hH kk_29 tw_237 dX2_passOn_81 ?_
      refine lv_iload_n C.1 C.2.1 dX2_passOn_84 rfl (lv_at hl 1 rfl) ?_
      obtain ⟨q1, hc, hf⟩ := Option.bind_eq_some_iff.mp hf
      refine x_cv (n := 1) C hH (c_X1_take l G I x3 hc) (kd_lt kk_24 (by decide)) (cE_1 kk_24) rfl tw_644 tw_641 tw_642 tw_643 tw_52 (by decide +kernel) ⟨Nat.le_trans (Nat.le_of_ble_eq_true rfl) hfr.1, Nat.le_trans (Nat.le_of_ble_eq_true rfl) hfr.2⟩ rfl hl.1 rfl (Nat.le_of_ble_eq_true rfl) ⟨Nat.le_of_ble_eq_true rfl, Nat.le_of_ble_eq_true rfl⟩ dX2_passOn_85 (fun H locs hH => ?_)
      cases hf
      exact x_vret C hr hH dX2_passOn_88
    · have hf := (if_neg q8).symm.trans hf
      refine lv_aload_n C.1 C.2.1 dX2_passOn_17 rfl (lv_at hl 0 rfl) ?_
      refine g_X2_0 C hH kk_29 tw_236 dX2_passOn_18 ?_
      refine gN_X3_1 C hH kk_3 tw_175 dX2_passOn_21 ?_
      refine lv_iload C.1 C.2.1 dX2_passOn_24 (lv_at hl 2 rfl) ?_
      obtain ⟨q2, hf⟩ := itn hf
      refine x_aldS C hH kk_5 q2 dX2_passOn_26 ?_
      refine lv_astore (lv' := [(5, .ref (G.2.1 (6 + 3 * x4.toNatClampNeg))), (0, .ref (G.2.1 29)), (3, .int x3), (4, .int x4)]) C.1 C.2.1 dX2_passOn_27 hl (by decide) rfl (fun ls hl => ?_)
      refine lv_aload C.1 C.2.1 dX2_passOn_29 (lv_at hl 0 rfl) ?_
      refine lv_dup C.1 C.2.1 dX2_passOn_31 rfl ?_
      refine gN_X7_4 C hH (kd_St q2) tw_153 dX2_passOn_32 ?_
      refine lv_iconst (v := (1 : Int32)) C.1 C.2.1 dX2_passOn_35 (by decide) ?_
      refine lv_iadd C.1 C.2.1 dX2_passOn_36 ?_
      refine pN_X7_4 C hH (kd_St q2)  tw_153 dX2_passOn_37 (fun H locs hH => ?_)
      refine lv_aload C.1 C.2.1 dX2_passOn_40 (lv_at hl 0 rfl) ?_
      refine gN_X7_1 C hH (kd_St q2) tw_145 dX2_passOn_42 ?_
      refine lv_iconst (v := (2 : Int32)) C.1 C.2.1 dX2_passOn_45 (by decide) ?_
      refine lv_icmp_ne (tgt := 57) C.1 C.2.1 dX2_passOn_46 (by decide) (fun q7 => ?_) (fun q7 => ?_)
      · have hf := (if_neg q7).symm.trans hf
        refine lv_aload C.1 C.2.1 dX2_passOn_57 (lv_at hl 0 rfl) ?_
        refine lv_iload_n C.1 C.2.1 dX2_passOn_59 rfl (lv_at hl 2 rfl) ?_
        obtain ⟨q3, hc, hf⟩ := Option.bind_eq_some_iff.mp hf
        refine x_ci (n := 1) C hH (c_X7_letsOn l G (st I (6 + 3 * x4.toNatClampNeg) 4 ((I (6 + 3 * x4.toNatClampNeg) 4) + (1 : Int32))) (6 + 3 * x4.toNatClampNeg) x3 (kd_St q2) hc) (kd_lt (kd_St q2) (by decide)) (cE_7 (kd_St q2)) rfl tw_613 tw_610 tw_611 tw_612 tw_51 (by decide +kernel) ⟨Nat.le_trans (Nat.le_of_ble_eq_true rfl) hfr.1, Nat.le_trans (Nat.le_of_ble_eq_true rfl) hfr.2⟩ rfl hl.1 rfl (Nat.le_of_ble_eq_true rfl) ⟨Nat.le_of_ble_eq_true rfl, Nat.le_of_ble_eq_true rfl⟩ dX2_passOn_60 (fun H locs hH => ?_)
        refine lv_if_ne (tgt := 67) C.1 C.2.1 dX2_passOn_63 (by decide) (fun q5 => ?_) (fun q5 => ?_)
        · have hf := (if_neg q5).symm.trans hf
          refine lv_aload C.1 C.2.1 dX2_passOn_67 (lv_at hl 0 rfl) ?_
          refine lv_iload_n C.1 C.2.1 dX2_passOn_69 rfl (lv_at hl 2 rfl) ?_
          obtain ⟨q4, hc, hf⟩ := Option.bind_eq_some_iff.mp hf
          refine x_ci (n := 1) C hH (c_X7_changed l G q3.2 (6 + 3 * x4.toNatClampNeg) x3 (kd_St q2) hc) (kd_lt (kd_St q2) (by decide)) (cE_7 (kd_St q2)) rfl tw_636 tw_633 tw_634 tw_635 tw_51 (by decide +kernel) ⟨Nat.le_trans (Nat.le_of_ble_eq_true rfl) hfr.1, Nat.le_trans (Nat.le_of_ble_eq_true rfl) hfr.2⟩ rfl hl.1 rfl (Nat.le_of_ble_eq_true rfl) ⟨Nat.le_of_ble_eq_true rfl, Nat.le_of_ble_eq_true rfl⟩ dX2_passOn_70 (fun H locs hH => ?_)
          refine lv_istore_n (lv' := [(3, .int q4.1), (5, .ref (G.2.1 (6 + 3 * x4.toNatClampNeg))), (0, .ref (G.2.1 29)), (4, .int x4)]) C.1 C.2.1 dX2_passOn_73 rfl hl (by decide) rfl (fun ls hl => ?_)
          refine lv_iinc (v := (x4 + (1 : Int32))) (lv' := [(4, .int (x4 + (1 : Int32))), (3, .int q4.1), (5, .ref (G.2.1 (6 + 3 * x4.toNatClampNeg))), (0, .ref (G.2.1 29))]) C.1 C.2.1 dX2_passOn_74 hl (k := 3) rfl rfl (by decide) rfl (fun ls hl => ?_)
          refine lv_goto (tgt := 5) C.1 C.2.1 dX2_passOn_77 (by decide) ?_
          exact ih q4.2 q4.1 (x4 + (1 : Int32))  _ _ _ hH (lv_sub hl [3, 1, 0] rfl) hf
        · have hf := (if_pos q5).symm.trans hf
          cases hf
          exact x_vret C hr hH dX2_passOn_66
      · have hf := (if_pos q7).symm.trans hf
        refine lv_aload_n C.1 C.2.1 dX2_passOn_49 rfl (lv_at hl 1 rfl) ?_
        refine lv_iload C.1 C.2.1 dX2_passOn_50 (lv_at hl 3 rfl) ?_
        refine lv_iload_n C.1 C.2.1 dX2_passOn_52 rfl (lv_at hl 2 rfl) ?_
        obtain ⟨q6, hc, hf⟩ := Option.bind_eq_some_iff.mp hf
        refine x_cv (n := 2) C hH (hP _ _ _ _ hc) (kd_lt kk_29 (by decide)) (cE_2 kk_29) rfl tw_609 tw_606 tw_608 tw_10 tw_53 (by decide +kernel) hroom rfl hl.1 rfl (Nat.le_of_ble_eq_true rfl) ⟨Nat.le_of_ble_eq_true rfl, Nat.le_of_ble_eq_true rfl⟩ dX2_passOn_53 (fun H locs hH => ?_)
        cases hf
        exact x_vret C hr hH dX2_passOn_56
def f_X2_passOn_r (I : Mem) (P : Mem → Int32 → Int32 → Option Mem) (p0 : Int32) (p1 : Int32) : Option Mem := f_X2_passOn_r_L5 P p0 p1 FU I p1 p0
set_option maxHeartbeats 4000000 in
set_option maxRecDepth 100000 in
theorem c_X2_passOn_r (l : Launch) (G : Gx) {fr lo frQ loQ : Nat} (I : Mem) (P : Mem → Int32 → Int32 → Option Mem) (p0 : Int32) (p1 : Int32) (hP : ∀ (I : Mem) (a b : Int32) (J : Mem), P I a b = some J → Mv l yX2_giveFlat (.code yX2_giveFlat cX2_giveFlat 5 none) frQ loQ G I [.ref (G.2.1 29), .int a, .int b] J) (hroom : frQ + 1 ≤ fr ∧ 8 + (5 + 11) + loQ ≤ lo) (hfr : 4 ≤ fr ∧ 125 ≤ lo) {J : Mem} (hf : f_X2_passOn_r I P p0 p1 = some J) : Mv l yX2_passOn (.code yX2_passOn cX2_passOn 6 none) fr lo G I [.ref (G.2.1 29), .int p0, .int p1] J := by
  refine Mv.of (by decide +kernel) (Nat.le_of_ble_eq_true rfl) (fun p e s m below meth c ls C hr hH hl => ?_)
  have hl : lv_has ls 6 [(0, .ref (G.2.1 29)), (1, .int p0), (2, .int p1)] := hl
  have hf : (f_X2_passOn_r_L5 P p0 p1 FU I p1 p0) = _ := hf
  refine lv_iload_n C.1 C.2.1 dX2_passOn_0 rfl (lv_at hl 2 rfl) ?_
  refine lv_istore_n (lv' := [(3, .int p1), (0, .ref (G.2.1 29)), (1, .int p0), (2, .int p1)]) C.1 C.2.1 dX2_passOn_1 rfl hl (by decide) rfl (fun ls hl => ?_)
  refine lv_iload_n C.1 C.2.1 dX2_passOn_2 rfl (lv_at hl 2 rfl) ?_
  refine lv_istore (lv' := [(4, .int p0), (3, .int p1), (0, .ref (G.2.1 29)), (1, .int p0), (2, .int p1)]) C.1 C.2.1 dX2_passOn_3 hl (by decide) rfl (fun ls hl => ?_)
  exact w_X2_passOn_r_L5 P p0 p1 hP hroom hfr C hr FU I p1 p0 _ _ _ hH (lv_sub hl [2, 1, 0] rfl) hf
