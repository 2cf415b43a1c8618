def f_X7_become (I : Mem) (i : Nat) (p0 : Int32) (p1 : Int32) (p2 : Int32) : Option Mem := (f_X5_clear (st (st (st (st (st I i 1 p0) i 2 p1) i 3 p2) i 4 (0 : Int32)) i 5 (0 : Int32)) (i + 1)).bind fun q1 => (some q1)
set_option maxHeartbeats 4000000 in
set_option maxRecDepth 100000 in
theorem c_X7_become (l : Launch) (G : Gx) (I : Mem) (i : Nat) (p0 : Int32) (p1 : Int32) (p2 : Int32) (hi : kd i = 7) {J : Mem} (hf : f_X7_become I i p0 p1 p2 = some J) : Mv l yX7_become (.code yX7_become cX7_become 4 none) 1 20 G I [.ref (G.2.1 i), .int p0, .int p1, .int p2] J := by
  refine Mv.of (by decide +kernel) (Nat.le_of_ble_eq_true rfl) (fun p e s m below meth c ls C hr hH hl => ?_)
  have hl : lv_has ls 4 [(0, .ref (G.2.1 i)), (1, .int p0), (2, .int p1), (3, .int p2)] := hl
  have hf : ((f_X5_clear (st (st (st (st (st I i 1 p0) i 2 p1) i 3 p2) i 4 (0 : Int32)) i 5 (0 : Int32)) (i + 1)).bind fun q1 => (some q1)) = _ := hf
  refine lv_aload_n C.1 C.2.1 dX7_become_0 rfl (lv_at hl 0 rfl) ?_
  refine lv_iload_n C.1 C.2.1 dX7_become_1 rfl (lv_at hl 1 rfl) ?_
  refine p_X7_1 C hH hi  tw_144 dX7_become_2 (fun H locs hH => ?_)
  refine lv_aload_n C.1 C.2.1 dX7_become_5 rfl (lv_at hl 0 rfl) ?_
  refine lv_iload_n C.1 C.2.1 dX7_become_6 rfl (lv_at hl 2 rfl) ?_
  refine p_X7_2 C hH hi  tw_147 dX7_become_7 (fun H locs hH => ?_)
  refine lv_aload_n C.1 C.2.1 dX7_become_10 rfl (lv_at hl 0 rfl) ?_
  refine lv_iload_n C.1 C.2.1 dX7_become_11 rfl (lv_at hl 3 rfl) ?_
  refine p_X7_3 C hH hi  tw_148 dX7_become_12 (fun H locs hH => ?_)
  refine lv_aload_n C.1 C.2.1 dX7_become_15 rfl (lv_at hl 0 rfl) ?_
  refine lv_iconst (v := (0 : Int32)) C.1 C.2.1 dX7_become_16 (by decide) ?_
  refine p_X7_4 C hH hi  tw_151 dX7_become_17 (fun H locs hH => ?_)
  refine lv_aload_n C.1 C.2.1 dX7_become_20 rfl (lv_at hl 0 rfl) ?_
  refine lv_iconst (v := (0 : Int32)) C.1 C.2.1 dX7_become_21 (by decide) ?_
  refine p_X7_5 C hH hi ⟨rfl, rfl⟩ tw_155 dX7_become_22 (fun H locs hH => ?_)
  refine lv_aload_n C.1 C.2.1 dX7_become_25 rfl (lv_at hl 0 rfl) ?_
  refine g_X7_0 C hH hi tw_141 dX7_become_26 ?_
  obtain ⟨q1, hc, hf⟩ := Option.bind_eq_some_iff.mp hf
  refine x_cv (n := 0) C hH (c_X5_clear l G (st (st (st (st (st I i 1 p0) i 2 p1) i 3 p2) i 4 (0 : Int32)) i 5 (0 : Int32)) (i + 1) (kd_held hi) hc) (kd_lt (kd_held hi) (by decide)) (cE_5 (kd_held hi)) rfl tw_349 tw_518 tw_347 tw_348 tw_48 (by decide +kernel) ⟨Nat.le_of_ble_eq_true rfl, Nat.le_of_ble_eq_true rfl⟩ rfl hl.1 rfl (Nat.le_of_ble_eq_true rfl) ⟨Nat.le_of_ble_eq_true rfl, Nat.le_of_ble_eq_true rfl⟩ dX7_become_29 (fun H locs hH => ?_)
  cases hf
  exact x_vret C hr hH dX7_become_32
def f_X7_mapped (I : Mem) (i : Nat) (p0 : Int32) : Option (Int32 × Mem) := if (I i 2) = (0 : Int32) then (some ((p0 + (I i 3)), I)) else (if (I i 2) = (1 : Int32) then (some ((p0 * (I i 3)), I)) else (if (I i 2) = (2 : Int32) then (some (((I i 3) - p0), I)) else (if (I i 3) = 0 then (some ((0 : Int32), I)) else (if (I i 3) = 0 then none else (some ((p0 - p0 / (I i 3) * (I i 3)), I))))))
set_option maxHeartbeats 4000000 in
set_option maxRecDepth 100000 in
theorem c_X7_mapped (l : Launch) (G : Gx) (I : Mem) (i : Nat) (p0 : Int32) (hi : kd i = 7) {res : Int32} {J : Mem} (hf : f_X7_mapped I i p0 = some (res, J)) : Mi l yX7_mapped (.code yX7_mapped cX7_mapped 2 (some .int)) 0 0 G I [.ref (G.2.1 i), .int p0] res J := by
  refine Mi.of (by decide +kernel) (Nat.le_of_ble_eq_true rfl) (fun p e s m below meth c ls C hr hH hl => ?_)
  have hl : lv_has ls 2 [(0, .ref (G.2.1 i)), (1, .int p0)] := hl
  have hf : (if (I i 2) = (0 : Int32) then (some ((p0 + (I i 3)), I)) else (if (I i 2) = (1 : Int32) then (some ((p0 * (I i 3)), I)) else (if (I i 2) = (2 : Int32) then (some (((I i 3) - p0), I)) else (if (I i 3) = 0 then (some ((0 : Int32), I)) else (if (I i 3) = 0 then none else (some ((p0 - p0 / (I i 3) * (I i 3)), I))))))) = _ := hf
  refine lv_aload_n C.1 C.2.1 dX7_mapped_0 rfl (lv_at hl 0 rfl) ?_
  refine g_X7_2 C hH hi tw_147 dX7_mapped_1 ?_
  by_cases q1 : (I i 2) = (0 : Int32)
  · have hf := (if_pos q1).symm.trans hf
    refine lv_tableIn (tgt := 32) (off := 28) C.1 C.2.1 dX7_mapped_4 (by rw [q1]; decide) (by rw [q1]; decide) (by rw [q1]; decide) (by decide) ?_
    refine lv_iload_n C.1 C.2.1 dX7_mapped_32 rfl (lv_at hl 1 rfl) ?_
    refine lv_aload_n C.1 C.2.1 dX7_mapped_33 rfl (lv_at hl 0 rfl) ?_
    refine g_X7_3 C hH hi tw_148 dX7_mapped_34 ?_
    refine lv_iadd C.1 C.2.1 dX7_mapped_37 ?_
    cases hf
    exact x_iret C hr hH dX7_mapped_38
  · have hf := (if_neg q1).symm.trans hf
    by_cases q2 : (I i 2) = (1 : Int32)
    · have hf := (if_pos q2).symm.trans hf
      refine lv_tableIn (tgt := 39) (off := 35) C.1 C.2.1 dX7_mapped_4 (by rw [q2]; decide) (by rw [q2]; decide) (by rw [q2]; decide) (by decide) ?_
      refine lv_iload_n C.1 C.2.1 dX7_mapped_39 rfl (lv_at hl 1 rfl) ?_
      refine lv_aload_n C.1 C.2.1 dX7_mapped_40 rfl (lv_at hl 0 rfl) ?_
      refine g_X7_3 C hH hi tw_148 dX7_mapped_41 ?_
      refine lv_imul C.1 C.2.1 dX7_mapped_44 ?_
      cases hf
      exact x_iret C hr hH dX7_mapped_45
    · have hf := (if_neg q2).symm.trans hf
      by_cases q3 : (I i 2) = (2 : Int32)
      · have hf := (if_pos q3).symm.trans hf
        refine lv_tableIn (tgt := 46) (off := 42) C.1 C.2.1 dX7_mapped_4 (by rw [q3]; decide) (by rw [q3]; decide) (by rw [q3]; decide) (by decide) ?_
        refine lv_aload_n C.1 C.2.1 dX7_mapped_46 rfl (lv_at hl 0 rfl) ?_
        refine g_X7_3 C hH hi tw_148 dX7_mapped_47 ?_
        refine lv_iload_n C.1 C.2.1 dX7_mapped_50 rfl (lv_at hl 1 rfl) ?_
        refine lv_isub C.1 C.2.1 dX7_mapped_51 ?_
        cases hf
        exact x_iret C hr hH dX7_mapped_52
      · have hf := (if_neg q3).symm.trans hf
        have q1' := ne_toInt (z := 0) (by decide) q1
        have q2' := ne_toInt (z := 1) (by decide) q2
        have q3' := ne_toInt (z := 2) (by decide) q3
        refine x_tblD (tgt := 53) C.1 C.2.1 dX7_mapped_4 ?_ (by decide) ?_
        · exact Or.inl (by omega)
        · refine lv_aload_n C.1 C.2.1 dX7_mapped_53 rfl (lv_at hl 0 rfl) ?_
          refine g_X7_3 C hH hi tw_148 dX7_mapped_54 ?_
          refine lv_if_ne (tgt := 64) C.1 C.2.1 dX7_mapped_57 (by decide) (fun q5 => ?_) (fun q5 => ?_)
          · have hf := (if_neg q5).symm.trans hf
            refine lv_iload_n C.1 C.2.1 dX7_mapped_64 rfl (lv_at hl 1 rfl) ?_
            refine lv_aload_n C.1 C.2.1 dX7_mapped_65 rfl (lv_at hl 0 rfl) ?_
            refine g_X7_3 C hH hi tw_148 dX7_mapped_66 ?_
            obtain ⟨q4, hf⟩ := itn' hf
            refine lv_irem C.1 C.2.1 dX7_mapped_69 q4 ?_
            cases hf
            exact x_iret C hr hH dX7_mapped_70
          · have hf := (if_pos q5).symm.trans hf
            refine lv_iconst (v := (0 : Int32)) C.1 C.2.1 dX7_mapped_60 (by decide) ?_
            refine lv_goto (tgt := 70) C.1 C.2.1 dX7_mapped_61 (by decide) ?_
            cases hf
            exact x_iret C hr hH dX7_mapped_70
def f_X7_changed (I : Mem) (i : Nat) (p0 : Int32) : Option (Int32 × Mem) := if (I i 1) = 0 then ((f_X7_mapped I i p0).bind fun q1 => (some (q1.1, q1.2))) else (some (p0, I))
set_option maxHeartbeats 4000000 in
set_option maxRecDepth 100000 in
theorem c_X7_changed (l : Launch) (G : Gx) (I : Mem) (i : Nat) (p0 : Int32) (hi : kd i = 7) {res : Int32} {J : Mem} (hf : f_X7_changed I i p0 = some (res, J)) : Mi l yX7_changed (.code yX7_changed cX7_changed 2 (some .int)) 1 21 G I [.ref (G.2.1 i), .int p0] res J := by
  refine Mi.of (by decide +kernel) (Nat.le_of_ble_eq_true rfl) (fun p e s m below meth c ls C hr hH hl => ?_)
  have hl : lv_has ls 2 [(0, .ref (G.2.1 i)), (1, .int p0)] := hl
  have hf : (if (I i 1) = 0 then ((f_X7_mapped I i p0).bind fun q1 => (some (q1.1, q1.2))) else (some (p0, I))) = _ := hf
  refine lv_aload_n C.1 C.2.1 dX7_changed_0 rfl (lv_at hl 0 rfl) ?_
  refine g_X7_1 C hH hi tw_144 dX7_changed_1 ?_
  refine lv_if_ne (tgt := 15) C.1 C.2.1 dX7_changed_4 (by decide) (fun q2 => ?_) (fun q2 => ?_)
  · have hf := (if_neg q2).symm.trans hf
    refine lv_iload_n C.1 C.2.1 dX7_changed_15 rfl (lv_at hl 1 rfl) ?_
    cases hf
    exact x_iret C hr hH dX7_changed_16
  · have hf := (if_pos q2).symm.trans hf
    refine lv_aload_n C.1 C.2.1 dX7_changed_7 rfl (lv_at hl 0 rfl) ?_
    refine lv_iload_n C.1 C.2.1 dX7_changed_8 rfl (lv_at hl 1 rfl) ?_
    obtain ⟨q1, hc, hf⟩ := Option.bind_eq_some_iff.mp hf
    refine x_ci (n := 1) C hH (c_X7_mapped l G I i p0 hi hc) (kd_lt hi (by decide)) (cE_7 hi) rfl tw_640 tw_637 tw_639 tw_13 tw_51 (by decide +kernel) ⟨Nat.le_of_ble_eq_true rfl, Nat.le_of_ble_eq_true rfl⟩ rfl hl.1 rfl (Nat.le_of_ble_eq_true rfl) ⟨Nat.le_of_ble_eq_true rfl, Nat.le_of_ble_eq_true rfl⟩ dX7_changed_9 (fun H locs hH => ?_)
    refine lv_goto (tgt := 16) C.1 C.2.1 dX7_changed_12 (by decide) ?_
    cases hf
    exact x_iret C hr hH dX7_changed_16
def f_X7_isClosed (I : Mem) (i : Nat) : Option (Bool × Mem) := if (I i 1) = (5 : Int32) then (if (I i 3) ≤ (I i 4) then (some (true, I)) else (if (I i 1) = (8 : Int32) then (if (I i 5) = 0 then (some (false, I)) else (some (true, I))) else (some (false, I)))) else (if (I i 1) = (8 : Int32) then (if (I i 5) = 0 then (some (false, I)) else (some (true, I))) else (some (false, I)))
set_option maxHeartbeats 4000000 in
set_option maxRecDepth 100000 in
theorem c_X7_isClosed (l : Launch) (G : Gx) (I : Mem) (i : Nat) (hi : kd i = 7) {res : Bool} {J : Mem} (hf : f_X7_isClosed I i = some (res, J)) : Mi l yX7_isClosed (.code yX7_isClosed cX7_isClosed 1 (some .boolean)) 0 0 G I [.ref (G.2.1 i)] (b2i res) J := by
  refine Mi.of (by decide +kernel) (Nat.le_of_ble_eq_true rfl) (fun p e s m below meth c ls C hr hH hl => ?_)
  have hl : lv_has ls 1 [(0, .ref (G.2.1 i))] := hl
  have hf : (if (I i 1) = (5 : Int32) then (if (I i 3) ≤ (I i 4) then (some (true, I)) else (if (I i 1) = (8 : Int32) then (if (I i 5) = 0 then (some (false, I)) else (some (true, I))) else (some (false, I)))) else (if (I i 1) = (8 : Int32) then (if (I i 5) = 0 then (some (false, I)) else (some (true, I))) else (some (false, I)))) = _ := hf
  refine lv_aload_n C.1 C.2.1 dX7_isClosed_0 rfl (lv_at hl 0 rfl) ?_
  refine g_X7_1 C hH hi tw_144 dX7_isClosed_1 ?_
  refine lv_iconst (v := (5 : Int32)) C.1 C.2.1 dX7_isClosed_4 (by decide) ?_
  refine lv_icmp_ne (tgt := 19) C.1 C.2.1 dX7_isClosed_5 (by decide) (fun q6 => ?_) (fun q6 => ?_)
  · have hf := (if_neg q6).symm.trans hf
    refine lv_aload_n C.1 C.2.1 dX7_isClosed_19 rfl (lv_at hl 0 rfl) ?_
    refine g_X7_1 C hH hi tw_144 dX7_isClosed_20 ?_
    refine lv_bipush (v := (8 : Int32)) C.1 C.2.1 dX7_isClosed_23 (by decide) ?_
    refine lv_icmp_ne (tgt := 39) C.1 C.2.1 dX7_isClosed_25 (by decide) (fun q2 => ?_) (fun q2 => ?_)
    · have hf := (if_neg q2).symm.trans hf
      refine lv_iconst (v := (0 : Int32)) C.1 C.2.1 dX7_isClosed_39 (by decide) ?_
      cases hf
      exact x_zret C hr hH rfl dX7_isClosed_40
    · have hf := (if_pos q2).symm.trans hf
      refine lv_aload_n C.1 C.2.1 dX7_isClosed_28 rfl (lv_at hl 0 rfl) ?_
      refine g_X7_5 C hH hi tw_155 dX7_isClosed_29 ?_
      refine lv_if_eq (tgt := 39) C.1 C.2.1 dX7_isClosed_32 (by decide) (fun q1 => ?_) (fun q1 => ?_)
      · have hf := (if_pos q1).symm.trans hf
        refine lv_iconst (v := (0 : Int32)) C.1 C.2.1 dX7_isClosed_39 (by decide) ?_
        cases hf
        exact x_zret C hr hH rfl dX7_isClosed_40
      · have hf := (if_neg q1).symm.trans hf
        refine lv_iconst (v := (1 : Int32)) C.1 C.2.1 dX7_isClosed_35 (by decide) ?_
        refine lv_goto (tgt := 40) C.1 C.2.1 dX7_isClosed_36 (by decide) ?_
        cases hf
        exact x_zret C hr hH rfl dX7_isClosed_40
  · have hf := (if_pos q6).symm.trans hf
    refine lv_aload_n C.1 C.2.1 dX7_isClosed_8 rfl (lv_at hl 0 rfl) ?_
    refine g_X7_4 C hH hi tw_151 dX7_isClosed_9 ?_
    refine lv_aload_n C.1 C.2.1 dX7_isClosed_12 rfl (lv_at hl 0 rfl) ?_
    refine g_X7_3 C hH hi tw_148 dX7_isClosed_13 ?_
    refine lv_icmp_ge (tgt := 35) C.1 C.2.1 dX7_isClosed_16 (by decide) (fun q5 => ?_) (fun q5 => ?_)
    · have hf := (if_pos q5).symm.trans hf
      refine lv_iconst (v := (1 : Int32)) C.1 C.2.1 dX7_isClosed_35 (by decide) ?_
      refine lv_goto (tgt := 40) C.1 C.2.1 dX7_isClosed_36 (by decide) ?_
      cases hf
      exact x_zret C hr hH rfl dX7_isClosed_40
    · have hf := (if_neg q5).symm.trans hf
      refine lv_aload_n C.1 C.2.1 dX7_isClosed_19 rfl (lv_at hl 0 rfl) ?_
      refine g_X7_1 C hH hi tw_144 dX7_isClosed_20 ?_
      refine lv_bipush (v := (8 : Int32)) C.1 C.2.1 dX7_isClosed_23 (by decide) ?_
      refine lv_icmp_ne (tgt := 39) C.1 C.2.1 dX7_isClosed_25 (by decide) (fun q4 => ?_) (fun q4 => ?_)
      · have hf := (if_neg q4).symm.trans hf
        refine lv_iconst (v := (0 : Int32)) C.1 C.2.1 dX7_isClosed_39 (by decide) ?_
        cases hf
        exact x_zret C hr hH rfl dX7_isClosed_40
      · have hf := (if_pos q4).symm.trans hf
        refine lv_aload_n C.1 C.2.1 dX7_isClosed_28 rfl (lv_at hl 0 rfl) ?_
        refine g_X7_5 C hH hi tw_155 dX7_isClosed_29 ?_
        refine lv_if_eq (tgt := 39) C.1 C.2.1 dX7_isClosed_32 (by decide) (fun q3 => ?_) (fun q3 => ?_)
        · have hf := (if_pos q3).symm.trans hf
          refine lv_iconst (v := (0 : Int32)) C.1 C.2.1 dX7_isClosed_39 (by decide) ?_
          cases hf
          exact x_zret C hr hH rfl dX7_isClosed_40
        · have hf := (if_neg q3).symm.trans hf
          refine lv_iconst (v := (1 : Int32)) C.1 C.2.1 dX7_isClosed_35 (by decide) ?_
          refine lv_goto (tgt := 40) C.1 C.2.1 dX7_isClosed_36 (by decide) ?_
          cases hf
          exact x_zret C hr hH rfl dX7_isClosed_40
def f_X7_flagsBehind (I : Mem) (i : Nat) (p0 : Int32) : Option (Int32 × Mem) := if (I i 1) = (0 : Int32) then (some ((p0 &&& (-7 : Int32)), I)) else (if (I i 1) = (1 : Int32) then (some ((p0 &&& (-2 : Int32)), I)) else (if (I i 1) = (2 : Int32) then (some ((p0 &&& (-8 : Int32)), I)) else (if (I i 1) = (3 : Int32) then (some (((p0 &&& (-2 : Int32)) ||| (4 : Int32)), I)) else (if (I i 1) = (4 : Int32) then (some ((p0 ||| (2 : Int32)), I)) else (if (I i 1) = (5 : Int32) then (some ((p0 ||| (8 : Int32)), I)) else (if (I i 1) = (8 : Int32) then (some (((p0 &&& (-2 : Int32)) ||| (8 : Int32)), I)) else (if (I i 1) = (9 : Int32) then (some ((p0 &&& (-2 : Int32)), I)) else (some (p0, I)))))))))
set_option maxHeartbeats 4000000 in
set_option maxRecDepth 100000 in
theorem c_X7_flagsBehind (l : Launch) (G : Gx) (I : Mem) (i : Nat) (p0 : Int32) (hi : kd i = 7) {res : Int32} {J : Mem} (hf : f_X7_flagsBehind I i p0 = some (res, J)) : Mi l yX7_flagsBehind (.code yX7_flagsBehind cX7_flagsBehind 2 (some .int)) 0 0 G I [.ref (G.2.1 i), .int p0] res J := by
  refine Mi.of (by decide +kernel) (Nat.le_of_ble_eq_true rfl) (fun p e s m below meth c ls C hr hH hl => ?_)
  have hl : lv_has ls 2 [(0, .ref (G.2.1 i)), (1, .int p0)] := hl
  have hf : (if (I i 1) = (0 : Int32) then (some ((p0 &&& (-7 : Int32)), I)) else (if (I i 1) = (1 : Int32) then (some ((p0 &&& (-2 : Int32)), I)) else (if (I i 1) = (2 : Int32) then (some ((p0 &&& (-8 : Int32)), I)) else (if (I i 1) = (3 : Int32) then (some (((p0 &&& (-2 : Int32)) ||| (4 : Int32)), I)) else (if (I i 1) = (4 : Int32) then (some ((p0 ||| (2 : Int32)), I)) else (if (I i 1) = (5 : Int32) then (some ((p0 ||| (8 : Int32)), I)) else (if (I i 1) = (8 : Int32) then (some (((p0 &&& (-2 : Int32)) ||| (8 : Int32)), I)) else (if (I i 1) = (9 : Int32) then (some ((p0 &&& (-2 : Int32)), I)) else (some (p0, I)))))))))) = _ := hf
  refine lv_aload_n C.1 C.2.1 dX7_flagsBehind_0 rfl (lv_at hl 0 rfl) ?_
  refine g_X7_1 C hH hi tw_144 dX7_flagsBehind_1 ?_
  by_cases q1 : (I i 1) = (0 : Int32)
  · have hf := (if_pos q1).symm.trans hf
    refine lv_tableIn (tgt := 60) (off := 56) C.1 C.2.1 dX7_flagsBehind_4 (by rw [q1]; decide) (by rw [q1]; decide) (by rw [q1]; decide) (by decide) ?_
    refine lv_iload_n C.1 C.2.1 dX7_flagsBehind_60 rfl (lv_at hl 1 rfl) ?_
    refine lv_bipush (v := (-7 : Int32)) C.1 C.2.1 dX7_flagsBehind_61 (by decide) ?_
    refine lv_iand C.1 C.2.1 dX7_flagsBehind_63 ?_
    cases hf
    exact x_iret C hr hH dX7_flagsBehind_64
  · have hf := (if_neg q1).symm.trans hf
    by_cases q2 : (I i 1) = (1 : Int32)
    · have hf := (if_pos q2).symm.trans hf
      refine lv_tableIn (tgt := 65) (off := 61) C.1 C.2.1 dX7_flagsBehind_4 (by rw [q2]; decide) (by rw [q2]; decide) (by rw [q2]; decide) (by decide) ?_
      refine lv_iload_n C.1 C.2.1 dX7_flagsBehind_65 rfl (lv_at hl 1 rfl) ?_
      refine lv_bipush (v := (-2 : Int32)) C.1 C.2.1 dX7_flagsBehind_66 (by decide) ?_
      refine lv_iand C.1 C.2.1 dX7_flagsBehind_68 ?_
      cases hf
      exact x_iret C hr hH dX7_flagsBehind_69
    · have hf := (if_neg q2).symm.trans hf
      by_cases q3 : (I i 1) = (2 : Int32)
      · have hf := (if_pos q3).symm.trans hf
        refine lv_tableIn (tgt := 70) (off := 66) C.1 C.2.1 dX7_flagsBehind_4 (by rw [q3]; decide) (by rw [q3]; decide) (by rw [q3]; decide) (by decide) ?_
        refine lv_iload_n C.1 C.2.1 dX7_flagsBehind_70 rfl (lv_at hl 1 rfl) ?_
        refine lv_bipush (v := (-8 : Int32)) C.1 C.2.1 dX7_flagsBehind_71 (by decide) ?_
        refine lv_iand C.1 C.2.1 dX7_flagsBehind_73 ?_
        cases hf
        exact x_iret C hr hH dX7_flagsBehind_74
      · have hf := (if_neg q3).symm.trans hf
        by_cases q4 : (I i 1) = (3 : Int32)
        · have hf := (if_pos q4).symm.trans hf
          refine lv_tableIn (tgt := 75) (off := 71) C.1 C.2.1 dX7_flagsBehind_4 (by rw [q4]; decide) (by rw [q4]; decide) (by rw [q4]; decide) (by decide) ?_
          refine lv_iload_n C.1 C.2.1 dX7_flagsBehind_75 rfl (lv_at hl 1 rfl) ?_
          refine lv_bipush (v := (-2 : Int32)) C.1 C.2.1 dX7_flagsBehind_76 (by decide) ?_
          refine lv_iand C.1 C.2.1 dX7_flagsBehind_78 ?_
          refine lv_iconst (v := (4 : Int32)) C.1 C.2.1 dX7_flagsBehind_79 (by decide) ?_
          refine lv_ior C.1 C.2.1 dX7_flagsBehind_80 ?_
          cases hf
          exact x_iret C hr hH dX7_flagsBehind_81
        · have hf := (if_neg q4).symm.trans hf
          by_cases q5 : (I i 1) = (4 : Int32)
          · have hf := (if_pos q5).symm.trans hf
            refine lv_tableIn (tgt := 82) (off := 78) C.1 C.2.1 dX7_flagsBehind_4 (by rw [q5]; decide) (by rw [q5]; decide) (by rw [q5]; decide) (by decide) ?_
            refine lv_iload_n C.1 C.2.1 dX7_flagsBehind_82 rfl (lv_at hl 1 rfl) ?_
            refine lv_iconst (v := (2 : Int32)) C.1 C.2.1 dX7_flagsBehind_83 (by decide) ?_
            refine lv_ior C.1 C.2.1 dX7_flagsBehind_84 ?_
            cases hf
            exact x_iret C hr hH dX7_flagsBehind_85
          · have hf := (if_neg q5).symm.trans hf
            by_cases q6 : (I i 1) = (5 : Int32)
            · have hf := (if_pos q6).symm.trans hf
              refine lv_tableIn (tgt := 86) (off := 82) C.1 C.2.1 dX7_flagsBehind_4 (by rw [q6]; decide) (by rw [q6]; decide) (by rw [q6]; decide) (by decide) ?_
              refine lv_iload_n C.1 C.2.1 dX7_flagsBehind_86 rfl (lv_at hl 1 rfl) ?_
              refine lv_bipush (v := (8 : Int32)) C.1 C.2.1 dX7_flagsBehind_87 (by decide) ?_
              refine lv_ior C.1 C.2.1 dX7_flagsBehind_89 ?_
              cases hf
              exact x_iret C hr hH dX7_flagsBehind_90
            · have hf := (if_neg q6).symm.trans hf
              by_cases q7 : (I i 1) = (8 : Int32)
              · have hf := (if_pos q7).symm.trans hf
                refine lv_tableIn (tgt := 91) (off := 87) C.1 C.2.1 dX7_flagsBehind_4 (by rw [q7]; decide) (by rw [q7]; decide) (by rw [q7]; decide) (by decide) ?_
                refine lv_iload_n C.1 C.2.1 dX7_flagsBehind_91 rfl (lv_at hl 1 rfl) ?_
                refine lv_bipush (v := (-2 : Int32)) C.1 C.2.1 dX7_flagsBehind_92 (by decide) ?_
                refine lv_iand C.1 C.2.1 dX7_flagsBehind_94 ?_
                refine lv_bipush (v := (8 : Int32)) C.1 C.2.1 dX7_flagsBehind_95 (by decide) ?_
                refine lv_ior C.1 C.2.1 dX7_flagsBehind_97 ?_
                cases hf
                exact x_iret C hr hH dX7_flagsBehind_98
              · have hf := (if_neg q7).symm.trans hf
                by_cases q8 : (I i 1) = (9 : Int32)
                · have hf := (if_pos q8).symm.trans hf
                  refine lv_tableIn (tgt := 65) (off := 61) C.1 C.2.1 dX7_flagsBehind_4 (by rw [q8]; decide) (by rw [q8]; decide) (by rw [q8]; decide) (by decide) ?_
                  refine lv_iload_n C.1 C.2.1 dX7_flagsBehind_65 rfl (lv_at hl 1 rfl) ?_
                  refine lv_bipush (v := (-2 : Int32)) C.1 C.2.1 dX7_flagsBehind_66 (by decide) ?_
                  refine lv_iand C.1 C.2.1 dX7_flagsBehind_68 ?_
                  cases hf
                  exact x_iret C hr hH dX7_flagsBehind_69
                · have hf := (if_neg q8).symm.trans hf
                  have q1' := ne_toInt (z := 0) (by decide) q1
                  have q2' := ne_toInt (z := 1) (by decide) q2
                  have q3' := ne_toInt (z := 2) (by decide) q3
                  have q4' := ne_toInt (z := 3) (by decide) q4
                  have q5' := ne_toInt (z := 4) (by decide) q5
                  have q6' := ne_toInt (z := 5) (by decide) q6
                  have q7' := ne_toInt (z := 8) (by decide) q7
                  have q8' := ne_toInt (z := 9) (by decide) q8
                  refine x_tblD (tgt := 99) C.1 C.2.1 dX7_flagsBehind_4 ?_ (by decide) ?_
                  · by_cases hlo : (I i 1).toInt < 0
                    · exact Or.inl (Or.inl hlo)
                    · by_cases hhi : 9 < (I i 1).toInt
                      · exact Or.inl (Or.inr hhi)
                      · refine Or.inr ⟨hlo, hhi, ?_⟩
                        have hv : (I i 1).toInt = 6 ∨ (I i 1).toInt = 7 := by omega
                        rcases hv with hv | hv <;> (rw [hv]; decide)
                  · refine lv_iload_n C.1 C.2.1 dX7_flagsBehind_99 rfl (lv_at hl 1 rfl) ?_
                    cases hf
                    exact x_iret C hr hH dX7_flagsBehind_100
def f_X7_hasFailed (I : Mem) (i : Nat) (p0 : Int32) : Option (Bool × Mem) := if (I i 5) = 0 then ((f_X9_passes I p0 (I i 2) (I i 3)).bind fun q1 => (if (b2i q1.1) = 0 then (zraw ((st q1.2 i 5 (1 : Int32)) i 5) (st q1.2 i 5 (1 : Int32))) else (zraw ((st q1.2 i 5 (0 : Int32)) i 5) (st q1.2 i 5 (0 : Int32))))) else (zraw ((st I i 5 (1 : Int32)) i 5) (st I i 5 (1 : Int32)))
set_option maxHeartbeats 4000000 in
set_option maxRecDepth 100000 in
theorem c_X7_hasFailed (l : Launch) (G : Gx) (I : Mem) (i : Nat) (p0 : Int32) (hi : kd i = 7) {res : Bool} {J : Mem} (hf : f_X7_hasFailed I i p0 = some (res, J)) : Mi l yX7_hasFailed (.code yX7_hasFailed cX7_hasFailed 2 (some .boolean)) 1 22 G I [.ref (G.2.1 i), .int p0] (b2i res) J := by
  refine Mi.of (by decide +kernel) (Nat.le_of_ble_eq_true rfl) (fun p e s m below meth c ls C hr hH hl => ?_)
  have hl : lv_has ls 2 [(0, .ref (G.2.1 i)), (1, .int p0)] := hl
  have hf : (if (I i 5) = 0 then ((f_X9_passes I p0 (I i 2) (I i 3)).bind fun q1 => (if (b2i q1.1) = 0 then (zraw ((st q1.2 i 5 (1 : Int32)) i 5) (st q1.2 i 5 (1 : Int32))) else (zraw ((st q1.2 i 5 (0 : Int32)) i 5) (st q1.2 i 5 (0 : Int32))))) else (zraw ((st I i 5 (1 : Int32)) i 5) (st I i 5 (1 : Int32)))) = _ := hf
  refine lv_aload_n C.1 C.2.1 dX7_hasFailed_0 rfl (lv_at hl 0 rfl) ?_
  refine lv_aload_n C.1 C.2.1 dX7_hasFailed_1 rfl (lv_at hl 0 rfl) ?_
  refine g_X7_5 C hH hi tw_155 dX7_hasFailed_2 ?_
  refine lv_if_ne (tgt := 23) C.1 C.2.1 dX7_hasFailed_5 (by decide) (fun q3 => ?_) (fun q3 => ?_)
  · have hf := (if_neg q3).symm.trans hf
    refine lv_iconst (v := (1 : Int32)) C.1 C.2.1 dX7_hasFailed_23 (by decide) ?_
    refine lv_goto (tgt := 28) C.1 C.2.1 dX7_hasFailed_24 (by decide) ?_
    refine p_X7_5 C hH hi ⟨rfl, rfl⟩ tw_155 dX7_hasFailed_28 (fun H locs hH => ?_)
    refine lv_aload_n C.1 C.2.1 dX7_hasFailed_31 rfl (lv_at hl 0 rfl) ?_
    refine g_X7_5 C hH hi tw_155 dX7_hasFailed_32 ?_
    obtain ⟨hz, rfl⟩ := zraw_eq hf
    exact x_zret C hr hH hz dX7_hasFailed_35
  · have hf := (if_pos q3).symm.trans hf
    refine lv_iload_n C.1 C.2.1 dX7_hasFailed_8 rfl (lv_at hl 1 rfl) ?_
    refine lv_aload_n C.1 C.2.1 dX7_hasFailed_9 rfl (lv_at hl 0 rfl) ?_
    refine g_X7_2 C hH hi tw_147 dX7_hasFailed_10 ?_
    refine lv_aload_n C.1 C.2.1 dX7_hasFailed_13 rfl (lv_at hl 0 rfl) ?_
    refine g_X7_3 C hH hi tw_148 dX7_hasFailed_14 ?_
    obtain ⟨q1, hc, hf⟩ := Option.bind_eq_some_iff.mp hf
    refine x_sNi (n := 3) C hH (c_X9_passes l G I p0 (I i 2) (I i 3) hc) tw_616 tw_614 tw_615 tw_47 (by decide +kernel) ⟨Nat.le_of_ble_eq_true rfl, Nat.le_of_ble_eq_true rfl⟩ rfl hl.1 rfl (Nat.le_of_ble_eq_true rfl) ⟨Nat.le_of_ble_eq_true rfl, Nat.le_of_ble_eq_true rfl⟩ dX7_hasFailed_17 (fun H locs hH => ?_)
    refine lv_if_ne (tgt := 27) C.1 C.2.1 dX7_hasFailed_20 (by decide) (fun q2 => ?_) (fun q2 => ?_)
    · have hf := (if_neg q2).symm.trans hf
      refine lv_iconst (v := (0 : Int32)) C.1 C.2.1 dX7_hasFailed_27 (by decide) ?_
      refine p_X7_5 C hH hi ⟨rfl, rfl⟩ tw_155 dX7_hasFailed_28 (fun H locs hH => ?_)
      refine lv_aload_n C.1 C.2.1 dX7_hasFailed_31 rfl (lv_at hl 0 rfl) ?_
      refine g_X7_5 C hH hi tw_155 dX7_hasFailed_32 ?_
      obtain ⟨hz, rfl⟩ := zraw_eq hf
      exact x_zret C hr hH hz dX7_hasFailed_35
    · have hf := (if_pos q2).symm.trans hf
      refine lv_iconst (v := (1 : Int32)) C.1 C.2.1 dX7_hasFailed_23 (by decide) ?_
      refine lv_goto (tgt := 28) C.1 C.2.1 dX7_hasFailed_24 (by decide) ?_
      refine p_X7_5 C hH hi ⟨rfl, rfl⟩ tw_155 dX7_hasFailed_28 (fun H locs hH => ?_)
      refine lv_aload_n C.1 C.2.1 dX7_hasFailed_31 rfl (lv_at hl 0 rfl) ?_
      refine g_X7_5 C hH hi tw_155 dX7_hasFailed_32 ?_
      obtain ⟨hz, rfl⟩ := zraw_eq hf
      exact x_zret C hr hH hz dX7_hasFailed_35
def f_X7_letsOn (I : Mem) (i : Nat) (p0 : Int32) : Option (Bool × Mem) := if (I i 1) = (1 : Int32) then ((f_X9_passes I p0 (I i 2) (I i 3)).bind fun q1 => (some (q1.1, q1.2))) else (if (I i 1) = (3 : Int32) then ((f_X5_insertIfNew I (i + 1) p0).bind fun q3 => (some (q3.1, q3.2))) else (if (I i 1) = (4 : Int32) then ((f_X5_insertAscending I (i + 1) p0).bind fun q5 => (some (false, q5))) else (if (I i 1) = (5 : Int32) then (if (I i 3) < (I i 4) then (some (false, I)) else (some (true, I))) else (if (I i 1) = (6 : Int32) then (if (I i 4) ≤ (I i 3) then (some (false, I)) else (some (true, I))) else (if (I i 1) = (8 : Int32) then ((f_X7_hasFailed I i p0).bind fun q11 => (if (b2i q11.1) = 0 then (some (true, q11.2)) else (some (false, q11.2)))) else (if (I i 1) = (9 : Int32) then ((f_X7_hasFailed I i p0).bind fun q14 => (some (q14.1, q14.2))) else (some (true, I))))))))
set_option maxHeartbeats 4000000 in
set_option maxRecDepth 100000 in
theorem c_X7_letsOn (l : Launch) (G : Gx) (I : Mem) (i : Nat) (p0 : Int32) (hi : kd i = 7) {res : Bool} {J : Mem} (hf : f_X7_letsOn I i p0 = some (res, J)) : Mi l yX7_letsOn (.code yX7_letsOn cX7_letsOn 2 (some .boolean)) 3 104 G I [.ref (G.2.1 i), .int p0] (b2i res) J := by
  refine Mi.of (by decide +kernel) (Nat.le_of_ble_eq_true rfl) (fun p e s m below meth c ls C hr hH hl => ?_)
  have hl : lv_has ls 2 [(0, .ref (G.2.1 i)), (1, .int p0)] := hl
  have hf : (if (I i 1) = (1 : Int32) then ((f_X9_passes I p0 (I i 2) (I i 3)).bind fun q1 => (some (q1.1, q1.2))) else (if (I i 1) = (3 : Int32) then ((f_X5_insertIfNew I (i + 1) p0).bind fun q3 => (some (q3.1, q3.2))) else (if (I i 1) = (4 : Int32) then ((f_X5_insertAscending I (i + 1) p0).bind fun q5 => (some (false, q5))) else (if (I i 1) = (5 : Int32) then (if (I i 3) < (I i 4) then (some (false, I)) else (some (true, I))) else (if (I i 1) = (6 : Int32) then (if (I i 4) ≤ (I i 3) then (some (false, I)) else (some (true, I))) else (if (I i 1) = (8 : Int32) then ((f_X7_hasFailed I i p0).bind fun q11 => (if (b2i q11.1) = 0 then (some (true, q11.2)) else (some (false, q11.2)))) else (if (I i 1) = (9 : Int32) then ((f_X7_hasFailed I i p0).bind fun q14 => (some (q14.1, q14.2))) else (some (true, I))))))))) = _ := hf
  refine lv_aload_n C.1 C.2.1 dX7_letsOn_0 rfl (lv_at hl 0 rfl) ?_
  refine g_X7_1 C hH hi tw_144 dX7_letsOn_1 ?_
  by_cases q2 : (I i 1) = (1 : Int32)
  · have hf := (if_pos q2).symm.trans hf
    refine lv_tableIn (tgt := 56) (off := 52) C.1 C.2.1 dX7_letsOn_4 (by rw [q2]; decide) (by rw [q2]; decide) (by rw [q2]; decide) (by decide) ?_
    refine lv_iload_n C.1 C.2.1 dX7_letsOn_56 rfl (lv_at hl 1 rfl) ?_
    refine lv_aload_n C.1 C.2.1 dX7_letsOn_57 rfl (lv_at hl 0 rfl) ?_
    refine g_X7_2 C hH hi tw_147 dX7_letsOn_58 ?_
    refine lv_aload_n C.1 C.2.1 dX7_letsOn_61 rfl (lv_at hl 0 rfl) ?_
    refine g_X7_3 C hH hi tw_148 dX7_letsOn_62 ?_
    obtain ⟨q1, hc, hf⟩ := Option.bind_eq_some_iff.mp hf
    refine x_sNi (n := 3) C hH (c_X9_passes l G I p0 (I i 2) (I i 3) hc) tw_616 tw_614 tw_615 tw_47 (by decide +kernel) ⟨Nat.le_of_ble_eq_true rfl, Nat.le_of_ble_eq_true rfl⟩ rfl hl.1 rfl (Nat.le_of_ble_eq_true rfl) ⟨Nat.le_of_ble_eq_true rfl, Nat.le_of_ble_eq_true rfl⟩ dX7_letsOn_65 (fun H locs hH => ?_)
    cases hf
    exact x_zret C hr hH rfl dX7_letsOn_68
  · have hf := (if_neg q2).symm.trans hf
    by_cases q4 : (I i 1) = (3 : Int32)
    · have hf := (if_pos q4).symm.trans hf
      refine lv_tableIn (tgt := 69) (off := 65) C.1 C.2.1 dX7_letsOn_4 (by rw [q4]; decide) (by rw [q4]; decide) (by rw [q4]; decide) (by decide) ?_
      refine lv_aload_n C.1 C.2.1 dX7_letsOn_69 rfl (lv_at hl 0 rfl) ?_
      refine g_X7_0 C hH hi tw_141 dX7_letsOn_70 ?_
      refine lv_iload_n C.1 C.2.1 dX7_letsOn_73 rfl (lv_at hl 1 rfl) ?_
      obtain ⟨q3, hc, hf⟩ := Option.bind_eq_some_iff.mp hf
      refine x_ci (n := 1) C hH (c_X5_insertIfNew l G I (i + 1) p0 (kd_held hi) hc) (kd_lt (kd_held hi) (by decide)) (cE_5 (kd_held hi)) rfl tw_620 tw_617 tw_618 tw_619 tw_48 (by decide +kernel) ⟨Nat.le_of_ble_eq_true rfl, Nat.le_of_ble_eq_true rfl⟩ rfl hl.1 rfl (Nat.le_of_ble_eq_true rfl) ⟨Nat.le_of_ble_eq_true rfl, Nat.le_of_ble_eq_true rfl⟩ dX7_letsOn_74 (fun H locs hH => ?_)
      cases hf
      exact x_zret C hr hH rfl dX7_letsOn_77
    · have hf := (if_neg q4).symm.trans hf
      by_cases q6 : (I i 1) = (4 : Int32)
      · have hf := (if_pos q6).symm.trans hf
        refine lv_tableIn (tgt := 78) (off := 74) C.1 C.2.1 dX7_letsOn_4 (by rw [q6]; decide) (by rw [q6]; decide) (by rw [q6]; decide) (by decide) ?_
        refine lv_aload_n C.1 C.2.1 dX7_letsOn_78 rfl (lv_at hl 0 rfl) ?_
        refine g_X7_0 C hH hi tw_141 dX7_letsOn_79 ?_
        refine lv_iload_n C.1 C.2.1 dX7_letsOn_82 rfl (lv_at hl 1 rfl) ?_
        obtain ⟨q5, hc, hf⟩ := Option.bind_eq_some_iff.mp hf
        refine x_cv (n := 1) C hH (c_X5_insertAscending l G I (i + 1) p0 (kd_held hi) hc) (kd_lt (kd_held hi) (by decide)) (cE_5 (kd_held hi)) rfl tw_628 tw_625 tw_626 tw_627 tw_48 (by decide +kernel) ⟨Nat.le_of_ble_eq_true rfl, Nat.le_of_ble_eq_true rfl⟩ rfl hl.1 rfl (Nat.le_of_ble_eq_true rfl) ⟨Nat.le_of_ble_eq_true rfl, Nat.le_of_ble_eq_true rfl⟩ dX7_letsOn_83 (fun H locs hH => ?_)
        refine lv_iconst (v := (0 : Int32)) C.1 C.2.1 dX7_letsOn_86 (by decide) ?_
        cases hf
        exact x_zret C hr hH rfl dX7_letsOn_87
      · have hf := (if_neg q6).symm.trans hf
        by_cases q8 : (I i 1) = (5 : Int32)
        · have hf := (if_pos q8).symm.trans hf
          refine lv_tableIn (tgt := 88) (off := 84) C.1 C.2.1 dX7_letsOn_4 (by rw [q8]; decide) (by rw [q8]; decide) (by rw [q8]; decide) (by decide) ?_
          refine lv_aload_n C.1 C.2.1 dX7_letsOn_88 rfl (lv_at hl 0 rfl) ?_
          refine g_X7_4 C hH hi tw_151 dX7_letsOn_89 ?_
          refine lv_aload_n C.1 C.2.1 dX7_letsOn_92 rfl (lv_at hl 0 rfl) ?_
          refine g_X7_3 C hH hi tw_148 dX7_letsOn_93 ?_
          refine lv_icmp_gt (tgt := 103) C.1 C.2.1 dX7_letsOn_96 (by decide) (fun q7 => ?_) (fun q7 => ?_)
          · have hf := (if_pos q7).symm.trans hf
            refine lv_iconst (v := (0 : Int32)) C.1 C.2.1 dX7_letsOn_103 (by decide) ?_
            cases hf
            exact x_zret C hr hH rfl dX7_letsOn_104
          · have hf := (if_neg q7).symm.trans hf
            refine lv_iconst (v := (1 : Int32)) C.1 C.2.1 dX7_letsOn_99 (by decide) ?_
            refine lv_goto (tgt := 104) C.1 C.2.1 dX7_letsOn_100 (by decide) ?_
            cases hf
            exact x_zret C hr hH rfl dX7_letsOn_104
        · have hf := (if_neg q8).symm.trans hf
          by_cases q10 : (I i 1) = (6 : Int32)
          · have hf := (if_pos q10).symm.trans hf
            refine lv_tableIn (tgt := 105) (off := 101) C.1 C.2.1 dX7_letsOn_4 (by rw [q10]; decide) (by rw [q10]; decide) (by rw [q10]; decide) (by decide) ?_
            refine lv_aload_n C.1 C.2.1 dX7_letsOn_105 rfl (lv_at hl 0 rfl) ?_
            refine g_X7_4 C hH hi tw_151 dX7_letsOn_106 ?_
            refine lv_aload_n C.1 C.2.1 dX7_letsOn_109 rfl (lv_at hl 0 rfl) ?_
            refine g_X7_3 C hH hi tw_148 dX7_letsOn_110 ?_
            refine lv_icmp_le (tgt := 120) C.1 C.2.1 dX7_letsOn_113 (by decide) (fun q9 => ?_) (fun q9 => ?_)
            · have hf := (if_pos q9).symm.trans hf
              refine lv_iconst (v := (0 : Int32)) C.1 C.2.1 dX7_letsOn_120 (by decide) ?_
              cases hf
              exact x_zret C hr hH rfl dX7_letsOn_121
            · have hf := (if_neg q9).symm.trans hf
              refine lv_iconst (v := (1 : Int32)) C.1 C.2.1 dX7_letsOn_116 (by decide) ?_
              refine lv_goto (tgt := 121) C.1 C.2.1 dX7_letsOn_117 (by decide) ?_
              cases hf
              exact x_zret C hr hH rfl dX7_letsOn_121
          · have hf := (if_neg q10).symm.trans hf
            by_cases q13 : (I i 1) = (8 : Int32)
            · have hf := (if_pos q13).symm.trans hf
              refine lv_tableIn (tgt := 122) (off := 118) C.1 C.2.1 dX7_letsOn_4 (by rw [q13]; decide) (by rw [q13]; decide) (by rw [q13]; decide) (by decide) ?_
              refine lv_aload_n C.1 C.2.1 dX7_letsOn_122 rfl (lv_at hl 0 rfl) ?_
              refine lv_iload_n C.1 C.2.1 dX7_letsOn_123 rfl (lv_at hl 1 rfl) ?_
              obtain ⟨q11, hc, hf⟩ := Option.bind_eq_some_iff.mp hf
              refine x_ci (n := 1) C hH (c_X7_hasFailed l G I i p0 hi hc) (kd_lt hi (by decide)) (cE_7 hi) rfl tw_632 tw_629 tw_631 tw_12 tw_51 (by decide +kernel) ⟨Nat.le_of_ble_eq_true rfl, Nat.le_of_ble_eq_true rfl⟩ rfl hl.1 rfl (Nat.le_of_ble_eq_true rfl) ⟨Nat.le_of_ble_eq_true rfl, Nat.le_of_ble_eq_true rfl⟩ dX7_letsOn_124 (fun H locs hH => ?_)
              refine lv_if_ne (tgt := 134) C.1 C.2.1 dX7_letsOn_127 (by decide) (fun q12 => ?_) (fun q12 => ?_)
              · have hf := (if_neg q12).symm.trans hf
                refine lv_iconst (v := (0 : Int32)) C.1 C.2.1 dX7_letsOn_134 (by decide) ?_
                cases hf
                exact x_zret C hr hH rfl dX7_letsOn_135
              · have hf := (if_pos q12).symm.trans hf
                refine lv_iconst (v := (1 : Int32)) C.1 C.2.1 dX7_letsOn_130 (by decide) ?_
                refine lv_goto (tgt := 135) C.1 C.2.1 dX7_letsOn_131 (by decide) ?_
                cases hf
                exact x_zret C hr hH rfl dX7_letsOn_135
            · have hf := (if_neg q13).symm.trans hf
              by_cases q15 : (I i 1) = (9 : Int32)
              · have hf := (if_pos q15).symm.trans hf
                refine lv_tableIn (tgt := 136) (off := 132) C.1 C.2.1 dX7_letsOn_4 (by rw [q15]; decide) (by rw [q15]; decide) (by rw [q15]; decide) (by decide) ?_
                refine lv_aload_n C.1 C.2.1 dX7_letsOn_136 rfl (lv_at hl 0 rfl) ?_
                refine lv_iload_n C.1 C.2.1 dX7_letsOn_137 rfl (lv_at hl 1 rfl) ?_
                obtain ⟨q14, hc, hf⟩ := Option.bind_eq_some_iff.mp hf
                refine x_ci (n := 1) C hH (c_X7_hasFailed l G I i p0 hi hc) (kd_lt hi (by decide)) (cE_7 hi) rfl tw_632 tw_629 tw_631 tw_12 tw_51 (by decide +kernel) ⟨Nat.le_of_ble_eq_true rfl, Nat.le_of_ble_eq_true rfl⟩ rfl hl.1 rfl (Nat.le_of_ble_eq_true rfl) ⟨Nat.le_of_ble_eq_true rfl, Nat.le_of_ble_eq_true rfl⟩ dX7_letsOn_138 (fun H locs hH => ?_)
                cases hf
                exact x_zret C hr hH rfl dX7_letsOn_141
              · have hf := (if_neg q15).symm.trans hf
                have q2' := ne_toInt (z := 1) (by decide) q2
                have q4' := ne_toInt (z := 3) (by decide) q4
                have q6' := ne_toInt (z := 4) (by decide) q6
                have q8' := ne_toInt (z := 5) (by decide) q8
                have q10' := ne_toInt (z := 6) (by decide) q10
                have q13' := ne_toInt (z := 8) (by decide) q13
                have q15' := ne_toInt (z := 9) (by decide) q15
                refine x_tblD (tgt := 142) C.1 C.2.1 dX7_letsOn_4 ?_ (by decide) ?_
                · by_cases hlo : (I i 1).toInt < 1
                  · exact Or.inl (Or.inl hlo)
                  · by_cases hhi : 9 < (I i 1).toInt
                    · exact Or.inl (Or.inr hhi)
                    · refine Or.inr ⟨hlo, hhi, ?_⟩
                      have hv : (I i 1).toInt = 2 ∨ (I i 1).toInt = 7 := by omega
                      rcases hv with hv | hv <;> (rw [hv]; decide)
                · refine lv_iconst (v := (1 : Int32)) C.1 C.2.1 dX7_letsOn_142 (by decide) ?_
                  cases hf
                  exact x_zret C hr hH rfl dX7_letsOn_143
