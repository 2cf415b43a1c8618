theorem iae_ise : ¬ "java/lang/IllegalArgumentException" = "java/lang/IllegalStateException" := by decide
theorem inR_iff {v l h : Int32} : inR v l h = true ↔ ¬ v < l ∧ ¬ h < v := by
  unfold inR
  by_cases a : v < l
  · simp [a]
  · by_cases b : h < v
    · simp [a, b]
    · simp [a, b]
theorem source_step {I : Mem} (k a b c : Int32) (h : Idle I) : ∃ cd J K, f_L_source I k a b c = some (cd, J) ∧ f_X10_source J k a b c = some K ∧ K 45 0 = cd ∧ Idle K := by
  have h0 := h
  obtain ⟨⟨B, hB⟩, ⟨th, us, N, hL⟩, ⟨G, Ks, hK⟩, ⟨gr, cc, hP⟩, hD⟩ := h
  have hbad : f_X10_source I k a b c = f_X10_source_J30 k a b c I k a b c 1 → f_L_source I k a b c = some (1, I) → ∃ cd J K, f_L_source I k a b c = some (cd, J) ∧ f_X10_source J k a b c = some K ∧ K 45 0 = cd ∧ Idle K := by
    intro q1 q2
    refine ⟨1, I, st I 45 0 1, q2, ?_, st_s, h0.same (fun c z _ => st_ne z) (fun b z => st_k z)⟩
    rw [q1]
    unfold f_X10_source_J30
    rw [st_s, if_neg (by decide)]
  have hgood : inR k 0 2 = true → (k = 1 → ∃ m, m ≤ 40 ∧ b = nI m) → (∀ J, f_X10_source J k a b c = f_X10_source_J30 k a b c J k a b c 0) → f_L_source I k a b c = some (0, (st (st (st (st (st (st (st (st I 3 2 0) 3 3 1) 3 4 0) 4 1 k) 4 2 b) 4 3 c) 4 4 0) 4 5 a)) → ∃ cd J K, f_L_source I k a b c = some (cd, J) ∧ f_X10_source J k a b c = some K ∧ K 45 0 = cd ∧ Idle K := by
    intro r1 r2 q1 q2
    generalize hM : (st (st (st (st (st (st (st (st I 3 2 0) 3 3 1) 3 4 0) 4 1 k) 4 2 b) 4 3 c) 4 4 0) 4 5 a) = M at q2
    have mo : ∀ c, c ≠ 3 → c ≠ 4 → M c = I c := fun c z1 z2 => by rw [← hM, st_ne z2, st_ne z2, st_ne z2, st_ne z2, st_ne z2, st_ne z1, st_ne z1, st_ne z1]
    generalize hK2 : (st (st (st (st (st (st (st (st M 45 0 (0 : Int32)) 45 3 (1 : Int32)) 45 4 (0 : Int32)) 45 5 k) 45 6 a) 45 7 b) 45 8 c) 45 9 (0 : Int32)) = K
    have ko : ∀ c, c ≠ 45 → K c = M c := fun c z => by rw [← hK2, st_ne z, st_ne z, st_ne z, st_ne z, st_ne z, st_ne z, st_ne z, st_ne z]
    have kb : ∀ b, b ≠ 0 → (b < 3 ∨ 9 < b) → K 45 b = I 45 b := fun b z z2 => by rw [← hK2, st_k (by omega), st_k (by omega), st_k (by omega), st_k (by omega), st_k (by omega), st_k (by omega), st_k (by omega), st_k z, mo 45 (by decide) (by decide)]
    have ki : ∀ c, c ≠ 3 → c ≠ 4 → c ≠ 45 → K c = I c := fun c z1 z2 z3 => by rw [ko c z3, mo c z1 z2]
    refine ⟨0, M, K, q2, ?_, ?_, ⟨⟨B, hB.of (ki 1 (by decide) (by decide) (by decide)) (ki 2 (by decide) (by decide) (by decide)) (kb 2 (by decide) (by omega)) (ki 46 (by decide) (by decide) (by decide))⟩, ⟨true, false, 0, ?_⟩, ⟨G, Ks, hK.of (ki 24 (by decide) (by decide) (by decide)) (fun c q1 q2 => ki c (by omega) (by omega) (by omega)) (kb 30 (by decide) (by omega)) (ki 58 (by decide) (by decide) (by decide))⟩, ⟨gr, cc, hP.of (fun b q => by rw [ki 35 (by decide) (by decide) (by decide)]) (fun b q => kb b (by omega) (by omega))⟩, hD.of (fun b q => by rw [ki 35 (by decide) (by decide) (by decide)]) (fun w hw => by rw [ki (37 + 2 * w) (by omega) (by omega) (by omega)]) (ki 64 (by decide) (by decide) (by decide))⟩⟩
    · rw [q1]
      unfold f_X10_source_J30
      rw [st_s, if_pos rfl, hK2]
    · rw [← hK2]; simp [st_at]
    · have k3 : K 3 = M 3 := ko 3 (by decide)
      have k4 : K 4 = M 4 := ko 4 (by decide)
      unfold IdL
      rw [k3, k4, ← hM, ← hK2]
      simp only [st_at]
      simp
      refine ⟨rfl, rfl, ?_, r2, rfl⟩
      obtain ⟨m, m1, m2, rfl⟩ := inR_nI (a := 0) (b := 2) (by decide) (by decide) r1
      have : m = 2 ∨ m = 0 ∨ m = 1 := by omega
      rcases this with rfl | rfl | rfl
      · exact .inl rfl
      · exact .inr (.inl rfl)
      · exact .inr (.inr rfl)
  by_cases q : inR k 0 2 = true
  · have q' := inR_iff.mp q
    by_cases q1 : k = 1
    · by_cases q2 : inR b 0 40 = true
      · have q2' := inR_iff.mp q2
        refine hgood q (fun _ => ?_) (fun J => ?_) ?_
        · obtain ⟨m, m1, m2, m3⟩ := inR_nI (a := 0) (b := 40) (by decide) (by decide) q2
          exact ⟨m, m2, m3⟩
        · unfold f_X10_source f_X10_source_J29
          rw [if_neg q'.1, if_neg q'.2, if_pos q1, if_neg q2'.1, if_pos (le_of_nlt32 q2'.2)]
        · unfold f_L_source f_X9_source
          rw [within_eq, q]
          simp only [Option.bind_some, b2i_0, Bool.true_eq_false, if_false, if_pos q1, within_eq, q2]
          rfl
      · have q2f : inR b 0 40 = false := by simpa using q2
        refine hbad ?_ ?_
        · unfold f_X10_source f_X10_source_J25
          rw [if_neg q'.1, if_neg q'.2, if_pos q1]
          by_cases z : b < 0
          · rw [if_pos z]
          · rw [if_neg z, if_neg]
            intro z2
            exact q2 (inR_iff.mpr ⟨z, nlt_of_le32 z2⟩)
        · unfold f_L_source f_X9_source
          rw [within_eq, q]
          simp only [Option.bind_some, b2i_0, Bool.true_eq_false, if_false, if_pos q1, within_eq, q2f, if_true, thV]
    · refine hgood q (fun z => absurd z q1) (fun J => ?_) ?_
      · unfold f_X10_source f_X10_source_J29
        rw [if_neg q'.1, if_neg q'.2, if_neg q1]
      · unfold f_L_source f_X9_source
        rw [within_eq, q]
        simp only [Option.bind_some, b2i_0, Bool.true_eq_false, if_false, if_neg q1]
        rfl
  · have qf : inR k 0 2 = false := by simpa using q
    refine hbad ?_ ?_
    · unfold f_X10_source f_X10_source_J25
      by_cases z : k < 0
      · rw [if_pos z]
      · rw [if_neg z, if_pos]
        refine Classical.byContradiction (fun z2 => q (inR_iff.mpr ⟨z, z2⟩))
    · unfold f_L_source f_X9_source
      rw [within_eq, qf]
      simp only [Option.bind_some, b2i_0, if_true, thV]
theorem pool_step {I : Mem} (k a b : Int32) (h : Idle I) : ∃ cd J K, f_L_pool I k a b = some (cd, J) ∧ f_X10_pool J k a b = some K ∧ K 45 0 = cd ∧ Idle K := by
  have h0 := h
  obtain ⟨⟨B, hB⟩, ⟨th, us, N, hL⟩, ⟨G, Ks, hK⟩, ⟨gr, cc, hP⟩, hD⟩ := h
  have hbad : f_X10_pool I k a b = f_X10_pool_J27 k a b I k a b 1 → f_L_pool I k a b = some (1, I) → ∃ cd J K, f_L_pool I k a b = some (cd, J) ∧ f_X10_pool J k a b = some K ∧ K 45 0 = cd ∧ Idle K := by
    intro q1 q2
    refine ⟨1, I, st I 45 0 1, q2, ?_, st_s, h0.same (fun c z _ => st_ne z) (fun b z => st_k z)⟩
    rw [q1]
    unfold f_X10_pool_J27
    rw [st_s, if_neg (by decide)]
  by_cases q : inR k 1 20 = true
  · have q' := inR_iff.mp q
    by_cases q2 : inR a 1 4 = true
    · have q2' := inR_iff.mp q2
      obtain ⟨gr2, g1, g2, g3⟩ := inR_nI (a := 1) (b := 20) (by decide) (by decide) q
      obtain ⟨c2, c1, c3, c4⟩ := inR_nI (a := 1) (b := 4) (by decide) (by decide) q2
      generalize hM : (st (st (st I 35 1 k) 35 2 a) 35 3 b) = M
      have mo : ∀ c, c ≠ 35 → M c = I c := fun c z => by rw [← hM, st_ne z, st_ne z, st_ne z]
      generalize hK2 : (st (st (st (st M 45 0 (0 : Int32)) 45 36 k) 45 37 a) 45 38 b) = K
      have ko : ∀ c, c ≠ 45 → K c = M c := fun c z => by rw [← hK2, st_ne z, st_ne z, st_ne z, st_ne z]
      have kb : ∀ b, b ≠ 0 → b < 36 → K 45 b = I 45 b := fun b z z2 => by rw [← hK2, st_k (by omega), st_k (by omega), st_k (by omega), st_k z, mo 45 (by decide)]
      have ki : ∀ c, c ≠ 35 → c ≠ 45 → K c = I c := fun c z1 z3 => by rw [ko c z3, mo c z1]
      refine ⟨0, M, K, ?_, ?_, ?_, ⟨⟨B, hB.of (ki 1 (by decide) (by decide)) (ki 2 (by decide) (by decide)) (kb 2 (by decide) (by omega)) (ki 46 (by decide) (by decide))⟩, ⟨th, us, N, hL.of (ki 3 (by decide) (by decide)) (ki 4 (by decide) (by decide)) (fun c q1 q2 => ki c (by omega) (by omega)) (fun b q1 q2 => kb b (by omega) (by omega)) (ki 47 (by decide) (by decide)) (ki 48 (by decide) (by decide)) (ki 49 (by decide) (by decide)) (ki 50 (by decide) (by decide))⟩, ⟨G, Ks, hK.of (ki 24 (by decide) (by decide)) (fun c q1 q2 => ki c (by omega) (by omega)) (kb 30 (by decide) (by omega)) (ki 58 (by decide) (by decide))⟩, ⟨gr2, c2, g1, g2, c1, c3, ?_, ?_, ?_, ?_, ?_⟩, hD.of (fun b q => ?_) (fun w hw => by rw [ki (37 + 2 * w) (by omega) (by omega)]) (ki 64 (by decide) (by decide))⟩⟩
      · unfold f_L_pool f_X9_pool f_X0_become
        simp only [within_eq, q, q2, Option.bind_some, b2i_0, Bool.true_eq_false, if_false, thV, hM]
      · unfold f_X10_pool f_X10_pool_J27
        rw [if_neg q'.1, if_neg q'.2, if_neg q2'.1, if_pos (le_of_nlt32 q2'.2), st_s, if_pos rfl, hK2]
      · rw [← hK2]; simp [st_at]
      · rw [ko 35 (by decide), ← hM, ← g3]; simp [st_at]
      · rw [← hK2, ← g3]; simp [st_at]
      · rw [ko 35 (by decide), ← hM, ← c4]; simp [st_at]
      · rw [← hK2, ← c4]; simp [st_at]
      · rw [ko 35 (by decide), ← hM, ← hK2]; simp [st_at]
      · rw [ko 35 (by decide), ← hM, st_k (by omega), st_k (by omega), st_k (by omega)]
    · have q2f : inR a 1 4 = false := by simpa using q2
      refine hbad ?_ ?_
      · unfold f_X10_pool f_X10_pool_J22
        rw [if_neg q'.1, if_neg q'.2]
        by_cases z : a < 1
        · rw [if_pos z]
        · rw [if_neg z, if_neg]
          intro z2
          exact q2 (inR_iff.mpr ⟨z, nlt_of_le32 z2⟩)
      · unfold f_L_pool f_X9_pool
        simp only [within_eq, q, q2f, Option.bind_some, b2i_0, Bool.true_eq_false, if_false, if_true, thV]
  · have qf : inR k 1 20 = false := by simpa using q
    refine hbad ?_ ?_
    · unfold f_X10_pool f_X10_pool_J22
      by_cases z : k < 1
      · rw [if_pos z]
      · rw [if_neg z, if_pos]
        exact Classical.byContradiction (fun z2 => q (inR_iff.mpr ⟨z, z2⟩))
    · unfold f_L_pool f_X9_pool
      simp only [within_eq, qf, Option.bind_some, b2i_0, if_true, thV]
theorem refuse_eq {I : Mem} {th us : Bool} {N : Nat} (h : IdL I th us N) : f_X9_refuseWithoutOpenLine I = some (if (th && !us) = true then none else some "java/lang/IllegalStateException", I) := by
  unfold f_X9_refuseWithoutOpenLine
  rw [h.1, h.2.2.1]
  cases th <;> cases us <;> rfl
theorem stage_step {I : Mem} (k a n : Int32) (h : Idle I) : ∃ cd r J K, f_L_stage I k a n = some (cd, J) ∧ f_X10_stage J k a n = some (r, K) ∧ StepI cd r K := by
  have h0 := h
  obtain ⟨⟨B, hB⟩, ⟨th, us, N, hL⟩, ⟨G, Ks, hK⟩, ⟨gr, cc, hP⟩, hD⟩ := h
  have hbad : ∀ cd : Int32, ¬ cd = 0 → f_L_stage I k a n = some (cd, I) → f_X10_stage I k a n = some (0, st (st I 45 0 0) 45 0 cd) → ∃ cd r J K, f_L_stage I k a n = some (cd, J) ∧ f_X10_stage J k a n = some (r, K) ∧ StepI cd r K := by
    intro cd hcd q1 q2
    exact ⟨cd, 0, I, _, q1, q2, st_s, fun z => absurd z hcd, h0.same (fun c z _ => by rw [st_ne z, st_ne z]) (fun b z => by rw [st_k z, st_k z])⟩
  have hL0 := hL
  obtain ⟨a1, a2, a3, a4, a5, a6, a7, a8, a9, b1, b2, b3, b4, b5, b6⟩ := hL
  have hopen := refuse_eq hL0
  by_cases o : (th && !us) = true
  · rw [if_pos o] at hopen
    have oth : th = true := by cases th <;> simp_all
    have ous : us = false := by cases us <;> simp_all
    subst oth
    subst ous
    by_cases q6 : N = 6
    · refine hbad 2 (by decide) ?_ ?_
      · unfold f_L_stage f_X9_stage
        rw [hopen]
        simp only [Option.bind_some, thV]
        rw [b3, if_pos (by rw [q6]; rfl)]
        simp only [Option.bind_some, thI, if_neg iae_ise, if_true]
      · unfold f_X10_stage f_X10_refuse
        rw [st_k (show (3 : Nat) ≠ 0 by decide), st_k (show (4 : Nat) ≠ 0 by decide), st_k (show (9 : Nat) ≠ 0 by decide), a2, a4, b4, if_neg (by decide), if_pos (show b2i false = 0 from rfl), if_pos (by rw [q6]; rfl)]
        rfl
    · have n6 : ¬ nI N = 6 := fun z => q6 ((nI_eq (by omega) (by omega)).mp (z.trans (show (6 : Int32) = nI 6 from rfl)))
      by_cases qs : isStageS k a n = true
      · generalize hM1 : (st (st (st (st (st I (6 + 3 * N) 1 k) (6 + 3 * N) 2 a) (6 + 3 * N) 3 n) (6 + 3 * N) 4 (0 : Int32)) (6 + 3 * N) 5 (0 : Int32)) = M1
        have m1o : ∀ c, c ≠ 6 + 3 * N → M1 c = I c := fun c z => by rw [← hM1, st_ne z, st_ne z, st_ne z, st_ne z, st_ne z]
        obtain ⟨M2, g1, g2, g3⟩ := clear_eq (I := M1) (i := 6 + 3 * N + 1)
        have m2s : M2 (6 + 3 * N) = M1 (6 + 3 * N) := g3 _ (by omega) (by omega)
        have m2o : ∀ c, c ≠ 6 + 3 * N → c ≠ 6 + 3 * N + 1 → c ≠ 6 + 3 * N + 2 → M2 c = I c := fun c z1 z2 z3 => by rw [g3 c z2 z3, m1o c z1]
        generalize hM : st (st M2 3 2 (nI (N + 1))) 65 0 (nI (N + 1)) = M
        have hcl : f_L_stage I k a n = some (0, M) := by
          unfold f_L_stage f_X9_stage f_X3_add f_X7_become
          rw [hopen]
          simp only [Option.bind_some, thV, isStage_eq, qs, b2i_0, Bool.true_eq_false, if_false]
          rw [b3, if_neg n6, show (6 : Int32) = nI 6 from rfl, if_neg (nI_ge (by omega) (by omega)), if_pos (inb_nI (show N < ln 5 by show N < 6; omega) (by decide)), nI_clamp (by omega), hM1, g1]
          simp only [Option.bind_some, thI, cl0]
          rw [m2o 3 (by omega) (by omega) (by omega), b3, nI_1, st_s, hM]
        have mo : ∀ c, c ≠ 6 + 3 * N → c ≠ 6 + 3 * N + 1 → c ≠ 6 + 3 * N + 2 → c ≠ 3 → c ≠ 65 → M c = I c := fun c z1 z2 z3 z4 z5 => by rw [← hM, st_ne z5, st_ne z4, m2o c z1 z2 z3]
        have ms : ∀ c, 6 + 3 * N ≤ c → c ≤ 6 + 3 * N + 2 → M c = M2 c := fun c z1 z2 => by rw [← hM, st_ne (by omega), st_ne (by omega)]
        generalize hK2 : st (st (st (st (st (st M 45 0 0) 47 N k) 48 N a) 49 N n) 50 N 0) 45 9 (nI (N + 1)) = K
        have hM45 : M 45 = I 45 := mo 45 (by omega) (by omega) (by omega) (by decide) (by decide)
        have hmod : f_X10_stage M k a n = some (nI (N + 1), K) := by
          unfold f_X10_stage
          rw [st_k (show (3 : Nat) ≠ 0 by decide), st_k (show (4 : Nat) ≠ 0 by decide), st_k (show (9 : Nat) ≠ 0 by decide), hM45, a2, a4, b4, if_neg (by decide), if_pos (show b2i false = 0 from rfl), if_neg n6, isStage_eq']
          simp only [Option.bind_some, qs, b2i_0, Bool.true_eq_false, if_false, st_k (show (9 : Nat) ≠ 0 by decide), st_ne (show (45 : Nat) ≠ 47 by decide), st_ne (show (45 : Nat) ≠ 48 by decide), st_ne (show (45 : Nat) ≠ 49 by decide), st_ne (show (45 : Nat) ≠ 50 by decide), hM45, b4, nI_clamp (show N < 2 ^ 31 by omega), if_pos (inb_nI (show N < ln 47 by show N < 6; omega) (by decide)), if_pos (inb_nI (show N < ln 48 by show N < 6; omega) (by decide)), if_pos (inb_nI (show N < ln 49 by show N < 6; omega) (by decide)), if_pos (inb_nI (show N < ln 50 by show N < 6; omega) (by decide)), nI_1, st_s, hK2]
        have ko : ∀ c, c ≠ 45 → c ≠ 47 → c ≠ 48 → c ≠ 49 → c ≠ 50 → K c = M c := fun c z1 z2 z3 z4 z5 => by rw [← hK2, st_ne z1, st_ne z5, st_ne z4, st_ne z3, st_ne z2, st_ne z1]
        have kb : ∀ b, b ≠ 0 → b ≠ 9 → K 45 b = I 45 b := fun b z1 z2 => by rw [← hK2, st_k z2, st_ne (by decide), st_ne (by decide), st_ne (by decide), st_ne (by decide), st_k z1, hM45]
        have k9 : K 45 9 = nI (N + 1) := by rw [← hK2, st_s]
        have ki : ∀ c, (c < 3 ∨ c = 4 ∨ c = 5 ∨ 24 ≤ c) → c ≠ 45 → c ≠ 47 → c ≠ 48 → c ≠ 49 → c ≠ 50 → c ≠ 65 → K c = I c := fun c z z1 z2 z3 z4 z5 z6 => by rw [ko c z1 z2 z3 z4 z5, mo c (by omega) (by omega) (by omega) (by omega) z6]
        have hN5 : N < 6 := by omega
        refine ⟨0, nI (N + 1), M, K, hcl, hmod, ?_, fun _ => ?_, ⟨⟨B, hB.of (ki 1 (by omega) (by decide) (by decide) (by decide) (by decide) (by decide) (by decide)) (ki 2 (by omega) (by decide) (by decide) (by decide) (by decide) (by decide) (by decide)) (kb 2 (by decide) (by decide)) (ki 46 (by omega) (by decide) (by decide) (by decide) (by decide) (by decide) (by decide))⟩, ⟨true, false, N + 1, ?_⟩, ⟨G, Ks, hK.of (ki 24 (by omega) (by decide) (by decide) (by decide) (by decide) (by decide) (by decide)) (fun c q1 q2 => ki c (by omega) (by omega) (by omega) (by omega) (by omega) (by omega) (by omega)) (kb 30 (by decide) (by decide)) (ki 58 (by omega) (by decide) (by decide) (by decide) (by decide) (by decide) (by decide))⟩, ⟨gr, cc, hP.of (fun b q => by rw [ki 35 (by omega) (by decide) (by decide) (by decide) (by decide) (by decide) (by decide)]) (fun b q => kb b (by omega) (by omega))⟩, hD.of (fun b q => by rw [ki 35 (by omega) (by decide) (by decide) (by decide) (by decide) (by decide) (by decide)]) (fun w hw => by rw [ki (37 + 2 * w) (by omega) (by omega) (by omega) (by omega) (by omega) (by omega) (by omega)]) (ki 64 (by omega) (by decide) (by decide) (by decide) (by decide) (by decide) (by decide))⟩⟩
        · rw [← hK2]; simp [st_at]
        · rw [ko 65 (by decide) (by decide) (by decide) (by decide) (by decide), ← hM, st_s]
        · have k3 : ∀ b, b ≠ 2 → K 3 b = I 3 b := fun b z => by rw [ko 3 (by decide) (by decide) (by decide) (by decide) (by decide), ← hM, st_ne (by decide), st_k z, m2o 3 (by omega) (by omega) (by omega)]
          have k32 : K 3 2 = nI (N + 1) := by rw [ko 3 (by decide) (by decide) (by decide) (by decide) (by decide), ← hM, st_ne (by decide), st_s]
          have k4 : K 4 = I 4 := ki 4 (by omega) (by decide) (by decide) (by decide) (by decide) (by decide) (by decide)
          unfold IdL
          rw [k3 3 (by decide), k3 4 (by decide), k32, k4, k9, kb 3 (by decide) (by decide), kb 4 (by decide) (by decide), kb 5 (by decide) (by decide), kb 6 (by decide) (by decide), kb 7 (by decide) (by decide), kb 8 (by decide) (by decide)]
          refine ⟨a1, a2, a3, a4, a5, a6, a7, a8, a9, b1, by omega, rfl, rfl, fun z => absurd z (by decide), fun j hj => ?_⟩
          have kst : ∀ c, 6 ≤ c → c < 24 → K c = M c := fun c z1 z2 => ko c (by omega) (by omega) (by omega) (by omega) (by omega)
          by_cases z : j = N
          · subst z
            rw [kst (6 + 3 * j) (by omega) (by omega), ms (6 + 3 * j) (by omega) (by omega), m2s]
            have w1 : M1 (6 + 3 * j) 1 = k := by rw [← hM1]; simp [st_at]
            have w2 : M1 (6 + 3 * j) 2 = a := by rw [← hM1]; simp [st_at]
            have w3 : M1 (6 + 3 * j) 3 = n := by rw [← hM1]; simp [st_at]
            have w4 : M1 (6 + 3 * j) 4 = 0 := by rw [← hM1]; simp [st_at]
            have w5 : M1 (6 + 3 * j) 5 = 0 := by rw [← hM1]; simp [st_at]
            rw [w1, w2, w3, w4, w5]
            refine ⟨by rw [← hK2]; simp [st_at], by rw [← hK2]; simp [st_at], by rw [← hK2]; simp [st_at], by rw [← hK2]; simp [st_at], fun y => ?_, fun _ => ⟨rfl, rfl, g2.of ?_ ?_⟩⟩
            · have hn : inR n 0 4 = true := by
                rw [y] at qs
                unfold isStageS at qs
                rw [if_neg (by decide), if_neg (by decide), if_pos rfl] at qs
                exact qs
              obtain ⟨m, m1, m2, m3⟩ := inR_nI (a := 0) (b := 4) (by decide) (by decide) hn
              exact ⟨m, m2, m3⟩
            · rw [kst (6 + 3 * j + 1) (by omega) (by omega), ms (6 + 3 * j + 1) (by omega) (by omega)]
            · rw [kst (6 + 3 * j + 1 + 1) (by omega) (by omega), ms (6 + 3 * j + 1 + 1) (by omega) (by omega)]
          · obtain ⟨c1, c2, c3, c4, c5, c6⟩ := b6 j (by omega)
            have kj : ∀ c, 6 + 3 * j ≤ c → c ≤ 6 + 3 * j + 2 → K c = I c := fun c z1 z2 => by rw [kst c (by omega) (by omega), mo c (by omega) (by omega) (by omega) (by omega) (by omega)]
            rw [kj (6 + 3 * j) (by omega) (by omega)]
            have km : ∀ c, c = 47 ∨ c = 48 ∨ c = 49 ∨ c = 50 → K c j = I c j := fun c y => by
              rw [← hK2, st_ne (by omega)]
              simp only [st_at]
              rw [if_neg (by omega), if_neg (by omega), if_neg (by omega), if_neg (by omega), if_neg (by omega), mo c (by omega) (by omega) (by omega) (by omega) (by omega)]
            rw [km 47 (by omega), km 48 (by omega), km 49 (by omega), km 50 (by omega)]
            refine ⟨c1, c2, c3, c4, c5, fun y => ?_⟩
            obtain ⟨d1, d2, d3⟩ := c6 y
            exact ⟨d1, d2, d3.of (by rw [kj (6 + 3 * j + 1) (by omega) (by omega)]) (kj (6 + 3 * j + 1 + 1) (by omega) (by omega))⟩
      · have qsf : isStageS k a n = false := by simpa using qs
        refine hbad 2 (by decide) ?_ ?_
        · unfold f_L_stage f_X9_stage
          rw [hopen]
          simp only [Option.bind_some, thV]
          rw [b3, if_neg n6]
          simp only [isStage_eq, qsf, Option.bind_some, b2i_0, if_true, thI, if_neg iae_ise]
        · unfold f_X10_stage f_X10_refuse
          rw [st_k (show (3 : Nat) ≠ 0 by decide), st_k (show (4 : Nat) ≠ 0 by decide), st_k (show (9 : Nat) ≠ 0 by decide), a2, a4, b4, if_neg (by decide), if_pos (show b2i false = 0 from rfl), if_neg n6, isStage_eq']
          simp only [qsf, Option.bind_some, b2i_0, if_true]
  · rw [if_neg o] at hopen
    refine hbad 1 (by decide) ?_ ?_
    · unfold f_L_stage f_X9_stage
      rw [hopen]
      simp only [Option.bind_some, thV, thI, if_true]
    · unfold f_X10_stage f_X10_refuse
      rw [st_k (show (3 : Nat) ≠ 0 by decide), st_k (show (4 : Nat) ≠ 0 by decide), a2, a4]
      cases th with
      | false => rw [if_pos (show b2i false = 0 from rfl)]; rfl
      | true =>
        cases us with
        | false => exact absurd rfl o
        | true => rw [if_neg (show ¬ b2i true = 0 by decide), if_neg (show ¬ b2i true = 0 by decide)]; rfl
