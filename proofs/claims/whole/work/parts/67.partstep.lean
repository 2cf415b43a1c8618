theorem sg0_SW : SW sg0 := ⟨Nat.le_refl _, List.Pairwise.nil⟩
theorem sum4 (D : Nat → Nat) : nI (S4 D) = 0 + nI (D 0) + nI (D 1) + nI (D 2) + nI (D 3) := by
  rw [e0, nI_add, nI_add, nI_add, nI_add]
  congr 1
  unfold S4
  omega
theorem parts_step {I : Mem} (k a n : Int32) (h : Idle I) : ∃ cd r J K, f_L_parts I k a n = some (cd, J) ∧ f_X10_parts J k a n = some (r, K) ∧ StepI cd r K := by
  have h0 := h
  obtain ⟨⟨B, hB⟩, ⟨th, us, N, hL⟩, ⟨G, Ks, hK⟩, ⟨gr, cc, hP⟩, hD⟩ := h
  by_cases hopen : (th && !us) = true ∧ isEndS k a n = true
  · obtain ⟨o, hk⟩ := hopen
    have hrf := refuse_eq hL
    rw [if_pos o] at hrf
    have oth : th = true := by cases th <;> simp_all
    have ous : us = false := by cases us <;> simp_all
    subst oth
    subst ous
    have hG := hK.1
    have hl := hG.lt
    have hL0 := hL
    obtain ⟨a1, a2, a3, a4, a5, a6, a7, a8, a9, b1, b2, b3, b4, b5, b6⟩ := hL
    by_cases hk2 : I 45 5 = 2
    · -- an endless source has no parts
      refine ⟨2, 0, I, st (st I 45 0 0) 45 0 2, ?_, ?_, st_s, fun z => absurd z (by decide), h0.same (fun c z _ => by rw [st_ne z, st_ne z]) (fun b z => by rw [st_k z, st_k z])⟩
      · unfold f_L_parts f_X9_parts f_X9_refuseUnlessEnd
        simp only [hrf, Option.bind_some, thV, isEnd_eq, hk, b2i_0, Bool.true_eq_false, if_false]
        rw [if_pos (by rw [a5]; exact hk2)]
        simp only [Option.bind_some, thI, if_neg iae_ise, if_true]
      · unfold f_X10_parts f_X10_refuse
        rw [st_k (show (3 : Nat) ≠ 0 by decide), st_k (show (4 : Nat) ≠ 0 by decide), a2, a4, if_neg (by decide), if_pos (show b2i false = 0 from rfl), isEnd_eq']
        simp only [Option.bind_some, hk, b2i_0, Bool.true_eq_false, if_false]
        rw [st_k (show (5 : Nat) ≠ 0 by decide), if_pos hk2]
    have hkind : I 45 5 = 0 ∨ I 45 5 = 1 := by rcases a8 with q | q | q; exact absurd q hk2; exact .inl q; exact .inr q
    have hQ : Qok (fun j b => I (6 + 3 * j) b) N := fun j hj q => (b6 j hj).2.2.2.2.1 q
    have hBl : B.length ≤ 40 := hB.1.2.1
    obtain ⟨p1, p2, p3, p4, p5, p6, p7, p8, p9⟩ := hP
    have hP0 : IdP I gr cc := ⟨p1, p2, p3, p4, p5, p6, p7, p8, p9⟩
    -- the program
    obtain ⟨J1, u1, u2, u3, u4, u5, u6, u7⟩ := use_eq (k := k) (a := a) (n := n) hG hK.2.1 hL0 hk
    have hj4 : J1 4 = I 4 := u4 4 (by decide) (by decide) (by omega) (by omega)
    have hj35 : J1 35 = I 35 := u4 35 (by decide) (by decide) (by omega) (by omega)
    have hsrc : SrcIs J1 0 (srcL B (I 45 5) (I 45 6) (I 45 7) (I 45 8)) := (src_idle hB hL0).of (u4 1 (by decide) (by decide) (by omega) (by omega)) (u4 2 (by decide) (by decide) (by omega) (by omega)) hj4
    have hkJ : J1 4 1 ≠ 2 := by rw [hj4, a5]; exact hk2
    obtain ⟨sz1, sz2, sz3⟩ := size_eq hsrc hkJ
    rw [Nat.zero_add] at sz1 sz2
    obtain ⟨J2, sp, w1, w2, w3⟩ := crew_eq p1 p2 p3 p4 sz2 (I := J1) (by rw [hj35]; exact p5) (by rw [hj35]; exact p7)
    rw [hj35] at w2
    have j2o : ∀ c, c < 35 → J2 c = J1 c := fun c z => w3.1 c (by omega)
    obtain ⟨J3, v1, v2, v3, v4, v5, v6⟩ := cparts_eq (I := J2) (Q := fun j b => I (6 + 3 * j) b) (e := eOf k a n) (g := fun _ => sg0) (s := es0 k n) hG hQ b2 (hsrc.of (j2o 1 (by omega)) (j2o 2 (by omega)) (j2o 4 (by omega))) (by rw [j2o 4 (by omega)]; exact hkJ) (by rw [j2o 3 (by omega), u5 2 (by decide)]; exact b3) (fun j hj => ⟨(u3 j hj).of (j2o _ (by omega)) (j2o _ (by omega)) (j2o _ (by omega)), sg0_SW⟩) (fun _ _ => rfl) rfl (es0_EW k a n hk) (u2.of (j2o _ (by omega)) (j2o _ (by omega)) (j2o _ (by omega)))
    -- the reference, from any memory that has its half
    have model : ∀ J : Mem, (∀ c, 45 ≤ c → c ≠ 65 → J c = I c) → ∃ M2, (f_X10_parts J k a n = f_X10_answer M2) ∧ (∀ j, j < N → MSt M2 j (fun b => I (6 + 3 * j) b) ((partsK (fun j b => I (6 + 3 * j) b) N 0 (fun _ => sg0) (srcL B (I 45 5) (I 45 6) (I 45 7) (I 45 8))).1 j) false) ∧ EndM M2 (eOf k a n) (if (partsK (fun j b => I (6 + 3 * j) b) N 0 (fun _ => sg0) (srcL B (I 45 5) (I 45 6) (I 45 7) (I 45 8))).2.2 = true then takeL (eOf k a n) (partsK (fun j b => I (6 + 3 * j) b) N 0 (fun _ => sg0) (srcL B (I 45 5) (I 45 6) (I 45 7) (I 45 8))).2.1 (es0 k n) else es0 k n) ∧ M2 45 22 = b2i (!(partsK (fun j b => I (6 + 3 * j) b) N 0 (fun _ => sg0) (srcL B (I 45 5) (I 45 6) (I 45 7) (I 45 8))).2.2) ∧ PM gr cc (runP gr cc 79 (I 35 3) (p0S (srcL B (I 45 5) (I 45 6) (I 45 7) (I 45 8)).length)) M2 ∧ (∀ c, c < 45 ∨ 46 ≤ c ∧ c < 50 ∨ c = 58 ∨ c = 65 → M2 c = J c) ∧ (∀ b, b ≠ 0 → b ≠ 4 → b ≠ 21 → b ≠ 22 → b ≠ 23 → b ≠ 24 → b ≠ 25 → b ≠ 26 → b ≠ 27 → b ≠ 28 → b ≠ 34 → b ≠ 35 → M2 45 b = I 45 b) ∧ M2 45 0 = 0 ∧ M2 45 4 = 1 := by
      intro J hJ
      generalize hJ0 : st J 45 0 0 = J0
      have j0o : ∀ c, c ≠ 45 → J0 c = J c := fun c z => by rw [← hJ0, st_ne z]
      have j0b : ∀ b, b ≠ 0 → J0 45 b = I 45 b := fun b z => by rw [← hJ0, st_k z, hJ 45 (by omega) (by decide)]
      have j00 : J0 45 0 = 0 := by rw [← hJ0, st_s]
      obtain ⟨M1, q1, q2, q3, q4, q5, q6, q7⟩ := beginEnd_eq (I := J0) b2 (by rw [j0b 9 (by decide)]; exact b4) k a n hk
      have m1b : ∀ b, b ≠ 0 → b ≠ 4 → b ≠ 21 → b ≠ 22 → b ≠ 23 → b ≠ 24 → b ≠ 25 → b ≠ 26 → b ≠ 27 → b ≠ 28 → M1 45 b = I 45 b := fun b z0 z1 z2 z3 z4 z5 z6 z7 z8 z9 => by rw [q4.2 b z1 z2 z3 z4 z5 z6 z7 z8 z9, j0b b z0]
      have m1o : ∀ c, c ≠ 45 → c ≠ 50 → c ≠ 51 → c ≠ 52 → c ≠ 57 → M1 c = J c := fun c z1 z2 z3 z4 z5 => by rw [q4.1 c z1 z2 z3 z4 z5, j0o c z1]
      have e5 := m1b 5 (by decide) (by decide) (by decide) (by decide) (by decide) (by decide) (by decide) (by decide) (by decide) (by decide)
      have e6 := m1b 6 (by decide) (by decide) (by decide) (by decide) (by decide) (by decide) (by decide) (by decide) (by decide) (by decide)
      have e7 := m1b 7 (by decide) (by decide) (by decide) (by decide) (by decide) (by decide) (by decide) (by decide) (by decide) (by decide)
      have e8 := m1b 8 (by decide) (by decide) (by decide) (by decide) (by decide) (by decide) (by decide) (by decide) (by decide) (by decide)
      have e2' := m1b 2 (by decide) (by decide) (by decide) (by decide) (by decide) (by decide) (by decide) (by decide) (by decide) (by decide)
      have e38 := m1b 38 (by decide) (by decide) (by decide) (by decide) (by decide) (by decide) (by decide) (by decide) (by decide) (by decide)
      obtain ⟨M2, r1, r2, r3, r4, r5, r6, r7⟩ := mparts_eq (I := M1) (Q := fun j b => I (6 + 3 * j) b) (e := eOf k a n) (B := B) (s := es0 k n) k a n hQ b2 p1 p2 p3 p4 (by rw [m1b 36 (by decide) (by decide) (by decide) (by decide) (by decide) (by decide) (by decide) (by decide) (by decide) (by decide)]; exact p6) (by rw [m1b 37 (by decide) (by decide) (by decide) (by decide) (by decide) (by decide) (by decide) (by decide) (by decide) (by decide)]; exact p8) hBl (fun j hj => by rw [m1o 46 (by decide) (by decide) (by decide) (by decide) (by decide), hJ 46 (by omega) (by decide)]; exact hB.2.2 j hj) (by rw [e5]; exact hkind) (by rw [e5, e7]; exact a9) (by rw [m1b 9 (by decide) (by decide) (by decide) (by decide) (by decide) (by decide) (by decide) (by decide) (by decide) (by decide)]; exact b4) (fun j hj => by
        obtain ⟨t1, t2, t3, t4, t5, t6⟩ := b6 j hj
        exact be_MSt (I := J0) (by rw [j0o 47 (by decide), hJ 47 (by omega) (by decide)]; exact t1) (by rw [j0o 48 (by decide), hJ 48 (by omega) (by decide)]; exact t2) (by rw [j0o 49 (by decide), hJ 49 (by omega) (by decide)]; exact t3) q4 (q3 j hj)) rfl (es0_EW k a n hk) q2 q7
      rw [e5, e6, e7, e8] at r1 r2 r3 r4 r5
      rw [e38, ← p9] at r5
      refine ⟨M2, ?_, r2, r3, r4, r5, fun c z => ?_, fun b z0 z1 z2 z3 z4 z5 z6 z7 z8 z9 y1 y2 => ?_, ?_, ?_⟩
      · unfold f_X10_parts
        rw [hJ0, j0b 3 (by decide), j0b 4 (by decide), a2, a4, if_neg (by decide), if_pos (show b2i false = 0 from rfl), isEnd_eq']
        simp only [Option.bind_some, hk, b2i_0, Bool.true_eq_false, if_false]
        rw [j0b 5 (by decide), if_neg hk2, q1]
        simp only [Option.bind_some]
        rw [e5, e2', e7]
        rcases hkind with q | q
        · rw [if_pos q]
          rw [← r1]
          have : srcL B (I 45 5) (I 45 6) (I 45 7) (I 45 8) = B := by unfold srcL; rw [if_pos q]
          rw [this, hB.2.1]
        · have n0 : ¬ I 45 5 = 0 := by rw [q]; decide
          rw [if_neg n0]
          rw [← r1]
          obtain ⟨m, m1, m2⟩ := a9 q
          have : srcL B (I 45 5) (I 45 6) (I 45 7) (I 45 8) = up (I 45 6) m := by unfold srcL; rw [if_neg n0, if_pos q, m2, nI_clamp (by omega)]
          rw [this, up_length, m2]
      · rw [r6 c (by omega) (by omega) (by omega) (by omega) (by omega) (by omega) (by omega) (by omega) (by omega) (by omega) (by omega) (by omega), m1o c (by omega) (by omega) (by omega) (by omega) (by omega)]
      · rw [r7 b z3 z7 z8 z9 y1 y2, m1b b z0 z1 z2 z3 z4 z5 z6 z7 z8 z9]
      · rw [r7 0 (by decide) (by decide) (by decide) (by decide) (by decide) (by decide), q4.2 0 (by decide) (by decide) (by decide) (by decide) (by decide) (by decide) (by decide) (by decide) (by decide), j00]
      · rw [r7 4 (by decide) (by decide) (by decide) (by decide) (by decide) (by decide), q5]
    generalize hp : partsK (fun j b => I (6 + 3 * j) b) N 0 (fun _ => sg0) (srcL B (I 45 5) (I 45 6) (I 45 7) (I 45 8)) = pk at v1 v2 v3 v5 v6 model
    generalize hrp : runP gr cc 79 (I 35 3) (p0S (srcL B (I 45 5) (I 45 6) (I 45 7) (I 45 8)).length) = rp at w2 model
    have hEW : EW (eOf k a n) (if pk.2.2 = true then takeL (eOf k a n) pk.2.1 (es0 k n) else es0 k n) := by
      split
      · exact v5
      · exact es0_EW k a n hk
    have htk : (if pk.2.2 = true then takeL (eOf k a n) pk.2.1 (es0 k n) else es0 k n).1 ≤ 600 := by
      split
      · exact v6
      · exact Nat.zero_le _
    generalize hs : (if pk.2.2 = true then takeL (eOf k a n) pk.2.1 (es0 k n) else es0 k n) = s at v3 model hEW htk
    obtain ⟨J4, x1, x2, x3, x4⟩ := outcome_eq hG pk.2.2 v3 hEW htk (by rw [v4.2.1, j2o 24 (by omega), u7]; exact hK.2.2.1)
    have hclass : f_L_parts I k a n = some (codeS (outS (eOf k a n) pk.2.2 s), lawS (outS (eOf k a n) pk.2.2 s) J4) := by
      unfold f_L_parts f_X9_parts f_X9_refuseUnlessEnd
      simp only [hrf, Option.bind_some, thV, isEnd_eq, hk, b2i_0, Bool.true_eq_false, if_false]
      rw [if_neg (by rw [a5]; exact hk2)]
      simp only [u1, sz1, w1, v1, x1, thI_id, Option.bind_some]
      exact law_out _ _ _ _
    have j4 : ∀ c, c < 3 ∨ c = 5 ∨ 45 ≤ c ∨ c = 52 - G ∨ c = 53 - G → J4 c = I c := fun c z => by
      rw [x2 c (by omega), v4.1 c (by omega), w3.1 c (by omega), u4 c (by omega) (by omega) (by rcases hG with rfl | rfl <;> omega) (by rcases hG with rfl | rfl <;> omega)]
    have j4w : ∀ c, 35 ≤ c → c < 45 → J4 c = J2 c := fun c z1 z2 => by rw [x2 c (by omega), v4.1 c (by omega)]
    obtain ⟨M2, y1, y2, y2b, y2c, y2d, y3, y4, y5, y6⟩ := model (lawS (outS (eOf k a n) pk.2.2 s) J4) (fun c z1 z2 => by rw [lawS_o _ _ _ z2, j4 c (by omega)])
    obtain ⟨K, z1, z2, z3, z4, z5, z6⟩ := answer_eq pk.2.2 y2b hEW htk y2c y5
    refine ⟨_, _, _, K, hclass, by rw [y1, z1], z2, fun q => ?_, ?_⟩
    · rw [z5 65 (by decide) (by decide), y3 65 (by omega)]
      exact code_val q
    · have km : ∀ c, 46 ≤ c ∧ c < 50 → K c = I c := fun c q => by
        rw [z5 c (by omega) (by omega), y3 c (by omega), lawS_o _ _ _ (by omega), j4 c (by omega)]
      have kb : ∀ b, b ≠ 0 → b ≠ 4 → b ≠ 21 → b ≠ 22 → b ≠ 23 → b ≠ 24 → b ≠ 25 → b ≠ 26 → b ≠ 27 → b ≠ 28 → b ≠ 34 → b ≠ 35 → b ≠ 30 → K 45 b = I 45 b := fun b z0 q1 q2 q3 q4 q5 q6 q7 q8 q9 q10 q11 q12 => by rw [z6 b z0 q12, y4 b z0 q1 q2 q3 q4 q5 q6 q7 q8 q9 q10 q11]
      have klt : ∀ c, c < 45 → K c = lawS (outS (eOf k a n) pk.2.2 s) J4 c := fun c q => by rw [z5 c (by omega) (by omega), y3 c (by omega)]
      have kw : ∀ c, 35 ≤ c → c < 45 → K c = J2 c := fun c q1 q2 => by rw [klt c q2, lawS_o _ _ _ (by omega), j4w c q1 q2]
      have k64 : K 64 = M2 64 := z5 64 (by decide) (by decide)
      refine idle_after (J3 := J4) (g := pk.1) (s := s) pk.2.2 (outS (eOf k a n) pk.2.2 s) hB hL0 hK hP0 (fun c q => j4 c (by omega)) (fun b q => ?_) ?_ ?_ (fun j hj => ?_) ?_ x3 x4 (fun b q => ?_) klt (km 46 (by omega)) (by rw [z6 4 (by decide) (by decide)]; exact y6) (fun b q => kb b (by omega) (by omega) (by omega) (by omega) (by omega) (by omega) (by omega) (by omega) (by omega) (by omega) (by omega) (by omega) (by omega)) (km 47 (by omega)) (km 48 (by omega)) (km 49 (by omega)) (fun j hj => ?_) z3 (fun q => ?_) ?_
      · rw [x2 3 (by decide), v4.1 3 (by omega), j2o 3 (by omega), u5 b q]
      · rw [x2 3 (by decide), v4.1 3 (by omega), j2o 3 (by omega)]; exact u6
      · rw [x2 4 (by decide), v4.2.2, j2o 4 (by omega), hj4]
      · exact (v2 j hj).of (x2 _ (by omega)) (x2 _ (by omega)) (x2 _ (by omega))
      · exact v3.2.2.2.2.2.2.2.of (by rw [x2 G (by omega)]) (x2 (G + 1) (by omega))
      · rw [j4w 35 (by omega) (by omega)]
        rcases q with rfl | rfl | rfl
        · rw [w2.1]; exact p5.symm
        · rw [w2.2.1]; exact p7.symm
        · rw [w3.2, hj35]
      · rw [z5 50 (by decide) (by decide)]; exact (y2 j hj).2.2.2.1
      · obtain ⟨q1, q2⟩ := z4 q
        refine ⟨?_, ?_⟩
        · rw [q1, y4 30 (by decide) (by decide) (by decide) (by decide) (by decide) (by decide) (by decide) (by decide) (by decide) (by decide) (by decide) (by decide)]
        · rw [q2, y3 58 (by omega), lawS_o _ _ _ (by decide), j4 58 (by omega)]
      · obtain ⟨n1, n2, n3, n4, n5, n6⟩ := y2d.1
        refine ⟨?_, ?_, fun w hw => ?_, ?_⟩
        · rw [kw 35 (by omega) (by omega), k64, n3]; exact w2.2.2.2.1
        · rw [kw 35 (by omega) (by omega), k64, n5]; exact w2.2.2.2.2.1
        · obtain ⟨f, f1, f2⟩ := w2.2.2.2.2.2 w hw
          rw [kw (37 + 2 * w) (by omega) (by omega), k64, n6 w hw]; exact f1.2.2.1
        · rw [k64, n4, show (3 : Nat) = 3 + 0 from rfl, n6 0 (by omega), show (4 : Nat) = 3 + 1 from rfl, n6 1 (by omega), show (5 : Nat) = 3 + 2 from rfl, n6 2 (by omega), show (6 : Nat) = 3 + 3 from rfl, n6 3 (by omega)]
          exact sum4 _
  · exact (ends_refused k a n h0 hL hopen).2
