theorem ends_refused {I : Mem} (k a n : Int32) (h : Idle I) {th us : Bool} {N : Nat} (hL : IdL I th us N) (hb : ¬ ((th && !us) = true ∧ isEndS k a n = true)) :
    (∃ cd r J K, f_L_run I k a n = some (cd, J) ∧ f_X10_run J k a n = some (r, K) ∧ StepI cd r K) ∧ (∃ cd r J K, f_L_parts I k a n = some (cd, J) ∧ f_X10_parts J k a n = some (r, K) ∧ StepI cd r K) := by
  have hopen := refuse_eq hL
  have fin : ∀ cd : Int32, ¬ cd = 0 → StepI cd 0 (st (st I 45 0 0) 45 0 cd) := fun cd hcd => ⟨st_s, fun z => absurd z hcd, h.same (fun c z _ => by rw [st_ne z, st_ne z]) (fun b z => by rw [st_k z, st_k z])⟩
  by_cases o : (th && !us) = true
  · rw [if_pos o] at hopen
    have hf : isEndS k a n = false := by
      cases hz : isEndS k a n with
      | false => rfl
      | true => exact absurd ⟨o, hz⟩ hb
    have oth : th = true := by cases th <;> simp_all
    have ous : us = false := by cases us <;> simp_all
    subst oth
    subst ous
    refine ⟨⟨2, 0, I, _, ?_, ?_, fin 2 (by decide)⟩, ⟨2, 0, I, _, ?_, ?_, fin 2 (by decide)⟩⟩
    · unfold f_L_run f_X9_run f_X9_refuseUnlessEnd
      simp only [hopen, Option.bind_some, thV, isEnd_eq, hf, b2i_0, if_true, thI, if_neg iae_ise]
    · unfold f_X10_run f_X10_refuse
      rw [st_k (show (3 : Nat) ≠ 0 by decide), st_k (show (4 : Nat) ≠ 0 by decide), hL.2.1, hL.2.2.2.1, if_neg (by decide), if_pos (show b2i false = 0 from rfl), isEnd_eq']
      simp only [Option.bind_some, hf, b2i_0, if_true]
    · unfold f_L_parts f_X9_parts f_X9_refuseUnlessEnd
      simp only [hopen, Option.bind_some, thV, isEnd_eq, hf, b2i_0, if_true, thI, if_neg iae_ise]
    · unfold f_X10_parts f_X10_refuse
      rw [st_k (show (3 : Nat) ≠ 0 by decide), st_k (show (4 : Nat) ≠ 0 by decide), hL.2.1, hL.2.2.2.1, if_neg (by decide), if_pos (show b2i false = 0 from rfl), isEnd_eq']
      simp only [Option.bind_some, hf, b2i_0, if_true]
  · rw [if_neg o] at hopen
    have hm : ∀ (A B C : Option (Int32 × Mem)), A = C → B = C → (if ((st I 45 0 (0 : Int32)) 45 3) = 0 then A else (if ((st I 45 0 (0 : Int32)) 45 4) = 0 then none else B)) = C := by
      intro A B C hA hB
      rw [st_k (show (3 : Nat) ≠ 0 by decide), st_k (show (4 : Nat) ≠ 0 by decide), hL.2.1, hL.2.2.2.1]
      cases th with
      | false => rw [if_pos (show b2i false = 0 from rfl)]; exact hA
      | true =>
        cases us with
        | false => exact absurd rfl o
        | true => rw [if_neg (show ¬ b2i true = 0 by decide), if_neg (show ¬ b2i true = 0 by decide)]; exact hB
    refine ⟨⟨1, 0, I, _, ?_, ?_, fin 1 (by decide)⟩, ⟨1, 0, I, _, ?_, ?_, fin 1 (by decide)⟩⟩
    · unfold f_L_run f_X9_run
      simp only [hopen, Option.bind_some, thV, thI, if_true]
    · unfold f_X10_run f_X10_refuse
      rw [st_k (show (3 : Nat) ≠ 0 by decide), st_k (show (4 : Nat) ≠ 0 by decide), hL.2.1, hL.2.2.2.1]
      cases th with
      | false => rw [if_pos (show b2i false = 0 from rfl)]; rfl
      | true =>
        cases us with
        | false => exact absurd rfl o
        | true => rw [if_neg (show ¬ b2i true = 0 by decide), if_neg (show ¬ b2i true = 0 by decide)]; rfl
    · unfold f_L_parts f_X9_parts
      simp only [hopen, Option.bind_some, thV, thI, if_true]
    · unfold f_X10_parts f_X10_refuse
      rw [st_k (show (3 : Nat) ≠ 0 by decide), st_k (show (4 : Nat) ≠ 0 by decide), hL.2.1, hL.2.2.2.1]
      cases th with
      | false => rw [if_pos (show b2i false = 0 from rfl)]; rfl
      | true =>
        cases us with
        | false => exact absurd rfl o
        | true => rw [if_neg (show ¬ b2i true = 0 by decide), if_neg (show ¬ b2i true = 0 by decide)]; rfl
theorem code_val {e : Nat → Int32} {ok : Bool} {s : Es} {J : Mem} (h : codeS (outS e ok s) = 0) : lawS (outS e ok s) J 65 0 = valS (outS e ok s) := by
  rcases outS_cases e ok s with ⟨v, q⟩ | q | q
  · rw [q]; exact st_s
  · rw [q] at h; exact absurd h (by decide)
  · rw [q] at h; exact absurd h (by decide)
theorem run_step {I : Mem} (k a n : Int32) (h : Idle I) : ∃ cd r J K, f_L_run I k a n = some (cd, J) ∧ f_X10_run J k a n = some (r, K) ∧ StepI cd r K := by
  have h0 := h
  obtain ⟨⟨B, hB⟩, ⟨th, us, N, hL⟩, ⟨G, Ks, hK⟩, ⟨gr, cc, hP⟩, hD⟩ := h
  by_cases hopen : (th && !us) = true ∧ isEndS k a n = true
  · obtain ⟨o, hk⟩ := hopen
    have hrf := refuse_eq hL
    rw [if_pos o] at hrf
    have oth : th = true := by cases th <;> simp_all
    have ous : us = false := by cases us <;> simp_all
    subst oth
    subst ous
    have hG := hK.1
    have hl := hG.lt
    have hL0 := hL
    obtain ⟨a1, a2, a3, a4, a5, a6, a7, a8, a9, b1, b2, b3, b4, b5, b6⟩ := hL
    have hQ : Qok (fun j b => I (6 + 3 * j) b) N := fun j hj q => (b6 j hj).2.2.2.2.1 q
    have hBl : B.length ≤ 40 := hB.1.2.1
    -- the program
    obtain ⟨J1, u1, u2, u3, u4, u5, u6, u7⟩ := use_eq (k := k) (a := a) (n := n) hG hK.2.1 hL0 hk
    have hsrc : SrcIs J1 0 (srcL B (I 45 5) (I 45 6) (I 45 7) (I 45 8)) := (src_idle hB hL0).of (u4 1 (by decide) (by decide) (by omega) (by omega)) (u4 2 (by decide) (by decide) (by omega) (by omega)) (u4 4 (by decide) (by decide) (by omega) (by omega))
    have s29 : ∀ c, c ≠ 29 → (st (st J1 29 2 0) 29 3 0) c = J1 c := fun c z => by rw [st_ne z, st_ne z]
    have hRC : RC (fun j b => I (6 + 3 * j) b) (eOf k a n) N G ((fun _ => sg0), es0 k n, 0, false) (st (st J1 29 2 0) 29 3 0) := by
      refine ⟨b2, ?_, fun j hj => (u3 j hj).of (s29 _ (by omega)) (s29 _ (by omega)) (s29 _ (by omega)), u2.of (s29 _ (by omega)) (s29 _ (by omega)) (s29 _ (by omega)), ?_, ?_⟩
      · rw [s29 3 (by decide), u5 2 (by decide)]; exact b3
      · rw [st_k (by decide), st_s]; rfl
      · rw [st_s]; rfl
    have hj4 : J1 4 = I 4 := u4 4 (by decide) (by decide) (by omega) (by omega)
    obtain ⟨J2, w1, w2, w3, w4⟩ := cflow_eq (σ := ((fun _ => sg0), es0 k n, 0, false)) hG hQ hsrc (by rw [hj4, a5]; exact a8) (fw0 N hk) hRC
    have hflow : flowS (fun j b => I (6 + 3 * j) b) (eOf k a n) N (srcL B (I 45 5) (I 45 6) (I 45 7) (I 45 8)) ((fun _ => sg0), es0 k n, 0, false) = flowS (fun j b => I (6 + 3 * j) b) (eOf k a n) N (srcL B (I 45 5) (I 45 6) (I 45 7) (I 45 8)) ((fun _ => sg0), es0 k n, 0, false) := rfl
    -- the reference, from any memory that has its half
    have model : ∀ J : Mem, (∀ c, 45 ≤ c → c ≠ 65 → J c = I c) → ∃ M2 tr, (f_X10_run J k a n = f_X10_answer M2) ∧ RM (fun j b => I (6 + 3 * j) b) (eOf k a n) N tr (flowS (fun j b => I (6 + 3 * j) b) (eOf k a n) N (srcL B (I 45 5) (I 45 6) (I 45 7) (I 45 8)) ((fun _ => sg0), es0 k n, 0, false)) M2 ∧ (∀ c, c < 45 ∨ 46 ≤ c ∧ c < 50 ∨ 58 ≤ c → M2 c = J c) ∧ (∀ b, b ≠ 0 → b ≠ 4 → b ≠ 17 → b ≠ 21 → b ≠ 22 → b ≠ 23 → b ≠ 24 → b ≠ 25 → b ≠ 26 → b ≠ 27 → b ≠ 28 → M2 45 b = I 45 b) ∧ M2 45 0 = 0 ∧ M2 45 4 = 1 := by
      intro J hJ
      generalize hJ0 : st J 45 0 0 = J0
      have j0o : ∀ c, c ≠ 45 → J0 c = J c := fun c z => by rw [← hJ0, st_ne z]
      have j0b : ∀ b, b ≠ 0 → J0 45 b = I 45 b := fun b z => by rw [← hJ0, st_k z, hJ 45 (by omega) (by decide)]
      have j00 : J0 45 0 = 0 := by rw [← hJ0, st_s]
      obtain ⟨M1, v1, v2, v3, v4, v5, v6, v7⟩ := beginEnd_eq (I := J0) b2 (by rw [j0b 9 (by decide)]; exact b4) k a n hk
      have m1b : ∀ b, b ≠ 0 → b ≠ 4 → b ≠ 21 → b ≠ 22 → b ≠ 23 → b ≠ 24 → b ≠ 25 → b ≠ 26 → b ≠ 27 → b ≠ 28 → M1 45 b = I 45 b := fun b z0 z1 z2 z3 z4 z5 z6 z7 z8 z9 => by rw [v4.2 b z1 z2 z3 z4 z5 z6 z7 z8 z9, j0b b z0]
      have m1o : ∀ c, c ≠ 45 → c ≠ 50 → c ≠ 51 → c ≠ 52 → c ≠ 57 → M1 c = J c := fun c z1 z2 z3 z4 z5 => by rw [v4.1 c z1 z2 z3 z4 z5, j0o c z1]
      have hRM : RM (fun j b => I (6 + 3 * j) b) (eOf k a n) N (fun _ => false) ((fun _ => sg0), es0 k n, 0, false) M1 := by
        refine ⟨b2, by rw [m1b 9 (by decide) (by decide) (by decide) (by decide) (by decide) (by decide) (by decide) (by decide) (by decide) (by decide)]; exact b4, fun j hj => ?_, v2, by rw [v6]; rfl, by rw [v7]; rfl⟩
        obtain ⟨t1, t2, t3, t4, t5, t6⟩ := b6 j hj
        exact be_MSt (I := J0) (by rw [j0o 47 (by decide), hJ 47 (by omega) (by decide)]; exact t1) (by rw [j0o 48 (by decide), hJ 48 (by omega) (by decide)]; exact t2) (by rw [j0o 49 (by decide), hJ 49 (by omega) (by decide)]; exact t3) v4 (v3 j hj)
      have e5 := m1b 5 (by decide) (by decide) (by decide) (by decide) (by decide) (by decide) (by decide) (by decide) (by decide) (by decide)
      have e6 := m1b 6 (by decide) (by decide) (by decide) (by decide) (by decide) (by decide) (by decide) (by decide) (by decide) (by decide)
      have e7 := m1b 7 (by decide) (by decide) (by decide) (by decide) (by decide) (by decide) (by decide) (by decide) (by decide) (by decide)
      have e8 := m1b 8 (by decide) (by decide) (by decide) (by decide) (by decide) (by decide) (by decide) (by decide) (by decide) (by decide)
      obtain ⟨M2, tr, r1, r2, r3, r4⟩ := mflow_eq (σ := ((fun _ => sg0), es0 k n, 0, false)) hQ hBl (by rw [m1b 2 (by decide) (by decide) (by decide) (by decide) (by decide) (by decide) (by decide) (by decide) (by decide) (by decide)]; exact hB.2.1) (fun j hj => by rw [m1o 46 (by decide) (by decide) (by decide) (by decide) (by decide), hJ 46 (by omega) (by decide)]; exact hB.2.2 j hj) (by rw [e5]; exact a8) (by rw [e5, e7]; exact a9) (fw0 N hk) hRM
      rw [e5, e6, e7, e8] at r2
      refine ⟨M2, tr, ?_, r2, fun c z => ?_, fun b z0 z1 z2 z3 z4 z5 z6 z7 z8 z9 y1 => ?_, ?_, ?_⟩
      · unfold f_X10_run
        rw [hJ0, j0b 3 (by decide), j0b 4 (by decide), a2, a4, if_neg (by decide), if_pos (show b2i false = 0 from rfl), isEnd_eq']
        simp only [Option.bind_some, hk, b2i_0, Bool.true_eq_false, if_false]
        rw [v1]
        simp only [Option.bind_some]
        rw [r1]
        simp only [Option.bind_some]
        exact bind_eta _
      · rw [r3.1 c z, m1o c (by omega) (by omega) (by omega) (by omega) (by omega)]
      · rw [r3.2.1 b z2 z3 z4 z8 z9 y1, m1b b z0 z1 z3 z4 z5 z6 z7 z8 z9 y1]
      · rw [r3.2.1 0 (by decide) (by decide) (by decide) (by decide) (by decide) (by decide), v4.2 0 (by decide) (by decide) (by decide) (by decide) (by decide) (by decide) (by decide) (by decide) (by decide), j00]
      · rw [r3.2.1 4 (by decide) (by decide) (by decide) (by decide) (by decide) (by decide), v5]
    generalize flowS (fun j b => I (6 + 3 * j) b) (eOf k a n) N (srcL B (I 45 5) (I 45 6) (I 45 7) (I 45 8)) ((fun _ => sg0), es0 k n, 0, false) = σ at w1 w2 w3 w4 model
    have hEW := w4.2.2.1
    have htk : σ.2.1.1 ≤ 600 := by have q1 := w4.1; have q2 := w4.2.2.2; rw [if_neg (by omega)] at q2; omega
    obtain ⟨J3, x1, x2, x3, x4⟩ := outcome_eq hG (!σ.2.2.2) w2.2.2.2.1 hEW htk (by rw [w3.2.1, u7]; exact hK.2.2.1)
    have hclass : f_L_run I k a n = some (codeS (outS (eOf k a n) (!σ.2.2.2) σ.2.1), lawS (outS (eOf k a n) (!σ.2.2.2) σ.2.1) J3) := by
      unfold f_L_run f_X9_run f_X9_refuseUnlessEnd
      simp only [hrf, Option.bind_some, thV, isEnd_eq, hk, b2i_0, Bool.true_eq_false, if_false, u1, w1, x1, thI_id]
      exact law_out _ _ _ _
    have j3 : ∀ c, c < 3 ∨ c = 5 ∨ 30 ≤ c ∨ c = 52 - G ∨ c = 53 - G → J3 c = I c := fun c z => by
      rw [x2 c (by omega), w3.1 c (by omega), u4 c (by omega) (by omega) (by rcases hG with rfl | rfl <;> omega) (by rcases hG with rfl | rfl <;> omega)]
    obtain ⟨M2, tr, y1, y2, y3, y4, y5, y6⟩ := model (lawS (outS (eOf k a n) (!σ.2.2.2) σ.2.1) J3) (fun c z1 z2 => by rw [lawS_o _ _ _ z2, j3 c (by omega)])
    obtain ⟨K, z1, z2, z3, z4, z5, z6⟩ := answer_eq (!σ.2.2.2) y2.2.2.2.1 hEW htk (by rw [y2.2.2.2.2.2, Bool.not_not]) y5
    refine ⟨_, _, _, K, hclass, by rw [y1, z1], z2, fun q => ?_, ?_⟩
    · rw [z5 65 (by decide) (by decide), y3 65 (by omega)]
      exact code_val q
    · have km : ∀ c, 46 ≤ c ∧ c < 50 ∨ 59 ≤ c ∧ c ≠ 65 → K c = I c := fun c q => by
        rw [z5 c (by omega) (by omega), y3 c (by omega), lawS_o _ _ _ (by omega), j3 c (by omega)]
      have kb : ∀ b, b ≠ 0 → b ≠ 4 → b ≠ 17 → b ≠ 21 → b ≠ 22 → b ≠ 23 → b ≠ 24 → b ≠ 25 → b ≠ 26 → b ≠ 27 → b ≠ 28 → b ≠ 30 → K 45 b = I 45 b := fun b z0 q1 q2 q3 q4 q5 q6 q7 q8 q9 q10 q11 => by rw [z6 b z0 q11, y4 b z0 q1 q2 q3 q4 q5 q6 q7 q8 q9 q10]
      have klt : ∀ c, c < 45 → K c = lawS (outS (eOf k a n) (!σ.2.2.2) σ.2.1) J3 c := fun c q => by rw [z5 c (by omega) (by omega), y3 c (by omega)]
      have kI : ∀ c, 30 ≤ c → c < 45 → K c = I c := fun c q1 q2 => by rw [klt c q2, lawS_o _ _ _ (by omega), j3 c (by omega)]
      refine idle_after (J3 := J3) (g := σ.1) (s := σ.2.1) (!σ.2.2.2) (outS (eOf k a n) (!σ.2.2.2) σ.2.1) hB hL0 hK hP (fun c q => j3 c (by omega)) (fun b q => ?_) ?_ ?_ (fun j hj => ?_) ?_ x3 x4 (fun b q => by rw [j3 35 (by omega)]) klt (km 46 (by omega)) (by rw [z6 4 (by decide) (by decide)]; exact y6) (fun b q => kb b (by omega) (by omega) (by omega) (by omega) (by omega) (by omega) (by omega) (by omega) (by omega) (by omega) (by omega) (by omega)) (km 47 (by omega)) (km 48 (by omega)) (km 49 (by omega)) (fun j hj => ?_) z3 (fun q => ?_) ?_
      · rw [x2 3 (by decide), w3.1 3 (by omega), u5 b q]
      · rw [x2 3 (by decide), w3.1 3 (by omega)]; exact u6
      · rw [x2 4 (by decide), w3.2.2, hj4]
      · exact (w2.2.2.1 j hj).of (x2 _ (by omega)) (x2 _ (by omega)) (x2 _ (by omega))
      · exact w2.2.2.2.1.2.2.2.2.2.2.2.of (by rw [x2 G (by omega)]) (x2 (G + 1) (by omega))
      · rw [z5 50 (by decide) (by decide)]; exact (y2.2.2.1 j hj).2.2.2.1
      · obtain ⟨q1, q2⟩ := z4 q
        refine ⟨?_, ?_⟩
        · rw [q1, y4 30 (by decide) (by decide) (by decide) (by decide) (by decide) (by decide) (by decide) (by decide) (by decide) (by decide) (by decide)]
        · rw [q2, y3 58 (by omega), lawS_o _ _ _ (by decide), j3 58 (by omega)]
      · exact hD.of (fun b _ => by rw [kI 35 (by omega) (by omega)]) (fun w hw => by rw [kI (37 + 2 * w) (by omega) (by omega)]) (km 64 (by omega))
  · exact (ends_refused k a n h0 hL hopen).1
