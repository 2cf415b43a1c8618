/-! between two calls: program and reference stand alike -/
def IdB (I : Mem) (B : List Int32) : Prop := RowIs I 1 B ∧ I 45 2 = nI B.length ∧ ∀ j, j < B.length → I 46 j = B.getD j 0
def IdL (I : Mem) (th us : Bool) (N : Nat) : Prop := I 3 3 = b2i th ∧ I 45 3 = b2i th ∧ I 3 4 = b2i us ∧ I 45 4 = b2i us ∧ I 4 1 = I 45 5 ∧ (us = false → I 4 2 = I 45 7) ∧ (us = false → I 4 3 = I 45 8) ∧ (I 45 5 = 2 ∨ I 45 5 = 0 ∨ I 45 5 = 1) ∧ (I 45 5 = 1 → ∃ m, m ≤ 40 ∧ I 45 7 = nI m) ∧ (us = false → I 4 4 = 0 ∧ (th = true → I 4 5 = I 45 6)) ∧ N ≤ 6 ∧ I 3 2 = nI N ∧ I 45 9 = nI N ∧ (th = false → N = 0) ∧ (∀ k, k < N → I 47 k = I (6 + 3 * k) 1 ∧ I 48 k = I (6 + 3 * k) 2 ∧ I 49 k = I (6 + 3 * k) 3 ∧ I 50 k = I (6 + 3 * k) 4 ∧ (I (6 + 3 * k) 1 = 2 → ∃ m, m ≤ 4 ∧ I (6 + 3 * k) 3 = nI m) ∧ (us = false → I (6 + 3 * k) 4 = 0 ∧ I (6 + 3 * k) 5 = 0 ∧ RowIs I (6 + 3 * k + 1) []))
def IdK (I : Mem) (G : Nat) (Ks : List Int32) : Prop := Gok G ∧ I 24 0 = nI G ∧ I 24 1 = nI (52 - G) ∧ RowIs I (52 - G) Ks ∧ I 45 30 = nI Ks.length ∧ ∀ j, j < Ks.length → I 58 j = Ks.getD j 0
def IdP (I : Mem) (gr c : Nat) : Prop := 1 ≤ gr ∧ gr ≤ 20 ∧ 1 ≤ c ∧ c ≤ 4 ∧ I 35 1 = nI gr ∧ I 45 36 = nI gr ∧ I 35 2 = nI c ∧ I 45 37 = nI c ∧ I 35 3 = I 45 38
def IdD (I : Mem) : Prop := I 35 5 = I 64 0 ∧ I 35 6 = I 64 2 ∧ (∀ w, w < 4 → I (37 + 2 * w) 3 = I 64 (3 + w)) ∧ I 64 1 = 0 + I 64 3 + I 64 4 + I 64 5 + I 64 6
def Idle (I : Mem) : Prop := (∃ B, IdB I B) ∧ (∃ th us N, IdL I th us N) ∧ (∃ G Ks, IdK I G Ks) ∧ (∃ gr c, IdP I gr c) ∧ IdD I
theorem IdB.of {I J : Mem} {B : List Int32} (h : IdB I B) (h1 : J 1 = I 1) (h2 : J 2 = I 2) (h45 : J 45 2 = I 45 2) (h46 : J 46 = I 46) : IdB J B :=
  ⟨h.1.of (by rw [h1]) h2, by rw [h45]; exact h.2.1, by rw [h46]; exact h.2.2⟩
theorem IdL.of {I J : Mem} {th us : Bool} {N : Nat} (h : IdL I th us N) (h3 : J 3 = I 3) (h4 : J 4 = I 4) (hst : ∀ c, 6 ≤ c → c < 24 → J c = I c) (h45 : ∀ b, 3 ≤ b → b ≤ 9 → J 45 b = I 45 b) (h47 : J 47 = I 47) (h48 : J 48 = I 48) (h49 : J 49 = I 49) (h50 : J 50 = I 50) : IdL J th us N := by
  obtain ⟨a1, a2, a3, a4, a5, a6, a7, a8, a9, b1, b2, b3, b4, b5, b6⟩ := h
  unfold IdL
  rw [h3, h4, h45 3 (by omega) (by omega), h45 4 (by omega) (by omega), h45 5 (by omega) (by omega), h45 6 (by omega) (by omega), h45 7 (by omega) (by omega), h45 8 (by omega) (by omega), h45 9 (by omega) (by omega), h47, h48, h49, h50]
  refine ⟨a1, a2, a3, a4, a5, a6, a7, a8, a9, b1, b2, b3, b4, b5, fun k hk => ?_⟩
  obtain ⟨c1, c2, c3, c4, c5, c6⟩ := b6 k hk
  rw [hst (6 + 3 * k) (by omega) (by omega)]
  refine ⟨c1, c2, c3, c4, c5, fun q => ?_⟩
  obtain ⟨d1, d2, d3⟩ := c6 q
  exact ⟨d1, d2, d3.of (by rw [hst (6 + 3 * k + 1) (by omega) (by omega)]) (hst (6 + 3 * k + 1 + 1) (by omega) (by omega))⟩
theorem IdK.of {I J : Mem} {G : Nat} {Ks : List Int32} (h : IdK I G Ks) (h24 : J 24 = I 24) (hr : ∀ c, 25 ≤ c → c < 29 → J c = I c) (h45 : J 45 30 = I 45 30) (h58 : J 58 = I 58) : IdK J G Ks := by
  obtain ⟨a, b, c, d, e, f⟩ := h
  have hl := a.lt
  exact ⟨a, by rw [h24]; exact b, by rw [h24]; exact c, d.of (by rw [hr (52 - G) (by omega) (by omega)]) (hr (52 - G + 1) (by omega) (by omega)), by rw [h45]; exact e, by rw [h58]; exact f⟩
theorem IdP.of {I J : Mem} {gr c : Nat} (h : IdP I gr c) (h35 : ∀ b, b = 1 ∨ b = 2 ∨ b = 3 → J 35 b = I 35 b) (h45 : ∀ b, b = 36 ∨ b = 37 ∨ b = 38 → J 45 b = I 45 b) : IdP J gr c := by
  unfold IdP
  rw [h35 1 (by omega), h35 2 (by omega), h35 3 (by omega), h45 36 (by omega), h45 37 (by omega), h45 38 (by omega)]
  exact h
theorem IdD.of {I J : Mem} (h : IdD I) (h35 : ∀ b, b = 5 ∨ b = 6 → J 35 b = I 35 b) (hw : ∀ w, w < 4 → J (37 + 2 * w) 3 = I (37 + 2 * w) 3) (h64 : J 64 = I 64) : IdD J := by
  obtain ⟨a, b, c, d⟩ := h
  unfold IdD
  rw [h35 5 (by omega), h35 6 (by omega), h64]
  exact ⟨a, b, fun w hw4 => by rw [hw w hw4]; exact c w hw4, d⟩
def StepI (cd r : Int32) (K : Mem) : Prop := K 45 0 = cd ∧ (cd = 0 → K 65 0 = r) ∧ Idle K
/-- only the refusal and the law's own number have changed -/
theorem Idle.same {I K : Mem} (h : Idle I) (h0 : ∀ c, c ≠ 45 → c ≠ 65 → K c = I c) (h1 : ∀ b, b ≠ 0 → K 45 b = I 45 b) : Idle K := by
  obtain ⟨⟨B, hB⟩, ⟨th, us, N, hL⟩, ⟨G, Ks, hK⟩, ⟨gr, c, hP⟩, hD⟩ := h
  refine ⟨⟨B, hB.of (h0 1 (by decide) (by decide)) (h0 2 (by decide) (by decide)) (h1 2 (by decide)) (h0 46 (by decide) (by decide))⟩, ⟨th, us, N, hL.of (h0 3 (by decide) (by decide)) (h0 4 (by decide) (by decide)) (fun c q1 q2 => h0 c (by omega) (by omega)) (fun b q1 q2 => h1 b (by omega)) (h0 47 (by decide) (by decide)) (h0 48 (by decide) (by decide)) (h0 49 (by decide) (by decide)) (h0 50 (by decide) (by decide))⟩, ⟨G, Ks, hK.of (h0 24 (by decide) (by decide)) (fun c q1 q2 => h0 c (by omega) (by omega)) (h1 30 (by decide)) (h0 58 (by decide) (by decide))⟩, ⟨gr, c, hP.of (fun b q => by rw [h0 35 (by decide) (by decide)]) (fun b q => h1 b (by omega))⟩, hD.of (fun b q => by rw [h0 35 (by decide) (by decide)]) (fun w hw => by rw [h0 (37 + 2 * w) (by omega) (by omega)]) (h0 64 (by decide) (by decide))⟩
theorem put_step {I : Mem} (v : Int32) (h : Idle I) : ∃ cd r J K, f_L_put I v = some (cd, J) ∧ f_X10_put J v = some (r, K) ∧ StepI cd r K := by
  obtain ⟨⟨B, b1, b2, b3⟩, ⟨th, us, N, hL⟩, ⟨G, Ks, hK⟩, ⟨gr, c, hP⟩, hD⟩ := h
  have hl : B.length ≤ 40 := b1.2.1
  unfold f_L_put f_X9_put
  rw [isFull_eq b1 (by decide)]
  simp only [Option.bind_some, b2i_0]
  by_cases q : B.length = 40
  · rw [decide_eq_true (show B.length = ln (1 + 1) from q), if_neg (by decide)]
    simp only [Option.bind_some, thI, if_true]
    refine ⟨1, 0, I, st (st I 45 0 0) 45 0 1, rfl, ?_, ?_, fun z => absurd z (by decide), ?_⟩
    · unfold f_X10_put f_X10_refuse
      rw [st_k (by decide), b2, if_pos (by rw [q]; rfl)]
      rfl
    · rw [st_s]
    · exact Idle.same ⟨⟨B, b1, b2, b3⟩, ⟨th, us, N, hL⟩, ⟨G, Ks, hK⟩, ⟨gr, c, hP⟩, hD⟩ (fun c z _ => by rw [st_ne z, st_ne z]) (fun b z => by rw [st_k z, st_k z])
  · rw [decide_eq_false (show ¬ B.length = ln (1 + 1) from q), if_pos rfl]
    obtain ⟨J, g1, g2, g3⟩ := add_eq (x := v) b1 (by decide) (show B.length < ln (1 + 1) by show B.length < 40; omega)
    rw [g1]
    simp only [Option.bind_some, thI, cl0]
    have n40 : ¬ nI B.length = 40 := fun z => q ((nI_eq (by omega) (by omega)).mp (z.trans (show (40 : Int32) = nI 40 from rfl)))
    generalize hM : st J 65 0 (J 1 1) = M
    have mo : ∀ c, c ≠ 1 → c ≠ 2 → c ≠ 65 → M c = I c := fun c z1 z2 z3 => by rw [← hM, st_ne z3, g3 c z1 z2]
    have m2 : M 45 2 = nI B.length := by rw [mo 45 (by decide) (by decide) (by decide)]; exact b2
    refine ⟨0, nI (B.length + 1), M, st (st (st M 45 0 0) 46 B.length v) 45 2 (nI (B.length + 1)), rfl, ?_, ?_, fun _ => ?_, ?_⟩
    · unfold f_X10_put
      rw [st_k (show (2 : Nat) ≠ 0 by decide), m2, if_neg n40, if_pos (inb_nI (show B.length < ln 46 by show B.length < 40; omega) (by decide)), nI_clamp (by omega), st_ne (show (45 : Nat) ≠ 46 by decide), st_k (show (2 : Nat) ≠ 0 by decide), m2, nI_1, st_s]
    · rw [st_k (by decide), st_ne (by decide), st_s]
    · rw [st_ne (by decide), st_ne (by decide), st_ne (by decide), ← hM, st_s, g2.1]
      congr 1; simp
    · generalize hK2 : st (st (st M 45 0 0) 46 B.length v) 45 2 (nI (B.length + 1)) = K
      have ko : ∀ c, c ≠ 45 → c ≠ 46 → K c = M c := fun c z1 z2 => by rw [← hK2, st_ne z1, st_ne z2, st_ne z1]
      have kb : ∀ b, b ≠ 0 → b ≠ 2 → K 45 b = M 45 b := fun b z1 z2 => by rw [← hK2, st_k z2, st_ne (by decide), st_k z1]
      have ki : ∀ c, c ≠ 1 → c ≠ 2 → c ≠ 45 → c ≠ 46 → c ≠ 65 → K c = I c := fun c z1 z2 z3 z4 z5 => by rw [ko c z3 z4, mo c z1 z2 z5]
      have kbi : ∀ b, b ≠ 0 → b ≠ 2 → K 45 b = I 45 b := fun b z1 z2 => by rw [kb b z1 z2, mo 45 (by decide) (by decide) (by decide)]
      refine ⟨⟨B ++ [v], ⟨g2.of ?_ ?_, ?_, fun j hj => ?_⟩⟩, ⟨th, us, N, hL.of (ki 3 (by decide) (by decide) (by decide) (by decide) (by decide)) (ki 4 (by decide) (by decide) (by decide) (by decide) (by decide)) (fun c q1 q2 => ki c (by omega) (by omega) (by omega) (by omega) (by omega)) (fun b q1 q2 => kbi b (by omega) (by omega)) (ki 47 (by decide) (by decide) (by decide) (by decide) (by decide)) (ki 48 (by decide) (by decide) (by decide) (by decide) (by decide)) (ki 49 (by decide) (by decide) (by decide) (by decide) (by decide)) (ki 50 (by decide) (by decide) (by decide) (by decide) (by decide))⟩, ⟨G, Ks, hK.of (ki 24 (by decide) (by decide) (by decide) (by decide) (by decide)) (fun c q1 q2 => ki c (by omega) (by omega) (by omega) (by omega) (by omega)) (kbi 30 (by decide) (by decide)) (ki 58 (by decide) (by decide) (by decide) (by decide) (by decide))⟩, ⟨gr, c, hP.of (fun b q => by rw [ki 35 (by decide) (by decide) (by decide) (by decide) (by decide)]) (fun b q => kbi b (by omega) (by omega))⟩, hD.of (fun b q => by rw [ki 35 (by decide) (by decide) (by decide) (by decide) (by decide)]) (fun w hw => by rw [ki (37 + 2 * w) (by omega) (by omega) (by omega) (by omega) (by omega)]) (ki 64 (by decide) (by decide) (by decide) (by decide) (by decide))⟩
      · rw [ko 1 (by decide) (by decide), ← hM, st_ne (by decide)]
      · rw [ko 2 (by decide) (by decide), ← hM, st_ne (by decide)]
      · rw [← hK2, st_s]; congr 1; simp
      · rw [← hK2, st_ne (by decide), st_at]
        by_cases z : j = B.length
        · subst z
          rw [if_pos ⟨rfl, rfl⟩]
          simp [List.getD_eq_getElem?_getD]
        · have hj2 : j < B.length := by simp at hj; omega
          rw [if_neg (fun y => z y.2), st_ne (by decide), mo 46 (by decide) (by decide) (by decide), b3 j hj2, getD_app_l hj2]
theorem empty_step {I : Mem} (h : Idle I) : ∃ a J K, f_X9_empty I = some (a, J) ∧ f_X10_empty J = some (a, K) ∧ Idle K := by
  obtain ⟨⟨B, b1, b2, b3⟩, ⟨th, us, N, hL⟩, ⟨G, Ks, hK⟩, ⟨gr, c, hP⟩, hD⟩ := h
  obtain ⟨J, g1, g2, g3⟩ := clear_eq (I := I) (i := 1)
  refine ⟨nI B.length, J, st (st J 45 0 0) 45 2 0, ?_, ?_, ?_⟩
  · unfold f_X9_empty
    rw [g1, b1.1]
    rfl
  · unfold f_X10_empty
    rw [st_k (by decide), g3 45 (by decide) (by decide), b2]
  · generalize hK2 : st (st J 45 0 0) 45 2 0 = K
    have ki : ∀ c, c ≠ 1 → c ≠ 2 → c ≠ 45 → K c = I c := fun c z1 z2 z3 => by rw [← hK2, st_ne z3, st_ne z3, g3 c z1 z2]
    have kbi : ∀ b, b ≠ 0 → b ≠ 2 → K 45 b = I 45 b := fun b z1 z2 => by rw [← hK2, st_k z2, st_k z1, g3 45 (by decide) (by decide)]
    refine ⟨⟨[], ⟨g2.of ?_ ?_, ?_, fun j hj => absurd hj (Nat.not_lt_zero j)⟩⟩, ⟨th, us, N, hL.of (ki 3 (by decide) (by decide) (by decide)) (ki 4 (by decide) (by decide) (by decide)) (fun c q1 q2 => ki c (by omega) (by omega) (by omega)) (fun b q1 q2 => kbi b (by omega) (by omega)) (ki 47 (by decide) (by decide) (by decide)) (ki 48 (by decide) (by decide) (by decide)) (ki 49 (by decide) (by decide) (by decide)) (ki 50 (by decide) (by decide) (by decide))⟩, ⟨G, Ks, hK.of (ki 24 (by decide) (by decide) (by decide)) (fun c q1 q2 => ki c (by omega) (by omega) (by omega)) (kbi 30 (by decide) (by decide)) (ki 58 (by decide) (by decide) (by decide))⟩, ⟨gr, c, hP.of (fun b q => by rw [ki 35 (by decide) (by decide) (by decide)]) (fun b q => kbi b (by omega) (by omega))⟩, hD.of (fun b q => by rw [ki 35 (by decide) (by decide) (by decide)]) (fun w hw => by rw [ki (37 + 2 * w) (by omega) (by omega) (by omega)]) (ki 64 (by decide) (by decide) (by decide))⟩
    · rw [← hK2, st_ne (by decide), st_ne (by decide)]
    · rw [← hK2, st_ne (by decide), st_ne (by decide)]
    · rw [← hK2, st_s]; rfl
theorem seen_step {I : Mem} (v : Int32) (h : Idle I) : ∃ a J K, f_X9_seen I v = some (a, J) ∧ f_X10_seen J v = some (a, K) ∧ Idle K := by
  have h0 := h
  obtain ⟨_, ⟨th, us, N, a1, a2, a3, a4, a5, a6, a7, a8, a9, b1, b2, b3, b4, b5, b6⟩, _, _, _⟩ := h
  have hid : Idle (st I 45 0 0) := h0.same (fun c z _ => st_ne z) (fun b z => st_k z)
  unfold f_X9_seen f_X10_seen
  by_cases q1 : v < 0
  · refine ⟨-1, I, st I 45 0 0, by rw [if_pos q1], ?_, hid⟩
    rw [if_pos q1]
    split <;> rfl
  · by_cases q2 : nI N ≤ v
    · refine ⟨-1, I, st I 45 0 0, by rw [if_neg q1, b3, if_pos q2], ?_, hid⟩
      rw [if_neg q1, st_k (show (9 : Nat) ≠ 0 by decide), b4, if_pos q2]
      split <;> rfl
    · obtain ⟨j, hj, rfl⟩ : ∃ j, j < N ∧ v = nI j := by
        rcases pk_ix v (show N < 2 ^ 31 by omega) with z | z | z
        · exact absurd z q1
        · exact absurd z q2
        · exact z
      have hth : th = true := by
        cases th with
        | true => rfl
        | false => have := b5 rfl; omega
      refine ⟨I (6 + 3 * j) 4, I, st I 45 0 0, ?_, ?_, hid⟩
      · rw [if_neg q1, b3, if_neg q2, if_pos (inb_nI (show j < ln 5 by show j < 6; omega) (by decide)), nI_clamp (by omega)]
      · rw [st_k (show (3 : Nat) ≠ 0 by decide), a2, hth, if_neg (show ¬ b2i true = 0 by decide), if_neg q1, st_k (show (9 : Nat) ≠ 0 by decide), b4, if_neg q2, if_pos (inb_nI (show j < ln 50 by show j < 6; omega) (by decide)), nI_clamp (by omega), st_ne (show (50 : Nat) ≠ 45 by decide), (b6 j hj).2.2.2.1]
theorem kept_step {I : Mem} (v : Int32) (h : Idle I) : ∃ cd r J K, f_L_kept I v = some (cd, J) ∧ f_X10_kept J v = some (r, K) ∧ StepI cd r K := by
  have h0 := h
  obtain ⟨_, _, ⟨G, Ks, hG, a1, a2, a3, a4, a5⟩, _, _⟩ := h
  have hl := hG.lt
  have hG2 : Gok (52 - G) := by rcases hG with rfl | rfl <;> simp [Gok]
  have hlen : Ks.length ≤ 600 := by have := a3.2.1; rw [hG2.ln] at this; exact this
  have hid1 : Idle (st I 45 0 1) := h0.same (fun c z _ => st_ne z) (fun b z => st_k z)
  unfold f_L_kept f_X9_kept
  by_cases q1 : v < 0
  · refine ⟨1, 0, I, st I 45 0 1, ?_, ?_, st_s, fun z => absurd z (by decide), hid1⟩
    · rw [if_pos q1]
      simp only [Option.bind_some, thI, if_true]
    · unfold f_X10_kept
      rw [if_pos q1, st_s, if_neg (by decide)]
  · by_cases q2 : nI Ks.length ≤ v
    · refine ⟨1, 0, I, st I 45 0 1, ?_, ?_, st_s, fun z => absurd z (by decide), hid1⟩
      · rw [if_neg q1, a2, hG2.cl, if_pos hG2.kd, a3.1, if_neg (nlt_of_le32 q2)]
        simp only [Option.bind_some, thI, if_true]
      · unfold f_X10_kept
        rw [if_neg q1, a4, if_pos q2, st_s, if_neg (by decide)]
    · obtain ⟨j, hj, rfl⟩ : ∃ j, j < Ks.length ∧ v = nI j := by
        rcases pk_ix v (show Ks.length < 2 ^ 31 by omega) with z | z | z
        · exact absurd z q1
        · exact absurd z q2
        · exact z
      refine ⟨0, Ks.getD j 0, st I 65 0 (Ks.getD j 0), st (st I 65 0 (Ks.getD j 0)) 45 0 0, ?_, ?_, st_s, fun _ => ?_, ?_⟩
      · rw [if_neg q1, a2, hG2.cl, if_pos hG2.kd, if_pos hG2.kd, a3.1, if_pos (lt_of_nle32 q2), hG2.ln, if_pos (inb_nI (by omega) (by omega)), nI_clamp (by omega), a3.2.2 j hj]
        simp only [Option.bind_some, thI, cl0]
      · unfold f_X10_kept
        rw [if_neg q1, st_ne (show (45 : Nat) ≠ 65 by decide), a4, if_neg q2, st_s, if_pos rfl, if_pos (inb_nI (show j < ln 58 by show j < 600; omega) (by decide)), nI_clamp (by omega), st_ne (show (58 : Nat) ≠ 45 by decide), st_ne (show (58 : Nat) ≠ 65 by decide), a5 j hj]
      · rw [st_ne (by decide), st_s]
      · exact h0.same (fun c z1 z2 => by rw [st_ne z1, st_ne z2]) (fun b z => by rw [st_k z, st_ne (by decide)])
theorem pooled_step {I : Mem} (v : Int32) (h : Idle I) : ∃ a J K, f_X9_pooled I v = some (a, J) ∧ f_X10_pooled J v = some (a, K) ∧ Idle K := by
  have h0 := h
  obtain ⟨_, _, _, _, d1, d2, d3, d4⟩ := h
  have hid : Idle (st I 45 0 0) := h0.same (fun c z _ => st_ne z) (fun b z => st_k z)
  have hM : ∀ j, j < 7 → f_X10_pooled I (nI j) = some (I 64 j, st I 45 0 0) := by
    intro j hj
    unfold f_X10_pooled
    rw [if_neg (nI_pos (by omega)), show (7 : Int32) = nI 7 from rfl, if_neg (nI_ge hj (by omega)), if_pos (inb_nI (show j < ln 64 from hj) (by decide)), nI_clamp (by omega), st_ne (by decide)]
  unfold f_X9_pooled
  by_cases q0 : v = 0
  · refine ⟨I 64 0, I, st I 45 0 0, by rw [if_pos q0, d1], by rw [q0]; exact hM 0 (by omega), hid⟩
  rw [if_neg q0]
  by_cases q1 : v = 1
  · refine ⟨I 64 1, I, st I 45 0 0, ?_, by rw [q1]; exact hM 1 (by omega), hid⟩
    rw [if_pos q1]
    have : f_X0_allDone I = some (I 64 1, I) := by
      have w0 := d3 0 (by omega)
      have w1 := d3 1 (by omega)
      have w2 := d3 2 (by omega)
      have w3 := d3 3 (by omega)
      unfold f_X0_allDone
      have step : ∀ (n : Nat) (a x : Int32), f_X0_allDone_L4 (n + 1) I a x = if (4 : Int32) ≤ x then (some (a, I)) else (if inb x (ln 36) = true then (f_X0_allDone_L4 n I (a + (I (37 + 2 * x.toNatClampNeg) 3)) (x + (1 : Int32))) else none) := fun _ _ _ => rfl
      rw [show FU = 4995 + 1 + 1 + 1 + 1 + 1 from rfl, step, if_neg (by decide), if_pos (by decide), step, if_neg (by decide), if_pos (by decide), step, if_neg (by decide), if_pos (by decide), step, if_neg (by decide), if_pos (by decide), step, if_pos (by decide)]
      rw [d4, ← w0, ← w1, ← w2, ← w3]
      rfl
    rw [this]
    rfl
  rw [if_neg q1]
  by_cases q2 : v = 2
  · refine ⟨I 64 2, I, st I 45 0 0, by rw [if_pos q2, d2], by rw [q2]; exact hM 2 (by omega), hid⟩
  rw [if_neg q2, within_eq]
  simp only [Option.bind_some, b2i_0]
  cases hr : inR v 3 6 with
  | true =>
    obtain ⟨m, m1, m2, rfl⟩ := inR_nI (a := 3) (b := 6) (by decide) (by decide) hr
    obtain ⟨w, rfl⟩ : ∃ w, m = 3 + w := ⟨m - 3, by omega⟩
    refine ⟨I 64 (3 + w), I, st I 45 0 0, ?_, hM (3 + w) (by omega), hid⟩
    rw [if_neg (by decide), show (3 : Int32) = nI 3 from rfl, pk_sub (by omega), show 3 + w - 3 = w by omega, if_pos (inb_nI (show w < ln 36 by show w < 4; omega) (by decide)), nI_clamp (by omega), d3 w (by omega)]
  | false =>
    refine ⟨-1, I, st I 45 0 0, by rw [if_pos rfl], ?_, hid⟩
    unfold f_X10_pooled
    by_cases z1 : v < 0
    · rw [if_pos z1]
    · rw [if_neg z1, if_pos]
      unfold inR at hr
      split at hr
      · rename_i z
        exfalso
        rw [i32l, t3] at z
        rw [i32l, t0] at z1
        rw [i32e, t0] at q0
        rw [i32e, t1] at q1
        rw [i32e, t2] at q2
        omega
      · split at hr
        · rename_i z
          rw [i32l, t6] at z
          rw [i32le, t7]
          omega
        · exact absurd hr.symm Bool.false_ne_true
