theorem src_idle {I : Mem} {B : List Int32} {N : Nat} (hB : IdB I B) (hL : IdL I true false N) : SrcIs I 0 (srcL B (I 45 5) (I 45 6) (I 45 7) (I 45 8)) := by
  obtain ⟨a1, a2, a3, a4, a5, a6, a7, a8, a9, b1, b2, b3, b4, b5, b6⟩ := hL
  obtain ⟨c1, c2⟩ := b1 rfl
  have c3 := c2 rfl
  rcases a8 with q | q | q
  · refine .inr (.inr ⟨by rw [a5, q], by omega, ?_⟩)
    rw [a6 rfl, a7 rfl, c3, q]
    rfl
  · refine .inl ⟨by rw [a5, q], B, hB.1, Nat.zero_le _, c1, ?_⟩
    rw [q, List.drop_zero]
    rfl
  · obtain ⟨m, m1, m2⟩ := a9 q
    refine .inr (.inl ⟨by rw [a5, q], m, m1, by rw [a6 rfl, m2], Nat.zero_le _, c1, ?_⟩)
    rw [c3, q, m2, Nat.sub_zero]
    show up (I 45 6) (nI m).toNatClampNeg = _
    rw [nI_clamp (by omega)]
theorem fw0 {k a n : Int32} (N : Nat) (hk : isEndS k a n = true) : FW (eOf k a n) N (N + 1) ((fun _ => sg0), es0 k n, 0, false) := by
  refine ⟨Nat.zero_le _, fun j hj => ⟨?_, Nat.le_refl _, List.Pairwise.nil⟩, es0_EW k a n hk, ?_⟩
  · rw [if_neg (by omega)]; exact Nat.le_refl _
  · rw [if_neg (by omega)]; exact Nat.le_refl _
/-- the program begins a run -/
theorem use_eq {I : Mem} {G N : Nat} {k a n : Int32} (hG : Gok G) (h24 : I 24 0 = nI G) (hL : IdL I true false N) (hk : isEndS k a n = true) : ∃ J, f_X9_useLine I k a n = some J ∧ EndIs J G (eOf k a n) (es0 k n) ∧ (∀ j, j < N → StIs J (6 + 3 * j) (fun b => I (6 + 3 * j) b) sg0) ∧ (∀ c, c ≠ 3 → c ≠ 24 → c ≠ G → c ≠ G + 1 → J c = I c) ∧ (∀ b, b ≠ 4 → J 3 b = I 3 b) ∧ J 3 4 = 1 ∧ J 24 1 = I 24 1 := by
  obtain ⟨J, g1, g2, g3, g4⟩ := begin_eq (I := st I 3 4 1) hG k a n (by rw [st_ne (by decide)]; exact h24) hk
  have hl := hG.lt
  have go : ∀ c, c ≠ 3 → c ≠ 24 → c ≠ G → c ≠ G + 1 → J c = I c := fun c z1 z2 z3 z4 => by rw [g3 c z2 z3 z4, st_ne z1]
  have g33 : J 3 = (st I 3 4 1) 3 := g3 3 (by decide) (by omega) (by omega)
  refine ⟨J, ?_, g2, fun j hj => ?_, go, fun b z => by rw [g33, st_k z], by rw [g33, st_s], by rw [g4, st_ne (by decide)]⟩
  · unfold f_X9_useLine
    rw [g1]
    rfl
  · obtain ⟨a1, a2, a3, a4, a5, a6, a7, a8, a9, b1, b2, b3, b4, b5, b6⟩ := hL
    obtain ⟨c1, c2, c3, c4, c5, c6⟩ := b6 j hj
    obtain ⟨d1, d2, d3⟩ := c6 rfl
    have h0 := go (6 + 3 * j) (by omega) (by omega) (by omega) (by omega)
    refine ⟨by rw [h0], by rw [h0], by rw [h0], by rw [h0]; exact d1, by rw [h0]; exact d2, d3.of ?_ ?_⟩
    · rw [go (6 + 3 * j + 1) (by omega) (by omega) (by omega) (by omega)]
    · rw [go (6 + 3 * j + 1 + 1) (by omega) (by omega) (by omega) (by omega)]
def lawS (o : Int32 ⊕ String) (J : Mem) : Mem := match o with
  | .inl r => st J 65 0 r
  | .inr _ => J
theorem outS_cases (e : Nat → Int32) (ok : Bool) (s : Es) : (∃ v, outS e ok s = .inl v) ∨ outS e ok s = .inr "java/lang/UnsupportedOperationException" ∨ outS e ok s = .inr "java/util/NoSuchElementException" := by
  unfold outS
  repeat' split
  · exact .inr (.inl rfl)
  · exact .inr (.inr rfl)
  · exact .inl ⟨_, rfl⟩
theorem sU1 : ¬ "java/lang/UnsupportedOperationException" = "java/lang/IllegalStateException" := by decide
theorem sU2 : ¬ "java/lang/UnsupportedOperationException" = "java/lang/IllegalArgumentException" := by decide
theorem sN1 : ¬ "java/util/NoSuchElementException" = "java/lang/IllegalStateException" := by decide
theorem sN2 : ¬ "java/util/NoSuchElementException" = "java/lang/IllegalArgumentException" := by decide
theorem sN3 : ¬ "java/util/NoSuchElementException" = "java/lang/UnsupportedOperationException" := by decide
theorem lawS_o (o : Int32 ⊕ String) (J : Mem) (c : Nat) (hc : c ≠ 65) : lawS o J c = J c := by
  cases o with
  | inl r => exact st_ne hc
  | inr E => rfl
/-- what the law's helper makes of the outcome of a run -/
theorem law_out (e : Nat → Int32) (ok : Bool) (s : Es) (J : Mem) : (thI (outS e ok s) (fun E => if E = "java/lang/IllegalStateException" then (some ((1 : Int32), J)) else (if E = "java/lang/IllegalArgumentException" then (some ((2 : Int32), J)) else (if E = "java/lang/UnsupportedOperationException" then (some ((3 : Int32), J)) else (if E = "java/util/NoSuchElementException" then (some ((4 : Int32), J)) else (none))))) (fun r6 => some ((0 : Int32), (st J 65 (0 : Int32).toNatClampNeg r6)))) = some (codeS (outS e ok s), lawS (outS e ok s) J) := by
  rcases outS_cases e ok s with ⟨v, q⟩ | q | q
  · rw [q]; rfl
  · rw [q]
    simp only [thI, if_neg sU1, if_neg sU2, if_true]
    rfl
  · rw [q]
    simp only [thI, if_neg sN1, if_neg sN2, if_neg sN3, if_true]
    show some ((4 : Int32), J) = some ((if "java/util/NoSuchElementException" = "java/lang/UnsupportedOperationException" then (3 : Int32) else 4), J)
    rw [if_neg sN3]
theorem thI_id {o : Int32 ⊕ String} {J : Mem} : (thI o (fun E => some ((Sum.inr E : Int32 ⊕ String), J)) (fun r6 => some ((Sum.inl r6 : Int32 ⊕ String), J))) = some (o, J) := by
  cases o <;> rfl
/-- after a run: program and reference stand alike again -/
theorem idle_after {I J3 K : Mem} {B Ks : List Int32} {N G gr c : Nat} {k a n : Int32} {g : Nat → Sg} {s : Es} (ok : Bool) (o : Int32 ⊕ String)
    (hB : IdB I B) (hL : IdL I true false N) (hK : IdK I G Ks) (hP : IdP I gr c)
    (c3 : ∀ c, c < 3 ∨ c = 52 - G ∨ c = 53 - G → J3 c = I c) (c33 : ∀ b, b ≠ 4 → J3 3 b = I 3 b) (c34 : J3 3 4 = 1) (c41 : J3 4 1 = I 4 1)
    (cst : ∀ j, j < N → StIs J3 (6 + 3 * j) (fun b => I (6 + 3 * j) b) (g j)) (crow : RowIs J3 G s.2.2.2)
    (c240 : J3 24 0 = if (kpS (eOf k a n) ok) = true then nI (52 - G) else nI G) (c241 : J3 24 1 = if (kpS (eOf k a n) ok) = true then nI G else nI (52 - G))
    (c35 : ∀ b, b = 1 ∨ b = 2 ∨ b = 3 → J3 35 b = I 35 b)
    (kc : ∀ c, c < 45 → K c = lawS o J3 c) (k46 : K 46 = I 46) (k4 : K 45 4 = 1)
    (k45 : ∀ b, b = 2 ∨ b = 3 ∨ b = 5 ∨ b = 6 ∨ b = 7 ∨ b = 8 ∨ b = 9 ∨ b = 36 ∨ b = 37 ∨ b = 38 → K 45 b = I 45 b)
    (k47 : K 47 = I 47) (k48 : K 48 = I 48) (k49 : K 49 = I 49) (k50 : ∀ j, j < N → K 50 j = nI (g j).1)
    (kk1 : kpS (eOf k a n) ok = true → K 45 30 = nI s.2.2.2.length ∧ ∀ j, j < s.2.2.2.length → K 58 j = s.2.2.2.getD j 0) (kk2 : kpS (eOf k a n) ok = false → K 45 30 = I 45 30 ∧ K 58 = I 58)
    (kD : IdD K) : Idle K := by
  have kJ : ∀ c, c < 45 → K c = J3 c := fun c q => by rw [kc c q, lawS_o _ _ _ (by omega)]
  obtain ⟨hG, e1', e2', e3', e4', e5'⟩ := hK
  have hl := hG.lt
  refine ⟨⟨B, hB.of (by rw [kJ 1 (by decide), c3 1 (by omega)]) (by rw [kJ 2 (by decide), c3 2 (by omega)]) (k45 2 (by omega)) k46⟩, ⟨true, true, N, ?_⟩, ?_, ⟨gr, c, hP.of (fun b q => by rw [kJ 35 (by decide), c35 b q]) (fun b q => k45 b (by omega))⟩, kD⟩
  · obtain ⟨a1, a2, a3, a4, a5, a6, a7, a8, a9, b1, b2, b3, b4, b5, b6⟩ := hL
    refine ⟨?_, ?_, ?_, ?_, ?_, fun z => absurd z (by decide), fun z => absurd z (by decide), ?_, ?_, fun z => absurd z (by decide), b2, ?_, ?_, fun z => absurd z (by decide), fun j hj => ?_⟩
    · rw [kJ 3 (by decide), c33 3 (by decide)]; exact a1
    · rw [k45 3 (by omega)]; exact a2
    · rw [kJ 3 (by decide), c34]; rfl
    · rw [k4]; rfl
    · rw [kJ 4 (by decide), c41, k45 5 (by omega)]; exact a5
    · rw [k45 5 (by omega)]; exact a8
    · rw [k45 5 (by omega), k45 7 (by omega)]; exact a9
    · rw [kJ 3 (by decide), c33 2 (by decide)]; exact b3
    · rw [k45 9 (by omega)]; exact b4
    · obtain ⟨u1, u2, u3, u4, u5, u6⟩ := b6 j hj
      obtain ⟨s1, s2, s3, s4, s5, s6⟩ := cst j hj
      rw [kJ (6 + 3 * j) (by omega), s1, s2, s3, s4, k47, k48, k49, k50 j hj]
      exact ⟨u1, u2, u3, rfl, u5, fun z => absurd z (by decide)⟩
  · cases hkp : kpS (eOf k a n) ok with
    | true =>
      obtain ⟨w1, w2⟩ := kk1 hkp
      rw [hkp, if_pos rfl] at c240 c241
      have hGG : 52 - (52 - G) = G := by omega
      refine ⟨52 - G, s.2.2.2, ?_, by rw [kJ 24 (by decide)]; exact c240, by rw [kJ 24 (by decide), hGG]; exact c241, ?_, w1, w2⟩
      · rcases hG with rfl | rfl <;> simp [Gok]
      · rw [hGG]
        exact crow.of (by rw [kJ G (by omega)]) (kJ (G + 1) (by omega))
    | false =>
      obtain ⟨w1, w2⟩ := kk2 hkp
      rw [hkp, if_neg Bool.false_ne_true] at c240 c241
      refine ⟨G, Ks, hG, by rw [kJ 24 (by decide)]; exact c240, by rw [kJ 24 (by decide)]; exact c241, ?_, by rw [w1]; exact e4', by rw [w2]; exact e5'⟩
      exact e3'.of (by rw [kJ (52 - G) (by omega), c3 (52 - G) (by omega)]) (by rw [kJ (52 - G + 1) (by omega), c3 (52 - G + 1) (by omega)])
