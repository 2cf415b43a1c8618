/-! the reference begins an end, and answers -/
def sg0 : Sg := (0, false, [])
def BeOnly (I J : Mem) : Prop := (∀ c, c ≠ 45 → c ≠ 50 → c ≠ 51 → c ≠ 52 → c ≠ 57 → J c = I c) ∧ (∀ b, b ≠ 4 → b ≠ 21 → b ≠ 22 → b ≠ 23 → b ≠ 24 → b ≠ 25 → b ≠ 26 → b ≠ 27 → b ≠ 28 → J 45 b = I 45 b)
theorem be101_L {k : Int32} (p0 p1 p2 : Int32) : ∀ (r i n : Nat) (I : Mem), i + r = 8 → r < n → (∀ j, j < i → I 57 j = 0) →
    ∃ J, f_X10_beginEnd_L101 p0 p1 p2 n I k (nI i) = some J ∧ (k = 10 → ∀ j, j < 8 → J 57 j = 0) ∧ (∀ c, c ≠ 45 → c ≠ 57 → J c = I c) ∧ (∀ b, b ≠ 4 → b ≠ 21 → b ≠ 22 → J 45 b = I 45 b) ∧ J 45 4 = 1 ∧ J 45 21 = 0 ∧ J 45 22 = 0 := by
  have fin : ∀ I : Mem, (∀ c, c ≠ 45 → (st (st (st I 45 4 (1 : Int32)) 45 22 (0 : Int32)) 45 21 (0 : Int32)) c = I c) ∧ (∀ b, b ≠ 4 → b ≠ 21 → b ≠ 22 → (st (st (st I 45 4 (1 : Int32)) 45 22 (0 : Int32)) 45 21 (0 : Int32)) 45 b = I 45 b) ∧ (st (st (st I 45 4 (1 : Int32)) 45 22 (0 : Int32)) 45 21 (0 : Int32)) 45 4 = 1 ∧ (st (st (st I 45 4 (1 : Int32)) 45 22 (0 : Int32)) 45 21 (0 : Int32)) 45 21 = 0 ∧ (st (st (st I 45 4 (1 : Int32)) 45 22 (0 : Int32)) 45 21 (0 : Int32)) 45 22 = 0 := by
    intro I
    refine ⟨fun c q => by rw [st_ne q, st_ne q, st_ne q], fun b q1 q2 q3 => by rw [st_k q2, st_k q3, st_k q1], ?_, ?_, ?_⟩
    · rw [st_k (by decide), st_k (by decide), st_s]
    · rw [st_s]
    · rw [st_k (by decide), st_s]
  intro r
  induction r with
  | zero =>
    intro i n I hi hn h
    obtain ⟨n, rfl⟩ : ∃ m, n = m + 1 := ⟨n - 1, by omega⟩
    obtain ⟨f1, f2, f3, f4, f5⟩ := fin I
    unfold f_X10_beginEnd_L101
    rw [show (8 : Int32) = nI 8 from rfl, if_pos (nI_le (by omega) (by omega))]
    exact ⟨_, rfl, fun _ j hj => by rw [f1 57 (by decide)]; exact h j (by omega), fun c q _ => f1 c q, f2, f3, f4, f5⟩
  | succ r ih =>
    intro i n I hi hn h
    obtain ⟨n, rfl⟩ : ∃ m, n = m + 1 := ⟨n - 1, by omega⟩
    obtain ⟨f1, f2, f3, f4, f5⟩ := fin I
    unfold f_X10_beginEnd_L101
    rw [show (8 : Int32) = nI 8 from rfl, if_neg (nI_ge (by omega) (by omega))]
    by_cases c : k = 10
    · rw [if_pos c, if_pos (inb_nI (show i < ln 57 by show i < 600; omega) (by decide)), nI_clamp (by omega), nI_1]
      obtain ⟨J, g1, g2, g3, g4⟩ := ih (i + 1) n (st I 57 i 0) (by omega) (by omega) (fun j hj => by
        by_cases z : j = i
        · subst z; rw [st_s]
        · rw [st_k z]; exact h j (by omega))
      refine ⟨J, g1, g2, fun c q1 q2 => by rw [g3 c q1 q2, st_ne q2], fun b q1 q2 q3 => by rw [g4.1 b q1 q2 q3, st_ne (by decide)], g4.2⟩
    · rw [if_neg c]
      exact ⟨_, rfl, fun q => absurd q c, fun c q _ => f1 c q, f2, f3, f4, f5⟩
theorem be59_L {N : Nat} {k : Int32} (p0 p1 p2 : Int32) (hN : N ≤ 6) : ∀ (r i n : Nat) (I : Mem), i + r = N → r < n → I 45 9 = nI N → (∀ j, j < i → I 50 j = 0 ∧ I 51 j = 0 ∧ I 52 j = 0) →
    ∃ J, f_X10_beginEnd_L59 p0 p1 p2 n I k (nI i) = some J ∧ (k = 10 → ∀ j, j < 8 → J 57 j = 0) ∧ (∀ j, j < N → J 50 j = 0 ∧ J 51 j = 0 ∧ J 52 j = 0) ∧ (∀ c, c ≠ 45 → c ≠ 50 → c ≠ 51 → c ≠ 52 → c ≠ 57 → J c = I c) ∧ (∀ b, b ≠ 4 → b ≠ 21 → b ≠ 22 → J 45 b = I 45 b) ∧ J 45 4 = 1 ∧ J 45 21 = 0 ∧ J 45 22 = 0 := by
  intro r
  induction r with
  | zero =>
    intro i n I hi hn h9 h
    obtain ⟨n, rfl⟩ : ∃ m, n = m + 1 := ⟨n - 1, by omega⟩
    unfold f_X10_beginEnd_L59
    rw [h9, if_pos (nI_le (by omega) (by omega)), e0]
    obtain ⟨J, g1, g2, g3, g4⟩ := be101_L (k := k) p0 p1 p2 8 0 FU I (by omega) (by rw [FU_eq]; omega) (fun j hj => absurd hj (Nat.not_lt_zero j))
    rw [← e0] at g1 ⊢
    refine ⟨J, g1, g2, fun j hj => ?_, fun c q1 _ _ _ q5 => g3 c q1 q5, g4⟩
    rw [g3 50 (by decide) (by decide), g3 51 (by decide) (by decide), g3 52 (by decide) (by decide)]
    exact h j (by omega)
  | succ r ih =>
    intro i n I hi hn h9 h
    obtain ⟨n, rfl⟩ : ∃ m, n = m + 1 := ⟨n - 1, by omega⟩
    unfold f_X10_beginEnd_L59
    rw [h9, if_neg (nI_ge (by omega) (by omega)), if_pos (inb_nI (show i < ln 50 by show i < 6; omega) (by decide)), if_pos (inb_nI (show i < ln 51 by show i < 6; omega) (by decide)), if_pos (inb_nI (show i < ln 52 by show i < 6; omega) (by decide)), nI_clamp (by omega), nI_1]
    obtain ⟨J, g1, g2, g3, g4, g5⟩ := ih (i + 1) n (st (st (st I 50 i 0) 51 i 0) 52 i (vp_nar .boolean 0)) (by omega) (by omega) (by rw [st_ne (by decide), st_ne (by decide), st_ne (by decide)]; exact h9) (fun j hj => by
      by_cases z : j = i
      · subst z
        refine ⟨?_, ?_, ?_⟩
        · rw [st_ne (by decide), st_ne (by decide), st_s]
        · rw [st_ne (by decide), st_s]
        · rw [st_s]; rfl
      · obtain ⟨u1, u2, u3⟩ := h j (by omega)
        refine ⟨?_, ?_, ?_⟩
        · rw [st_ne (by decide), st_ne (by decide), st_k z]; exact u1
        · rw [st_ne (by decide), st_k z, st_ne (by decide)]; exact u2
        · rw [st_k z, st_ne (by decide), st_ne (by decide)]; exact u3)
    refine ⟨J, g1, g2, g3, fun c q1 q2 q3 q4 q5 => ?_, fun b q1 q2 q3 => ?_, g5.2⟩
    · rw [g4 c q1 q2 q3 q4 q5, st_ne q4, st_ne q3, st_ne q2]
    · rw [g5.1 b q1 q2 q3, st_ne (by decide), st_ne (by decide), st_ne (by decide)]
theorem posc_rep : ∀ m, posc (List.replicate m 0) = 0
  | 0 => rfl
  | m + 1 => by
    rw [List.replicate_succ]
    unfold posc
    rw [if_pos rfl, posc_rep m]
theorem beginEnd_eq {I : Mem} {N : Nat} (hN : N ≤ 6) (h9 : I 45 9 = nI N) (k a n : Int32) (hk : isEndS k a n = true) : ∃ J, f_X10_beginEnd I k a n = some J ∧ EndM J (eOf k a n) (es0 k n) ∧ (∀ j, j < N → J 50 j = 0 ∧ J 51 j = 0 ∧ J 52 j = 0) ∧ BeOnly I J ∧ J 45 4 = 1 ∧ J 45 21 = 0 ∧ J 45 22 = 0 := by
  have main : ∀ v : Int32, valM (eOf k a n) (es0 k n) = v → ∃ J, f_X10_beginEnd_L59 k a n FU (st (st (st (st (st (st I 45 23 k) 45 24 a) 45 25 n) 45 26 (0 : Int32)) 45 28 (0 : Int32)) 45 27 v) k (0 : Int32) = some J ∧ EndM J (eOf k a n) (es0 k n) ∧ (∀ j, j < N → J 50 j = 0 ∧ J 51 j = 0 ∧ J 52 j = 0) ∧ BeOnly I J ∧ J 45 4 = 1 ∧ J 45 21 = 0 ∧ J 45 22 = 0 := by
    intro v hv
    generalize hM : st (st (st (st (st (st I 45 23 k) 45 24 a) 45 25 n) 45 26 (0 : Int32)) 45 28 (0 : Int32)) 45 27 v = M
    have mo : ∀ c, c ≠ 45 → M c = I c := fun c q => by rw [← hM, st_ne q, st_ne q, st_ne q, st_ne q, st_ne q, st_ne q]
    have mb : ∀ b, b ≠ 23 → b ≠ 24 → b ≠ 25 → b ≠ 26 → b ≠ 27 → b ≠ 28 → M 45 b = I 45 b := fun b q1 q2 q3 q4 q5 q6 => by rw [← hM, st_k q5, st_k q6, st_k q4, st_k q3, st_k q2, st_k q1]
    have m23 : M 45 23 = k := by rw [← hM]; simp [st_at]
    have m24 : M 45 24 = a := by rw [← hM]; simp [st_at]
    have m25 : M 45 25 = n := by rw [← hM]; simp [st_at]
    have m26 : M 45 26 = 0 := by rw [← hM]; simp [st_at]
    have m27 : M 45 27 = v := by rw [← hM]; simp [st_at]
    have m28 : M 45 28 = 0 := by rw [← hM]; simp [st_at]
    obtain ⟨J, g1, g2, g3, g4, g5, g6⟩ := be59_L (k := k) k a n hN N 0 FU M (by omega) (by rw [FU_eq]; omega) (by rw [mb 9 (by decide) (by decide) (by decide) (by decide) (by decide) (by decide)]; exact h9) (fun j hj => absurd hj (Nat.not_lt_zero j))
    rw [← e0] at g1
    refine ⟨J, g1, ⟨?_, ?_, ?_, ?_, ?_, ?_, fun q j hj => ?_⟩, g3, ⟨fun c q1 q2 q3 q4 q5 => by rw [g4 c q1 q2 q3 q4 q5, mo c q1], fun b q1 q2 q3 q4 q5 q6 q7 q8 q9 => by rw [g5 b q1 q2 q3, mb b q4 q5 q6 q7 q8 q9]⟩, g6⟩
    · rw [g5 23 (by decide) (by decide) (by decide), m23]; rfl
    · rw [g5 24 (by decide) (by decide) (by decide), m24]; rfl
    · rw [g5 25 (by decide) (by decide) (by decide), m25]; rfl
    · rw [g5 26 (by decide) (by decide) (by decide), m26]; rfl
    · rw [g5 27 (by decide) (by decide) (by decide), m27, hv]
    · rw [g5 28 (by decide) (by decide) (by decide), m28]; rfl
    · rcases q with q | q
      · have q' : k = 9 := q
        subst q'
        exact absurd hj (Nat.not_lt_zero j)
      · have q' : k = 10 := q
        subst q'
        have hn : inR n 1 8 = true := by
          have := hk
          unfold isEndS at this
          rw [if_neg (by decide), if_neg (by decide), if_neg (by decide), if_neg (by decide), if_pos rfl] at this
          exact this
        obtain ⟨m, m1, m2, rfl⟩ := inR_nI (a := 1) (b := 8) (by decide) (by decide) hn
        have hl : (es0 10 (nI m)).2.2.2 = List.replicate m 0 := by
          show List.replicate (nI m).toNatClampNeg 0 = _
          rw [nI_clamp (by omega)]
        rw [hl] at hj ⊢
        rw [List.length_replicate] at hj
        rw [g2 rfl j (by omega), List.getD_eq_getElem?_getD, List.getElem?_replicate]
        split <;> rfl
  unfold f_X10_beginEnd
  by_cases c8 : k = 8
  · rw [if_pos c8]
    exact main n (by subst c8; rfl)
  rw [if_neg c8]
  by_cases c6 : k = 6
  · rw [if_pos c6]
    exact main 1 (by subst c6; rfl)
  rw [if_neg c6]
  by_cases c7 : k = 7
  · rw [if_pos c7]
    exact main 1 (by subst c7; rfl)
  rw [if_neg c7]
  refine main 0 ?_
  unfold valM
  rw [eOf_2, if_neg c6, if_neg c7]
  by_cases c5 : k = 5
  · rw [if_pos c5]; rfl
  · rw [if_neg c5]
    by_cases c10 : k = 10
    · rw [if_pos c10]
      subst c10
      show nI (posc (List.replicate n.toNatClampNeg 0)) = 0
      rw [posc_rep]; rfl
    · rw [if_neg c10]
      show (if k = 8 then n else 0) = 0
      rw [if_neg c8]
theorem be_MSt {I J : Mem} {k : Nat} {q : Nat → Int32} (h1 : I 47 k = q 1) (h2 : I 48 k = q 2) (h3 : I 49 k = q 3) (hJ : BeOnly I J) (h : J 50 k = 0 ∧ J 51 k = 0 ∧ J 52 k = 0) : MSt J k q sg0 false := by
  obtain ⟨a, b, c⟩ := h
  have j0 : HM J k [] := ⟨b, fun j hj => absurd hj (Nat.not_lt_zero j)⟩
  refine ⟨by rw [hJ.1 47 (by decide) (by decide) (by decide) (by decide) (by decide)]; exact h1, by rw [hJ.1 48 (by decide) (by decide) (by decide) (by decide) (by decide)]; exact h2, by rw [hJ.1 49 (by decide) (by decide) (by decide) (by decide) (by decide)]; exact h3, a, fun _ => b, fun _ => c, fun _ => ⟨[], rfl, fun _ => Iff.rfl, j0⟩, fun _ => ⟨j0, c⟩⟩
theorem ans_L {len : Nat} (hl : len ≤ 600) : ∀ (r i n : Nat) (I : Mem), i + r = len → r < n → I 45 30 = nI len → (∀ j, j < i → I 58 j = I 57 j) →
    ∃ J, f_X10_answer_L86 n I (nI i) = f_X10_answer_J112 J ∧ (∀ j, j < len → J 58 j = I 57 j) ∧ (∀ c, c ≠ 58 → J c = I c) := by
  intro r
  induction r with
  | zero =>
    intro i n I hi hn h30 h
    obtain ⟨n, rfl⟩ : ∃ m, n = m + 1 := ⟨n - 1, by omega⟩
    unfold f_X10_answer_L86
    rw [h30, if_pos (nI_le (by omega) (by omega))]
    exact ⟨I, rfl, fun j hj => h j (by omega), fun _ _ => rfl⟩
  | succ r ih =>
    intro i n I hi hn h30 h
    obtain ⟨n, rfl⟩ : ∃ m, n = m + 1 := ⟨n - 1, by omega⟩
    unfold f_X10_answer_L86
    rw [h30, if_neg (nI_ge (by omega) (by omega)), if_pos (inb_nI (show i < ln 57 by show i < 600; omega) (by decide)), if_pos (inb_nI (show i < ln 58 by show i < 600; omega) (by decide)), nI_clamp (by omega), nI_1]
    obtain ⟨J, g1, g2, g3⟩ := ih (i + 1) n (st I 58 i (I 57 i)) (by omega) (by omega) (by rw [st_ne (by decide)]; exact h30) (fun j hj => by
      rw [st_ne (show (57 : Nat) ≠ 58 by decide)]
      by_cases z : j = i
      · subst z; rw [st_s]
      · rw [st_k z]; exact h j (by omega))
    refine ⟨J, g1, fun j hj => ?_, fun c q => by rw [g3 c q, st_ne q]⟩
    rw [g2 j hj, st_ne (by decide)]
def codeS (o : Int32 ⊕ String) : Int32 := match o with
  | .inl _ => 0
  | .inr s => if s = "java/lang/UnsupportedOperationException" then 3 else 4
def valS (o : Int32 ⊕ String) : Int32 := match o with
  | .inl v => v
  | .inr _ => 0
theorem answer_eq {I : Mem} {e : Nat → Int32} {s : Es} (ok : Bool) (h : EndM I e s) (hw : EW e s) (hs : s.1 ≤ 600) (h22 : I 45 22 = b2i (!ok)) (h00 : I 45 0 = 0) :
    ∃ J, f_X10_answer I = some (valS (outS e ok s), J) ∧ J 45 0 = codeS (outS e ok s) ∧ (kpS e ok = true → J 45 30 = nI s.2.2.2.length ∧ ∀ j, j < s.2.2.2.length → J 58 j = s.2.2.2.getD j 0) ∧ (kpS e ok = false → J 45 30 = I 45 30 ∧ J 58 = I 58) ∧ (∀ c, c ≠ 45 → c ≠ 58 → J c = I c) ∧ (∀ b, b ≠ 0 → b ≠ 30 → J 45 b = I 45 b) := by
  obtain ⟨a, b, c, d, f, g, k⟩ := h
  unfold f_X10_answer f_X10_refuse outS
  rw [h22, a, d]
  simp only [b2i_0, Option.bind_some]
  cases ok with
  | false =>
    simp only [Bool.not_false, Bool.true_eq_false, if_false, if_true]
    refine ⟨_, rfl, ?_, fun q => absurd q (by simp [kpS]), fun _ => ⟨?_, ?_⟩, fun c q _ => st_ne q, fun b q _ => st_k q⟩
    · rw [st_s]; rfl
    · rw [st_k (by decide)]
    · rw [st_ne (by decide)]
  | true =>
    simp only [Bool.not_true, Bool.true_eq_false, if_false, if_true]
    have h0 : (nI s.1 = 0) = (s.1 = 0) := propext ⟨fun q => (nI_eq (by omega) (by omega)).mp (q.trans e0), fun q => by rw [q]; rfl⟩
    have h112 : ∀ J : Mem, (∀ b, b = 23 ∨ b = 26 ∨ b = 27 → J 45 b = I 45 b) → f_X10_answer_J112 J = some (resS e s, J) := by
      intro J hJ
      unfold f_X10_answer_J112 resS
      rw [hJ 23 (by omega), hJ 26 (by omega), hJ 27 (by omega), a, d, f]
      unfold valM
      by_cases z0 : e 2 = 0
      · rw [if_pos z0, if_pos z0]
      rw [if_neg z0, if_neg z0]
      by_cases z9 : e 2 = 9
      · rw [if_pos z9, if_pos z9]
        rw [if_neg (by rw [z9]; decide), if_neg (by rw [z9]; decide), if_neg (by rw [z9]; decide)]
      rw [if_neg z9, if_neg z9]
    have h42 : ∃ J, f_X10_answer_J42 I = some (resS e s, J) ∧ J 45 0 = 0 ∧ (kpS e true = true → J 45 30 = nI s.2.2.2.length ∧ ∀ j, j < s.2.2.2.length → J 58 j = s.2.2.2.getD j 0) ∧ (kpS e true = false → J 45 30 = I 45 30 ∧ J 58 = I 58) ∧ (∀ c, c ≠ 45 → c ≠ 58 → J c = I c) ∧ (∀ b, b ≠ 0 → b ≠ 30 → J 45 b = I 45 b) := by
      unfold f_X10_answer_J42 f_X10_answer_J60
      rw [a, c, d]
      have cp : ∀ (v : Int32), (e 2 = 9 ∨ e 2 = 10) → v = nI s.2.2.2.length → s.2.2.2.length ≤ 600 → ∃ J, f_X10_answer_L86 FU (st I 45 30 v) 0 = some (resS e s, J) ∧ J 45 0 = 0 ∧ (kpS e true = true → J 45 30 = nI s.2.2.2.length ∧ ∀ j, j < s.2.2.2.length → J 58 j = s.2.2.2.getD j 0) ∧ (kpS e true = false → J 45 30 = I 45 30 ∧ J 58 = I 58) ∧ (∀ c, c ≠ 45 → c ≠ 58 → J c = I c) ∧ (∀ b, b ≠ 0 → b ≠ 30 → J 45 b = I 45 b) := by
        intro v hv hv2 hlen
        obtain ⟨J, g1, g2, g3⟩ := ans_L hlen s.2.2.2.length 0 FU (st I 45 30 v) (by omega) (by rw [FU_eq]; omega) (by rw [st_s]; exact hv2) (fun j hj => absurd hj (Nat.not_lt_zero j))
        rw [← e0] at g1
        rw [g1, h112 J (fun b q => by rw [g3 45 (by decide), st_k (by omega)])]
        have hk : kpS e true = true := by
          unfold kpS
          rw [if_neg (by decide)]
          rcases hv with q | q <;> rw [q] <;> rfl
        refine ⟨J, rfl, ?_, fun _ => ⟨?_, fun j hj => ?_⟩, fun q => absurd (hk.symm.trans q) (by decide), fun c q1 q2 => ?_, fun b q1 q2 => ?_⟩
        · rw [g3 45 (by decide), st_k (by decide)]; exact h00
        · rw [g3 45 (by decide), st_s]; exact hv2
        · rw [g2 j hj, st_ne (by decide)]; exact k hv j hj
        · rw [g3 c q2, st_ne q1]
        · rw [g3 45 (by decide), st_k q2]
      by_cases z9 : e 2 = 9
      · rw [if_pos z9, if_pos z9]
        have := hw.1 z9
        exact cp _ (.inl z9) (by rw [this]) (by omega)
      · rw [if_neg z9]
        by_cases z10 : e 2 = 10
        · rw [if_pos z10]
          obtain ⟨m, m1, m2, m3, m4, m5⟩ := hw.2.1 z10
          rw [if_neg z9]
          exact cp (e 4) (.inr z10) (by rw [m1, m4]) (by omega)
        · rw [if_neg z10, h112 I (fun _ _ => rfl)]
          have hk : kpS e true = false := by
            unfold kpS
            rw [if_neg (by decide), if_neg z9, if_neg z10]
          exact ⟨I, rfl, h00, fun q => absurd (hk.symm.trans q) (by decide), fun _ => ⟨rfl, rfl⟩, fun _ _ _ => rfl, fun _ _ _ => rfl⟩
    by_cases z : s.1 = 0 ∧ (e 2 = 2 ∨ e 2 = 3 ∨ e 2 = 4)
    · rw [if_pos z]
      have q2 : ¬ e 2 < 2 := by rcases z.2 with q | q | q <;> rw [q] <;> decide
      have q4 : ¬ 4 < e 2 := by rcases z.2 with q | q | q <;> rw [q] <;> decide
      simp only [if_neg q2, if_neg q4, h0, if_pos z.1]
      have hk : kpS e true = false := by
        unfold kpS
        rcases z.2 with q | q | q <;> rw [q] <;> rfl
      refine ⟨_, rfl, ?_, fun q => absurd (hk.symm.trans q) (by decide), fun _ => ⟨?_, ?_⟩, fun c q _ => st_ne q, fun b q _ => st_k q⟩
      · rw [st_s]; decide
      · rw [st_k (by decide)]
      · rw [st_ne (by decide)]
    · rw [if_neg z]
      obtain ⟨J, u⟩ := h42
      refine ⟨J, ?_, u.2⟩
      show _ = some (resS e s, J)
      rw [← u.1]
      by_cases q2 : e 2 < 2
      · rw [if_pos q2]
      · rw [if_neg q2]
        by_cases q4 : 4 < e 2
        · rw [if_pos q4]
        · rw [if_neg q4]
          simp only [h0]
          rw [if_neg]
          intro q0
          apply z
          refine ⟨q0, ?_⟩
          rw [i32l, t2] at q2
          rw [i32l, t4] at q4
          simp only [i32e, t2, t3, t4]
          omega
