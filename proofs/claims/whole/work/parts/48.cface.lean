/-! what the program lets in; beginning an end, and its outcome -/
def inR (v l h : Int32) : Bool := if v < l then false else if h < v then false else true
theorem within_eq (I : Mem) (v l h : Int32) : f_X9_within I v l h = some (inR v l h, I) := by
  unfold f_X9_within inR
  repeat' split
  all_goals rfl
theorem inR_nI {v : Int32} {a b : Nat} (ha : a < 2 ^ 31) (hb : b < 2 ^ 31) (h : inR v (nI a) (nI b) = true) : ∃ m, a ≤ m ∧ m ≤ b ∧ v = nI m := by
  unfold inR at h
  split at h
  · exact absurd h Bool.false_ne_true
  · split at h
    · exact absurd h Bool.false_ne_true
    · rename_i h1 h2
      have h0 : ¬ v < 0 := by
        intro q
        rw [Int32.lt_iff_toInt_lt] at q h1
        rw [nI_toInt ha] at h1
        have hz : (0 : Int32).toInt = 0 := rfl
        omega
      obtain ⟨m, hm, rfl⟩ := nI_of h0
      refine ⟨m, ?_, ?_, rfl⟩
      · exact Nat.le_of_not_lt (fun q => h1 (nI_lt q ha))
      · exact Nat.le_of_not_lt (fun q => h2 (nI_lt q hm))
def isEndS (k a n : Int32) : Bool := if k = 5 then inR a 0 4 else if k = 6 then inR a 0 4 else if k = 7 then inR a 0 4 else if k = 8 then inR a 0 2 else if k = 10 then inR n 1 8 else inR k 0 10
def isStageS (k a n : Int32) : Bool := if k = 0 then inR a 0 3 else if k = 1 then inR a 0 4 else if k = 2 then inR n 0 4 else if k = 5 then inR n 0 100 else if k = 6 then inR n 0 100 else if k = 8 then inR a 0 4 else if k = 9 then inR a 0 4 else inR k 0 9
theorem isEnd_eq (I : Mem) (k a n : Int32) : f_X9_isEnd I k a n = some (isEndS k a n, I) := by
  unfold f_X9_isEnd isEndS f_X9_isTest
  simp only [within_eq, Option.bind_some]
  repeat' split
  all_goals rfl
theorem isStage_eq (I : Mem) (k a n : Int32) : f_X9_isStage I k a n = some (isStageS k a n, I) := by
  unfold f_X9_isStage isStageS f_X9_isTest
  simp only [within_eq, Option.bind_some]
  repeat' split
  all_goals rfl
theorem i32e {x y : Int32} : (x = y) = (x.toInt = y.toInt) := propext ⟨fun h => by rw [h], fun h => Int32.toInt_inj.mp h⟩
theorem i32l {x y : Int32} : (x < y) = (x.toInt < y.toInt) := propext Int32.lt_iff_toInt_lt
theorem i32le {x y : Int32} : (x ≤ y) = (x.toInt ≤ y.toInt) := propext Int32.le_iff_toInt_le
theorem t0 : (0 : Int32).toInt = 0 := rfl
theorem t1 : (1 : Int32).toInt = 1 := rfl
theorem t2 : (2 : Int32).toInt = 2 := rfl
theorem t3 : (3 : Int32).toInt = 3 := rfl
theorem t4 : (4 : Int32).toInt = 4 := rfl
theorem t5 : (5 : Int32).toInt = 5 := rfl
theorem t6 : (6 : Int32).toInt = 6 := rfl
theorem t7 : (7 : Int32).toInt = 7 := rfl
theorem t8 : (8 : Int32).toInt = 8 := rfl
theorem t9 : (9 : Int32).toInt = 9 := rfl
theorem t10 : (10 : Int32).toInt = 10 := rfl
theorem t100 : (100 : Int32).toInt = 100 := rfl
theorem isEnd_eq' (I : Mem) (k a n : Int32) : f_X10_isEnd I k a n = some (isEndS k a n, I) := by
  unfold f_X10_isEnd f_X10_isEnd_J40 isEndS inR
  simp only [i32e, i32l, i32le, t0, t1, t2, t4, t5, t6, t7, t8, t10]
  repeat' split
  all_goals first | rfl | (exfalso; omega)
theorem isStage_eq' (I : Mem) (k a n : Int32) : f_X10_isStage I k a n = some (isStageS k a n, I) := by
  unfold f_X10_isStage isStageS inR
  simp only [i32e, i32l, i32le, t0, t1, t2, t3, t4, t5, t6, t7, t8, t9, t100]
  repeat' split
  all_goals first | rfl | (exfalso; omega)
def eOf (k a n : Int32) : Nat → Int32 := fun b => if b = 2 then k else if b = 3 then a else n
def es0 (k n : Int32) : Es := (0, if k = 8 then n else 0, false, if k = 10 then List.replicate n.toNatClampNeg 0 else [])
theorem begin_L {G : Nat} (hG : Gok G) (p0 p1 p2 : Int32) {m : Nat} (hm : m ≤ 8) : ∀ (r i n : Nat), i + r = m → r < n → ∀ (I : Mem), I 24 0 = nI G → RowIs I G (List.replicate i 0) → ∃ J, f_X1_begin_L50 p0 p1 p2 n I 10 (nI m) (nI i) = some J ∧ RowIs J G (List.replicate m 0) ∧ RowOnly I J G := by
  intro r
  induction r with
  | zero =>
    intro i n hi hn I h0 h
    obtain ⟨n, rfl⟩ : ∃ m, n = m + 1 := ⟨n - 1, by omega⟩
    unfold f_X1_begin_L50
    rw [if_pos rfl, if_pos (nI_le (by omega) (by omega))]
    exact ⟨I, rfl, by rw [show m = i by omega]; exact h, RowOnly.refl⟩
  | succ r ih =>
    intro i n hi hn I h0 h
    obtain ⟨n, rfl⟩ : ∃ m, n = m + 1 := ⟨n - 1, by omega⟩
    have hl := hG.lt
    unfold f_X1_begin_L50
    rw [if_pos rfl, if_neg (nI_ge (by omega) (by omega)), h0, hG.cl, if_pos hG.kd]
    obtain ⟨J, g1, g2, g3⟩ := add_eq (x := 0) h (by rw [hG.ln]; decide) (by rw [hG.ln]; simp; omega)
    rw [g1]
    simp only [Option.bind_some]
    rw [e1, nI_add]
    obtain ⟨K, k1, k2, k3⟩ := ih (i + 1) n (by omega) (by omega) J (by rw [g3 24 (by omega) (by omega)]; exact h0) (by rw [List.replicate_succ']; exact g2)
    exact ⟨K, k1, k2, g3.trans k3⟩
theorem begin_eq {I : Mem} {G : Nat} (hG : Gok G) (k a n : Int32) (h0 : I 24 0 = nI G) (hk : isEndS k a n = true) : ∃ J, f_X1_begin I k a n = some J ∧ EndIs J G (eOf k a n) (es0 k n) ∧ EndOnly I J G := by
  have hl := hG.lt
  have main : ∀ (v : Int32), v = (if k = 8 then n else 0) → ∃ J, ((if kd (((st (st (st (st (st (st I 24 2 k) 24 3 a) 24 4 n) 24 5 (0 : Int32)) 24 6 v) 24 7 (0 : Int32)) 24 0).toNatClampNeg) = 5 then ((f_X5_clear (st (st (st (st (st (st I 24 2 k) 24 3 a) 24 4 n) 24 5 (0 : Int32)) 24 6 v) 24 7 (0 : Int32)) (((st (st (st (st (st (st I 24 2 k) 24 3 a) 24 4 n) 24 5 (0 : Int32)) 24 6 v) 24 7 (0 : Int32)) 24 0).toNatClampNeg)).bind fun q4 => (f_X1_begin_L50 k a n FU q4 k n (0 : Int32))) else none) = some J) ∧ EndIs J G (eOf k a n) (es0 k n) ∧ EndOnly I J G := by
    intro v hv
    have h24 : (st (st (st (st (st (st I 24 2 k) 24 3 a) 24 4 n) 24 5 (0 : Int32)) 24 6 v) 24 7 (0 : Int32)) 24 0 = nI G := by
      rw [st_k (by decide), st_k (by decide), st_k (by decide), st_k (by decide), st_k (by decide), st_k (by decide), h0]
    rw [h24, hG.cl, if_pos hG.kd]
    generalize hM : (st (st (st (st (st (st I 24 2 k) 24 3 a) 24 4 n) 24 5 (0 : Int32)) 24 6 v) 24 7 (0 : Int32)) = M
    have f2 : M 24 2 = k := by rw [← hM]; simp [st_at]
    have f3 : M 24 3 = a := by rw [← hM]; simp [st_at]
    have f4 : M 24 4 = n := by rw [← hM]; simp [st_at]
    have f5 : M 24 5 = 0 := by rw [← hM]; simp [st_at]
    have f6 : M 24 6 = v := by rw [← hM]; simp [st_at]
    have f7 : M 24 7 = 0 := by rw [← hM]; simp [st_at]
    have f1 : M 24 1 = I 24 1 := by rw [← hM]; simp [st_at]
    have f0 : M 24 0 = nI G := by rw [← hM]; exact h24
    have fo : ∀ c, c ≠ 24 → M c = I c := fun c q => by rw [← hM]; rw [st_ne q, st_ne q, st_ne q, st_ne q, st_ne q, st_ne q]
    obtain ⟨J, g1, g2, g3⟩ := clear_eq (I := M) (i := G)
    rw [g1]
    simp only [Option.bind_some]
    have fin : ∀ (K : Mem) (L : List Int32), RowIs K G L → RowOnly J K G → L = (es0 k n).2.2.2 → EndIs K G (eOf k a n) (es0 k n) ∧ EndOnly I K G := by
      intro K L q1 q2 q3
      have q4 : K 24 = M 24 := (q2 24 (by omega) (by omega)).trans (g3 24 (by omega) (by omega))
      refine ⟨⟨?_, ?_, ?_, ?_, ?_, ?_, ?_, by rw [← q3]; exact q1⟩, fun c u1 u2 u3 => ?_, by rw [q4, f1]⟩
      · rw [q4, f0]
      · rw [q4, f2]; rfl
      · rw [q4, f3]; rfl
      · rw [q4, f4]; rfl
      · rw [q4, f5]; rfl
      · rw [q4, f6, hv]; rfl
      · rw [q4, f7]; rfl
      · rw [q2 c u2 u3, g3 c u2 u3, fo c u1]
    by_cases c : k = 10
    · subst c
      have hn : inR n 1 8 = true := by
        have := hk
        unfold isEndS at this
        rw [if_neg (by decide), if_neg (by decide), if_neg (by decide), if_neg (by decide), if_pos rfl] at this
        exact this
      obtain ⟨m, m1, m2, rfl⟩ := inR_nI (a := 1) (b := 8) (by decide) (by decide) hn
      obtain ⟨K, k1, k2, k3⟩ := begin_L hG 10 a (nI m) m2 m 0 FU (by omega) (by rw [FU_eq]; omega) J (by rw [g3 24 (by omega) (by omega)]; exact f0) g2
      rw [← e0] at k1
      obtain ⟨u1, u2⟩ := fin K _ k2 k3 (by unfold es0; rw [nI_clamp (by omega)]; rfl)
      exact ⟨K, k1, u1, u2⟩
    · obtain ⟨u1, u2⟩ := fin J [] g2 RowOnly.refl (by unfold es0; simp [c])
      refine ⟨J, ?_, u1, u2⟩
      rw [show FU = 4999 + 1 from rfl]
      unfold f_X1_begin_L50
      rw [if_neg c]
  unfold f_X1_begin
  by_cases c : k = 8
  · rw [if_pos c]
    exact main n (by rw [if_pos c])
  · rw [if_neg c]
    exact main 0 (by rw [if_neg c])
theorem eOf_2 (k a n : Int32) : eOf k a n 2 = k := rfl
theorem eOf_3 (k a n : Int32) : eOf k a n 3 = a := rfl
theorem eOf_4 (k a n : Int32) : eOf k a n 4 = n := rfl
theorem es0_EW (k a n : Int32) (hk : isEndS k a n = true) : EW (eOf k a n) (es0 k n) := by
  refine ⟨fun q => ?_, fun q => ?_, fun q => ?_⟩
  · rw [eOf_2] at q; subst q; rfl
  · rw [eOf_2] at q
    subst q
    have hn : inR n 1 8 = true := by
      have := hk
      unfold isEndS at this
      rw [if_neg (by decide), if_neg (by decide), if_neg (by decide), if_neg (by decide), if_pos rfl] at this
      exact this
    obtain ⟨m, m1, m2, rfl⟩ := inR_nI (a := 1) (b := 8) (by decide) (by decide) hn
    refine ⟨m, rfl, m1, m2, ?_, fun j => ⟨0, Nat.zero_le _, ?_⟩⟩
    · show (List.replicate (nI m).toNatClampNeg (0 : Int32)).length = m
      rw [nI_clamp (by omega)]; simp
    · show (List.replicate (nI m).toNatClampNeg (0 : Int32)).getD j 0 = nI 0
      rw [List.getD_eq_getElem?_getD, List.getElem?_replicate]
      split <;> rfl
  · exact ⟨fun z => absurd z Bool.false_ne_true, fun z => absurd z (Nat.lt_irrefl 0)⟩
def posc : List Int32 → Nat
  | [] => 0
  | y :: ys => (if y = 0 then 0 else 1) + posc ys
theorem posc_le : ∀ (xs : List Int32), posc xs ≤ xs.length
  | [] => Nat.le_refl _
  | y :: ys => by
    have := posc_le ys
    unfold posc
    split <;> simp <;> omega
def resS (e : Nat → Int32) (s : Es) : Int32 := if e 2 = 0 then nI s.1 else if e 2 = 5 then b2i s.2.2.1 else if e 2 = 6 then b2i (!s.2.2.1) else if e 2 = 7 then b2i (!s.2.2.1) else if e 2 = 9 then nI s.1 else if e 2 = 10 then nI (posc s.2.2.2) else s.2.1
def noRes (e : Nat → Int32) (s : Es) : Prop := s.1 = 0 ∧ (e 2 = 2 ∨ e 2 = 3 ∨ e 2 = 4)
def outS (e : Nat → Int32) (ok : Bool) (s : Es) : Int32 ⊕ String := if ok = false then .inr "java/lang/UnsupportedOperationException" else if s.1 = 0 ∧ (e 2 = 2 ∨ e 2 = 3 ∨ e 2 = 4) then .inr "java/util/NoSuchElementException" else .inl (resS e s)
def kpS (e : Nat → Int32) (ok : Bool) : Bool := if ok = false then false else if e 2 = 9 then true else if e 2 = 10 then true else false
theorem diff_L {I : Mem} {G : Nat} (hG : Gok G) (h0 : I 24 0 = nI G) {xs : List Int32} (hr : RowIs I G xs) (hc : ∀ j, ∃ c, c ≤ 600 ∧ xs.getD j 0 = nI c) : ∀ (r i n a : Nat), i + r = xs.length → r < n → f_X1_differentRemainders_L4 n I (nI a) (nI i) = some (nI (a + posc (xs.drop i)), I) := by
  intro r
  have hl : xs.length ≤ 600 := by have := hr.2.1; rw [hG.ln] at this; exact this
  induction r with
  | zero =>
    intro i n a hi hn
    obtain ⟨n, rfl⟩ : ∃ m, n = m + 1 := ⟨n - 1, by omega⟩
    unfold f_X1_differentRemainders_L4
    rw [h0, hG.cl, if_pos hG.kd, hr.1, if_pos (nI_le (by omega) (by omega)), List.drop_eq_nil_of_le (by omega)]
    rfl
  | succ r ih =>
    intro i n a hi hn
    obtain ⟨n, rfl⟩ : ∃ m, n = m + 1 := ⟨n - 1, by omega⟩
    have hx : xs[i]'(by omega) = xs.getD i 0 := by simp [List.getD_eq_getElem?_getD, show i < xs.length by omega]
    unfold f_X1_differentRemainders_L4
    rw [h0, hG.cl, if_pos hG.kd, hr.1, if_neg (nI_ge (by omega) (by omega)), if_pos hG.kd, hG.ln, if_pos (inb_nI (by omega) (by omega)), nI_clamp (by omega), hr.2.2 i (by omega), List.drop_eq_getElem_cons (show i < xs.length by omega), hx]
    unfold posc
    obtain ⟨c, hc1, hc2⟩ := hc i
    rw [hc2, e0, e1, nI_add, nI_add, nI_add]
    by_cases z : c = 0
    · subst z
      rw [if_pos (nI_le (Nat.le_refl _) (by omega)), if_pos rfl, ih (i + 1) n (a + 0) (by omega) (by omega)]
      congr 3; omega
    · rw [if_neg (nI_ge (by omega) (by omega)), if_neg (fun q => z ((nI_eq (by omega) (by omega)).mp q)), ih (i + 1) n (a + 1) (by omega) (by omega)]
      congr 3; omega
set_option maxHeartbeats 1000000 in
theorem outcome_eq {I : Mem} {G : Nat} {e : Nat → Int32} {s : Es} (hG : Gok G) (ok : Bool) (h : EndIs I G e s) (hw : EW e s) (hs : s.1 ≤ 600) (h1 : I 24 1 = nI (52 - G)) :
    ∃ J, f_X9_outcome I (b2i ok) = some (outS e ok s, J) ∧ (∀ c, c ≠ 24 → J c = I c) ∧ (J 24 0 = if (kpS e ok) = true then nI (52 - G) else nI G) ∧ (J 24 1 = if (kpS e ok) = true then nI G else nI (52 - G)) := by
  obtain ⟨a, b, c, d, f, g, k, r⟩ := h
  have hl := hG.lt
  have hG2 : Gok (52 - G) := by rcases hG with rfl | rfl <;> simp [Gok]
  unfold f_X9_outcome outS
  simp only [b2i_0]
  cases ok with
  | false =>
    rw [if_pos rfl, if_pos rfl]
    exact ⟨I, rfl, fun _ _ => rfl, by rw [a]; rfl, by rw [h1]; rfl⟩
  | true =>
    rw [if_neg (by decide), if_neg (by decide)]
    have hres : f_X1_hasResult I = some (!decide (s.1 = 0 ∧ (e 2 = 2 ∨ e 2 = 3 ∨ e 2 = 4)), I) := by
      unfold f_X1_hasResult
      rw [f, b, e0]
      by_cases z : s.1 = 0
      · rw [z, if_neg (nI_nlt (Nat.le_refl _) (by omega))]
        by_cases z2 : e 2 = 2
        · simp [z2]
        by_cases z3 : e 2 = 3
        · simp [z3]
        by_cases z4 : e 2 = 4
        · simp [z4]
        simp [z2, z3, z4]
      · rw [if_pos (nI_lt (by omega) (by omega))]
        simp [z]
    rw [hres]
    simp only [Option.bind_some]
    by_cases z : s.1 = 0 ∧ (e 2 = 2 ∨ e 2 = 3 ∨ e 2 = 4)
    · rw [if_pos z, decide_eq_true z, if_pos (show (!true) = false from rfl)]
      have hk : kpS e true = false := by
        unfold kpS
        rcases z.2 with q | q | q <;> rw [q] <;> decide
      rw [hk]
      exact ⟨I, rfl, fun _ _ => rfl, by rw [a]; rfl, by rw [h1]; rfl⟩
    · rw [if_neg z, decide_eq_false z, if_neg (by decide)]
      have hr : f_X1_result I = some (resS e s, I) := by
        unfold f_X1_result resS
        rw [b, f, g, k]
        simp only [b2i_0]
        by_cases z0 : e 2 = 0
        · rw [if_pos z0, if_pos z0]
        rw [if_neg z0, if_neg z0]
        by_cases z5 : e 2 = 5
        · rw [if_pos z5, if_pos z5]; cases s.2.2.1 <;> rfl
        rw [if_neg z5, if_neg z5]
        by_cases z6 : e 2 = 6
        · rw [if_pos z6, if_pos z6]; cases s.2.2.1 <;> rfl
        rw [if_neg z6, if_neg z6]
        by_cases z7 : e 2 = 7
        · rw [if_pos z7, if_pos z7]; cases s.2.2.1 <;> rfl
        rw [if_neg z7, if_neg z7]
        by_cases z9 : e 2 = 9
        · rw [if_pos z9, if_pos z9]
        rw [if_neg z9, if_neg z9]
        by_cases z10 : e 2 = 10
        · rw [if_pos z10, if_pos z10]
          obtain ⟨m, m1, m2, m3, m4, m5⟩ := hw.2.1 z10
          unfold f_X1_differentRemainders
          have := diff_L hG a r (fun j => by obtain ⟨c, c1, c2⟩ := m5 j; exact ⟨c, by omega, c2⟩) m 0 FU 0 (by omega) (by rw [FU_eq]; omega)
          rw [Nat.zero_add, List.drop_zero, ← e0] at this
          rw [this]
          rfl
        rw [if_neg z10, if_neg z10]
      rw [hr]
      simp only [Option.bind_some]
      unfold f_X1_keepGathered kpS
      rw [b, a, h1, hG.cl, hG2.cl, if_pos hG.kd, if_pos hG2.kd]
      simp only [Bool.true_eq_false, if_false]
      by_cases z9 : e 2 = 9
      · rw [if_pos z9, if_pos z9]
        refine ⟨_, rfl, fun c q => ?_, ?_, ?_⟩
        · rw [st_ne q, st_ne q]
        · rw [st_s, if_pos rfl]
        · rw [st_k (by decide), st_s, if_pos rfl]
      · rw [if_neg z9, if_neg z9]
        by_cases z10 : e 2 = 10
        · rw [if_pos z10, if_pos z10]
          refine ⟨_, rfl, fun c q => ?_, ?_, ?_⟩
          · rw [st_ne q, st_ne q]
          · rw [st_s, if_pos rfl]
          · rw [st_k (by decide), st_s, if_pos rfl]
        · rw [if_neg z10, if_neg z10]
          exact ⟨I, rfl, fun _ _ => rfl, by rw [a, if_neg (by decide)], by rw [h1, if_neg (by decide)]⟩
