/-! the reference's work in parts -/
def NowIs (I : Mem) (X : List Int32) : Prop := I 45 34 = nI X.length ∧ X.length ≤ 600 ∧ ∀ j, j < X.length → I 59 j = X.getD j 0
def ThenIs (I : Mem) (X : List Int32) : Prop := I 45 35 = nI X.length ∧ X.length ≤ 600 ∧ ∀ j, j < X.length → I 60 j = X.getD j 0
def MpOnly (I J : Mem) (k : Nat) : Prop := (∀ c, c ≠ 45 → c ≠ 50 → c ≠ 51 → c ≠ 52 → c ≠ 53 → c ≠ 59 → c ≠ 60 → J c = I c) ∧ (∀ b, b ≠ 22 → b ≠ 34 → b ≠ 35 → J 45 b = I 45 b) ∧ (∀ j, j ≠ k → J 50 j = I 50 j ∧ J 51 j = I 51 j ∧ J 52 j = I 52 j) ∧ (∀ i, i < 600 * k ∨ 600 * k + 600 ≤ i → J 53 i = I 53 i)
theorem MpOnly.refl {I : Mem} {k : Nat} : MpOnly I I k := ⟨fun _ _ _ _ _ _ _ _ => rfl, fun _ _ _ _ => rfl, fun _ _ => ⟨rfl, rfl, rfl⟩, fun _ _ => rfl⟩
theorem MpOnly.trans {I J K : Mem} {k : Nat} (h : MpOnly I J k) (h2 : MpOnly J K k) : MpOnly I K k := ⟨fun c a b d e f g m => (h2.1 c a b d e f g m).trans (h.1 c a b d e f g m), fun b u v w => (h2.2.1 b u v w).trans (h.2.1 b u v w), fun j q => ⟨(h2.2.2.1 j q).1.trans (h.2.2.1 j q).1, (h2.2.2.1 j q).2.1.trans (h.2.2.1 j q).2.1, (h2.2.2.1 j q).2.2.trans (h.2.2.1 j q).2.2⟩, fun i q => (h2.2.2.2 i q).trans (h.2.2.2 i q)⟩
theorem MsOnly.mp {I J : Mem} {k : Nat} (h : MsOnly I J k) : MpOnly I J k := ⟨fun c _ a b d e _ _ => h.1 c a b d e, fun b _ _ _ => by rw [h.1 45 (by decide) (by decide) (by decide) (by decide)], h.2.1, h.2.2⟩
/-- only the numbers 22 and 35 and the row that is being made -/
def OutOnly (I J : Mem) : Prop := (∀ c, c ≠ 45 → c ≠ 60 → J c = I c) ∧ (∀ b, b ≠ 22 → b ≠ 35 → J 45 b = I 45 b)
theorem OutOnly.refl {I : Mem} : OutOnly I I := ⟨fun _ _ _ => rfl, fun _ _ _ => rfl⟩
theorem OutOnly.trans {I J K : Mem} (h : OutOnly I J) (h2 : OutOnly J K) : OutOnly I K := ⟨fun c a b => (h2.1 c a b).trans (h.1 c a b), fun b u v => (h2.2 b u v).trans (h.2 b u v)⟩
theorem OutOnly.mp {I J : Mem} {k : Nat} (h : OutOnly I J) : MpOnly I J k := ⟨fun c a _ _ _ _ _ g => h.1 c a g, fun b u _ w => h.2 b u w, fun j _ => ⟨by rw [h.1 50 (by decide) (by decide)], by rw [h.1 51 (by decide) (by decide)], by rw [h.1 52 (by decide) (by decide)]⟩, fun i _ => by rw [h.1 53 (by decide) (by decide)]⟩
theorem MSt.out {I J : Mem} {k : Nat} {q : Nat → Int32} {s : Sg} {tr : Bool} (h : MSt I k q s tr) (ho : OutOnly I J) : MSt J k q s tr := by
  unfold MSt HM at h ⊢
  rw [ho.1 47 (by decide) (by decide), ho.1 48 (by decide) (by decide), ho.1 49 (by decide) (by decide), ho.1 50 (by decide) (by decide), ho.1 51 (by decide) (by decide), ho.1 52 (by decide) (by decide), ho.1 53 (by decide) (by decide)]
  exact h
theorem NowIs.out {I J : Mem} {X : List Int32} (h : NowIs I X) (ho : OutOnly I J) : NowIs J X := by
  unfold NowIs at h ⊢
  rw [ho.2 34 (by decide) (by decide), ho.1 59 (by decide) (by decide)]
  exact h
theorem NowIs.ms {I J : Mem} {X : List Int32} {k : Nat} (h : NowIs I X) (ho : MsOnly I J k) : NowIs J X := by
  unfold NowIs at h ⊢
  rw [ho.1 45 (by decide) (by decide) (by decide) (by decide), ho.1 59 (by decide) (by decide) (by decide) (by decide)]
  exact h
theorem ThenIs.ms {I J : Mem} {X : List Int32} {k : Nat} (h : ThenIs I X) (ho : MsOnly I J k) : ThenIs J X := by
  unfold ThenIs at h ⊢
  rw [ho.1 45 (by decide) (by decide) (by decide) (by decide), ho.1 60 (by decide) (by decide) (by decide) (by decide)]
  exact h
theorem out_eq {I : Mem} {acc : List Int32} (x : Int32) (h : ThenIs I acc) : (acc.length < 600 → ∃ J, f_X10_out I x = some J ∧ ThenIs J (acc ++ [x]) ∧ OutOnly I J ∧ J 45 22 = I 45 22) ∧ (acc.length = 600 → ∃ J, f_X10_out I x = some J ∧ ThenIs J acc ∧ OutOnly I J ∧ J 45 22 = 1) := by
  obtain ⟨a, b, c⟩ := h
  unfold f_X10_out
  rw [a]
  constructor
  · intro hl
    rw [if_neg (fun q => by have := (nI_eq (by omega) (by omega)).mp (q.trans (show (600 : Int32) = nI 600 from rfl)); omega), if_pos (inb_nI (show acc.length < ln 60 by show _ < 601; omega) (by decide)), nI_clamp (by omega)]
    refine ⟨_, rfl, ⟨?_, by simp; omega, fun j hj => ?_⟩, ⟨fun c q1 q2 => by rw [st_ne q1, st_ne q2], fun b _ q2 => by rw [st_k q2, st_ne (by decide)]⟩, by rw [st_k (by decide), st_ne (by decide)]⟩
    · rw [st_s, st_ne (by decide), a, nI_1]; congr 1; simp
    · rw [st_ne (by decide), st_at]
      by_cases z : j = acc.length
      · subst z
        rw [if_pos ⟨rfl, rfl⟩]
        simp [List.getD_eq_getElem?_getD]
      · have hj2 : j < acc.length := by simp at hj; omega
        rw [if_neg (fun y => z y.2), c j hj2, getD_app_l hj2]
  · intro hl
    rw [if_pos (by rw [hl]; rfl)]
    refine ⟨_, rfl, ⟨?_, b, fun j hj => ?_⟩, ⟨fun c q1 _ => st_ne q1, fun b q1 _ => st_k q1⟩, st_s⟩
    · rw [st_k (by decide)]; exact a
    · rw [st_ne (by decide)]; exact c j hj
theorem flatP_L (x p0 p1 : Int32) {m : Nat} (hm : m < 2 ^ 30) : ∀ (r i n : Nat), i + r = m → r < n → ∀ (acc : List Int32) (I : Mem), ThenIs I acc →
    ∃ J, f_X10_flatInParts_L2 p0 p1 n I x (nI m) (nI i) = some J ∧ OutOnly I J ∧ (acc.length + r ≤ 600 → ThenIs J (acc ++ up (x + nI i) r) ∧ J 45 22 = I 45 22) ∧ (600 < acc.length + r → J 45 35 = nI 600 ∧ J 45 22 = 1) := by
  intro r
  induction r with
  | zero =>
    intro i n hi hn acc I h
    obtain ⟨n, rfl⟩ : ∃ m, n = m + 1 := ⟨n - 1, by omega⟩
    have hl := h.2.1
    unfold f_X10_flatInParts_L2
    rw [if_pos (nI_le (by omega) (by omega))]
    exact ⟨I, rfl, OutOnly.refl, fun _ => ⟨by simpa [up] using h, rfl⟩, fun q => by omega⟩
  | succ r ih =>
    intro i n hi hn acc I h
    obtain ⟨n, rfl⟩ : ∃ m, n = m + 1 := ⟨n - 1, by omega⟩
    have hl := h.2.1
    unfold f_X10_flatInParts_L2
    rw [if_neg (nI_ge (by omega) (by omega)), nI_1]
    by_cases c : acc.length = 600
    · obtain ⟨J, g1, g2, g3, g4⟩ := (out_eq (x + nI i) h).2 c
      rw [g1]
      simp only [Option.bind_some]
      obtain ⟨K, k1, k2, k3, k4⟩ := ih (i + 1) n (by omega) (by omega) acc J g2
      refine ⟨K, k1, g3.trans k2, fun q => by omega, fun _ => ?_⟩
      by_cases z : acc.length + r ≤ 600
      · obtain ⟨u1, u2⟩ := k3 z
        refine ⟨?_, u2.trans g4⟩
        rw [u1.1]; congr 1; rw [List.length_append, up_length]; omega
      · exact k4 (by omega)
    · obtain ⟨J, g1, g2, g3, g4⟩ := (out_eq (x + nI i) h).1 (by omega)
      rw [g1]
      simp only [Option.bind_some]
      obtain ⟨K, k1, k2, k3, k4⟩ := ih (i + 1) n (by omega) (by omega) (acc ++ [x + nI i]) J g2
      have hlen : (acc ++ [x + nI i]).length = acc.length + 1 := by simp
      rw [hlen] at k3 k4
      refine ⟨K, k1, g3.trans k2, fun q => ?_, fun q => k4 (by omega)⟩
      obtain ⟨u1, u2⟩ := k3 (by omega)
      refine ⟨?_, u2.trans g4⟩
      rw [← add_nI] at u1
      unfold up
      simpa using u1
theorem wk_len {o a n : Int32} : ∀ (X : List Int32) (s : Sg) (acc : List Int32), (wk o a n X s acc).1.1 ≤ s.1 + X.length
  | [], s, acc => by simp [wk]
  | x :: X, s, acc => by
    unfold wk
    repeat' split
    · have := wk_len (o := o) (a := a) (n := n) X (bump s) (acc ++ up x n.toNatClampNeg)
      simp [bump] at this ⊢; omega
    · simp [bump]
    · have := wk_len (o := o) (a := a) (n := n) X (lets1 o a n (bump s) x).2 (acc ++ [chg o a n x])
      rw [lets1_came] at this
      simp [bump] at this ⊢; omega
    · have := wk_len (o := o) (a := a) (n := n) X (lets1 o a n (bump s) x).2 acc
      rw [lets1_came] at this
      simp [bump] at this ⊢; omega
theorem partM_L {k : Nat} (p0 : Int32) (hk : k < 6) (q : Nat → Int32) (hq : q 1 = 2 → ∃ m, m ≤ 4 ∧ q 3 = nI m) (X : List Int32) : ∀ (r i n : Nat), i + r = X.length → r < n → ∀ (acc : List Int32) (s : Sg) (I : Mem), s.1 = i → SW s → (q 1 ≠ 2 → acc.length ≤ i) → (q 1 = 4 → acc = []) → NowIs I X → ThenIs I acc → MSt I k q s false → I 45 22 = 0 →
    ∃ M, f_X10_stageInParts_L7 p0 n I (nI k) (nI i) = f_X10_stageInParts_L136 p0 FU M (nI k) 0 ∧ MSt M k q (wk (q 1) (q 2) (q 3) (X.drop i) s acc).1 false ∧ M 45 22 = b2i (!(wk (q 1) (q 2) (q 3) (X.drop i) s acc).2.2) ∧ ((wk (q 1) (q 2) (q 3) (X.drop i) s acc).2.2 = true → ThenIs M (wk (q 1) (q 2) (q 3) (X.drop i) s acc).2.1 ∧ (q 1 = 4 → (wk (q 1) (q 2) (q 3) (X.drop i) s acc).2.1 = [])) ∧ ((wk (q 1) (q 2) (q 3) (X.drop i) s acc).2.2 = false → M 45 35 = nI 600 ∧ q 1 = 2) ∧ MpOnly I M k := by
  intro r
  have i47 : inb (nI k) (ln 47) = true := inb_nI (show k < ln 47 from hk) (by decide)
  have i48' : inb (nI k) (ln 48) = true := inb_nI (show k < ln 48 from hk) (by decide)
  have i49 : inb (nI k) (ln 49) = true := inb_nI (show k < ln 49 from hk) (by decide)
  have i50 : inb (nI k) (ln 50) = true := inb_nI (show k < ln 50 from hk) (by decide)
  have hk31 : (nI k).toNatClampNeg = k := nI_clamp (by omega)
  induction r with
  | zero =>
    intro i n hi hn acc s I hs hw ha ha4 hnow hthen hst h22
    obtain ⟨n, rfl⟩ : ∃ m, n = m + 1 := ⟨n - 1, by omega⟩
    have hX := hnow.2.1
    unfold f_X10_stageInParts_L7
    rw [hnow.1, if_pos (nI_le (by omega) (by omega)), List.drop_eq_nil_of_le (by omega)]
    exact ⟨I, rfl, hst, h22, fun _ => ⟨hthen, ha4⟩, fun z => absurd z (by simp [wk]), MpOnly.refl⟩
  | succ r ih =>
    intro i n hi hn acc s I hs hw ha ha4 hnow hthen hst h22
    obtain ⟨n, rfl⟩ : ∃ m, n = m + 1 := ⟨n - 1, by omega⟩
    have hX := hnow.2.1
    have hx : X[i]'(by omega) = X.getD i 0 := by simp [List.getD_eq_getElem?_getD, show i < X.length by omega]
    obtain ⟨b1, b2, b3, b4, b5⟩ := bumpM hst
    have hheld : s.2.2.length < 600 := by have := hw.1; omega
    have i59 : inb (nI i) (ln 59) = true := inb_nI (show i < ln 59 by show i < 601; omega) (by decide)
    unfold f_X10_stageInParts_L7
    rw [hnow.1, if_neg (nI_ge (by omega) (by omega)), h22, if_pos rfl, List.drop_eq_getElem_cons (show i < X.length by omega), hx]
    simp only [i47, i48', i49, i50, i59, hk31, if_true, b1, b2, b3, nI_clamp (show i < 2 ^ 31 by omega), hnow.2.2 i (by omega), nI_1]
    have hcame := lets1_came (q 1) (q 2) (q 3) (bump s) (X.getD i 0)
    have hsw := lets1_SW (o := q 1) (a := q 2) (n := q 3) (x := X.getD i 0) hw
    have h22b : (st I 50 k (I 50 k + 1)) 45 22 = 0 := by rw [st_ne (by decide)]; exact h22
    have hthb := hthen.ms b5
    have hnob := hnow.ms b5
    unfold wk
    by_cases c4 : q 1 = 4
    · simp only [if_pos c4, if_neg (show ¬ q 1 = 2 by rw [c4]; decide)]
      obtain ⟨J, g1, g2, g3⟩ := sortInM_st (X.getD i 0) hk hst hheld hw.2 c4
      have hf : (lets1 (q 1) (q 2) (q 3) (bump s) (X.getD i 0)).1 = false := by
        unfold lets1
        rw [if_neg (by rw [c4]; decide), if_neg (by rw [c4]; decide), if_pos c4]
      rw [g1, hf]
      simp only [Option.bind_some, Bool.false_eq_true, if_false]
      obtain ⟨M, m1, m2, m3, m4, m5, m6⟩ := ih (i + 1) n (by omega) (by omega) acc _ J (by rw [hcame]; show s.1 + 1 = i + 1; omega) hsw (fun z => by have := ha z; omega) ha4 (hnow.ms g3) (hthen.ms g3) g2 (by rw [g3.1 45 (by decide) (by decide) (by decide) (by decide)]; exact h22)
      exact ⟨M, m1, m2, m3, m4, m5, g3.mp.trans m6⟩
    · simp only [if_neg c4]
      by_cases c0 : q 1 = 0
      · have n2 : ¬ q 1 = 2 := by rw [c0]; decide
        simp only [if_pos c0, if_neg n2, mapped_eq', Option.bind_some]
        have hbs := MSt_bump hst (by rw [c0]; decide) (by rw [c0]; decide)
        have hl1 : lets1 (q 1) (q 2) (q 3) (bump s) (X.getD i 0) = (true, bump s) := by
          unfold lets1
          rw [c0]; rfl
        have hchg : chg (q 1) (q 2) (q 3) (X.getD i 0) = mp (X.getD i 0) (q 2) (q 3) := by unfold chg; rw [if_pos c0]
        rw [hl1, hchg]
        have hal := ha n2
        obtain ⟨J, g1, g2, g3, g4⟩ := (out_eq (mp (X.getD i 0) (q 2) (q 3)) hthb).1 (by omega)
        rw [g1]
        simp only [Option.bind_some, if_true]
        obtain ⟨M, m1, m2, m3, m4, m5, m6⟩ := ih (i + 1) n (by omega) (by omega) (acc ++ [mp (X.getD i 0) (q 2) (q 3)]) (bump s) J (by show s.1 + 1 = i + 1; omega) ⟨Nat.le_succ_of_le hw.1, hw.2⟩ (fun _ => by simp; omega) (fun z => absurd z c4) (hnob.out g3) g2 (hbs.out g3) (by rw [g4]; exact h22b)
        exact ⟨M, m1, m2, m3, m4, m5, b5.mp.trans (g3.mp.trans m6)⟩
      · simp only [if_neg c0]
        by_cases c2 : q 1 = 2
        · simp only [if_pos c2]
          obtain ⟨m, hm, hm2⟩ := hq c2
          have hbs := MSt_bump hst (by rw [c2]; decide) (by rw [c2]; decide)
          unfold f_X10_flatInParts
          rw [hm2, nI_clamp (by omega)]
          obtain ⟨J, g1, g2, g3, g4⟩ := flatP_L (X.getD i 0) (X.getD i 0) (nI m) (show m < 2 ^ 30 by omega) m 0 FU (by omega) (by rw [FU_eq]; omega) acc _ hthb
          rw [show X.getD i 0 + nI 0 = X.getD i 0 by rw [nI_0]; exact Int32.add_zero _] at g3
          rw [← e0] at g1
          rw [g1]
          simp only [Option.bind_some]
          have hst2 := hbs.out g2
          by_cases c3 : acc.length + m ≤ 600
          · simp only [if_pos c3]
            obtain ⟨u1, u2⟩ := g3 c3
            obtain ⟨M, m1, m2, m3, m4, m5, m6⟩ := ih (i + 1) n (by omega) (by omega) (acc ++ up (X.getD i 0) m) (bump s) J (by show s.1 + 1 = i + 1; omega) ⟨Nat.le_succ_of_le hw.1, hw.2⟩ (fun z => absurd c2 z) (fun z => absurd z c4) (hnob.out g2) u1 hst2 (by rw [u2]; exact h22b)
            rw [hm2] at m2 m3 m4 m5
            exact ⟨M, m1, m2, m3, m4, m5, b5.mp.trans (g2.mp.trans m6)⟩
          · simp only [if_neg c3]
            obtain ⟨u1, u2⟩ := g4 (by omega)
            refine ⟨J, ?_, hst2, by rw [u2]; rfl, fun z => absurd z Bool.false_ne_true, fun _ => ⟨u1, by exact c2⟩, b5.mp.trans g2.mp⟩
            obtain ⟨n, rfl⟩ : ∃ m, n = m + 1 := ⟨n - 1, by omega⟩
            unfold f_X10_stageInParts_L7
            rw [u2, if_neg (show ¬ (1 : Int32) = 0 by decide)]
            split <;> rfl
        · simp only [if_neg c2]
          obtain ⟨J, g1, g2, g3⟩ := letsM_eq (X.getD i 0) hk hst hheld c4
          rw [g1]
          simp only [Option.bind_some, b2i_0]
          have hal := ha c2
          have hchg : chg (q 1) (q 2) (q 3) (X.getD i 0) = X.getD i 0 := by unfold chg; rw [if_neg c0]
          rw [hchg]
          have hJ22 : J 45 22 = 0 := by rw [g3.1 45 (by decide) (by decide) (by decide) (by decide)]; exact h22
          by_cases cl : (lets1 (q 1) (q 2) (q 3) (bump s) (X.getD i 0)).1 = true
          · simp only [cl, if_true, Bool.true_eq_false, if_false]
            obtain ⟨K, k1, k2, k3, k4⟩ := (out_eq (X.getD i 0) (hthen.ms g3)).1 (by omega)
            rw [k1]
            simp only [Option.bind_some]
            obtain ⟨M, m1, m2, m3, m4, m5, m6⟩ := ih (i + 1) n (by omega) (by omega) (acc ++ [X.getD i 0]) _ K (by rw [hcame]; show s.1 + 1 = i + 1; omega) hsw (fun _ => by simp; omega) (fun z => absurd z c4) ((hnow.ms g3).out k3) k2 (g2.out k3) (by rw [k4]; exact hJ22)
            exact ⟨M, m1, m2, m3, m4, m5, g3.mp.trans (k3.mp.trans m6)⟩
          · have clf : (lets1 (q 1) (q 2) (q 3) (bump s) (X.getD i 0)).1 = false := by simpa using cl
            simp only [clf, if_true, Bool.false_eq_true, if_false]
            obtain ⟨M, m1, m2, m3, m4, m5, m6⟩ := ih (i + 1) n (by omega) (by omega) acc _ J (by rw [hcame]; show s.1 + 1 = i + 1; omega) hsw (fun _ => by omega) (fun z => absurd z c4) (hnow.ms g3) (hthen.ms g3) g2 hJ22
            exact ⟨M, m1, m2, m3, m4, m5, g3.mp.trans m6⟩
theorem copyM_L {len : Nat} (p0 : Int32) (hl : len ≤ 600) : ∀ (r i n : Nat) (I : Mem), i + r = len → r < n → I 45 34 = nI len → (∀ j, j < i → I 59 j = I 60 j) →
    ∃ J, f_X10_stageInParts_L188 p0 n I (nI i) = some J ∧ (∀ j, j < len → J 59 j = I 60 j) ∧ (∀ c, c ≠ 59 → J c = I c) := by
  intro r
  induction r with
  | zero =>
    intro i n I hi hn h34 h
    obtain ⟨n, rfl⟩ : ∃ m, n = m + 1 := ⟨n - 1, by omega⟩
    unfold f_X10_stageInParts_L188
    rw [h34, if_pos (nI_le (by omega) (by omega))]
    exact ⟨I, rfl, fun j hj => h j (by omega), fun _ _ => rfl⟩
  | succ r ih =>
    intro i n I hi hn h34 h
    obtain ⟨n, rfl⟩ : ∃ m, n = m + 1 := ⟨n - 1, by omega⟩
    unfold f_X10_stageInParts_L188
    rw [h34, if_neg (nI_ge (by omega) (by omega)), if_pos (inb_nI (show i < ln 60 by show i < 601; omega) (by decide)), if_pos (inb_nI (show i < ln 59 by show i < 601; omega) (by decide)), nI_clamp (by omega), nI_1]
    obtain ⟨J, g1, g2, g3⟩ := ih (i + 1) n (st I 59 i (I 60 i)) (by omega) (by omega) (by rw [st_ne (by decide)]; exact h34) (fun j hj => by
      rw [st_ne (show (60 : Nat) ≠ 59 by decide)]
      by_cases z : j = i
      · subst z; rw [st_s]
      · rw [st_k z]; exact h j (by omega))
    refine ⟨J, g1, fun j hj => ?_, fun c q => by rw [g3 c q, st_ne q]⟩
    rw [g2 j hj, st_ne (by decide)]
/-- from the row that was made to the row that comes next -/
theorem tail188 {I : Mem} {k len : Nat} (p0 : Int32) (hl : len ≤ 600) (h35 : I 45 35 = nI len) : ∃ J, f_X10_stageInParts_L188 p0 FU (st I 45 34 (I 45 35)) 0 = some J ∧ J 45 34 = nI len ∧ (∀ j, j < len → J 59 j = I 60 j) ∧ (∀ c, c ≠ 45 → c ≠ 59 → J c = I c) ∧ (∀ b, b ≠ 34 → J 45 b = I 45 b) ∧ MpOnly I J k := by
  obtain ⟨J, g1, g2, g3⟩ := copyM_L p0 hl len 0 FU (st I 45 34 (I 45 35)) (by omega) (by rw [FU_eq]; omega) (by rw [st_s]; exact h35) (fun j hj => absurd hj (Nat.not_lt_zero j))
  rw [← e0] at g1
  have a : ∀ c, c ≠ 45 → c ≠ 59 → J c = I c := fun c q1 q2 => by rw [g3 c q2, st_ne q1]
  have b : ∀ b, b ≠ 34 → J 45 b = I 45 b := fun b q => by rw [g3 45 (by decide), st_k q]
  refine ⟨J, g1, by rw [g3 45 (by decide), st_s]; exact h35, fun j hj => by rw [g2 j hj, st_ne (by decide)], a, b, ⟨fun c q1 _ _ _ _ q2 _ => a c q1 q2, fun c _ q _ => b c q, fun j _ => ⟨by rw [a 50 (by decide) (by decide)], by rw [a 51 (by decide) (by decide)], by rw [a 52 (by decide) (by decide)]⟩, fun i _ => by rw [a 53 (by decide) (by decide)]⟩⟩
theorem sortP_L {k : Nat} {H : List Int32} (p0 : Int32) (hk : k < 6) (hH : H.length ≤ 600) : ∀ (r i n : Nat) (I : Mem), i + r = H.length → r < n → I 47 k = 4 → HM I k H → ThenIs I (H.take i) →
    ∃ M, f_X10_stageInParts_L136 p0 n I (nI k) (nI i) = f_X10_stageInParts_L188 p0 FU (st M 45 34 (M 45 35)) 0 ∧ ThenIs M H ∧ OutOnly I M ∧ M 45 22 = I 45 22 := by
  have i47 : inb (nI k) (ln 47) = true := inb_nI (show k < ln 47 from hk) (by decide)
  have i51 : inb (nI k) (ln 51) = true := inb_nI (show k < ln 51 from hk) (by decide)
  intro r
  induction r with
  | zero =>
    intro i n I hi hn h47 hm ht
    obtain ⟨n, rfl⟩ : ∃ m, n = m + 1 := ⟨n - 1, by omega⟩
    unfold f_X10_stageInParts_L136
    rw [if_pos i51, nI_clamp (by omega), hm.1, if_pos (nI_le (by omega) (by omega))]
    rw [List.take_of_length_le (by omega)] at ht
    exact ⟨I, rfl, ht, OutOnly.refl, rfl⟩
  | succ r ih =>
    intro i n I hi hn h47 hm ht
    obtain ⟨n, rfl⟩ : ∃ m, n = m + 1 := ⟨n - 1, by omega⟩
    have htl : (H.take i).length = i := by simp; omega
    unfold f_X10_stageInParts_L136
    rw [if_pos i51, nI_clamp (show k < 2 ^ 31 by omega), hm.1, if_neg (nI_ge (by omega) (by omega)), if_pos i47, h47, if_pos rfl, i600, if_pos (inb_nI (show 600 * k + i < ln 53 by show _ < 3600; omega) (by decide)), nI_clamp (show 600 * k + i < 2 ^ 31 by omega), hm.2 i (by omega), nI_1]
    obtain ⟨J, g1, g2, g3, g4⟩ := (out_eq (H.getD i 0) ht).1 (by omega)
    rw [g1]
    simp only [Option.bind_some]
    have ht2 : ThenIs J (H.take (i + 1)) := by
      rw [List.take_add_one, List.getElem?_eq_getElem (show i < H.length by omega)]
      simpa [List.getD_eq_getElem?_getD, show i < H.length by omega] using g2
    obtain ⟨M, m1, m2, m3, m4⟩ := ih (i + 1) n J (by omega) (by omega) (by rw [g3.1 47 (by decide) (by decide)]; exact h47) (hm.of (by rw [g3.1 51 (by decide) (by decide)]) (fun u _ _ => by rw [g3.1 53 (by decide) (by decide)])) ht2
    exact ⟨M, m1, m2, g3.trans m3, m4.trans g4⟩
theorem stageP_eq {I : Mem} {k : Nat} (hk : k < 6) (q : Nat → Int32) (hq : q 1 = 2 → ∃ m, m ≤ 4 ∧ q 3 = nI m) (X : List Int32) (s : Sg) (hs : s.1 = 0) (hw : SW s) (hnow : NowIs I X) (hst : MSt I k q s false) (h22 : I 45 22 = 0) :
    ∃ J, f_X10_stageInParts I (nI k) = some J ∧ MSt J k q (wk (q 1) (q 2) (q 3) X s []).1 false ∧ J 45 22 = b2i (!(wk (q 1) (q 2) (q 3) X s []).2.2) ∧ ((wk (q 1) (q 2) (q 3) X s []).2.2 = true → NowIs J (wkR (q 1) (wk (q 1) (q 2) (q 3) X s []))) ∧ MpOnly I J k := by
  have i47 : inb (nI k) (ln 47) = true := inb_nI (show k < ln 47 from hk) (by decide)
  have i51 : inb (nI k) (ln 51) = true := inb_nI (show k < ln 51 from hk) (by decide)
  have ho : OutOnly I (st I 45 35 0) := ⟨fun c q _ => st_ne q, fun b _ q => st_k q⟩
  have hX := hnow.2.1
  obtain ⟨M, m1, m2, m3, m4, m5, m6⟩ := partM_L (nI k) hk q hq X X.length 0 FU (by omega) (by rw [FU_eq]; omega) [] s (st I 45 35 0) hs hw (fun _ => Nat.zero_le _) (fun _ => rfl) (hnow.out ho) ⟨st_s, Nat.zero_le _, fun j hj => absurd hj (Nat.not_lt_zero j)⟩ (hst.out ho) (by rw [st_k (by decide)]; exact h22)
  rw [List.drop_zero] at m2 m3 m4 m5
  have hwl := wk_len (o := q 1) (a := q 2) (n := q 3) X s []
  have hwsw := wk_SW (o := q 1) (a := q 2) (n := q 3) X s [] hw
  generalize hW : wk (q 1) (q 2) (q 3) X s [] = w at *
  have heq : f_X10_stageInParts I (nI k) = f_X10_stageInParts_L136 (nI k) FU M (nI k) 0 := by
    unfold f_X10_stageInParts
    rw [← m1, ← e0]
  rw [heq]
  have hh : w.1.2.2.length ≤ 600 := by have := hwsw.1; omega
  have other : q 1 ≠ 4 → f_X10_stageInParts_L136 (nI k) FU M (nI k) 0 = f_X10_stageInParts_L188 (nI k) FU (st M 45 34 (M 45 35)) 0 := by
    intro c4
    rw [show f_X10_stageInParts_L136 (nI k) FU M (nI k) 0 = f_X10_stageInParts_L136 (nI k) (4999 + 1) M (nI k) 0 from rfl]
    unfold f_X10_stageInParts_L136
    rw [if_pos i51, if_pos i47, nI_clamp (by omega), m2.1, if_neg c4]
    split <;> rfl
  have keep : ∀ (J : Mem), (∀ c, c ≠ 45 → c ≠ 59 → J c = M c) → MSt J k q w.1 false := by
    intro J hJ
    have h3 := m2
    unfold MSt HM at h3 ⊢
    rw [hJ 47 (by decide) (by decide), hJ 48 (by decide) (by decide), hJ 49 (by decide) (by decide), hJ 50 (by decide) (by decide), hJ 51 (by decide) (by decide), hJ 52 (by decide) (by decide), hJ 53 (by decide) (by decide)]
    exact h3
  cases hok : w.2.2 with
  | false =>
    obtain ⟨u1, u2⟩ := m5 hok
    rw [other (by rw [u2]; decide)]
    obtain ⟨J, g1, g2, g3, g4, g5, g6⟩ := tail188 (k := k) (nI k) (Nat.le_refl 600) u1
    refine ⟨J, g1, keep J g4, ?_, fun z => absurd z Bool.false_ne_true, ho.mp.trans (m6.trans g6)⟩
    rw [g5 22 (by decide), m3, hok]
  | true =>
    obtain ⟨u1, u2⟩ := m4 hok
    by_cases c4 : q 1 = 4
    · have hacc := u2 c4
      rw [hacc] at u1
      have hH := (m2.2.2.2.2.2.2.2 c4).1
      obtain ⟨M2, a1, a2, a3, a4⟩ := sortP_L (nI k) hk hh w.1.2.2.length 0 FU M (by omega) (by rw [FU_eq]; omega) (by rw [m2.1]; exact c4) hH (by rw [List.take_zero]; exact u1)
      rw [← e0] at a1
      rw [a1]
      obtain ⟨J, g1, g2, g3, g4, g5, g6⟩ := tail188 (k := k) (nI k) hh a2.1
      refine ⟨J, g1, ?_, ?_, fun _ => ⟨?_, ?_, fun j hj => ?_⟩, ho.mp.trans (m6.trans (a3.mp.trans g6))⟩
      · have h3 := m2.out a3
        unfold MSt HM at h3 ⊢
        rw [g4 47 (by decide) (by decide), g4 48 (by decide) (by decide), g4 49 (by decide) (by decide), g4 50 (by decide) (by decide), g4 51 (by decide) (by decide), g4 52 (by decide) (by decide), g4 53 (by decide) (by decide)]
        exact h3
      · rw [g5 22 (by decide), a4, m3, hok]
      · unfold wkR; rw [if_pos c4]; exact g2
      · unfold wkR; rw [if_pos c4]; exact hh
      · unfold wkR at hj ⊢; rw [if_pos c4] at hj ⊢; rw [g3 j hj]; exact a2.2.2 j hj
    · rw [other c4]
      obtain ⟨J, g1, g2, g3, g4, g5, g6⟩ := tail188 (k := k) (nI k) u1.2.1 u1.1
      refine ⟨J, g1, keep J g4, ?_, fun _ => ⟨?_, ?_, fun j hj => ?_⟩, ho.mp.trans (m6.trans g6)⟩
      · rw [g5 22 (by decide), m3, hok]
      · unfold wkR; rw [if_neg c4]; exact g2
      · unfold wkR; rw [if_neg c4]; exact u1.2.1
      · unfold wkR at hj ⊢; rw [if_neg c4] at hj ⊢; rw [g3 j hj]; exact u1.2.2 j hj
