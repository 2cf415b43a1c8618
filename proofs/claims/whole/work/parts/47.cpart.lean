/-! the program's work in parts, stage by stage -/
def wk (o a n : Int32) : List Int32 → Sg → List Int32 → Sg × List Int32 × Bool
  | [], s, acc => (s, acc, true)
  | x :: xs, s, acc =>
    if o = 2 then (if acc.length + n.toNatClampNeg ≤ 600 then wk o a n xs (bump s) (acc ++ up x n.toNatClampNeg) else (bump s, acc, false))
    else if (lets1 o a n (bump s) x).1 = true then wk o a n xs (lets1 o a n (bump s) x).2 (acc ++ [chg o a n x])
    else wk o a n xs (lets1 o a n (bump s) x).2 acc
def wkR (o : Int32) (r : Sg × List Int32 × Bool) : List Int32 := if o = 4 then r.1.2.2 else r.2.1
def partsK (Q : Mem) : Nat → Nat → (Nat → Sg) → List Int32 → (Nat → Sg) × List Int32 × Bool
  | 0, _, g, X => (g, X, true)
  | d + 1, k, g, X =>
    if (wk (Q k 1) (Q k 2) (Q k 3) X (g k) []).2.2 = true then partsK Q d (k + 1) (setg g k (wk (Q k 1) (Q k 2) (Q k 3) X (g k) []).1) (wkR (Q k 1) (wk (Q k 1) (Q k 2) (Q k 3) X (g k) []))
    else (setg g k (wk (Q k 1) (Q k 2) (Q k 3) X (g k) []).1, [], false)
def takeL (e : Nat → Int32) : List Int32 → Es → Es
  | [], s => s
  | x :: xs, s => takeL e xs (take1 (e 2) (e 3) (e 4) s x)
theorem letFlat_L (x : Int32) (p0 p1 : Int32) {m : Nat} (hm : m < 2 ^ 30) : ∀ (r i n : Nat), i + r = m → r < n → ∀ (acc : List Int32) (I : Mem), RowIs I 33 acc →
    ∃ J, f_X4_letFlat_L2 p0 p1 n I x (nI m) (nI i) = some (decide (acc.length + r ≤ 600), J) ∧ (acc.length + r ≤ 600 → RowIs J 33 (acc ++ up (x + nI i) r)) ∧ RowOnly I J 33 := by
  intro r
  induction r with
  | zero =>
    intro i n hi hn acc I h
    obtain ⟨n, rfl⟩ : ∃ m, n = m + 1 := ⟨n - 1, by omega⟩
    have hl : acc.length ≤ 600 := h.2.1
    unfold f_X4_letFlat_L2
    rw [if_pos (nI_le (by omega) (by omega)), decide_eq_true (by omega)]
    exact ⟨I, rfl, fun _ => by simpa [up] using h, RowOnly.refl⟩
  | succ r ih =>
    intro i n hi hn acc I h
    obtain ⟨n, rfl⟩ : ∃ m, n = m + 1 := ⟨n - 1, by omega⟩
    have hl : acc.length ≤ 600 := h.2.1
    have hn33 : ln (33 + 1) = 600 := rfl
    unfold f_X4_letFlat_L2
    rw [if_neg (nI_ge (by omega) (by omega)), isFull_eq h (by decide)]
    simp only [Option.bind_some, b2i_0]
    by_cases c : acc.length = 600
    · rw [decide_eq_true (show acc.length = ln (33 + 1) from c), if_neg (by decide), decide_eq_false (by omega)]
      exact ⟨I, rfl, fun q => by omega, RowOnly.refl⟩
    · rw [decide_eq_false (show ¬ acc.length = ln (33 + 1) from c), if_pos rfl]
      obtain ⟨J, g1, g2, g3⟩ := add_eq (x := x + nI i) h (by decide) (by omega)
      rw [g1]
      simp only [Option.bind_some]
      rw [e1, nI_add]
      obtain ⟨K, k1, k2, k3⟩ := ih (i + 1) n (by omega) (by omega) _ J g2
      have hlen : (acc ++ [x + nI i]).length = acc.length + 1 := by simp
      rw [hlen] at k1 k2
      refine ⟨K, ?_, fun q => ?_, g3.trans k3⟩
      · rw [k1, show acc.length + 1 + r = acc.length + (r + 1) by omega]
      · have := k2 (by omega)
        rw [← add_nI] at this
        unfold up
        simpa using this
def PwOnly (I J : Mem) (i : Nat) : Prop := ∀ c, c ≠ i → c ≠ i + 1 → c ≠ i + 2 → c ≠ 33 → c ≠ 34 → J c = I c
theorem PwOnly.refl {I : Mem} {i : Nat} : PwOnly I I i := fun _ _ _ _ _ _ => rfl
theorem PwOnly.trans {I J K : Mem} {i : Nat} (h : PwOnly I J i) (h2 : PwOnly J K i) : PwOnly I K i := fun c a b d e f => (h2 c a b d e f).trans (h c a b d e f)
theorem StOnly.pw {I J : Mem} {i : Nat} (h : StOnly I J i) : PwOnly I J i := fun c a b d _ _ => h c a b d
theorem RowOnly.pw {I J : Mem} {i : Nat} (h : RowOnly I J 33) : PwOnly I J i := fun c _ _ _ e f => h c e f
theorem work_L {k : Nat} (hk : k < 6) (q : Nat → Int32) (hq : q 1 = 2 → ∃ m, m ≤ 4 ∧ q 3 = nI m) (X : List Int32) (hX : X.length ≤ 600) : ∀ (r i n : Nat), i + r = X.length → r < n → ∀ (acc : List Int32) (s : Sg) (I : Mem), s.1 = i → SW s → (q 1 ≠ 2 → acc.length ≤ i) → RowIs I 31 X → RowIs I 33 acc → StIs I (6 + 3 * k) q s →
    ∃ J, f_X4_workOn_L9 (6 + 3 * k) n I (nI i) = some ((wk (q 1) (q 2) (q 3) (X.drop i) s acc).2.2, J) ∧ ((wk (q 1) (q 2) (q 3) (X.drop i) s acc).2.2 = true → RowIs J 33 (wkR (q 1) (wk (q 1) (q 2) (q 3) (X.drop i) s acc))) ∧ StIs J (6 + 3 * k) q (wk (q 1) (q 2) (q 3) (X.drop i) s acc).1 ∧ PwOnly I J (6 + 3 * k) := by
  intro r
  induction r with
  | zero =>
    intro i n hi hn acc s I hs hw ha h31 h33 hst
    obtain ⟨n, rfl⟩ : ∃ m, n = m + 1 := ⟨n - 1, by omega⟩
    unfold f_X4_workOn_L9
    rw [h31.1, if_pos (nI_le (by omega) (by omega)), List.drop_eq_nil_of_le (by omega), hst.1]
    unfold wk wkR
    by_cases c4 : q 1 = 4
    · rw [if_pos c4]
      obtain ⟨J, g1, g2, g3⟩ := copy_eq (i := 33) (p9 := 6 + 3 * k + 1) (by omega) (by omega) (by omega) (by decide) (by have := hst.2.2.2.2.2.2.1; rw [ln_st hk] at this; exact this) (by rw [ln_st hk]; decide) hst.2.2.2.2.2
      rw [g1]
      refine ⟨J, rfl, fun _ => by rw [if_pos c4]; exact g2, hst.of (g3 _ (by omega) (by omega)) (g3 _ (by omega) (by omega)) (g3 _ (by omega) (by omega)), g3.pw⟩
    · rw [if_neg c4]
      exact ⟨I, rfl, fun _ => by rw [if_neg c4]; exact h33, hst, PwOnly.refl⟩
  | succ r ih =>
    intro i n hi hn acc s I hs hw ha h31 h33 hst
    obtain ⟨n, rfl⟩ : ∃ m, n = m + 1 := ⟨n - 1, by omega⟩
    obtain ⟨b1, b2⟩ := bump_st hst
    have n32 : ln 32 = 600 := rfl
    have hx : X[i]'(by omega) = X.getD i 0 := by simp [List.getD_eq_getElem?_getD, show i < X.length by omega]
    have h31b : RowIs (st I (6 + 3 * k) 4 ((I (6 + 3 * k) 4) + 1)) 31 X := h31.of (by rw [b2 31 (by omega) (by omega) (by omega)]) (b2 32 (by omega) (by omega) (by omega))
    have h33b : RowIs (st I (6 + 3 * k) 4 ((I (6 + 3 * k) 4) + 1)) 33 acc := h33.of (by rw [b2 33 (by omega) (by omega) (by omega)]) (b2 34 (by omega) (by omega) (by omega))
    have hin : inb (nI i) (ln 32) = true := inb_nI (by rw [n32]; omega) (by decide)
    have hxx : (st I (6 + 3 * k) 4 ((I (6 + 3 * k) 4) + 1)) 32 (nI i).toNatClampNeg = X.getD i 0 := by
      rw [nI_clamp (by omega)]; exact h31b.2.2 i (by omega)
    unfold f_X4_workOn_L9
    rw [h31.1, if_neg (nI_ge (by omega) (by omega)), b1.1, if_pos hin, if_pos hin, List.drop_eq_getElem_cons (show i < X.length by omega), hx, hxx]
    unfold wk
    by_cases c1 : q 1 = 2
    · rw [if_pos c1, if_pos c1]
      obtain ⟨m, hm, hm2⟩ := hq c1
      rw [b1.2.2.1, hm2, nI_clamp (by omega)]
      unfold f_X4_letFlat
      obtain ⟨J, g1, g2, g3⟩ := letFlat_L (X.getD i 0) (X.getD i 0) (nI m) (show m < 2 ^ 30 by omega) m 0 FU (by omega) (by rw [FU_eq]; omega) acc _ h33b
      rw [show X.getD i 0 + nI 0 = X.getD i 0 by rw [nI_0]; exact Int32.add_zero _] at g2
      rw [← e0] at g1
      rw [g1]
      have hst2 : StIs J (6 + 3 * k) q (bump s) := b1.of (g3 _ (by omega) (by omega)) (g3 _ (by omega) (by omega)) (g3 _ (by omega) (by omega))
      by_cases c2 : acc.length + m ≤ 600
      · rw [if_pos c2, decide_eq_true c2]
        simp only [Option.bind_some, b2i_0, Bool.true_eq_false, if_false]
        rw [e1, nI_add]
        obtain ⟨K, k1, k2, k3, k4⟩ := ih (i + 1) n (by omega) (by omega) (acc ++ up (X.getD i 0) m) (bump s) J (by show s.1 + 1 = i + 1; omega) ⟨Nat.le_succ_of_le hw.1, hw.2⟩ (fun z => absurd c1 z) (h31b.of (by rw [g3 31 (by omega) (by omega)]) (g3 32 (by omega) (by omega))) (g2 c2) hst2
        rw [← hm2]
        exact ⟨K, k1, k2, k3, b2.pw.trans (g3.pw.trans k4)⟩
      · rw [if_neg c2, decide_eq_false c2]
        exact ⟨J, rfl, fun z => absurd z Bool.false_ne_true, hst2, b2.pw.trans g3.pw⟩
    · rw [if_neg c1, if_neg c1]
      obtain ⟨J, g1, g2, g3⟩ := letsOn_eq (X.getD i 0) b1 (ln_st hk) (by show s.2.2.length < 600; have := hw.1; omega) hw.2
      have hc := lets1_came (q 1) (q 2) (q 3) (bump s) (X.getD i 0)
      have hsw := lets1_SW (o := q 1) (a := q 2) (n := q 3) (x := X.getD i 0) hw
      rw [g1]
      simp only [Option.bind_some, b2i_0]
      have h31c : RowIs J 31 X := h31b.of (by rw [g3 31 (by omega) (by omega) (by omega)]) (g3 32 (by omega) (by omega) (by omega))
      have h33c : RowIs J 33 acc := h33b.of (by rw [g3 33 (by omega) (by omega) (by omega)]) (g3 34 (by omega) (by omega) (by omega))
      have hal := ha c1
      by_cases c2 : (lets1 (q 1) (q 2) (q 3) (bump s) (X.getD i 0)).1 = true
      · rw [if_pos c2, if_neg (by rw [c2]; decide)]
        have hxx2 : J 32 (nI i).toNatClampNeg = X.getD i 0 := by
          rw [nI_clamp (by omega)]; exact h31c.2.2 i (by omega)
        rw [if_pos hin, hxx2, changed_eq _ g2]
        simp only [Option.bind_some]
        obtain ⟨K, k1, k2, k3⟩ := add_eq (x := chg (q 1) (q 2) (q 3) (X.getD i 0)) h33c (by decide) (show acc.length < ln (33 + 1) by show acc.length < 600; omega)
        rw [k1]
        simp only [Option.bind_some]
        rw [e1, nI_add]
        obtain ⟨M, m1, m2, m3, m4⟩ := ih (i + 1) n (by omega) (by omega) (acc ++ [chg (q 1) (q 2) (q 3) (X.getD i 0)]) _ K (by rw [hc]; show s.1 + 1 = i + 1; omega) hsw (fun _ => by simp; omega) (h31c.of (by rw [k3 31 (by omega) (by omega)]) (k3 32 (by omega) (by omega))) k2 (g2.of (k3 _ (by omega) (by omega)) (k3 _ (by omega) (by omega)) (k3 _ (by omega) (by omega)))
        exact ⟨M, m1, m2, m3, b2.pw.trans (g3.pw.trans (k3.pw.trans m4))⟩
      · rw [if_neg c2, if_pos (by simpa using c2), e1, nI_add]
        obtain ⟨M, m1, m2, m3, m4⟩ := ih (i + 1) n (by omega) (by omega) acc _ J (by rw [hc]; show s.1 + 1 = i + 1; omega) hsw (fun _ => by omega) h31c h33c g2
        exact ⟨M, m1, m2, m3, b2.pw.trans (g3.pw.trans m4)⟩
theorem workOn_eq {k : Nat} (hk : k < 6) (q : Nat → Int32) (hq : q 1 = 2 → ∃ m, m ≤ 4 ∧ q 3 = nI m) (X : List Int32) (s : Sg) (I : Mem) (hs : s.1 = 0) (hw : SW s) (h31 : RowIs I 31 X) (hst : StIs I (6 + 3 * k) q s) :
    ∃ J, f_X4_workOn I (6 + 3 * k) = some ((wk (q 1) (q 2) (q 3) X s []).2.2, J) ∧ ((wk (q 1) (q 2) (q 3) X s []).2.2 = true → RowIs J 33 (wkR (q 1) (wk (q 1) (q 2) (q 3) X s []))) ∧ StIs J (6 + 3 * k) q (wk (q 1) (q 2) (q 3) X s []).1 ∧ PwOnly I J (6 + 3 * k) := by
  obtain ⟨J, g1, g2, g3⟩ := clear_eq (I := I) (i := 33)
  have hX : X.length ≤ 600 := h31.2.1
  obtain ⟨K, k1, k2, k3, k4⟩ := work_L hk q hq X hX X.length 0 FU (by omega) (by rw [FU_eq]; omega) [] s J hs hw (fun _ => Nat.zero_le _) (h31.of (by rw [g3 31 (by omega) (by omega)]) (g3 32 (by omega) (by omega))) g2 (hst.of (g3 _ (by omega) (by omega)) (g3 _ (by omega) (by omega)) (g3 _ (by omega) (by omega)))
  rw [List.drop_zero] at k1 k2 k3
  refine ⟨K, ?_, k2, k3, g3.pw.trans k4⟩
  unfold f_X4_workOn
  rw [g1]
  simp only [Option.bind_some]
  rw [e0]
  exact k1
/-- what running in parts leaves alone -/
def Kp (G : Nat) (I J : Mem) : Prop := (∀ c, c < 4 ∨ c = 5 ∨ 35 ≤ c ∨ c = 52 - G ∨ c = 53 - G → J c = I c) ∧ J 24 1 = I 24 1 ∧ J 4 1 = I 4 1
theorem Kp.refl {G : Nat} {I : Mem} : Kp G I I := ⟨fun _ _ => rfl, rfl, rfl⟩
theorem Kp.trans {G : Nat} {I J K : Mem} (h : Kp G I J) (h2 : Kp G J K) : Kp G I K := ⟨fun c q => (h2.1 c q).trans (h.1 c q), h2.2.1.trans h.2.1, h2.2.2.trans h.2.2⟩
theorem Kc.kp {G : Nat} {I J : Mem} (h : Kc G I J) : Kp G I J := ⟨fun c q => h.1 c (by omega), h.2⟩
theorem PwOnly.kp {G k : Nat} {I J : Mem} (hG : Gok G) (hk : k < 6) (h : PwOnly I J (6 + 3 * k)) : Kp G I J := by
  have := hG.lt
  exact ⟨fun c q => h c (by omega) (by omega) (by omega) (by omega) (by omega), by rw [h 24 (by omega) (by omega) (by omega) (by omega) (by omega)], by rw [h 4 (by omega) (by omega) (by omega) (by omega) (by omega)]⟩
theorem RowOnly.kp31 {G : Nat} {I J : Mem} (hG : Gok G) (h : RowOnly I J 31) : Kp G I J := by
  have := hG.lt
  exact ⟨fun c q => h c (by omega) (by omega), by rw [h 24 (by omega) (by omega)], by rw [h 4 (by omega) (by omega)]⟩
theorem wk_SW {o a n : Int32} : ∀ (X : List Int32) (s : Sg) (acc : List Int32), SW s → SW (wk o a n X s acc).1
  | [], s, acc, h => h
  | x :: X, s, acc, h => by
    unfold wk
    repeat' split
    · exact wk_SW X _ _ ⟨Nat.le_succ_of_le h.1, h.2⟩
    · exact ⟨Nat.le_succ_of_le h.1, h.2⟩
    · exact wk_SW X _ _ (lets1_SW h)
    · exact wk_SW X _ _ (lets1_SW h)
theorem takes_L {e : Nat → Int32} {G : Nat} (hG : Gok G) (X : List Int32) (hX : X.length ≤ 600) : ∀ (r i n : Nat), i + r = X.length → r < n → ∀ (s : Es) (I : Mem), s.1 = i → EW e s → RowIs I 31 X → EndIs I G e s →
    ∃ J, f_X4_comesToEnd_L54 n I (nI i) = some (true, J) ∧ EndIs J G e (takeL e (X.drop i) s) ∧ EndOnly I J G ∧ EW e (takeL e (X.drop i) s) ∧ (takeL e (X.drop i) s).1 ≤ 600 := by
  intro r
  induction r with
  | zero =>
    intro i n hi hn s I hs hw h31 h
    obtain ⟨n, rfl⟩ : ∃ m, n = m + 1 := ⟨n - 1, by omega⟩
    unfold f_X4_comesToEnd_L54
    rw [h31.1, if_pos (nI_le (by omega) (by omega)), List.drop_eq_nil_of_le (by omega)]
    exact ⟨I, rfl, h, EndOnly.refl, hw, by show s.1 ≤ 600; omega⟩
  | succ r ih =>
    intro i n hi hn s I hs hw h31 h
    obtain ⟨n, rfl⟩ : ∃ m, n = m + 1 := ⟨n - 1, by omega⟩
    have hl := hG.lt
    have hx : X[i]'(by omega) = X.getD i 0 := by simp [List.getD_eq_getElem?_getD, show i < X.length by omega]
    unfold f_X4_comesToEnd_L54
    rw [h31.1, if_neg (nI_ge (by omega) (by omega)), if_pos (inb_nI (show i < ln 32 by show i < 600; omega) (by decide)), nI_clamp (by omega), h31.2.2 i (by omega), List.drop_eq_getElem_cons (show i < X.length by omega), hx]
    obtain ⟨J, g1, g2, g3⟩ := take_eq (X.getD i 0) h hG hw (by omega)
    rw [g1]
    simp only [Option.bind_some]
    rw [e1, nI_add]
    obtain ⟨K, k1, k2, k3, k4⟩ := ih (i + 1) n (by omega) (by omega) _ J (by rw [take1_n, hs]) hw.take (h31.of (by rw [g3.1 31 (by omega) (by omega) (by omega)]) (g3.1 32 (by omega) (by omega) (by omega))) g2
    refine ⟨K, k1, k2, ⟨fun c a b d => (k3.1 c a b d).trans (g3.1 c a b d), k3.2.trans g3.2⟩, k4⟩
theorem EndOnly.kp {G : Nat} {I J : Mem} (hG : Gok G) (h : EndOnly I J G) : Kp G I J := by
  refine ⟨fun c q => h.1 c ?_ ?_ ?_, h.2, by rw [h.1 4 (by decide) (by rcases hG with rfl | rfl <;> omega) (by rcases hG with rfl | rfl <;> omega)]⟩ <;> rcases hG with rfl | rfl <;> omega
theorem stages_L {Q : Mem} {e : Nat → Int32} {N G : Nat} (hG : Gok G) (hQ : Qok Q N) (hN : N ≤ 6) : ∀ (d k n : Nat), k + d = N → d < n → ∀ (g : Nat → Sg) (X : List Int32) (s : Es) (I : Mem), I 3 2 = nI N → (∀ j, j < N → StIs I (6 + 3 * j) (Q j) (g j) ∧ SW (g j)) → (∀ j, k ≤ j → j < N → (g j).1 = 0) → s.1 = 0 → EW e s → RowIs I 31 X → EndIs I G e s →
    ∃ J, f_X4_comesToEnd_L6 n I (nI k) = some ((partsK Q d k g X).2.2, J) ∧ (∀ j, j < N → StIs J (6 + 3 * j) (Q j) ((partsK Q d k g X).1 j)) ∧ EndIs J G e (if (partsK Q d k g X).2.2 = true then takeL e (partsK Q d k g X).2.1 s else s) ∧ Kp G I J ∧ EW e (takeL e (partsK Q d k g X).2.1 s) ∧ (takeL e (partsK Q d k g X).2.1 s).1 ≤ 600 := by
  intro d
  induction d with
  | zero =>
    intro k n hk hn g X s I h3 hst hc hs hw h31 h
    obtain ⟨n, rfl⟩ : ∃ m, n = m + 1 := ⟨n - 1, by omega⟩
    unfold f_X4_comesToEnd_L6 partsK
    have hX : X.length ≤ 600 := h31.2.1
    have hl := hG.lt
    rw [h3, if_pos (nI_le (by omega) (by omega)), e0]
    obtain ⟨J, g1, g2, g3, g4, g5⟩ := takes_L hG X hX X.length 0 FU (by omega) (by rw [FU_eq]; omega) s I hs hw h31 h
    rw [List.drop_zero] at g2 g4 g5
    refine ⟨J, g1, fun j hj => ?_, by rw [if_pos rfl]; exact g2, g3.kp hG, g4, g5⟩
    exact (hst j hj).1.of (g3.1 _ (by omega) (by omega) (by omega)) (g3.1 _ (by omega) (by omega) (by omega)) (g3.1 _ (by omega) (by omega) (by omega))
  | succ d ih =>
    intro k n hk hn g X s I h3 hst hc hs hw h31 h
    obtain ⟨n, rfl⟩ : ∃ m, n = m + 1 := ⟨n - 1, by omega⟩
    have hl := hG.lt
    obtain ⟨J, g1, g2, g3, g4⟩ := workOn_eq (show k < 6 by omega) (Q k) (hQ k (by omega)) X (g k) I (hc k (Nat.le_refl _) (by omega)) (hst k (by omega)).2 h31 (hst k (by omega)).1
    have hJ : ∀ j, j < N → StIs J (6 + 3 * j) (Q j) ((setg g k (wk (Q k 1) (Q k 2) (Q k 3) X (g k) []).1) j) := fun j hj => by
      by_cases c : j = k
      · subst c; rw [setg_s]; exact g3
      · rw [setg_n c]
        exact (hst j hj).1.of (g4 _ (by omega) (by omega) (by omega) (by omega) (by omega)) (g4 _ (by omega) (by omega) (by omega) (by omega) (by omega)) (g4 _ (by omega) (by omega) (by omega) (by omega) (by omega))
    have hE : EndIs J G e s := h.of (g4 _ (by omega) (by omega) (by omega) (by omega) (by omega)) (g4 _ (by omega) (by omega) (by omega) (by omega) (by omega)) (g4 _ (by omega) (by omega) (by omega) (by omega) (by omega))
    unfold f_X4_comesToEnd_L6 partsK
    rw [h3, if_neg (nI_ge (by omega) (by omega)), if_pos (inb_nI (show k < ln 5 by show k < 6; omega) (by decide)), nI_clamp (by omega), g1]
    simp only [Option.bind_some, b2i_0]
    by_cases c1 : (wk (Q k 1) (Q k 2) (Q k 3) X (g k) []).2.2 = true
    · rw [if_pos c1, if_neg (by rw [c1]; decide)]
      have h33 := g2 c1
      obtain ⟨K, k1, k2, k3⟩ := copy_eq (i := 31) (p9 := 33) (by omega) (by omega) (by omega) (by decide) h33.2.1 (by decide) h33
      rw [k1]
      simp only [Option.bind_some]
      rw [e1, nI_add]
      have hsw : ∀ j, j < N → SW ((setg g k (wk (Q k 1) (Q k 2) (Q k 3) X (g k) []).1) j) := fun j hj => by
        by_cases c : j = k
        · subst c; rw [setg_s]; exact wk_SW _ _ _ (hst j hj).2
        · rw [setg_n c]; exact (hst j hj).2
      obtain ⟨M, m1, m2, m3, m4, m5⟩ := ih (k + 1) n (by omega) (by omega) (setg g k (wk (Q k 1) (Q k 2) (Q k 3) X (g k) []).1) (wkR (Q k 1) (wk (Q k 1) (Q k 2) (Q k 3) X (g k) [])) s K (by rw [k3 3 (by omega) (by omega), g4 3 (by omega) (by omega) (by omega) (by omega) (by omega)]; exact h3) (fun j hj => ⟨(hJ j hj).of (k3 _ (by omega) (by omega)) (k3 _ (by omega) (by omega)) (k3 _ (by omega) (by omega)), hsw j hj⟩) (fun j h1 h2 => by rw [setg_n (by omega)]; exact hc j (by omega) h2) hs hw k2 (hE.of (k3 _ (by omega) (by omega)) (k3 _ (by omega) (by omega)) (k3 _ (by omega) (by omega)))
      exact ⟨M, m1, m2, m3, (g4.kp hG (by omega)).trans ((k3.kp31 hG).trans m4), m5⟩
    · rw [if_neg c1, if_pos (by simpa using c1)]
      refine ⟨J, by simp at c1 ⊢; try exact c1, hJ, ?_, g4.kp hG (by omega), hw, ?_⟩
      · rw [if_neg Bool.false_ne_true]; exact hE
      · show s.1 ≤ 600; omega
theorem srcp_L : ∀ (n i : Nat) (xs acc : List Int32) (I : Mem), 41 < n + i → i ≤ 40 → SrcIs I i xs → I 4 1 ≠ 2 → acc.length = i → RowIs I 31 acc →
    ∃ J, f_X4_takeSource_L9 n I (nI i) = some J ∧ RowIs J 31 (acc ++ xs) ∧ (∀ c, c ≠ 4 → c ≠ 31 → c ≠ 32 → J c = I c) ∧ J 4 1 = I 4 1 := by
  intro n
  induction n with
  | zero => intro i xs acc I h1 h2; omega
  | succ n ih =>
    intro i xs acc I h1 h2 h3 h4 h5 h6
    obtain ⟨s1, s2, s3⟩ := size_eq h3 h4
    unfold f_X4_takeSource_L9
    rw [show (40 : Int32) = nI 40 from rfl]
    by_cases c : i = 40
    · subst c
      rw [if_pos (nI_le (Nat.le_refl _) (by omega))]
      have : xs = [] := List.length_eq_zero_iff.mp (by omega)
      rw [this, List.append_nil]
      exact ⟨I, rfl, h6, fun _ _ _ _ => rfl, rfl⟩
    · rw [if_neg (nI_ge (by omega) (by omega)), (hasMore_eq h3 (fun q => absurd q h4)).1]
      simp only [Option.bind_some, b2i_0]
      cases xs with
      | nil => exact ⟨I, rfl, by rw [List.append_nil]; exact h6, fun _ _ _ _ => rfl, rfl⟩
      | cons x xs =>
        simp only [List.isEmpty_cons, Bool.not_false, Bool.true_eq_false, if_false]
        obtain ⟨J, g1, g2, g3, g4⟩ := next_eq h3
        obtain ⟨K, k1, k2, k3⟩ := add_eq (x := x) (h6.of (J := J) (by rw [g3 31 (by omega)]) (g3 32 (by omega))) (by decide) (show acc.length < ln (31 + 1) by show acc.length < 600; omega)
        rw [g1]
        simp only [Option.bind_some]
        rw [k1]
        simp only [Option.bind_some]
        rw [e1, nI_add]
        have q4 := k3 4 (by omega) (by omega)
        obtain ⟨M, m1, m2, m3⟩ := ih (i + 1) xs (acc ++ [x]) K (by omega) (by omega) (g2.of (k3 1 (by omega) (by omega)) (k3 2 (by omega) (by omega)) q4) (by rw [q4, g4]; exact h4) (by simp; omega) k2
        refine ⟨M, m1, by simpa using m2, fun c a b d => (m3.1 c a b d).trans ((k3 c b d).trans (g3 c a)), m3.2.trans (by rw [q4, g4])⟩
theorem cparts_eq {Q : Mem} {e : Nat → Int32} {N G : Nat} (hG : Gok G) (hQ : Qok Q N) (hN : N ≤ 6) {xs : List Int32} {g : Nat → Sg} {s : Es} {I : Mem} (hs : SrcIs I 0 xs) (hkind : I 4 1 ≠ 2) (h3 : I 3 2 = nI N) (hst : ∀ j, j < N → StIs I (6 + 3 * j) (Q j) (g j) ∧ SW (g j)) (hc : ∀ j, j < N → (g j).1 = 0) (hs0 : s.1 = 0) (hw : EW e s) (h : EndIs I G e s) :
    ∃ J, f_X4_comesToEnd I = some ((partsK Q N 0 g xs).2.2, J) ∧ (∀ j, j < N → StIs J (6 + 3 * j) (Q j) ((partsK Q N 0 g xs).1 j)) ∧ EndIs J G e (if (partsK Q N 0 g xs).2.2 = true then takeL e (partsK Q N 0 g xs).2.1 s else s) ∧ Kp G I J ∧ EW e (takeL e (partsK Q N 0 g xs).2.1 s) ∧ (takeL e (partsK Q N 0 g xs).2.1 s).1 ≤ 600 := by
  have hl := hG.lt
  obtain ⟨J, g1, g2, g3⟩ := clear_eq (I := I) (i := 31)
  obtain ⟨K, k1, k2, k3⟩ := srcp_L FU 0 xs [] J (by rw [FU_eq]; omega) (by omega) (hs.of (g3 1 (by omega) (by omega)) (g3 2 (by omega) (by omega)) (g3 4 (by omega) (by omega))) (by rw [g3 4 (by omega) (by omega)]; exact hkind) rfl g2
  have hq : ∀ c, c ≠ 4 → c ≠ 31 → c ≠ 32 → K c = I c := fun c a b d => (k3.1 c a b d).trans (g3 c b d)
  obtain ⟨M, m1, m2, m3, m4, m5⟩ := stages_L hG hQ hN N 0 FU (by omega) (by rw [FU_eq]; omega) g xs s K (by rw [hq 3 (by omega) (by omega) (by omega)]; exact h3) (fun j hj => ⟨(hst j hj).1.of (hq _ (by omega) (by omega) (by omega)) (hq _ (by omega) (by omega) (by omega)) (hq _ (by omega) (by omega) (by omega)), (hst j hj).2⟩) (fun j _ hj => hc j hj) hs0 hw k2 (h.of (hq _ (by omega) (by omega) (by omega)) (hq _ (by omega) (by omega) (by omega)) (hq _ (by omega) (by omega) (by omega)))
  refine ⟨M, ?_, m2, m3, Kp.trans ⟨fun c q => hq c (by omega) (by omega) (by omega), by rw [hq 24 (by omega) (by omega) (by omega)], by rw [k3.2, g3 4 (by omega) (by omega)]⟩ m4, m5⟩
  unfold f_X4_comesToEnd f_X4_takeSource
  rw [g1]
  simp only [Option.bind_some]
  rw [← e0] at k1 m1
  rw [k1]
  simp only [Option.bind_some]
  exact m1
