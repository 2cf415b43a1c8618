/-! the program's stage and end do as the functions say -/
theorem passes_eq (I : Mem) (x a n : Int32) : f_X9_passes I x a n = some (pas x a n, I) := by
  unfold f_X9_passes pas
  repeat' split
  all_goals simp_all
theorem passes_eq' (I : Mem) (x a n : Int32) : f_X10_passes I x a n = some (pas x a n, I) := passes_eq I x a n
theorem mapped_eq' (I : Mem) (x a n : Int32) : f_X10_mapped I x a n = some (mp x a n, I) := by
  unfold f_X10_mapped mp
  repeat' split
  all_goals simp_all
theorem mapped_eq (I : Mem) (i : Nat) (x : Int32) : f_X7_mapped I i x = some (mp x (I i 2) (I i 3), I) := by
  unfold f_X7_mapped mp
  repeat' split
  all_goals simp_all
/-- the stage at i is of the kind q and in the state s -/
def StIs (I : Mem) (i : Nat) (q : Nat → Int32) (s : Sg) : Prop := I i 1 = q 1 ∧ I i 2 = q 2 ∧ I i 3 = q 3 ∧ I i 4 = nI s.1 ∧ I i 5 = b2i s.2.1 ∧ RowIs I (i + 1) s.2.2
theorem StIs.of {I J : Mem} {i : Nat} {q : Nat → Int32} {s : Sg} (h : StIs I i q s) (h0 : J i = I i) (h1 : J (i + 1) = I (i + 1)) (h2 : J (i + 2) = I (i + 2)) : StIs J i q s := by
  obtain ⟨a, b, c, d, e, f⟩ := h
  refine ⟨by rw [h0]; exact a, by rw [h0]; exact b, by rw [h0]; exact c, by rw [h0]; exact d, by rw [h0]; exact e, f.of (by rw [h1]) h2⟩
/-- nothing changes but at the stage i -/
def StOnly (I J : Mem) (i : Nat) : Prop := ∀ c, c ≠ i → c ≠ i + 1 → c ≠ i + 2 → J c = I c
theorem StOnly.refl {I : Mem} {i : Nat} : StOnly I I i := fun _ _ _ _ => rfl
theorem StOnly.trans {I J K : Mem} {i : Nat} (h : StOnly I J i) (h2 : StOnly J K i) : StOnly I K i := fun c a b d => (h2 c a b d).trans (h c a b d)
theorem RowOnly.st {I J : Mem} {i : Nat} (h : RowOnly I J (i + 1)) : StOnly I J i := fun c _ b d => h c b d
theorem changed_eq {I : Mem} {i : Nat} {q : Nat → Int32} {s : Sg} (x : Int32) (h : StIs I i q s) : f_X7_changed I i x = some (chg (q 1) (q 2) (q 3) x, I) := by
  obtain ⟨a, b, c, d, e, f⟩ := h
  unfold f_X7_changed chg
  rw [mapped_eq, a, b, c]
  split <;> simp_all
theorem isClosed_eq {I : Mem} {i : Nat} {q : Nat → Int32} {s : Sg} (h : StIs I i q s) : f_X7_isClosed I i = some (clo (q 1) (q 3) s, I) := by
  obtain ⟨a, b, c, d, e, f⟩ := h
  unfold f_X7_isClosed clo
  rw [a, c, d, e]
  simp only [b2i_0]
  repeat' split
  all_goals simp_all
theorem zraw_b (b : Bool) (M : Mem) : zraw (b2i b) M = some (b, M) := by
  cases b <;> rfl
theorem bump_st {I : Mem} {i : Nat} {q : Nat → Int32} {s : Sg} (h : StIs I i q s) : StIs (st I i 4 ((I i 4) + 1)) i q (bump s) ∧ StOnly I (st I i 4 ((I i 4) + 1)) i := by
  obtain ⟨a, b, c, d, e, f⟩ := h
  refine ⟨⟨?_, ?_, ?_, ?_, ?_, ?_⟩, fun c h1 _ _ => st_ne h1⟩
  · rw [st_k (by decide)]; exact a
  · rw [st_k (by decide)]; exact b
  · rw [st_k (by decide)]; exact c
  · rw [st_s, d]; exact nI_1 _
  · rw [st_k (by decide)]; exact e
  · exact f.of (by rw [st_ne (by omega)]) (by rw [st_ne (by omega)])
theorem fail_st {I : Mem} {i : Nat} {q : Nat → Int32} {s : Sg} (b : Bool) (h : StIs I i q s) : StIs (st I i 5 (b2i b)) i q (s.1, b, s.2.2) ∧ StOnly I (st I i 5 (b2i b)) i := by
  obtain ⟨a, b, c, d, e, f⟩ := h
  refine ⟨⟨?_, ?_, ?_, ?_, ?_, ?_⟩, fun c h1 _ _ => st_ne h1⟩
  · rw [st_k (by decide)]; exact a
  · rw [st_k (by decide)]; exact b
  · rw [st_k (by decide)]; exact c
  · rw [st_k (by decide)]; exact d
  · rw [st_s]
  · exact f.of (by rw [st_ne (by omega)]) (by rw [st_ne (by omega)])
theorem hasFailed_eq {I : Mem} {i : Nat} {q : Nat → Int32} {s : Sg} (x : Int32) (h : StIs I i q s) : f_X7_hasFailed I i x = some (s.2.1 || !pas x (q 2) (q 3), st I i 5 (b2i (s.2.1 || !pas x (q 2) (q 3)))) := by
  obtain ⟨a, b, c, d, e, f⟩ := h
  unfold f_X7_hasFailed
  rw [e, b, c, passes_eq]
  simp only [b2i_0, Option.bind_some, st_s]
  cases s.2.1 <;> cases pas x (q 2) (q 3) <;> rfl
theorem row_st {I J : Mem} {i : Nat} {q : Nat → Int32} {s : Sg} {ys : List Int32} (h : StIs I i q s) (h1 : RowIs J (i + 1) ys) (h2 : RowOnly I J (i + 1)) : StIs J i q (s.1, s.2.1, ys) := by
  obtain ⟨a, b, c, d, e, f⟩ := h
  have h3 := h2 i (by omega) (by omega)
  exact ⟨by rw [h3]; exact a, by rw [h3]; exact b, by rw [h3]; exact c, by rw [h3]; exact d, by rw [h3]; exact e, h1⟩
theorem letsOn_eq {I : Mem} {i : Nat} {q : Nat → Int32} {s : Sg} (x : Int32) (h : StIs I i q s) (hl : ln (i + 1 + 1) = 600) (hr : s.2.2.length < 600) (ha : Asc s.2.2) : ∃ J, f_X7_letsOn I i x = some ((lets1 (q 1) (q 2) (q 3) s x).1, J) ∧ StIs J i q (lets1 (q 1) (q 2) (q 3) s x).2 ∧ StOnly I J i := by
  have h0 := h
  obtain ⟨a, b, c, d, e, f⟩ := h
  unfold f_X7_letsOn lets1
  rw [a, b, c, d]
  by_cases c1 : q 1 = 1
  · rw [if_pos c1, if_pos c1, passes_eq]
    exact ⟨I, rfl, h0, StOnly.refl⟩
  rw [if_neg c1, if_neg c1]
  by_cases c3 : q 1 = 3
  · rw [if_pos c3, if_pos c3]
    have hN := insNew_eq x f (by omega) (by omega) ha
    by_cases c4 : x ∈ s.2.2
    · rw [hN.1 c4, if_pos c4]
      exact ⟨I, rfl, h0, StOnly.refl⟩
    · obtain ⟨J, g1, g2, g3⟩ := hN.2 c4
      rw [if_neg c4, g1]
      exact ⟨J, rfl, row_st h0 g2 g3, g3.st⟩
  rw [if_neg c3, if_neg c3]
  by_cases c4 : q 1 = 4
  · rw [if_pos c4, if_pos c4]
    obtain ⟨J, g1, g2, g3⟩ := insA_eq (x := x) f (by omega) (by omega) ha
    rw [g1]
    exact ⟨J, rfl, row_st h0 g2 g3, g3.st⟩
  rw [if_neg c4, if_neg c4]
  by_cases c5 : q 1 = 5
  · rw [if_pos c5, if_pos c5]
    by_cases c6 : q 3 < nI s.1
    · rw [if_pos c6, decide_eq_true c6]; exact ⟨I, rfl, h0, StOnly.refl⟩
    · rw [if_neg c6, decide_eq_false c6]; exact ⟨I, rfl, h0, StOnly.refl⟩
  rw [if_neg c5, if_neg c5]
  by_cases c6 : q 1 = 6
  · rw [if_pos c6, if_pos c6]
    by_cases c7 : nI s.1 ≤ q 3
    · rw [if_pos c7, decide_eq_true c7]; exact ⟨I, rfl, h0, StOnly.refl⟩
    · rw [if_neg c7, decide_eq_false c7]; exact ⟨I, rfl, h0, StOnly.refl⟩
  rw [if_neg c6, if_neg c6]
  have hf := fail_st (s.2.1 || !pas x (q 2) (q 3)) h0
  by_cases c8 : q 1 = 8
  · rw [if_pos c8, if_pos c8, hasFailed_eq x h0]
    simp only [Option.bind_some, b2i_0]
    refine ⟨_, ?_, hf.1, hf.2⟩
    cases (s.2.1 || !pas x (q 2) (q 3)) <;> rfl
  rw [if_neg c8, if_neg c8]
  by_cases c9 : q 1 = 9
  · rw [if_pos c9, if_pos c9, hasFailed_eq x h0]
    exact ⟨_, rfl, hf.1, hf.2⟩
  rw [if_neg c9, if_neg c9]
  exact ⟨I, rfl, h0, StOnly.refl⟩
theorem rem_nI (x : Int32) {m : Nat} (h1 : 1 ≤ m) (h2 : m ≤ 8) : (0 ≤ x - x / nI m * nI m → x - x / nI m * nI m = nI (fm x (nI m))) ∧ (¬ 0 ≤ x - x / nI m * nI m → (x - x / nI m * nI m) + nI m = nI (fm x (nI m))) := by
  have hr := rem_toInt x (nI m)
  rw [nI_toInt (by omega)] at hr
  have hm := fm_lt x h1 h2
  have hf : ((fm x (nI m) : Nat) : Int) = x.toInt % m := by
    unfold fm
    rw [nI_toInt (by omega)]
    exact Int.toNat_of_nonneg (Int.emod_nonneg _ (by omega))
  have ht := Int.tmod_eq_emod (a := x.toInt) (b := m)
  have hz : (0 : Int32).toInt = 0 := rfl
  have hb := Int.emod_lt_of_pos x.toInt (show (0 : Int) < m by omega)
  have hb0 := Int.emod_nonneg x.toInt (show (m : Int) ≠ 0 by omega)
  have hd : ∀ y : Int32, ∀ k : Nat, k < 2 ^ 31 → y.toInt = k → y = nI k := fun y k hk hy => Int32.toInt_inj.mp (by rw [hy, nI_toInt hk])
  constructor
  · intro h
    rw [Int32.le_iff_toInt_le, hz, hr] at h
    refine hd _ _ (by omega) ?_
    rw [hr]
    split at ht <;> omega
  · intro h
    rw [Int32.le_iff_toInt_le, hz, hr] at h
    refine hd _ _ (by omega) ?_
    rw [Int32.toInt_add, hr, nI_toInt (by omega)]
    have : (x.toInt.tmod m + (m : Int)) = ((fm x (nI m) : Nat) : Int) := by
      rw [hf]
      split at ht <;> omega
    rw [this]
    exact Int.bmod_eq_of_le (by omega) (by omega)
