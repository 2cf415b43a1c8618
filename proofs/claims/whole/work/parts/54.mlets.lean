theorem bumpM {I : Mem} {k : Nat} {q : Nat → Int32} {s : Sg} {tr : Bool} (h : MSt I k q s tr) : (st I 50 k (I 50 k + 1)) 47 k = q 1 ∧ (st I 50 k (I 50 k + 1)) 48 k = q 2 ∧ (st I 50 k (I 50 k + 1)) 49 k = q 3 ∧ (st I 50 k (I 50 k + 1)) 50 k = nI (s.1 + 1) ∧ MsOnly I (st I 50 k (I 50 k + 1)) k := by
  obtain ⟨a, b, c, d, e, f, g, m⟩ := h
  refine ⟨by rw [st_ne (by omega)]; exact a, by rw [st_ne (by omega)]; exact b, by rw [st_ne (by omega)]; exact c, by rw [st_s, d, nI_1], fun c h1 _ _ _ => st_ne h1, fun j z => ⟨st_k z, by rw [st_ne (by omega)], by rw [st_ne (by omega)]⟩, fun i _ => by rw [st_ne (by omega)]⟩
theorem MSt_bump {I : Mem} {k : Nat} {q : Nat → Int32} {s : Sg} {tr : Bool} (h : MSt I k q s tr) (h5 : q 1 ≠ 5) (h6 : q 1 ≠ 6) : MSt (st I 50 k (I 50 k + 1)) k q (bump s) tr := by
  obtain ⟨b1, b2, b3, b4, b5⟩ := bumpM h
  obtain ⟨a, b, c, d, e, f, g, m⟩ := h
  have h51 : (st I 50 k (I 50 k + 1)) 51 = I 51 := st_ne (by omega)
  have h52 : (st I 50 k (I 50 k + 1)) 52 = I 52 := st_ne (by omega)
  have h53 : (st I 50 k (I 50 k + 1)) 53 = I 53 := st_ne (by omega)
  refine ⟨b1, b2, b3, b4, fun z => ?_, fun z => by rw [h52]; exact f z, fun z => ?_, fun z => ?_⟩
  · rcases z with z | z
    · exact absurd z h5
    · exact absurd z h6
  · obtain ⟨L, l1, l2, l3⟩ := g z
    exact ⟨L, l1, l2, l3.of (by rw [h51]) (fun i _ _ => by rw [h53])⟩
  · obtain ⟨m1, m2⟩ := m z
    exact ⟨m1.of (by rw [h51]) (fun i _ _ => by rw [h53]), by rw [h52]; exact m2⟩
set_option maxHeartbeats 1000000 in
theorem letsM_eq {I : Mem} {k : Nat} {q : Nat → Int32} {s : Sg} {tr : Bool} (x : Int32) (hk : k < 6) (h : MSt I k q s tr) (hs : s.2.2.length < 600) (h4 : q 1 ≠ 4) : ∃ J, f_X10_lets (st I 50 k (I 50 k + 1)) (nI k) x = some ((lets1 (q 1) (q 2) (q 3) (bump s) x).1, J) ∧ MSt J k q (lets1 (q 1) (q 2) (q 3) (bump s) x).2 tr ∧ MsOnly I J k := by
  obtain ⟨b1, b2, b3, b4, b5⟩ := bumpM h
  have hb := MSt_bump h
  have i47 : inb (nI k) (ln 47) = true := inb_nI (show k < ln 47 from hk) (by decide)
  have i48' : inb (nI k) (ln 48) = true := inb_nI (show k < ln 48 from hk) (by decide)
  have i49 : inb (nI k) (ln 49) = true := inb_nI (show k < ln 49 from hk) (by decide)
  have i51 : inb (nI k) (ln 51) = true := inb_nI (show k < ln 51 from hk) (by decide)
  have i52 : inb (nI k) (ln 52) = true := inb_nI (show k < ln 52 from hk) (by decide)
  have hk31 : (nI k).toNatClampNeg = k := nI_clamp (by omega)
  obtain ⟨a, b, c, d, e, f, g, m⟩ := h
  have h51 : (st I 50 k (I 50 k + 1)) 51 = I 51 := st_ne (by omega)
  have h52 : (st I 50 k (I 50 k + 1)) 52 = I 52 := st_ne (by omega)
  generalize hM : st I 50 k (I 50 k + 1) = M at b1 b2 b3 b4 b5 hb h51 h52 ⊢
  unfold f_X10_lets lets1
  simp only [i47, i48', i49, i51, i52, hk31, if_true, passes_eq', Option.bind_some, b1, b2, b3]
  have failed : ∀ (z : Bool), (q 1 = 8 ∨ q 1 = 9) → MSt (st M 52 k (b2i z)) k q ((bump s).1, z, (bump s).2.2) tr ∧ MsOnly I (st M 52 k (b2i z)) k := by
    intro z hz
    have n3 : q 1 ≠ 3 := fun y => by rcases hz with w | w <;> rw [w] at y <;> exact absurd y (by decide)
    have n5 : q 1 ≠ 5 := fun y => by rcases hz with w | w <;> rw [w] at y <;> exact absurd y (by decide)
    have n6 : q 1 ≠ 6 := fun y => by rcases hz with w | w <;> rw [w] at y <;> exact absurd y (by decide)
    refine ⟨⟨?_, ?_, ?_, ?_, fun y => ?_, fun y => ?_, fun y => absurd y n3, fun y => absurd y h4⟩, b5.trans ⟨fun c _ _ h2 _ => st_ne h2, fun j y => ⟨by rw [st_ne (by omega)], by rw [st_ne (by omega)], st_k y⟩, fun i _ => by rw [st_ne (by omega)]⟩⟩
    · rw [st_ne (by omega)]; exact b1
    · rw [st_ne (by omega)]; exact b2
    · rw [st_ne (by omega)]; exact b3
    · rw [st_ne (by omega)]; exact b4
    · rcases y with y | y
      · exact absurd y n5
      · exact absurd y n6
    · rw [st_s]
  have counted : (q 1 = 5 ∨ q 1 = 6) → M 51 k + 1 = nI (s.1 + 1) ∧ MSt (st M 51 k (nI (s.1 + 1))) k q (bump s) tr ∧ MsOnly I (st M 51 k (nI (s.1 + 1))) k := by
    intro hz
    have n3 : q 1 ≠ 3 := fun y => by rcases hz with w | w <;> rw [w] at y <;> exact absurd y (by decide)
    have n8 : q 1 ≠ 8 := fun y => by rcases hz with w | w <;> rw [w] at y <;> exact absurd y (by decide)
    have n9 : q 1 ≠ 9 := fun y => by rcases hz with w | w <;> rw [w] at y <;> exact absurd y (by decide)
    refine ⟨by rw [h51, e hz, nI_1], ⟨?_, ?_, ?_, ?_, fun y => ?_, fun y => ?_, fun y => absurd y n3, fun y => absurd y h4⟩, b5.trans ⟨fun c _ h2 _ _ => st_ne h2, fun j y => ⟨by rw [st_ne (by omega)], st_k y, by rw [st_ne (by omega)]⟩, fun i _ => by rw [st_ne (by omega)]⟩⟩
    · rw [st_ne (by omega)]; exact b1
    · rw [st_ne (by omega)]; exact b2
    · rw [st_ne (by omega)]; exact b3
    · rw [st_ne (by omega)]; exact b4
    · rw [st_s]; rfl
    · rcases y with y | y
      · exact absurd y n8
      · exact absurd y n9
  by_cases c1 : q 1 = 1
  · simp only [if_pos c1]
    exact ⟨M, rfl, hb (by rw [c1]; decide) (by rw [c1]; decide), b5⟩
  simp only [if_neg c1]
  by_cases c3 : q 1 = 3
  · simp only [if_pos c3]
    obtain ⟨L, l1, l2, l3⟩ := g c3
    have l3' : HM M k L := l3.of (by rw [h51]) (fun i _ _ => by rw [← hM, st_ne (by omega)])
    have hh := holdsM_L (nI k) x x hk (by omega) l3' L.length 0 FU false (by omega) (by rw [FU_eq]; omega)
    rw [b2i_f, ← e0, List.drop_zero, Bool.false_or] at hh
    unfold f_X10_holds
    rw [hh]
    simp only [Option.bind_some, b2i_0]
    have hbb := hb (by rw [c3]; decide) (by rw [c3]; decide)
    by_cases z : x ∈ s.2.2
    · have z2 : x ∈ L := (l2 x).mpr z
      rw [decide_eq_true z2, if_neg (by decide), if_pos (show x ∈ (bump s).2.2 from z)]
      exact ⟨M, rfl, hbb, b5⟩
    · have z2 : ¬ x ∈ L := fun y => z ((l2 x).mp y)
      rw [decide_eq_false z2, if_pos rfl, if_neg (show ¬ x ∈ (bump s).2.2 from z)]
      obtain ⟨J, g1, g2, g3, g4, g5⟩ := holdM_eq x hk (by omega) l3'
      rw [g1]
      refine ⟨J, rfl, ⟨?_, ?_, ?_, ?_, fun y => ?_, fun y => ?_, fun y => ⟨L ++ [x], ?_, fun w => ?_, g2⟩, fun y => absurd y h4⟩, b5.trans g3⟩
      · rw [g3.1 47 (by omega) (by omega) (by omega) (by omega)]; exact b1
      · rw [g3.1 48 (by omega) (by omega) (by omega) (by omega)]; exact b2
      · rw [g3.1 49 (by omega) (by omega) (by omega) (by omega)]; exact b3
      · rw [g4]; exact b4
      · rw [c3] at y; exact absurd y (by decide)
      · rw [c3] at y; exact absurd y (by decide)
      · show (L ++ [x]).length = (ins s.2.2 x).length
        rw [ins_length]; simp; omega
      · show w ∈ L ++ [x] ↔ w ∈ ins s.2.2 x
        rw [ins_mem]; simp [l2 w, or_comm]
  simp only [if_neg c3, if_neg h4]
  by_cases c5 : q 1 = 5
  · simp only [if_pos c5]
    obtain ⟨w1, w2, w3⟩ := counted (.inl c5)
    simp only [w1, st_s, show (st M 51 k (nI (s.1 + 1))) 49 k = q 3 by rw [st_ne (by omega)]; exact b3]
    by_cases z : q 3 < nI (s.1 + 1)
    · rw [if_pos z, decide_eq_true (show q 3 < nI (bump s).1 from z)]
      exact ⟨_, rfl, w2, w3⟩
    · rw [if_neg z, decide_eq_false (show ¬ q 3 < nI (bump s).1 from z)]
      exact ⟨_, rfl, w2, w3⟩
  simp only [if_neg c5]
  by_cases c6 : q 1 = 6
  · simp only [if_pos c6]
    obtain ⟨w1, w2, w3⟩ := counted (.inr c6)
    simp only [w1, st_s, show (st M 51 k (nI (s.1 + 1))) 49 k = q 3 by rw [st_ne (by omega)]; exact b3]
    by_cases z : nI (s.1 + 1) ≤ q 3
    · rw [if_pos z, decide_eq_true (show nI (bump s).1 ≤ q 3 from z)]
      exact ⟨_, rfl, w2, w3⟩
    · rw [if_neg z, decide_eq_false (show ¬ nI (bump s).1 ≤ q 3 from z)]
      exact ⟨_, rfl, w2, w3⟩
  simp only [if_neg c6]
  have hbs : (bump s).2.1 = s.2.1 := rfl
  by_cases c8 : q 1 = 8
  · simp only [if_pos c8, nar_0, nar_1, st_s, h52, f (.inl c8), b2i_0, hbs]
    obtain ⟨w1, w2⟩ := failed (s.2.1 || !pas x (q 2) (q 3)) (.inl c8)
    refine ⟨_, ?_, w1, w2⟩
    cases s.2.1 <;> cases pas x (q 2) (q 3) <;> rfl
  simp only [if_neg c8]
  by_cases c9 : q 1 = 9
  · simp only [if_pos c9, nar_0, nar_1, st_s, h52, f (.inr c9), b2i_0, hbs, zraw_b]
    obtain ⟨w1, w2⟩ := failed (s.2.1 || !pas x (q 2) (q 3)) (.inr c9)
    refine ⟨_, ?_, w1, w2⟩
    cases s.2.1 <;> cases pas x (q 2) (q 3) <;> rfl
  simp only [if_neg c9]
  exact ⟨M, rfl, hb c5 c6, b5⟩
theorem sortInM_st {I : Mem} {k : Nat} {q : Nat → Int32} {s : Sg} {tr : Bool} (x : Int32) (hk : k < 6) (h : MSt I k q s tr) (hs : s.2.2.length < 600) (ha : Asc s.2.2) (h4 : q 1 = 4) : ∃ J, f_X10_sortIn (st I 50 k (I 50 k + 1)) (nI k) x = some J ∧ MSt J k q (lets1 (q 1) (q 2) (q 3) (bump s) x).2 tr ∧ MsOnly I J k := by
  obtain ⟨b1, b2, b3, b4, b5⟩ := bumpM h
  have hb := MSt_bump h (by rw [h4]; decide) (by rw [h4]; decide)
  obtain ⟨m1, m2⟩ := hb.2.2.2.2.2.2.2 h4
  obtain ⟨J, g1, g2, g3, g4, g5⟩ := sortInM_eq x hk hs ha m1
  refine ⟨J, g1, ?_, b5.trans g3⟩
  unfold lets1
  rw [if_neg (by rw [h4]; decide), if_neg (by rw [h4]; decide), if_pos h4]
  refine ⟨?_, ?_, ?_, ?_, fun y => ?_, fun y => ?_, fun y => ?_, fun y => ⟨g2, by rw [g5]; exact m2⟩⟩
  · rw [g3.1 47 (by omega) (by omega) (by omega) (by omega)]; exact b1
  · rw [g3.1 48 (by omega) (by omega) (by omega) (by omega)]; exact b2
  · rw [g3.1 49 (by omega) (by omega) (by omega) (by omega)]; exact b3
  · rw [g4]; exact b4
  · rw [h4] at y; exact absurd y (by decide)
  · rw [h4] at y; exact absurd y (by decide)
  · rw [h4] at y; exact absurd y (by decide)
/-- how far the reference asks -/
theorem wantsM_L {Q : Mem} {g : Nat → Sg} {dec : Bool} {N : Nat} {tr : Nat → Bool} {I : Mem} (p : Int32) (hN : N ≤ 6) (h9 : I 45 9 = nI N) (h28 : I 45 28 = b2i dec) (hst : ∀ k, k < N → MSt I k (Q k) (g k) (tr k)) : ∀ (d k n : Nat), k + d = N → d < n → (∀ j, k ≤ j → tr j = false) → f_X10_wants_L2 p n I (nI k) = some (wn Q g dec d k, I) := by
  intro d
  induction d with
  | zero =>
    intro k n hk hn htr
    obtain ⟨n, rfl⟩ : ∃ m, n = m + 1 := ⟨n - 1, by omega⟩
    unfold f_X10_wants_L2 wn
    rw [h9, if_pos (nI_le (by omega) (by omega)), h28]
    cases dec <;> rfl
  | succ d ih =>
    intro k n hk hn htr
    obtain ⟨n, rfl⟩ : ∃ m, n = m + 1 := ⟨n - 1, by omega⟩
    have i47 : inb (nI k) (ln 47) = true := inb_nI (show k < ln 47 by show k < 6; omega) (by decide)
    have i49 : inb (nI k) (ln 49) = true := inb_nI (show k < ln 49 by show k < 6; omega) (by decide)
    have i51 : inb (nI k) (ln 51) = true := inb_nI (show k < ln 51 by show k < 6; omega) (by decide)
    have i52 : inb (nI k) (ln 52) = true := inb_nI (show k < ln 52 by show k < 6; omega) (by decide)
    have hk31 : (nI k).toNatClampNeg = k := nI_clamp (by omega)
    obtain ⟨a, b, c, d', e, f, g', m⟩ := hst k (by omega)
    unfold f_X10_wants_L2 wn f_X10_wants_J31 f_X10_wants_J56 clo
    rw [h9, if_neg (nI_ge (by omega) (by omega))]
    simp only [i47, i49, i51, i52, hk31, if_true, a, c, nI_1]
    rw [ih (k + 1) n (by omega) (by omega) (fun j hj => htr j (by omega))]
    by_cases c4 : Q k 1 = 4
    · simp only [if_pos c4, (m c4).2, htr k (Nat.le_refl _), b2i_0, if_true]
    simp only [if_neg c4]
    by_cases c5 : Q k 1 = 5
    · simp only [if_pos c5, e (.inl c5)]
      have n8 : ¬ Q k 1 = 8 := by rw [c5]; decide
      simp only [if_neg n8]
      by_cases z : Q k 3 ≤ nI (g k).1
      · simp [z]
      · simp [z]
    simp only [if_neg c5]
    by_cases c8 : Q k 1 = 8
    · simp only [if_pos c8, f (.inl c8), b2i_0]
      cases (g k).2.1 <;> simp
    simp only [if_neg c8]
    simp
