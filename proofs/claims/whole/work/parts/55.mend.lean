/-! the reference's end does as the functions say -/
def valM (e : Nat → Int32) (s : Es) : Int32 := if e 2 = 5 then b2i s.2.2.1 else if e 2 = 6 then b2i (!s.2.2.1) else if e 2 = 7 then b2i (!s.2.2.1) else if e 2 = 10 then nI (posc s.2.2.2) else s.2.1
def EndM (I : Mem) (e : Nat → Int32) (s : Es) : Prop := I 45 23 = e 2 ∧ I 45 24 = e 3 ∧ I 45 25 = e 4 ∧ I 45 26 = nI s.1 ∧ I 45 27 = valM e s ∧ I 45 28 = b2i s.2.2.1 ∧ (e 2 = 9 ∨ e 2 = 10 → ∀ j, j < s.2.2.2.length → I 57 j = s.2.2.2.getD j 0)
def MeOnly (I J : Mem) : Prop := (∀ c, c ≠ 45 → c ≠ 57 → J c = I c) ∧ ∀ b, b ≠ 26 → b ≠ 27 → b ≠ 28 → J 45 b = I 45 b
theorem MeOnly.refl {I : Mem} : MeOnly I I := ⟨fun _ _ _ => rfl, fun _ _ _ _ => rfl⟩
theorem posc_set : ∀ (xs : List Int32) (r : Nat), r < xs.length → xs.getD r 0 + 1 ≠ 0 → posc (xs.set r (xs.getD r 0 + 1)) = posc xs + (if xs.getD r 0 = 0 then 1 else 0)
  | [], r, h, _ => absurd h (Nat.not_lt_zero r)
  | y :: ys, 0, h, h2 => by
    have h3 : ¬ y + 1 = 0 := h2
    show (if y + 1 = 0 then 0 else 1) + posc ys = (if y = 0 then 0 else 1) + posc ys + (if y = 0 then 1 else 0)
    rw [if_neg h3]
    by_cases z : y = 0
    · rw [if_pos z, if_pos z]; omega
    · rw [if_neg z, if_neg z]; omega
  | y :: ys, r + 1, h, h2 => by
    have ih := posc_set ys r (by simpa using h) h2
    show (if y = 0 then 0 else 1) + posc (ys.set r (ys.getD r 0 + 1)) = (if y = 0 then 0 else 1) + posc ys + (if ys.getD r 0 = 0 then 1 else 0)
    rw [ih]; omega
/-- the numbers of the reference's end have changed -/
theorem endM_st {I J : Mem} {e : Nat → Int32} {s t : Es} (h : EndM I e s) (h0 : ∀ c, c ≠ 45 → ∀ b, J c b = I c b) (h1 : ∀ b, b ≠ 26 → b ≠ 27 → b ≠ 28 → J 45 b = I 45 b) (h26 : J 45 26 = nI t.1) (h27 : J 45 27 = valM e t) (h28 : J 45 28 = b2i t.2.2.1) (h9 : t.2.2.2 = s.2.2.2) : EndM J e t ∧ MeOnly I J := by
  obtain ⟨a, b, c, d, f, g, k⟩ := h
  refine ⟨⟨?_, ?_, ?_, h26, h27, h28, fun q j hj => ?_⟩, fun c q _ => funext (h0 c q), h1⟩
  · rw [h1 23 (by decide) (by decide) (by decide)]; exact a
  · rw [h1 24 (by decide) (by decide) (by decide)]; exact b
  · rw [h1 25 (by decide) (by decide) (by decide)]; exact c
  · rw [h9] at hj ⊢
    rw [h0 57 (by decide)]; exact k q j hj
set_option maxHeartbeats 2000000 in
theorem reaches_eq {I : Mem} {e : Nat → Int32} {s : Es} (x : Int32) (h : EndM I e s) (hw : EW e s) (hs : s.1 < 600) : ∃ J, f_X10_reaches I x = some J ∧ EndM J e (take1 (e 2) (e 3) (e 4) s x) ∧ MeOnly I J := by
  have h0 := h
  obtain ⟨a, b, c, d, f, g, k⟩ := h
  have hz : (nI s.1 = 0) = (s.1 = 0) := propext ⟨fun q => (nI_eq (by omega) (by omega)).mp (q.trans e0), fun q => by rw [q]; rfl⟩
  have key : ∀ (y : Bool), (y = true ↔ s.1 = 0) → ∃ J, f_X10_reaches_J12 x I x (b2i y) = some J ∧ EndM J e (take1 (e 2) (e 3) (e 4) s x) ∧ MeOnly I J := by
    intro y hy
    unfold f_X10_reaches_J12
    rw [d, nI_1]
    generalize hM : st I 45 26 (nI (s.1 + 1)) = M
    have m0 : ∀ c, c ≠ 45 → M c = I c := fun c q => by rw [← hM, st_ne q]
    have m1 : ∀ b, b ≠ 26 → M 45 b = I 45 b := fun b q => by rw [← hM, st_k q]
    have m26 : M 45 26 = nI (s.1 + 1) := by rw [← hM, st_s]
    rw [m1 23 (by decide), m1 24 (by decide), m1 27 (by decide), m1 28 (by decide), a, b, f, g, m26]
    simp only [b2i_0]
    have fin : ∀ (v : Int32) (t : Es), t.1 = s.1 + 1 → valM e t = v → t.2.2.1 = s.2.2.1 → t.2.2.2 = s.2.2.2 → EndM (st M 45 27 v) e t ∧ MeOnly I (st M 45 27 v) := by
      intro v t q1 q2 q3 q4
      refine endM_st h0 (fun c q b => ?_) (fun b u1 u2 u3 => ?_) ?_ ?_ ?_ q4
      · rw [st_ne q, m0 c q]
      · rw [st_k u2, m1 b u1]
      · rw [st_k (by decide), m26, q1]
      · rw [st_s, q2]
      · rw [st_k (by decide), m1 28 (by decide), g, q3]
    have finD : ∀ (v : Int32) (t : Es), t.1 = s.1 + 1 → valM e t = v → t.2.2.1 = true → t.2.2.2 = s.2.2.2 → EndM (st (st M 45 27 v) 45 28 1) e t ∧ MeOnly I (st (st M 45 27 v) 45 28 1) ∧ EndM (st (st M 45 28 1) 45 27 v) e t ∧ MeOnly I (st (st M 45 28 1) 45 27 v) := by
      intro v t q1 q2 q3 q4
      have A : EndM (st (st M 45 27 v) 45 28 1) e t ∧ MeOnly I (st (st M 45 27 v) 45 28 1) := by
        refine endM_st h0 (fun c q b => ?_) (fun b u1 u2 u3 => ?_) ?_ ?_ ?_ q4
        · rw [st_ne q, st_ne q, m0 c q]
        · rw [st_k u3, st_k u2, m1 b u1]
        · rw [st_k (by decide), st_k (by decide), m26, q1]
        · rw [st_k (by decide), st_s, q2]
        · rw [st_s, q3]; rfl
      have B : EndM (st (st M 45 28 1) 45 27 v) e t ∧ MeOnly I (st (st M 45 28 1) 45 27 v) := by
        refine endM_st h0 (fun c q b => ?_) (fun b u1 u2 u3 => ?_) ?_ ?_ ?_ q4
        · rw [st_ne q, st_ne q, m0 c q]
        · rw [st_k u2, st_k u3, m1 b u1]
        · rw [st_k (by decide), st_k (by decide), m26, q1]
        · rw [st_s, q2]
        · rw [st_k (by decide), st_s, q3]; rfl
      exact ⟨A.1, A.2, B.1, B.2⟩
    have finN : ∀ (t : Es), t.1 = s.1 + 1 → valM e t = valM e s → t.2.2.1 = s.2.2.1 → t.2.2.2 = s.2.2.2 → EndM M e t ∧ MeOnly I M := by
      intro t q1 q2 q3 q4
      refine endM_st h0 (fun c q b => ?_) (fun b u1 u2 u3 => ?_) ?_ ?_ ?_ q4
      · rw [m0 c q]
      · rw [m1 b u1]
      · rw [m26, q1]
      · rw [m1 27 (by decide), f, q2]
      · rw [m1 28 (by decide), g, q3]
    have vS : (e 2 ≠ 5 ∧ e 2 ≠ 6 ∧ e 2 ≠ 7 ∧ e 2 ≠ 10) → ∀ t : Es, valM e t = t.2.1 := by
      intro q t
      unfold valM
      rw [if_neg q.1, if_neg q.2.1, if_neg q.2.2.1, if_neg q.2.2.2]
    unfold take1
    by_cases c1 : e 2 = 1
    · have v := vS (by rw [c1]; decide)
      simp only [if_pos c1, v s]
      obtain ⟨u1, u2⟩ := fin (s.2.1 + x) (s.1 + 1, s.2.1 + x, s.2.2) rfl (v _) rfl rfl
      exact ⟨_, rfl, u1, u2⟩
    simp only [if_neg c1]
    by_cases c2 : e 2 = 2
    · have v := vS (by rw [c2]; decide)
      simp only [if_pos c2, v s]
      cases y with
      | true =>
        rw [if_neg (by decide), if_pos (hy.mp rfl)]
        obtain ⟨u1, u2⟩ := fin x (s.1 + 1, x, s.2.2) rfl (v _) rfl rfl
        exact ⟨_, rfl, u1, u2⟩
      | false =>
        rw [if_pos rfl, if_neg (fun z => Bool.false_ne_true (hy.mpr z))]
        by_cases z : s.2.1 ≤ x
        · rw [if_pos z, if_neg (nlt_of_le32 z)]
          obtain ⟨u1, u2⟩ := fin s.2.1 (s.1 + 1, s.2.1, s.2.2) rfl (v _) rfl rfl
          exact ⟨_, rfl, u1, u2⟩
        · rw [if_neg z, if_pos (lt_of_nle32 z)]
          obtain ⟨u1, u2⟩ := fin x (s.1 + 1, x, s.2.2) rfl (v _) rfl rfl
          exact ⟨_, rfl, u1, u2⟩
    simp only [if_neg c2]
    by_cases c3 : e 2 = 3
    · have v := vS (by rw [c3]; decide)
      simp only [if_pos c3, v s]
      cases y with
      | true =>
        rw [if_neg (by decide), if_pos (hy.mp rfl)]
        obtain ⟨u1, u2⟩ := fin x (s.1 + 1, x, s.2.2) rfl (v _) rfl rfl
        exact ⟨_, rfl, u1, u2⟩
      | false =>
        rw [if_pos rfl, if_neg (fun z => Bool.false_ne_true (hy.mpr z))]
        by_cases z : x ≤ s.2.1
        · rw [if_pos z, if_neg (nlt_of_le32 z)]
          obtain ⟨u1, u2⟩ := fin s.2.1 (s.1 + 1, s.2.1, s.2.2) rfl (v _) rfl rfl
          exact ⟨_, rfl, u1, u2⟩
        · rw [if_neg z, if_pos (lt_of_nle32 z)]
          obtain ⟨u1, u2⟩ := fin x (s.1 + 1, x, s.2.2) rfl (v _) rfl rfl
          exact ⟨_, rfl, u1, u2⟩
    simp only [if_neg c3]
    by_cases c4 : e 2 = 4
    · have v := vS (by rw [c4]; decide)
      have hd := hw.2.2 c4
      simp only [if_pos c4, v s]
      cases y with
      | true =>
        rw [if_neg (by decide), if_neg (fun z => by have := hd.mp z; have := hy.mp rfl; omega)]
        obtain ⟨u1, u2, _, _⟩ := finD x (s.1 + 1, x, true, s.2.2.2) rfl (v _) rfl rfl
        exact ⟨_, rfl, u1, u2⟩
      | false =>
        rw [if_pos rfl, if_pos (hd.mpr (Nat.pos_of_ne_zero (fun z => Bool.false_ne_true (hy.mpr z))))]
        obtain ⟨u1, u2, _, _⟩ := finD s.2.1 (s.1 + 1, s.2.1, true, s.2.2.2) rfl (v _) rfl rfl
        exact ⟨_, rfl, u1, u2⟩
    simp only [if_neg c4]
    by_cases c8 : e 2 = 8
    · have v := vS (by rw [c8]; decide)
      simp only [if_pos c8, v s]
      simp only [if_neg (show ¬ e 2 = 5 by rw [c8]; decide), if_neg (show ¬ e 2 = 6 by rw [c8]; decide), if_neg (show ¬ e 2 = 7 by rw [c8]; decide)]
      unfold fold1
      by_cases z0 : e 3 = 0
      · simp only [if_pos z0]
        obtain ⟨u1, u2⟩ := fin (s.2.1 + x) (s.1 + 1, s.2.1 + x, s.2.2) rfl (v _) rfl rfl
        exact ⟨_, rfl, u1, u2⟩
      simp only [if_neg z0]
      by_cases z1 : e 3 = 1
      · simp only [if_pos z1]
        obtain ⟨u1, u2⟩ := fin (s.2.1 * x) (s.1 + 1, s.2.1 * x, s.2.2) rfl (v _) rfl rfl
        exact ⟨_, rfl, u1, u2⟩
      simp only [if_neg z1]
      obtain ⟨u1, u2⟩ := fin (s.2.1 * 31 + x) (s.1 + 1, s.2.1 * 31 + x, s.2.2) rfl (v _) rfl rfl
      exact ⟨_, rfl, u1, u2⟩
    simp only [if_neg c8]
    by_cases c9 : e 2 = 9
    · have v := vS (by rw [c9]; decide)
      simp only [if_pos c9]
      simp only [if_neg (show ¬ e 2 = 5 by rw [c9]; decide), if_neg (show ¬ e 2 = 6 by rw [c9]; decide), if_neg (show ¬ e 2 = 7 by rw [c9]; decide)]
      rw [nI_pred, if_pos (inb_nI (show s.1 < ln 57 from hs) (by decide)), nI_clamp (by omega)]
      have hlen := hw.1 c9
      refine ⟨_, rfl, ⟨?_, ?_, ?_, ?_, ?_, ?_, fun q j hj => ?_⟩, fun c u1 u2 => ?_, fun b u1 u2 u3 => ?_⟩
      · rw [st_ne (by decide), m1 23 (by decide)]; exact a
      · rw [st_ne (by decide), m1 24 (by decide)]; exact b
      · rw [st_ne (by decide), m1 25 (by decide)]; exact c
      · rw [st_ne (by decide)]; exact m26
      · rw [st_ne (by decide), m1 27 (by decide), f, v, v]
      · rw [st_ne (by decide), m1 28 (by decide)]; exact g
      · rw [st_at]
        by_cases z : j = s.1
        · subst z
          rw [if_pos ⟨rfl, rfl⟩, getD_app_r (by omega), hlen, Nat.sub_self]
          rfl
        · have hj2 : j < s.2.2.2.length := by simp at hj; omega
          rw [if_neg (fun w => z w.2), m0 57 (by decide), k (.inl c9) j hj2, getD_app_l hj2]
      · rw [st_ne u2, m0 c u1]
      · rw [st_ne (by decide), m1 b u1]
    simp only [if_neg c9]
    by_cases c10 : e 2 = 10
    · simp only [if_pos c10]
      simp only [if_neg (show ¬ e 2 = 5 by rw [c10]; decide), if_neg (show ¬ e 2 = 6 by rw [c10]; decide), if_neg (show ¬ e 2 = 7 by rw [c10]; decide)]
      obtain ⟨m, w1, w2, w3, w4, w5⟩ := hw.2.1 c10
      obtain ⟨r1, r2⟩ := rem_nI x w2 w3
      have hlt := fm_lt x w2 w3
      have hidx : f_X10_tally M x = f_X10_tally_J21 x M (nI (fm x (nI m))) := by
        unfold f_X10_tally
        rw [m1 25 (by decide), c, w1, if_neg (nI_ne0 (by omega) (by omega))]
        by_cases z : 0 ≤ x - x / nI m * nI m
        · rw [if_pos z, r1 z]
        · rw [if_neg z, r2 z]
      rw [hidx]
      unfold f_X10_tally_J21
      have hin : inb (nI (fm x (nI m))) (ln 57) = true := inb_nI (show fm x (nI m) < ln 57 by show _ < 600; omega) (by decide)
      simp only [hin, if_true, nI_clamp (show fm x (nI m) < 2 ^ 31 by omega)]
      have hcoll : M 57 (fm x (nI m)) = s.2.2.2.getD (fm x (nI m)) 0 := by
        rw [m0 57 (by decide)]; exact k (.inr c10) _ (by omega)
      have hval : M 45 27 = nI (posc s.2.2.2) := by
        rw [m1 27 (by decide), f]; unfold valM
        rw [if_neg (by rw [c10]; decide), if_neg (by rw [c10]; decide), if_neg (by rw [c10]; decide), if_pos c10]
      obtain ⟨cc, cc1, cc2⟩ := w5 (fm x (nI m))
      have hne : s.2.2.2.getD (fm x (nI m)) 0 + 1 ≠ 0 := by
        rw [cc2, nI_1]; exact nI_ne0 (by omega) (by omega)
      have hps := posc_set s.2.2.2 (fm x (nI m)) (by omega) hne
      rw [hcoll, hval]
      have fin2 : ∀ (v : Int32), v = nI (posc (s.2.2.2.set (fm x (nI m)) (s.2.2.2.getD (fm x (nI m)) 0 + 1))) →
          EndM (st (st M 45 27 v) 57 (fm x (nI m)) ((st M 45 27 v) 57 (fm x (nI m)) + 1)) e (s.1 + 1, s.2.1, s.2.2.1, s.2.2.2.set (fm x (e 4)) (s.2.2.2.getD (fm x (e 4)) 0 + 1)) ∧ MeOnly I (st (st M 45 27 v) 57 (fm x (nI m)) ((st M 45 27 v) 57 (fm x (nI m)) + 1)) := by
        intro v hv
        refine ⟨⟨?_, ?_, ?_, ?_, ?_, ?_, fun q j hj => ?_⟩, fun c u1 u2 => ?_, fun b u1 u2 u3 => ?_⟩
        · rw [st_ne (by decide), st_k (by decide), m1 23 (by decide)]; exact a
        · rw [st_ne (by decide), st_k (by decide), m1 24 (by decide)]; exact b
        · rw [st_ne (by decide), st_k (by decide), m1 25 (by decide)]; exact c
        · rw [st_ne (by decide), st_k (by decide)]; exact m26
        · rw [st_ne (by decide), st_s, hv, w1]
          unfold valM
          rw [if_neg (by rw [c10]; decide), if_neg (by rw [c10]; decide), if_neg (by rw [c10]; decide), if_pos c10]
        · rw [st_ne (by decide), st_k (by decide), m1 28 (by decide)]; exact g
        · have hj2 : j < s.2.2.2.length := by simpa using hj
          rw [w1, st_at]
          by_cases z : j = fm x (nI m)
          · subst z
            rw [if_pos ⟨rfl, rfl⟩, st_ne (by decide), hcoll]
            simp [List.getD_eq_getElem?_getD, hj2]
          · rw [if_neg (fun w => z w.2), st_ne (by decide), m0 57 (by decide), k (.inr c10) j hj2]
            simp [List.getD_eq_getElem?_getD, List.getElem?_set_ne (Ne.symm z)]
        · rw [st_ne u2, st_ne u1, m0 c u1]
        · rw [st_ne (by decide), st_k u2, m1 b u1]
      by_cases z : s.2.2.2.getD (fm x (nI m)) 0 = 0
      · rw [if_pos z]
        rw [if_pos z] at hps
        obtain ⟨u1, u2⟩ := fin2 (nI (posc s.2.2.2) + 1) (by rw [nI_1, hps])
        exact ⟨_, rfl, u1, u2⟩
      · rw [if_neg z]
        rw [if_neg z] at hps
        obtain ⟨u1, u2⟩ := fin2 (nI (posc s.2.2.2) + 0) (by rw [hps]; exact nI_add _ 0)
        exact ⟨_, rfl, u1, u2⟩
    simp only [if_neg c10]
    by_cases c5 : e 2 = 5
    · have vv : ∀ t : Es, valM e t = b2i t.2.2.1 := fun t => by unfold valM; rw [if_pos c5]
      simp only [if_pos c5]
      simp only [if_neg (show ¬ e 2 < 5 by rw [c5]; decide), if_neg (show ¬ 7 < e 2 by rw [c5]; decide)]
      unfold f_X10_asks f_X10_asks_J34
      rw [passes_eq']
      simp only [Option.bind_some, b2i_0, m1 23 (by decide), m1 24 (by decide), m1 25 (by decide), a, b, c, st_k (show (23 : Nat) ≠ 28 by decide)]
      rw [if_neg (show ¬ e 2 = 6 by rw [c5]; decide), if_pos c5]
      cases hd : s.2.2.1 with
      | true =>
        obtain ⟨u1, u2⟩ := finN (s.1 + 1, s.2.1, true, s.2.2.2) rfl (by rw [vv, vv, hd]) hd.symm rfl
        exact ⟨M, rfl, by simpa using u1, u2⟩
      | false =>
        cases hp : pas x (e 3) (e 4) with
        | false =>
          obtain ⟨u1, u2⟩ := finN (s.1 + 1, s.2.1, false, s.2.2.2) rfl (by rw [vv, vv, hd]) hd.symm rfl
          exact ⟨M, rfl, by simpa using u1, u2⟩
        | true =>
          obtain ⟨_, _, u1, u2⟩ := finD 1 (s.1 + 1, s.2.1, true, s.2.2.2) rfl (by rw [vv]; rfl) rfl rfl
          exact ⟨_, rfl, by simpa using u1, u2⟩
    simp only [if_neg c5]
    by_cases c6 : e 2 = 6
    · have vv : ∀ t : Es, valM e t = b2i (!t.2.2.1) := fun t => by unfold valM; rw [if_neg c5, if_pos c6]
      simp only [if_pos c6]
      simp only [if_neg (show ¬ e 2 < 5 by rw [c6]; decide), if_neg (show ¬ 7 < e 2 by rw [c6]; decide)]
      unfold f_X10_asks f_X10_asks_J34
      rw [passes_eq']
      simp only [Option.bind_some, b2i_0, m1 23 (by decide), m1 24 (by decide), m1 25 (by decide), a, b, c, st_k (show (23 : Nat) ≠ 28 by decide)]
      rw [if_pos c6, if_neg c5]
      cases hd : s.2.2.1 with
      | true =>
        obtain ⟨u1, u2⟩ := finN (s.1 + 1, s.2.1, true, s.2.2.2) rfl (by rw [vv, vv, hd]) hd.symm rfl
        exact ⟨M, rfl, by simpa using u1, u2⟩
      | false =>
        cases hp : pas x (e 3) (e 4) with
        | true =>
          obtain ⟨u1, u2⟩ := finN (s.1 + 1, s.2.1, false, s.2.2.2) rfl (by rw [vv, vv, hd]) hd.symm rfl
          exact ⟨M, rfl, by simpa using u1, u2⟩
        | false =>
          obtain ⟨_, _, u1, u2⟩ := finD 0 (s.1 + 1, s.2.1, true, s.2.2.2) rfl (by rw [vv]; rfl) rfl rfl
          exact ⟨_, rfl, by simpa using u1, u2⟩
    simp only [if_neg c6]
    by_cases c7 : e 2 = 7
    · have vv : ∀ t : Es, valM e t = b2i (!t.2.2.1) := fun t => by unfold valM; rw [if_neg c5, if_neg c6, if_pos c7]
      simp only [if_pos c7]
      simp only [if_neg (show ¬ e 2 < 5 by rw [c7]; decide), if_neg (show ¬ 7 < e 2 by rw [c7]; decide)]
      unfold f_X10_asks f_X10_asks_J34
      rw [passes_eq']
      simp only [Option.bind_some, b2i_0, m1 23 (by decide), m1 24 (by decide), m1 25 (by decide), a, b, c, st_k (show (23 : Nat) ≠ 28 by decide)]
      rw [if_neg c6, if_neg c5]
      cases hd : s.2.2.1 with
      | true =>
        obtain ⟨u1, u2⟩ := finN (s.1 + 1, s.2.1, true, s.2.2.2) rfl (by rw [vv, vv, hd]) hd.symm rfl
        exact ⟨M, rfl, by simpa using u1, u2⟩
      | false =>
        cases hp : pas x (e 3) (e 4) with
        | false =>
          obtain ⟨u1, u2⟩ := finN (s.1 + 1, s.2.1, false, s.2.2.2) rfl (by rw [vv, vv, hd]) hd.symm rfl
          exact ⟨M, rfl, by simpa using u1, u2⟩
        | true =>
          obtain ⟨_, _, u1, u2⟩ := finD 0 (s.1 + 1, s.2.1, true, s.2.2.2) rfl (by rw [vv]; rfl) rfl rfl
          exact ⟨_, rfl, by simpa using u1, u2⟩
    simp only [if_neg c7]
    have v := vS ⟨c5, c6, c7, c10⟩
    obtain ⟨u1, u2⟩ := finN (s.1 + 1, s.2) rfl (by rw [v, v]) rfl rfl
    by_cases z5 : e 2 < 5
    · rw [if_pos z5]; exact ⟨M, rfl, u1, u2⟩
    · rw [if_neg z5]
      by_cases z7 : 7 < e 2
      · rw [if_pos z7]; exact ⟨M, rfl, u1, u2⟩
      · exfalso
        rw [i32e, t5] at c5
        rw [i32e, t6] at c6
        rw [i32e, t7] at c7
        rw [i32l, t5] at z5
        rw [i32l, t7] at z7
        omega
  unfold f_X10_reaches
  rw [d]
  simp only [hz]
  by_cases q : s.1 = 0
  · rw [if_pos q]
    exact key true ⟨fun _ => q, fun _ => rfl⟩
  · rw [if_neg q]
    exact key false ⟨fun z => absurd z Bool.false_ne_true, fun z => absurd z q⟩
