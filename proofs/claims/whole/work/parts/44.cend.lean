theorem sgn (y : Int32) : 0 ≤ y ↔ y.toBitVec.msb = false := by
  rw [Int32.le_iff_toInt_le, BitVec.msb_eq_toInt]
  have hz : (0 : Int32).toInt = 0 := rfl
  rw [hz]
  show (0 : Int) ≤ y.toBitVec.toInt ↔ _
  simp
theorem floorMod_eq (I : Mem) (x : Int32) {m : Nat} (h1 : 1 ≤ m) (h2 : m ≤ 8) : f_J9_floorMod I x (nI m) = some (nI (fm x (nI m)), I) := by
  unfold f_J9_floorMod
  rw [if_neg (nI_ne0 (by omega) (by omega))]
  obtain ⟨r1, r2⟩ := rem_nI x h1 h2
  have hr := rem_toInt x (nI m)
  rw [nI_toInt (by omega)] at hr
  have hz : (0 : Int32).toInt = 0 := rfl
  have hn : (nI m).toBitVec.msb = false := (sgn _).mp (nI_pos' (by omega))
  have hx : 0 ≤ (x ^^^ nI m) ↔ 0 ≤ x := by
    rw [sgn, sgn]
    rw [show (x ^^^ nI m).toBitVec = x.toBitVec ^^^ (nI m).toBitVec from rfl, BitVec.msb_xor, hn]
    simp
  by_cases c : 0 ≤ x
  · rw [if_pos (hx.mpr c), r1]
    rw [Int32.le_iff_toInt_le, hz] at c
    rw [Int32.le_iff_toInt_le, hz, hr]
    exact Int.tmod_nonneg _ c
  · rw [if_neg (fun q => c (hx.mp q))]
    by_cases c2 : x - x / nI m * nI m = 0
    · rw [if_pos c2, r1 (by rw [c2]; decide)]
    · rw [if_neg c2, r2]
      intro q
      rw [Int32.le_iff_toInt_le, hz, hr] at q
      rw [Int32.le_iff_toInt_le, hz] at c
      have h5 : x.toInt.tmod m ≤ 0 := by
        have h6 := Int.tmod_nonneg (a := -x.toInt) m (by omega)
        rw [Int.neg_tmod] at h6
        omega
      exact c2 (Int32.toInt_inj.mp (by rw [hr, hz]; omega))
def Gok (G : Nat) : Prop := G = 25 ∨ G = 27
theorem Gok.kd {G : Nat} (h : Gok G) : kd G = 5 := by rcases h with rfl | rfl <;> rfl
theorem Gok.ln {G : Nat} (h : Gok G) : ln (G + 1) = 600 := by rcases h with rfl | rfl <;> rfl
theorem Gok.lt {G : Nat} (h : Gok G) : 25 ≤ G ∧ G ≤ 27 := by rcases h with rfl | rfl <;> decide
theorem Gok.cl {G : Nat} (h : Gok G) : (nI G).toNatClampNeg = G := nI_clamp (by have := h.lt; omega)
def EndIs (I : Mem) (G : Nat) (e : Nat → Int32) (s : Es) : Prop := I 24 0 = nI G ∧ I 24 2 = e 2 ∧ I 24 3 = e 3 ∧ I 24 4 = e 4 ∧ I 24 5 = nI s.1 ∧ I 24 6 = s.2.1 ∧ I 24 7 = b2i s.2.2.1 ∧ RowIs I G s.2.2.2
def EndOnly (I J : Mem) (G : Nat) : Prop := (∀ c, c ≠ 24 → c ≠ G → c ≠ G + 1 → J c = I c) ∧ J 24 1 = I 24 1
theorem EndOnly.refl {I : Mem} {G : Nat} : EndOnly I I G := ⟨fun _ _ _ _ => rfl, rfl⟩
theorem EndIs.of {I J : Mem} {G : Nat} {e : Nat → Int32} {s : Es} (h : EndIs I G e s) (h0 : J 24 = I 24) (h1 : J G = I G) (h2 : J (G + 1) = I (G + 1)) : EndIs J G e s := by
  obtain ⟨a, b, c, d, f, g, k, r⟩ := h
  unfold EndIs
  rw [h0]
  exact ⟨a, b, c, d, f, g, k, r.of (by rw [h1]) h2⟩
/-- the three numbers of the end that change -/
theorem end_st {I : Mem} {G : Nat} {e : Nat → Int32} {s : Es} {J : Mem} {t : Es} (h : EndIs I G e s) (hG : Gok G) (h0 : ∀ b, b ≠ 5 → b ≠ 6 → b ≠ 7 → J 24 b = I 24 b) (h5 : J 24 5 = nI t.1) (h6 : J 24 6 = t.2.1) (h7 : J 24 7 = b2i t.2.2.1) (h8a : ∀ c, c ≠ 24 → ∀ b, J c b = I c b) (h9 : t.2.2.2 = s.2.2.2) : EndIs J G e t ∧ EndOnly I J G := by
  obtain ⟨a, b, c, d, f, g, k, r⟩ := h
  have hl := hG.lt
  have h8 : ∀ c, c ≠ 24 → J c = I c := fun c q => funext (h8a c q)
  refine ⟨⟨?_, ?_, ?_, ?_, h5, h6, h7, ?_⟩, fun c h1 _ _ => h8 c h1, h0 1 (by decide) (by decide) (by decide)⟩
  · rw [h0 0 (by decide) (by decide) (by decide)]; exact a
  · rw [h0 2 (by decide) (by decide) (by decide)]; exact b
  · rw [h0 3 (by decide) (by decide) (by decide)]; exact c
  · rw [h0 4 (by decide) (by decide) (by decide)]; exact d
  · rw [h9]
    exact r.of (by rw [h8 G (by omega)]) (h8 (G + 1) (by omega))
theorem row_set {I : Mem} {i k : Nat} {xs : List Int32} {v : Int32} (h : RowIs I i xs) (hk : k < xs.length) : RowIs (st I (i + 1) k v) i (xs.set k v) := by
  obtain ⟨a, b, c⟩ := h
  refine ⟨by rw [st_ne (by omega), a]; simp, by simpa using b, ?_⟩
  intro j hj
  have hj' : j < xs.length := by simpa using hj
  rw [st_at]
  by_cases q : j = k
  · subst q
    simp [List.getD_eq_getElem?_getD, hj']
  · rw [if_neg (fun z => q z.2), c j hj']
    simp [List.getD_eq_getElem?_getD, List.getElem?_set_ne (Ne.symm q)]
set_option maxHeartbeats 1000000 in
theorem take_eq {I : Mem} {G : Nat} {e : Nat → Int32} {s : Es} (x : Int32) (h : EndIs I G e s) (hG : Gok G) (hw : EW e s) (hs : s.1 < 600) : ∃ J, f_X1_take I x = some J ∧ EndIs J G e (take1 (e 2) (e 3) (e 4) s x) ∧ EndOnly I J G := by
  have h0 := h
  obtain ⟨a, b, c, d, f, g, k, r⟩ := h
  have hl := hG.lt
  have hz : ∀ n : Nat, n < 600 → (nI n = 0 ↔ n = 0) := fun n hn => ⟨fun q => (nI_eq (by omega) (by omega)).mp (q.trans e0), fun q => by rw [q]; rfl⟩
  unfold f_X1_take take1
  rw [b, c, d, f, g, k]
  simp only [passes_eq, Option.bind_some, b2i_0]
  by_cases c1 : e 2 = 1
  · rw [if_pos c1, if_pos c1]
    refine ⟨_, rfl, end_st h0 hG (fun b q5 q6 q7 => ?_) ?_ ?_ ?_ (fun c q b => ?_) rfl⟩ <;> simp_all [st_at, nI_1]
  rw [if_neg c1, if_neg c1]
  by_cases c2 : e 2 = 2
  · rw [if_pos c2, if_pos c2]
    by_cases z : s.1 = 0
    · rw [if_pos ((hz _ hs).mpr z), if_pos z]
      refine ⟨_, rfl, end_st h0 hG (fun b q5 q6 q7 => ?_) ?_ ?_ ?_ (fun c q b => ?_) rfl⟩ <;> simp_all [st_at, nI_1]
    · rw [if_neg (fun q => z ((hz _ hs).mp q)), if_neg z]
      refine ⟨_, rfl, end_st h0 hG (fun b q5 q6 q7 => ?_) ?_ ?_ ?_ (fun c q b => ?_) rfl⟩ <;> simp_all [st_at, nI_1]
  rw [if_neg c2, if_neg c2]
  by_cases c3 : e 2 = 3
  · rw [if_pos c3, if_pos c3]
    by_cases z : s.1 = 0
    · rw [if_pos ((hz _ hs).mpr z), if_pos z]
      refine ⟨_, rfl, end_st h0 hG (fun b q5 q6 q7 => ?_) ?_ ?_ ?_ (fun c q b => ?_) rfl⟩ <;> simp_all [st_at, nI_1]
    · rw [if_neg (fun q => z ((hz _ hs).mp q)), if_neg z]
      refine ⟨_, rfl, end_st h0 hG (fun b q5 q6 q7 => ?_) ?_ ?_ ?_ (fun c q b => ?_) rfl⟩ <;> simp_all [st_at, nI_1]
  rw [if_neg c3, if_neg c3]
  by_cases c4 : e 2 = 4
  · rw [if_pos c4, if_pos c4]
    by_cases z : s.2.2.1 = false
    · rw [if_pos z, if_neg (by rw [z]; decide)]
      refine ⟨_, rfl, end_st h0 hG (fun b q5 q6 q7 => ?_) ?_ ?_ ?_ (fun c q b => ?_) rfl⟩ <;> simp_all [st_at, nI_1, b2i]
    · rw [if_neg z, if_pos (by simpa using z)]
      refine ⟨_, rfl, end_st h0 hG (fun b q5 q6 q7 => ?_) ?_ ?_ ?_ (fun c q b => ?_) rfl⟩ <;> simp_all [st_at, nI_1, b2i]
  rw [if_neg c4, if_neg c4]
  by_cases c5 : e 2 = 5
  · rw [if_pos c5, if_pos c5]
    by_cases z : s.2.2.1 = false
    · rw [if_pos z]
      by_cases y : pas x (e 3) (e 4) = false
      · rw [if_pos y]
        refine ⟨_, rfl, end_st h0 hG (fun b q5 q6 q7 => ?_) ?_ ?_ ?_ (fun c q b => ?_) rfl⟩ <;> simp_all [st_at, nI_1, b2i]
      · rw [if_neg y]
        refine ⟨_, rfl, end_st h0 hG (fun b q5 q6 q7 => ?_) ?_ ?_ ?_ (fun c q b => ?_) rfl⟩ <;> simp_all [st_at, nI_1, b2i]
    · rw [if_neg z]
      refine ⟨_, rfl, end_st h0 hG (fun b q5 q6 q7 => ?_) ?_ ?_ ?_ (fun c q b => ?_) rfl⟩ <;> simp_all [st_at, nI_1, b2i]
  rw [if_neg c5, if_neg c5]
  by_cases c6 : e 2 = 6
  · rw [if_pos c6, if_pos c6]
    by_cases z : s.2.2.1 = false
    · rw [if_pos z]
      by_cases y : pas x (e 3) (e 4) = false
      · rw [if_pos y]
        refine ⟨_, rfl, end_st h0 hG (fun b q5 q6 q7 => ?_) ?_ ?_ ?_ (fun c q b => ?_) rfl⟩ <;> simp_all [st_at, nI_1, b2i]
      · rw [if_neg y]
        refine ⟨_, rfl, end_st h0 hG (fun b q5 q6 q7 => ?_) ?_ ?_ ?_ (fun c q b => ?_) rfl⟩ <;> simp_all [st_at, nI_1, b2i]
    · rw [if_neg z]
      refine ⟨_, rfl, end_st h0 hG (fun b q5 q6 q7 => ?_) ?_ ?_ ?_ (fun c q b => ?_) rfl⟩ <;> simp_all [st_at, nI_1, b2i]
  rw [if_neg c6, if_neg c6]
  by_cases c7 : e 2 = 7
  · rw [if_pos c7, if_pos c7]
    by_cases z : s.2.2.1 = false
    · rw [if_pos z]
      by_cases y : pas x (e 3) (e 4) = false
      · rw [if_pos y]
        refine ⟨_, rfl, end_st h0 hG (fun b q5 q6 q7 => ?_) ?_ ?_ ?_ (fun c q b => ?_) rfl⟩ <;> simp_all [st_at, nI_1, b2i]
      · rw [if_neg y]
        refine ⟨_, rfl, end_st h0 hG (fun b q5 q6 q7 => ?_) ?_ ?_ ?_ (fun c q b => ?_) rfl⟩ <;> simp_all [st_at, nI_1, b2i]
    · rw [if_neg z]
      refine ⟨_, rfl, end_st h0 hG (fun b q5 q6 q7 => ?_) ?_ ?_ ?_ (fun c q b => ?_) rfl⟩ <;> simp_all [st_at, nI_1, b2i]
  rw [if_neg c7, if_neg c7]
  by_cases c8 : e 2 = 8
  · rw [if_pos c8, if_pos c8]
    have hfo : f_X1_folded I x = some (fold1 (e 3) s.2.1 x, I) := by
      unfold f_X1_folded fold1
      rw [c, g]
      repeat' split
      all_goals simp_all
    rw [hfo]
    simp only [Option.bind_some]
    refine ⟨_, rfl, end_st h0 hG (fun b q5 q6 q7 => ?_) ?_ ?_ ?_ (fun c q b => ?_) rfl⟩ <;> simp_all [st_at, nI_1]
  rw [if_neg c8, if_neg c8]
  by_cases c9 : e 2 = 9
  · rw [if_pos c9, if_pos c9, a, hG.cl, if_pos hG.kd]
    have hlen := hw.1 c9
    obtain ⟨J, g1, g2, g3⟩ := add_eq (x := x) r (by rw [hG.ln]; decide) (by rw [hG.ln]; omega)
    rw [g1]
    simp only [Option.bind_some]
    have hj : J 24 = I 24 := g3 24 (by omega) (by omega)
    refine ⟨_, rfl, ⟨?_, ?_, ?_, ?_, ?_, ?_, ?_, ?_⟩, fun c q1 q2 q3 => ?_, ?_⟩
    · rw [st_k (by decide), hj, a]
    · rw [st_k (by decide), hj, b]
    · rw [st_k (by decide), hj, c]
    · rw [st_k (by decide), hj, d]
    · rw [st_s, hj, f]; exact nI_1 _
    · rw [st_k (by decide), hj, g]
    · rw [st_k (by decide), hj, k]
    · exact g2.of (by rw [st_ne (by omega)]) (by rw [st_ne (by omega)])
    · rw [st_ne q1]; exact g3 c q2 q3
    · rw [st_k (by decide), hj]
  rw [if_neg c9, if_neg c9]
  by_cases c10 : e 2 = 10
  · rw [if_pos c10, if_pos c10, a, hG.cl, if_pos hG.kd]
    obtain ⟨m, m1, m2, m3, m4, m5⟩ := hw.2.1 c10
    have hlt := fm_lt x m2 m3
    rw [m1, floorMod_eq I x m2 m3]
    simp only [Option.bind_some]
    rw [hG.ln, if_pos (inb_nI (by omega) (by omega)), if_pos (inb_nI (by omega) (by omega)), nI_clamp (by omega), r.2.2 _ (by omega)]
    have hrow := row_set (k := fm x (nI m)) (v := s.2.2.2.getD (fm x (nI m)) 0 + 1) r (by omega)
    refine ⟨_, rfl, ⟨?_, ?_, ?_, ?_, ?_, ?_, ?_, ?_⟩, fun c q1 q2 q3 => ?_, ?_⟩
    · rw [st_k (by decide), st_ne (by omega), a]
    · rw [st_k (by decide), st_ne (by omega), b]
    · rw [st_k (by decide), st_ne (by omega), c]
    · rw [st_k (by decide), st_ne (by omega), d]
    · rw [st_s, st_ne (by omega), f]; exact nI_1 _
    · rw [st_k (by decide), st_ne (by omega), g]
    · rw [st_k (by decide), st_ne (by omega), k]
    · exact hrow.of (by rw [st_ne (by omega)]) (by rw [st_ne (by omega)])
    · rw [st_ne q1, st_ne q3]
    · rw [st_k (by decide), st_ne (by omega)]
  rw [if_neg c10, if_neg c10]
  refine ⟨_, rfl, end_st h0 hG (fun b q5 q6 q7 => ?_) ?_ ?_ ?_ (fun c q b => ?_) rfl⟩ <;> simp_all [st_at, nI_1]
