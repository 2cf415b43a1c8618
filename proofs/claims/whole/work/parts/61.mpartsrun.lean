theorem bind_eta {α β : Type} (o : Option (α × β)) : (o.bind fun q => some (q.1, q.2)) = o := by
  cases o <;> rfl
def MA (I J : Mem) : Prop := (∀ c, c ≠ 45 → c ≠ 50 → c ≠ 51 → c ≠ 52 → c ≠ 53 → c ≠ 57 → c ≠ 59 → c ≠ 60 → J c = I c) ∧ (∀ b, b ≠ 22 → b ≠ 26 → b ≠ 27 → b ≠ 28 → b ≠ 34 → b ≠ 35 → J 45 b = I 45 b)
theorem MA.refl {I : Mem} : MA I I := ⟨fun _ _ _ _ _ _ _ _ _ => rfl, fun _ _ _ _ _ _ _ => rfl⟩
theorem MA.trans {I J K : Mem} (h : MA I J) (h2 : MA J K) : MA I K := ⟨fun c a1 a2 a3 a4 a5 a6 a7 a8 => (h2.1 c a1 a2 a3 a4 a5 a6 a7 a8).trans (h.1 c a1 a2 a3 a4 a5 a6 a7 a8), fun b a1 a2 a3 a4 a5 a6 => (h2.2 b a1 a2 a3 a4 a5 a6).trans (h.2 b a1 a2 a3 a4 a5 a6)⟩
theorem MpOnly.ma {I J : Mem} {k : Nat} (h : MpOnly I J k) : MA I J := ⟨fun c a1 a2 a3 a4 a5 _ a7 a8 => h.1 c a1 a2 a3 a4 a5 a7 a8, fun b a1 _ _ _ a5 a6 => h.2.1 b a1 a5 a6⟩
theorem MeOnly.ma {I J : Mem} (h : MeOnly I J) : MA I J := ⟨fun c a1 _ _ _ _ a6 _ _ => h.1 c a1 a6, fun b _ a2 a3 a4 _ _ => h.2 b a2 a3 a4⟩
theorem MSt.me {I J : Mem} {k : Nat} {q : Nat → Int32} {s : Sg} {tr : Bool} (h : MSt I k q s tr) (ho : MeOnly I J) : MSt J k q s tr := by
  unfold MSt HM at h ⊢
  rw [ho.1 47 (by decide) (by decide), ho.1 48 (by decide) (by decide), ho.1 49 (by decide) (by decide), ho.1 50 (by decide) (by decide), ho.1 51 (by decide) (by decide), ho.1 52 (by decide) (by decide), ho.1 53 (by decide) (by decide)]
  exact h
theorem takeM_L {e : Nat → Int32} (p0 p1 p2 : Int32) (X : List Int32) : ∀ (r i n : Nat), i + r = X.length → r < n → ∀ (s : Es) (I : Mem), s.1 = i → EW e s → NowIs I X → EndM I e s → I 45 22 = 0 →
    ∃ J, f_X10_parts_L168 p0 p1 p2 n I (nI i) = f_X10_answer J ∧ EndM J e (takeL e (X.drop i) s) ∧ MeOnly I J := by
  intro r
  induction r with
  | zero =>
    intro i n hi hn s I hs hw hnow h h22
    obtain ⟨n, rfl⟩ : ∃ m, n = m + 1 := ⟨n - 1, by omega⟩
    have hX := hnow.2.1
    unfold f_X10_parts_L168
    rw [hnow.1, if_pos (nI_le (by omega) (by omega)), List.drop_eq_nil_of_le (by omega), bind_eta]
    exact ⟨I, rfl, h, MeOnly.refl⟩
  | succ r ih =>
    intro i n hi hn s I hs hw hnow h h22
    obtain ⟨n, rfl⟩ : ∃ m, n = m + 1 := ⟨n - 1, by omega⟩
    have hX := hnow.2.1
    have hx : X[i]'(by omega) = X.getD i 0 := by simp [List.getD_eq_getElem?_getD, show i < X.length by omega]
    unfold f_X10_parts_L168
    rw [hnow.1, if_neg (nI_ge (by omega) (by omega)), h22, if_pos rfl, if_pos (inb_nI (show i < ln 59 by show i < 601; omega) (by decide)), nI_clamp (by omega), hnow.2.2 i (by omega), nI_1, List.drop_eq_getElem_cons (show i < X.length by omega), hx]
    obtain ⟨J, g1, g2, g3⟩ := reaches_eq (X.getD i 0) h hw (by omega)
    rw [g1]
    simp only [Option.bind_some]
    have hnow2 : NowIs J X := by
      unfold NowIs at hnow ⊢
      rw [g3.2 34 (by decide) (by decide) (by decide), g3.1 59 (by decide) (by decide)]
      exact hnow
    obtain ⟨K, k1, k2, k3⟩ := ih (i + 1) n (by omega) (by omega) _ J (by rw [take1_n, hs]) hw.take hnow2 g2 (by rw [g3.2 22 (by decide) (by decide) (by decide)]; exact h22)
    exact ⟨K, k1, k2, ⟨fun c a b => (k3.1 c a b).trans (g3.1 c a b), fun b u v w => (k3.2 b u v w).trans (g3.2 b u v w)⟩⟩
theorem stagesM_L {Q : Mem} {e : Nat → Int32} {N : Nat} (p0 p1 p2 : Int32) (hQ : Qok Q N) (hN : N ≤ 6) : ∀ (d k n : Nat), k + d = N → d < n → ∀ (g : Nat → Sg) (X : List Int32) (s : Es) (I : Mem), I 45 9 = nI N → (∀ j, j < N → MSt I j (Q j) (g j) false ∧ SW (g j) ∧ (g j).2.2.length ≤ 600) → (∀ j, k ≤ j → j < N → (g j).1 = 0) → s.1 = 0 → EW e s → NowIs I X → EndM I e s → I 45 22 = 0 →
    ∃ J, f_X10_parts_L137 p0 p1 p2 n I (nI k) = f_X10_answer J ∧ (∀ j, j < N → MSt J j (Q j) ((partsK Q d k g X).1 j) false) ∧ EndM J e (if (partsK Q d k g X).2.2 = true then takeL e (partsK Q d k g X).2.1 s else s) ∧ J 45 22 = b2i (!(partsK Q d k g X).2.2) ∧ MA I J := by
  intro d
  induction d with
  | zero =>
    intro k n hk hn g X s I h9 hst hc hs hw hnow h h22
    obtain ⟨n, rfl⟩ : ∃ m, n = m + 1 := ⟨n - 1, by omega⟩
    have hX := hnow.2.1
    unfold f_X10_parts_L137 partsK
    rw [h9, if_pos (nI_le (by omega) (by omega))]
    obtain ⟨J, g1, g2, g3⟩ := takeM_L p0 p1 p2 X X.length 0 FU (by omega) (by rw [FU_eq]; omega) s I hs hw hnow h h22
    rw [List.drop_zero] at g2
    rw [← e0] at g1
    refine ⟨J, g1, fun j hj => (hst j hj).1.me g3, by rw [if_pos rfl]; exact g2, ?_, g3.ma⟩
    rw [g3.2 22 (by decide) (by decide) (by decide), h22]; rfl
  | succ d ih =>
    intro k n hk hn g X s I h9 hst hc hs hw hnow h h22
    obtain ⟨n, rfl⟩ : ∃ m, n = m + 1 := ⟨n - 1, by omega⟩
    obtain ⟨J, g1, g2, g3, g4, g5⟩ := stageP_eq (show k < 6 by omega) (Q k) (hQ k (by omega)) X (g k) (hc k (Nat.le_refl _) (by omega)) (hst k (by omega)).2.1 hnow (hst k (by omega)).1 h22
    have hwl := wk_len (o := Q k 1) (a := Q k 2) (n := Q k 3) X (g k) []
    have hwsw := wk_SW (o := Q k 1) (a := Q k 2) (n := Q k 3) X (g k) [] (hst k (by omega)).2.1
    have hX := hnow.2.1
    have hck := hc k (Nat.le_refl _) (by omega)
    unfold f_X10_parts_L137 partsK
    rw [h9, if_neg (nI_ge (by omega) (by omega)), h22, if_pos rfl, g1]
    simp only [Option.bind_some, nI_1]
    generalize hW : wk (Q k 1) (Q k 2) (Q k 3) X (g k) [] = w at *
    have hJ : ∀ j, j < N → MSt J j (Q j) ((setg g k w.1) j) false ∧ SW ((setg g k w.1) j) ∧ ((setg g k w.1) j).2.2.length ≤ 600 := fun j hj => by
      by_cases c : j = k
      · subst c; rw [setg_s]; exact ⟨g2, hwsw, by have := hwsw.1; omega⟩
      · rw [setg_n c]
        obtain ⟨u1, u2, u3⟩ := hst j hj
        refine ⟨u1.of u3 ?_ ?_ ?_ (g5.2.2.1 j c).1 (g5.2.2.1 j c).2.1 (g5.2.2.1 j c).2.2 (fun i _ _ => g5.2.2.2 i (by omega)), u2, u3⟩
        · rw [g5.1 47 (by decide) (by decide) (by decide) (by decide) (by decide) (by decide) (by decide)]
        · rw [g5.1 48 (by decide) (by decide) (by decide) (by decide) (by decide) (by decide) (by decide)]
        · rw [g5.1 49 (by decide) (by decide) (by decide) (by decide) (by decide) (by decide) (by decide)]
    have hE : EndM J e s := h.of (fun b q => g5.2.1 b (by omega) (by omega) (by omega)) (g5.1 57 (by decide) (by decide) (by decide) (by decide) (by decide) (by decide) (by decide))
    cases hok : w.2.2 with
    | true =>
      rw [if_pos rfl]
      obtain ⟨M, m1, m2, m3, m4, m5⟩ := ih (k + 1) n (by omega) (by omega) (setg g k w.1) (wkR (Q k 1) w) s J (by rw [g5.2.1 9 (by decide) (by decide) (by decide)]; exact h9) hJ (fun j h1 h2 => by rw [setg_n (by omega)]; exact hc j (by omega) h2) hs hw (g4 hok) hE (by rw [g3, hok]; rfl)
      exact ⟨M, m1, m2, m3, m4, g5.ma.trans m5⟩
    | false =>
      rw [if_neg (by decide)]
      have hJ22 : J 45 22 = 1 := by rw [g3, hok]; rfl
      have hans : ∀ n2 : Nat, ∀ x : Int32, f_X10_parts_L168 p0 p1 p2 (n2 + 1) J x = f_X10_answer J := by
        intro n2 x
        unfold f_X10_parts_L168
        rw [hJ22, if_neg (show ¬ (1 : Int32) = 0 by decide), bind_eta]
        split <;> rfl
      obtain ⟨n, rfl⟩ : ∃ m, n = m + 1 := ⟨n - 1, by omega⟩
      refine ⟨J, ?_, fun j hj => (hJ j hj).1, ?_, ?_, g5.ma⟩
      · unfold f_X10_parts_L137
        rw [hJ22, if_neg (show ¬ (1 : Int32) = 0 by decide), show FU = 4999 + 1 from rfl, hans]
        split <;> rfl
      · rw [if_neg Bool.false_ne_true]; exact hE
      · rw [hJ22]; rfl
theorem fill_L {xs : List Int32} (p0 p1 p2 : Int32) (hl : xs.length ≤ 40) : ∀ (r i n : Nat) (I : Mem), i + r = xs.length → r < n → I 45 34 = nI xs.length → (I 45 5 = 0 → ∀ j, j < xs.length → I 46 j = xs.getD j 0) → (I 45 5 ≠ 0 → ∀ j, j < xs.length → xs.getD j 0 = I 45 6 + nI j) → (∀ j, j < i → I 59 j = xs.getD j 0) →
    ∃ M, f_X10_parts_L80 p0 p1 p2 n I (nI i) = ((f_X10_workThrough M (nI xs.length)).bind fun q12 => f_X10_parts_L137 p0 p1 p2 FU q12 0) ∧ NowIs M xs ∧ (∀ c, c ≠ 59 → M c = I c) := by
  intro r
  induction r with
  | zero =>
    intro i n I hi hn h34 ha hb h
    obtain ⟨n, rfl⟩ : ∃ m, n = m + 1 := ⟨n - 1, by omega⟩
    unfold f_X10_parts_L80
    rw [h34, if_pos (nI_le (by omega) (by omega))]
    exact ⟨I, rfl, ⟨h34, by omega, fun j hj => h j (by omega)⟩, fun _ _ => rfl⟩
  | succ r ih =>
    intro i n I hi hn h34 ha hb h
    obtain ⟨n, rfl⟩ : ∃ m, n = m + 1 := ⟨n - 1, by omega⟩
    unfold f_X10_parts_L80
    rw [h34, if_neg (nI_ge (by omega) (by omega)), if_pos (inb_nI (show i < ln 46 by show i < 40; omega) (by decide)), if_pos (inb_nI (show i < ln 59 by show i < 601; omega) (by decide)), nI_clamp (by omega), nI_1]
    have go : ∀ v, v = xs.getD i 0 → ∃ M, f_X10_parts_L80 p0 p1 p2 n (st I 59 i v) (nI (i + 1)) = ((f_X10_workThrough M (nI xs.length)).bind fun q12 => f_X10_parts_L137 p0 p1 p2 FU q12 0) ∧ NowIs M xs ∧ (∀ c, c ≠ 59 → M c = I c) := by
      intro v hv
      obtain ⟨M, m1, m2, m3⟩ := ih (i + 1) n (st I 59 i v) (by omega) (by omega) (by rw [st_ne (by decide)]; exact h34) (by rw [st_ne (show (45 : Nat) ≠ 59 by decide), st_ne (show (46 : Nat) ≠ 59 by decide)]; exact ha) (by rw [st_ne (show (45 : Nat) ≠ 59 by decide)]; exact hb) (fun j hj => by
        by_cases z : j = i
        · subst z; rw [st_s]; exact hv
        · rw [st_k z]; exact h j (by omega))
      exact ⟨M, m1, m2, fun c q => by rw [m3 c q, st_ne q]⟩
    by_cases c : I 45 5 = 0
    · rw [if_pos c]
      exact go _ (ha c i (by omega))
    · rw [if_neg c, if_pos (inb_nI (show i < ln 59 by show i < 601; omega) (by decide))]
      exact go _ (hb c i (by omega)).symm
theorem up_get (a : Int32) : ∀ (m j : Nat), j < m → ∀ i, (up (a + nI i) m).getD j 0 = a + nI (i + j)
  | 0, j, h, _ => absurd h (Nat.not_lt_zero j)
  | m + 1, 0, h, i => rfl
  | m + 1, j + 1, h, i => by
    unfold up
    rw [add_nI]
    show (up (a + nI (i + 1)) m).getD j 0 = _
    rw [up_get a m j (by omega) (i + 1)]
    congr 2
    omega
theorem mparts_eq {Q : Mem} {e : Nat → Int32} {N gr c : Nat} {I : Mem} {B : List Int32} {s : Es} (p0 p1 p2 : Int32) (hQ : Qok Q N) (hN : N ≤ 6) (hg : 1 ≤ gr) (hg2 : gr ≤ 20) (hc : 1 ≤ c) (h4 : c ≤ 4) (h36 : I 45 36 = nI gr) (h37 : I 45 37 = nI c)
    (hB : B.length ≤ 40) (h46 : ∀ j, j < B.length → I 46 j = B.getD j 0) (hkind : I 45 5 = 0 ∨ I 45 5 = 1) (hb : I 45 5 = 1 → ∃ m, m ≤ 40 ∧ I 45 7 = nI m)
    (h9 : I 45 9 = nI N) (hst : ∀ j, j < N → MSt I j (Q j) sg0 false) (hs : s.1 = 0) (hw : EW e s) (h : EndM I e s) (h22 : I 45 22 = 0) :
    ∃ J, f_X10_parts_L80 p0 p1 p2 FU (st I 45 34 (nI (srcL B (I 45 5) (I 45 6) (I 45 7) (I 45 8)).length)) 0 = f_X10_answer J ∧ (∀ j, j < N → MSt J j (Q j) ((partsK Q N 0 (fun _ => sg0) (srcL B (I 45 5) (I 45 6) (I 45 7) (I 45 8))).1 j) false) ∧ EndM J e (if (partsK Q N 0 (fun _ => sg0) (srcL B (I 45 5) (I 45 6) (I 45 7) (I 45 8))).2.2 = true then takeL e (partsK Q N 0 (fun _ => sg0) (srcL B (I 45 5) (I 45 6) (I 45 7) (I 45 8))).2.1 s else s) ∧ J 45 22 = b2i (!(partsK Q N 0 (fun _ => sg0) (srcL B (I 45 5) (I 45 6) (I 45 7) (I 45 8))).2.2) ∧ PM gr c (runP gr c 79 (I 45 38) (p0S (srcL B (I 45 5) (I 45 6) (I 45 7) (I 45 8)).length)) J ∧ (∀ c, c ≠ 45 → c ≠ 50 → c ≠ 51 → c ≠ 52 → c ≠ 53 → c ≠ 57 → c ≠ 59 → c ≠ 60 → c ≠ 61 → c ≠ 62 → c ≠ 63 → c ≠ 64 → J c = I c) ∧ (∀ b, b ≠ 22 → b ≠ 26 → b ≠ 27 → b ≠ 28 → b ≠ 34 → b ≠ 35 → J 45 b = I 45 b) := by
  have hlen : (srcL B (I 45 5) (I 45 6) (I 45 7) (I 45 8)).length ≤ 40 := by
    rcases hkind with q | q
    · unfold srcL; rw [if_pos q]; exact hB
    · obtain ⟨m, m1, m2⟩ := hb q
      unfold srcL; rw [q, if_neg (by decide), if_pos rfl, up_length, m2, nI_clamp (by omega)]; exact m1
  have ha : I 45 5 = 0 → ∀ j, j < (srcL B (I 45 5) (I 45 6) (I 45 7) (I 45 8)).length → I 46 j = (srcL B (I 45 5) (I 45 6) (I 45 7) (I 45 8)).getD j 0 := by
    intro q j hj
    have e9 : srcL B (I 45 5) (I 45 6) (I 45 7) (I 45 8) = B := by unfold srcL; rw [if_pos q]
    rw [e9] at hj ⊢
    exact h46 j hj
  have hbb : I 45 5 ≠ 0 → ∀ j, j < (srcL B (I 45 5) (I 45 6) (I 45 7) (I 45 8)).length → (srcL B (I 45 5) (I 45 6) (I 45 7) (I 45 8)).getD j 0 = I 45 6 + nI j := by
    intro q j hj
    have q1 : I 45 5 = 1 := by rcases hkind with z | z; exact absurd z q; exact z
    have e9 : srcL B (I 45 5) (I 45 6) (I 45 7) (I 45 8) = up (I 45 6) (I 45 7).toNatClampNeg := by unfold srcL; rw [if_neg q, if_pos q1]
    rw [e9] at hj ⊢
    rw [up_length] at hj
    have := up_get (I 45 6) (I 45 7).toNatClampNeg j hj 0
    rw [show I 45 6 + nI 0 = I 45 6 by rw [nI_0]; exact Int32.add_zero _, Nat.zero_add] at this
    exact this
  generalize srcL B (I 45 5) (I 45 6) (I 45 7) (I 45 8) = xs at *
  generalize hM : st I 45 34 (nI xs.length) = M
  have mo : ∀ c, c ≠ 45 → M c = I c := fun c q => by rw [← hM, st_ne q]
  have mb : ∀ b, b ≠ 34 → M 45 b = I 45 b := fun b q => by rw [← hM, st_k q]
  obtain ⟨M1, f1, f2, f3⟩ := fill_L p0 p1 p2 hlen xs.length 0 FU M (by omega) (by rw [FU_eq]; omega) (by rw [← hM, st_s]) (by rw [mb 5 (by decide), mo 46 (by decide)]; exact ha) (by rw [mb 5 (by decide), mb 6 (by decide)]; exact hbb) (fun j hj => absurd hj (Nat.not_lt_zero j))
  rw [← e0] at f1
  rw [f1]
  obtain ⟨M2, g1, g2, g3⟩ := crewM_eq hg hg2 hc h4 hlen (I := M1) (by rw [f3 45 (by decide), mb 36 (by decide)]; exact h36) (by rw [f3 45 (by decide), mb 37 (by decide)]; exact h37)
  rw [g1]
  simp only [Option.bind_some]
  have o2 : ∀ c, c ≠ 45 → c ≠ 59 → c ≠ 61 → c ≠ 62 → c ≠ 63 → c ≠ 64 → M2 c = I c := fun c a b d e f g => by rw [g3 c d e f g, f3 c b, mo c a]
  have b2 : ∀ b, b ≠ 34 → M2 45 b = I 45 b := fun b q => by rw [g3 45 (by decide) (by decide) (by decide) (by decide), f3 45 (by decide), mb b q]
  have hst2 : ∀ j, j < N → MSt M2 j (Q j) ((fun _ => sg0) j) false ∧ SW ((fun _ : Nat => sg0) j) ∧ ((fun _ : Nat => sg0) j).2.2.length ≤ 600 := by
    intro j hj
    refine ⟨?_, ⟨Nat.le_refl _, List.Pairwise.nil⟩, Nat.zero_le _⟩
    have h3 := hst j hj
    unfold MSt HM at h3 ⊢
    rw [o2 47 (by decide) (by decide) (by decide) (by decide) (by decide) (by decide), o2 48 (by decide) (by decide) (by decide) (by decide) (by decide) (by decide), o2 49 (by decide) (by decide) (by decide) (by decide) (by decide) (by decide), o2 50 (by decide) (by decide) (by decide) (by decide) (by decide) (by decide), o2 51 (by decide) (by decide) (by decide) (by decide) (by decide) (by decide), o2 52 (by decide) (by decide) (by decide) (by decide) (by decide) (by decide), o2 53 (by decide) (by decide) (by decide) (by decide) (by decide) (by decide)]
    exact h3
  have hnow : NowIs M2 xs := by
    unfold NowIs at f2 ⊢
    rw [g3 45 (by decide) (by decide) (by decide) (by decide), g3 59 (by decide) (by decide) (by decide) (by decide)]
    exact f2
  obtain ⟨J, k1, k2, k3, k4, k5⟩ := stagesM_L p0 p1 p2 hQ hN N 0 FU (by omega) (by rw [FU_eq]; omega) (fun _ => sg0) xs s M2 (by rw [b2 9 (by decide)]; exact h9) hst2 (fun _ _ _ => rfl) hs hw hnow (h.of (fun b q => b2 b (by omega)) (o2 57 (by decide) (by decide) (by decide) (by decide) (by decide) (by decide))) (by rw [b2 22 (by decide)]; exact h22)
  rw [← e0] at k1
  have hseed : M1 45 38 = I 45 38 := by rw [f3 45 (by decide), mb 38 (by decide)]
  rw [hseed] at g2
  refine ⟨J, k1, k2, k3, k4, ⟨?_, ?_⟩, fun c a1 a2 a3 a4 a5 a6 a7 a8 a9 b1 b3 b4 => ?_, fun b a1 a2 a3 a4 a5 a6 => ?_⟩
  · have h3 := g2.1
    unfold numsM at h3 ⊢
    rw [k5.2 36 (by decide) (by decide) (by decide) (by decide) (by decide) (by decide), k5.2 37 (by decide) (by decide) (by decide) (by decide) (by decide) (by decide), k5.1 64 (by decide) (by decide) (by decide) (by decide) (by decide) (by decide) (by decide) (by decide)]
    exact h3
  · exact g2.2.of (k5.1 62 (by decide) (by decide) (by decide) (by decide) (by decide) (by decide) (by decide) (by decide)) (k5.1 63 (by decide) (by decide) (by decide) (by decide) (by decide) (by decide) (by decide) (by decide))
  · rw [k5.1 c a1 a2 a3 a4 a5 a6 a7 a8, o2 c a1 a7 a9 b1 b3 b4]
  · rw [k5.2 b a1 a2 a3 a4 a5 a6, b2 b a5]
