/-! the reference's going on: up to the next giver -/
def RM (Q : Mem) (e : Nat → Int32) (N : Nat) (tr : Nat → Bool) (σ : Fs) (I : Mem) : Prop := N ≤ 6 ∧ I 45 9 = nI N ∧ (∀ k, k < N → MSt I k (Q k) (σ.1 k) (tr k)) ∧ EndM I e σ.2.1 ∧ I 45 21 = nI σ.2.2.1 ∧ I 45 22 = b2i σ.2.2.2
/-- what a step at t leaves alone, g givers being there -/
def MF (I J : Mem) (t g : Nat) : Prop := (∀ c, c < 45 ∨ 46 ≤ c ∧ c < 50 ∨ 58 ≤ c → J c = I c) ∧ (∀ b, b ≠ 17 → b ≠ 21 → b ≠ 22 → b ≠ 26 → b ≠ 27 → b ≠ 28 → J 45 b = I 45 b) ∧ (∀ i, i < 600 * t → J 53 i = I 53 i) ∧ (∀ j, j < g → J 54 j = I 54 j ∧ J 55 j = I 55 j ∧ J 56 j = I 56 j)
theorem MF.refl {I : Mem} {t g : Nat} : MF I I t g := ⟨fun _ _ => rfl, fun _ _ _ _ _ _ _ => rfl, fun _ _ => rfl, fun _ _ => ⟨rfl, rfl, rfl⟩⟩
theorem MF.trans {I J K : Mem} {t g : Nat} (h : MF I J t g) (h2 : MF J K t g) : MF I K t g := ⟨fun c q => (h2.1 c q).trans (h.1 c q), fun b a1 a2 a3 a4 a5 a6 => (h2.2.1 b a1 a2 a3 a4 a5 a6).trans (h.2.1 b a1 a2 a3 a4 a5 a6), fun i q => (h2.2.2.1 i q).trans (h.2.2.1 i q), fun j q => ⟨(h2.2.2.2 j q).1.trans (h.2.2.2 j q).1, (h2.2.2.2 j q).2.1.trans (h.2.2.2 j q).2.1, (h2.2.2.2 j q).2.2.trans (h.2.2.2 j q).2.2⟩⟩
theorem MF.mono {I J : Mem} {t g t2 g2 : Nat} (h : MF I J t g) (ht : t2 ≤ t) (hg : g2 ≤ g) : MF I J t2 g2 := ⟨h.1, h.2.1, fun i q => h.2.2.1 i (by omega), fun j q => h.2.2.2 j (by omega)⟩
theorem MsOnly.mf {I J : Mem} {k g : Nat} (h : MsOnly I J k) : MF I J k g := ⟨fun c q => h.1 c (by omega) (by omega) (by omega) (by omega), fun b _ _ _ _ _ _ => by rw [h.1 45 (by omega) (by omega) (by omega) (by omega)], fun i q => h.2.2 i (by omega), fun j _ => ⟨by rw [h.1 54 (by omega) (by omega) (by omega) (by omega)], by rw [h.1 55 (by omega) (by omega) (by omega) (by omega)], by rw [h.1 56 (by omega) (by omega) (by omega) (by omega)]⟩⟩
theorem MeOnly.mf {I J : Mem} {t g : Nat} (h : MeOnly I J) : MF I J t g := ⟨fun c q => h.1 c (by omega) (by omega), fun b _ _ _ a4 a5 a6 => h.2 b a4 a5 a6, fun i _ => by rw [h.1 53 (by omega) (by omega)], fun j _ => ⟨by rw [h.1 54 (by omega) (by omega)], by rw [h.1 55 (by omega) (by omega)], by rw [h.1 56 (by omega) (by omega)]⟩⟩
theorem EndM.of {I J : Mem} {e : Nat → Int32} {s : Es} (h : EndM I e s) (h45 : ∀ b, b = 23 ∨ b = 24 ∨ b = 25 ∨ b = 26 ∨ b = 27 ∨ b = 28 → J 45 b = I 45 b) (h57 : J 57 = I 57) : EndM J e s := by
  unfold EndM
  rw [h45 23 (by omega), h45 24 (by omega), h45 25 (by omega), h45 26 (by omega), h45 27 (by omega), h45 28 (by omega), h57]
  exact h
theorem RM.stage {Q : Mem} {e : Nat → Int32} {N k : Nat} {tr : Nat → Bool} {σ : Fs} {I J : Mem} {s : Sg} (h : RM Q e N tr σ I) (hl : ∀ j, j < N → (σ.1 j).2.2.length ≤ 600) (hk : k < N) (h1 : MSt J k (Q k) s (tr k)) (h2 : MsOnly I J k) : RM Q e N tr (setg σ.1 k s, σ.2) J := by
  obtain ⟨a, b, c, d, f, g⟩ := h
  have h45 : J 45 = I 45 := h2.1 45 (by omega) (by omega) (by omega) (by omega)
  refine ⟨a, by rw [h45]; exact b, fun j hj => ?_, d.of (fun b _ => by rw [h45]) (h2.1 57 (by omega) (by omega) (by omega) (by omega)), by rw [h45]; exact f, by rw [h45]; exact g⟩
  show MSt J j (Q j) ((setg σ.1 k s) j) (tr j)
  by_cases q : j = k
  · subst q; rw [setg_s]; exact h1
  · rw [setg_n q]
    exact (c j hj).other q (hl j hj) h2
theorem RM.fin {Q : Mem} {e : Nat → Int32} {N : Nat} {tr : Nat → Bool} {σ : Fs} {I J : Mem} {t : Es} (h : RM Q e N tr σ I) (hl : ∀ j, j < N → (σ.1 j).2.2.length ≤ 600) (h1 : EndM J e t) (h2 : MeOnly I J) : RM Q e N tr (σ.1, t, σ.2.2) J := by
  obtain ⟨a, b, c, d, f, g⟩ := h
  refine ⟨a, by rw [h2.2 9 (by decide) (by decide) (by decide)]; exact b, fun j hj => ?_, h1, by rw [h2.2 21 (by decide) (by decide) (by decide)]; exact f, by rw [h2.2 22 (by decide) (by decide) (by decide)]; exact g⟩
  exact (c j hj).of (hl j hj) (by rw [h2.1 47 (by omega) (by omega)]) (by rw [h2.1 48 (by omega) (by omega)]) (by rw [h2.1 49 (by omega) (by omega)]) (by rw [h2.1 50 (by omega) (by omega)]) (by rw [h2.1 51 (by omega) (by omega)]) (by rw [h2.1 52 (by omega) (by omega)]) (fun i _ _ => by rw [h2.1 53 (by omega) (by omega)])
/-- other numbers of the reference have changed, and givers -/
theorem RM.nums {Q : Mem} {e : Nat → Int32} {N n : Nat} {b : Bool} {tr : Nat → Bool} {σ : Fs} {I J : Mem} (h : RM Q e N tr σ I) (h0 : ∀ c, c ≠ 45 → c ≠ 54 → c ≠ 55 → c ≠ 56 → J c = I c) (h1 : ∀ b, b ≠ 17 → b ≠ 21 → b ≠ 22 → J 45 b = I 45 b) (h21 : J 45 21 = nI n) (h22 : J 45 22 = b2i b) : RM Q e N tr (σ.1, σ.2.1, n, b) J := by
  obtain ⟨a, b, c, d, f, g⟩ := h
  refine ⟨a, by rw [h1 9 (by decide) (by decide) (by decide)]; exact b, fun j hj => ?_, d.of (fun b q => h1 b (by omega) (by omega) (by omega)) (h0 57 (by omega) (by omega) (by omega) (by omega)), h21, h22⟩
  have q : ∀ c, c = 47 ∨ c = 48 ∨ c = 49 ∨ c = 50 ∨ c = 51 ∨ c = 52 ∨ c = 53 → J c = I c := fun c q => h0 c (by omega) (by omega) (by omega) (by omega)
  have h3 := c j hj
  unfold MSt HM at h3 ⊢
  rw [q 47 (by omega), q 48 (by omega), q 49 (by omega), q 50 (by omega), q 51 (by omega), q 52 (by omega), q 53 (by omega)]
  exact h3
def pushF (Q : Mem) (e : Nat → Int32) : Nat → Nat → Fs → Int32 → Fs × Option (Nat × Int32)
  | 0, _, σ, x => ((σ.1, take1 (e 2) (e 3) (e 4) σ.2.1 x, σ.2.2), none)
  | d + 1, k, σ, x =>
    if Q k 1 = 2 then ((setg σ.1 k (bump (σ.1 k)), σ.2), some (k, x))
    else if (lets1 (Q k 1) (Q k 2) (Q k 3) (bump (σ.1 k)) x).1 = true then pushF Q e d (k + 1) (setg σ.1 k (lets1 (Q k 1) (Q k 2) (Q k 3) (bump (σ.1 k)) x).2, σ.2) (chg (Q k 1) (Q k 2) (Q k 3) x)
    else ((setg σ.1 k (lets1 (Q k 1) (Q k 2) (Q k 3) (bump (σ.1 k)) x).2, σ.2), none)
theorem pushF_eq {Q : Mem} {e : Nat → Int32} {N : Nat} : ∀ (d k : Nat), k + d = N → ∀ (σ : Fs) (x : Int32),
    ((pushF Q e d k σ x).2 = none ∧ pushK Q e d k σ x = (pushF Q e d k σ x).1) ∨
    (∃ j y, (pushF Q e d k σ x).2 = some (j, y) ∧ k ≤ j ∧ j < N ∧ Q j 1 = 2 ∧ pushK Q e d k σ x = giveL (fun τ => wn Q τ.1 τ.2.1.2.2.1 (N - (j + 1)) (j + 1)) (pushK Q e (N - (j + 1)) (j + 1)) (up y (Q j 3).toNatClampNeg) (pushF Q e d k σ x).1)
  | 0, k, hk, σ, x => .inl ⟨rfl, rfl⟩
  | d + 1, k, hk, σ, x => by
    unfold pushF pushK
    by_cases c1 : Q k 1 = 2
    · rw [if_pos c1, if_pos c1]
      refine .inr ⟨k, x, rfl, Nat.le_refl _, by omega, c1, ?_⟩
      rw [show N - (k + 1) = d by omega]
    · rw [if_neg c1, if_neg c1]
      by_cases c2 : (lets1 (Q k 1) (Q k 2) (Q k 3) (bump (σ.1 k)) x).1 = true
      · rw [if_pos c2, if_pos c2]
        rcases pushF_eq (N := N) d (k + 1) (by omega) (setg σ.1 k (lets1 (Q k 1) (Q k 2) (Q k 3) (bump (σ.1 k)) x).2, σ.2) (chg (Q k 1) (Q k 2) (Q k 3) x) with ⟨a, b⟩ | ⟨j, y, a, b, c, f, g⟩
        · exact .inl ⟨a, b⟩
        · exact .inr ⟨j, y, a, by omega, c, f, g⟩
      · rw [if_neg c2, if_neg c2]
        exact .inl ⟨rfl, rfl⟩
theorem pushF_W {Q : Mem} {e : Nat → Int32} {N : Nat} : ∀ (d k : Nat), k + d = N → ∀ (σ : Fs) (x : Int32), FW e N k σ → FW e N (N + 1) (pushF Q e d k σ x).1 ∧ (pushF Q e d k σ x).1.2.2 = σ.2.2
  | 0, k, hk, σ, x, h => by
    have := (push_W (Q := Q) 0 k hk σ x h).1
    exact ⟨this, rfl⟩
  | d + 1, k, hk, σ, x, h => by
    have hs := (h.2.1 k (by omega)).2
    unfold pushF
    by_cases c1 : Q k 1 = 2
    · rw [if_pos c1]
      exact ⟨(h.set (by omega) (s := bump (σ.1 k)) ⟨Nat.le_succ_of_le hs.1, hs.2⟩ rfl).mono (by omega), rfl⟩
    · rw [if_neg c1]
      have h9 := h.set (by omega) (lets1_SW (o := Q k 1) (a := Q k 2) (n := Q k 3) (x := x) hs) (by rw [lets1_came]; rfl)
      by_cases c2 : (lets1 (Q k 1) (Q k 2) (Q k 3) (bump (σ.1 k)) x).1 = true
      · rw [if_pos c2]
        exact pushF_W d (k + 1) (by omega) _ _ h9
      · rw [if_neg c2]
        exact ⟨h9.mono (by omega), rfl⟩
theorem FW.len {e : Nat → Int32} {N t : Nat} {σ : Fs} (h : FW e N t σ) : ∀ j, j < N → (σ.1 j).2.2.length ≤ 600 := by
  intro j hj
  have h1 := h.1
  have h2 := (h.2.1 j hj).1
  have h3 := (h.2.1 j hj).2.1
  split at h2 <;> omega
def giverR (Q : Mem) (N k g : Nat) (o : Option (Nat × Int32)) (J : Mem) : Prop := (o = none ∧ J 45 17 = nI g) ∨ ∃ j y, o = some (j, y) ∧ J 45 17 = nI (g + 1) ∧ J 54 g = nI j ∧ J 55 g = y ∧ J 56 g = Q j 3
theorem begin_M {I : Mem} {g : Nat} (a b c : Int32) (hg : I 45 17 = nI g) (h8 : g < 8) : ∃ J, f_X10_begin I a b c = some J ∧ J 45 17 = nI (g + 1) ∧ J 54 g = a ∧ J 55 g = b ∧ J 56 g = c ∧ (∀ c, c ≠ 45 → c ≠ 54 → c ≠ 55 → c ≠ 56 → J c = I c) ∧ (∀ b, b ≠ 17 → J 45 b = I 45 b) ∧ (∀ j, j ≠ g → J 54 j = I 54 j ∧ J 55 j = I 55 j ∧ J 56 j = I 56 j) := by
  unfold f_X10_begin
  simp only [hg, st_ne (show (45 : Nat) ≠ 54 by decide), st_ne (show (45 : Nat) ≠ 55 by decide), st_ne (show (45 : Nat) ≠ 56 by decide), nI_clamp (show g < 2 ^ 31 by omega), if_pos (inb_nI (show g < ln 54 from h8) (by decide)), if_pos (inb_nI (show g < ln 55 from h8) (by decide)), if_pos (inb_nI (show g < ln 56 from h8) (by decide)), nI_1]
  refine ⟨_, rfl, st_s, ?_, ?_, ?_, fun c q1 q2 q3 q4 => ?_, fun b q => ?_, fun j q => ⟨?_, ?_, ?_⟩⟩
  · rw [st_ne (by decide), st_ne (by decide), st_ne (by decide), st_s]
  · rw [st_ne (by decide), st_ne (by decide), st_s]
  · rw [st_ne (by decide), st_s]
  · rw [st_ne q1, st_ne q4, st_ne q3, st_ne q2]
  · rw [st_k q, st_ne (by decide), st_ne (by decide), st_ne (by decide)]
  · rw [st_ne (by decide), st_ne (by decide), st_ne (by decide), st_k q]
  · rw [st_ne (by decide), st_ne (by decide), st_k q, st_ne (by decide)]
  · rw [st_ne (by decide), st_k q, st_ne (by decide), st_ne (by decide)]
theorem goes_L {Q : Mem} {e : Nat → Int32} {N g : Nat} {tr : Nat → Bool} (p0 p1 : Int32) (h8 : g < 8) : ∀ (d k n : Nat), k + d = N → d < n → ∀ (σ : Fs) (I : Mem) (x : Int32), FW e N k σ → RM Q e N tr σ I → I 45 17 = nI g →
    ∃ J, f_X10_goesOn_L5 p0 p1 n I x (nI k) = some J ∧ RM Q e N tr (pushF Q e d k σ x).1 J ∧ MF I J k g ∧ giverR Q N k g (pushF Q e d k σ x).2 J := by
  intro d
  induction d with
  | zero =>
    intro k n hk hn σ I x hw h hg
    obtain ⟨n, rfl⟩ : ∃ m, n = m + 1 := ⟨n - 1, by omega⟩
    have hN := h.1
    unfold f_X10_goesOn_L5 pushF
    rw [h.2.1, if_pos (nI_le (by omega) (by omega))]
    have hlen := hw.len
    obtain ⟨w1, w2, w3, w4⟩ := hw
    rw [if_pos (by omega)] at w4
    obtain ⟨J, g1, g2, g3⟩ := reaches_eq x h.2.2.2.1 w3 (by omega)
    rw [g1]
    exact ⟨J, rfl, h.fin hlen g2 g3, g3.mf, .inl ⟨rfl, by rw [g3.2 17 (by decide) (by decide) (by decide)]; exact hg⟩⟩
  | succ d ih =>
    intro k n hk hn σ I x hw h hg
    obtain ⟨n, rfl⟩ : ∃ m, n = m + 1 := ⟨n - 1, by omega⟩
    have hN := h.1
    have hst := h.2.2.1 k (by omega)
    have hsw := (hw.2.1 k (by omega)).2
    have hlen := hw.len
    obtain ⟨b1, b2, b3, b4, b5⟩ := bumpM hst
    have i47 : inb (nI k) (ln 47) = true := inb_nI (show k < ln 47 by show k < 6; omega) (by decide)
    have i48' : inb (nI k) (ln 48) = true := inb_nI (show k < ln 48 by show k < 6; omega) (by decide)
    have i49 : inb (nI k) (ln 49) = true := inb_nI (show k < ln 49 by show k < 6; omega) (by decide)
    have i50 : inb (nI k) (ln 50) = true := inb_nI (show k < ln 50 by show k < 6; omega) (by decide)
    have hk31 : (nI k).toNatClampNeg = k := nI_clamp (by omega)
    have hle := (hw.2.1 k (by omega)).1
    have h600 := hw.1
    rw [if_pos (Nat.le_refl _)] at hle
    have hheld : (σ.1 k).2.2.length < 600 := by have := hsw.1; omega
    unfold f_X10_goesOn_L5 pushF
    rw [h.2.1, if_neg (nI_ge (by omega) (by omega))]
    simp only [i47, i48', i49, i50, hk31, if_true, b1, b3]
    by_cases c1 : Q k 1 = 2
    · simp only [if_pos c1]
      have hb := MSt_bump hst (by rw [c1]; decide) (by rw [c1]; decide)
      have hr := h.stage hlen (by omega) hb b5
      obtain ⟨J, g1, g2, g3, g4, g5, g6, g7, g8⟩ := begin_M (nI k) x (Q k 3) (show (st I 50 k (I 50 k + 1)) 45 17 = nI g by rw [st_ne (by omega)]; exact hg) h8
      rw [g1]
      refine ⟨J, rfl, ?_, MF.trans b5.mf ⟨fun c q => g6 c (by omega) (by omega) (by omega) (by omega), fun b q _ _ _ _ _ => g7 b q, fun i _ => by rw [g6 53 (by omega) (by omega) (by omega) (by omega)], fun j q => g8 j (by omega)⟩, .inr ⟨k, x, rfl, g2, g3, g4, g5⟩⟩
      exact hr.nums g6 (fun b q _ _ => g7 b q) (by rw [g7 21 (by decide)]; exact hr.2.2.2.2.1) (by rw [g7 22 (by decide)]; exact hr.2.2.2.2.2)
    · simp only [if_neg c1]
      have h9 := hw.set (by omega) (lets1_SW (o := Q k 1) (a := Q k 2) (n := Q k 3) (x := x) hsw) (by rw [lets1_came]; rfl)
      by_cases c4 : Q k 1 = 4
      · simp only [if_pos c4]
        obtain ⟨J, g1, g2, g3⟩ := sortInM_st x (by omega) hst hheld hsw.2 c4
        have hf : (lets1 (Q k 1) (Q k 2) (Q k 3) (bump (σ.1 k)) x).1 = false := by
          unfold lets1
          rw [if_neg (by rw [c4]; decide), if_neg (by rw [c4]; decide), if_pos c4]
        rw [if_neg (by rw [hf]; decide), g1]
        exact ⟨J, rfl, h.stage hlen (by omega) g2 g3, g3.mf, .inl ⟨rfl, by rw [g3.1 45 (by omega) (by omega) (by omega) (by omega)]; exact hg⟩⟩
      · simp only [if_neg c4]
        obtain ⟨J, g1, g2, g3⟩ := letsM_eq x (by omega) hst hheld c4
        have hr := h.stage hlen (by omega) g2 g3
        have hJ17 : J 45 17 = nI g := by rw [g3.1 45 (by omega) (by omega) (by omega) (by omega)]; exact hg
        rw [g1]
        simp only [Option.bind_some, b2i_0]
        by_cases c2 : (lets1 (Q k 1) (Q k 2) (Q k 3) (bump (σ.1 k)) x).1 = true
        · rw [if_pos c2, if_neg (by rw [c2]; decide), g2.1, g2.2.1, g2.2.2.1, mapped_eq']
          simp only [Option.bind_some, nI_1]
          obtain ⟨K, k1, k2, k3, k4⟩ := ih (k + 1) n (by omega) (by omega) _ J (chg (Q k 1) (Q k 2) (Q k 3) x) h9 hr hJ17
          refine ⟨K, ?_, k2, g3.mf.trans (k3.mono (by omega) (Nat.le_refl _)), ?_⟩
          · rw [← k1]
            unfold chg
            by_cases c0 : Q k 1 = 0
            · rw [if_pos c0, if_pos c0]
            · rw [if_neg c0, if_neg c0]
          · rcases k4 with ⟨u1, u2⟩ | ⟨j, y, u⟩
            · exact .inl ⟨u1, u2⟩
            · exact .inr ⟨j, y, u⟩
        · rw [if_neg c2, if_pos (by simpa using c2)]
          exact ⟨J, rfl, hr, g3.mf, .inl ⟨rfl, hJ17⟩⟩
