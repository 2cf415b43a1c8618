/-! the program's run one after the other does as the functions say -/
def RC (Q : Mem) (e : Nat → Int32) (N G : Nat) (σ : Fs) (I : Mem) : Prop := N ≤ 6 ∧ I 3 2 = nI N ∧ (∀ k, k < N → StIs I (6 + 3 * k) (Q k) (σ.1 k)) ∧ EndIs I G e σ.2.1 ∧ I 29 2 = nI σ.2.2.1 ∧ I 29 3 = b2i σ.2.2.2
def Fr (G : Nat) (I J : Mem) : Prop := (∀ c, c < 6 ∨ 30 ≤ c ∨ c = 52 - G ∨ c = 53 - G → J c = I c) ∧ J 24 1 = I 24 1
theorem Fr.refl {G : Nat} {I : Mem} : Fr G I I := ⟨fun _ _ => rfl, rfl⟩
theorem Fr.trans {G : Nat} {I J K : Mem} (h : Fr G I J) (h2 : Fr G J K) : Fr G I K := ⟨fun c q => (h2.1 c q).trans (h.1 c q), h2.2.trans h.2⟩
theorem ln_st {k : Nat} (h : k < 6) : ln (6 + 3 * k + 1 + 1) = 600 := by
  have : k = 0 ∨ k = 1 ∨ k = 2 ∨ k = 3 ∨ k = 4 ∨ k = 5 := by omega
  rcases this with rfl | rfl | rfl | rfl | rfl | rfl <;> rfl
theorem RC.stage {Q : Mem} {e : Nat → Int32} {N G k : Nat} {σ : Fs} {I J : Mem} {s : Sg} (hG : Gok G) (h : RC Q e N G σ I) (hk : k < N) (h1 : StIs J (6 + 3 * k) (Q k) s) (h2 : StOnly I J (6 + 3 * k)) : RC Q e N G (setg σ.1 k s, σ.2) J ∧ Fr G I J := by
  obtain ⟨a, b, c, d, f, g⟩ := h
  have hl := hG.lt
  refine ⟨⟨a, ?_, fun j hj => ?_, ?_, ?_, ?_⟩, fun c hc => h2 c ?_ ?_ ?_, ?_⟩
  · rw [h2 3 (by omega) (by omega) (by omega)]; exact b
  · show StIs J (6 + 3 * j) (Q j) ((setg σ.1 k s) j)
    by_cases q : j = k
    · subst q; rw [setg_s]; exact h1
    · rw [setg_n q]
      exact (c j hj).of (h2 _ (by omega) (by omega) (by omega)) (h2 _ (by omega) (by omega) (by omega)) (h2 _ (by omega) (by omega) (by omega))
  · exact d.of (h2 _ (by omega) (by omega) (by omega)) (h2 _ (by omega) (by omega) (by omega)) (h2 _ (by omega) (by omega) (by omega))
  · rw [h2 29 (by omega) (by omega) (by omega)]; exact f
  · rw [h2 29 (by omega) (by omega) (by omega)]; exact g
  · omega
  · omega
  · omega
  · rw [h2 24 (by omega) (by omega) (by omega)]
theorem RC.fin {Q : Mem} {e : Nat → Int32} {N G : Nat} {σ : Fs} {I J : Mem} {t : Es} (hG : Gok G) (h : RC Q e N G σ I) (h1 : EndIs J G e t) (h2 : EndOnly I J G) : RC Q e N G (σ.1, t, σ.2.2) J ∧ Fr G I J := by
  obtain ⟨a, b, c, d, f, g⟩ := h
  have hl := hG.lt
  have h3 := h2.1
  refine ⟨⟨a, ?_, fun j hj => ?_, h1, ?_, ?_⟩, fun c hc => h3 c ?_ ?_ ?_, h2.2⟩
  · rw [h3 3 (by omega) (by omega) (by omega)]; exact b
  · exact (c j hj).of (h3 _ (by omega) (by omega) (by omega)) (h3 _ (by omega) (by omega) (by omega)) (h3 _ (by omega) (by omega) (by omega))
  · rw [h3 29 (by omega) (by omega) (by omega)]; exact f
  · rw [h3 29 (by omega) (by omega) (by omega)]; exact g
  · omega
  · rcases hG with rfl | rfl <;> omega
  · rcases hG with rfl | rfl <;> omega
theorem RC.s29 {Q : Mem} {e : Nat → Int32} {N G : Nat} {σ : Fs} {I J : Mem} {n : Nat} {b : Bool} (hG : Gok G) (h : RC Q e N G σ I) (h0 : ∀ c, c ≠ 29 → J c = I c) (h1 : J 29 2 = nI n) (h2 : J 29 3 = b2i b) : RC Q e N G (σ.1, σ.2.1, n, b) J ∧ Fr G I J := by
  obtain ⟨a, c, d, f, g, k⟩ := h
  have hl := hG.lt
  refine ⟨⟨a, ?_, fun j hj => ?_, ?_, h1, h2⟩, fun c hc => h0 c ?_, ?_⟩
  · rw [h0 3 (by omega)]; exact c
  · exact (d j hj).of (h0 _ (by omega)) (h0 _ (by omega)) (h0 _ (by omega))
  · exact f.of (h0 _ (by omega)) (h0 _ (by omega)) (h0 _ (by omega))
  · omega
  · rw [h0 24 (by omega)]
theorem wanted_L {Q : Mem} {e : Nat → Int32} {N G : Nat} {σ : Fs} {I : Mem} {p : Int32} (h : RC Q e N G σ I) : ∀ (d k n : Nat), k + d = N → d < n → f_X2_isWantedFrom_L2 p n I (nI k) = some (wn Q σ.1 σ.2.1.2.2.1 d k, I) := by
  obtain ⟨a, b, c, d, f, g⟩ := h
  intro d'
  induction d' with
  | zero =>
    intro k n hk hn
    obtain ⟨n, rfl⟩ : ∃ m, n = m + 1 := ⟨n - 1, by omega⟩
    unfold f_X2_isWantedFrom_L2 wn f_X1_wantsMore
    rw [b, if_pos (nI_le (by omega) (by omega)), d.2.2.2.2.2.2.1]
    cases σ.2.1.2.2.1 <;> rfl
  | succ d' ih =>
    intro k n hk hn
    obtain ⟨n, rfl⟩ : ∃ m, n = m + 1 := ⟨n - 1, by omega⟩
    unfold f_X2_isWantedFrom_L2 wn
    rw [b, if_neg (nI_ge (by omega) (by omega)), if_pos (inb_nI (show k < ln 5 by show k < 6; omega) (by decide)), if_pos (inb_nI (show k < ln 5 by show k < 6; omega) (by decide)), nI_clamp (by omega), (c k (by omega)).1, isClosed_eq (c k (by omega))]
    simp only [Option.bind_some, b2i_0]
    by_cases c1 : Q k 1 = 4
    · rw [if_pos c1, if_pos c1]
    · rw [if_neg c1, if_neg c1]
      rw [e1, nI_add, ih (k + 1) n (by omega) (by omega)]
      cases clo (Q k 1) (Q k 3) (σ.1 k) <;> rfl
theorem mayGive_eq {Q : Mem} {e : Nat → Int32} {N G : Nat} {σ : Fs} {I : Mem} (h : RC Q e N G σ I) (hs : σ.2.2.1 ≤ 600) (d k : Nat) (hk : k + d = N) : f_X2_mayGiveTo I (nI k) = if σ.2.2.2 = true then some (false, I) else if wn Q σ.1 σ.2.1.2.2.1 d k = true then (if σ.2.2.1 = 600 then some (false, st I 29 3 1) else some (true, st I 29 2 (I 29 2 + 1))) else some (false, I) := by
  unfold f_X2_mayGiveTo f_X2_isWantedFrom
  have hN := h.1
  have h6 : (I 29 2 = 600) = (σ.2.2.1 = 600) := by
    rw [h.2.2.2.2.1]
    exact propext ⟨fun q => (nI_eq (by omega) (by omega)).mp (q.trans (show (600 : Int32) = nI 600 from rfl)), fun q => by rw [q]; rfl⟩
  rw [wanted_L h d k FU hk (by rw [FU_eq]; omega), h.2.2.2.2.2]
  simp only [Option.bind_some, b2i_0]
  generalize wn Q σ.1 σ.2.1.2.2.1 d k = w
  generalize σ.2.2.2 = s
  simp only [h6]
  cases s <;> cases w <;> simp
theorem giveL_cons (w : Fs → Bool) (P : Fs → Int32 → Fs) (x : Int32) (xs : List Int32) (σ : Fs) : giveL w P (x :: xs) σ = if σ.2.2.2 = true then σ else if w σ = true then (if σ.2.2.1 = 600 then (σ.1, σ.2.1, σ.2.2.1, true) else giveL w P xs (P (σ.1, σ.2.1, σ.2.2.1 + 1, σ.2.2.2) x)) else σ := rfl
/-- a row of gives: what the next of a loop must do -/
theorem give_case {Q : Mem} {e : Nat → Int32} {N G : Nat} {σ : Fs} {I : Mem} (hG : Gok G) (h : RC Q e N G σ I) (hw : FW e N (N + 1) σ) (d k : Nat) (hk : k + d = N) (x : Int32) (xs : List Int32) :
    (∃ J, f_X2_mayGiveTo I (nI k) = some (false, J) ∧ RC Q e N G (giveL (fun τ => wn Q τ.1 τ.2.1.2.2.1 d k) (pushK Q e d k) (x :: xs) σ) J ∧ Fr G I J) ∨
    (∃ J, f_X2_mayGiveTo I (nI k) = some (true, J) ∧ RC Q e N G (σ.1, σ.2.1, σ.2.2.1 + 1, σ.2.2.2) J ∧ Fr G I J ∧ FW e N k (σ.1, σ.2.1, σ.2.2.1 + 1, σ.2.2.2) ∧ (∀ c, c ≠ 29 → J c = I c) ∧ giveL (fun τ => wn Q τ.1 τ.2.1.2.2.1 d k) (pushK Q e d k) (x :: xs) σ = giveL (fun τ => wn Q τ.1 τ.2.1.2.2.1 d k) (pushK Q e d k) xs (pushK Q e d k (σ.1, σ.2.1, σ.2.2.1 + 1, σ.2.2.2) x)) := by
  rw [mayGive_eq h hw.1 d k hk, giveL_cons]
  by_cases c1 : σ.2.2.2 = true
  · rw [if_pos c1, if_pos c1]
    exact .inl ⟨I, rfl, h, Fr.refl⟩
  rw [if_neg c1, if_neg c1]
  by_cases c2 : wn Q σ.1 σ.2.1.2.2.1 d k = true
  · rw [if_pos c2, if_pos c2]
    by_cases c3 : σ.2.2.1 = 600
    · rw [if_pos c3, if_pos c3]
      obtain ⟨a, b⟩ := RC.s29 (J := st I 29 3 1) (n := σ.2.2.1) (b := true) hG h (fun c q => st_ne q) (by rw [st_k (by decide)]; exact h.2.2.2.2.1) (by rw [st_s]; rfl)
      exact .inl ⟨_, rfl, a, b⟩
    · rw [if_neg c3, if_neg c3]
      obtain ⟨a, b⟩ := RC.s29 (J := st I 29 2 (I 29 2 + 1)) (n := σ.2.2.1 + 1) (b := σ.2.2.2) hG h (fun c q => st_ne q) (by rw [st_s, h.2.2.2.2.1]; exact nI_1 _) (by rw [st_k (by decide)]; exact h.2.2.2.2.2)
      exact .inr ⟨_, rfl, a, b, hw.step c3, fun c q => st_ne q, rfl⟩
  · rw [if_neg c2, if_neg c2]
    exact .inl ⟨I, rfl, h, Fr.refl⟩
theorem giveL_nil (w : Fs → Bool) (P : Fs → Int32 → Fs) (σ : Fs) : giveL w P [] σ = σ := rfl
theorem add_nI (x : Int32) (i : Nat) : x + nI i + 1 = x + nI (i + 1) := by
  rw [Int32.add_assoc, nI_1]
theorem flat_L {Q : Mem} {e : Nat → Int32} {N G k d m : Nat} (hG : Gok G) (hk : k + 1 + d = N) (hm : m < 2 ^ 30) (P : Mem → Int32 → Int32 → Option Mem) (p0 p1 x : Int32)
    (hP : ∀ (σ : Fs) (I : Mem) (y : Int32), FW e N (k + 1) σ → RC Q e N G σ I → ∃ J, P I (nI (k + 1)) y = some J ∧ RC Q e N G (pushK Q e d (k + 1) σ y) J ∧ Fr G I J) :
    ∀ (r i n : Nat), i + r = m → r < n → ∀ (σ : Fs) (I : Mem), FW e N (N + 1) σ → RC Q e N G σ I → ∃ J, f_X2_giveFlat_r_L16 P p0 p1 n I (nI k) x (nI m) (nI i) = some J ∧ RC Q e N G (giveL (fun τ => wn Q τ.1 τ.2.1.2.2.1 d (k + 1)) (pushK Q e d (k + 1)) (up (x + nI i) r) σ) J ∧ Fr G I J := by
  intro r
  induction r with
  | zero =>
    intro i n hi hn σ I hw h
    obtain ⟨n, rfl⟩ : ∃ m, n = m + 1 := ⟨n - 1, by omega⟩
    unfold f_X2_giveFlat_r_L16
    rw [if_pos (nI_le (by omega) (by omega))]
    exact ⟨I, rfl, h, Fr.refl⟩
  | succ r ih =>
    intro i n hi hn σ I hw h
    obtain ⟨n, rfl⟩ : ∃ m, n = m + 1 := ⟨n - 1, by omega⟩
    unfold f_X2_giveFlat_r_L16
    rw [if_neg (nI_ge (by omega) (by omega)), e1, nI_add, nI_add]
    unfold up
    rcases give_case hG h hw d (k + 1) hk (x + nI i) (up (x + nI i + 1) r) with ⟨J, g1, g2, g3⟩ | ⟨J, g1, g2, g3, g4, g5, g6⟩
    · rw [g1]
      exact ⟨J, rfl, g2, g3⟩
    · rw [g1, g6]
      simp only [Option.bind_some, b2i_0, Bool.true_eq_false, if_false]
      obtain ⟨K, k1, k2, k3⟩ := hP _ J (x + nI i) g4 g2
      rw [k1]
      simp only [Option.bind_some]
      rw [add_nI]
      obtain ⟨M, m1, m2, m3⟩ := ih (i + 1) n (by omega) (by omega) _ K (push_W d (k + 1) hk _ _ g4).1 k2
      exact ⟨M, m1, m2, g3.trans (k3.trans m3)⟩
def Qok (Q : Mem) (N : Nat) : Prop := ∀ k, k < N → Q k 1 = 2 → ∃ m, m ≤ 4 ∧ Q k 3 = nI m
theorem pass_L {Q : Mem} {e : Nat → Int32} {N G : Nat} (hG : Gok G) (hQ : Qok Q N) (D : Nat) (p0 p1 : Int32) (P : Mem → Int32 → Int32 → Option Mem)
    (hP : ∀ d k, k + d = N → d < D → ∀ (σ : Fs) (I : Mem) (y : Int32), FW e N k σ → RC Q e N G σ I → ∃ J, P I (nI k) y = some J ∧ RC Q e N G (pushK Q e d k σ y) J ∧ Fr G I J) :
    ∀ d k, k + d = N → d ≤ D → ∀ n, d < n → ∀ (σ : Fs) (I : Mem) (x : Int32), FW e N k σ → RC Q e N G σ I → ∃ J, f_X2_passOn_r_L5 (fun I a b => f_X2_giveFlat_r I P a b) p0 p1 n I x (nI k) = some J ∧ RC Q e N G (pushK Q e d k σ x) J ∧ Fr G I J := by
  intro d
  induction d with
  | zero =>
    intro k hk hd n hn σ I x hw h
    obtain ⟨n, rfl⟩ : ∃ m, n = m + 1 := ⟨n - 1, by omega⟩
    unfold f_X2_passOn_r_L5 pushK
    have hN := h.1
    rw [h.2.1, if_pos (nI_le (by omega) (by omega))]
    obtain ⟨w1, w2, w3, w4⟩ := hw
    rw [if_pos (by omega)] at w4
    obtain ⟨J, g1, g2, g3⟩ := take_eq x h.2.2.2.1 hG w3 (by omega)
    rw [g1]
    obtain ⟨a, b⟩ := h.fin hG g2 g3
    exact ⟨J, rfl, a, b⟩
  | succ d ih =>
    intro k hk hd n hn σ I x hw h
    obtain ⟨n, rfl⟩ : ∃ m, n = m + 1 := ⟨n - 1, by omega⟩
    have hN := h.1
    have hst := h.2.2.1 k (by omega)
    have hsw := (hw.2.1 k (by omega)).2
    obtain ⟨b1, b2⟩ := bump_st hst
    obtain ⟨r1, r2⟩ := h.stage hG (by omega) b1 b2
    unfold f_X2_passOn_r_L5 pushK
    rw [h.2.1, if_neg (nI_ge (by omega) (by omega)), if_pos (inb_nI (show k < ln 5 by show k < 6; omega) (by decide)), nI_clamp (by omega), b1.1]
    by_cases c1 : Q k 1 = 2
    · rw [if_pos c1, if_pos c1]
      obtain ⟨m, hm, hm2⟩ := hQ k (by omega) c1
      unfold f_X2_giveFlat_r
      rw [if_pos (inb_nI (show k < ln 5 by show k < 6; omega) (by decide)), nI_clamp (by omega), b1.2.2.1, hm2, nI_clamp (by omega), e0]
      have h9 := hw.set (by omega) (s := bump (σ.1 k)) ⟨Nat.le_succ_of_le hsw.1, hsw.2⟩ rfl
      obtain ⟨J, g1, g2, g3⟩ := flat_L hG (show k + 1 + d = N by omega) (show m < 2 ^ 30 by omega) P (nI k) x x (fun τ M y q1 q2 => hP d (k + 1) (by omega) (by omega) τ M y q1 q2) m 0 FU (by omega) (by rw [FU_eq]; omega) _ _ (h9.mono (by omega)) r1
      rw [show x + nI 0 = x by rw [nI_0]; exact Int32.add_zero x] at g2
      rw [g1]
      exact ⟨J, rfl, g2, r2.trans g3⟩
    · rw [if_neg c1, if_neg c1]
      have hle := (hw.2.1 k (by omega)).1
      have h600 := hw.1
      rw [if_pos (Nat.le_refl _)] at hle
      obtain ⟨J, g1, g2, g3⟩ := letsOn_eq x b1 (ln_st (by omega)) (by show (σ.1 k).2.2.length < 600; have := hsw.1; omega) hsw.2
      rw [g1]
      simp only [Option.bind_some, b2i_0]
      obtain ⟨s1, s2⟩ := h.stage hG (by omega) g2 (b2.trans g3)
      have h9 := hw.set (by omega) (lets1_SW (o := Q k 1) (a := Q k 2) (n := Q k 3) (x := x) hsw) (by rw [lets1_came]; rfl)
      by_cases c2 : (lets1 (Q k 1) (Q k 2) (Q k 3) (bump (σ.1 k)) x).1 = true
      · rw [if_pos c2, if_neg (by rw [c2]; decide), changed_eq x g2]
        simp only [Option.bind_some]
        rw [e1, nI_add]
        obtain ⟨K, k1, k2, k3⟩ := ih (k + 1) (by omega) (by omega) n (by omega) _ J (chg (Q k 1) (Q k 2) (Q k 3) x) h9 s1
        exact ⟨K, k1, k2, s2.trans k3⟩
      · rw [if_neg c2, if_pos (by simpa using c2)]
        exact ⟨J, rfl, s1, s2⟩
theorem pass_D {Q : Mem} {e : Nat → Int32} {N G : Nat} (hG : Gok G) (hQ : Qok Q N) : ∀ D d k, k + d = N → d < D → ∀ (σ : Fs) (I : Mem) (y : Int32), FW e N k σ → RC Q e N G σ I → ∃ J, f_X2_passOn_d D I (nI k) y = some J ∧ RC Q e N G (pushK Q e d k σ y) J ∧ Fr G I J
  | 0, d, k, hk, hd => by omega
  | D + 1, d, k, hk, hd => by
    intro σ I y hw h
    have hN := h.1
    exact pass_L hG hQ D (nI k) y (f_X2_passOn_d D) (pass_D hG hQ D) d k hk (by omega) FU (by rw [FU_eq]; omega) σ I y hw h
theorem passOn_eq {Q : Mem} {e : Nat → Int32} {N G : Nat} (hG : Gok G) (hQ : Qok Q N) (d k : Nat) (hk : k + d = N) (σ : Fs) (I : Mem) (y : Int32) (hw : FW e N k σ) (h : RC Q e N G σ I) : ∃ J, f_X2_passOn I (nI k) y = some J ∧ RC Q e N G (pushK Q e d k σ y) J ∧ Fr G I J := by
  have hN := h.1
  exact pass_D hG hQ 8 d k hk (by omega) σ I y hw h
