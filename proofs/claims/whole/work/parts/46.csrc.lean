/-! the source, the sorted ones behind it, the whole run -/
def orb (b c : Int32) : Int32 → Nat → List Int32
  | _, 0 => []
  | u, n + 1 => u :: orb b c (u * b + c) n
theorem orb_length (b c : Int32) : ∀ (u : Int32) (n : Nat), (orb b c u n).length = n
  | _, 0 => rfl
  | u, n + 1 => by simp [orb, orb_length b c (u * b + c) n]
theorem giveL_low {w : Fs → Bool} {P : Fs → Int32 → Fs} {j : Nat} (hP : ∀ σ x, (P σ x).1 j = σ.1 j) : ∀ (xs : List Int32) (σ : Fs), (giveL w P xs σ).1 j = σ.1 j
  | [], σ => rfl
  | x :: xs, σ => by
    rw [giveL_cons]
    repeat' split
    · rfl
    · rfl
    · rw [giveL_low hP xs, hP]
    · rfl
theorem push_low {Q : Mem} {e : Nat → Int32} {j : Nat} : ∀ (d k : Nat), j < k → ∀ (σ : Fs) (x : Int32), (pushK Q e d k σ x).1 j = σ.1 j
  | 0, k, hk, σ, x => rfl
  | d + 1, k, hk, σ, x => by
    unfold pushK
    repeat' split
    · rw [giveL_low (fun τ y => push_low d (k + 1) (by omega) τ y)]
      exact setg_n (by omega)
    · rw [push_low d (k + 1) (by omega)]
      exact setg_n (by omega)
    · exact setg_n (by omega)
def SrcIs (I : Mem) (i : Nat) (xs : List Int32) : Prop :=
  (I 4 1 = 0 ∧ ∃ B, RowIs I 1 B ∧ i ≤ B.length ∧ I 4 4 = nI i ∧ xs = B.drop i) ∨
  (I 4 1 = 1 ∧ ∃ m, m ≤ 40 ∧ I 4 2 = nI m ∧ i ≤ m ∧ I 4 4 = nI i ∧ xs = up (I 4 5) (m - i)) ∨
  (I 4 1 = 2 ∧ i ≤ 601 ∧ xs = orb (I 4 2) (I 4 3) (I 4 5) (601 - i))
theorem SrcIs.of {I J : Mem} {i : Nat} {xs : List Int32} (h : SrcIs I i xs) (h1 : J 1 = I 1) (h2 : J 2 = I 2) (h4 : J 4 = I 4) : SrcIs J i xs := by
  unfold SrcIs
  rw [h4]
  rcases h with ⟨a, B, b, c⟩ | h | h
  · exact .inl ⟨a, B, b.of (by rw [h1]) h2, c⟩
  · exact .inr (.inl h)
  · exact .inr (.inr h)
theorem size_eq {I : Mem} {i : Nat} {xs : List Int32} (h : SrcIs I i xs) (h2 : I 4 1 ≠ 2) : f_X6_size I = some (nI (i + xs.length), I) ∧ i + xs.length ≤ 40 ∧ I 4 4 = nI i := by
  unfold f_X6_size
  rcases h with ⟨a, B, b, c, d, f⟩ | ⟨a, m, m1, m2, m3, m4, m5⟩ | ⟨a, _⟩
  · rw [if_pos a, b.1, f]
    have hl : B.length ≤ 40 := b.2.1
    refine ⟨?_, ?_, d⟩
    · rw [show i + (B.drop i).length = B.length by rw [List.length_drop]; omega]
    · rw [List.length_drop]; omega
  · rw [if_neg (by rw [a]; decide), m2, m5, up_length, show i + (m - i) = m by omega]
    exact ⟨rfl, m1, m4⟩
  · exact absurd a h2
theorem hasMore_eq {I : Mem} {i : Nat} {xs : List Int32} (h : SrcIs I i xs) (hi : I 4 1 = 2 → i ≤ 600) : f_X6_hasMore I = some (!xs.isEmpty, I) ∧ (I 4 1 = 2 → xs ≠ []) := by
  unfold f_X6_hasMore
  by_cases c2 : I 4 1 = 2
  · rw [if_pos c2]
    rcases h with ⟨a, _⟩ | ⟨a, _⟩ | ⟨a, b, c⟩
    · rw [a] at c2; exact absurd c2 (by decide)
    · rw [a] at c2; exact absurd c2 (by decide)
    · obtain ⟨n, hn⟩ : ∃ n, 601 - i = n + 1 := ⟨600 - i, by have := hi c2; omega⟩
      rw [c, hn]
      exact ⟨rfl, fun _ q => by simp [orb] at q⟩
  · rw [if_neg c2]
    obtain ⟨s1, s2, s3⟩ := size_eq h c2
    rw [s1]
    simp only [Option.bind_some]
    rw [s3]
    refine ⟨?_, fun q => absurd q c2⟩
    cases xs with
    | nil => rw [if_pos (nI_le (by simp) (by omega))]; rfl
    | cons y ys => rw [if_neg (nI_ge (by simp) (by omega))]; rfl
theorem next_eq {I : Mem} {i : Nat} {x : Int32} {xs : List Int32} (h : SrcIs I i (x :: xs)) : ∃ J, f_X6_next I = some (x, J) ∧ SrcIs J (i + 1) xs ∧ (∀ c, c ≠ 4 → J c = I c) ∧ J 4 1 = I 4 1 := by
  unfold f_X6_next f_X6_next_J26
  rcases h with ⟨a, B, b, c, d, f⟩ | ⟨a, m, m1, m2, m3, m4, m5⟩ | ⟨a, b, c⟩
  · have hlt : i < B.length := by
      refine Nat.lt_of_not_le (fun q => ?_)
      rw [List.drop_eq_nil_of_le q] at f
      exact absurd f (by simp)
    have hl : B.length ≤ 40 := b.2.1
    rw [List.drop_eq_getElem_cons hlt] at f
    have fx : x = B.getD i 0 := by
      rw [(List.cons.inj f).1]; simp [List.getD_eq_getElem?_getD, hlt]
    rw [if_pos a, d, if_pos (inb_nI (show i < ln 2 by show i < 40; omega) (by decide)), nI_clamp (by omega), if_neg (by rw [a]; decide), b.2.2 i hlt, ← fx]
    refine ⟨_, rfl, .inl ⟨?_, B, ?_, by omega, ?_, (List.cons.inj f).2⟩, ?_, ?_⟩
    · simp [st_at, a]
    · exact b.of (by simp [st_at]) (by rw [st_ne (by decide), st_ne (by decide)])
    · simp [st_at, d, nI_1]
    · intro c q; rw [st_ne q, st_ne q]
    · simp [st_at]
  · obtain ⟨n, hn⟩ : ∃ n, m - i = n + 1 := by
      refine ⟨m - i - 1, ?_⟩
      cases hq : m - i with
      | zero => rw [hq] at m5; exact absurd m5 (by simp [up])
      | succ n => omega
    rw [hn] at m5
    have fx := List.cons.inj m5
    rw [if_neg (by rw [a]; decide), if_neg (by rw [a]; decide), ← fx.1]
    refine ⟨_, rfl, .inr (.inl ⟨?_, m, m1, ?_, by omega, ?_, ?_⟩), ?_, ?_⟩
    · simp [st_at, a]
    · simp [st_at, m2]
    · simp [st_at, m4, nI_1]
    · rw [show m - (i + 1) = n by omega, fx.2]
      simp [st_at]
      rw [fx.1]
    · intro c q; rw [st_ne q, st_ne q]
    · simp [st_at]
  · obtain ⟨n, hn⟩ : ∃ n, 601 - i = n + 1 := by
      refine ⟨601 - i - 1, ?_⟩
      cases hq : 601 - i with
      | zero => rw [hq] at c; exact absurd c (by simp [orb])
      | succ n => omega
    rw [hn] at c
    have fx := List.cons.inj c
    rw [if_neg (by rw [a]; decide), if_pos a, ← fx.1]
    refine ⟨_, rfl, .inr (.inr ⟨?_, by omega, ?_⟩), ?_, ?_⟩
    · simp [st_at, a]
    · rw [show 601 - (i + 1) = n by omega, fx.2]
      simp [st_at]
      rw [fx.1]
    · intro c q; rw [st_ne q, st_ne q]
    · simp [st_at]
theorem RC.src {Q : Mem} {e : Nat → Int32} {N G : Nat} {σ : Fs} {I J : Mem} (hG : Gok G) (h : RC Q e N G σ I) (h0 : ∀ c, c ≠ 4 → J c = I c) : RC Q e N G σ J := by
  obtain ⟨a, c, d, f, g, k⟩ := h
  have hl := hG.lt
  refine ⟨a, ?_, fun j hj => ?_, ?_, ?_, ?_⟩
  · rw [h0 3 (by omega)]; exact c
  · exact (d j hj).of (h0 _ (by omega)) (h0 _ (by omega)) (h0 _ (by omega))
  · exact f.of (h0 _ (by omega)) (h0 _ (by omega)) (h0 _ (by omega))
  · rw [h0 29 (by omega)]; exact g
  · rw [h0 29 (by omega)]; exact k
/-- as Fr, but the source may change -/
def Kc (G : Nat) (I J : Mem) : Prop := (∀ c, c < 4 ∨ c = 5 ∨ 30 ≤ c ∨ c = 52 - G ∨ c = 53 - G → J c = I c) ∧ J 24 1 = I 24 1 ∧ J 4 1 = I 4 1
theorem Kc.refl {G : Nat} {I : Mem} : Kc G I I := ⟨fun _ _ => rfl, rfl, rfl⟩
theorem Kc.trans {G : Nat} {I J K : Mem} (h : Kc G I J) (h2 : Kc G J K) : Kc G I K := ⟨fun c q => (h2.1 c q).trans (h.1 c q), h2.2.1.trans h.2.1, h2.2.2.trans h.2.2⟩
theorem Fr.kc {G : Nat} {I J : Mem} (h : Fr G I J) : Kc G I J := ⟨fun c q => h.1 c (by omega), h.2, by rw [h.1 4 (by omega)]⟩
theorem src_L {Q : Mem} {e : Nat → Int32} {N G : Nat} (hG : Gok G) (hQ : Qok Q N) : ∀ (n i : Nat) (xs : List Int32) (σ : Fs) (I : Mem), 602 < n + i → SrcIs I i xs → i ≤ σ.2.2.1 → FW e N (N + 1) σ → RC Q e N G σ I → (I 4 1 = 2 ∨ I 4 1 = 0 ∨ I 4 1 = 1) →
    ∃ J, f_X2_giveFromSource_L10 n I (nI i) = some J ∧ RC Q e N G (giveL (fun τ => wn Q τ.1 τ.2.1.2.2.1 N 0) (pushK Q e N 0) xs σ) J ∧ Kc G I J := by
  intro n
  induction n with
  | zero => intro i xs σ I h1 h2 h3 hw; have := hw.1; omega
  | succ n ih =>
    intro i xs σ I h1 h2 h3 hw h hkind
    have h600 := hw.1
    obtain ⟨m1, m2⟩ := hasMore_eq h2 (fun _ => by omega)
    unfold f_X2_giveFromSource_L10
    rw [show (600 : Int32) = nI 600 from rfl, if_neg (nI_nlt (by omega) (by omega)), m1]
    simp only [Option.bind_some, b2i_0]
    cases xs with
    | nil => exact ⟨I, rfl, h, Kc.refl⟩
    | cons x xs =>
      simp only [List.isEmpty_cons, Bool.not_false, Bool.true_eq_false, if_false]
      rcases give_case hG h hw N 0 (by omega) x xs with ⟨J, g1, g2, g3⟩ | ⟨J, g1, g2, g3, g4, g5, g6⟩
      · rw [e0, g1]
        exact ⟨J, rfl, g2, g3.kc⟩
      · rw [g6]
        obtain ⟨K, k1, k2, k3, k4⟩ := next_eq (h2.of (J := J) (g5 1 (by omega)) (g5 2 (by omega)) (g5 4 (by omega)))
        obtain ⟨M, n1, n2, n3⟩ := passOn_eq hG hQ N 0 (by omega) _ K x g4 (g2.src hG k3)
        rw [← e0] at g1 n1
        rw [g1]
        simp only [Option.bind_some, b2i_0, Bool.true_eq_false, if_false]
        rw [k1]
        simp only [Option.bind_some]
        rw [n1]
        simp only [Option.bind_some]
        rw [e1, nI_add]
        obtain ⟨w1, w2⟩ := push_W (Q := Q) N 0 (by omega) _ x g4
        have w3 : σ.2.2.1 + 1 ≤ _ := w2
        have q4 : M 4 = K 4 := n3.1 4 (by omega)
        obtain ⟨L, l1, l2, l3⟩ := ih (i + 1) xs _ M (by omega) (k2.of (n3.1 1 (by omega)) (n3.1 2 (by omega)) q4) (by omega) w1 n2 (by rw [q4, k4, g5 4 (by omega)]; exact hkind)
        refine ⟨L, l1, l2, g3.kc.trans (Kc.trans ⟨fun c q => k3 c ?_, ?_, k4⟩ (n3.kc.trans l3))⟩
        · have := hG.lt; omega
        · rw [k3 24 (by omega)]
theorem sorted_L {Q : Mem} {e : Nat → Int32} {N G k d : Nat} (hG : Gok G) (hQ : Qok Q N) (hk : k + 1 + d = N) (p0 : Int32) (H : List Int32) : ∀ (r i n : Nat), i + r = H.length → r < n → ∀ (σ : Fs) (I : Mem), (σ.1 k).2.2 = H → FW e N (N + 1) σ → RC Q e N G σ I →
    ∃ J, f_X2_giveSorted_L15 p0 n I (nI k) (6 + 3 * k + 1) (nI i) = some J ∧ RC Q e N G (giveL (fun τ => wn Q τ.1 τ.2.1.2.2.1 d (k + 1)) (pushK Q e d (k + 1)) (H.drop i) σ) J ∧ Fr G I J := by
  intro r
  induction r with
  | zero =>
    intro i n hi hn σ I hH hw h
    obtain ⟨n, rfl⟩ : ∃ m, n = m + 1 := ⟨n - 1, by omega⟩
    have hN := h.1
    have hr := (h.2.2.1 k (by omega)).2.2.2.2.2
    rw [hH] at hr
    have hl := hr.2.1
    rw [ln_st (by omega)] at hl
    unfold f_X2_giveSorted_L15
    rw [hr.1, if_pos (nI_le (by omega) (by omega)), List.drop_eq_nil_of_le (by omega)]
    exact ⟨I, rfl, h, Fr.refl⟩
  | succ r ih =>
    intro i n hi hn σ I hH hw h
    obtain ⟨n, rfl⟩ : ∃ m, n = m + 1 := ⟨n - 1, by omega⟩
    have hN := h.1
    have hr := (h.2.2.1 k (by omega)).2.2.2.2.2
    rw [hH] at hr
    have hl := hr.2.1
    rw [ln_st (by omega)] at hl
    unfold f_X2_giveSorted_L15
    rw [hr.1, if_neg (nI_ge (by omega) (by omega)), e1, nI_add, List.drop_eq_getElem_cons (show i < H.length by omega)]
    have hx : H[i]'(by omega) = H.getD i 0 := by simp [List.getD_eq_getElem?_getD, show i < H.length by omega]
    rw [hx]
    rcases give_case hG h hw d (k + 1) hk (H.getD i 0) (H.drop (i + 1)) with ⟨J, g1, g2, g3⟩ | ⟨J, g1, g2, g3, g4, g5, g6⟩
    · rw [g1]
      exact ⟨J, rfl, g2, g3⟩
    · rw [g1, g6]
      simp only [Option.bind_some, b2i_0, Bool.true_eq_false, if_false]
      rw [if_pos (inb_nI (by rw [ln_st (by omega)]; omega) (by rw [ln_st (by omega)]; decide)), nI_clamp (by omega), g5 (6 + 3 * k + 1 + 1) (by omega), hr.2.2 i (by omega)]
      obtain ⟨K, k1, k2, k3⟩ := passOn_eq hG hQ d (k + 1) hk _ J (H.getD i 0) g4 g2
      rw [k1]
      simp only [Option.bind_some]
      rw [nI_add]
      obtain ⟨M, m1, m2, m3⟩ := ih (i + 1) n (by omega) (by omega) _ K (by rw [push_low d (k + 1) (by omega)]; exact hH) (push_W d (k + 1) hk _ _ g4).1 k2
      exact ⟨M, m1, m2, g3.trans (k3.trans m3)⟩
theorem rel_L {Q : Mem} {e : Nat → Int32} {N G : Nat} (hG : Gok G) (hQ : Qok Q N) : ∀ (d k n : Nat), k + d = N → d < n → ∀ (σ : Fs) (I : Mem), FW e N (N + 1) σ → RC Q e N G σ I →
    ∃ J, f_X2_comesToEnd_L16 n I (nI k) = some (!(relK Q e d k σ).2.2.2, J) ∧ RC Q e N G (relK Q e d k σ) J ∧ Fr G I J ∧ FW e N (N + 1) (relK Q e d k σ) := by
  intro d
  induction d with
  | zero =>
    intro k n hk hn σ I hw h
    obtain ⟨n, rfl⟩ : ∃ m, n = m + 1 := ⟨n - 1, by omega⟩
    have hN := h.1
    unfold f_X2_comesToEnd_L16 relK
    rw [h.2.1, if_pos (nI_le (by omega) (by omega)), h.2.2.2.2.2]
    refine ⟨I, ?_, h, Fr.refl, hw⟩
    simp only [b2i_0]
    cases σ.2.2.2 <;> rfl
  | succ d ih =>
    intro k n hk hn σ I hw h
    obtain ⟨n, rfl⟩ : ∃ m, n = m + 1 := ⟨n - 1, by omega⟩
    have hN := h.1
    unfold f_X2_comesToEnd_L16 relK
    rw [h.2.1, if_neg (nI_ge (by omega) (by omega)), if_pos (inb_nI (show k < ln 5 by show k < 6; omega) (by decide)), nI_clamp (by omega), (h.2.2.1 k (by omega)).1]
    by_cases c1 : Q k 1 = 4
    · rw [if_pos c1, if_pos c1]
      have hl := (h.2.2.1 k (by omega)).2.2.2.2.2.2.1
      rw [ln_st (by omega)] at hl
      obtain ⟨J, g1, g2, g3⟩ := sorted_L hG hQ (show k + 1 + d = N by omega) (nI k) (σ.1 k).2.2 (σ.1 k).2.2.length 0 FU (by omega) (by rw [FU_eq]; omega) σ I rfl hw h
      rw [List.drop_zero] at g2
      unfold f_X2_giveSorted
      rw [if_pos (inb_nI (show k < ln 5 by show k < 6; omega) (by decide)), nI_clamp (by omega), e0, g1]
      simp only [Option.bind_some]
      rw [e1, nI_add]
      have hw2 := (giveL_W (w := fun τ => wn Q τ.1 τ.2.1.2.2.1 d (k + 1)) (t := k + 1) (fun τ y hτ => push_W (Q := Q) (e := e) d (k + 1) (by omega) τ y hτ) (σ.1 k).2.2 σ hw).1
      obtain ⟨K, k1, k2, k3, k4⟩ := ih (k + 1) n (by omega) (by omega) _ J hw2 g2
      exact ⟨K, k1, k2, g3.trans k3, k4⟩
    · rw [if_neg c1, if_neg c1, e1, nI_add]
      exact ih (k + 1) n (by omega) (by omega) σ I hw h
def flowS (Q : Mem) (e : Nat → Int32) (N : Nat) (xs : List Int32) (σ : Fs) : Fs := relK Q e N 0 (giveL (fun τ => wn Q τ.1 τ.2.1.2.2.1 N 0) (pushK Q e N 0) xs σ)
theorem cflow_eq {Q : Mem} {e : Nat → Int32} {N G : Nat} (hG : Gok G) (hQ : Qok Q N) {xs : List Int32} {σ : Fs} {I : Mem} (hs : SrcIs I 0 xs) (hkind : I 4 1 = 2 ∨ I 4 1 = 0 ∨ I 4 1 = 1) (hw : FW e N (N + 1) (σ.1, σ.2.1, 0, false)) (h : RC Q e N G (σ.1, σ.2.1, 0, false) (st (st I 29 2 0) 29 3 0)) :
    ∃ J, f_X2_comesToEnd I = some (!(flowS Q e N xs (σ.1, σ.2.1, 0, false)).2.2.2, J) ∧ RC Q e N G (flowS Q e N xs (σ.1, σ.2.1, 0, false)) J ∧ Kc G I J ∧ FW e N (N + 1) (flowS Q e N xs (σ.1, σ.2.1, 0, false)) := by
  have hq : ∀ c, c ≠ 29 → (st (st I 29 2 0) 29 3 0) c = I c := fun c q => by rw [st_ne q, st_ne q]
  obtain ⟨J, g1, g2, g3⟩ := src_L hG hQ FU 0 xs _ _ (by rw [FU_eq]; omega) (hs.of (hq 1 (by omega)) (hq 2 (by omega)) (hq 4 (by omega))) (Nat.zero_le _) hw h (by rw [hq 4 (by omega)]; exact hkind)
  have hw2 := (giveL_W (w := fun τ => wn Q τ.1 τ.2.1.2.2.1 N 0) (t := 0) (fun τ y hτ => push_W (Q := Q) (e := e) N 0 (by omega) τ y hτ) xs _ hw).1
  have hN := h.1
  obtain ⟨K, k1, k2, k3, k4⟩ := rel_L hG hQ N 0 FU (by omega) (by rw [FU_eq]; omega) _ J hw2 g2
  refine ⟨K, ?_, k2, Kc.trans ⟨fun c q => hq c ?_, by rw [hq 24 (by omega)], by rw [hq 4 (by omega)]⟩ (g3.trans k3.kc), k4⟩
  · unfold f_X2_comesToEnd f_X2_giveFromSource
    rw [e0] at g1 ⊢
    rw [g1]
    simp only [Option.bind_some]
    exact k1
  · have := hG.lt; omega
