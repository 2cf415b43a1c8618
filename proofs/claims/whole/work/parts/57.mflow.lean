/-! the reference's givers -/
def FrIs (I : Mem) (g t : Nat) (xs : List Int32) (n : Nat) : Prop :=
  (t = 0 ∧ I 54 g = -1 ∧ I 45 5 = 1 ∧ I 56 g = nI xs.length ∧ xs.length ≤ 600 ∧ xs = up (I 55 g) xs.length) ∨
  (t = 0 ∧ I 54 g = -1 ∧ I 45 5 = 0 ∧ I 56 g = nI xs.length ∧ ∃ i, I 55 g = nI i ∧ i + xs.length ≤ 40 ∧ ∀ j, j < xs.length → I 46 (i + j) = xs.getD j 0) ∨
  (t = 0 ∧ I 54 g = -1 ∧ I 45 5 = 2 ∧ I 56 g = -1 ∧ xs = orb (I 45 7) (I 45 8) (I 55 g) xs.length ∧ 601 ≤ xs.length + n) ∨
  (∃ k, t = k + 1 ∧ k < 6 ∧ I 54 g = nI k ∧ I 47 k = 2 ∧ I 56 g = nI xs.length ∧ xs.length ≤ 600 ∧ xs = up (I 55 g) xs.length) ∨
  (∃ k, t = k + 1 ∧ k < 6 ∧ I 54 g = nI k ∧ I 47 k = 4 ∧ I 56 g = nI xs.length ∧ ∃ i, I 55 g = nI i ∧ i + xs.length ≤ 600 ∧ ∀ j, j < xs.length → I 53 (600 * k + (i + j)) = xs.getD j 0)
theorem FrIs.of {I J : Mem} {g t n m : Nat} {xs : List Int32} (h : FrIs I g t xs n) (hn : n ≤ m) (h5 : J 45 5 = I 45 5) (h7 : J 45 7 = I 45 7) (h8 : J 45 8 = I 45 8) (h46 : J 46 = I 46) (h47 : J 47 = I 47) (h53 : ∀ i, i < 600 * t → J 53 i = I 53 i) (hg : J 54 g = I 54 g ∧ J 55 g = I 55 g ∧ J 56 g = I 56 g) : FrIs J g t xs m := by
  obtain ⟨g1, g2, g3⟩ := hg
  unfold FrIs
  rw [h5, h7, h8, h46, h47, g1, g2, g3]
  rcases h with h | h | ⟨a, b, c, d, e, f⟩ | h | ⟨k, a, b, c, d, e, i, f1, f2, f3⟩
  · exact .inl h
  · exact .inr (.inl h)
  · exact .inr (.inr (.inl ⟨a, b, c, d, e, by omega⟩))
  · exact .inr (.inr (.inr (.inl h)))
  · exact .inr (.inr (.inr (.inr ⟨k, a, b, c, d, e, i, f1, f2, fun j hj => by rw [h53 _ (by omega)]; exact f3 j hj⟩)))
theorem FrIs.mf {I J : Mem} {g t n m t2 g2 : Nat} {xs : List Int32} (h : FrIs I g t xs n) (hn : n ≤ m) (hm : MF I J t2 g2) (ht : t ≤ t2) (hg : g < g2) : FrIs J g t xs m :=
  h.of hn (hm.2.1 5 (by decide) (by decide) (by decide) (by decide) (by decide) (by decide)) (hm.2.1 7 (by decide) (by decide) (by decide) (by decide) (by decide) (by decide)) (hm.2.1 8 (by decide) (by decide) (by decide) (by decide) (by decide) (by decide)) (hm.1 46 (by omega)) (hm.1 47 (by omega)) (fun i q => hm.2.2.1 i (by omega)) (hm.2.2.2 g hg)
theorem FrIs.next {I : Mem} {g t n : Nat} {xs : List Int32} (h : FrIs I g t xs n) : I 54 g + 1 = nI t := by
  rcases h with ⟨a, b, _⟩ | ⟨a, b, _⟩ | ⟨a, b, _⟩ | ⟨k, a, _, b, _⟩ | ⟨k, a, _, b, _⟩
  · rw [a, b]; rfl
  · rw [a, b]; rfl
  · rw [a, b]; rfl
  · rw [a, b, nI_1]
  · rw [a, b, nI_1]
theorem FrIs.left {I : Mem} {g t n : Nat} {xs : List Int32} (h : FrIs I g t xs n) (hn : n ≤ 600) : (I 56 g = 0) ↔ xs = [] := by
  have key : ∀ m, m ≤ 600 → (nI m = 0 ↔ m = 0) := fun m hm => ⟨fun q => (nI_eq (by omega) (by omega)).mp (q.trans e0), fun q => by rw [q]; rfl⟩
  rcases h with ⟨_, _, _, a, b, _⟩ | ⟨_, _, _, a, i, _, b, _⟩ | ⟨_, _, _, a, _, b⟩ | ⟨k, _, _, _, _, a, b, _⟩ | ⟨k, _, _, _, _, a, i, _, b, _⟩
  · rw [a, key _ b]; exact List.length_eq_zero_iff
  · rw [a, key _ (by omega)]; exact List.length_eq_zero_iff
  · rw [a]
    refine ⟨fun q => absurd q (by decide), fun q => ?_⟩
    rw [q] at b
    simp at b
    omega
  · rw [a, key _ b]; exact List.length_eq_zero_iff
  · rw [a, key _ (by omega)]; exact List.length_eq_zero_iff
theorem lt0 : (-1 : Int32) < 0 := by decide
theorem nle0 : ¬ (0 : Int32) ≤ -1 := by decide
theorem gives_eq {I : Mem} {g t n : Nat} {x : Int32} {xs : List Int32} (hg : g < 8) (h : FrIs I g t (x :: xs) n) : ∃ J, f_X10_gives I (nI g) = some (x, J) ∧ FrIs J g t xs (n + 1) ∧ (∀ c, c ≠ 55 → c ≠ 56 → J c = I c) ∧ (∀ j, j ≠ g → J 55 j = I 55 j ∧ J 56 j = I 56 j) := by
  have i54 : inb (nI g) (ln 54) = true := inb_nI (show g < ln 54 from hg) (by decide)
  have i55 : inb (nI g) (ln 55) = true := inb_nI (show g < ln 55 from hg) (by decide)
  have i56 : inb (nI g) (ln 56) = true := inb_nI (show g < ln 56 from hg) (by decide)
  have hg31 : (nI g).toNatClampNeg = g := nI_clamp (by omega)
  have fr : ∀ (l v : Int32), (∀ c, c ≠ 55 → c ≠ 56 → (st (st I 56 g l) 55 g v) c = I c) ∧ (∀ j, j ≠ g → (st (st I 56 g l) 55 g v) 55 j = I 55 j ∧ (st (st I 56 g l) 55 g v) 56 j = I 56 j) ∧ (st (st I 56 g l) 55 g v) 55 g = v ∧ (st (st I 56 g l) 55 g v) 56 g = l := by
    intro l v
    refine ⟨fun c a b => by rw [st_ne a, st_ne b], fun j q => ⟨by rw [st_k q, st_ne (by decide)], by rw [st_ne (by decide), st_k q]⟩, st_s, by rw [st_ne (by decide), st_s]⟩
  have hlen : (x :: xs).length = xs.length + 1 := rfl
  unfold f_X10_gives f_X10_gives_J28 f_X10_gives_J39 f_X10_gives_J43 f_X10_gives_J44 f_X10_gives_J67 f_X10_gives_J111 f_X10_gives_J114
  simp only [i54, i55, i56, hg31, if_true, st_ne (show (45 : Nat) ≠ 56 by decide), st_ne (show (45 : Nat) ≠ 55 by decide), st_ne (show (53 : Nat) ≠ 56 by decide), st_ne (show (53 : Nat) ≠ 55 by decide), st_ne (show (46 : Nat) ≠ 56 by decide), st_ne (show (46 : Nat) ≠ 55 by decide)]
  rcases h with ⟨a, b, c, d, f, e⟩ | ⟨a, b, c, d, i, f1, f2, f3⟩ | ⟨a, b, c, d, e, f⟩ | ⟨k, a, k6, b, c, d, f, e⟩ | ⟨k, a, k6, b, c, d, i, f1, f2, f3⟩
  · rw [hlen] at d e f
    have fx := List.cons.inj e
    obtain ⟨q1, q2, q3, q4⟩ := fr (nI xs.length) (x + 1)
    refine ⟨st (st I 56 g (nI xs.length)) 55 g (x + 1), ?_, .inl ⟨a, ?_, ?_, ?_, by omega, ?_⟩, q1, q2⟩
    · simp only [b, lt0, nle0, c, d, show ¬ (1 : Int32) = 0 by decide, show ¬ (1 : Int32) = 2 by decide, if_true, if_false, if_neg (nI_nle (show 0 < xs.length + 1 by omega) (by omega)), nI_pred, ← fx.1]
    · rw [q1 54 (by decide) (by decide)]; exact b
    · rw [q1 45 (by decide) (by decide)]; exact c
    · rw [q4]
    · rw [q3]; rw [← fx.1] at fx; exact fx.2
  · rw [hlen] at d f2 f3
    have fx : I 46 i = x := f3 0 (by omega)
    obtain ⟨q1, q2, q3, q4⟩ := fr (nI xs.length) (nI (i + 1))
    refine ⟨st (st I 56 g (nI xs.length)) 55 g (nI (i + 1)), ?_, .inr (.inl ⟨a, ?_, ?_, ?_, i + 1, q3, by omega, fun j hj => ?_⟩), q1, q2⟩
    · simp only [b, lt0, nle0, c, d, f1, show ¬ (1 : Int32) = 0 by decide, if_true, if_false, if_neg (nI_nle (show 0 < xs.length + 1 by omega) (by omega)), nI_pred, nI_1, if_pos (inb_nI (show i < ln 46 by show i < 40; omega) (by decide)), nI_clamp (show i < 2 ^ 31 by omega), fx]
    · rw [q1 54 (by decide) (by decide)]; exact b
    · rw [q1 45 (by decide) (by decide)]; exact c
    · rw [q4]
    · rw [q1 46 (by decide) (by decide), show i + 1 + j = i + (j + 1) by omega, f3 (j + 1) (by omega)]
      rfl
  · rw [hlen] at e f
    have fx := List.cons.inj e
    obtain ⟨q1, q2, q3, q4⟩ := fr (-1) (x * I 45 7 + I 45 8)
    refine ⟨st (st I 56 g (-1)) 55 g (x * I 45 7 + I 45 8), ?_, .inr (.inr (.inl ⟨a, ?_, ?_, ?_, ?_, by omega⟩)), q1, q2⟩
    · simp only [b, lt0, nle0, c, d, show ¬ (2 : Int32) = 0 by decide, show (-1 : Int32) ≤ 0 by decide, show (-1 : Int32) - 0 = -1 by decide, if_true, if_false, ← fx.1]
    · rw [q1 54 (by decide) (by decide)]; exact b
    · rw [q1 45 (by decide) (by decide)]; exact c
    · rw [q4]
    · rw [q3, q1 45 (by decide) (by decide)]; rw [← fx.1] at fx; exact fx.2
  · rw [hlen] at d e f
    have fx := List.cons.inj e
    obtain ⟨q1, q2, q3, q4⟩ := fr (nI xs.length) (x + 1)
    have i47 : inb (nI k) (ln 47) = true := inb_nI (show k < ln 47 from k6) (by decide)
    refine ⟨st (st I 56 g (nI xs.length)) 55 g (x + 1), ?_, .inr (.inr (.inr (.inl ⟨k, a, k6, ?_, ?_, ?_, by omega, ?_⟩))), q1, q2⟩
    · simp only [b, nI_pos (show k < 2 ^ 31 by omega), nI_pos' (show k < 2 ^ 31 by omega), i47, nI_clamp (show k < 2 ^ 31 by omega), c, d, show ¬ (2 : Int32) = 4 by decide, if_true, if_false, if_neg (nI_nle (show 0 < xs.length + 1 by omega) (by omega)), nI_pred, ← fx.1]
    · rw [q1 54 (by decide) (by decide)]; exact b
    · rw [q1 47 (by decide) (by decide)]; exact c
    · rw [q4]
    · rw [q3]; rw [← fx.1] at fx; exact fx.2
  · rw [hlen] at d f2 f3
    have fx : I 53 (600 * k + i) = x := f3 0 (by omega)
    obtain ⟨q1, q2, q3, q4⟩ := fr (nI xs.length) (nI (i + 1))
    have i47 : inb (nI k) (ln 47) = true := inb_nI (show k < ln 47 from k6) (by decide)
    refine ⟨st (st I 56 g (nI xs.length)) 55 g (nI (i + 1)), ?_, .inr (.inr (.inr (.inr ⟨k, a, k6, ?_, ?_, ?_, i + 1, q3, by omega, fun j hj => ?_⟩))), q1, q2⟩
    · simp only [b, nI_pos (show k < 2 ^ 31 by omega), nI_pos' (show k < 2 ^ 31 by omega), i47, nI_clamp (show k < 2 ^ 31 by omega), c, d, f1, show ¬ (1 : Int32) = 0 by decide, if_true, if_false, if_neg (nI_nle (show 0 < xs.length + 1 by omega) (by omega)), nI_pred, nI_1, i600, if_pos (inb_nI (show 600 * k + i < ln 53 by show _ < 3600; omega) (by decide)), nI_clamp (show 600 * k + i < 2 ^ 31 by omega), fx]
    · rw [q1 54 (by decide) (by decide)]; exact b
    · rw [q1 47 (by decide) (by decide)]; exact c
    · rw [q4]
    · rw [q1 53 (by decide) (by decide), show i + 1 + j = i + (j + 1) by omega, f3 (j + 1) (by omega)]
      rfl
theorem L57_step {I M : Mem} {d n : Nat} {x1 : Int32} (hd : d < 8) (h22 : I 45 22 = b2i false) (h17 : I 45 17 = nI (d + 1)) (hg : f_X10_giveOne I = some M) : f_X10_flow_L57 (n + 1) I x1 = f_X10_flow_L57 n M x1 := by
  show (if (I 45 22) = 0 then (if 0 < (I 45 17) then (f_X10_flow_J79 (f_X10_flow_L57 n) I x1) else (if (I 45 9) ≤ x1 then (some I) else (f_X10_flow_J79 (f_X10_flow_L57 n) I x1))) else (some I)) = _
  rw [h22, if_pos (show b2i false = 0 from rfl), h17, if_pos (by rw [e0]; exact nI_lt (by omega) (by omega))]
  unfold f_X10_flow_J79
  rw [h17, if_neg (nI_nle (by omega) (by omega)), hg]
  rfl
theorem L57_spent {I : Mem} {n : Nat} {x1 : Int32} (h22 : I 45 22 = b2i true) : f_X10_flow_L57 (n + 1) I x1 = some I := by
  show (if (I 45 22) = 0 then _ else (some I)) = _
  rw [h22, if_neg (by decide)]
theorem giveOne_pop {I : Mem} {d : Nat} (hd : d < 8) (h17 : I 45 17 = nI (d + 1)) (h : I 56 d = 0 ∨ f_X10_wants I (I 54 d + 1) = some (false, I)) : f_X10_giveOne I = some (st I 45 17 (nI d)) := by
  unfold f_X10_giveOne
  simp only [h17, nI_pred, nI_clamp (show d < 2 ^ 31 by omega), if_pos (inb_nI (show d < ln 54 from hd) (by decide)), if_pos (inb_nI (show d < ln 56 from hd) (by decide))]
  rcases h with h | h
  · rw [if_pos h]
  · by_cases z : I 56 d = 0
    · rw [if_pos z]
    · rw [if_neg z, h]
      simp only [Option.bind_some, b2i_0, if_true, h17, nI_pred]
set_option maxHeartbeats 1000000 in
theorem run_frame {Q : Mem} {e : Nat → Int32} {N : Nat} {tr : Nat → Bool} (hQ : Qok Q N) : ∀ (D t : Nat), t + D = N → (∀ j, t ≤ j → tr j = false) → ∀ (xs : List Int32) (σ : Fs) (I : Mem) (d : Nat), d ≤ t → I 45 17 = nI (d + 1) → FrIs I d t xs σ.2.2.1 → RM Q e N tr σ I → FW e N (N + 1) σ → σ.2.2.2 = false →
    ∃ J m, m ≤ 2 * ((giveL (fun τ => wn Q τ.1 τ.2.1.2.2.1 D t) (pushK Q e D t) xs σ).2.2.1 - σ.2.2.1) + 1 ∧ RM Q e N tr (giveL (fun τ => wn Q τ.1 τ.2.1.2.2.1 D t) (pushK Q e D t) xs σ) J ∧ MF I J t d ∧ (∀ n x1, f_X10_flow_L57 (n + m) I x1 = f_X10_flow_L57 n J x1) ∧ ((giveL (fun τ => wn Q τ.1 τ.2.1.2.2.1 D t) (pushK Q e D t) xs σ).2.2.2 = false → J 45 17 = nI d) := by
  intro D
  induction D using Nat.strongRecOn with
  | ind D IH =>
  intro t htD htr xs
  induction xs with
  | nil =>
    intro σ I d hd h17 hf h hw hsp
    have hN := h.1
    have h22 := h.2.2.2.2.2
    rw [hsp] at h22
    have hpop := giveOne_pop (by omega) h17 (.inl ((hf.left hw.1).mpr rfl))
    refine ⟨st I 45 17 (nI d), 1, by omega, ?_, ?_, fun n x1 => L57_step (by omega) h22 h17 hpop, fun _ => st_s⟩
    · exact h.nums (fun c q _ _ _ => st_ne q) (fun b q _ _ => st_k q) (by rw [st_k (by decide)]; exact h.2.2.2.2.1) (by rw [st_k (by decide)]; exact h.2.2.2.2.2)
    · exact ⟨fun c q => st_ne (by omega), fun b q _ _ _ _ _ => st_k q, fun i _ => by rw [st_ne (by decide)], fun j _ => ⟨by rw [st_ne (by decide)], by rw [st_ne (by decide)], by rw [st_ne (by decide)]⟩⟩
  | cons x xs ih =>
    intro σ I d hd h17 hf h hw hsp
    have hN := h.1
    have h22 := h.2.2.2.2.2
    rw [hsp] at h22
    have h600 := hw.1
    have hne : ¬ I 56 d = 0 := fun q => by have := (hf.left hw.1).mp q; simp at this
    have hwants : f_X10_wants I (I 54 d + 1) = some (wn Q σ.1 σ.2.1.2.2.1 D t, I) := by
      rw [hf.next]
      exact wantsM_L (nI t) hN h.2.1 h.2.2.2.1.2.2.2.2.2.1 h.2.2.1 D t FU htD (by rw [FU_eq]; omega) htr
    rw [giveL_cons]
    simp only [hsp, Bool.false_eq_true, if_false]
    by_cases c2 : wn Q σ.1 σ.2.1.2.2.1 D t = true
    · rw [if_pos c2]
      rw [c2] at hwants
      by_cases c3 : σ.2.2.1 = 600
      · rw [if_pos c3]
        have hgo : f_X10_giveOne I = some (st I 45 22 1) := by
          unfold f_X10_giveOne
          simp only [h17, nI_pred, nI_clamp (show d < 2 ^ 31 by omega), if_pos (inb_nI (show d < ln 54 by show d < 8; omega) (by decide)), if_pos (inb_nI (show d < ln 56 by show d < 8; omega) (by decide)), if_neg hne, hwants, Option.bind_some, b2i_0, Bool.true_eq_false, if_false, h.2.2.2.2.1, c3]
          rfl
        refine ⟨st I 45 22 1, 1, by simp, ?_, ?_, fun n x1 => L57_step (by omega) h22 h17 hgo, fun q => absurd q (by simp)⟩
        · exact h.nums (fun c q _ _ _ => st_ne q) (fun b _ _ q => st_k q) (by rw [st_k (by decide)]; exact h.2.2.2.2.1) (by rw [st_s]; rfl)
        · exact ⟨fun c q => st_ne (by omega), fun b _ _ q _ _ _ => st_k q, fun i _ => by rw [st_ne (by decide)], fun j _ => ⟨by rw [st_ne (by decide)], by rw [st_ne (by decide)], by rw [st_ne (by decide)]⟩⟩
      · rw [if_neg c3]
        have hstep : FW e N t (σ.1, σ.2.1, σ.2.2.1 + 1, false) := by
          have := hw.step (t := t) c3
          rw [hsp] at this
          exact this
        generalize hM0 : st I 45 21 (nI (σ.2.2.1 + 1)) = M0
        have m0o : ∀ c, c ≠ 45 → M0 c = I c := fun c q => by rw [← hM0, st_ne q]
        have m0b : ∀ b, b ≠ 21 → M0 45 b = I 45 b := fun b q => by rw [← hM0, st_k q]
        have hf0 : FrIs M0 d t (x :: xs) (σ.2.2.1 + 1 - 1) := hf.of (by omega) (m0b 5 (by decide)) (m0b 7 (by decide)) (m0b 8 (by decide)) (m0o 46 (by decide)) (m0o 47 (by decide)) (fun i _ => by rw [m0o 53 (by decide)]) ⟨by rw [m0o 54 (by decide)], by rw [m0o 55 (by decide)], by rw [m0o 56 (by decide)]⟩
        obtain ⟨M1, g1, g2, g3, g4⟩ := gives_eq (by omega) hf0
        have hRM1 : RM Q e N tr (σ.1, σ.2.1, σ.2.2.1 + 1, false) M1 := by
          refine h.nums (fun c q q1 q2 q3 => by rw [g3 c q2 q3, m0o c q]) (fun b _ q _ => by rw [g3 45 (by decide) (by decide), m0b b q]) ?_ ?_
          · rw [g3 45 (by decide) (by decide), ← hM0, st_s]
          · rw [g3 45 (by decide) (by decide), m0b 22 (by decide)]; exact h22
        have h171 : M1 45 17 = nI (d + 1) := by rw [g3 45 (by decide) (by decide), m0b 17 (by decide)]; exact h17
        have hMF1 : MF I M1 t d := ⟨fun c q => by rw [g3 c (by omega) (by omega), m0o c (by omega)], fun b _ q _ _ _ _ => by rw [g3 45 (by decide) (by decide), m0b b q], fun i _ => by rw [g3 53 (by decide) (by decide), m0o 53 (by decide)], fun j q => ⟨by rw [g3 54 (by decide) (by decide), m0o 54 (by decide)], by rw [(g4 j (by omega)).1, m0o 55 (by decide)], by rw [(g4 j (by omega)).2, m0o 56 (by decide)]⟩⟩
        obtain ⟨M2, k1, k2, k3, k4⟩ := goes_L (nI t) x (show d + 1 < 8 by omega) D t FU htD (by rw [FU_eq]; omega) _ M1 x hstep hRM1 h171
        have hgo : f_X10_giveOne I = some M2 := by
          unfold f_X10_giveOne
          have q600 : ¬ nI σ.2.2.1 = 600 := fun q => c3 ((nI_eq (by omega) (by omega)).mp (q.trans (show (600 : Int32) = nI 600 from rfl)))
          have hw2 := hwants
          rw [hf.next] at hw2
          simp only [h17, nI_pred, nI_clamp (show d < 2 ^ 31 by omega), if_pos (inb_nI (show d < ln 54 by show d < 8; omega) (by decide)), if_pos (inb_nI (show d < ln 56 by show d < 8; omega) (by decide)), if_neg hne, hf.next, hw2, Option.bind_some, b2i_0, Bool.true_eq_false, if_false, h.2.2.2.2.1, if_neg q600, nI_1, hM0, g1]
          unfold f_X10_goesOn
          rw [k1]
          rfl
        obtain ⟨w1, w2⟩ := pushF_W (Q := Q) D t htD _ x hstep
        have hfr2 : FrIs M2 d t xs (σ.2.2.1 + 1) := g2.mf (by omega) k3 (Nat.le_refl _) (by omega)
        rcases pushF_eq (Q := Q) (e := e) (N := N) D t htD (σ.1, σ.2.1, σ.2.2.1 + 1, false) x with ⟨p1, p2⟩ | ⟨j, y, p1, p2, p3, p4, p5⟩
        · rw [p2]
          rcases k4 with ⟨_, q2⟩ | ⟨j, y, q1, _⟩
          · have hs2 : (pushF Q e D t (σ.1, σ.2.1, σ.2.2.1 + 1, false) x).1.2.2.1 = σ.2.2.1 + 1 := by rw [w2]
            obtain ⟨J, m, r1, r2, r3, r4, r5⟩ := ih _ M2 d hd q2 (by rw [hs2]; exact hfr2) k2 w1 (by rw [w2])
            have hmono := (giveL_W (w := fun τ => wn Q τ.1 τ.2.1.2.2.1 D t) (t := t) (fun τ y hτ => push_W (Q := Q) (e := e) D t htD τ y hτ) xs _ w1).2
            rw [hs2] at r1 hmono
            refine ⟨J, m + 1, by omega, r2, hMF1.trans ((k3.mono (Nat.le_refl _) (by omega)).trans r3), fun n x1 => ?_, r5⟩
            rw [← Nat.add_assoc, L57_step (by omega) h22 h17 hgo, r4]
          · rw [p1] at q1; exact absurd q1 (by simp)
        · rw [p5]
          rcases k4 with ⟨q1, _⟩ | ⟨j', y', q1, q2, q3, q4, q5⟩
          · rw [p1] at q1; exact absurd q1 (by simp)
          · rw [p1] at q1
            have qq := Prod.mk.inj (Option.some.inj q1)
            obtain ⟨qj, qy⟩ := qq
            subst qj
            subst qy
            obtain ⟨mm, hm1, hm2⟩ := hQ j p3 p4
            have hs2 : (pushF Q e D t (σ.1, σ.2.1, σ.2.2.1 + 1, false) x).1.2.2.1 = σ.2.2.1 + 1 := by rw [w2]
            have hsp2 : (pushF Q e D t (σ.1, σ.2.1, σ.2.2.1 + 1, false) x).1.2.2.2 = false := by rw [w2]
            generalize hσ1 : (pushF Q e D t (σ.1, σ.2.1, σ.2.2.1 + 1, false) x).1 = σ1 at *
            have hup : (up y (Q j 3).toNatClampNeg).length = mm := by rw [up_length, hm2, nI_clamp (by omega)]
            have hnew : FrIs M2 (d + 1) (j + 1) (up y (Q j 3).toNatClampNeg) σ1.2.2.1 := by
              refine .inr (.inr (.inr (.inl ⟨j, rfl, by omega, q3, ?_, ?_, ?_, ?_⟩)))
              · rw [(k2.2.2.1 j p3).1]; exact p4
              · rw [q5, hup, hm2]
              · rw [hup]; omega
              · rw [q4, hup, hm2, nI_clamp (by omega)]
            obtain ⟨J1, m1, a1, a2, a3, a4, a5⟩ := IH (N - (j + 1)) (by omega) (j + 1) (by omega) (fun i hi => htr i (by omega)) (up y (Q j 3).toNatClampNeg) σ1 M2 (d + 1) (by omega) q2 hnew k2 w1 hsp2
            have hW2 := giveL_W (w := fun τ => wn Q τ.1 τ.2.1.2.2.1 (N - (j + 1)) (j + 1)) (t := j + 1) (fun τ y hτ => push_W (Q := Q) (e := e) (N - (j + 1)) (j + 1) (by omega) τ y hτ) (up y (Q j 3).toNatClampNeg) σ1 w1
            generalize hσ2 : giveL (fun τ => wn Q τ.1 τ.2.1.2.2.1 (N - (j + 1)) (j + 1)) (pushK Q e (N - (j + 1)) (j + 1)) (up y (Q j 3).toNatClampNeg) σ1 = σ2 at *
            have hMF2 : MF I J1 t d := hMF1.trans ((k3.mono (Nat.le_refl _) (by omega)).trans (a3.mono (by omega) (by omega)))
            have hmono2 := hW2.2
            rw [hs2] at a1 hmono2
            cases hs3 : σ2.2.2.2 with
            | true =>
              have hstay : giveL (fun τ => wn Q τ.1 τ.2.1.2.2.1 D t) (pushK Q e D t) xs σ2 = σ2 := by
                cases xs with
                | nil => rfl
                | cons z zs => rw [giveL_cons, if_pos hs3]
              rw [hstay]
              refine ⟨J1, m1 + 1, by omega, a2, hMF2, fun n x1 => ?_, fun q => absurd (hs3.symm.trans q) (by decide)⟩
              rw [← Nat.add_assoc, L57_step (by omega) h22 h17 hgo, a4]
            | false =>
              have hfr3 : FrIs J1 d t xs σ2.2.2.1 := hfr2.mf hmono2 a3 (by omega) (by omega)
              obtain ⟨J, m, r1, r2, r3, r4, r5⟩ := ih σ2 J1 d hd (a5 hs3) hfr3 a2 hW2.1 hs3
              have hmono := (giveL_W (w := fun τ => wn Q τ.1 τ.2.1.2.2.1 D t) (t := t) (fun τ y hτ => push_W (Q := Q) (e := e) D t htD τ y hτ) xs _ hW2.1).2
              refine ⟨J, m + m1 + 1, by omega, r2, hMF2.trans r3, fun n x1 => ?_, r5⟩
              rw [show n + (m + m1 + 1) = n + m + m1 + 1 by omega, L57_step (by omega) h22 h17 hgo, a4, r4]
    · rw [if_neg c2]
      have c2f : wn Q σ.1 σ.2.1.2.2.1 D t = false := by simpa using c2
      rw [c2f] at hwants
      have hpop := giveOne_pop (by omega) h17 (.inr hwants)
      refine ⟨st I 45 17 (nI d), 1, by omega, ?_, ?_, fun n x1 => L57_step (by omega) h22 h17 hpop, fun _ => st_s⟩
      · exact h.nums (fun c q _ _ _ => st_ne q) (fun b q _ _ => st_k q) (by rw [st_k (by decide)]; exact h.2.2.2.2.1) (by rw [st_k (by decide)]; exact h.2.2.2.2.2)
      · exact ⟨fun c q => st_ne (by omega), fun b q _ _ _ _ _ => st_k q, fun i _ => by rw [st_ne (by decide)], fun j _ => ⟨by rw [st_ne (by decide)], by rw [st_ne (by decide)], by rw [st_ne (by decide)]⟩⟩
