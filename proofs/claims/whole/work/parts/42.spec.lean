/-! what the document asks, as functions: tests, changes, a stage, an end, a run -/
def pas (x a n : Int32) : Bool := if a = 0 then decide (x = n) else if a = 1 then !decide (x = n) else if a = 2 then !decide (n ≤ x) else if a = 3 then !decide (x ≤ n) else if n = 0 then decide (x = 0) else decide (x - x / n * n = 0)
def mp (x a n : Int32) : Int32 := if a = 0 then x + n else if a = 1 then x * n else if a = 2 then n - x else if n = 0 then 0 else x - x / n * n
/-- a stage: how many came, whether one failed, what it holds in order -/
abbrev Sg : Type := Nat × Bool × List Int32
/-- the end: taken, value, decided, gathered -/
abbrev Es : Type := Nat × Int32 × Bool × List Int32
/-- stages, end, steps, spent -/
abbrev Fs : Type := (Nat → Sg) × Es × Nat × Bool
def lets1 (o a n : Int32) (s : Sg) (x : Int32) : Bool × Sg :=
  if o = 1 then (pas x a n, s)
  else if o = 3 then (if x ∈ s.2.2 then (false, s) else (true, (s.1, s.2.1, ins s.2.2 x)))
  else if o = 4 then (false, (s.1, s.2.1, ins s.2.2 x))
  else if o = 5 then (!decide (n < nI s.1), s)
  else if o = 6 then (!decide (nI s.1 ≤ n), s)
  else if o = 8 then (!(s.2.1 || !pas x a n), (s.1, s.2.1 || !pas x a n, s.2.2))
  else if o = 9 then (s.2.1 || !pas x a n, (s.1, s.2.1 || !pas x a n, s.2.2))
  else (true, s)
def chg (o a n x : Int32) : Int32 := if o = 0 then mp x a n else x
def clo (o n : Int32) (s : Sg) : Bool := if o = 5 then decide (n ≤ nI s.1) else if o = 8 then s.2.1 else false
def fold1 (a v x : Int32) : Int32 := if a = 0 then v + x else if a = 1 then v * x else v * 31 + x
def fm (x n : Int32) : Nat := (x.toInt % n.toInt).toNat
def take1 (k a n : Int32) (s : Es) (x : Int32) : Es :=
  if k = 1 then (s.1 + 1, s.2.1 + x, s.2.2)
  else if k = 2 then (s.1 + 1, (if s.1 = 0 then x else if x < s.2.1 then x else s.2.1), s.2.2)
  else if k = 3 then (s.1 + 1, (if s.1 = 0 then x else if s.2.1 < x then x else s.2.1), s.2.2)
  else if k = 4 then (s.1 + 1, (if s.2.2.1 = true then s.2.1 else x), true, s.2.2.2)
  else if k = 5 then (s.1 + 1, s.2.1, s.2.2.1 || pas x a n, s.2.2.2)
  else if k = 6 then (s.1 + 1, s.2.1, s.2.2.1 || !pas x a n, s.2.2.2)
  else if k = 7 then (s.1 + 1, s.2.1, s.2.2.1 || pas x a n, s.2.2.2)
  else if k = 8 then (s.1 + 1, fold1 a s.2.1 x, s.2.2)
  else if k = 9 then (s.1 + 1, s.2.1, s.2.2.1, s.2.2.2 ++ [x])
  else if k = 10 then (s.1 + 1, s.2.1, s.2.2.1, s.2.2.2.set (fm x n) (s.2.2.2.getD (fm x n) 0 + 1))
  else (s.1 + 1, s.2)
theorem take1_n (k a n : Int32) (s : Es) (x : Int32) : (take1 k a n s x).1 = s.1 + 1 := by
  unfold take1
  repeat' split
  all_goals rfl
def wn (Q : Mem) (g : Nat → Sg) (dec : Bool) : Nat → Nat → Bool
  | 0, _ => !dec
  | d + 1, k => if Q k 1 = 4 then true else if clo (Q k 1) (Q k 3) (g k) = true then false else wn Q g dec d (k + 1)
def setg (g : Nat → Sg) (k : Nat) (s : Sg) : Nat → Sg := fun j => if j = k then s else g j
theorem setg_s {g : Nat → Sg} {k : Nat} {s : Sg} : setg g k s k = s := by simp [setg]
theorem setg_n {g : Nat → Sg} {k j : Nat} {s : Sg} (h : j ≠ k) : setg g k s j = g j := by simp [setg, h]
def giveL (w : Fs → Bool) (P : Fs → Int32 → Fs) : List Int32 → Fs → Fs
  | [], σ => σ
  | x :: xs, σ => if σ.2.2.2 = true then σ else if w σ = true then (if σ.2.2.1 = 600 then (σ.1, σ.2.1, σ.2.2.1, true) else giveL w P xs (P (σ.1, σ.2.1, σ.2.2.1 + 1, σ.2.2.2) x)) else σ
def up (x : Int32) : Nat → List Int32
  | 0 => []
  | n + 1 => x :: up (x + 1) n
theorem up_length : ∀ (x : Int32) (n : Nat), (up x n).length = n
  | _, 0 => rfl
  | x, n + 1 => by simp [up, up_length (x + 1) n]
def bump (s : Sg) : Sg := (s.1 + 1, s.2)
def pushK (Q : Mem) (e : Nat → Int32) : Nat → Nat → Fs → Int32 → Fs
  | 0, _, σ, x => (σ.1, take1 (e 2) (e 3) (e 4) σ.2.1 x, σ.2.2)
  | d + 1, k, σ, x =>
    if Q k 1 = 2 then giveL (fun τ => wn Q τ.1 τ.2.1.2.2.1 d (k + 1)) (pushK Q e d (k + 1)) (up x (Q k 3).toNatClampNeg) (setg σ.1 k (bump (σ.1 k)), σ.2)
    else if (lets1 (Q k 1) (Q k 2) (Q k 3) (bump (σ.1 k)) x).1 = true then pushK Q e d (k + 1) (setg σ.1 k (lets1 (Q k 1) (Q k 2) (Q k 3) (bump (σ.1 k)) x).2, σ.2) (chg (Q k 1) (Q k 2) (Q k 3) x)
    else (setg σ.1 k (lets1 (Q k 1) (Q k 2) (Q k 3) (bump (σ.1 k)) x).2, σ.2)
def relK (Q : Mem) (e : Nat → Int32) : Nat → Nat → Fs → Fs
  | 0, _, σ => σ
  | d + 1, k, σ => relK Q e d (k + 1) (if Q k 1 = 4 then giveL (fun τ => wn Q τ.1 τ.2.1.2.2.1 d (k + 1)) (pushK Q e d (k + 1)) (σ.1 k).2.2 σ else σ)
/-! what stays true -/
def EW (e : Nat → Int32) (s : Es) : Prop := (e 2 = 9 → s.2.2.2.length = s.1) ∧ (e 2 = 10 → ∃ m, e 4 = nI m ∧ 1 ≤ m ∧ m ≤ 8 ∧ s.2.2.2.length = m ∧ ∀ j, ∃ c, c ≤ s.1 ∧ s.2.2.2.getD j 0 = nI c) ∧ (e 2 = 4 → (s.2.2.1 = true ↔ 0 < s.1))
def SW (s : Sg) : Prop := s.2.2.length ≤ s.1 ∧ Asc s.2.2
def FW (e : Nat → Int32) (N t : Nat) (σ : Fs) : Prop := σ.2.2.1 ≤ 600 ∧ (∀ k, k < N → (σ.1 k).1 + (if t ≤ k then 1 else 0) ≤ σ.2.2.1 ∧ SW (σ.1 k)) ∧ EW e σ.2.1 ∧ σ.2.1.1 + (if t ≤ N then 1 else 0) ≤ σ.2.2.1
theorem FW.mono {e : Nat → Int32} {N t u : Nat} {σ : Fs} (h : FW e N t σ) (hu : t ≤ u) : FW e N u σ := by
  obtain ⟨h1, h2, h3, h4⟩ := h
  refine ⟨h1, fun k hk => ⟨?_, (h2 k hk).2⟩, h3, ?_⟩
  · have := (h2 k hk).1
    by_cases c : u ≤ k
    · rw [if_pos c]; rw [if_pos (by omega)] at this; exact this
    · rw [if_neg c]; split at this <;> omega
  · by_cases c : u ≤ N
    · rw [if_pos c]; rw [if_pos (by omega)] at h4; exact h4
    · rw [if_neg c]; split at h4 <;> omega
theorem FW.step {e : Nat → Int32} {N t : Nat} {σ : Fs} (h : FW e N (N + 1) σ) (hs : σ.2.2.1 ≠ 600) : FW e N t (σ.1, σ.2.1, σ.2.2.1 + 1, σ.2.2.2) := by
  obtain ⟨h1, h2, h3, h4⟩ := h
  rw [if_neg (by omega)] at h4
  refine ⟨by show σ.2.2.1 + 1 ≤ 600; omega, fun k hk => ⟨?_, (h2 k hk).2⟩, h3, ?_⟩
  · have := (h2 k hk).1
    rw [if_neg (by omega)] at this
    show (σ.1 k).1 + _ ≤ σ.2.2.1 + 1
    split <;> omega
  · show σ.2.1.1 + _ ≤ σ.2.2.1 + 1
    split <;> omega
theorem FW.spent {e : Nat → Int32} {N t : Nat} {σ : Fs} {b : Bool} (h : FW e N t σ) : FW e N t (σ.1, σ.2.1, σ.2.2.1, b) := h
theorem fm_lt (x : Int32) {m : Nat} (h1 : 1 ≤ m) (h2 : m ≤ 8) : fm x (nI m) < m := by
  unfold fm
  rw [nI_toInt (by omega)]
  have h3 := Int.emod_lt_of_pos x.toInt (show (0 : Int) < m by omega)
  have h4 := Int.emod_nonneg x.toInt (show (m : Int) ≠ 0 by omega)
  omega
theorem EW.take {e : Nat → Int32} {s : Es} {x : Int32} (h : EW e s) : EW e (take1 (e 2) (e 3) (e 4) s x) := by
  obtain ⟨h1, h2, h3⟩ := h
  refine ⟨fun q => ?_, fun q => ?_, fun q => ?_⟩
  · have := h1 q
    rw [q]
    simp [take1, this]
  · obtain ⟨m, a, b, c, d, f⟩ := h2 q
    refine ⟨m, a, b, c, ?_, ?_⟩
    · rw [q]; simp [take1, d]
    · rw [q]
      intro j
      simp only [take1]
      obtain ⟨y, hy, hy2⟩ := f j
      by_cases hj : j = fm x (e 4)
      · subst hj
        refine ⟨y + 1, by simp; omega, ?_⟩
        rw [hy2]
        have hl : fm x (e 4) < s.2.2.2.length := by rw [a, d]; exact fm_lt x b c
        simp [List.getD_eq_getElem?_getD, hl]
        exact nI_1 y
      · refine ⟨y, by simp; omega, ?_⟩
        rw [← hy2]
        simp [List.getD_eq_getElem?_getD, List.getElem?_set_ne (Ne.symm hj)]
  · rw [q]; simp [take1]
theorem lets1_came (o a n : Int32) (s : Sg) (x : Int32) : (lets1 o a n s x).2.1 = s.1 := by
  unfold lets1
  repeat' split
  all_goals rfl
theorem lets1_SW {o a n : Int32} {s : Sg} {x : Int32} (h : SW s) : SW (lets1 o a n (bump s) x).2 := by
  obtain ⟨h1, h2⟩ := h
  have hb : SW (bump s) := ⟨Nat.le_succ_of_le h1, h2⟩
  have hi : ∀ b : Bool, SW ((bump s).1, b, ins (bump s).2.2 x) := fun b => ⟨by show (ins s.2.2 x).length ≤ s.1 + 1; rw [ins_length]; omega, ins_asc _ _ h2⟩
  have hf : ∀ b : Bool, SW ((bump s).1, b, (bump s).2.2) := fun b => hb
  unfold lets1
  repeat' split
  all_goals first | exact hb | exact hi _ | exact hf _
theorem FW.set {e : Nat → Int32} {N k : Nat} {σ : Fs} {s : Sg} (h : FW e N k σ) (hk : k < N) (hs : SW s) (hc : s.1 = (σ.1 k).1 + 1) : FW e N (k + 1) (setg σ.1 k s, σ.2) := by
  obtain ⟨h1, h2, h3, h4⟩ := h
  refine ⟨h1, fun j hj => ?_, h3, ?_⟩
  · show ((setg σ.1 k s) j).1 + _ ≤ σ.2.2.1 ∧ SW ((setg σ.1 k s) j)
    by_cases c : j = k
    · subst c
      rw [setg_s]
      have := (h2 j hj).1
      rw [if_pos (Nat.le_refl _)] at this
      rw [if_neg (by omega)]
      exact ⟨by omega, hs⟩
    · rw [setg_n c]
      refine ⟨?_, (h2 j hj).2⟩
      have := (h2 j hj).1
      by_cases c2 : k + 1 ≤ j
      · rw [if_pos c2]; rw [if_pos (by omega)] at this; exact this
      · rw [if_neg c2]; split at this <;> omega
  · show σ.2.1.1 + _ ≤ σ.2.2.1
    rw [if_pos (by omega)] at h4
    rw [if_pos (by omega)]
    exact h4
theorem giveL_W {e : Nat → Int32} {N t : Nat} {w : Fs → Bool} {P : Fs → Int32 → Fs} (hP : ∀ σ x, FW e N t σ → FW e N (N + 1) (P σ x) ∧ σ.2.2.1 ≤ (P σ x).2.2.1) : ∀ (xs : List Int32) (σ : Fs), FW e N (N + 1) σ → FW e N (N + 1) (giveL w P xs σ) ∧ σ.2.2.1 ≤ (giveL w P xs σ).2.2.1
  | [], σ, h => ⟨h, Nat.le_refl _⟩
  | x :: xs, σ, h => by
    unfold giveL
    by_cases c1 : σ.2.2.2 = true
    · rw [if_pos c1]; exact ⟨h, Nat.le_refl _⟩
    · rw [if_neg c1]
      by_cases c2 : w σ = true
      · rw [if_pos c2]
        by_cases c3 : σ.2.2.1 = 600
        · rw [if_pos c3]; exact ⟨h.spent, Nat.le_refl _⟩
        · rw [if_neg c3]
          obtain ⟨a, b⟩ := hP _ x (h.step (t := t) c3)
          obtain ⟨c, d⟩ := giveL_W hP xs _ a
          exact ⟨c, by have : σ.2.2.1 + 1 ≤ _ := b; omega⟩
      · rw [if_neg c2]; exact ⟨h, Nat.le_refl _⟩
theorem push_W {Q : Mem} {e : Nat → Int32} {N : Nat} : ∀ (d k : Nat), k + d = N → ∀ (σ : Fs) (x : Int32), FW e N k σ → FW e N (N + 1) (pushK Q e d k σ x) ∧ σ.2.2.1 ≤ (pushK Q e d k σ x).2.2.1
  | 0, k, hk, σ, x, h => by
    obtain ⟨h1, h2, h3, h4⟩ := h.mono (show k ≤ N by omega)
    rw [if_pos (Nat.le_refl _)] at h4
    unfold pushK
    refine ⟨⟨h1, fun j hj => ⟨?_, (h2 j hj).2⟩, h3.take, ?_⟩, Nat.le_refl _⟩
    · have := (h2 j hj).1
      rw [if_neg (by omega)] at this
      rw [if_neg (by omega)]
      exact this
    · rw [if_neg (by omega)]
      show (take1 _ _ _ _ _).1 + 0 ≤ σ.2.2.1
      rw [take1_n]
      exact h4
  | d + 1, k, hk, σ, x, h => by
    have hs := (h.2.1 k (by omega)).2
    have hb : SW (bump (σ.1 k)) := ⟨Nat.le_succ_of_le hs.1, hs.2⟩
    unfold pushK
    by_cases c1 : Q k 1 = 2
    · rw [if_pos c1]
      have h9 := h.set (by omega) hb rfl
      exact giveL_W (t := k + 1) (fun τ y hτ => push_W d (k + 1) (by omega) τ y hτ) _ _ (h9.mono (by omega))
    · rw [if_neg c1]
      have h9 := h.set (by omega) (lets1_SW (o := Q k 1) (a := Q k 2) (n := Q k 3) (x := x) hs) (by rw [lets1_came]; rfl)
      by_cases c2 : (lets1 (Q k 1) (Q k 2) (Q k 3) (bump (σ.1 k)) x).1 = true
      · rw [if_pos c2]
        exact push_W d (k + 1) (by omega) _ _ h9
      · rw [if_neg c2]
        exact ⟨h9.mono (by omega), Nat.le_refl _⟩
