def fl (o f : Int32) : Int32 := if o = 0 then f &&& 9 else if o = 1 then f &&& 14 else if o = 2 then f &&& 8 else if o = 3 then (f &&& 14) ||| 4 else if o = 4 then f ||| 2 else if o = 5 then f ||| 8 else if o = 8 then (f &&& 14) ||| 8 else if o = 9 then f &&& 14 else f
theorem fl_all : ∀ m : Fin 16, (nI m.val &&& -7 = nI m.val &&& 9) ∧ (nI m.val &&& -2 = nI m.val &&& 14) ∧ (nI m.val &&& -8 = nI m.val &&& 8) := by decide
theorem fl_in : ∀ m : Fin 16, (∃ j : Fin 16, nI m.val &&& 9 = nI j.val) ∧ (∃ j : Fin 16, nI m.val &&& 14 = nI j.val) ∧ (∃ j : Fin 16, nI m.val &&& 8 = nI j.val) ∧ (∃ j : Fin 16, (nI m.val &&& 14) ||| 4 = nI j.val) ∧ (∃ j : Fin 16, nI m.val ||| 2 = nI j.val) ∧ (∃ j : Fin 16, nI m.val ||| 8 = nI j.val) ∧ (∃ j : Fin 16, (nI m.val &&& 14) ||| 8 = nI j.val) := by decide
theorem fl_ok {o f : Int32} (h : ∃ j : Fin 16, f = nI j.val) : ∃ j : Fin 16, fl o f = nI j.val := by
  obtain ⟨m, rfl⟩ := h
  obtain ⟨a, b, c, d, e, g, k⟩ := fl_in m
  unfold fl
  repeat' split
  all_goals first | assumption | exact ⟨m, rfl⟩
theorem behind_eq {I : Mem} {i : Nat} {f : Int32} (h : ∃ j : Fin 16, f = nI j.val) : f_X7_flagsBehind I i f = some (fl (I i 1) f, I) := by
  obtain ⟨m, rfl⟩ := h
  obtain ⟨a, b, c⟩ := fl_all m
  unfold f_X7_flagsBehind fl
  rw [a, b, c]
  repeat' split
  all_goals rfl
def flK (o : Nat → Int32) : Nat → Nat → Int32 → Int32
  | 0, _, f => f
  | d + 1, k, f => flK o d (k + 1) (fl (o k) f)
theorem flagsC_L {I : Mem} {N : Nat} (hN : N ≤ 6) (h3 : I 3 2 = nI N) : ∀ (d k n : Nat) (f : Int32), k + d = N → d < n → (∃ j : Fin 16, f = nI j.val) → f_X3_allFlags_L7 n I f (nI k) = some (flK (fun k => I (6 + 3 * k) 1) d k f, I) := by
  intro d
  induction d with
  | zero =>
    intro k n f hk hn hf
    obtain ⟨n, rfl⟩ : ∃ m, n = m + 1 := ⟨n - 1, by omega⟩
    unfold f_X3_allFlags_L7 flK
    rw [h3, if_pos (nI_le (by omega) (by omega))]
  | succ d ih =>
    intro k n f hk hn hf
    obtain ⟨n, rfl⟩ : ∃ m, n = m + 1 := ⟨n - 1, by omega⟩
    unfold f_X3_allFlags_L7 flK
    rw [h3, if_neg (nI_ge (by omega) (by omega)), if_pos (inb_nI (show k < ln 5 by show k < 6; omega) (by decide)), nI_clamp (by omega), behind_eq hf]
    simp only [Option.bind_some]
    rw [nI_1]
    exact ih (k + 1) n _ (by omega) (by omega) (fl_ok hf)
theorem flagsM_L {I : Mem} {N : Nat} (o : Nat → Int32) (hN : N ≤ 6) (h9 : I 45 9 = nI N) (ho : ∀ k, k < N → I 47 k = o k) : ∀ (d k n : Nat) (f : Int32), k + d = N → d < n → f_X10_flags_L46 n I f (nI k) = some (flK o d k f, I) := by
  intro d
  induction d with
  | zero =>
    intro k n f hk hn
    obtain ⟨n, rfl⟩ : ∃ m, n = m + 1 := ⟨n - 1, by omega⟩
    unfold f_X10_flags_L46 flK
    rw [h9, if_pos (nI_le (by omega) (by omega))]
  | succ d ih =>
    intro k n f hk hn
    obtain ⟨n, rfl⟩ : ∃ m, n = m + 1 := ⟨n - 1, by omega⟩
    unfold f_X10_flags_L46 flK
    rw [h9, if_neg (nI_ge (by omega) (by omega)), if_pos (inb_nI (show k < ln 47 by show k < 6; omega) (by decide)), nI_clamp (by omega), ho k (by omega), nI_1]
    unfold fl
    repeat' split
    all_goals exact ih (k + 1) n _ (by omega) (by omega)
theorem flags_step {I : Mem} (h : Idle I) : ∃ cd r J K, f_L_flags I = some (cd, J) ∧ f_X10_flags J = some (r, K) ∧ StepI cd r K := by
  have h0 := h
  obtain ⟨_, ⟨th, us, N, a1, a2, a3, a4, a5, a6, a7, a8, a9, b1, b2, b3, b4, b5, b6⟩, _, _, _⟩ := h
  cases th with
  | false =>
    refine ⟨1, 0, I, st (st I 45 0 0) 45 0 1, ?_, ?_, st_s, fun z => absurd z (by decide), h0.same (fun c z _ => by rw [st_ne z, st_ne z]) (fun b z => by rw [st_k z, st_k z])⟩
    · unfold f_L_flags f_X9_flags
      rw [a1, if_pos (show b2i false = 0 from rfl)]
      simp only [Option.bind_some, thI, if_true]
    · unfold f_X10_flags f_X10_refuse
      rw [st_k (by decide), a2, if_pos (show b2i false = 0 from rfl)]
      rfl
  | true =>
    have main : ∀ f0 : Int32, (∃ j : Fin 16, f0 = nI j.val) → f_X3_sourceFlags I = some (f0, I) → (∀ J : Mem, J 45 3 = I 45 3 → J 45 5 = I 45 5 → f_X10_flags J = f_X10_flags_L46 FU (st J 45 0 0) f0 0) → ∃ cd r J K, f_L_flags I = some (cd, J) ∧ f_X10_flags J = some (r, K) ∧ StepI cd r K := by
      intro f0 hf hs hm
      have hc := flagsC_L b2 b3 N 0 FU f0 (by omega) (by rw [FU_eq]; omega) hf
      generalize hv : flK (fun k => I (6 + 3 * k) 1) N 0 f0 = v at hc
      refine ⟨0, v, st I 65 0 v, st (st I 65 0 v) 45 0 0, ?_, ?_, st_s, fun _ => by rw [st_ne (by decide), st_s], h0.same (fun c z1 z2 => by rw [st_ne z1, st_ne z2]) (fun b z => by rw [st_k z, st_ne (by decide)])⟩
      · unfold f_L_flags f_X9_flags f_X3_allFlags
        rw [a1, if_neg (show ¬ b2i true = 0 by decide), hs]
        rw [← e0] at hc
        simp only [Option.bind_some, hc, thI, cl0]
      · rw [hm _ (by rw [st_ne (by decide)]) (by rw [st_ne (by decide)])]
        have := flagsM_L (I := st (st I 65 0 v) 45 0 0) (fun k => I (6 + 3 * k) 1) b2 (by rw [st_k (by decide), st_ne (by decide)]; exact b4) (fun k hk => by rw [st_ne (by decide), st_ne (by decide)]; exact (b6 k hk).1) N 0 FU f0 (by omega) (by rw [FU_eq]; omega)
        rw [← e0, hv] at this
        exact this
    have hm0 : ∀ J : Mem, J 45 3 = I 45 3 → ¬ ((st J 45 0 (0 : Int32)) 45 3) = 0 := fun J q => by rw [st_k (by decide), q, a2]; decide
    rcases a8 with q | q | q
    · refine main 0 ⟨0, rfl⟩ ?_ (fun J j1 j2 => ?_)
      · unfold f_X3_sourceFlags
        rw [a5, q]; rfl
      · unfold f_X10_flags
        rw [if_neg (hm0 J j1), st_k (show (5 : Nat) ≠ 0 by decide), j2, q, if_neg (by decide), if_neg (by decide)]
    · refine main 1 ⟨1, rfl⟩ ?_ (fun J j1 j2 => ?_)
      · unfold f_X3_sourceFlags
        rw [a5, q]; rfl
      · unfold f_X10_flags
        rw [if_neg (hm0 J j1), st_k (show (5 : Nat) ≠ 0 by decide), j2, q, if_pos rfl]
    · refine main 7 ⟨7, rfl⟩ ?_ (fun J j1 j2 => ?_)
      · unfold f_X3_sourceFlags
        rw [a5, q]; rfl
      · unfold f_X10_flags
        rw [if_neg (hm0 J j1), st_k (show (5 : Nat) ≠ 0 by decide), j2, q, if_neg (by decide), if_pos rfl]
