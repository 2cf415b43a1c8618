/-! the law's loop: every call keeps program and reference alike -/
theorem lg_same (x : Int64) : lg_cmp x x = 0 := by
  unfold lg_cmp
  have : ¬ x > x := by
    rw [gt_iff_lt, Int64.lt_iff_toInt_lt]
    omega
  rw [if_neg this, if_pos rfl]
theorem idle0 : Idle I0 := by
  refine ⟨⟨[], ⟨rfl, Nat.zero_le _, fun j hj => absurd hj (Nat.not_lt_zero j)⟩, rfl, fun j hj => absurd hj (Nat.not_lt_zero j)⟩, ⟨false, false, 0, rfl, rfl, rfl, rfl, rfl, fun _ => rfl, fun _ => rfl, .inr (.inl rfl), fun z => absurd z (by decide), fun _ => ⟨rfl, fun z => absurd z (by decide)⟩, by omega, rfl, rfl, fun _ => rfl, fun k hk => absurd hk (Nat.not_lt_zero k)⟩, ⟨25, [], .inl rfl, rfl, rfl, ⟨rfl, Nat.zero_le _, fun j hj => absurd hj (Nat.not_lt_zero j)⟩, rfl, fun j hj => absurd hj (Nat.not_lt_zero j)⟩, ⟨4, 2, by omega, by omega, by omega, by omega, rfl, rfl, rfl, rfl, rfl⟩, rfl, rfl, fun w hw => ?_, rfl⟩
  have : w = 0 ∨ w = 1 ∨ w = 2 ∨ w = 3 := by omega
  rcases this with rfl | rfl | rfl | rfl <;> rfl
theorem law_L (xs : Nat → Int32) (L : Nat) (hL : L ≤ 2560) : ∀ (n i : Nat) (I : Mem), L + 5 < 5 * n + i → i ≤ L + 5 → Idle I → ∃ J : Mem, f_L_law_L23 xs L n I (nI i) = some (true, J) := by
  intro n
  induction n with
  | zero => intro i I h1 h2 _; omega
  | succ n ih =>
    intro i I h1 h2 hI
    unfold f_L_law_L23
    have hsub : (nI L - 5).toInt = (L : Int) - 5 := pk_sub_toInt (a := L) (b := 5) (by omega) (by omega)
    by_cases c : nI L - 5 < nI i
    · rw [if_pos c]
      exact ⟨I, rfl⟩
    rw [if_neg c]
    have hi : i + 5 ≤ L := by
      rw [i32l, hsub, nI_toInt (by omega)] at c
      omega
    have j0 : inb (nI i) L = true := inb_nI (by omega) (by omega)
    have j1 : inb (nI (i + 1)) L = true := inb_nI (by omega) (by omega)
    have j2 : inb (nI (i + 2)) L = true := inb_nI (by omega) (by omega)
    have j3 : inb (nI (i + 3)) L = true := inb_nI (by omega) (by omega)
    have j4 : inb (nI (i + 4)) L = true := inb_nI (by omega) (by omega)
    have s1 : nI i + 1 = nI (i + 1) := nI_1 i
    have s2 : nI i + 2 = nI (i + 2) := nI_add i 2
    have s3 : nI i + 3 = nI (i + 3) := nI_add i 3
    have s4 : nI i + 4 = nI (i + 4) := nI_add i 4
    have s5 : nI i + 5 = nI (i + 5) := nI_add i 5
    have next : ∀ K : Mem, Idle K → ∃ J : Mem, f_L_law_L23 xs L n K (nI (i + 5)) = some (true, J) := fun K hK => ih (i + 5) K (by omega) (by omega) hK
    simp only [s1, s2, s3, s4, s5, j0, j1, j2, j3, j4, if_true, cl0]
    generalize (xs (nI i).toNatClampNeg) &&& (15 : Int32) = w
    generalize xs (nI (i + 1)).toNatClampNeg = y1
    generalize xs (nI (i + 2)).toNatClampNeg = y2
    generalize xs (nI (i + 3)).toNatClampNeg = y3
    generalize xs (nI (i + 4)).toNatClampNeg = y4
    have fin : ∀ (cd r : Int32) (K : Mem), StepI cd r K → ∃ J : Mem, ((f_X10_thrown K).bind fun q6 => (if q6.1 = cd then (if cd = 0 then (if (lg_cmp ((q6.2 65 0).toInt64) ((r : Int32).toInt64)) = 0 then (f_L_law_L23 xs L n q6.2 (nI (i + 5))) else (some (false, q6.2))) else (f_L_law_L23 xs L n q6.2 (nI (i + 5)))) else (some (false, q6.2)))) = some (true, J) := by
      intro cd r K hK
      unfold f_X10_thrown
      simp only [Option.bind_some]
      rw [if_pos hK.1]
      by_cases z : cd = 0
      · rw [if_pos z, hK.2.1 z, lg_same, if_pos rfl]
        exact next K hK.2.2
      · rw [if_neg z]
        exact next K hK.2.2
    by_cases w0 : w = 0
    · rw [if_pos w0]
      obtain ⟨cd, r, J, K, g1, g2, g3⟩ := put_step y1 hI
      rw [g1]
      simp only [Option.bind_some]
      rw [g2]
      simp only [Option.bind_some]
      exact fin cd r K g3
    rw [if_neg w0]
    by_cases w1 : w = 1
    · rw [if_pos w1]
      obtain ⟨a, J, K, g1, g2, g3⟩ := empty_step hI
      rw [g1]
      simp only [Option.bind_some]
      rw [g2]
      simp only [Option.bind_some, if_true]
      exact next K g3
    rw [if_neg w1]
    by_cases w2 : w = 2
    · rw [if_pos w2]
      obtain ⟨cd, J, K, g1, g2, g3, g4⟩ := source_step y1 y2 y3 y4 hI
      rw [g1]
      simp only [Option.bind_some]
      rw [g2]
      unfold f_X10_thrown
      simp only [Option.bind_some]
      rw [if_pos g3]
      exact next K g4
    rw [if_neg w2]
    by_cases w3 : w = 3
    · rw [if_pos w3]
      obtain ⟨cd, r, J, K, g1, g2, g3⟩ := stage_step y1 y2 y3 hI
      rw [g1]
      simp only [Option.bind_some]
      rw [g2]
      simp only [Option.bind_some]
      exact fin cd r K g3
    rw [if_neg w3]
    by_cases w4 : w = 4
    · rw [if_pos w4]
      obtain ⟨cd, r, J, K, g1, g2, g3⟩ := flags_step hI
      rw [g1]
      simp only [Option.bind_some]
      rw [g2]
      simp only [Option.bind_some]
      exact fin cd r K g3
    rw [if_neg w4]
    by_cases w5 : w = 5
    · rw [if_pos w5]
      obtain ⟨cd, r, J, K, g1, g2, g3⟩ := run_step y1 y2 y3 hI
      rw [g1]
      simp only [Option.bind_some]
      rw [g2]
      simp only [Option.bind_some]
      exact fin cd r K g3
    rw [if_neg w5]
    by_cases w6 : w = 6
    · rw [if_pos w6]
      obtain ⟨cd, J, K, g1, g2, g3, g4⟩ := pool_step y1 y2 y3 hI
      rw [g1]
      simp only [Option.bind_some]
      rw [g2]
      unfold f_X10_thrown
      simp only [Option.bind_some]
      rw [if_pos g3]
      exact next K g4
    rw [if_neg w6]
    by_cases w7 : w = 7
    · rw [if_pos w7]
      obtain ⟨cd, r, J, K, g1, g2, g3⟩ := parts_step y1 y2 y3 hI
      rw [g1]
      simp only [Option.bind_some]
      rw [g2]
      simp only [Option.bind_some]
      exact fin cd r K g3
    rw [if_neg w7]
    by_cases w8 : w = 8
    · rw [if_pos w8]
      obtain ⟨a, J, K, g1, g2, g3⟩ := seen_step y1 hI
      rw [g1]
      simp only [Option.bind_some]
      rw [g2]
      simp only [Option.bind_some, if_true]
      exact next K g3
    rw [if_neg w8]
    by_cases w9 : w = 9
    · rw [if_pos w9]
      obtain ⟨cd, r, J, K, g1, g2, g3⟩ := kept_step y1 hI
      rw [g1]
      simp only [Option.bind_some]
      rw [g2]
      simp only [Option.bind_some]
      exact fin cd r K g3
    rw [if_neg w9]
    by_cases w10 : w = 10
    · rw [if_pos w10]
      obtain ⟨a, J, K, g1, g2, g3⟩ := pooled_step y1 hI
      rw [g1]
      simp only [Option.bind_some]
      rw [g2]
      simp only [Option.bind_some, if_true]
      exact next K g3
    rw [if_neg w10]
    exact next I hI
theorem pure_law (xs : Nat → Int32) (L : Nat) (hL : L ≤ 2560) : ∃ J : Mem, f_L_law_L23 xs L 600 I0 0 = some (true, J) := by
  have := law_L xs L hL 600 0 I0 (by omega) (by omega) idle0
  rw [← e0] at this
  exact this
