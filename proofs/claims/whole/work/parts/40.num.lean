/-! PURE HALF: numbers, memories, rows as lists. -/
theorem e0 : (0 : Int32) = nI 0 := rfl
theorem e1 : (1 : Int32) = nI 1 := rfl
theorem e2 : (2 : Int32) = nI 2 := rfl
theorem inb_nI {k n : Nat} (h : k < n) (hn : n < 2 ^ 31) : inb (nI k) n = true := by
  simp only [inb, Bool.and_eq_true, decide_eq_true_eq]
  exact ⟨nI_pos (by omega), by rw [nI_clamp (by omega)]; exact h⟩
theorem inb_iff {x : Int32} {n : Nat} (hn : n < 2 ^ 31) : inb x n = true ↔ ∃ k, k < n ∧ x = nI k := by
  constructor
  · intro h
    obtain ⟨j, hj, e⟩ := vp_in_of (inb_in h) hn
    exact ⟨j, hj, e⟩
  · rintro ⟨k, hk, rfl⟩
    exact inb_nI hk hn
theorem cpok_nI {a b c x y : Nat} (h1 : a + c ≤ x) (h2 : b + c ≤ y) (hx : x < 2 ^ 31) (hy : y < 2 ^ 31) : cpok (nI a) (nI b) (nI c) x y = true := by
  simp only [cpok, Bool.and_eq_true, decide_eq_true_eq]
  refine ⟨nI_pos (by omega), nI_pos (by omega), nI_pos (by omega), ?_, ?_⟩
  · rw [nI_clamp (by omega), nI_clamp (by omega)]; exact h1
  · rw [nI_clamp (by omega), nI_clamp (by omega)]; exact h2
theorem b2i_t : b2i true = 1 := rfl
theorem b2i_f : b2i false = 0 := rfl
theorem b2i_0 (b : Bool) : (b2i b = 0) ↔ b = false := by cases b <;> decide
theorem st_at {I : Mem} {i k a b : Nat} {v : Int32} : st I i k v a b = if a = i ∧ b = k then v else I a b := by
  unfold st stR upd
  by_cases h : a = i
  · subst h
    by_cases h2 : b = k <;> simp [h2]
  · simp [h]
theorem st_ne {I : Mem} {i k a : Nat} {v : Int32} (h : a ≠ i) : st I i k v a = I a := by
  funext b
  rw [st_at, if_neg (fun q => h q.1)]
theorem st_s {I : Mem} {i k : Nat} {v : Int32} : st I i k v i k = v := by rw [st_at, if_pos ⟨rfl, rfl⟩]
theorem st_k {I : Mem} {i k b : Nat} {v : Int32} (h : b ≠ k) : st I i k v i b = I i b := by rw [st_at, if_neg (fun q => h q.2)]
/-- the row at i holds the list xs -/
def RowIs (I : Mem) (i : Nat) (xs : List Int32) : Prop := I i 1 = nI xs.length ∧ xs.length ≤ ln (i + 1) ∧ ∀ j, j < xs.length → I (i + 1) j = xs.getD j 0
theorem RowIs.of {I J : Mem} {i : Nat} {xs : List Int32} (h : RowIs I i xs) (h1 : J i 1 = I i 1) (h2 : J (i + 1) = I (i + 1)) : RowIs J i xs := ⟨by rw [h1]; exact h.1, h.2.1, fun j hj => by rw [h2]; exact h.2.2 j hj⟩
/-- nothing changes but at the row i -/
def RowOnly (I J : Mem) (i : Nat) : Prop := ∀ c, c ≠ i → c ≠ i + 1 → J c = I c
theorem RowOnly.refl {I : Mem} {i : Nat} : RowOnly I I i := fun _ _ _ => rfl
theorem RowOnly.trans {I J K : Mem} {i : Nat} (h : RowOnly I J i) (h2 : RowOnly J K i) : RowOnly I K i := fun c a b => (h2 c a b).trans (h c a b)
theorem getD_app_l {xs ys : List Int32} {j : Nat} (h : j < xs.length) : (xs ++ ys).getD j 0 = xs.getD j 0 := by
  simp [List.getD_eq_getElem?_getD, List.getElem?_append_left h]
theorem getD_app_r {xs ys : List Int32} {j : Nat} (h : xs.length ≤ j) : (xs ++ ys).getD j 0 = ys.getD (j - xs.length) 0 := by
  simp [List.getD_eq_getElem?_getD, List.getElem?_append_right h]
theorem isFull_eq {I : Mem} {i : Nat} {xs : List Int32} (h : RowIs I i xs) (hn : ln (i + 1) < 2 ^ 31) : f_X5_isFull I i = some (decide (xs.length = ln (i + 1)), I) := by
  unfold f_X5_isFull
  rw [h.1]
  have h2 := h.2.1
  by_cases q : xs.length = ln (i + 1)
  · rw [if_pos (by rw [q]), decide_eq_true q]
  · rw [if_neg (fun e => q ((nI_eq (by omega) hn).mp e)), decide_eq_false q]
theorem clear_eq {I : Mem} {i : Nat} : ∃ J, f_X5_clear I i = some J ∧ RowIs J i [] ∧ RowOnly I J i := by
  refine ⟨_, rfl, ⟨st_s, Nat.zero_le _, fun j hj => absurd hj (Nat.not_lt_zero j)⟩, fun c a b => st_ne a⟩
set_option maxHeartbeats 1000000 in
theorem insertAt_eq {I : Mem} {i q : Nat} {xs : List Int32} {x : Int32} (h : RowIs I i xs) (hn : ln (i + 1) < 2 ^ 31) (hr : xs.length < ln (i + 1)) (hq : q ≤ xs.length) : ∃ J, f_X5_insertAt I i (nI q) x = some J ∧ RowIs J i (xs.take q ++ x :: xs.drop q) ∧ RowOnly I J i := by
  unfold f_X5_insertAt
  rw [isFull_eq h hn, decide_eq_false (by omega)]
  simp only [Option.bind_some, b2i_f, if_true]
  rw [h.1, e1, nI_add, pk_sub hq, if_pos (cpok_nI (by omega) (by omega) hn hn), if_pos (inb_nI (by omega) hn), nI_clamp (by omega), nI_clamp (by omega), nI_clamp (by omega)]
  refine ⟨_, rfl, ⟨?_, ?_, ?_⟩, ?_⟩
  · rw [st_s, st_ne (by omega), stR_ne (by omega), h.1, nI_add]
    congr 1
    simp
    omega
  · simp
    omega
  · intro j hj
    have hl : (xs.take q ++ x :: xs.drop q).length = xs.length + 1 := by simp; omega
    rw [hl] at hj
    rw [st_ne (by omega), st_at, stR_same]
    have ht : (xs.take q).length = q := by simp; omega
    by_cases c1 : j = q
    · subst c1
      rw [if_pos ⟨rfl, rfl⟩, getD_app_r (by omega), ht, Nat.sub_self]
      rfl
    · rw [if_neg (fun z => c1 z.2)]
      by_cases c2 : j < q
      · rw [pk_cpy_out (Or.inl (by omega)), h.2.2 j (by omega), getD_app_l (by omega)]
        simp [List.getD_eq_getElem?_getD, List.getElem?_take, c2]
      · rw [pk_cpy_in (by omega) (by omega), h.2.2 _ (by omega), getD_app_r (by omega), ht]
        obtain ⟨d, hd⟩ : ∃ d, j = q + 1 + d := ⟨j - (q + 1), by omega⟩
        subst hd
        rw [show q + 1 + d - q = d + 1 by omega, show q + (q + 1 + d - (q + 1)) = q + d by omega]
        simp [List.getD_eq_getElem?_getD, List.getElem?_drop]
  · intro c a b
    rw [st_ne a, st_ne b, stR_ne b]
theorem add_eq {I : Mem} {i : Nat} {xs : List Int32} {x : Int32} (h : RowIs I i xs) (hn : ln (i + 1) < 2 ^ 31) (hr : xs.length < ln (i + 1)) : ∃ J, f_X5_add I i x = some J ∧ RowIs J i (xs ++ [x]) ∧ RowOnly I J i := by
  obtain ⟨J, h1, h2, h3⟩ := insertAt_eq (x := x) h hn hr (Nat.le_refl _)
  refine ⟨J, ?_, by simpa using h2, h3⟩
  unfold f_X5_add
  rw [h.1, h1]
  rfl
