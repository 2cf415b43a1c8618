/-! rows in order: where an element belongs, and putting it there -/
abbrev Asc (xs : List Int32) : Prop := xs.Pairwise (fun a b => a ≤ b)
def ins : List Int32 → Int32 → List Int32
  | [], x => [x]
  | y :: ys, x => if y < x then y :: ins ys x else x :: y :: ys
theorem ins_length : ∀ (xs : List Int32) (x : Int32), (ins xs x).length = xs.length + 1
  | [], _ => rfl
  | y :: ys, x => by
    unfold ins
    by_cases h : y < x
    · simp [h, ins_length ys x]
    · simp [h]
theorem ins_mem : ∀ (xs : List Int32) (x z : Int32), z ∈ ins xs x ↔ z = x ∨ z ∈ xs
  | [], x, z => by simp [ins]
  | y :: ys, x, z => by
    unfold ins
    by_cases h : y < x
    · simp [h, ins_mem ys x z]
      exact or_left_comm
    · simp [h]
theorem le_of_nlt32 {a b : Int32} (h : ¬ a < b) : b ≤ a := by
  rw [Int32.lt_iff_toInt_lt] at h
  rw [Int32.le_iff_toInt_le]
  omega
theorem le_of_lt32 {a b : Int32} (h : a < b) : a ≤ b := by
  rw [Int32.lt_iff_toInt_lt] at h
  rw [Int32.le_iff_toInt_le]
  omega
theorem le_tr32 {a b c : Int32} (h : a ≤ b) (h2 : b ≤ c) : a ≤ c := by
  rw [Int32.le_iff_toInt_le] at *
  omega
theorem le_as32 {a b : Int32} (h : a ≤ b) (h2 : b ≤ a) : a = b := by
  rw [Int32.le_iff_toInt_le] at *
  exact Int32.toInt_inj.mp (by omega)
theorem nlt_of_le32 {a b : Int32} (h : a ≤ b) : ¬ b < a := by
  rw [Int32.le_iff_toInt_le] at h
  rw [Int32.lt_iff_toInt_lt]
  omega
theorem lt_of_nle32 {a b : Int32} (h : ¬ a ≤ b) : b < a := by
  rw [Int32.le_iff_toInt_le] at h
  rw [Int32.lt_iff_toInt_lt]
  omega
theorem ins_asc : ∀ (xs : List Int32) (x : Int32), Asc xs → Asc (ins xs x)
  | [], x, _ => by simp [ins]
  | y :: ys, x, h => by
    obtain ⟨h1, h2⟩ := List.pairwise_cons.mp h
    unfold ins
    by_cases c : y < x
    · rw [if_pos c]
      refine List.pairwise_cons.mpr ⟨fun z hz => ?_, ins_asc ys x h2⟩
      rcases (ins_mem ys x z).mp hz with rfl | hz
      · exact le_of_lt32 c
      · exact h1 z hz
    · rw [if_neg c]
      refine List.pairwise_cons.mpr ⟨fun z hz => ?_, h⟩
      have hxy := le_of_nlt32 c
      rcases List.mem_cons.mp hz with rfl | hz
      · exact hxy
      · exact le_tr32 hxy (h1 z hz)
/-- put at the place of the first that is not less -/
theorem ins_at : ∀ (xs : List Int32) (x : Int32) (q : Nat), q ≤ xs.length → (∀ j, j < q → xs.getD j 0 < x) → (q < xs.length → ¬ xs.getD q 0 < x) → xs.take q ++ x :: xs.drop q = ins xs x
  | [], x, q, hq, _, _ => by simp [ins]
  | y :: ys, x, 0, _, _, h => by
    have h1 : ¬ y < x := h (Nat.zero_lt_succ _)
    simp [ins, h1]
  | y :: ys, x, q + 1, hq, h1, h2 => by
    have hy : y < x := h1 0 (Nat.zero_lt_succ _)
    have ih := ins_at ys x q (by simpa using hq) (fun j hj => h1 (j + 1) (Nat.succ_lt_succ hj)) (fun hq => h2 (by simpa using hq))
    simp only [List.take_succ_cons, List.drop_succ_cons, List.cons_append, ih]
    simp [ins, hy]
/-- put behind the last that is not greater: the same, in a row in order -/
theorem ins_at' : ∀ (xs : List Int32) (x : Int32) (q : Nat), Asc xs → q ≤ xs.length → (∀ j, j < q → xs.getD j 0 ≤ x) → (q < xs.length → x < xs.getD q 0) → xs.take q ++ x :: xs.drop q = ins xs x
  | [], x, q, _, hq, _, _ => by simp [ins]
  | y :: ys, x, 0, _, _, _, h => by
    have h1 : x < y := h (Nat.zero_lt_succ _)
    simp [ins, nlt_of_le32 (le_of_lt32 h1)]
  | y :: ys, x, q + 1, ha, hq, h1, h2 => by
    have hy : y ≤ x := h1 0 (Nat.zero_lt_succ _)
    obtain ⟨g1, g2⟩ := List.pairwise_cons.mp ha
    have ih := ins_at' ys x q g2 (by simpa using hq) (fun j hj => h1 (j + 1) (Nat.succ_lt_succ hj)) (fun hq => h2 (by simpa using hq))
    simp only [List.take_succ_cons, List.drop_succ_cons, List.cons_append, ih]
    by_cases c : y < x
    · simp [ins, c]
    · have e : y = x := le_as32 hy (le_of_nlt32 c)
      subst e
      rw [show ins (y :: ys) y = y :: y :: ys by simp [ins, c]]
      congr 1
      cases ys with
      | nil => rfl
      | cons z zs => simp [ins, nlt_of_le32 (g1 z List.mem_cons_self)]
theorem asc_get : ∀ {xs : List Int32}, Asc xs → ∀ {i j : Nat}, i ≤ j → j < xs.length → xs.getD i 0 ≤ xs.getD j 0
  | [], _, i, j, _, h => absurd h (Nat.not_lt_zero j)
  | y :: ys, ha, 0, 0, _, _ => le_of_nlt32 (by rw [Int32.lt_iff_toInt_lt]; omega)
  | y :: ys, ha, 0, j + 1, _, h => by
    obtain ⟨g1, g2⟩ := List.pairwise_cons.mp ha
    have hj : j < ys.length := by simpa using h
    refine g1 _ ?_
    simp [List.getD_eq_getElem?_getD, hj]
  | y :: ys, ha, i + 1, j + 1, hij, h => by
    obtain ⟨g1, g2⟩ := List.pairwise_cons.mp ha
    exact asc_get g2 (Nat.le_of_succ_le_succ hij) (by simpa using h)
theorem place_L {I : Mem} {i : Nat} {xs : List Int32} {x p9 : Int32} (h : RowIs I i xs) (hn : ln (i + 1) < 2 ^ 29) (ha : Asc xs) : ∀ (n m q : Nat), m < n → q + m ≤ xs.length → (∀ j, j < q → xs.getD j 0 < x) → (∀ j, q + m ≤ j → j < xs.length → ¬ xs.getD j 0 < x) →
    ∃ r, f_X5_placeAscending_L7 i p9 n I x (nI q) (nI m) = some (nI r, I) ∧ r ≤ xs.length ∧ (∀ j, j < r → xs.getD j 0 < x) ∧ (r < xs.length → ¬ xs.getD r 0 < x) := by
  intro n
  induction n with
  | zero => intro m q hm; omega
  | succ n ih =>
    intro m q hm hq h1 h2
    have hl := h.2.1
    unfold f_X5_placeAscending_L7
    by_cases c0 : m = 0
    · subst c0
      rw [if_pos (by rw [e0]; exact nI_le (Nat.le_refl _) (by omega))]
      exact ⟨q, rfl, by omega, h1, fun hr => h2 q (by omega) hr⟩
    · rw [if_neg (by rw [e0]; exact nI_ge (by omega) (by omega)), if_neg (by decide), e2, pk_div (by omega) (by omega) (by omega), nI_add, if_pos (inb_nI (by omega) (by omega)), nI_clamp (by omega), h.2.2 _ (by omega)]
      by_cases c1 : x ≤ xs.getD (q + m / 2) 0
      · rw [if_pos c1]
        exact ih (m / 2) q (by omega) (by omega) h1 (fun j hj hj2 => nlt_of_le32 (le_tr32 c1 (asc_get ha hj hj2)))
      · rw [if_neg c1, e1, nI_add, nI_add, pk_sub (by omega)]
        have c2 := lt_of_nle32 c1
        refine ih (m - (m / 2 + 1)) (q + (m / 2 + 1)) (by omega) (by omega) (fun j hj => ?_) (fun j hj hj2 => h2 j (by omega) hj2)
        have h9 := asc_get ha (show j ≤ q + m / 2 by omega) (by omega)
        rw [Int32.lt_iff_toInt_lt] at *
        rw [Int32.le_iff_toInt_le] at h9
        omega
theorem FU_eq : FU = 5000 := rfl
theorem place_eq {I : Mem} {i : Nat} {xs : List Int32} (x : Int32) (h : RowIs I i xs) (hn : ln (i + 1) ≤ 600) (ha : Asc xs) : ∃ r, f_X5_placeAscending I i x = some (nI r, I) ∧ r ≤ xs.length ∧ (∀ j, j < r → xs.getD j 0 < x) ∧ (r < xs.length → ¬ xs.getD r 0 < x) := by
  unfold f_X5_placeAscending
  rw [h.1]
  have hl := h.2.1
  exact place_L h (by omega) ha FU xs.length 0 (by rw [FU_eq]; omega) (by omega) (fun j hj => absurd hj (Nat.not_lt_zero j)) (fun j hj hj2 => by omega)
theorem insA_eq {I : Mem} {i : Nat} {xs : List Int32} {x : Int32} (h : RowIs I i xs) (hn : ln (i + 1) ≤ 600) (hr : xs.length < ln (i + 1)) (ha : Asc xs) : ∃ J, f_X5_insertAscending I i x = some J ∧ RowIs J i (ins xs x) ∧ RowOnly I J i := by
  obtain ⟨r, h1, h2, h3, h4⟩ := place_eq x h hn ha
  obtain ⟨J, g1, g2, g3⟩ := insertAt_eq (x := x) h (by omega) hr h2
  rw [ins_at xs x r h2 h3 h4] at g2
  refine ⟨J, ?_, g2, g3⟩
  unfold f_X5_insertAscending
  rw [h1]
  simp only [Option.bind_some]
  rw [g1]
  rfl
theorem mem_get {xs : List Int32} {x : Int32} : x ∈ xs ↔ ∃ j, j < xs.length ∧ xs.getD j 0 = x := by
  rw [List.mem_iff_getElem]
  constructor
  · rintro ⟨j, hj, e⟩
    exact ⟨j, hj, by simp [List.getD_eq_getElem?_getD, hj, e]⟩
  · rintro ⟨j, hj, e⟩
    exact ⟨j, hj, by simpa [List.getD_eq_getElem?_getD, hj] using e⟩
theorem insNew_eq {I : Mem} {i : Nat} {xs : List Int32} (x : Int32) (h : RowIs I i xs) (hn : ln (i + 1) ≤ 600) (hr : xs.length < ln (i + 1)) (ha : Asc xs) : (x ∈ xs → f_X5_insertIfNew I i x = some (false, I)) ∧ (x ∉ xs → ∃ J, f_X5_insertIfNew I i x = some (true, J) ∧ RowIs J i (ins xs x) ∧ RowOnly I J i) := by
  obtain ⟨r, h1, h2, h3, h4⟩ := place_eq x h hn ha
  obtain ⟨J, g1, g2, g3⟩ := insertAt_eq (x := x) h (by omega) hr h2
  rw [ins_at xs x r h2 h3 h4] at g2
  have hl := h.2.1
  have hm : x ∈ xs → r < xs.length ∧ xs.getD r 0 = x := by
    rw [mem_get]
    rintro ⟨j, hj, e⟩
    by_cases c3 : j < r
    · have h9 := h3 j c3
      rw [e, Int32.lt_iff_toInt_lt] at h9
      omega
    · have hrl : r < xs.length := by omega
      have h9 := asc_get ha (show r ≤ j by omega) hj
      rw [e] at h9
      exact ⟨hrl, le_as32 h9 (le_of_nlt32 (h4 hrl))⟩
  unfold f_X5_insertIfNew
  rw [h1]
  simp only [Option.bind_some]
  rw [h.1]
  by_cases c : r < xs.length
  · rw [if_neg (nI_ge c (by omega)), if_pos (inb_nI (by omega) (by omega)), nI_clamp (by omega), h.2.2 r c]
    by_cases c2 : xs.getD r 0 = x
    · rw [if_pos c2]
      exact ⟨fun _ => rfl, fun q => absurd (mem_get.mpr ⟨r, c, c2⟩) q⟩
    · rw [if_neg c2, g1]
      exact ⟨fun q => absurd (hm q).2 c2, fun _ => ⟨J, rfl, g2, g3⟩⟩
  · rw [if_pos (nI_le (by omega) (by omega)), g1]
    exact ⟨fun q => absurd (hm q).1 c, fun _ => ⟨J, rfl, g2, g3⟩⟩
theorem copy_L {i p9 : Nat} {xs : List Int32} (hne : p9 ≠ i) (hne2 : p9 ≠ i + 1) (hne3 : p9 + 1 ≠ i) (hn : ln (i + 1) < 2 ^ 31) (hx : xs.length ≤ ln (i + 1)) (hp : ln (p9 + 1) < 2 ^ 31) : ∀ (n k : Nat) (I : Mem), xs.length < n + k → k ≤ xs.length → RowIs I p9 xs → RowIs I i (xs.take k) →
    ∃ J, f_X5_copyFrom_L6 i p9 n I (nI k) = some J ∧ RowIs J i xs ∧ RowOnly I J i := by
  intro n
  induction n with
  | zero => intro k I h1 h2; omega
  | succ n ih =>
    intro k I h1 h2 hp9 hi
    have hl := hp9.2.1
    unfold f_X5_copyFrom_L6
    rw [hp9.1]
    by_cases c : k = xs.length
    · subst c
      rw [if_pos (nI_le (Nat.le_refl _) (by omega))]
      rw [List.take_length] at hi
      exact ⟨I, rfl, hi, RowOnly.refl⟩
    · have hk : k < xs.length := by omega
      rw [if_neg (nI_ge hk (by omega)), if_pos (inb_nI (by omega) hp), nI_clamp (by omega), hp9.2.2 k hk]
      have ht : (xs.take k).length = k := by simp; omega
      obtain ⟨J, g1, g2, g3⟩ := add_eq (x := xs.getD k 0) hi hn (by omega)
      rw [g1]
      simp only [Option.bind_some]
      rw [e1, nI_add]
      have hp' : RowIs J p9 xs := hp9.of (by rw [g3 p9 hne hne2]) (g3 (p9 + 1) hne3 (fun q => hne (by omega)))
      have hi' : RowIs J i (xs.take (k + 1)) := by
        rw [List.take_add_one, List.getElem?_eq_getElem hk]
        simpa [List.getD_eq_getElem?_getD, hk] using g2
      obtain ⟨K, k1, k2, k3⟩ := ih (k + 1) J (by omega) (by omega) hp' hi'
      exact ⟨K, k1, k2, g3.trans k3⟩
theorem copy_eq {I : Mem} {i p9 : Nat} {xs : List Int32} (hne : p9 ≠ i) (hne2 : p9 ≠ i + 1) (hne3 : p9 + 1 ≠ i) (hn : ln (i + 1) < 2 ^ 31) (hx : xs.length ≤ ln (i + 1)) (hp : ln (p9 + 1) ≤ 600) (h : RowIs I p9 xs) : ∃ J, f_X5_copyFrom I i p9 = some J ∧ RowIs J i xs ∧ RowOnly I J i := by
  obtain ⟨J, g1, g2, g3⟩ := clear_eq (I := I) (i := i)
  have hl := h.2.1
  obtain ⟨K, k1, k2, k3⟩ := copy_L hne hne2 hne3 hn hx (by omega) FU 0 J (by rw [FU_eq]; omega) (Nat.zero_le _) (h.of (by rw [g3 p9 hne hne2]) (g3 (p9 + 1) hne3 (fun q => hne (by omega)))) (by simpa using g2)
  refine ⟨K, ?_, k2, g3.trans k3⟩
  unfold f_X5_copyFrom
  rw [g1]
  simp only [Option.bind_some]
  rw [e0]
  exact k1
