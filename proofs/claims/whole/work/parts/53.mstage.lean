/-! the reference's stages do as the functions say -/
theorem i600 (k j : Nat) : (600 : Int32) * nI k + nI j = nI (600 * k + j) := by
  rw [show (600 : Int32) = nI 600 from rfl, pk_mul, nI_add]
theorem nar_b (b : Bool) : vp_nar .boolean (b2i b) = b2i b := by cases b <;> rfl
theorem nar_0 : vp_nar .boolean 0 = b2i false := rfl
theorem nar_1 : vp_nar .boolean 1 = b2i true := rfl
def HM (I : Mem) (k : Nat) (L : List Int32) : Prop := I 51 k = nI L.length ∧ ∀ j, j < L.length → I 53 (600 * k + j) = L.getD j 0
def MSt (I : Mem) (k : Nat) (q : Nat → Int32) (s : Sg) (tr : Bool) : Prop := I 47 k = q 1 ∧ I 48 k = q 2 ∧ I 49 k = q 3 ∧ I 50 k = nI s.1 ∧ (q 1 = 5 ∨ q 1 = 6 → I 51 k = nI s.1) ∧ (q 1 = 8 ∨ q 1 = 9 → I 52 k = b2i s.2.1) ∧ (q 1 = 3 → ∃ L, L.length = s.2.2.length ∧ (∀ x, x ∈ L ↔ x ∈ s.2.2) ∧ HM I k L) ∧ (q 1 = 4 → HM I k s.2.2 ∧ I 52 k = b2i tr)
def MsOnly (I J : Mem) (k : Nat) : Prop := (∀ c, c ≠ 50 → c ≠ 51 → c ≠ 52 → c ≠ 53 → J c = I c) ∧ (∀ j, j ≠ k → J 50 j = I 50 j ∧ J 51 j = I 51 j ∧ J 52 j = I 52 j) ∧ (∀ i, i < 600 * k ∨ 600 * k + 600 ≤ i → J 53 i = I 53 i)
theorem MsOnly.refl {I : Mem} {k : Nat} : MsOnly I I k := ⟨fun _ _ _ _ _ => rfl, fun _ _ => ⟨rfl, rfl, rfl⟩, fun _ _ => rfl⟩
theorem MsOnly.trans {I J K : Mem} {k : Nat} (h : MsOnly I J k) (h2 : MsOnly J K k) : MsOnly I K k := ⟨fun c a b d e => (h2.1 c a b d e).trans (h.1 c a b d e), fun j q => ⟨(h2.2.1 j q).1.trans (h.2.1 j q).1, (h2.2.1 j q).2.1.trans (h.2.1 j q).2.1, (h2.2.1 j q).2.2.trans (h.2.1 j q).2.2⟩, fun i q => (h2.2.2 i q).trans (h.2.2 i q)⟩
theorem HM.of {I J : Mem} {k : Nat} {L : List Int32} (h : HM I k L) (h1 : J 51 k = I 51 k) (h2 : ∀ i, 600 * k ≤ i → i < 600 * k + L.length → J 53 i = I 53 i) : HM J k L := ⟨by rw [h1]; exact h.1, fun j hj => by rw [h2 _ (by omega) (by omega)]; exact h.2 j hj⟩
theorem MSt.of {I J : Mem} {k : Nat} {q : Nat → Int32} {s : Sg} {tr : Bool} (h : MSt I k q s tr) (hl : s.2.2.length ≤ 600) (h47 : J 47 k = I 47 k) (h48 : J 48 k = I 48 k) (h49 : J 49 k = I 49 k) (h50 : J 50 k = I 50 k) (h51 : J 51 k = I 51 k) (h52 : J 52 k = I 52 k) (h53 : ∀ i, 600 * k ≤ i → i < 600 * k + 600 → J 53 i = I 53 i) : MSt J k q s tr := by
  obtain ⟨a, b, c, d, e, f, g, m⟩ := h
  refine ⟨by rw [h47]; exact a, by rw [h48]; exact b, by rw [h49]; exact c, by rw [h50]; exact d, by rw [h51]; exact e, by rw [h52]; exact f, fun z => ?_, fun z => ?_⟩
  · obtain ⟨L, l1, l2, l3⟩ := g z
    exact ⟨L, l1, l2, l3.of h51 (fun i u v => h53 i u (by omega))⟩
  · obtain ⟨m1, m2⟩ := m z
    exact ⟨m1.of h51 (fun i u v => h53 i u (by omega)), by rw [h52]; exact m2⟩
theorem MSt.other {I J : Mem} {k j : Nat} {q : Nat → Int32} {s : Sg} {tr : Bool} (hj : j ≠ k) (h : MSt I j q s tr) (hl : s.2.2.length ≤ 600) (ho : MsOnly I J k) : MSt J j q s tr :=
  h.of hl (by rw [ho.1 47 (by omega) (by omega) (by omega) (by omega)]) (by rw [ho.1 48 (by omega) (by omega) (by omega) (by omega)]) (by rw [ho.1 49 (by omega) (by omega) (by omega) (by omega)]) (ho.2.1 j hj).1 (ho.2.1 j hj).2.1 (ho.2.1 j hj).2.2 (fun i u v => ho.2.2 i (by omega))
theorem holdsM_L {I : Mem} {k : Nat} {L : List Int32} (p0 p1 x : Int32) (hk : k < 6) (hl : L.length ≤ 600) (h : HM I k L) : ∀ (r i n : Nat) (b : Bool), i + r = L.length → r < n → f_X10_holds_L5 p0 p1 n I (nI k) x (b2i b) (nI i) = some (b || decide (x ∈ L.drop i), I) := by
  intro r
  induction r with
  | zero =>
    intro i n b hi hn
    obtain ⟨n, rfl⟩ : ∃ m, n = m + 1 := ⟨n - 1, by omega⟩
    unfold f_X10_holds_L5
    rw [if_pos (inb_nI (show k < ln 51 from hk) (by decide)), nI_clamp (by omega), h.1, if_pos (nI_le (by omega) (by omega)), zraw_b, List.drop_eq_nil_of_le (by omega)]
    simp
  | succ r ih =>
    intro i n b hi hn
    obtain ⟨n, rfl⟩ : ∃ m, n = m + 1 := ⟨n - 1, by omega⟩
    have hx : L[i]'(by omega) = L.getD i 0 := by simp [List.getD_eq_getElem?_getD, show i < L.length by omega]
    unfold f_X10_holds_L5
    rw [if_pos (inb_nI (show k < ln 51 from hk) (by decide)), nI_clamp (show k < 2 ^ 31 by omega), h.1, if_neg (nI_ge (by omega) (by omega)), i600, if_pos (inb_nI (show 600 * k + i < ln 53 by show _ < 3600; omega) (by decide)), nI_clamp (show 600 * k + i < 2 ^ 31 by omega), h.2 i (by omega), nI_1, List.drop_eq_getElem_cons (show i < L.length by omega), hx]
    simp only [b2i_0]
    have u1 := ih (i + 1) n true (by omega) (by omega)
    have u0 := ih (i + 1) n false (by omega) (by omega)
    rw [b2i_t] at u1
    rw [b2i_f] at u0
    rw [u1, u0]
    by_cases z : L.getD i 0 = x
    · rw [if_pos z]
      subst z
      cases b <;> simp
    · rw [if_neg z]
      have z' : ¬ x = L.getD i 0 := fun y => z y.symm
      cases b <;> simp only [List.mem_cons, z', false_or, Bool.true_or, if_true, if_false, Bool.true_eq_false]
theorem holdM_eq {I : Mem} {k : Nat} {L : List Int32} (x : Int32) (hk : k < 6) (hl : L.length < 600) (h : HM I k L) : ∃ J, f_X10_hold I (nI k) x = some J ∧ HM J k (L ++ [x]) ∧ MsOnly I J k ∧ J 50 = I 50 ∧ J 52 = I 52 := by
  have hin : inb (nI k) (ln 51) = true := inb_nI (show k < ln 51 from hk) (by decide)
  unfold f_X10_hold
  rw [if_pos hin, if_pos hin, if_pos hin, nI_clamp (show k < 2 ^ 31 by omega), h.1, i600, if_pos (inb_nI (show 600 * k + L.length < ln 53 by show _ < 3600; omega) (by decide)), nI_clamp (show 600 * k + L.length < 2 ^ 31 by omega)]
  refine ⟨_, rfl, ⟨?_, fun j hj => ?_⟩, ⟨fun c a b d e => ?_, fun j q => ⟨?_, ?_, ?_⟩, fun i q => ?_⟩, ?_, ?_⟩
  · rw [st_s, st_ne (by omega), h.1, nI_1]; congr 1; simp
  · rw [st_ne (by omega), st_at]
    by_cases z : j = L.length
    · subst z
      rw [if_pos ⟨rfl, rfl⟩]
      simp [List.getD_eq_getElem?_getD]
    · have hj2 : j < L.length := by simp at hj; omega
      rw [if_neg (fun y => z (by omega)), h.2 j hj2, getD_app_l hj2]
  · rw [st_ne b, st_ne e]
  · rw [st_ne (by omega), st_ne (by omega)]
  · rw [st_k q, st_ne (by omega)]
  · rw [st_ne (by omega), st_ne (by omega)]
  · rw [st_ne (by omega), st_k (by omega)]
  · rw [st_ne (by omega), st_ne (by omega)]
  · rw [st_ne (by omega), st_ne (by omega)]
theorem sortM_L {k : Nat} {L : List Int32} (p0 p1 x : Int32) (hk : k < 6) (hl : L.length < 600) (ha : Asc L) : ∀ (i n : Nat) (I : Mem), i < n → i ≤ L.length → I 51 k = nI L.length → (∀ j, j < i → I 53 (600 * k + j) = L.getD j 0) → (∀ j, i < j → j ≤ L.length → I 53 (600 * k + j) = L.getD (j - 1) 0) → (∀ j, i ≤ j → j < L.length → x < L.getD j 0) →
    ∃ J, f_X10_sortIn_L13 p0 p1 n I (nI k) x (nI (600 * k + i)) = some J ∧ HM J k (ins L x) ∧ MsOnly I J k ∧ J 50 = I 50 ∧ J 52 = I 52 := by
  have hin : inb (nI k) (ln 51) = true := inb_nI (show k < ln 51 from hk) (by decide)
  have hin2 : ∀ j, j ≤ L.length → inb (nI (600 * k + j)) (ln 53) = true := fun j hj => inb_nI (show 600 * k + j < ln 53 by show _ < 3600; omega) (by decide)
  have fin : ∀ (i : Nat) (I : Mem), i ≤ L.length → I 51 k = nI L.length → (∀ j, j < i → I 53 (600 * k + j) = L.getD j 0) → (∀ j, i < j → j ≤ L.length → I 53 (600 * k + j) = L.getD (j - 1) 0) → (∀ j, i ≤ j → j < L.length → x < L.getD j 0) → (∀ j, j < i → L.getD j 0 ≤ x) →
      ∃ J, some (st (st I 53 (600 * k + i) x) 51 k (((st I 53 (600 * k + i) x) 51 k) + (1 : Int32))) = some J ∧ HM J k (ins L x) ∧ MsOnly I J k ∧ J 50 = I 50 ∧ J 52 = I 52 := by
    intro i I hi h51 hlo hhi hgt hle
    have hins := ins_at' L x i ha hi hle (fun q => hgt i (Nat.le_refl _) q)
    have hti : (L.take i).length = i := by simp; omega
    refine ⟨_, rfl, ⟨?_, fun j hj => ?_⟩, ⟨fun c a b d e => ?_, fun j q => ⟨?_, ?_, ?_⟩, fun u q => ?_⟩, ?_, ?_⟩
    · rw [st_s, st_ne (by omega), h51, nI_1, ins_length]
    · rw [ins_length] at hj
      rw [st_ne (by omega), st_at, ← hins]
      by_cases z : j = i
      · subst z
        rw [if_pos ⟨rfl, rfl⟩, getD_app_r (by omega), hti, Nat.sub_self]
        rfl
      · rw [if_neg (fun y => z (by omega))]
        by_cases y : j < i
        · rw [hlo j y, getD_app_l (by omega)]
          simp [List.getD_eq_getElem?_getD, List.getElem?_take, y]
        · rw [hhi j (by omega) (by omega), getD_app_r (by omega), hti]
          obtain ⟨d, hd⟩ : ∃ d, j = i + 1 + d := ⟨j - (i + 1), by omega⟩
          subst hd
          rw [show i + 1 + d - i = d + 1 by omega, show i + 1 + d - 1 = i + d by omega]
          simp [List.getD_eq_getElem?_getD, List.getElem?_drop]
    · rw [st_ne b, st_ne e]
    · rw [st_ne (by omega), st_ne (by omega)]
    · rw [st_k q, st_ne (by omega)]
    · rw [st_ne (by omega), st_ne (by omega)]
    · rw [st_ne (by omega), st_k (by omega)]
    · rw [st_ne (by omega), st_ne (by omega)]
    · rw [st_ne (by omega), st_ne (by omega)]
  intro i
  induction i with
  | zero =>
    intro n I hn hi h51 hlo hhi hgt
    obtain ⟨n, rfl⟩ : ∃ m, n = m + 1 := ⟨n - 1, by omega⟩
    unfold f_X10_sortIn_L13
    rw [show (600 : Int32) * nI k = nI (600 * k + 0) from pk_mul 600 k, if_pos (nI_le (Nat.le_refl _) (by omega)), if_pos (hin2 0 (by omega)), if_pos hin, if_pos hin, nI_clamp (show 600 * k + 0 < 2 ^ 31 by omega), nI_clamp (show k < 2 ^ 31 by omega)]
    exact fin 0 I (by omega) h51 hlo hhi hgt (fun j hj => absurd hj (Nat.not_lt_zero j))
  | succ i ih =>
    intro n I hn hi h51 hlo hhi hgt
    obtain ⟨n, rfl⟩ : ∃ m, n = m + 1 := ⟨n - 1, by omega⟩
    have hpred : nI (600 * k + (i + 1)) - 1 = nI (600 * k + i) := nI_pred (600 * k + i)
    unfold f_X10_sortIn_L13
    rw [show (600 : Int32) * nI k = nI (600 * k + 0) from pk_mul 600 k, if_neg (nI_ge (by omega) (by omega)), hpred, if_pos (hin2 i (by omega)), if_pos (hin2 i (by omega)), if_pos (hin2 (i + 1) (by omega)), if_pos (hin2 (i + 1) (by omega)), if_pos hin, if_pos hin, nI_clamp (show 600 * k + i < 2 ^ 31 by omega), nI_clamp (show 600 * k + (i + 1) < 2 ^ 31 by omega), nI_clamp (show k < 2 ^ 31 by omega), hlo i (by omega), show nI (600 * k + (i + 1)) + (-1) = nI (600 * k + i) from pk_m1 (600 * k + i)]
    by_cases z : L.getD i 0 ≤ x
    · rw [if_pos z]
      exact fin (i + 1) I hi h51 hlo hhi hgt (fun j hj => le_tr32 (asc_get ha (show j ≤ i by omega) (by omega)) z)
    · rw [if_neg z]
      have z2 := lt_of_nle32 z
      obtain ⟨J, g1, g2, g3, g4, g5⟩ := ih n (st I 53 (600 * k + (i + 1)) (L.getD i 0)) (by omega) (by omega) (by rw [st_ne (by omega)]; exact h51) (fun j hj => by rw [st_k (by omega)]; exact hlo j (by omega)) (fun j h1 h2 => by
        by_cases y : j = i + 1
        · subst y; rw [st_s]; rfl
        · rw [st_k (by omega)]; exact hhi j (by omega) h2) (fun j h1 h2 => by
        by_cases y : j = i
        · subst y; exact z2
        · exact hgt j (by omega) h2)
      refine ⟨J, g1, g2, MsOnly.trans ⟨fun c a b d e => st_ne e, fun j q => ⟨?_, ?_, ?_⟩, fun u q => ?_⟩ g3, ?_, ?_⟩
      · rw [st_ne (by omega)]
      · rw [st_ne (by omega)]
      · rw [st_ne (by omega)]
      · rw [st_k (by omega)]
      · rw [g4, st_ne (by omega)]
      · rw [g5, st_ne (by omega)]
theorem sortInM_eq {I : Mem} {k : Nat} {L : List Int32} (x : Int32) (hk : k < 6) (hl : L.length < 600) (ha : Asc L) (h : HM I k L) : ∃ J, f_X10_sortIn I (nI k) x = some J ∧ HM J k (ins L x) ∧ MsOnly I J k ∧ J 50 = I 50 ∧ J 52 = I 52 := by
  unfold f_X10_sortIn
  rw [if_pos (inb_nI (show k < ln 51 from hk) (by decide)), nI_clamp (show k < 2 ^ 31 by omega), h.1, i600]
  exact sortM_L (nI k) x x hk hl ha L.length FU I (by rw [FU_eq]; omega) (Nat.le_refl _) h.1 h.2 (fun j a b => by omega) (fun j a b => by omega)
