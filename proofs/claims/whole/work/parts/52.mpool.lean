/-! the reference's pool does as the functions say -/
def TM (I : Mem) (T : Nat → List Nat) : Prop := ∀ w, w < 4 → I 63 w = nI (T w).length ∧ (T w).length ≤ 48 ∧ ∀ j, j < (T w).length → I 62 (48 * w + j) = nI ((T w).getD j 0)
def MoOnly (I J : Mem) : Prop := ∀ c, c ≠ 61 → c ≠ 62 → c ≠ 63 → c ≠ 64 → J c = I c
theorem MoOnly.trans {I J K : Mem} (h : MoOnly I J) (h2 : MoOnly J K) : MoOnly I K := fun c a b d e => (h2 c a b d e).trans (h c a b d e)
theorem MoOnly.refl {I : Mem} : MoOnly I I := fun _ _ _ _ _ => rfl
theorem i48 (w j : Nat) : (48 : Int32) * nI w + nI j = nI (48 * w + j) := by
  rw [show (48 : Int32) = nI 48 from rfl, pk_mul, nI_add]
theorem addTaskM_eq {I : Mem} {w s : Nat} {a : Int32} {T : Nat → List Nat} (hw : w < 4) (h : TM I T) (hr : (T w).length < 48) : ∃ J, f_X10_addTask I (nI w) a (nI s) = some J ∧ TM J (updT T w (T w ++ [s])) ∧ (∀ c, c ≠ 61 → c ≠ 62 → c ≠ 63 → J c = I c) := by
  obtain ⟨h1, h2, h3⟩ := h w hw
  have hin : inb (nI w) (ln 63) = true := inb_nI (show w < ln 63 from hw) (by decide)
  unfold f_X10_addTask
  rw [if_pos hin, if_pos hin, if_pos hin, nI_clamp (by omega), h1, i48, if_pos (inb_nI (show 48 * w + (T w).length < ln 61 by show _ < 192; omega) (by decide)), if_pos (inb_nI (show 48 * w + (T w).length < ln 62 by show _ < 192; omega) (by decide)), nI_clamp (by omega)]
  refine ⟨_, rfl, fun u hu => ?_, fun c a b d => by rw [st_ne d, st_ne b, st_ne a]⟩
  by_cases q : u = w
  · subst q
    rw [updT_s]
    refine ⟨?_, by simp; omega, fun j hj => ?_⟩
    · rw [st_s, st_ne (by omega), st_ne (by omega), h1, nI_1]; congr 1; simp
    · rw [st_ne (by omega), st_at]
      by_cases z : j = (T u).length
      · subst z
        rw [if_pos ⟨rfl, rfl⟩]
        simp [List.getD_eq_getElem?_getD]
      · have hj2 : j < (T u).length := by simp at hj; omega
        rw [if_neg (fun y => z (by omega)), st_ne (by omega), h3 j hj2]
        simp [List.getD_eq_getElem?_getD, List.getElem?_append_left hj2]
  · rw [updT_n q]
    obtain ⟨g1, g2, g3⟩ := h u hu
    refine ⟨?_, g2, fun j hj => ?_⟩
    · rw [st_k q, st_ne (by omega), st_ne (by omega)]; exact g1
    · rw [st_ne (by omega), st_at, if_neg (fun y => q (by omega)), st_ne (by omega)]; exact g3 j hj
theorem victim_L {I : Mem} {c w : Nat} {T : Nat → List Nat} (pp : Int32) (hc : 1 ≤ c) (h4 : c ≤ 4) (hi37 : I 45 37 = nI c) (h : TM I T) : ∀ (r i n : Nat), r < n → ∀ v, steal T c w r i = some v → f_X10_victim_L2 pp n I (nI ((w + i) % c)) = some (nI v, I) := by
  intro r
  induction r with
  | zero => intro i n hn v hv; simp [steal] at hv
  | succ r ih =>
    intro i n hn v hv
    obtain ⟨n, rfl⟩ : ∃ m, n = m + 1 := ⟨n - 1, by omega⟩
    have hm : (w + i) % c < c := Nat.mod_lt _ (by omega)
    unfold f_X10_victim_L2
    unfold steal at hv
    obtain ⟨h1, h2, h3⟩ := h ((w + i) % c) (by omega)
    rw [if_pos (inb_nI (show (w + i) % c < ln 63 by show _ < 4; omega) (by decide)), nI_clamp (by omega), h1]
    by_cases q : T ((w + i) % c) = []
    · rw [if_pos q] at hv
      rw [q, if_pos (show nI ([] : List Nat).length = 0 from rfl), hi37, if_neg (nI_ne0 (by omega) (by omega)), nI_1, pk_rem (by omega) (by omega) (by omega), Nat.mod_add_mod]
      exact ih (i + 1) n (by omega) v hv
    · rw [if_neg q] at hv
      have := List.length_pos_iff.mpr q
      rw [if_neg (nI_ne0 this (by omega)), Option.some.inj hv]
def numsM (gr c t th : Nat) (D : Nat → Nat) (I : Mem) : Prop := I 45 36 = nI gr ∧ I 45 37 = nI c ∧ I 64 0 = nI t ∧ I 64 1 = nI (S4 D) ∧ I 64 2 = nI th ∧ ∀ w, w < 4 → I 64 (3 + w) = nI (D w)
theorem numsM.of {gr c t th : Nat} {D : Nat → Nat} {I J : Mem} (h : numsM gr c t th D I) (h1 : J 45 = I 45) (h2 : J 64 = I 64) : numsM gr c t th D J := by
  unfold numsM
  rw [h1, h2]
  exact h
theorem TM.of {I J : Mem} {T : Nat → List Nat} (h : TM I T) (h1 : J 62 = I 62) (h2 : J 63 = I 63) : TM J T := by
  unfold TM
  rw [h1, h2]
  exact h
def tailT (pp : Int32) (I : Mem) (x1 x2 x4 x5 : Int32) : Option Mem := if inb (0 : Int32) (ln 64) = true then (if inb (0 : Int32) (ln 64) = true then (if inb (2 : Int32) (ln 64) = true then (if x2 = x1 then (f_X10_turn_J142 pp (st I 64 (0 : Int32).toNatClampNeg ((I 64 (0 : Int32).toNatClampNeg) + (1 : Int32))) x1 x4 x5 (0 : Int32) ((st I 64 (0 : Int32).toNatClampNeg ((I 64 (0 : Int32).toNatClampNeg) + (1 : Int32))) 64 (2 : Int32).toNatClampNeg) (2 : Int32)) else (f_X10_turn_J142 pp (st I 64 (0 : Int32).toNatClampNeg ((I 64 (0 : Int32).toNatClampNeg) + (1 : Int32))) x1 x4 x5 (1 : Int32) ((st I 64 (0 : Int32).toNatClampNeg ((I 64 (0 : Int32).toNatClampNeg) + (1 : Int32))) 64 (2 : Int32).toNatClampNeg) (2 : Int32))) else none) else none) else none
theorem shift_L {v len : Nat} (pp x1 x4 x5 : Int32) (hv : v < 4) (hl : len < 48) (xs : List Nat) : ∀ (r i n : Nat) (I : Mem), i + r = len → r < n → I 63 v = nI len → (∀ j, i ≤ j → j ≤ len → I 62 (48 * v + j) = nI (xs.getD j 0)) →
    ∃ J, f_X10_turn_L61 pp n I x1 (nI v) x4 x5 (nI (48 * v + i)) = tailT pp J x1 (nI v) x4 x5 ∧ (∀ c, c ≠ 61 → c ≠ 62 → J c = I c) ∧ (∀ k, k < 48 * v + i ∨ 48 * v + len ≤ k → J 62 k = I 62 k) ∧ (∀ j, i ≤ j → j < len → J 62 (48 * v + j) = nI (xs.getD (j + 1) 0)) := by
  intro r
  induction r with
  | zero =>
    intro i n I hi hn h63 h62
    obtain ⟨n, rfl⟩ : ∃ m, n = m + 1 := ⟨n - 1, by omega⟩
    unfold f_X10_turn_L61
    rw [if_pos (inb_nI (show v < ln 63 from hv) (by decide)), nI_clamp (by omega), h63, i48, if_pos (nI_le (by omega) (by omega))]
    exact ⟨I, rfl, fun _ _ _ => rfl, fun _ _ => rfl, fun j a b => by omega⟩
  | succ r ih =>
    intro i n I hi hn h63 h62
    obtain ⟨n, rfl⟩ : ∃ m, n = m + 1 := ⟨n - 1, by omega⟩
    unfold f_X10_turn_L61
    rw [if_pos (inb_nI (show v < ln 63 from hv) (by decide)), nI_clamp (show v < 2 ^ 31 by omega), h63, i48, if_neg (nI_ge (by omega) (by omega)), nI_1, if_pos (inb_nI (show 48 * v + i + 1 < ln 61 by show _ < 192; omega) (by decide)), if_pos (inb_nI (show 48 * v + i < ln 61 by show _ < 192; omega) (by decide)), if_pos (inb_nI (show 48 * v + i + 1 < ln 62 by show _ < 192; omega) (by decide)), if_pos (inb_nI (show 48 * v + i < ln 62 by show _ < 192; omega) (by decide)), nI_clamp (show 48 * v + i < 2 ^ 31 by omega), nI_clamp (show 48 * v + i + 1 < 2 ^ 31 by omega)]
    generalize hM : st (st I 61 (48 * v + i) (I 61 (48 * v + i + 1))) 62 (48 * v + i) ((st I 61 (48 * v + i) (I 61 (48 * v + i + 1))) 62 (48 * v + i + 1)) = M
    have hMo : ∀ c, c ≠ 61 → c ≠ 62 → M c = I c := fun c a b => by rw [← hM, st_ne b, st_ne a]
    have hMk : ∀ k, k ≠ 48 * v + i → M 62 k = I 62 k := fun k q => by rw [← hM, st_k q, st_ne (by omega)]
    have hMi : M 62 (48 * v + i) = nI (xs.getD (i + 1) 0) := by
      rw [← hM, st_s, st_ne (by omega)]
      exact h62 (i + 1) (by omega) (by omega)
    obtain ⟨J, g1, g2, g3, g4⟩ := ih (i + 1) n M (by omega) (by omega) (by rw [hMo 63 (by omega) (by omega)]; exact h63) (fun j a b => by rw [hMk _ (by omega)]; exact h62 j (by omega) b)
    refine ⟨J, g1, fun c a b => (g2 c a b).trans (hMo c a b), fun k q => ?_, fun j a b => ?_⟩
    · rw [g3 k (by omega), hMk k (by omega)]
    · by_cases z : j = i
      · subst z
        rw [g3 _ (by omega)]; exact hMi
      · exact g4 j (by omega) b
theorem tailT_eq {gr c t th w v s : Nat} {T : Nat → List Nat} {D : Nat → Nat} {I : Mem} (pp a : Int32) (hw : w < 4) (hv : v < 4) (hg : gr ≤ 20) (hs : s ≤ 40) (hr : (T w).length + 2 ≤ 48) (h : numsM gr c t th D I) (hT : TM I T) :
    ∃ J, tailT pp I (nI w) (nI v) a (nI s) = some J ∧ numsM gr c (t + 1) (finS gr w s (T, D, t, th + (if v = w then 0 else 1))).2.2.2 (finS gr w s (T, D, t, th + (if v = w then 0 else 1))).2.1 J ∧ TM J (finS gr w s (T, D, t, th + (if v = w then 0 else 1))).1 ∧ MoOnly I J := by
  obtain ⟨n1, n2, n3, n4, n5, n6⟩ := h
  unfold tailT
  rw [if_pos (by decide), if_pos (by decide), if_pos (by decide), cl0, show (2 : Int32).toNatClampNeg = 2 from rfl, n3, nI_1, st_k (by decide), n5]
  have main : ∀ (y : Nat), ∃ J, f_X10_turn_J142 pp (st I 64 0 (nI (t + 1))) (nI w) a (nI s) (nI y) (nI th) 2 = some J ∧ numsM gr c (t + 1) (finS gr w s (T, D, t, th + y)).2.2.2 (finS gr w s (T, D, t, th + y)).2.1 J ∧ TM J (finS gr w s (T, D, t, th + y)).1 ∧ MoOnly I J := by
    intro y
    unfold f_X10_turn_J142 finS
    rw [if_pos (show inb 2 (ln 64) = true by decide), show (2 : Int32).toNatClampNeg = 2 from rfl, nI_add, show (1 : Int32).toNatClampNeg = 1 from rfl, show (3 : Int32) + nI w = nI (3 + w) from nI_add 3 w, nI_clamp (show 3 + w < 2 ^ 31 by omega)]
    generalize hM : st (st I 64 0 (nI (t + 1))) 64 2 (nI (th + y)) = M
    have hMo : ∀ c, c ≠ 64 → M c = I c := fun c q => by rw [← hM, st_ne q, st_ne q]
    have m0 : M 64 0 = nI (t + 1) := by rw [← hM, st_k (by decide), st_s]
    have m1 : M 64 1 = nI (S4 D) := by rw [← hM, st_k (by decide), st_k (by decide)]; exact n4
    have m2 : M 64 2 = nI (th + y) := by rw [← hM, st_s]
    have m3 : ∀ u, u < 4 → M 64 (3 + u) = nI (D u) := fun u hu => by rw [← hM, st_k (by omega), st_k (by omega)]; exact n6 u hu
    have hTM : TM M T := hT.of (hMo 62 (by omega)) (hMo 63 (by omega))
    rw [hMo 45 (by omega), n1]
    by_cases q : s ≤ gr
    · rw [if_pos (nI_le q (by omega)), if_pos q, if_pos (by decide), if_pos (by decide), if_pos (inb_nI (show 3 + w < ln 64 by show _ < 7; omega) (by decide)), if_pos (inb_nI (show 3 + w < ln 64 by show _ < 7; omega) (by decide)), m1, nI_1, st_k (by omega), m3 w hw, nI_1]
      refine ⟨_, rfl, ⟨?_, ?_, ?_, ?_, ?_, fun u hu => ?_⟩, ?_, fun c a b d e => ?_⟩
      · rw [st_ne (by omega), st_ne (by omega), hMo 45 (by omega)]; exact n1
      · rw [st_ne (by omega), st_ne (by omega), hMo 45 (by omega)]; exact n2
      · rw [st_k (by omega), st_k (by omega)]; exact m0
      · rw [st_k (by omega), st_s]
        have := S4_upd (T := D) id (v := w) (x := D w + 1) hw
        simp only [id] at this
        congr 1
        show S4 D + 1 = S4 (updT D w (D w + 1))
        have e1 : S4 (fun u => updT D w (D w + 1) u) = S4 (updT D w (D w + 1)) := rfl
        have e2 : S4 (fun u => D u) = S4 D := rfl
        omega
      · rw [st_k (by omega), st_k (by omega)]; exact m2
      · show _ = nI (updT D w (D w + 1) u)
        by_cases z : u = w
        · subst z
          rw [st_s, updT_s]
        · rw [st_k (by omega), st_k (by omega), updT_n z]; exact m3 u hu
      · exact hTM.of (by rw [st_ne (by omega), st_ne (by omega)]) (by rw [st_ne (by omega), st_ne (by omega)])
      · rw [st_ne e, st_ne e, hMo c e]
    · rw [if_neg (nI_ge (by omega) (by omega)), if_neg q, if_neg (by decide), if_neg (by decide), e2, pk_div (by omega) (by omega) (by omega), pk_sub (Nat.div_le_self s 2)]
      obtain ⟨J, g1, g2, g3⟩ := addTaskM_eq (s := s - s / 2) (a := a + nI (s / 2)) hw hTM (by omega)
      obtain ⟨K, k1, k2, k3⟩ := addTaskM_eq (s := s / 2) (a := a) hw g2 (by rw [updT_s]; simp; omega)
      rw [g1]
      simp only [Option.bind_some]
      rw [if_neg (by decide), k1]
      have hK : ∀ c, c ≠ 61 → c ≠ 62 → c ≠ 63 → K c = M c := fun c a b d => (k3 c a b d).trans (g3 c a b d)
      refine ⟨K, rfl, ⟨?_, ?_, ?_, ?_, ?_, fun u hu => ?_⟩, ?_, fun c a b d e => ?_⟩
      · rw [hK 45 (by omega) (by omega) (by omega), hMo 45 (by omega)]; exact n1
      · rw [hK 45 (by omega) (by omega) (by omega), hMo 45 (by omega)]; exact n2
      · rw [hK 64 (by omega) (by omega) (by omega)]; exact m0
      · rw [hK 64 (by omega) (by omega) (by omega)]; exact m1
      · rw [hK 64 (by omega) (by omega) (by omega)]; exact m2
      · rw [hK 64 (by omega) (by omega) (by omega)]; exact m3 u hu
      · have hee : updT (updT T w (T w ++ [s - s / 2])) w (updT T w (T w ++ [s - s / 2]) w ++ [s / 2]) = updT T w (T w ++ [s - s / 2, s / 2]) := by
          funext u
          by_cases z : u = w
          · subst z; rw [updT_s, updT_s, updT_s]; simp
          · rw [updT_n z, updT_n z, updT_n z]
        rw [hee] at k2
        exact k2
      · rw [hK c a b d, hMo c e]
  by_cases q : v = w
  · subst q
    rw [if_pos rfl, if_pos rfl]
    exact main 0
  · rw [if_neg (fun z => q ((nI_eq (by omega) (by omega)).mp z)), if_neg q]
    exact main 1
/-- the reference's pool: all of it -/
def PM (gr c : Nat) (p : Ps) (I : Mem) : Prop := numsM gr c p.2.2.1 p.2.2.2 p.2.1 I ∧ TM I p.1
theorem turnM_eq {gr c w : Nat} {p : Ps} {I : Mem} (hg : 1 ≤ gr) (hg2 : gr ≤ 20) (hc : 1 ≤ c) (h4 : c ≤ 4) (hw : w < c) (hp : PI c p) (h0 : lenP p ≠ 0) (h : PM gr c p I) :
    ∃ J, f_X10_turn I (nI w) = some J ∧ PM gr c (turnS gr c w p) J ∧ MoOnly I J := by
  obtain ⟨hn, hT⟩ := h
  have hlp : ∀ u, u < 4 → (p.1 u).length ≤ lenP p := fun u hu => S4_le (f := fun w => (p.1 w).length) hu
  have hp2 := hp.2.1
  have core : ∀ (v i s : Nat) (L : List Nat), v < c → (p.1 v).length = L.length + 1 → psi (p.1 v) = psi L + (s - 1) → (p.1 v).getD i 0 = s → i ≤ L.length → (∀ j, j < i → (p.1 v).getD j 0 = L.getD j 0) → (∀ j, i ≤ j → j < L.length → (p.1 v).getD (j + 1) 0 = L.getD j 0) →
      ∃ J, f_X10_turn_J31 (nI w) I (nI w) (nI v) (nI (48 * v + i)) = some J ∧ PM gr c (finS gr w s (updT p.1 v L, p.2.1, p.2.2.1, p.2.2.2 + (if v = w then 0 else 1))) J ∧ MoOnly I J := by
    intro v i s L hv hl hpsi hgi hi hlo hhi
    obtain ⟨_, _, hs40⟩ := fin_PI (gr := gr) (th := p.2.2.2) hg h4 hw hv hp hl hpsi
    obtain ⟨t1', t2', t3'⟩ := hT v (by omega)
    have hlv := hlp v (by omega)
    unfold f_X10_turn_J31
    rw [if_pos (inb_nI (show 48 * v + i < ln 61 by show _ < 192; omega) (by decide)), if_pos (inb_nI (show 48 * v + i < ln 62 by show _ < 192; omega) (by decide)), if_pos (inb_nI (show v < ln 63 by show _ < 4; omega) (by decide)), if_pos (inb_nI (show v < ln 63 by show _ < 4; omega) (by decide)), nI_clamp (show v < 2 ^ 31 by omega), nI_clamp (show 48 * v + i < 2 ^ 31 by omega), t1', hl, nI_pred, t3' i (by omega), hgi]
    have h62 : ∀ j, i ≤ j → j ≤ L.length → (st I 63 v (nI L.length)) 62 (48 * v + j) = nI ((p.1 v).getD j 0) := fun j a b => by rw [st_ne (by omega)]; exact t3' j (by omega)
    obtain ⟨J, g1, g2, g3, g4⟩ := shift_L (nI w) (nI w) (I 61 (48 * v + i)) (nI s) (show v < 4 by omega) (show L.length < 48 by omega) (p.1 v) (L.length - i) i FU (st I 63 v (nI L.length)) (by omega) (by rw [FU_eq]; omega) (by rw [st_s]) h62
    rw [g1]
    have hTJ : TM J (updT p.1 v L) := by
      intro u hu
      obtain ⟨a1, a2, a3⟩ := hT u hu
      by_cases z : u = v
      · subst z
        rw [updT_s]
        refine ⟨by rw [g2 63 (by omega) (by omega), st_s], by omega, fun j hj => ?_⟩
        by_cases y : j < i
        · rw [g3 _ (by omega), st_ne (by omega), a3 j (by omega), hlo j y]
        · rw [g4 j (by omega) hj, hhi j (by omega) hj]
      · rw [updT_n z]
        refine ⟨by rw [g2 63 (by omega) (by omega), st_k z]; exact a1, a2, fun j hj => ?_⟩
        rw [g3 _ (by omega), st_ne (by omega)]
        exact a3 j hj
    have hnJ : numsM gr c p.2.2.1 p.2.2.2 p.2.1 J := hn.of (by rw [g2 45 (by omega) (by omega), st_ne (by omega)]) (by rw [g2 64 (by omega) (by omega), st_ne (by omega)])
    have hlw : (updT p.1 v L w).length + 2 ≤ 48 := by
      by_cases z : w = v
      · subst z; rw [updT_s]; omega
      · rw [updT_n z]; have := hlp w (by omega); omega
    obtain ⟨K, k1, k2, k3, k4⟩ := tailT_eq (nI w) (I 61 (48 * v + i)) (show w < 4 by omega) (show v < 4 by omega) hg2 hs40 hlw hnJ hTJ
    refine ⟨K, k1, ⟨?_, k3⟩, MoOnly.trans (fun c a b d e => by rw [g2 c a b, st_ne d]) k4⟩
    have : (finS gr w s (updT p.1 v L, p.2.1, p.2.2.1, p.2.2.2 + (if v = w then 0 else 1))).2.2.1 = p.2.2.1 + 1 := by unfold finS; split <;> rfl
    rw [this]
    exact k2
  unfold f_X10_turn f_X10_victim
  rcases turn_cases (gr := gr) h4 hw hp h0 with ⟨L, s, a, b⟩ | ⟨v, L, s, a, b, c1, c2, c3, c4⟩
  · rw [b]
    have hl : (p.1 w).length = L.length + 1 := by rw [a]; simp
    obtain ⟨t1', t2', t3'⟩ := hT w (by omega)
    have hvic : f_X10_victim_L2 (nI w) FU I (nI w) = some (nI w, I) := by
      rw [show FU = 4999 + 1 from rfl]
      unfold f_X10_victim_L2
      rw [if_pos (inb_nI (show w < ln 63 by show _ < 4; omega) (by decide)), nI_clamp (by omega), t1', if_neg (nI_ne0 (by omega) (by omega))]
    rw [hvic]
    simp only [Option.bind_some, if_true]
    rw [if_pos (inb_nI (show w < ln 63 by show _ < 4; omega) (by decide)), nI_clamp (by omega), t1', i48, hl, show nI (48 * w + (L.length + 1)) - 1 = nI (48 * w + L.length) from nI_pred (48 * w + L.length)]
    obtain ⟨J, g1, g2, g3⟩ := core w L.length s L hw hl (by rw [a, psi_app]; simp [psi]) (by rw [a]; simp [List.getD_eq_getElem?_getD]) (Nat.le_refl _) (fun j hj => by rw [a]; simp [List.getD_eq_getElem?_getD, List.getElem?_append_left hj]) (fun j h1 h2 => by omega)
    rw [if_pos rfl] at g2
    exact ⟨J, g1, g2, g3⟩
  · rw [c4]
    obtain ⟨t1', t2', t3'⟩ := hT w (by omega)
    have hvic : f_X10_victim_L2 (nI w) FU I (nI w) = some (nI v, I) := by
      rw [show FU = 4999 + 1 from rfl]
      unfold f_X10_victim_L2
      rw [if_pos (inb_nI (show w < ln 63 by show _ < 4; omega) (by decide)), nI_clamp (by omega), t1', a, if_pos (show nI ([] : List Nat).length = 0 from rfl), hn.2.1, if_neg (nI_ne0 (by omega) (by omega)), nI_1, pk_rem (by omega) (by omega) (by omega)]
      exact victim_L (nI w) hc h4 hn.2.1 hT (c - 1) 1 4999 (by omega) v c2
    rw [hvic]
    simp only [Option.bind_some]
    rw [if_neg (fun z => c1 ((nI_eq (by omega) (by omega)).mp z)), show (48 : Int32) * nI v = nI (48 * v + 0) from pk_mul 48 v]
    obtain ⟨J, g1, g2, g3⟩ := core v 0 s L b (by rw [c3]; simp) (by rw [c3]; simp [psi]; omega) (by rw [c3]; rfl) (Nat.zero_le _) (fun j hj => absurd hj (Nat.not_lt_zero j)) (fun j h1 h2 => by rw [c3]; rfl)
    rw [if_neg c1] at g2
    exact ⟨J, g1, g2, g3⟩
theorem crewM_L {gr c : Nat} (pp : Int32) (hg : 1 ≤ gr) (hg2 : gr ≤ 20) (hc : 1 ≤ c) (h4 : c ≤ 4) : ∀ (m n : Nat) (s : Int32) (p : Ps) (I : Mem), 2 * psiP p + lenP p ≤ m → m < n → PI c p → PM gr c p I →
    ∃ J, f_X10_workThrough_L53 pp n I s = some J ∧ PM gr c (runP gr c m s p) J ∧ MoOnly I J := by
  intro m
  induction m with
  | zero =>
    intro n s p I hm hn hp h
    obtain ⟨n, rfl⟩ : ∃ m, n = m + 1 := ⟨n - 1, by omega⟩
    have hz : lenP p = 0 := by omega
    have q0 := (h.2 0 (by omega)).1
    have q1 := (h.2 1 (by omega)).1
    have q2 := (h.2 2 (by omega)).1
    have q3 := (h.2 3 (by omega)).1
    unfold f_X10_workThrough_L53 runP
    rw [if_pos (by decide), if_pos (by decide), if_pos (by decide), if_pos (by decide), cl0, show (1 : Int32).toNatClampNeg = 1 from rfl, show (2 : Int32).toNatClampNeg = 2 from rfl, show (3 : Int32).toNatClampNeg = 3 from rfl, q0, q1, q2, q3, nI_add, nI_add, nI_add, show (p.1 0).length + (p.1 1).length + (p.1 2).length + (p.1 3).length = lenP p from rfl, hz, if_pos (by decide)]
    exact ⟨I, rfl, h, MoOnly.refl⟩
  | succ m ih =>
    intro n s p I hm hn hp h
    obtain ⟨n, rfl⟩ : ∃ m, n = m + 1 := ⟨n - 1, by omega⟩
    have q0 := (h.2 0 (by omega)).1
    have q1 := (h.2 1 (by omega)).1
    have q2 := (h.2 2 (by omega)).1
    have q3 := (h.2 3 (by omega)).1
    have hp2 := hp.2.1
    unfold f_X10_workThrough_L53 runP
    rw [if_pos (by decide), if_pos (by decide), if_pos (by decide), if_pos (by decide), cl0, show (1 : Int32).toNatClampNeg = 1 from rfl, show (2 : Int32).toNatClampNeg = 2 from rfl, show (3 : Int32).toNatClampNeg = 3 from rfl, q0, q1, q2, q3, nI_add, nI_add, nI_add, show (p.1 0).length + (p.1 1).length + (p.1 2).length + (p.1 3).length = lenP p from rfl]
    by_cases hz : lenP p = 0
    · rw [hz, if_pos (by decide), if_pos rfl]
      exact ⟨I, rfl, h, MoOnly.refl⟩
    · rw [if_neg (by rw [e0]; exact nI_ge (by omega) (by omega)), if_neg hz, h.1.2.1, if_neg (nI_ne0 (by omega) (by omega)), w_of _ (by omega) h4]
      have hw := wOf_lt (nxt s) (show 0 < c by omega)
      obtain ⟨J, g1, g2, g3⟩ := turnM_eq (gr := gr) hg hg2 hc h4 hw hp hz h
      obtain ⟨u1, u2⟩ := turn_PI (gr := gr) hg h4 hw hp hz
      rw [show (s * (1103515245 : Int32)) + (12345 : Int32) = nxt s from rfl, g1]
      simp only [Option.bind_some]
      obtain ⟨K, k1, k2, k3⟩ := ih n (nxt s) (turnS gr c (wOf (nxt s) c) p) J (by omega) (by omega) u1 g2
      exact ⟨K, k1, k2, g3.trans k3⟩
theorem crewM0_L {gr c sz : Nat} (pp : Int32) (hg : 1 ≤ gr) (hg2 : gr ≤ 20) (hc : 1 ≤ c) (h4 : c ≤ 4) (hz : sz ≤ 40) : ∀ (r i n : Nat) (I : Mem), i + r = 4 → r < n → I 45 36 = nI gr → I 45 37 = nI c → (∀ v, v < 7 → I 64 v = 0) → (∀ v, v < i → I 63 v = 0) →
    ∃ J, f_X10_workThrough_L23 pp n I (nI sz) (nI i) = some J ∧ PM gr c (runP gr c 79 (I 45 38) (p0S sz)) J ∧ MoOnly I J := by
  intro r
  induction r with
  | zero =>
    intro i n I hi hn h1 h2 hv h63
    obtain ⟨n, rfl⟩ : ∃ m, n = m + 1 := ⟨n - 1, by omega⟩
    have hi4 : i = 4 := by omega
    subst hi4
    unfold f_X10_workThrough_L23
    rw [show (4 : Int32) = nI 4 from rfl, if_pos (nI_le (Nat.le_refl _) (by omega))]
    have hT : TM I (fun _ => []) := fun w hw => ⟨h63 w hw, Nat.zero_le _, fun j hj => absurd hj (Nat.not_lt_zero j)⟩
    obtain ⟨J, g1, g2, g3⟩ := addTaskM_eq (s := sz) (a := 0) (show 0 < 4 by omega) hT (by decide)
    rw [← e0] at g1
    rw [g1]
    simp only [Option.bind_some]
    have hlen : lenP (p0S sz) = 1 := by simp [lenP, p0S, S4, updT]
    have hpsi : psiP (p0S sz) = sz - 1 := by simp [psiP, p0S, S4, updT, psi]
    have hPM : PM gr c (p0S sz) J := by
      refine ⟨⟨?_, ?_, ?_, ?_, ?_, fun w hw => ?_⟩, g2⟩
      · rw [g3 45 (by omega) (by omega) (by omega)]; exact h1
      · rw [g3 45 (by omega) (by omega) (by omega)]; exact h2
      · rw [g3 64 (by omega) (by omega) (by omega)]; exact hv 0 (by omega)
      · rw [g3 64 (by omega) (by omega) (by omega)]; exact hv 1 (by omega)
      · rw [g3 64 (by omega) (by omega) (by omega)]; exact hv 2 (by omega)
      · rw [g3 64 (by omega) (by omega) (by omega)]; exact hv (3 + w) (by omega)
    obtain ⟨K, k1, k2, k3⟩ := crewM_L pp hg hg2 hc h4 79 FU (I 45 38) (p0S sz) J (by omega) (by rw [FU_eq]; omega) (p0_PI hc hz) hPM
    exact ⟨K, k1, k2, MoOnly.trans (fun c a b d e => g3 c a b d) k3⟩
  | succ r ih =>
    intro i n I hi hn h1 h2 hv h63
    obtain ⟨n, rfl⟩ : ∃ m, n = m + 1 := ⟨n - 1, by omega⟩
    unfold f_X10_workThrough_L23
    rw [show (4 : Int32) = nI 4 from rfl, if_neg (nI_ge (by omega) (by omega)), if_pos (inb_nI (show i < ln 63 by show i < 4; omega) (by decide)), nI_clamp (by omega), nI_1]
    obtain ⟨J, g1, g2, g3⟩ := ih (i + 1) n (st I 63 i 0) (by omega) (by omega) (by rw [st_ne (by omega)]; exact h1) (by rw [st_ne (by omega)]; exact h2) (fun v q => by rw [st_ne (by omega)]; exact hv v q) (fun v q => by
      by_cases z : v = i
      · subst z; rw [st_s]
      · rw [st_k z]; exact h63 v (by omega))
    rw [st_ne (by omega)] at g2
    exact ⟨J, g1, g2, MoOnly.trans (fun c a b d e => st_ne d) g3⟩
theorem crewM1_L {gr c sz : Nat} (pp : Int32) (hg : 1 ≤ gr) (hg2 : gr ≤ 20) (hc : 1 ≤ c) (h4 : c ≤ 4) (hz : sz ≤ 40) : ∀ (r i n : Nat) (I : Mem), i + r = 7 → r < n → I 45 36 = nI gr → I 45 37 = nI c → (∀ v, v < i → I 64 v = 0) →
    ∃ J, f_X10_workThrough_L2 pp n I (nI sz) (nI i) = some J ∧ PM gr c (runP gr c 79 (I 45 38) (p0S sz)) J ∧ MoOnly I J := by
  intro r
  induction r with
  | zero =>
    intro i n I hi hn h1 h2 hv
    obtain ⟨n, rfl⟩ : ∃ m, n = m + 1 := ⟨n - 1, by omega⟩
    have hi4 : i = 7 := by omega
    subst hi4
    unfold f_X10_workThrough_L2
    rw [show (7 : Int32) = nI 7 from rfl, if_pos (nI_le (Nat.le_refl _) (by omega)), e0]
    exact crewM0_L pp hg hg2 hc h4 hz 4 0 FU I (by omega) (by rw [FU_eq]; omega) h1 h2 hv (fun v q => absurd q (Nat.not_lt_zero v))
  | succ r ih =>
    intro i n I hi hn h1 h2 hv
    obtain ⟨n, rfl⟩ : ∃ m, n = m + 1 := ⟨n - 1, by omega⟩
    unfold f_X10_workThrough_L2
    rw [show (7 : Int32) = nI 7 from rfl, if_neg (nI_ge (by omega) (by omega)), if_pos (inb_nI (show i < ln 64 by show i < 7; omega) (by decide)), nI_clamp (by omega), nI_1]
    obtain ⟨J, g1, g2, g3⟩ := ih (i + 1) n (st I 64 i 0) (by omega) (by omega) (by rw [st_ne (by omega)]; exact h1) (by rw [st_ne (by omega)]; exact h2) (fun v q => by
      by_cases z : v = i
      · subst z; rw [st_s]
      · rw [st_k z]; exact hv v (by omega))
    rw [st_ne (by omega)] at g2
    exact ⟨J, g1, g2, MoOnly.trans (fun c a b d e => st_ne e) g3⟩
theorem crewM_eq {gr c sz : Nat} (hg : 1 ≤ gr) (hg2 : gr ≤ 20) (hc : 1 ≤ c) (h4 : c ≤ 4) (hz : sz ≤ 40) {I : Mem} (h1 : I 45 36 = nI gr) (h2 : I 45 37 = nI c) :
    ∃ J, f_X10_workThrough I (nI sz) = some J ∧ PM gr c (runP gr c 79 (I 45 38) (p0S sz)) J ∧ MoOnly I J := by
  unfold f_X10_workThrough
  rw [e0]
  exact crewM1_L (nI sz) hg hg2 hc h4 hz 7 0 FU I (by omega) (by rw [FU_eq]; omega) h1 h2 (fun v q => absurd q (Nat.not_lt_zero v))
