/-! the pool: what the document asks, as functions -/
/-- tasks by worker, done by worker, turns, thefts -/
abbrev Ps : Type := (Nat → List Nat) × (Nat → Nat) × Nat × Nat
def updT {α : Type} (T : Nat → α) (v : Nat) (x : α) : Nat → α := fun j => if j = v then x else T j
theorem updT_s {α : Type} {T : Nat → α} {v : Nat} {x : α} : updT T v x v = x := by simp [updT]
theorem updT_n {α : Type} {T : Nat → α} {v j : Nat} {x : α} (h : j ≠ v) : updT T v x j = T j := by simp [updT, h]
def steal (T : Nat → List Nat) (c w : Nat) : Nat → Nat → Option Nat
  | 0, _ => none
  | r + 1, i => if T ((w + i) % c) = [] then steal T c w r (i + 1) else some ((w + i) % c)
def finS (gr w s : Nat) (p : Ps) : Ps := if s ≤ gr then (p.1, updT p.2.1 w (p.2.1 w + 1), p.2.2.1 + 1, p.2.2.2) else (updT p.1 w (p.1 w ++ [s - s / 2, s / 2]), p.2.1, p.2.2.1 + 1, p.2.2.2)
def turnS (gr c w : Nat) (p : Ps) : Ps :=
  if p.1 w = [] then
    (match steal p.1 c w (c - 1) 1 with
     | some v => finS gr w ((p.1 v).getD 0 0) (updT p.1 v ((p.1 v).drop 1), p.2.1, p.2.2.1, p.2.2.2 + 1)
     | none => p)
  else finS gr w ((p.1 w).getD ((p.1 w).length - 1) 0) (updT p.1 w ((p.1 w).take ((p.1 w).length - 1)), p.2.1, p.2.2.1, p.2.2.2)
def wOf (z : Int32) (c : Nat) : Nat := (z.toBitVec.toNat / 65536) % c
def nxt (s : Int32) : Int32 := (s * (1103515245 : Int32)) + (12345 : Int32)
def S4 (f : Nat → Nat) : Nat := f 0 + f 1 + f 2 + f 3
def lenP (p : Ps) : Nat := S4 (fun w => (p.1 w).length)
def runP (gr c : Nat) : Nat → Int32 → Ps → Ps
  | 0, _, p => p
  | m + 1, s, p => if lenP p = 0 then p else runP gr c m (nxt s) (turnS gr c (wOf (nxt s) c) p)
def psi : List Nat → Nat
  | [] => 0
  | s :: ss => (s - 1) + psi ss
theorem psi_app : ∀ (a b : List Nat), psi (a ++ b) = psi a + psi b
  | [], b => by simp [psi]
  | s :: a, b => by simp [psi, psi_app a b, Nat.add_assoc]
def psiP (p : Ps) : Nat := S4 (fun w => psi (p.1 w))
theorem S4_le {f : Nat → Nat} {v : Nat} (h : v < 4) : f v ≤ S4 f := by
  unfold S4
  have : v = 0 ∨ v = 1 ∨ v = 2 ∨ v = 3 := by omega
  rcases this with rfl | rfl | rfl | rfl <;> omega
theorem S4_upd {α : Type} {T : Nat → α} (g : α → Nat) {v : Nat} {x : α} (h : v < 4) : S4 (fun w => g (updT T v x w)) + g (T v) = S4 (fun w => g (T w)) + g x := by
  unfold S4
  have : v = 0 ∨ v = 1 ∨ v = 2 ∨ v = 3 := by omega
  rcases this with rfl | rfl | rfl | rfl <;> simp [updT] <;> omega
theorem steal_none {T : Nat → List Nat} {c w : Nat} : ∀ (r i : Nat), steal T c w r i = none → ∀ j, i ≤ j → j < i + r → T ((w + j) % c) = []
  | 0, i, _, j, h1, h2 => by omega
  | r + 1, i, h, j, h1, h2 => by
    unfold steal at h
    split at h
    · rename_i h9
      by_cases q : j = i
      · rw [q]; exact h9
      · exact steal_none r (i + 1) h j (by omega) (by omega)
    · exact absurd h (by simp)
theorem steal_some {T : Nat → List Nat} {c w v : Nat} (hc : 0 < c) : ∀ (r i : Nat), steal T c w r i = some v → v < c ∧ T v ≠ []
  | 0, i, h => by simp [steal] at h
  | r + 1, i, h => by
    unfold steal at h
    split at h
    · exact steal_some hc r (i + 1) h
    · rename_i h9
      have := Option.some.inj h
      subst this
      exact ⟨Nat.mod_lt _ hc, h9⟩
/-- the state of the pool is sound: c workers, few tasks -/
def PI (c : Nat) (p : Ps) : Prop := (∀ v, c ≤ v → p.1 v = []) ∧ lenP p + psiP p ≤ 40 ∧ p.2.2.1 + 2 * psiP p + lenP p ≤ 79
theorem steal_ex {c w : Nat} {p : Ps} (hc : c ≤ 4) (hw : w < c) (h : PI c p) (h0 : lenP p ≠ 0) (he : p.1 w = []) : ∃ v, steal p.1 c w (c - 1) 1 = some v := by
  cases hs : steal p.1 c w (c - 1) 1 with
  | some v => exact ⟨v, rfl⟩
  | none =>
    exfalso
    have hall : ∀ v, p.1 v = [] := by
      intro v
      by_cases q : c ≤ v
      · exact h.1 v q
      · by_cases q2 : v = w
        · rw [q2]; exact he
        · by_cases q3 : w < v
          · have := steal_none _ _ hs (v - w) (by omega) (by omega)
            rw [show w + (v - w) = v by omega, Nat.mod_eq_of_lt (by omega)] at this
            exact this
          · have := steal_none _ _ hs (v + c - w) (by omega) (by omega)
            rw [show w + (v + c - w) = v + c by omega, Nat.add_mod_right, Nat.mod_eq_of_lt (by omega)] at this
            exact this
    apply h0
    unfold lenP S4
    simp [hall]
theorem last_ex {xs : List Nat} (h : xs ≠ []) : xs = xs.take (xs.length - 1) ++ [xs.getD (xs.length - 1) 0] := by
  have hl : 0 < xs.length := List.length_pos_iff.mpr h
  have h1 : xs.length - 1 < xs.length := by omega
  have h2 := List.take_add_one (l := xs) (i := xs.length - 1)
  rw [show xs.length - 1 + 1 = xs.length by omega, List.take_length] at h2
  rw [List.getElem?_eq_getElem h1] at h2
  simpa [List.getD_eq_getElem?_getD, h1] using h2
theorem head_ex {xs : List Nat} (h : xs ≠ []) : xs = xs.getD 0 0 :: xs.drop 1 := by
  cases xs with
  | nil => exact absurd rfl h
  | cons y ys => rfl
/-- one is taken from v and done or halved by w -/
theorem fin_PI {gr c w v s th : Nat} {p : Ps} {L : List Nat} (hg : 1 ≤ gr) (hc : c ≤ 4) (hw : w < c) (hv : v < c) (h : PI c p) (hl : (p.1 v).length = L.length + 1) (hp : psi (p.1 v) = psi L + (s - 1)) :
    PI c (finS gr w s (updT p.1 v L, p.2.1, p.2.2.1, th)) ∧ 2 * psiP (finS gr w s (updT p.1 v L, p.2.1, p.2.2.1, th)) + lenP (finS gr w s (updT p.1 v L, p.2.1, p.2.2.1, th)) < 2 * psiP p + lenP p ∧ s ≤ 40 := by
  obtain ⟨h1, h2, h3⟩ := h
  have a1 := S4_upd (T := p.1) List.length (v := v) (x := L) (by omega)
  have a2 := S4_upd (T := p.1) psi (v := v) (x := L) (by omega)
  have b1 : S4 (fun w => (p.1 w).length) = lenP p := rfl
  have b2 : S4 (fun w => psi (p.1 w)) = psiP p := rfl
  have a3 := S4_le (f := fun w => psi (p.1 w)) (v := v) (by omega)
  have a3' : psi (p.1 v) ≤ psiP p := a3
  unfold finS
  by_cases q : s ≤ gr
  · rw [if_pos q]
    refine ⟨⟨fun u hu => ?_, ?_, ?_⟩, ?_, by omega⟩
    · show updT p.1 v L u = []
      rw [updT_n (by omega)]
      exact h1 u hu
    · show S4 (fun w => (updT p.1 v L w).length) + S4 (fun w => psi (updT p.1 v L w)) ≤ 40
      omega
    · show p.2.2.1 + 1 + 2 * S4 (fun w => psi (updT p.1 v L w)) + S4 (fun w => (updT p.1 v L w).length) ≤ 79
      omega
    · show 2 * S4 (fun w => psi (updT p.1 v L w)) + S4 (fun w => (updT p.1 v L w).length) < _
      omega
  · rw [if_neg q]
    have c1 := S4_upd (T := updT p.1 v L) List.length (v := w) (x := updT p.1 v L w ++ [s - s / 2, s / 2]) (by omega)
    have c2 := S4_upd (T := updT p.1 v L) psi (v := w) (x := updT p.1 v L w ++ [s - s / 2, s / 2]) (by omega)
    rw [psi_app] at c2
    rw [List.length_append] at c1
    have c3 : psi [s - s / 2, s / 2] = s - 2 := by
      show (s - s / 2 - 1) + ((s / 2 - 1) + 0) = s - 2
      omega
    have c4 : [s - s / 2, s / 2].length = 2 := rfl
    rw [c3] at c2
    rw [c4] at c1
    refine ⟨⟨fun u hu => ?_, ?_, ?_⟩, ?_, by omega⟩
    · show updT (updT p.1 v L) w (updT p.1 v L w ++ [s - s / 2, s / 2]) u = []
      rw [updT_n (by omega), updT_n (by omega)]
      exact h1 u hu
    · show S4 (fun u => (updT (updT p.1 v L) w (updT p.1 v L w ++ [s - s / 2, s / 2]) u).length) + S4 (fun u => psi (updT (updT p.1 v L) w (updT p.1 v L w ++ [s - s / 2, s / 2]) u)) ≤ 40
      omega
    · show p.2.2.1 + 1 + 2 * S4 (fun u => psi (updT (updT p.1 v L) w (updT p.1 v L w ++ [s - s / 2, s / 2]) u)) + S4 (fun u => (updT (updT p.1 v L) w (updT p.1 v L w ++ [s - s / 2, s / 2]) u).length) ≤ 79
      omega
    · show 2 * S4 (fun u => psi (updT (updT p.1 v L) w (updT p.1 v L w ++ [s - s / 2, s / 2]) u)) + S4 (fun u => (updT (updT p.1 v L) w (updT p.1 v L w ++ [s - s / 2, s / 2]) u).length) < _
      omega
/-- a turn takes the last of its own, or the first of another's -/
theorem turn_cases {gr c w : Nat} {p : Ps} (hc : c ≤ 4) (hw : w < c) (h : PI c p) (h0 : lenP p ≠ 0) :
    (∃ L s, p.1 w = L ++ [s] ∧ turnS gr c w p = finS gr w s (updT p.1 w L, p.2.1, p.2.2.1, p.2.2.2)) ∨
    (∃ v L s, p.1 w = [] ∧ v < c ∧ v ≠ w ∧ steal p.1 c w (c - 1) 1 = some v ∧ p.1 v = s :: L ∧ turnS gr c w p = finS gr w s (updT p.1 v L, p.2.1, p.2.2.1, p.2.2.2 + 1)) := by
  unfold turnS
  by_cases he : p.1 w = []
  · rw [if_pos he]
    obtain ⟨v, hv⟩ := steal_ex hc hw h h0 he
    obtain ⟨v1, v2⟩ := steal_some (by omega) _ _ hv
    refine .inr ⟨v, (p.1 v).drop 1, (p.1 v).getD 0 0, he, v1, fun q => v2 (by rw [q]; exact he), hv, head_ex v2, ?_⟩
    rw [hv]
  · rw [if_neg he]
    exact .inl ⟨_, _, last_ex he, rfl⟩
theorem turn_PI {gr c w : Nat} {p : Ps} (hg : 1 ≤ gr) (hc : c ≤ 4) (hw : w < c) (h : PI c p) (h0 : lenP p ≠ 0) : PI c (turnS gr c w p) ∧ 2 * psiP (turnS gr c w p) + lenP (turnS gr c w p) < 2 * psiP p + lenP p := by
  rcases turn_cases (gr := gr) hc hw h h0 with ⟨L, s, a, b⟩ | ⟨v, L, s, a, b, c1, c2, c3, c4⟩
  · rw [b]
    obtain ⟨x, y, z⟩ := fin_PI (gr := gr) (th := p.2.2.2) (L := L) (s := s) hg hc hw hw h (by rw [a]; simp) (by rw [a, psi_app]; simp [psi])
    exact ⟨x, y⟩
  · rw [c4]
    obtain ⟨x, y, z⟩ := fin_PI (gr := gr) (th := p.2.2.2 + 1) (L := L) (s := s) hg hc hw b h (by rw [c3]; simp) (by rw [c3]; simp [psi]; omega)
    exact ⟨x, y⟩
theorem w_of (z : Int32) {c : Nat} (hc : 0 < c) (h4 : c ≤ 4) : ((z.toUInt32 >>> (((16 : Int32) : Int32).toUInt32 &&& Int32.toUInt32 31)).toInt32 - (z.toUInt32 >>> (((16 : Int32) : Int32).toUInt32 &&& Int32.toUInt32 31)).toInt32 / nI c * nI c) = nI (wOf z c) := by
  have h1 := pk_ushr z 16 16 (by decide)
  have h2 : z.toBitVec.toNat / 2 ^ 16 < 65536 := by
    have := z.toBitVec.isLt
    omega
  have h3 : (z.toUInt32 >>> (((16 : Int32) : Int32).toUInt32 &&& Int32.toUInt32 31)).toInt32 = nI (z.toBitVec.toNat / 2 ^ 16) := by
    apply Int32.toBitVec_inj.mp
    apply BitVec.eq_of_toNat_eq
    rw [h1, pk_tn (by omega)]
  rw [h3, pk_rem (by omega) hc (by omega)]
  rfl
theorem wOf_lt (z : Int32) {c : Nat} (hc : 0 < c) : wOf z c < c := Nat.mod_lt _ hc
def p0S (n : Nat) : Ps := (updT (fun _ => []) 0 [n], fun _ => 0, 0, 0)
theorem p0_PI {c n : Nat} (hc : 1 ≤ c) (hn : n ≤ 40) : PI c (p0S n) := by
  refine ⟨fun v hv => ?_, ?_, ?_⟩
  · show updT (fun _ => []) 0 [n] v = []
    rw [updT_n (by omega)]
  · show S4 (fun w => (updT (fun _ => []) 0 [n] w).length) + S4 (fun w => psi (updT (fun _ => []) 0 [n] w)) ≤ 40
    simp [S4, updT, psi]; omega
  · show 0 + 2 * S4 (fun w => psi (updT (fun _ => []) 0 [n] w)) + S4 (fun w => (updT (fun _ => []) 0 [n] w).length) ≤ 79
    simp [S4, updT, psi]; omega
