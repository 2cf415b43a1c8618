/-! the reference's whole run -/
theorem giveL_spent {w : Fs → Bool} {P : Fs → Int32 → Fs} {σ : Fs} (h : σ.2.2.2 = true) (xs : List Int32) : giveL w P xs σ = σ := by
  cases xs with
  | nil => rfl
  | cons z zs => rw [giveL_cons, if_pos h]
theorem relK_spent {Q : Mem} {e : Nat → Int32} {σ : Fs} (h : σ.2.2.2 = true) : ∀ (d k : Nat), relK Q e d k σ = σ
  | 0, k => rfl
  | d + 1, k => by
    unfold relK
    rw [giveL_spent h]
    split <;> exact relK_spent h d (k + 1)
theorem L57_next {I : Mem} {k N n : Nat} (hk : k < N) (hN : N ≤ 6) (h22 : I 45 22 = b2i false) (h17 : I 45 17 = nI 0) (h9 : I 45 9 = nI N) : f_X10_flow_L57 (n + 1) I (nI k) = f_X10_flow_J79 (f_X10_flow_L57 n) I (nI k) := by
  show (if (I 45 22) = 0 then (if 0 < (I 45 17) then (f_X10_flow_J79 (f_X10_flow_L57 n) I (nI k)) else (if (I 45 9) ≤ (nI k) then (some I) else (f_X10_flow_J79 (f_X10_flow_L57 n) I (nI k)))) else (some I)) = _
  rw [h22, if_pos (show b2i false = 0 from rfl), h17, if_neg (by decide), h9, if_neg (nI_ge hk (by omega))]
theorem L57_done {I : Mem} {N n : Nat} (h22 : I 45 22 = b2i false) (h17 : I 45 17 = nI 0) (h9 : I 45 9 = nI N) (hN : N ≤ 6) : f_X10_flow_L57 (n + 1) I (nI N) = some I := by
  show (if (I 45 22) = 0 then (if 0 < (I 45 17) then (f_X10_flow_J79 (f_X10_flow_L57 n) I (nI N)) else (if (I 45 9) ≤ (nI N) then (some I) else (f_X10_flow_J79 (f_X10_flow_L57 n) I (nI N)))) else (some I)) = _
  rw [h22, if_pos (show b2i false = 0 from rfl), h17, if_neg (by decide), h9, if_pos (nI_le (Nat.le_refl _) (by omega))]
theorem rel_M {Q : Mem} {e : Nat → Int32} {N : Nat} (hQ : Qok Q N) : ∀ (dd k : Nat), k + dd = N → ∀ (σ : Fs) (I : Mem) (tr : Nat → Bool) (n : Nat), (∀ j, k ≤ j → tr j = false) → (σ.2.2.2 = false → I 45 17 = nI 0) → RM Q e N tr σ I → FW e N (N + 1) σ → 2 * (600 - σ.2.2.1) + 3 * dd + 2 ≤ n →
    ∃ J tr', f_X10_flow_L57 n I (nI k) = some J ∧ RM Q e N tr' (relK Q e dd k σ) J ∧ MF I J 0 0 ∧ FW e N (N + 1) (relK Q e dd k σ) := by
  intro dd
  induction dd with
  | zero =>
    intro k hk σ I tr n htr h17 h hw hn
    obtain ⟨n, rfl⟩ : ∃ m, n = m + 1 := ⟨n - 1, by omega⟩
    have hkN : k = N := by omega
    subst hkN
    cases hs : σ.2.2.2 with
    | true => exact ⟨I, tr, L57_spent (by rw [h.2.2.2.2.2, hs]), h, MF.refl, hw⟩
    | false => exact ⟨I, tr, L57_done (by rw [h.2.2.2.2.2, hs]) (h17 hs) h.2.1 h.1, h, MF.refl, hw⟩
  | succ dd ih =>
    intro k hk σ I tr n htr h17 h hw hn
    have hN := h.1
    cases hs : σ.2.2.2 with
    | true =>
      obtain ⟨n, rfl⟩ : ∃ m, n = m + 1 := ⟨n - 1, by omega⟩
      rw [relK_spent hs]
      exact ⟨I, tr, L57_spent (by rw [h.2.2.2.2.2, hs]), h, MF.refl, hw⟩
    | false =>
      obtain ⟨n, rfl⟩ : ∃ m, n = m + 1 := ⟨n - 1, by omega⟩
      have h22 : I 45 22 = b2i false := by rw [h.2.2.2.2.2, hs]
      have h170 := h17 hs
      rw [L57_next (show k < N by omega) hN h22 h170 h.2.1]
      unfold f_X10_flow_J79 relK
      have i47 : inb (nI k) (ln 47) = true := inb_nI (show k < ln 47 by show k < 6; omega) (by decide)
      have i51 : inb (nI k) (ln 51) = true := inb_nI (show k < ln 51 by show k < 6; omega) (by decide)
      have i52 : inb (nI k) (ln 52) = true := inb_nI (show k < ln 52 by show k < 6; omega) (by decide)
      have hst := h.2.2.1 k (by omega)
      rw [h170, if_pos (show nI 0 ≤ 0 by decide), if_pos i47, nI_clamp (show k < 2 ^ 31 by omega), hst.1]
      by_cases c4 : Q k 1 = 4
      · rw [if_pos c4, if_pos c4, if_pos i52, if_pos i51, nar_1, nI_1]
        obtain ⟨hH, h52⟩ := hst.2.2.2.2.2.2.2 c4
        have hheld := hw.len k (by omega)
        obtain ⟨M, b1, b2, b3, b4, b5, b6, b7, b8⟩ := begin_M (nI k) 0 ((st I 52 k (b2i true)) 51 k) (show (st I 52 k (b2i true)) 45 17 = nI 0 by rw [st_ne (by decide)]; exact h170) (by omega)
        rw [b1]
        simp only [Option.bind_some]
        have hR0 : RM Q e N (updT tr k true) σ (st I 52 k (b2i true)) := by
          obtain ⟨r1, r2, r3, r4, r5, r6⟩ := h
          refine ⟨r1, by rw [st_ne (by decide)]; exact r2, fun j hj => ?_, r4.of (fun b _ => by rw [st_ne (by decide)]) (by rw [st_ne (by decide)]), by rw [st_ne (by decide)]; exact r5, by rw [st_ne (by decide)]; exact r6⟩
          have q : ∀ c, c ≠ 52 → (st I 52 k (b2i true)) c = I c := fun c q => st_ne q
          by_cases z : j = k
          · subst z
            rw [updT_s]
            obtain ⟨s1, s2, s3, s4, s5, s6, s7, s8⟩ := r3 j hj
            refine ⟨by rw [q 47 (by decide)]; exact s1, by rw [q 48 (by decide)]; exact s2, by rw [q 49 (by decide)]; exact s3, by rw [q 50 (by decide)]; exact s4, by rw [q 51 (by decide)]; exact s5, fun w => ?_, fun w => ?_, fun w => ⟨(s8 w).1.of (by rw [q 51 (by decide)]) (fun i _ _ => by rw [q 53 (by decide)]), st_s⟩⟩
            · rw [c4] at w; exact absurd w (by decide)
            · rw [c4] at w; exact absurd w (by decide)
          · rw [updT_n z]
            exact (r3 j hj).of (hw.len j hj) (by rw [q 47 (by decide)]) (by rw [q 48 (by decide)]) (by rw [q 49 (by decide)]) (by rw [q 50 (by decide)]) (by rw [q 51 (by decide)]) (st_k z) (fun i _ _ => by rw [q 53 (by decide)])
        have hR1 : RM Q e N (updT tr k true) σ M := by
          have := hR0.nums (J := M) b6 (fun b q _ _ => b7 b q) (n := σ.2.2.1) (b := σ.2.2.2) (by rw [b7 21 (by decide)]; exact hR0.2.2.2.2.1) (by rw [b7 22 (by decide)]; exact hR0.2.2.2.2.2)
          exact this
        have hq51 : (st I 52 k (b2i true)) 51 k = nI (σ.1 k).2.2.length := by rw [st_ne (by decide)]; exact hH.1
        have hfr : FrIs M 0 (k + 1) (σ.1 k).2.2 σ.2.2.1 := by
          refine .inr (.inr (.inr (.inr ⟨k, rfl, by omega, b3, ?_, by rw [b5]; exact hq51, 0, by rw [b4]; rfl, by omega, fun j hj => ?_⟩)))
          · rw [b6 47 (by decide) (by decide) (by decide) (by decide), st_ne (by decide), hst.1]; exact c4
          · rw [b6 53 (by decide) (by decide) (by decide) (by decide), st_ne (by decide), Nat.zero_add]; exact hH.2 j hj
        obtain ⟨J, m, r1, r2, r3, r4, r5⟩ := run_frame hQ dd (k + 1) (by omega) (fun j hj => by rw [updT_n (by omega)]; exact htr j (by omega)) (σ.1 k).2.2 σ M 0 (by omega) b2 hfr hR1 hw hs
        have hW2 := giveL_W (w := fun τ => wn Q τ.1 τ.2.1.2.2.1 dd (k + 1)) (P := pushK Q e dd (k + 1)) (t := k + 1) (fun τ y hτ => push_W (Q := Q) (e := e) dd (k + 1) (by omega) τ y hτ) (σ.1 k).2.2 σ hw
        have hs600 := hW2.1.1
        have hmo := hW2.2
        obtain ⟨n2, rfl⟩ : ∃ n2, n = n2 + m := ⟨n - m, by omega⟩
        rw [r4]
        obtain ⟨K, tr', k1, k2, k3, k4⟩ := ih (k + 1) (by omega) _ J (updT tr k true) n2 (fun j hj => by rw [updT_n (by omega)]; exact htr j (by omega)) r5 r2 hW2.1 (by omega)
        refine ⟨K, tr', k1, k2, MF.trans ?_ (MF.trans (r3.mono (Nat.zero_le _) (Nat.zero_le _)) k3), k4⟩
        refine ⟨fun c q => ?_, fun b q _ _ _ _ _ => ?_, fun i q => absurd q (by omega), fun j q => absurd q (by omega)⟩
        · rw [b6 c (by omega) (by omega) (by omega) (by omega), st_ne (by omega)]
        · rw [b7 b q, st_ne (by decide)]
      · rw [if_neg c4, if_neg c4, nI_1]
        exact ih (k + 1) (by omega) σ I tr n (fun j hj => htr j (by omega)) (fun _ => h170) h hw (by omega)
def srcL (B : List Int32) (kd a b c : Int32) : List Int32 := if kd = 0 then B else if kd = 1 then up a b.toNatClampNeg else orb b c a 601
theorem mflow_eq {Q : Mem} {e : Nat → Int32} {N : Nat} (hQ : Qok Q N) {B : List Int32} {σ : Fs} {I : Mem} (hB : B.length ≤ 40) (h2 : I 45 2 = nI B.length) (h46 : ∀ j, j < B.length → I 46 j = B.getD j 0) (hkind : I 45 5 = 2 ∨ I 45 5 = 0 ∨ I 45 5 = 1) (hb : I 45 5 = 1 → ∃ m, m ≤ 40 ∧ I 45 7 = nI m) (hw : FW e N (N + 1) (σ.1, σ.2.1, 0, false)) (h : RM Q e N (fun _ => false) (σ.1, σ.2.1, 0, false) I) :
    ∃ J tr, f_X10_flow I = some J ∧ RM Q e N tr (flowS Q e N (srcL B (I 45 5) (I 45 6) (I 45 7) (I 45 8)) (σ.1, σ.2.1, 0, false)) J ∧ MF I J 0 0 ∧ FW e N (N + 1) (flowS Q e N (srcL B (I 45 5) (I 45 6) (I 45 7) (I 45 8)) (σ.1, σ.2.1, 0, false)) := by
  have hN := h.1
  generalize hM : st I 45 17 (0 : Int32) = M
  have mo : ∀ c, c ≠ 45 → M c = I c := fun c q => by rw [← hM, st_ne q]
  have mb : ∀ b, b ≠ 17 → M 45 b = I 45 b := fun b q => by rw [← hM, st_k q]
  have m17 : M 45 17 = nI 0 := by rw [← hM, st_s]; rfl
  have core : ∀ (first cnt : Int32), (∀ K : Mem, (K 54 0 = -1 ∧ K 55 0 = first ∧ K 56 0 = cnt) → K 46 = M 46 → (∀ b, b ≠ 17 → K 45 b = M 45 b) → FrIs K 0 0 (srcL B (I 45 5) (I 45 6) (I 45 7) (I 45 8)) 0) →
      ∃ J tr, ((f_X10_begin M (-1) first cnt).bind fun q5 => (f_X10_flow_L57 FU q5 (0 : Int32))) = some J ∧ RM Q e N tr (flowS Q e N (srcL B (I 45 5) (I 45 6) (I 45 7) (I 45 8)) (σ.1, σ.2.1, 0, false)) J ∧ MF I J 0 0 ∧ FW e N (N + 1) (flowS Q e N (srcL B (I 45 5) (I 45 6) (I 45 7) (I 45 8)) (σ.1, σ.2.1, 0, false)) := by
    intro first cnt hF
    obtain ⟨K, b1, b2, b3, b4, b5, b6, b7, b8⟩ := begin_M (-1) first cnt m17 (by omega)
    rw [b1]
    simp only [Option.bind_some]
    have hfr := hF K ⟨b3, b4, b5⟩ (b6 46 (by decide) (by decide) (by decide) (by decide)) b7
    have hR1 : RM Q e N (fun _ => false) (σ.1, σ.2.1, 0, false) K :=
      h.nums (fun c q1 q2 q3 q4 => by rw [b6 c q1 q2 q3 q4, mo c q1]) (fun b q _ _ => by rw [b7 b q, mb b q]) (by rw [b7 21 (by decide), mb 21 (by decide)]; exact h.2.2.2.2.1) (by rw [b7 22 (by decide), mb 22 (by decide)]; exact h.2.2.2.2.2)
    obtain ⟨J, m, r1, r2, r3, r4, r5⟩ := run_frame hQ N 0 (by omega) (fun _ _ => rfl) (srcL B (I 45 5) (I 45 6) (I 45 7) (I 45 8)) (σ.1, σ.2.1, 0, false) K 0 (by omega) b2 hfr hR1 hw rfl
    have hW2 := giveL_W (w := fun τ => wn Q τ.1 τ.2.1.2.2.1 N 0) (P := pushK Q e N 0) (t := 0) (fun τ y hτ => push_W (Q := Q) (e := e) N 0 (by omega) τ y hτ) (srcL B (I 45 5) (I 45 6) (I 45 7) (I 45 8)) (σ.1, σ.2.1, 0, false) hw
    have hs600 := hW2.1.1
    obtain ⟨n2, hn2⟩ : ∃ n2, FU = n2 + m := ⟨FU - m, by rw [FU_eq]; omega⟩
    have hFU := FU_eq
    rw [hn2, r4]
    obtain ⟨L, tr', l1, l2, l3, l4⟩ := rel_M hQ N 0 (by omega) _ J (fun _ => false) n2 (fun _ _ => rfl) r5 r2 hW2.1 (by omega)
    refine ⟨L, tr', l1, l2, MF.trans ?_ (MF.trans (r3.mono (Nat.zero_le _) (Nat.zero_le _)) l3), l4⟩
    refine ⟨fun c q => ?_, fun b q _ _ _ _ _ => ?_, fun i q => absurd q (by omega), fun j q => absurd q (by omega)⟩
    · rw [b6 c (by omega) (by omega) (by omega) (by omega), mo c (by omega)]
    · rw [b7 b q, mb b q]
  unfold f_X10_flow f_X10_flow_J22
  rw [hM, mb 5 (by decide), mb 2 (by decide), mb 6 (by decide), mb 7 (by decide)]
  rcases hkind with hk | hk | hk
  · have n0 : ¬ I 45 5 = 0 := by rw [hk]; decide
    have n1 : ¬ I 45 5 = 1 := by rw [hk]; decide
    rw [if_neg n0, if_neg n0, if_neg n1]
    refine core _ _ (fun K hK k46 kb => .inr (.inr (.inl ⟨rfl, hK.1, ?_, hK.2.2, ?_, ?_⟩)))
    · rw [kb 5 (by decide), mb 5 (by decide)]; exact hk
    · rw [kb 7 (by decide), mb 7 (by decide), kb 8 (by decide), mb 8 (by decide), hK.2.1, hk]
      show orb (I 45 7) (I 45 8) (I 45 6) 601 = orb (I 45 7) (I 45 8) (I 45 6) (orb (I 45 7) (I 45 8) (I 45 6) 601).length
      rw [orb_length]
    · rw [hk]
      show 601 ≤ (orb (I 45 7) (I 45 8) (I 45 6) 601).length + 0
      rw [orb_length]; omega
  · rw [if_pos hk, if_pos hk]
    have hL : srcL B (I 45 5) (I 45 6) (I 45 7) (I 45 8) = B := by unfold srcL; rw [if_pos hk]
    refine core _ _ (fun K hK k46 kb => .inr (.inl ⟨rfl, hK.1, ?_, ?_, 0, hK.2.1, ?_, fun j hj => ?_⟩))
    · rw [kb 5 (by decide), mb 5 (by decide)]; exact hk
    · rw [hK.2.2, hL]; exact h2
    · rw [hL]; omega
    · rw [hL] at hj ⊢
      rw [Nat.zero_add, k46, mo 46 (by decide)]; exact h46 j hj
  · obtain ⟨m, hm1, hm2⟩ := hb hk
    have n0 : ¬ I 45 5 = 0 := by rw [hk]; decide
    rw [if_neg n0, if_neg n0, if_pos hk]
    have hL : srcL B (I 45 5) (I 45 6) (I 45 7) (I 45 8) = up (I 45 6) m := by unfold srcL; rw [hk, if_neg (by decide), if_pos rfl, hm2, nI_clamp (by omega)]
    refine core _ _ (fun K hK k46 kb => .inl ⟨rfl, hK.1, ?_, ?_, ?_, ?_⟩)
    · rw [kb 5 (by decide), mb 5 (by decide)]; exact hk
    · rw [hK.2.2, hL, up_length]; exact hm2
    · rw [hL, up_length]; omega
    · rw [hL, up_length, hK.2.1]
