theorem cl0 : (0 : Int32).toNatClampNeg = 0 := rfl
theorem crew0_L {gr c sz : Nat} (pp : Int32) (hg : 1 ≤ gr) (hg2 : gr ≤ 20) (hc : 1 ≤ c) (h4 : c ≤ 4) (hz : sz ≤ 40) : ∀ (r i n : Nat) (I : Mem), i + r = 4 → r < n → I 35 1 = nI gr → I 35 2 = nI c → (∀ v, v < i → WIs I v [] 0 0) →
    ∃ J sp, f_X0_workThrough_L2 pp n I (nI sz) (nI i) = some J ∧ PC gr c 0 (runP gr c 79 (I 35 3) (p0S sz)).2.2.1 sp (runP gr c 79 (I 35 3) (p0S sz)) J ∧ CwOnly I J := by
  intro r
  induction r with
  | zero =>
    intro i n I hi hn h1 h2 hv
    obtain ⟨n, rfl⟩ : ∃ m, n = m + 1 := ⟨n - 1, by omega⟩
    have hi4 : i = 4 := by omega
    subst hi4
    unfold f_X0_workThrough_L2
    rw [show (4 : Int32) = nI 4 from rfl, if_pos (nI_le (Nat.le_refl _) (by omega)), if_pos (by decide), cl0]
    have hv2 : ∀ v, v < 4 → WIs (st (st I 35 5 0) 35 6 0) v [] 0 0 := fun v q => (hv v q).of (by rw [st_ne (by omega), st_ne (by omega)]) (by rw [st_ne (by omega), st_ne (by omega)])
    obtain ⟨J, g1, g2, g3⟩ := addTask_eq (s := sz) (show 0 < 4 by omega) (hv2 0 (by omega)) (by decide)
    rw [g1]
    simp only [Option.bind_some]
    have hlen : lenP (p0S sz) = 1 := by simp [lenP, p0S, S4, updT]
    have hpsi : psiP (p0S sz) = sz - 1 := by simp [psiP, p0S, S4, updT, psi]
    have h35 : J 35 = (st (st I 35 5 0) 35 6 0) 35 := g3 35 (by omega) (by omega)
    have hPC : PC gr c (lenP (p0S sz)) (p0S sz).2.2.1 0 (p0S sz) (st J 35 4 1) := by
      rw [hlen]
      refine ⟨?_, ?_, ?_, ?_, ?_, fun w hw => ⟨0, ?_, ?_⟩⟩
      · rw [st_k (by decide), h35, st_k (by decide), st_k (by decide)]; exact h1
      · rw [st_k (by decide), h35, st_k (by decide), st_k (by decide)]; exact h2
      · rw [st_s]; rfl
      · rw [st_k (by decide), h35, st_k (by decide), st_s]; rfl
      · rw [st_k (by decide), h35, st_s]; rfl
      · by_cases q : w = 0
        · subst q
          exact g2.of (by rw [st_ne (by omega)]) (by rw [st_ne (by omega)])
        · show WIs _ w (updT (fun _ => []) 0 [sz] w) 0 0
          rw [updT_n q]
          exact (hv2 w hw).of (by rw [st_ne (by omega), g3 _ (by omega) (by omega)]) (by rw [st_ne (by omega), g3 _ (by omega) (by omega)])
      · show 0 + (updT (fun _ => []) 0 [sz] w).length ≤ 1
        by_cases q : w = 0
        · subst q; rw [updT_s]; simp
        · rw [updT_n q]; simp
    have hseed : (st J 35 4 1) 35 3 = I 35 3 := by
      rw [st_k (by decide), h35, st_k (by decide), st_k (by decide)]
    rw [hseed]
    obtain ⟨K, sp, k1, k2, k3⟩ := crew_L pp hg hg2 hc h4 79 FU (I 35 3) 0 (p0S sz) (st J 35 4 1) (by omega) (by rw [FU_eq]; omega) (p0_PI hc hz) (by omega) hPC
    refine ⟨K, sp, k1, k2, CwOnly.trans ⟨fun c q => ?_, hseed⟩ k3⟩
    rw [st_ne (by omega), g3 c (by omega) (by omega), st_ne (by omega), st_ne (by omega)]
  | succ r ih =>
    intro i n I hi hn h1 h2 hv
    obtain ⟨n, rfl⟩ : ∃ m, n = m + 1 := ⟨n - 1, by omega⟩
    unfold f_X0_workThrough_L2 f_X8_begin
    rw [show (4 : Int32) = nI 4 from rfl, if_neg (nI_ge (by omega) (by omega)), if_pos (inb_nI (show i < ln 36 by show i < 4; omega) (by decide)), nI_clamp (by omega)]
    simp only [Option.bind_some]
    rw [e1, nI_add]
    generalize hM : (st (st (st I (37 + 2 * i) 1 (0 : Int32)) (37 + 2 * i) 2 (0 : Int32)) (37 + 2 * i) 3 (0 : Int32)) = M
    have hMo : ∀ c, c ≠ 37 + 2 * i → M c = I c := fun c q => by rw [← hM, st_ne q, st_ne q, st_ne q]
    obtain ⟨J, sp, g1, g2, g3⟩ := ih (i + 1) n M (by omega) (by omega) (by rw [hMo 35 (by omega)]; exact h1) (by rw [hMo 35 (by omega)]; exact h2) (fun v q => by
      by_cases z : v = i
      · subst z
        rw [← hM]
        refine ⟨?_, ?_, ?_, fun j hj => absurd hj (Nat.not_lt_zero j)⟩
        · rw [st_k (by decide), st_k (by decide), st_s]; rfl
        · rw [st_k (by decide), st_s]; rfl
        · rw [st_s]; rfl
      · exact (hv v (by omega)).of (hMo _ (by omega)) (hMo _ (by omega)))
    rw [hMo 35 (by omega)] at g2
    exact ⟨J, sp, g1, g2, CwOnly.trans ⟨fun c q => hMo c (by omega), by rw [hMo 35 (by omega)]⟩ g3⟩
theorem crew_eq {gr c sz : Nat} (hg : 1 ≤ gr) (hg2 : gr ≤ 20) (hc : 1 ≤ c) (h4 : c ≤ 4) (hz : sz ≤ 40) {I : Mem} (h1 : I 35 1 = nI gr) (h2 : I 35 2 = nI c) :
    ∃ J sp, f_X0_workThrough I (nI sz) = some J ∧ PC gr c 0 (runP gr c 79 (I 35 3) (p0S sz)).2.2.1 sp (runP gr c 79 (I 35 3) (p0S sz)) J ∧ CwOnly I J := by
  unfold f_X0_workThrough
  rw [e0]
  exact crew0_L (nI sz) hg hg2 hc h4 hz 4 0 FU I (by omega) (by rw [FU_eq]; omega) h1 h2 (fun v q => absurd q (Nat.not_lt_zero v))
