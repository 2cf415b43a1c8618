/-! the program's pool does as the functions say -/
def WIs (I : Mem) (w : Nat) (xs : List Nat) (d f : Nat) : Prop := I (37 + 2 * w) 1 = nI f ∧ I (37 + 2 * w) 2 = nI (f + xs.length) ∧ I (37 + 2 * w) 3 = nI d ∧ ∀ j, j < xs.length → I (37 + 2 * w + 1) (f + j) = nI (xs.getD j 0)
theorem WIs.of {I J : Mem} {w : Nat} {xs : List Nat} {d f : Nat} (h : WIs I w xs d f) (h1 : J (37 + 2 * w) = I (37 + 2 * w)) (h2 : J (37 + 2 * w + 1) = I (37 + 2 * w + 1)) : WIs J w xs d f := by
  obtain ⟨a, b, c, e⟩ := h
  exact ⟨by rw [h1]; exact a, by rw [h1]; exact b, by rw [h1]; exact c, fun j hj => by rw [h2]; exact e j hj⟩
def WOnly (I J : Mem) (w : Nat) : Prop := ∀ c, c ≠ 37 + 2 * w → c ≠ 37 + 2 * w + 1 → J c = I c
theorem WOnly.trans {I J K : Mem} {w : Nat} (h : WOnly I J w) (h2 : WOnly J K w) : WOnly I K w := fun c a b => (h2 c a b).trans (h c a b)
theorem ln_wk {w : Nat} (h : w < 4) : ln (37 + 2 * w + 1) = 80 := by
  have : w = 0 ∨ w = 1 ∨ w = 2 ∨ w = 3 := by omega
  rcases this with rfl | rfl | rfl | rfl <;> rfl
theorem addTask_eq {I : Mem} {w s d f : Nat} {xs : List Nat} (hw : w < 4) (h : WIs I w xs d f) (hr : f + xs.length < 80) : ∃ J, f_X8_addTask I (37 + 2 * w) (nI s) = some J ∧ WIs J w (xs ++ [s]) d f ∧ WOnly I J w := by
  obtain ⟨a, b, c, e⟩ := h
  unfold f_X8_addTask
  rw [b, show (80 : Int32) = nI 80 from rfl, if_neg (nI_ge hr (by omega)), if_pos (inb_nI (by rw [ln_wk hw]; exact hr) (by rw [ln_wk hw]; decide)), nI_clamp (by omega)]
  refine ⟨_, rfl, ⟨?_, ?_, ?_, ?_⟩, ?_⟩
  · rw [st_k (by decide), st_ne (by omega)]; exact a
  · rw [st_s, st_ne (by omega), b, nI_1]; congr 1; simp; omega
  · rw [st_k (by decide), st_ne (by omega)]; exact c
  · intro j hj
    rw [st_ne (by omega), st_at]
    by_cases q : j = xs.length
    · subst q
      rw [if_pos ⟨rfl, rfl⟩]
      simp [List.getD_eq_getElem?_getD]
    · have hj2 : j < xs.length := by simp at hj; omega
      rw [if_neg (fun z => q (by omega)), e j hj2]
      simp [List.getD_eq_getElem?_getD, List.getElem?_append_left hj2]
  · intro c h1 h2
    rw [st_ne h1, st_ne h2]
theorem hasTasks_eq {I : Mem} {w d f : Nat} {xs : List Nat} (h : WIs I w xs d f) (hr : f + xs.length ≤ 80) : f_X8_hasTasks I (37 + 2 * w) = some (!xs.isEmpty, I) := by
  unfold f_X8_hasTasks
  rw [h.1, h.2.1]
  cases xs with
  | nil => rw [if_pos (nI_le (by simp) (by omega))]; rfl
  | cons y ys => rw [if_neg (nI_ge (by simp) (by omega))]; rfl
theorem takeLast_eq {I : Mem} {w s d f : Nat} {L : List Nat} (hw : w < 4) (h : WIs I w (L ++ [s]) d f) (hr : f + (L ++ [s]).length ≤ 80) : ∃ J, f_X8_takeLast I (37 + 2 * w) = some (nI s, J) ∧ WIs J w L d f ∧ WOnly I J w := by
  unfold f_X8_takeLast
  rw [hasTasks_eq h hr]
  obtain ⟨a, b, c, e⟩ := h
  have hl : (L ++ [s]).length = L.length + 1 := by simp
  rw [hl] at b e hr
  simp only [Option.bind_some, b2i_0]
  rw [if_neg (by simp), b, st_s]
  have hm : nI (f + (L.length + 1)) - 1 = nI (f + L.length) := nI_pred (f + L.length)
  rw [hm, if_pos (inb_nI (by rw [ln_wk hw]; omega) (by rw [ln_wk hw]; decide)), nI_clamp (by omega), st_ne (by omega), e L.length (by omega)]
  refine ⟨st I (37 + 2 * w) 2 (nI (f + L.length)), ?_, ⟨?_, ?_, ?_, ?_⟩, ?_⟩
  · simp [List.getD_eq_getElem?_getD]
  · rw [st_k (by decide)]; exact a
  · rw [st_s]
  · rw [st_k (by decide)]; exact c
  · intro j hj
    rw [st_ne (by omega), e j (by omega)]
    simp [List.getD_eq_getElem?_getD, List.getElem?_append_left hj]
  · intro c h1 h2
    rw [st_ne h1]
theorem takeFirst_eq {I : Mem} {w s d f : Nat} {L : List Nat} (hw : w < 4) (h : WIs I w (s :: L) d f) (hr : f + (s :: L).length ≤ 80) : ∃ J, f_X8_takeFirst I (37 + 2 * w) = some (nI s, J) ∧ WIs J w L d (f + 1) ∧ WOnly I J w := by
  unfold f_X8_takeFirst
  rw [hasTasks_eq h hr]
  obtain ⟨a, b, c, e⟩ := h
  have hl : (s :: L).length = L.length + 1 := by simp
  rw [hl] at b e hr
  simp only [Option.bind_some, b2i_0]
  rw [if_neg (by simp), a, st_s, nI_1, nI_pred, if_pos (inb_nI (by rw [ln_wk hw]; omega) (by rw [ln_wk hw]; decide)), nI_clamp (by omega), st_ne (by omega)]
  have e0' : I (37 + 2 * w + 1) f = nI s := e 0 (by omega)
  rw [e0']
  refine ⟨st I (37 + 2 * w) 1 (nI (f + 1)), rfl, ⟨?_, ?_, ?_, ?_⟩, ?_⟩
  · rw [st_s]
  · rw [st_k (by decide), b]; congr 1; omega
  · rw [st_k (by decide)]; exact c
  · intro j hj
    rw [st_ne (by omega), show f + 1 + j = f + (j + 1) by omega, e (j + 1) (by omega)]
    rfl
  · intro c h1 h2
    rw [st_ne h1]
/-- the pool's memory: o tasks in all, t turns -/
def PC (gr c o t sp : Nat) (p : Ps) (I : Mem) : Prop := I 35 1 = nI gr ∧ I 35 2 = nI c ∧ I 35 4 = nI o ∧ I 35 5 = nI t ∧ I 35 6 = nI p.2.2.2 ∧ ∀ w, w < 4 → ∃ f, WIs I w (p.1 w) (p.2.1 w) f ∧ f + (p.1 w).length ≤ 1 + 2 * sp
def CwOnly (I J : Mem) : Prop := (∀ c, c < 35 ∨ 45 ≤ c → J c = I c) ∧ J 35 3 = I 35 3
theorem CwOnly.trans {I J K : Mem} (h : CwOnly I J) (h2 : CwOnly J K) : CwOnly I K := ⟨fun c q => (h2.1 c q).trans (h.1 c q), h2.2.trans h.2⟩
theorem CwOnly.refl {I : Mem} : CwOnly I I := ⟨fun _ _ => rfl, rfl⟩
theorem WOnly.cw {I J : Mem} {w : Nat} (hw : w < 4) (h : WOnly I J w) : CwOnly I J := ⟨fun c q => h c (by omega) (by omega), by rw [h 35 (by omega) (by omega)]⟩
/-- a worker's row has changed -/
theorem PC.wk {gr c o t sp sp2 v g : Nat} {p : Ps} {I J : Mem} {xs : List Nat} (hv : v < 4) (h : PC gr c o t sp p I) (h1 : WIs J v xs (p.2.1 v) g) (h2 : g + xs.length ≤ 1 + 2 * sp2) (hs : sp ≤ sp2) (h3 : WOnly I J v) : PC gr c o t sp2 (updT p.1 v xs, p.2) J := by
  obtain ⟨a, b, d, e, f, k⟩ := h
  have h35 := h3 35 (by omega) (by omega)
  refine ⟨by rw [h35]; exact a, by rw [h35]; exact b, by rw [h35]; exact d, by rw [h35]; exact e, by rw [h35]; exact f, fun w hw => ?_⟩
  by_cases q : w = v
  · subst q
    refine ⟨g, ?_, ?_⟩
    · show WIs J w (updT p.1 w xs w) _ g
      rw [updT_s]; exact h1
    · show g + (updT p.1 w xs w).length ≤ _
      rw [updT_s]; exact h2
  · obtain ⟨f', f1, f2⟩ := k w hw
    refine ⟨f', ?_, ?_⟩
    · show WIs J w (updT p.1 v xs w) _ f'
      rw [updT_n q]
      exact f1.of (h3 _ (by omega) (by omega)) (h3 _ (by omega) (by omega))
    · show f' + (updT p.1 v xs w).length ≤ _
      rw [updT_n q]; omega
theorem PC.s35 {gr c o t sp o2 t2 th : Nat} {p : Ps} {I J : Mem} (h : PC gr c o t sp p I) (h0 : ∀ c, c ≠ 35 → J c = I c) (h1 : J 35 1 = I 35 1) (h2 : J 35 2 = I 35 2) (h4 : J 35 4 = nI o2) (h5 : J 35 5 = nI t2) (h6 : J 35 6 = nI th) : PC gr c o2 t2 sp (p.1, p.2.1, p.2.2.1, th) J := by
  obtain ⟨a, b, d, e, f, k⟩ := h
  refine ⟨by rw [h1]; exact a, by rw [h2]; exact b, h4, h5, h6, fun w hw => ?_⟩
  obtain ⟨f', f1, f2⟩ := k w hw
  exact ⟨f', f1.of (h0 _ (by omega)) (h0 _ (by omega)), f2⟩
theorem fin_psi {gr w v s th : Nat} {p : Ps} {L : List Nat} (hg : 1 ≤ gr) (hw : w < 4) (hv : v < 4) (hp : psi (p.1 v) = psi L + (s - 1)) : psiP (finS gr w s (updT p.1 v L, p.2.1, p.2.2.1, th)) + (if s ≤ gr then 0 else 1) ≤ psiP p := by
  have a2 := S4_upd (T := p.1) psi (v := v) (x := L) hv
  have b2 : S4 (fun w => psi (p.1 w)) = psiP p := rfl
  unfold finS
  by_cases q : s ≤ gr
  · rw [if_pos q, if_pos q]
    show S4 (fun w => psi (updT p.1 v L w)) + 0 ≤ _
    omega
  · rw [if_neg q, if_neg q]
    have c2 := S4_upd (T := updT p.1 v L) psi (v := w) (x := updT p.1 v L w ++ [s - s / 2, s / 2]) hw
    rw [psi_app] at c2
    have c3 : psi [s - s / 2, s / 2] = s - 2 := by
      show (s - s / 2 - 1) + ((s / 2 - 1) + 0) = s - 2
      omega
    rw [c3] at c2
    show S4 (fun u => psi (updT (updT p.1 v L) w (updT p.1 v L w ++ [s - s / 2, s / 2]) u)) + 1 ≤ _
    omega
theorem finJ_eq {gr c o t sp w s : Nat} {p : Ps} {I : Mem} (pp : Int32) (hw : w < 4) (hg : gr ≤ 20) (hs : s ≤ 40) (ho : o = lenP p + 1) (hsp : gr < s → sp ≤ 38) (h : PC gr c o t sp p I) :
    ∃ J, f_X0_takeTurn_J26 pp I (37 + 2 * w) (nI s) = some J ∧ PC gr c (lenP (finS gr w s p)) t (sp + (if s ≤ gr then 0 else 1)) (finS gr w s p) J ∧ CwOnly I J := by
  have h0 := h
  obtain ⟨a, b, d, e, f, k⟩ := h
  unfold f_X0_takeTurn_J26 finS
  rw [a]
  by_cases q : s ≤ gr
  · rw [if_pos (nI_le q (by omega)), if_pos q, if_pos q]
    obtain ⟨f', f1, f2⟩ := k w hw
    refine ⟨_, rfl, ⟨?_, ?_, ?_, ?_, ?_, fun u hu => ?_⟩, fun c z => ?_, ?_⟩
    · rw [st_k (by decide), st_ne (by omega)]; exact a
    · rw [st_k (by decide), st_ne (by omega)]; exact b
    · rw [st_s, st_ne (by omega), d, ho, nI_pred]; rfl
    · rw [st_k (by decide), st_ne (by omega)]; exact e
    · rw [st_k (by decide), st_ne (by omega)]; exact f
    · by_cases z : u = w
      · subst z
        refine ⟨f', ⟨?_, ?_, ?_, ?_⟩, by simpa using f2⟩
        · rw [st_ne (by omega), st_k (by decide)]; exact f1.1
        · rw [st_ne (by omega), st_k (by decide)]; exact f1.2.1
        · rw [st_ne (by omega), st_s, f1.2.2.1, nI_1]
          show _ = nI (updT p.2.1 u (p.2.1 u + 1) u)
          rw [updT_s]
        · intro j hj
          rw [st_ne (by omega), st_ne (by omega)]; exact f1.2.2.2 j hj
      · obtain ⟨f'', g1, g2⟩ := k u hu
        refine ⟨f'', ?_, by simpa using g2⟩
        show WIs _ u (p.1 u) (updT p.2.1 w (p.2.1 w + 1) u) f''
        rw [updT_n z]
        exact g1.of (by rw [st_ne (by omega), st_ne (by omega)]) (by rw [st_ne (by omega), st_ne (by omega)])
    · rw [st_ne (by omega), st_ne (by omega)]
    · rw [st_k (by decide), st_ne (by omega)]
  · rw [if_neg (nI_ge (by omega) (by omega)), if_neg q, if_neg q, if_neg (by decide), e2, pk_div (by omega) (by omega) (by omega), pk_sub (Nat.div_le_self s 2)]
    obtain ⟨f', f1, f2⟩ := k w hw
    have h38 := hsp (by omega)
    obtain ⟨J, g1, g2, g3⟩ := addTask_eq (s := s - s / 2) hw f1 (by omega)
    obtain ⟨K, k1, k2, k3⟩ := addTask_eq (s := s / 2) hw g2 (by simp; omega)
    rw [g1]
    simp only [Option.bind_some]
    rw [if_neg (by decide), k1]
    simp only [Option.bind_some]
    rw [List.append_assoc] at k2
    have h9 := h0.wk (sp2 := sp + 1) hw k2 (by simp; omega) (by omega) (g3.trans k3)
    have hlen : lenP (updT p.1 w (p.1 w ++ [s - s / 2, s / 2]), p.2.1, p.2.2.1 + 1, p.2.2.2) = o + 1 := by
      have := S4_upd (T := p.1) List.length (v := w) (x := p.1 w ++ [s - s / 2, s / 2]) hw
      rw [List.length_append] at this
      have c4 : [s - s / 2, s / 2].length = 2 := rfl
      rw [c4] at this
      have c5 : S4 (fun w => (p.1 w).length) = lenP p := rfl
      show S4 (fun u => (updT p.1 w (p.1 w ++ [s - s / 2, s / 2]) u).length) = o + 1
      omega
    have hK4 := h9.2.2.1
    have hK5 := h9.2.2.2.1
    have hK6 := h9.2.2.2.2.1
    have h10 := h9.s35 (J := st K 35 4 (K 35 4 + 1)) (o2 := o + 1) (t2 := t) (th := p.2.2.2) (fun c z => st_ne z) (by rw [st_k (by decide)]) (by rw [st_k (by decide)]) (by rw [st_s, hK4, nI_1]) (by rw [st_k (by decide)]; exact hK5) (by rw [st_k (by decide)]; exact hK6)
    refine ⟨_, rfl, ?_, ?_⟩
    · rw [hlen]
      exact h10
    · have hcw := (g3.trans k3).cw hw
      refine ⟨fun c z => by rw [st_ne (by omega)]; exact hcw.1 c z, by rw [st_k (by decide)]; exact hcw.2⟩
theorem steal_L {gr c o t sp w : Nat} {p : Ps} {I : Mem} (pp : Int32) (hc : 1 ≤ c) (h4 : c ≤ 4) (hw : w < c) (h : PC gr c o t sp p I) (hsp : sp ≤ 39) : ∀ (r i n : Nat), i + r = c → r < n → ∀ v, steal p.1 c w r i = some v → ∀ s L, p.1 v = s :: L →
    ∃ J, f_X0_stolenBy_L2 pp n I (nI w) (nI i) = some (nI s, J) ∧ PC gr c o t sp (updT p.1 v L, p.2.1, p.2.2.1, p.2.2.2 + 1) J ∧ CwOnly I J := by
  intro r
  induction r with
  | zero => intro i n hi hn v hv; simp [steal] at hv
  | succ r ih =>
    intro i n hi hn v hv s L hL
    obtain ⟨n, rfl⟩ : ∃ m, n = m + 1 := ⟨n - 1, by omega⟩
    have h0 := h
    obtain ⟨a, b, d, e, f, k⟩ := h
    have hm : (w + i) % c < c := Nat.mod_lt _ (by omega)
    obtain ⟨f', f1, f2⟩ := k ((w + i) % c) (by omega)
    unfold f_X0_stolenBy_L2
    unfold steal at hv
    rw [b, if_neg (nI_ge (by omega) (by omega)), if_neg (nI_ne0 (by omega) (by omega)), nI_add, pk_rem (by omega) (by omega) (by omega), if_pos (inb_nI (show (w + i) % c < ln 36 by show (w + i) % c < 4; omega) (by decide)), nI_clamp (by omega), hasTasks_eq f1 (by omega)]
    simp only [Option.bind_some, b2i_0]
    by_cases q : p.1 ((w + i) % c) = []
    · rw [if_pos q] at hv
      rw [q, if_pos (show (!([] : List Nat).isEmpty) = false from rfl), e1, nI_add]
      exact ih (i + 1) n (by omega) (by omega) v hv s L hL
    · rw [if_neg q] at hv
      have hv2 := Option.some.inj hv
      have hne : (!(p.1 ((w + i) % c)).isEmpty) = true := by simp [q]
      rw [hne, if_neg (by decide)]
      subst hv2
      rw [hL] at f1 f2
      have h9 := h0.s35 (J := st I 35 6 (I 35 6 + 1)) (o2 := o) (t2 := t) (th := p.2.2.2 + 1) (fun c z => st_ne z) (by rw [st_k (by decide)]) (by rw [st_k (by decide)]) (by rw [st_k (by decide)]; exact d) (by rw [st_k (by decide)]; exact e) (by rw [st_s, f, nI_1])
      obtain ⟨J, g1, g2, g3⟩ := takeFirst_eq (show (w + i) % c < 4 by omega) (f1.of (J := st I 35 6 (I 35 6 + 1)) (by rw [st_ne (by omega)]) (by rw [st_ne (by omega)])) (by omega)
      rw [g1]
      have h10 := h9.wk (sp2 := sp) (show (w + i) % c < 4 by omega) g2 (by simp at f2; omega) (Nat.le_refl _) g3
      have hcw := g3.cw (show (w + i) % c < 4 by omega)
      exact ⟨J, rfl, h10, CwOnly.trans ⟨fun c z => st_ne (by omega), by rw [st_k (by decide)]⟩ hcw⟩
theorem lenP_upd {p : Ps} {v th : Nat} {L : List Nat} (hv : v < 4) (h : (p.1 v).length = L.length + 1) : lenP p = lenP (updT p.1 v L, p.2.1, p.2.2.1, th) + 1 := by
  have a1 := S4_upd (T := p.1) List.length (v := v) (x := L) hv
  show S4 (fun w => (p.1 w).length) = S4 (fun w => (updT p.1 v L w).length) + 1
  omega
theorem turn_eq {gr c t sp w : Nat} {p : Ps} {I : Mem} (hg : 1 ≤ gr) (hg2 : gr ≤ 20) (hc : 1 ≤ c) (h4 : c ≤ 4) (hw : w < c) (hp : PI c p) (h0 : lenP p ≠ 0) (hsp : sp + psiP p ≤ 39) (h : PC gr c (lenP p) t sp p I) :
    ∃ J sp2, f_X0_takeTurn I (nI w) = some J ∧ PC gr c (lenP (turnS gr c w p)) t sp2 (turnS gr c w p) J ∧ sp2 + psiP (turnS gr c w p) ≤ 39 ∧ CwOnly I J := by
  unfold f_X0_takeTurn
  obtain ⟨f', f1, f2⟩ := h.2.2.2.2.2 w (by omega)
  rw [if_pos (inb_nI (show w < ln 36 by show w < 4; omega) (by decide)), nI_clamp (by omega), hasTasks_eq f1 (by omega)]
  simp only [Option.bind_some, b2i_0]
  rcases turn_cases (gr := gr) h4 hw hp h0 with ⟨L, s, a, b⟩ | ⟨v, L, s, a, b, c1, c2, c3, c4⟩
  · rw [b]
    have hl : (p.1 w).length = L.length + 1 := by rw [a]; simp
    have hpsi : psi (p.1 w) = psi L + (s - 1) := by rw [a, psi_app]; simp [psi]
    obtain ⟨_, _, z⟩ := fin_PI (gr := gr) (th := p.2.2.2) (L := L) (s := s) hg h4 hw hw hp hl hpsi
    have hfp := fin_psi (gr := gr) (th := p.2.2.2) (w := w) (v := w) hg (by omega) (by omega) hpsi
    rw [a] at f1 f2
    rw [show (!(p.1 w).isEmpty) = true by rw [a]; simp, if_neg (by decide)]
    obtain ⟨J, g1, g2, g3⟩ := takeLast_eq (by omega) f1 (by omega)
    rw [g1]
    simp only [Option.bind_some]
    have h9 := h.wk (sp2 := sp) (show w < 4 by omega) g2 (by simp at f2; omega) (Nat.le_refl _) g3
    have hsp2 : gr < s → sp ≤ 38 := fun q => by rw [if_neg (by omega)] at hfp; omega
    obtain ⟨K, k1, k2, k3⟩ := finJ_eq (nI w) (show w < 4 by omega) hg2 z (lenP_upd (th := p.2.2.2) (by omega) hl) hsp2 h9
    exact ⟨K, _, k1, k2, by omega, (g3.cw (by omega)).trans k3⟩
  · rw [c4]
    have hl : (p.1 v).length = L.length + 1 := by rw [c3]; simp
    have hpsi : psi (p.1 v) = psi L + (s - 1) := by rw [c3]; simp [psi]; omega
    obtain ⟨_, _, z⟩ := fin_PI (gr := gr) (th := p.2.2.2 + 1) (L := L) (s := s) hg h4 hw b hp hl hpsi
    have hfp := fin_psi (gr := gr) (th := p.2.2.2 + 1) (w := w) (v := v) hg (by omega) (by omega) hpsi
    rw [show (!(p.1 w).isEmpty) = false by rw [a]; rfl, if_pos rfl]
    unfold f_X0_stolenBy
    obtain ⟨J, g1, g2, g3⟩ := steal_L (nI w) hc h4 hw h (by omega) (c - 1) 1 FU (by omega) (by rw [FU_eq]; omega) v c2 s L c3
    rw [e1, g1]
    simp only [Option.bind_some]
    have hsp2 : gr < s → sp ≤ 38 := fun q => by rw [if_neg (by omega)] at hfp; omega
    obtain ⟨K, k1, k2, k3⟩ := finJ_eq (nI w) (show w < 4 by omega) hg2 z (lenP_upd (th := p.2.2.2 + 1) (by omega) hl) hsp2 g2
    exact ⟨K, _, k1, k2, by omega, g3.trans k3⟩
theorem turnS_t {gr c w : Nat} {p : Ps} (hc : c ≤ 4) (hw : w < c) (h : PI c p) (h0 : lenP p ≠ 0) : (turnS gr c w p).2.2.1 = p.2.2.1 + 1 := by
  rcases turn_cases (gr := gr) hc hw h h0 with ⟨L, s, a, b⟩ | ⟨v, L, s, a, b, c1, c2, c3, c4⟩
  · rw [b]; unfold finS; split <;> rfl
  · rw [c4]; unfold finS; split <;> rfl
theorem crew_L {gr c : Nat} (pp : Int32) (hg : 1 ≤ gr) (hg2 : gr ≤ 20) (hc : 1 ≤ c) (h4 : c ≤ 4) : ∀ (m n : Nat) (s : Int32) (sp : Nat) (p : Ps) (I : Mem), 2 * psiP p + lenP p ≤ m → m < n → PI c p → sp + psiP p ≤ 39 → PC gr c (lenP p) p.2.2.1 sp p I →
    ∃ J sp2, f_X0_workThrough_L52 pp n I s = some J ∧ PC gr c 0 (runP gr c m s p).2.2.1 sp2 (runP gr c m s p) J ∧ CwOnly I J := by
  intro m
  induction m with
  | zero =>
    intro n s sp p I hm hn hp hsp h
    obtain ⟨n, rfl⟩ : ∃ m, n = m + 1 := ⟨n - 1, by omega⟩
    have hz : lenP p = 0 := by omega
    unfold f_X0_workThrough_L52 runP
    rw [h.2.2.1, hz, if_pos (by rw [e0]; exact nI_le (Nat.le_refl _) (by omega))]
    rw [hz] at h
    exact ⟨I, sp, rfl, h, CwOnly.refl⟩
  | succ m ih =>
    intro n s sp p I hm hn hp hsp h
    obtain ⟨n, rfl⟩ : ∃ m, n = m + 1 := ⟨n - 1, by omega⟩
    have hp3 := hp.2.2
    have hp2 := hp.2.1
    unfold f_X0_workThrough_L52 runP
    rw [h.2.2.1]
    by_cases hz : lenP p = 0
    · rw [hz, if_pos (by rw [e0]; exact nI_le (Nat.le_refl _) (by omega)), if_pos rfl]
      rw [hz] at h
      exact ⟨I, sp, rfl, h, CwOnly.refl⟩
    · rw [if_neg (by rw [e0]; exact nI_ge (by omega) (by omega)), if_neg hz, h.2.2.2.1, show (80 : Int32) = nI 80 from rfl, if_neg (nI_ge (by omega) (by omega)), h.2.1, if_neg (nI_ne0 (by omega) (by omega)), w_of _ (by omega) h4]
      have hw := wOf_lt (nxt s) (show 0 < c by omega)
      obtain ⟨J, sp2, g1, g2, g3, g4⟩ := turn_eq (gr := gr) hg hg2 hc h4 hw hp hz hsp h
      obtain ⟨u1, u2⟩ := turn_PI (gr := gr) hg h4 hw hp hz
      have ht := turnS_t (gr := gr) h4 hw hp hz
      rw [show (s * (1103515245 : Int32)) + (12345 : Int32) = nxt s from rfl, g1]
      simp only [Option.bind_some]
      have h9 := g2.s35 (J := st J 35 5 (J 35 5 + 1)) (o2 := lenP (turnS gr c (wOf (nxt s) c) p)) (t2 := p.2.2.1 + 1) (th := (turnS gr c (wOf (nxt s) c) p).2.2.2) (fun c z => st_ne z) (by rw [st_k (by decide)]) (by rw [st_k (by decide)]) (by rw [st_k (by decide)]; exact g2.2.2.1) (by rw [st_s, g2.2.2.2.1, nI_1]) (by rw [st_k (by decide)]; exact g2.2.2.2.2.1)
      rw [← ht] at h9
      obtain ⟨K, sp3, k1, k2, k3⟩ := ih n (nxt s) sp2 (turnS gr c (wOf (nxt s) c) p) _ (by omega) (by omega) u1 g3 h9
      exact ⟨K, sp3, k1, k2, g4.trans (CwOnly.trans ⟨fun c z => st_ne (by omega), by rw [st_k (by decide)]⟩ k3)⟩
