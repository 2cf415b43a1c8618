theorem kk_0 : kd 0 = 9 := by decide
theorem kk_1 : kd 1 = 5 := by decide
theorem kk_2 : kd 2 = 11 := by decide
theorem kk_3 : kd 3 = 3 := by decide
theorem kk_4 : kd 4 = 6 := by decide
theorem kk_5 : kd 5 = 13 := by decide
theorem kk_6 : kd 6 = 7 := by decide
theorem kk_7 : kd 7 = 5 := by decide
theorem kk_8 : kd 8 = 11 := by decide
theorem kk_9 : kd 9 = 7 := by decide
theorem kk_10 : kd 10 = 5 := by decide
theorem kk_11 : kd 11 = 11 := by decide
theorem kk_12 : kd 12 = 7 := by decide
theorem kk_13 : kd 13 = 5 := by decide
theorem kk_14 : kd 14 = 11 := by decide
theorem kk_15 : kd 15 = 7 := by decide
theorem kk_16 : kd 16 = 5 := by decide
theorem kk_17 : kd 17 = 11 := by decide
theorem kk_18 : kd 18 = 7 := by decide
theorem kk_19 : kd 19 = 5 := by decide
theorem kk_20 : kd 20 = 11 := by decide
theorem kk_21 : kd 21 = 7 := by decide
theorem kk_22 : kd 22 = 5 := by decide
theorem kk_23 : kd 23 = 11 := by decide
theorem kk_24 : kd 24 = 1 := by decide
theorem kk_25 : kd 25 = 5 := by decide
theorem kk_26 : kd 26 = 11 := by decide
theorem kk_27 : kd 27 = 5 := by decide
theorem kk_28 : kd 28 = 11 := by decide
theorem kk_29 : kd 29 = 2 := by decide
theorem kk_30 : kd 30 = 4 := by decide
theorem kk_31 : kd 31 = 5 := by decide
theorem kk_32 : kd 32 = 11 := by decide
theorem kk_33 : kd 33 = 5 := by decide
theorem kk_34 : kd 34 = 11 := by decide
theorem kk_35 : kd 35 = 0 := by decide
theorem kk_36 : kd 36 = 14 := by decide
theorem kk_37 : kd 37 = 8 := by decide
theorem kk_38 : kd 38 = 11 := by decide
theorem kk_39 : kd 39 = 8 := by decide
theorem kk_40 : kd 40 = 11 := by decide
theorem kk_41 : kd 41 = 8 := by decide
theorem kk_42 : kd 42 = 11 := by decide
theorem kk_43 : kd 43 = 8 := by decide
theorem kk_44 : kd 44 = 11 := by decide
theorem kk_45 : kd 45 = 10 := by decide
theorem kk_46 : kd 46 = 11 := by decide
theorem kk_47 : kd 47 = 11 := by decide
theorem kk_48 : kd 48 = 11 := by decide
theorem kk_49 : kd 49 = 11 := by decide
theorem kk_50 : kd 50 = 11 := by decide
theorem kk_51 : kd 51 = 11 := by decide
theorem kk_52 : kd 52 = 12 := by decide
theorem kk_53 : kd 53 = 11 := by decide
theorem kk_54 : kd 54 = 11 := by decide
theorem kk_55 : kd 55 = 11 := by decide
theorem kk_56 : kd 56 = 11 := by decide
theorem kk_57 : kd 57 = 11 := by decide
theorem kk_58 : kd 58 = 11 := by decide
theorem kk_59 : kd 59 = 11 := by decide
theorem kk_60 : kd 60 = 11 := by decide
theorem kk_61 : kd 61 = 11 := by decide
theorem kk_62 : kd 62 = 11 := by decide
theorem kk_63 : kd 63 = 11 := by decide
theorem kk_64 : kd 64 = 11 := by decide
theorem kk_65 : kd 65 = 15 := by decide
theorem cE_5 {ad : Nat → Nat} {ca : Nat → ClassId} {i : Nat} {r : Nat → Int32} (h : kd i = 5) : cellE ad ca i r = .inr (5, [.ref (ad (i + 1)), .int (r 1)]) := by simp [cellE, h]
theorem cE_7 {ad : Nat → Nat} {ca : Nat → ClassId} {i : Nat} {r : Nat → Int32} (h : kd i = 7) : cellE ad ca i r = .inr (7, [.ref (ad (i + 1)), .int (r 1), .int (r 2), .int (r 3), .int (r 4), .int (r 5)]) := by simp [cellE, h]
theorem cE_8 {ad : Nat → Nat} {ca : Nat → ClassId} {i : Nat} {r : Nat → Int32} (h : kd i = 8) : cellE ad ca i r = .inr (8, [.ref (ad (i + 1)), .int (r 1), .int (r 2), .int (r 3)]) := by simp [cellE, h]
theorem cE_0 {ad : Nat → Nat} {ca : Nat → ClassId} {i : Nat} {r : Nat → Int32} (h : kd i = 0) : cellE ad ca i r = .inr (0, [.ref (ad 36), .int (r 1), .int (r 2), .int (r 3), .int (r 4), .int (r 5), .int (r 6)]) := by simp [cellE, h]
theorem cE_1 {ad : Nat → Nat} {ca : Nat → ClassId} {i : Nat} {r : Nat → Int32} (h : kd i = 1) : cellE ad ca i r = .inr (1, [.ref (ad (r 0).toNatClampNeg), .ref (ad (r 1).toNatClampNeg), .int (r 2), .int (r 3), .int (r 4), .int (r 5), .int (r 6), .int (r 7)]) := by simp [cellE, h]
theorem cE_2 {ad : Nat → Nat} {ca : Nat → ClassId} {i : Nat} {r : Nat → Int32} (h : kd i = 2) : cellE ad ca i r = .inr (2, [.ref (ad 3), .ref (ad 24), .int (r 2), .int (r 3)]) := by simp [cellE, h]
theorem cE_3 {ad : Nat → Nat} {ca : Nat → ClassId} {i : Nat} {r : Nat → Int32} (h : kd i = 3) : cellE ad ca i r = .inr (3, [.ref (ad 4), .ref (ad 5), .int (r 2), .int (r 3), .int (r 4)]) := by simp [cellE, h]
theorem cE_4 {ad : Nat → Nat} {ca : Nat → ClassId} {i : Nat} {r : Nat → Int32} (h : kd i = 4) : cellE ad ca i r = .inr (4, [.ref (ad 3), .ref (ad 24), .ref (ad 31), .ref (ad 33)]) := by simp [cellE, h]
theorem cE_6 {ad : Nat → Nat} {ca : Nat → ClassId} {i : Nat} {r : Nat → Int32} (h : kd i = 6) : cellE ad ca i r = .inr (6, [.ref (ad 1), .int (r 1), .int (r 2), .int (r 3), .int (r 4), .int (r 5)]) := by simp [cellE, h]
theorem cE_9 {ad : Nat → Nat} {ca : Nat → ClassId} {i : Nat} {r : Nat → Int32} (h : kd i = 9) : cellE ad ca i r = .inr (9, [.ref (ad 1), .ref (ad 3), .ref (ad 24), .ref (ad 29), .ref (ad 30), .ref (ad 35)]) := by simp [cellE, h]
theorem cE_10 {ad : Nat → Nat} {ca : Nat → ClassId} {i : Nat} {r : Nat → Int32} (h : kd i = 10) : cellE ad ca i r = .inr (10, [.int (r 0), .ref (ad 46), .int (r 2), .int (r 3), .int (r 4), .int (r 5), .int (r 6), .int (r 7), .int (r 8), .int (r 9), .ref (ad 47), .ref (ad 48), .ref (ad 49), .ref (ad 50), .ref (ad 51), .ref (ad 52), .ref (ad 53), .int (r 17), .ref (ad 54), .ref (ad 55), .ref (ad 56), .int (r 21), .int (r 22), .int (r 23), .int (r 24), .int (r 25), .int (r 26), .int (r 27), .int (r 28), .ref (ad 57), .int (r 30), .ref (ad 58), .ref (ad 59), .ref (ad 60), .int (r 34), .int (r 35), .int (r 36), .int (r 37), .int (r 38), .ref (ad 61), .ref (ad 62), .ref (ad 63), .ref (ad 64)]) := by simp [cellE, h]
theorem inX0 : ∀ w ∈ u_ws RX0 TX0 7, w ∈ TBG := by
  have h : ∀ w ∈ u_ws RX0 TX0 7, w ∈ lw_tbl ∧ goodWord w = true := by decide +kernel
  exact fun w hw => in_TBG (h w hw).1 (h w hw).2
theorem inX1 : ∀ w ∈ u_ws RX1 TX1 8, w ∈ TBG := by
  have h : ∀ w ∈ u_ws RX1 TX1 8, w ∈ lw_tbl ∧ goodWord w = true := by decide +kernel
  exact fun w hw => in_TBG (h w hw).1 (h w hw).2
theorem inX2 : ∀ w ∈ u_ws RX2 TX2 4, w ∈ TBG := by
  have h : ∀ w ∈ u_ws RX2 TX2 4, w ∈ lw_tbl ∧ goodWord w = true := by decide +kernel
  exact fun w hw => in_TBG (h w hw).1 (h w hw).2
theorem inX3 : ∀ w ∈ u_ws RX3 TX3 5, w ∈ TBG := by
  have h : ∀ w ∈ u_ws RX3 TX3 5, w ∈ lw_tbl ∧ goodWord w = true := by decide +kernel
  exact fun w hw => in_TBG (h w hw).1 (h w hw).2
theorem inX4 : ∀ w ∈ u_ws RX4 TX4 4, w ∈ TBG := by
  have h : ∀ w ∈ u_ws RX4 TX4 4, w ∈ lw_tbl ∧ goodWord w = true := by decide +kernel
  exact fun w hw => in_TBG (h w hw).1 (h w hw).2
theorem inX5 : ∀ w ∈ u_ws RX5 TX5 2, w ∈ TBG := by
  have h : ∀ w ∈ u_ws RX5 TX5 2, w ∈ lw_tbl ∧ goodWord w = true := by decide +kernel
  exact fun w hw => in_TBG (h w hw).1 (h w hw).2
theorem inX6 : ∀ w ∈ u_ws RX6 TX6 6, w ∈ TBG := by
  have h : ∀ w ∈ u_ws RX6 TX6 6, w ∈ lw_tbl ∧ goodWord w = true := by decide +kernel
  exact fun w hw => in_TBG (h w hw).1 (h w hw).2
theorem inX7 : ∀ w ∈ u_ws RX7 TX7 6, w ∈ TBG := by
  have h : ∀ w ∈ u_ws RX7 TX7 6, w ∈ lw_tbl ∧ goodWord w = true := by decide +kernel
  exact fun w hw => in_TBG (h w hw).1 (h w hw).2
theorem inX8 : ∀ w ∈ u_ws RX8 TX8 4, w ∈ TBG := by
  have h : ∀ w ∈ u_ws RX8 TX8 4, w ∈ lw_tbl ∧ goodWord w = true := by decide +kernel
  exact fun w hw => in_TBG (h w hw).1 (h w hw).2
theorem inX9 : ∀ w ∈ u_ws RX9 TX9 6, w ∈ TBG := by
  have h : ∀ w ∈ u_ws RX9 TX9 6, w ∈ lw_tbl ∧ goodWord w = true := by decide +kernel
  exact fun w hw => in_TBG (h w hw).1 (h w hw).2
theorem inX10 : ∀ w ∈ u_ws RX10 TX10 43, w ∈ TBG := by
  have h : ∀ w ∈ u_ws RX10 TX10 43, w ∈ lw_tbl ∧ goodWord w = true := by decide +kernel
  exact fun w hw => in_TBG (h w hw).1 (h w hw).2
theorem kdh_all : ∀ i, i < 66 → kd i = 7 → kd (i + 1) = 5 := by decide
theorem kd_held {i : Nat} (h : kd i = 7) : kd (i + 1) = 5 := kdh_all i (kd_lt h (by decide)) h
theorem kdi_all : ∀ i, i < 66 → kd i = 5 → kd (i + 1) = 11 := by decide
theorem kd_items {i : Nat} (h : kd i = 5) : kd (i + 1) = 11 := kdi_all i (kd_lt h (by decide)) h
theorem kdt_all : ∀ i, i < 66 → kd i = 8 → kd (i + 1) = 11 := by decide
theorem kd_tasks {i : Nat} (h : kd i = 8) : kd (i + 1) = 11 := kdt_all i (kd_lt h (by decide)) h
theorem kds_all : ∀ j, j < 6 → kd (6 + 3 * j) = 7 := by decide
theorem kd_St {x : Int32} (h : inb x (ln 5) = true) : kd (6 + 3 * x.toNatClampNeg) = 7 := kds_all _ (inb_lt h)
theorem kdw_all : ∀ j, j < 4 → kd (37 + 2 * j) = 8 := by decide
theorem kd_Wk {x : Int32} (h : inb x (ln 36) = true) : kd (37 + 2 * x.toNatClampNeg) = 8 := kdw_all _ (inb_lt h)
/-- the bound of every loop's number of turns -/
def FU : Nat := 5000
theorem itn {α : Type} {c : Prop} [Decidable c] {a : Option α} {r : α} (h : (if c then a else none) = some r) : c ∧ a = some r := by
  by_cases q : c
  · rw [if_pos q] at h; exact ⟨q, h⟩
  · rw [if_neg q] at h; cases h
theorem itn' {α : Type} {c : Prop} [Decidable c] {a : Option α} {r : α} (h : (if c then none else a) = some r) : ¬ c ∧ a = some r := by
  by_cases q : c
  · rw [if_pos q] at h; cases h
  · rw [if_neg q] at h; exact ⟨q, h⟩
theorem nfb (b : Bool) : narrow .boolean (.int (b2i b)) = .int (b2i b) ∧ fits .boolean (.int (b2i b)) = true := by cases b <;> exact ⟨rfl, rfl⟩
def zraw (v : Int32) (M : Mem) : Option (Bool × Mem) := if v = 0 then some (false, M) else if v = 1 then some (true, M) else none
theorem zraw_eq {v : Int32} {M J : Mem} {b : Bool} (h : zraw v M = some (b, J)) : v = b2i b ∧ M = J := by
  unfold zraw at h
  by_cases q : v = 0
  · rw [if_pos q] at h; cases h; exact ⟨q, rfl⟩
  · rw [if_neg q] at h
    obtain ⟨q1, h⟩ := itn h
    cases h
    exact ⟨q1, rfl⟩
def cpok (sp dp n : Int32) (a b : Nat) : Bool := decide (¬ sp < 0) && (decide (¬ dp < 0) && (decide (¬ n < 0) && (decide (sp.toNatClampNeg + n.toNatClampNeg ≤ a) && decide (dp.toNatClampNeg + n.toNatClampNeg ≤ b))))
theorem cpok_of {sp dp n : Int32} {a b : Nat} (h : cpok sp dp n a b = true) : ¬ sp < 0 ∧ ¬ dp < 0 ∧ ¬ n < 0 ∧ sp.toNatClampNeg + n.toNatClampNeg ≤ a ∧ dp.toNatClampNeg + n.toNatClampNeg ≤ b := by
  simpa only [cpok, Bool.and_eq_true, decide_eq_true_eq] using h
theorem ne_toInt {x k : Int32} {z : Int} (hk : k.toInt = z) (h : ¬ x = k) : x.toInt ≠ z := fun q => h (Int32.toInt_inj.mp (q.trans hk.symm))
section X5T
variable {p : Program} {l : Launch} {e : Env} {R : Room} {s : State} {m : MethodId} {args : Array Value} {below : List Frame} {meth : Method} {c : Code} {H : Heap} {locs : List Loc} {cells slots : Nat} {Q : State → Prop} {cc : ByteArray} {pc : Nat} {ls : Array Slot} {rest : List Value}
theorem x_tblD (hexec : p.tables.exec = Jvm.exec) (hb : c.code = cc) {dflt lo hi : Int} {offs : Array Int} {len : Nat} {x : Int32} {tgt : Nat} (hdg : decode cc pc = .ok (.tableswitch dflt lo hi offs, len)) (h : (x.toInt < lo ∨ hi < x.toInt) ∨ (¬ x.toInt < lo ∧ ¬ hi < x.toInt ∧ offs[(x.toInt - lo).toNat]? = some dflt)) (ht : (pc : Int) + dflt = (tgt : Int))
    (k : W p l e R s m args below meth c H locs cells slots Q (F0 m tgt ls rest)) : W p l e R s m args below meth c H locs cells slots Q (F0 m pc ls (.int x :: rest)) := by
  rcases h with h | ⟨h1, h2, h3⟩
  · exact lv_tableOut hexec hb hdg h ht k
  · exact lv_tableIn hexec hb hdg h1 h2 h3 ht k
end X5T
