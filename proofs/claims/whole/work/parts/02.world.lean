/-! THE MEMORY: the objects and arrays of class, reference and law stand in one list, by the order in which they are made; the memory gives each its numbers. -/
abbrev Mem : Type := Nat → Nat → Int32
def stR (I : Mem) (i : Nat) (r : Nat → Int32) : Mem := fun a => if a = i then r else I a
def st (I : Mem) (i k : Nat) (v : Int32) : Mem := stR I i (upd (I i) k v)
theorem stR_same {I : Mem} {i : Nat} {r : Nat → Int32} : stR I i r i = r := by simp [stR]
theorem stR_ne {I : Mem} {i j : Nat} {r : Nat → Int32} (h : j ≠ i) : stR I i r j = I j := by simp [stR, h]
/-- the kinds: 0 Crew, 1 End, 2 Flow, 3 Line, 4 PartWork, 5 Row, 6 Source, 7 Stage, 8 Worker, 9 StageLines, 10 the reference, 11 int[], 12 boolean[], 13 Stage[], 14 Worker[], 15 long[] -/
def kdL : List Nat := [9, 5, 11, 3, 6, 13, 7, 5, 11, 7, 5, 11, 7, 5, 11, 7, 5, 11, 7, 5, 11, 7, 5, 11, 1, 5, 11, 5, 11, 2, 4, 5, 11, 5, 11, 0, 14, 8, 11, 8, 11, 8, 11, 8, 11,
  10, 11, 11, 11, 11, 11, 11, 12, 11, 11, 11, 11, 11, 11, 11, 11, 11, 11, 11, 11, 15]
def kd (i : Nat) : Nat := kdL.getD i 99
def lnL : List Nat := [0, 0, 40, 0, 0, 6, 0, 0, 600, 0, 0, 600, 0, 0, 600, 0, 0, 600, 0, 0, 600, 0, 0, 600, 0, 0, 600, 0, 600, 0, 0, 0, 600, 0, 600, 0, 4, 0, 80, 0, 80, 0, 80, 0, 80,
  0, 40, 6, 6, 6, 6, 6, 6, 3600, 8, 8, 8, 600, 600, 601, 601, 192, 192, 4, 7, 1]
def ln (i : Nat) : Nat := lnL.getD i 0
theorem kd_lt {i k : Nat} (h : kd i = k) (hk : k < 99) : i < 66 := by
  refine Nat.lt_of_not_le (fun q => ?_)
  have : kd i = 99 := by
    unfold kd
    rw [List.getD_eq_getElem?_getD, List.getElem?_eq_none (by simpa [kdL] using q)]
    rfl
  omega
abbrev Gx : Type := va_G × (Nat → Nat) × (Nat → ClassId)
/-- what the cell i is, its numbers being r -/
def cellE (ad : Nat → Nat) (ca : Nat → ClassId) (i : Nat) (r : Nat → Int32) : va_E :=
  if kd i = 5 then .inr (5, [.ref (ad (i + 1)), .int (r 1)])
  else if kd i = 11 then .inl (ca 0, ln i, .inl r)
  else if kd i = 7 then .inr (7, [.ref (ad (i + 1)), .int (r 1), .int (r 2), .int (r 3), .int (r 4), .int (r 5)])
  else if kd i = 8 then .inr (8, [.ref (ad (i + 1)), .int (r 1), .int (r 2), .int (r 3)])
  else if kd i = 0 then .inr (0, [.ref (ad 36), .int (r 1), .int (r 2), .int (r 3), .int (r 4), .int (r 5), .int (r 6)])
  else if kd i = 1 then .inr (1, [.ref (ad (r 0).toNatClampNeg), .ref (ad (r 1).toNatClampNeg), .int (r 2), .int (r 3), .int (r 4), .int (r 5), .int (r 6), .int (r 7)])
  else if kd i = 2 then .inr (2, [.ref (ad 3), .ref (ad 24), .int (r 2), .int (r 3)])
  else if kd i = 3 then .inr (3, [.ref (ad 4), .ref (ad 5), .int (r 2), .int (r 3), .int (r 4)])
  else if kd i = 4 then .inr (4, [.ref (ad 3), .ref (ad 24), .ref (ad 31), .ref (ad 33)])
  else if kd i = 6 then .inr (6, [.ref (ad 1), .int (r 1), .int (r 2), .int (r 3), .int (r 4), .int (r 5)])
  else if kd i = 9 then .inr (9, [.ref (ad 1), .ref (ad 3), .ref (ad 24), .ref (ad 29), .ref (ad 30), .ref (ad 35)])
  else if kd i = 10 then .inr (10, [.int (r 0), .ref (ad 46), .int (r 2), .int (r 3), .int (r 4), .int (r 5), .int (r 6), .int (r 7), .int (r 8), .int (r 9), .ref (ad 47), .ref (ad 48), .ref (ad 49), .ref (ad 50), .ref (ad 51), .ref (ad 52), .ref (ad 53), .int (r 17), .ref (ad 54), .ref (ad 55), .ref (ad 56), .int (r 21), .int (r 22), .int (r 23), .int (r 24), .int (r 25), .int (r 26), .int (r 27), .int (r 28), .ref (ad 57), .int (r 30), .ref (ad 58), .ref (ad 59), .ref (ad 60), .int (r 34), .int (r 35), .int (r 36), .int (r 37), .int (r 38), .ref (ad 61), .ref (ad 62), .ref (ad 63), .ref (ad 64)])
  else if kd i = 12 then .inl (ca 1, ln i, .inl r)
  else if kd i = 13 then .inl (ca 3, ln i, .inr (.inr (.inr (.inr (fun j => some (ad (6 + 3 * j)))))))
  else if kd i = 14 then .inl (ca 4, ln i, .inr (.inr (.inr (.inr (fun j => some (ad (37 + 2 * j)))))))
  else .inl (ca 2, ln i, .inr (.inl (fun j => (r j).toInt64)))
def wl (G : Gx) (I : Mem) : va_W := (List.range 66).map (fun i => (G.2.1 i, cellE G.2.1 G.2.2 i (I i)))
theorem wl_get {G : Gx} {I : Mem} {i : Nat} (h : i < 66) : (wl G I)[i]? = some (G.2.1 i, cellE G.2.1 G.2.2 i (I i)) := by
  simp [wl, h]
theorem wl_getR {G : Gx} {I : Mem} {i : Nat} {q : Nat × va_E} (h : (wl G I)[i]? = some q) : i < 66 ∧ q = (G.2.1 i, cellE G.2.1 G.2.2 i (I i)) := by
  have hi : i < 66 := by
    have := (List.getElem?_eq_some_iff.mp h).1
    simpa [wl] using this
  rw [wl_get hi] at h
  exact ⟨hi, (Option.some.inj h).symm⟩
theorem wl_setR {G : Gx} {I : Mem} {i : Nat} {r : Nat → Int32} {e : va_E} (hi : i < 66) (he : cellE G.2.1 G.2.2 i r = e) : (wl G I).set i (G.2.1 i, e) = wl G (stR I i r) := by
  apply List.ext_getElem?
  intro j
  by_cases hj : j < 66
  · by_cases hij : i = j
    · subst hij
      rw [List.getElem?_set_self (by simpa [wl] using hi), wl_get hi, stR_same, he]
    · rw [List.getElem?_set_ne hij, wl_get hj, wl_get hj, stR_ne (Ne.symm hij)]
  · rw [List.getElem?_eq_none (by simp [wl]; omega), List.getElem?_eq_none (by simp [wl]; omega)]
theorem wl_D {G : Gx} {I J : Mem} {A : Nat → Prop} (h : va_D A (wl G I)) : va_D A (wl G J) := by
  refine ⟨fun i j p q hp hq e => ?_, fun k q hq => ?_⟩
  · obtain ⟨hi, rfl⟩ := wl_getR hp
    obtain ⟨hj, rfl⟩ := wl_getR hq
    exact h.1 i j _ _ (wl_get hi) (wl_get hj) e
  · obtain ⟨hk, rfl⟩ := wl_getR hq
    have h9 := h.2 k _ (wl_get (G := G) (I := I) hk)
    exact h9
/-- what a method may change: the cells of the list, and new ones -/
def AA (G : Gx) (sz : Nat) : Nat → Prop := fun q => (∃ k : Nat, k < 66 ∧ q = G.2.1 k) ∨ sz ≤ q
theorem AA_mono {G : Gx} {a b : Nat} (h : a ≤ b) {q : Nat} (hq : AA G b q) : AA G a q := hq.elim Or.inl (fun z => Or.inr (Nat.le_trans h z))
theorem AA_D {G : Gx} {I : Mem} {A : Nat → Prop} {sz : Nat} (h : va_D A (wl G I)) : va_D (AA G sz) (wl G I) := ⟨h.1, fun k q hq => by
  obtain ⟨hk, rfl⟩ := wl_getR hq
  exact Or.inl ⟨k, hk, rfl⟩⟩
abbrev tys (G : Gx) : List (ClassId × FieldType) := [(G.2.2 0, .int), (G.2.2 1, .boolean), (G.2.2 2, .long), (G.2.2 3, .object "StageLines$Stage"), (G.2.2 4, .object "StageLines$Worker")]
/-! THE WORDS: all methods take the same ones: those of the table that stay good; the words on nest mates, texts and casts stand apart. -/
def isNest : Cond → Bool
  | .fieldLinkNest .. => true
  | .methodLinkNest .. => true
  | .declares .. => true
  | .castable .. => true
  | .arrayOver (.object _) => true
  | _ => false
abbrev TBG : List Cond := lw_tbl.filter goodWord
theorem goodTB {c : Cond} (h : c ∈ lw_tbl) (hc : goodWord c = true) : GoodIn TBG (c :: TBG) := by
  intro w hw
  rcases List.mem_cons.mp hw with rfl | hw
  · exact ⟨List.mem_filter.mpr ⟨h, hc⟩, good_of_word hc⟩
  · exact ⟨hw, good_of_word (List.mem_filter.mp hw).2⟩
def strL : List (Nat × String) := [(68, "the basket is full"), (87, "no such source"), (89, "no such range"), (199, "there is no line, or it was used"), (111, "no such stage, or no room for it"), (122, "there is no line"), (204, "no such end"), (210, "spent"), (216, "nothing came to the end"), (142, "no such pool"), (149, "an endless source has no parts"), (171, "nothing is kept there")]
def ncL : List (String × String) := [("java/lang/IllegalArgumentException", "java/lang/IllegalStateException"), ("java/lang/UnsupportedOperationException", "java/lang/IllegalStateException"), ("java/util/NoSuchElementException", "java/lang/IllegalStateException"), ("java/lang/UnsupportedOperationException", "java/lang/IllegalArgumentException"), ("java/util/NoSuchElementException", "java/lang/IllegalArgumentException"), ("java/util/NoSuchElementException", "java/lang/UnsupportedOperationException")]
/-- what stays true whatever is linked: nest words, texts, casts that fail -/
def SF (U : State) : Prop := (∀ w ∈ lw_tbl, isNest w = true → va_Nw w U) ∧ (∀ q ∈ strL, ∃ a : Nat, vk_R RX9 q.1 q.2 a U) ∧ ∀ q ∈ ncL, va_Nc q.1 q.2 U
theorem SF.warm {s U : State} (hW : s.WarmedH U.vm) (h : SF s) : SF U := by
  refine ⟨fun w hw hn => ?_, fun q hq => ?_, fun q hq => va_Nc.moved hW.alike (h.2.2 q hq)⟩
  · have h1 := h.1 w hw hn
    cases w <;> first | (exact va_Nw.warmF hW h1) | (exact va_Nw.warmM hW h1) | (exact va_tabs rfl (rfl : (s.setVm U.vm).vm = U.vm) (by rw [Cond.declares_setVm hW.alike]; exact h1)) | (exact va_tabs rfl (rfl : (s.setVm U.vm).vm = U.vm) (by rw [Cond.castable_setVm hW.alike]; exact h1)) | (simp [isNest] at hn; done) | (rename_i ty; cases ty <;> first | (simp [isNest] at hn; done) | (exact va_AO.moved hW.alike h1))
  · obtain ⟨a, ha⟩ := h.2.1 q hq
    exact ⟨a, ha.warm hW⟩
theorem SF.same {s U : State} (hv : U.vm = s.vm) (h : SF s) : SF U := by
  refine ⟨fun w hw hn => ?_, fun q hq => ?_, fun q hq => ?_⟩
  · have h1 := h.1 w hw hn
    cases w <;> first | (exact va_Nw.same rfl hv.symm h1) | (simp [isNest] at hn; done) | (rename_i ty; cases ty <;> first | (simp [isNest] at hn; done) | (exact va_AO.moved (by rw [hv]; exact Vm.Alike.refl _) h1))
  · obtain ⟨a, ha⟩ := h.2.1 q hq
    exact ⟨a, ha.same hv⟩
  · have h1 := h.2.2 q hq
    unfold va_Nc at h1 ⊢
    rw [hv]
    exact h1
def TZ (A : Nat → Prop) (U : State) (H : Heap) : Prop := vx_Zq Bundle.tN "UNASSIGNED_STACK" Bundle.steD A U H ∧ vx_Zq Bundle.tN "SUPPRESSED_SENTINEL" Bundle.listD A U H
/-- the world at a method's start -/
def WS (G : Gx) (I : Mem) (sz : Nat) (U : State) : Prop := U.heap.size = sz ∧ va_P G.1 vwCl (wl G I) U.heap ∧ va_K G.1 vwCl (tys G) U ∧ va_D (fun _ => True) (wl G I) ∧ SF U ∧ TZ (AA G sz) U U.heap
def PcW (av : List Value) (G : Gx) (I : Mem) (sz : Nat) : Array Value → State → Prop := va_Pc av (WS G I sz)
theorem TZ.same {A : Nat → Prop} {u U : State} {H : Heap} (hv : u.vm.Alike U.vm) (h : TZ A u H) : TZ A U H := ⟨vx_Zq.moved hv h.1, vx_Zq.moved hv h.2⟩
theorem PcW_blind {av : List Value} {G : Gx} {I : Mem} {sz : Nat} : FrameBlind (PcW av G I sz) := by
  intro a U g mk h
  obtain ⟨h0, h1, h2, h3, h4, h5, h6⟩ := h
  exact ⟨h0, h1, h2, va_K.moved (u := U) (U := U.calling g mk a) (Vm.Alike.refl U.vm) h3, h4, SF.same (s := U) (U := U.calling g mk a) rfl h5, TZ.same (u := U) (U := U.calling g mk a) (Vm.Alike.refl U.vm) h6⟩
/-- what is fixed in a method's walk -/
def CX (p : Program) (l : Launch) (s : State) (m : MethodId) (args : Array Value) (meth : Method) (c : Code) (cc : ByteArray) (nL : Nat) (own : String) (G : Gx) : Prop :=
  p.tables.exec = Jvm.exec ∧ c.code = cc ∧ c.maxLocals = nL ∧ s.vm.findClass own = some m.cls ∧ (∀ w ∈ TBG, w.before args s = true) ∧ va_K G.1 vwCl (tys G) s ∧ SF s ∧ meth.locks = false ∧ TZ (AA G s.heap.size) s s.heap
theorem CX.word {p : Program} {l : Launch} {s : State} {m : MethodId} {args : Array Value} {meth : Method} {c : Code} {cc : ByteArray} {nL : Nat} {own : String} {G : Gx} (C : CX p l s m args meth c cc nL own G) {w : Cond} (h : w ∈ lw_tbl) (hg : goodWord w = true) : w.before args s = true := C.2.2.2.2.1 w (List.mem_filter.mpr ⟨h, hg⟩)
def okW (w : Cond) : Bool := goodWord w || (isNest w && w.onTables)
theorem CX.wordW {p : Program} {l : Launch} {s : State} {m : MethodId} {args : Array Value} {meth : Method} {c : Code} {cc : ByteArray} {nL : Nat} {own : String} {G : Gx} (C : CX p l s m args meth c cc nL own G) {w : Cond} (h : w ∈ lw_tbl) (hg : okW w = true) : w.before args s = true := by
  simp only [okW, Bool.or_eq_true, Bool.and_eq_true] at hg
  rcases hg with hg | hg
  · exact C.word h hg
  · exact va_Nw.use hg.2 (C.2.2.2.2.2.2.1.1 w h hg.1)
/-- the world in a method's walk -/
def HW (G : Gx) (s : State) (H : Heap) (locs : List Loc) (I : Mem) : Prop := va_P G.1 vwCl (wl G I) H ∧ va_D (AA G s.heap.size) (wl G I) ∧ va_S (AA G s.heap.size) s.heap H locs
def inb (i : Int32) (n : Nat) : Bool := decide (¬ i < 0) && decide (i.toNatClampNeg < n)
theorem inb_in {i : Int32} {n : Nat} (h : inb i n = true) : vp_in i n := by
  simp only [inb, Bool.and_eq_true, decide_eq_true_eq] at h
  intro q
  rcases q with q | q
  · exact h.1 q
  · omega
theorem inb_lt {i : Int32} {n : Nat} (h : inb i n = true) : i.toNatClampNeg < n := by
  simp only [inb, Bool.and_eq_true, decide_eq_true_eq] at h
  exact h.2
def b2i (b : Bool) : Int32 := if b then 1 else 0
