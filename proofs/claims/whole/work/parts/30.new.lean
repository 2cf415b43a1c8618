/-! CONSTRUCTORS: the world is a list of cells, written out. -/
def WN (G : Gx) (ws : va_W) (sz : Nat) (U : State) : Prop := U.heap.size = sz ∧ va_P G.1 vwCl ws U.heap ∧ va_K G.1 vwCl (tys G) U ∧ va_D (fun _ => True) ws ∧ SF U
def PcN (av : List Value) (G : Gx) (ws : va_W) (sz : Nat) : Array Value → State → Prop := va_Pc av (WN G ws sz)
theorem PcN_blind {av : List Value} {G : Gx} {ws : va_W} {sz : Nat} : FrameBlind (PcN av G ws sz) := by
  intro a U g mk h
  obtain ⟨h0, h1, h2, h3, h4, h5⟩ := h
  exact ⟨h0, h1, h2, va_K.moved (u := U) (U := U.calling g mk a) (Vm.Alike.refl U.vm) h3, h4, SF.same (s := U) (U := U.calling g mk a) rfl h5⟩
/-- a constructor: the cell e0 at a becomes the cells w1, whose new addresses u tells -/
def NM (l : Launch) (y : MethodName) (cy : Cond) (fr lo mc ms : Nat) (G : Gx) (a : Nat) (e0 : va_E) (As : List Value) (w1 : (Nat → Nat) → va_W) : Prop :=
  ∀ sz : Nat, Met l y (cy :: TBG) { frames := fr, cells := mc, slots := ms, locals := lo } (PcN (.ref a :: As) G [(a, e0)] sz) (va_Qv (fun (_ : Nat → Nat) => True) (fun u t => va_P G.1 vwCl (w1 u) t.heap ∧ va_D (va_A [(a, e0)] sz) (w1 u)) (va_A [(a, e0)] sz)) mc ms (va_A [(a, e0)] sz)
/-- what is fixed in a constructor's walk -/
def CN (p : Program) (s : State) (m : MethodId) (args : Array Value) (meth : Method) (c : Code) (cc : ByteArray) (nL : Nat) (own : String) (G : Gx) : Prop :=
  p.tables.exec = Jvm.exec ∧ c.code = cc ∧ c.maxLocals = nL ∧ s.vm.findClass own = some m.cls ∧ (∀ w ∈ TBG, w.before args s = true) ∧ va_K G.1 vwCl (tys G) s ∧ SF s ∧ meth.locks = false
theorem CN.word {p : Program} {s : State} {m : MethodId} {args : Array Value} {meth : Method} {c : Code} {cc : ByteArray} {nL : Nat} {own : String} {G : Gx} (C : CN p s m args meth c cc nL own G) {w : Cond} (h : w ∈ lw_tbl) (hg : goodWord w = true) : w.before args s = true := C.2.2.2.2.1 w (List.mem_filter.mpr ⟨h, hg⟩)
theorem NM.of {l : Launch} {y : MethodName} {cc : ByteArray} {maxL fr lo mc ms : Nat} {G : Gx} {a : Nat} {e0 : va_E} {As : List Value} {w1 : (Nat → Nat) → va_W} (hy : plainName y.cls = true) (hi : y.name = "<init>") (hav : (lg_sl (.ref a :: As)).length ≤ maxL)
    (h : ∀ (p : Program) (e : Env) (s : State) (m : MethodId) (below : List Frame) (meth : Method) (c : Code) (ls : Array Slot) (A : Nat → Prop), CN p s m (Value.ref a :: As).toArray meth c cc maxL y.cls G → meth.sig.returnType = none → meth.name = "<init>" → (∀ q : Nat, s.heap.size ≤ q → A q) → va_P G.1 vwCl [(a, e0)] s.heap → va_D A [(a, e0)] → va_S A s.heap s.heap [] → lv_has ls maxL (lv_args 0 (.ref a :: As)) →
      W p l e { frames := fr, cells := mc, slots := ms, locals := lo } s m (Value.ref a :: As).toArray below meth c s.heap [] 0 0 (MQ below (va_Qv (fun (_ : Nat → Nat) => True) (fun u t => va_P G.1 vwCl (w1 u) t.heap ∧ va_D A (w1 u)) A) (Value.ref a :: As).toArray s mc ms A) (F0 m 0 ls [])) : NM l y (.code y cc maxL none) fr lo mc ms G a e0 As w1 := by
  intro sz
  refine Met.ofW (cc := cc) (maxL := maxL) (ret := none) hy rfl ?_
  intro p e s m args below meth c s₁ B hml hv
  obtain ⟨rfl, hsz, hP, hK, hD0, hSF⟩ := hv
  subst hsz
  have hts : ∀ w ∈ (Cond.code y cc maxL none :: TBG), w.before (Value.ref a :: As).toArray s = true := atoms_spec (ws := Cond.code y cc maxL none :: TBG) B.pre
  have hl := lv_entry (.ref a :: As) (n := maxL) hav
  rw [lg_entry_eq]
  exact h p e s m below meth c _ _ ⟨B.exec, B.bytes, hml, findClass_of_methodNamed B.named, fun w hw => hts w (List.mem_cons_of_mem _ hw), hK, hSF, B.notSynchronized⟩ B.returns ((name_of_methodNamed B.named B.method).1.trans hi) (fun q h => Or.inr h) hP (hD0.self) va_S.rf hl
section X30
variable {p : Program} {l : Launch} {e : Env} {R : Room} {s : State} {m : MethodId} {args : Array Value} {below : List Frame} {meth : Method} {c : Code} {H : Heap} {locs : List Loc} {cells slots : Nat} {Q : State → Prop} {cc : ByteArray} {nL : Nat} {own : String} {G : Gx} {pc : Nat} {ls : Array Slot} {rest st0 : List Value} {A : Nat → Prop} {ws : va_W} {H0 : Heap}
theorem y_ca {cA : ClassId} {ty : FieldType} {k : Nat} {c0 : ClassId} (hK : va_K G.1 vwCl (tys G) s) (hk : (tys G)[k]? = some (c0, ty)) (hK1 : va_K G.1 vwCl (tys G ++ [(cA, ty)]) s) : cA = c0 := by
  have h1 := (hK.2 k _ hk).2
  have h2 := (hK1.2 5 (cA, ty) rfl).2
  cases ty with
  | object C =>
    obtain ⟨_, _, _, _, _, g1⟩ := h1
    obtain ⟨_, _, _, _, _, g2⟩ := h2
    exact Option.some.inj (g2.symm.trans g1)
  | _ => exact Option.some.inj (h2.symm.trans h1)
theorem y_newI (C : CN p s m args meth c cc nL own G) (hP : va_P G.1 vwCl ws H) (hD : va_D A ws) (hS : va_S A H0 H locs) (hA : ∀ q, H0.size ≤ q → A q) {n : Int32} {N' : Nat} (hw : Cond.arrayClass .int ∈ lw_tbl) (hn : ¬ n < 0) (hN : n.toNatClampNeg = N') (hb9 : N' ≤ 100000) (hcells : cells + 1 ≤ R.cells) (hslots : slots + N' ≤ R.slots) (hdg : decode cc pc = .ok (.newarray .int, 2))
    (kk : ∀ (q : Nat) (H1 : Heap), va_P G.1 vwCl (ws ++ [(q, .inl (G.2.2 0, N', .inl (fun _ => 0)))]) H1 → va_D A (ws ++ [(q, .inl (G.2.2 0, N', .inl (fun _ => 0)))]) → va_S A H0 H1 locs → W p l e R s m args below meth c H1 locs (cells + 1) (slots + N') Q (F0 m (pc + 2) ls (.ref q :: rest))) : W p l e R s m args below meth c H locs cells slots Q (F0 m pc ls (.int n :: rest)) := by
  refine va_newa (atype := .int) (ty := .int) (a0 := (N', .inl (fun _ => 0))) C.1 C.2.1 (C.word hw rfl) rfl C.2.2.2.2.2.1 hP hD hS hA (fun _ => rfl) hn hN (by show N' * 4 ≤ _; omega) hcells hslots hdg (fun q cA H1 hK1 hP hD hS => ?_)
  cases y_ca C.2.2.2.2.2.1 (k := 0) rfl hK1
  exact kk q H1 hP hD hS
theorem y_newZ (C : CN p s m args meth c cc nL own G) (hP : va_P G.1 vwCl ws H) (hD : va_D A ws) (hS : va_S A H0 H locs) (hA : ∀ q, H0.size ≤ q → A q) {n : Int32} {N' : Nat} (hw : Cond.arrayClass .boolean ∈ lw_tbl) (hn : ¬ n < 0) (hN : n.toNatClampNeg = N') (hb9 : N' ≤ 100000) (hcells : cells + 1 ≤ R.cells) (hslots : slots + N' ≤ R.slots) (hdg : decode cc pc = .ok (.newarray .boolean, 2))
    (kk : ∀ (q : Nat) (H1 : Heap), va_P G.1 vwCl (ws ++ [(q, .inl (G.2.2 1, N', .inl (fun _ => 0)))]) H1 → va_D A (ws ++ [(q, .inl (G.2.2 1, N', .inl (fun _ => 0)))]) → va_S A H0 H1 locs → W p l e R s m args below meth c H1 locs (cells + 1) (slots + N') Q (F0 m (pc + 2) ls (.ref q :: rest))) : W p l e R s m args below meth c H locs cells slots Q (F0 m pc ls (.int n :: rest)) := by
  refine va_newa (atype := .boolean) (ty := .boolean) (a0 := (N', .inl (fun _ => 0))) C.1 C.2.1 (C.word hw rfl) rfl C.2.2.2.2.2.1 hP hD hS hA (fun _ => rfl) hn hN (by show N' * 1 ≤ _; omega) hcells hslots hdg (fun q cA H1 hK1 hP hD hS => ?_)
  cases y_ca C.2.2.2.2.2.1 (k := 1) rfl hK1
  exact kk q H1 hP hD hS
theorem y_newL (C : CN p s m args meth c cc nL own G) (hP : va_P G.1 vwCl ws H) (hD : va_D A ws) (hS : va_S A H0 H locs) (hA : ∀ q, H0.size ≤ q → A q) {n : Int32} {N' : Nat} (hw : Cond.arrayClass .long ∈ lw_tbl) (hn : ¬ n < 0) (hN : n.toNatClampNeg = N') (hb9 : N' ≤ 100000) (hcells : cells + 1 ≤ R.cells) (hslots : slots + N' ≤ R.slots) (hdg : decode cc pc = .ok (.newarray .long, 2))
    (kk : ∀ (q : Nat) (H1 : Heap), va_P G.1 vwCl (ws ++ [(q, .inl (G.2.2 2, N', .inr (.inl (fun _ => 0))))]) H1 → va_D A (ws ++ [(q, .inl (G.2.2 2, N', .inr (.inl (fun _ => 0))))]) → va_S A H0 H1 locs → W p l e R s m args below meth c H1 locs (cells + 1) (slots + N') Q (F0 m (pc + 2) ls (.ref q :: rest))) : W p l e R s m args below meth c H locs cells slots Q (F0 m pc ls (.int n :: rest)) := by
  refine va_newa (atype := .long) (ty := .long) (a0 := (N', .inr (.inl (fun _ => 0)))) C.1 C.2.1 (C.word hw rfl) rfl C.2.2.2.2.2.1 hP hD hS hA (fun _ => rfl) hn hN (by show N' * 8 ≤ _; omega) hcells hslots hdg (fun q cA H1 hK1 hP hD hS => ?_)
  cases y_ca C.2.2.2.2.2.1 (k := 2) rfl hK1
  exact kk q H1 hP hD hS
theorem y_newQ (C : CN p s m args meth c cc nL own G) (hP : va_P G.1 vwCl ws H) (hD : va_D A ws) (hS : va_S A H0 H locs) (hA : ∀ q, H0.size ≤ q → A q) {n : Int32} {N' index : Nat} {Cn : String} (k : Nat) {cQ : ClassId} (hk : (tys G)[k]? = some (cQ, .object Cn)) (w1 : Cond.classLink own index Cn ∈ lw_tbl) (w2 : Cond.arrayOver (.object Cn) ∈ lw_tbl) (hn : ¬ n < 0) (hN : n.toNatClampNeg = N') (hb9 : N' ≤ 100000) (hcells : cells + 1 ≤ R.cells) (hslots : slots + N' ≤ R.slots) (hdg : decode cc pc = .ok (.anewarray index, 3))
    (kk : ∀ (q : Nat) (H1 : Heap), va_P G.1 vwCl (ws ++ [(q, .inl (cQ, N', .inr (.inr (.inr (.inr (fun _ => none))))))]) H1 → va_D A (ws ++ [(q, .inl (cQ, N', .inr (.inr (.inr (.inr (fun _ => none))))))]) → va_S A H0 H1 locs → W p l e R s m args below meth c H1 locs (cells + 1) (slots + N') Q (F0 m (pc + 3) ls (.ref q :: rest))) : W p l e R s m args below meth c H locs cells slots Q (F0 m pc ls (.int n :: rest)) := by
  refine va_newq (C := Cn) C.1 C.2.1 C.2.2.2.1 (C.word w1 rfl) (C.2.2.2.2.2.2.1.1 _ w2 rfl) C.2.2.2.2.2.1 hP hD hS hA hn hN (by omega) hcells hslots hdg (fun q cA H1 hK1 hP hD hS => ?_)
  cases y_ca C.2.2.2.2.2.1 hk hK1
  exact kk q H1 hP hD hS
/-- a constructor called on the cell at the place pl -/
theorem y_init (C : CN p s m args meth c cc nL own G) (hP : va_P G.1 vwCl ws H) (hD : va_D A ws) (hS : va_S A s.heap H locs) (hA : ∀ q, s.heap.size ≤ q → A q) {y : MethodName} {bytes : ByteArray} {maxL fr lo mc ms index n a : Nat} {e0 : va_E} {As : List Value} {w1 : (Nat → Nat) → va_W} {wr : va_W}
    (hM : NM l y (.code y bytes maxL none) fr lo mc ms G a e0 As w1) (pl : Nat) (isR : List Nat) (hpl : ws[pl]? = some (a, e0)) (hwr : isR.map (fun i => ws[i]?) = wr.map some) (hnd : va_nd isR = true) (hdis : ∀ i ∈ isR, i ∉ [pl])
    (g1 : Cond.code y bytes maxL none ∈ lw_tbl) (g2 : Cond.methodLink own index y ∈ lw_tbl) (g3 : Cond.instanceMethod y ∈ lw_tbl) (g5 : Cond.initialized y.cls ∈ lw_tbl) (hyi : y.name = "<init>") (hd : dOk y n) (hR : fr + 1 ≤ R.frames ∧ 8 + (maxL + 11) + lo ≤ R.locals) (hn : As.length = n) (hsz : ls.size = nL) (hst : st0 = As.reverse ++ .ref a :: rest) (hrm : (rest.map fun v => v.category).sum ≤ 8) (hf : cells + mc ≤ R.cells ∧ slots + ms ≤ R.slots) (hdg : decode cc pc = .ok (.invokespecial index, 3))
    (kk : ∀ (u : Nat → Nat) (H1 : Heap) (locs1 : List Loc), va_P G.1 vwCl (wr ++ w1 u) H1 → va_D A (wr ++ w1 u) → va_S A s.heap H1 locs1 → W p l e R s m args below meth c H1 locs1 (cells + mc) (slots + ms) Q (F0 m (pc + 3) ls rest)) : W p l e R s m args below meth c H locs cells slots Q (F0 m pc ls st0) := by
  subst hst
  have hC : [pl].map (fun i => ws[i]?) = ([(a, e0)] : va_W).map some := by simp [hpl]
  have hPc : va_P G.1 vwCl [(a, e0)] H := hP.sub [pl] (by simp [hpl])
  have hDc : va_D A [(a, e0)] := hD.sub [pl] (by simp [va_nd]) hC
  have hFc := va_free (wc := [(a, e0)]) hD hS hA [pl] hC
  refine va_callv (va_runI (As := As) (rest := rest) ⟨C.1, C.2.1, C.2.2.1, C.2.2.2.1, C.2.2.2.2.1⟩ (hM H.size) ⟨callB_of n C.2.2.2.2.1 (goodTB g1 rfl) rfl rfl rfl (C.word g5 rfl) (C.word g2 rfl) hd hR, hyi, C.word g3 rfl⟩ ⟨PcN_blind, fun U hU hW => ⟨rfl, by rw [hU], by rw [hU]; exact hPc, va_K.moved hW.alike C.2.2.2.2.2.1, hDc.weaken (fun _ _ _ _ => trivial), SF.warm hW C.2.2.2.2.2.2.1⟩⟩ rfl hn hsz rfl (lv_room hrm) hdg hf) hS (fun q _ h => hFc q h) hFc (fun u t H1 locs1 ht hvm hw hB hz1 hk1 hS => ?_)
  obtain ⟨hP1, hD1⟩ := hB
  rw [ht] at hP1
  obtain ⟨hP, hD⟩ := va_join hP hD [pl] isR hC hwr hnd hdis hk1 hFc hP1 hD1
  exact kk u H1 locs1 hP hD hS
end X30
