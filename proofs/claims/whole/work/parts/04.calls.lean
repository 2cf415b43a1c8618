/-! CONTRACTS over the memory, and calls. -/
def Qi9 (G : Gx) (res : Int32) (J : Mem) (sz : Nat) : Array Value → State → Outcome → State → Prop := va_Qi (fun (r : Int32) (_ : Unit) => r = res) (fun _ t => va_P G.1 vwCl (wl G J) t.heap) (AA G sz)
def Qv9 (G : Gx) (J : Mem) (sz : Nat) : Array Value → State → Outcome → State → Prop := va_Qv (fun (_ : Unit) => True) (fun _ t => va_P G.1 vwCl (wl G J) t.heap) (AA G sz)
/-- a method that answers an int: on the memory I it answers res and leaves J -/
def Mi (l : Launch) (y : MethodName) (cy : Cond) (fr lo : Nat) (G : Gx) (I : Mem) (av : List Value) (res : Int32) (J : Mem) : Prop :=
  ∀ sz : Nat, Met l y (cy :: TBG) { frames := fr, cells := 0, slots := 0, locals := lo } (PcW av G I sz) (Qi9 G res J sz) 0 0 (AA G sz)
def Mv (l : Launch) (y : MethodName) (cy : Cond) (fr lo : Nat) (G : Gx) (I : Mem) (av : List Value) (J : Mem) : Prop :=
  ∀ sz : Nat, Met l y (cy :: TBG) { frames := fr, cells := 0, slots := 0, locals := lo } (PcW av G I sz) (Qv9 G J sz) 0 0 (AA G sz)
/-- methods that return or throw: o is the answer, or the class of what is thrown -/
def Xi (l : Launch) (y : MethodName) (cy : Cond) (fr lo mc ms : Nat) (G : Gx) (I : Mem) (av : List Value) (o : Int32 ⊕ String) (J : Mem) : Prop :=
  ∀ sz : Nat, vx_Met l y (cy :: TBG) { frames := fr, cells := mc, slots := ms, locals := lo } (PcW av G I sz) (va_Qi (fun (r : Int32) (_ : Unit) => o = .inl r) (fun _ t => va_P G.1 vwCl (wl G J) t.heap) (AA G sz)) (vx_X (fun (_ : Unit) => True) (fun E _ t => o = .inr E ∧ va_P G.1 vwCl (wl G J) t.heap) (AA G sz)) mc ms (AA G sz)
def Xv (l : Launch) (y : MethodName) (cy : Cond) (fr lo mc ms : Nat) (G : Gx) (I : Mem) (av : List Value) (o : Option String) (J : Mem) : Prop :=
  ∀ sz : Nat, vx_Met l y (cy :: TBG) { frames := fr, cells := mc, slots := ms, locals := lo } (PcW av G I sz) (va_Qv (fun (_ : Unit) => o = none) (fun _ t => va_P G.1 vwCl (wl G J) t.heap) (AA G sz)) (vx_X (fun (_ : Unit) => True) (fun E _ t => o = some E ∧ va_P G.1 vwCl (wl G J) t.heap) (AA G sz)) mc ms (AA G sz)
theorem in_TBG {w : Cond} (h : w ∈ lw_tbl) (hg : goodWord w = true) : w ∈ TBG := List.mem_filter.mpr ⟨h, hg⟩
theorem goodV {own Cn : String} {index maxL : Nat} {y : MethodName} {bytes : ByteArray} {ret : Option FieldType} (w1 : Cond.code y bytes maxL ret ∈ lw_tbl) (w2 : Cond.methodLink own index y ∈ lw_tbl) (w3 : Cond.instanceMethod y ∈ lw_tbl) (w4 : Cond.selects Cn y y ∈ lw_tbl) (w5 : Cond.initialized Cn ∈ lw_tbl) : GoodIn TBG (wsV own index Cn y (Cond.code y bytes maxL ret :: TBG)) := by
  intro w hw
  unfold wsV at hw
  rcases List.mem_append.mp hw with hw | hw
  · simp only [List.mem_cons, List.not_mem_nil, or_false] at hw
    rcases hw with rfl | rfl | rfl | rfl
    · exact ⟨in_TBG w2 rfl, Or.inl rfl⟩
    · exact ⟨in_TBG w3 rfl, Or.inl rfl⟩
    · exact ⟨in_TBG w4 rfl, Or.inl rfl⟩
    · exact ⟨in_TBG w5 rfl, Or.inl rfl⟩
  · exact goodTB w1 rfl w hw
theorem goodS {own : String} {index maxL : Nat} {y : MethodName} {bytes : ByteArray} {ret : Option FieldType} (w1 : Cond.code y bytes maxL ret ∈ lw_tbl) (w2 : Cond.methodLink own index y ∈ lw_tbl) (w3 : Cond.static y ∈ lw_tbl) (w5 : Cond.initialized own ∈ lw_tbl) : GoodIn TBG (wsS own index y (Cond.code y bytes maxL ret :: TBG)) := by
  intro w hw
  unfold wsS at hw
  rcases List.mem_append.mp hw with hw | hw
  · simp only [List.mem_cons, List.not_mem_nil, or_false] at hw
    rcases hw with rfl | rfl | rfl
    · exact ⟨in_TBG w2 rfl, Or.inl rfl⟩
    · exact ⟨in_TBG w3 rfl, Or.inl rfl⟩
    · exact ⟨in_TBG w5 rfl, Or.inl rfl⟩
  · exact goodTB w1 rfl w hw
section X4
variable {p : Program} {l : Launch} {e : Env} {R : Room} {s : State} {m : MethodId} {args : Array Value} {below : List Frame} {meth : Method} {c : Code} {H : Heap} {locs : List Loc} {cells slots : Nat} {Q : State → Prop} {cc : ByteArray} {nL : Nat} {own : String} {G : Gx} {I J : Mem} {pc : Nat} {ls : Array Slot} {rest st0 : List Value}
theorem CX.fix (C : CX p l s m args meth c cc nL own G) : CallFix p m c cc nL s args TBG own := ⟨C.1, C.2.1, C.2.2.1, C.2.2.2.1, C.2.2.2.2.1⟩
theorem CX.start (C : CX p l s m args meth c cc nL own G) (hH : HW G s H locs I) {av : List Value} (U : State) (hU : U.heap = H) (hW : s.WarmedH U.vm) : PcW av G I H.size av.toArray U := by
  refine ⟨rfl, by rw [hU], by rw [hU]; exact hH.1, va_K.moved hW.alike C.2.2.2.2.2.1, hH.2.1.weaken (fun _ _ _ _ => trivial), SF.warm hW C.2.2.2.2.2.2.1, ?_⟩
  have h1 : TZ (AA G s.heap.size) s H := ⟨C.2.2.2.2.2.2.2.2.1.kept hH.2.2.2.1, C.2.2.2.2.2.2.2.2.2.kept hH.2.2.2.1⟩
  have h2 : TZ (AA G H.size) s H := ⟨h1.1.narrow (fun _ h => AA_mono hH.2.2.1 h), h1.2.narrow (fun _ h => AA_mono hH.2.2.1 h)⟩
  rw [hU]
  exact TZ.same hW.alike h2
theorem HW.next (hH : HW G s H locs I) {t : State} {H1 : Heap} {locs1 : List Loc} (ht : t.heap = H1) (hB : va_P G.1 vwCl (wl G J) t.heap) (hS : va_S (AA G s.heap.size) s.heap H1 locs1) : HW G s H1 locs1 J := ⟨by rw [← ht]; exact hB, wl_D hH.2.1, hS⟩
abbrev dOk (y : MethodName) (n : Nat) : Prop := y.cls ≠ "java/lang/invoke/MethodHandle" ∧ y.cls ≠ "java/lang/invoke/VarHandle" ∧ (parseMethodDescriptor y.desc).map (fun d => d.parameters.length) = some n
theorem x_ci (C : CX p l s m args meth c cc nL own G) (hH : HW G s H locs I) {y : MethodName} {bytes : ByteArray} {maxL fr lo i index ci N n : Nat} {ret : Option FieldType} {Cn : String} {T : u_T} {fs : List Value} {As : List Value} {res : Int32}
    (hM : Mi l y (.code y bytes maxL ret) fr lo G I (.ref (G.2.1 i) :: As) res J) (hi : i < 66) (he : cellE G.2.1 G.2.2 i (I i) = .inr (ci, fs)) (hc : vwCl[ci]? = some (Cn, T, N))
    (w1 : Cond.code y bytes maxL ret ∈ lw_tbl) (w2 : Cond.methodLink own index y ∈ lw_tbl) (w3 : Cond.instanceMethod y ∈ lw_tbl) (w4 : Cond.selects Cn y y ∈ lw_tbl) (w5 : Cond.initialized Cn ∈ lw_tbl) (hd : y.cls = Cn ∧ dOk y n) (hR : fr + 1 ≤ R.frames ∧ 8 + (maxL + 11) + lo ≤ R.locals) (hn : As.length = n) (hsz : ls.size = nL) (hst : st0 = As.reverse ++ .ref (G.2.1 i) :: rest) (hrm : (rest.map fun v => v.category).sum ≤ 8) (hf : cells ≤ R.cells ∧ slots ≤ R.slots) (hdg : decode cc pc = .ok (.invokevirtual index, 3))
    (kk : ∀ (H1 : Heap) (locs1 : List Loc), HW G s H1 locs1 J → W p l e R s m args below meth c H1 locs1 cells slots Q (F0 m (pc + 3) ls (.int res :: rest))) : W p l e R s m args below meth c H locs cells slots Q (F0 m pc ls st0) := by
  subst hst
  refine va_calli (va_runV (As := As) (rest := rest) C.fix (hM H.size) (cwV n C.2.2.2.2.1 (goodV w1 w2 w3 w4 w5) rfl rfl rfl hd hR) ⟨PcW_blind, va_recv C.2.2.2.2.2.1 hH.1 hc ((wl_get hi).trans (by rw [he])), C.start hH⟩ rfl hn hsz rfl (lv_room hrm) hdg hf) hH.2.2 (fun q _ h => AA_mono hH.2.2.1 h) (fun q h => AA_mono hH.2.2.1 h) (fun r u t H1 locs1 ht hvm hw hB hz1 hk1 hS => ?_)
  subst hw
  exact kk H1 locs1 (hH.next ht hB hS)
theorem x_cv (C : CX p l s m args meth c cc nL own G) (hH : HW G s H locs I) {y : MethodName} {bytes : ByteArray} {maxL fr lo i index ci N n : Nat} {Cn : String} {T : u_T} {fs : List Value} {As : List Value} {ret : Option FieldType}
    (hM : Mv l y (.code y bytes maxL ret) fr lo G I (.ref (G.2.1 i) :: As) J) (hi : i < 66) (he : cellE G.2.1 G.2.2 i (I i) = .inr (ci, fs)) (hc : vwCl[ci]? = some (Cn, T, N))
    (w1 : Cond.code y bytes maxL ret ∈ lw_tbl) (w2 : Cond.methodLink own index y ∈ lw_tbl) (w3 : Cond.instanceMethod y ∈ lw_tbl) (w4 : Cond.selects Cn y y ∈ lw_tbl) (w5 : Cond.initialized Cn ∈ lw_tbl) (hd : y.cls = Cn ∧ dOk y n) (hR : fr + 1 ≤ R.frames ∧ 8 + (maxL + 11) + lo ≤ R.locals) (hn : As.length = n) (hsz : ls.size = nL) (hst : st0 = As.reverse ++ .ref (G.2.1 i) :: rest) (hrm : (rest.map fun v => v.category).sum ≤ 8) (hf : cells ≤ R.cells ∧ slots ≤ R.slots) (hdg : decode cc pc = .ok (.invokevirtual index, 3))
    (kk : ∀ (H1 : Heap) (locs1 : List Loc), HW G s H1 locs1 J → W p l e R s m args below meth c H1 locs1 cells slots Q (F0 m (pc + 3) ls rest)) : W p l e R s m args below meth c H locs cells slots Q (F0 m pc ls st0) := by
  subst hst
  refine va_callv (va_runV (As := As) (rest := rest) C.fix (hM H.size) (cwV n C.2.2.2.2.1 (goodV w1 w2 w3 w4 w5) rfl rfl rfl hd hR) ⟨PcW_blind, va_recv C.2.2.2.2.2.1 hH.1 hc ((wl_get hi).trans (by rw [he])), C.start hH⟩ rfl hn hsz rfl (lv_room hrm) hdg hf) hH.2.2 (fun q _ h => AA_mono hH.2.2.1 h) (fun q h => AA_mono hH.2.2.1 h) (fun u t H1 locs1 ht hvm hw hB hz1 hk1 hS => ?_)
  exact kk H1 locs1 (hH.next ht hB hS)
/-- a static method of the own class -/
theorem x_si (C : CX p l s m args meth c cc nL own G) (hH : HW G s H locs I) {y : MethodName} {bytes : ByteArray} {maxL fr lo index n : Nat} {ret : Option FieldType} {As : List Value} {res : Int32}
    (hM : Mi l y (.code y bytes maxL ret) fr lo G I As res J)
    (w1 : Cond.code y bytes maxL ret ∈ lw_tbl) (w2 : Cond.methodLink own index y ∈ lw_tbl) (w3 : Cond.static y ∈ lw_tbl) (w5 : Cond.initialized own ∈ lw_tbl) (hd : y.cls = own ∧ dOk y n) (hR : fr + 1 ≤ R.frames ∧ 8 + (maxL + 11) + lo ≤ R.locals) (hn : As.length = n) (hsz : ls.size = nL) (hst : st0 = As.reverse ++ rest) (hrm : (rest.map fun v => v.category).sum ≤ 8) (hf : cells ≤ R.cells ∧ slots ≤ R.slots) (hdg : decode cc pc = .ok (.invokestatic index, 3))
    (kk : ∀ (H1 : Heap) (locs1 : List Loc), HW G s H1 locs1 J → W p l e R s m args below meth c H1 locs1 cells slots Q (F0 m (pc + 3) ls (.int res :: rest))) : W p l e R s m args below meth c H locs cells slots Q (F0 m pc ls st0) := by
  subst hst
  refine va_calli (va_runS (As := As) (rest := rest) C.fix (hM H.size) (cwS n C.2.2.2.2.1 (goodS w1 w2 w3 w5) rfl rfl rfl hd hR) ⟨PcW_blind, C.start hH⟩ rfl hn hsz rfl (lv_room hrm) hdg hf) hH.2.2 (fun q _ h => AA_mono hH.2.2.1 h) (fun q h => AA_mono hH.2.2.1 h) (fun r u t H1 locs1 ht hvm hw hB hz1 hk1 hS => ?_)
  subst hw
  exact kk H1 locs1 (hH.next ht hB hS)
/-- a private static method of a nest mate -/
theorem x_sNi (C : CX p l s m args meth c cc nL own G) (hH : HW G s H locs I) {y : MethodName} {bytes : ByteArray} {maxL fr lo index n : Nat} {ret : Option FieldType} {host : String} {As : List Value} {res : Int32}
    (hM : Mi l y (.code y bytes maxL ret) fr lo G I As res J)
    (w1 : Cond.code y bytes maxL ret ∈ lw_tbl) (w2 : Cond.methodLinkNest own index y host ∈ lw_tbl) (w3 : Cond.static y ∈ lw_tbl) (w5 : Cond.initialized y.cls ∈ lw_tbl) (hd : dOk y n) (hR : fr + 1 ≤ R.frames ∧ 8 + (maxL + 11) + lo ≤ R.locals) (hn : As.length = n) (hsz : ls.size = nL) (hst : st0 = As.reverse ++ rest) (hrm : (rest.map fun v => v.category).sum ≤ 8) (hf : cells ≤ R.cells ∧ slots ≤ R.slots) (hdg : decode cc pc = .ok (.invokestatic index, 3))
    (kk : ∀ (H1 : Heap) (locs1 : List Loc), HW G s H1 locs1 J → W p l e R s m args below meth c H1 locs1 cells slots Q (F0 m (pc + 3) ls (.int res :: rest))) : W p l e R s m args below meth c H locs cells slots Q (F0 m pc ls st0) := by
  subst hst
  refine va_calli (va_runSN (As := As) (rest := rest) C.fix (hM H.size) ⟨va_cnB n C.2.2.2.2.1 (goodTB w1 rfl) rfl rfl rfl (C.2.2.2.2.2.2.1.1 _ w2 rfl) (C.word w5 rfl) hd hR, C.word w3 rfl, trivial⟩ ⟨PcW_blind, C.start hH⟩ rfl hn hsz rfl (lv_room hrm) hdg hf) hH.2.2 (fun q _ h => AA_mono hH.2.2.1 h) (fun q h => AA_mono hH.2.2.1 h) (fun r u t H1 locs1 ht hvm hw hB hz1 hk1 hS => ?_)
  subst hw
  exact kk H1 locs1 (hH.next ht hB hS)
/-- a static method of another class that isn't private -/
theorem x_sJi (C : CX p l s m args meth c cc nL own G) (hH : HW G s H locs I) {y : MethodName} {bytes : ByteArray} {maxL fr lo index n : Nat} {ret : Option FieldType} {As : List Value} {res : Int32}
    (hM : Mi l y (.code y bytes maxL ret) fr lo G I As res J)
    (w1 : Cond.code y bytes maxL ret ∈ lw_tbl) (w2 : Cond.methodLink own index y ∈ lw_tbl) (w3 : Cond.static y ∈ lw_tbl) (w5 : Cond.initialized y.cls ∈ lw_tbl) (hd : dOk y n) (hR : fr + 1 ≤ R.frames ∧ 8 + (maxL + 11) + lo ≤ R.locals) (hn : As.length = n) (hsz : ls.size = nL) (hst : st0 = As.reverse ++ rest) (hrm : (rest.map fun v => v.category).sum ≤ 8) (hf : cells ≤ R.cells ∧ slots ≤ R.slots) (hdg : decode cc pc = .ok (.invokestatic index, 3))
    (kk : ∀ (H1 : Heap) (locs1 : List Loc), HW G s H1 locs1 J → W p l e R s m args below meth c H1 locs1 cells slots Q (F0 m (pc + 3) ls (.int res :: rest))) : W p l e R s m args below meth c H locs cells slots Q (F0 m pc ls st0) := by
  subst hst
  refine va_calli (va_runS (As := As) (rest := rest) C.fix (hM H.size) ⟨callB_of n C.2.2.2.2.1 (goodTB w1 rfl) rfl rfl rfl (C.word w5 rfl) (C.word w2 rfl) hd hR, C.word w3 rfl⟩ ⟨PcW_blind, C.start hH⟩ rfl hn hsz rfl (lv_room hrm) hdg hf) hH.2.2 (fun q _ h => AA_mono hH.2.2.1 h) (fun q h => AA_mono hH.2.2.1 h) (fun r u t H1 locs1 ht hvm hw hB hz1 hk1 hS => ?_)
  subst hw
  exact kk H1 locs1 (hH.next ht hB hS)
/-! the ends -/
theorem x_iret (C : CX p l s m args meth c cc nL own G) (hr : meth.sig.returnType = some .int) (hH : HW G s H locs I) {res : Int32} (hdg : decode cc pc = .ok (.ireturn, 1)) : W p l e R s m args below meth c H locs cells slots (MQ below (Qi9 G res I s.heap.size) args s cells slots (AA G s.heap.size)) (F0 m pc ls [.int res]) := by
  have hlocks : meth.locks = false := C.2.2.2.2.2.2.2.1
  exact W.iret C.1 C.2.1 hr (fun t ht hW => ⟨⟨res, (), rfl, rfl, by show va_P _ _ _ t.heap; rw [ht]; exact hH.1⟩, hH.2.2.F ht⟩) hH.2.2.2.2 hdg
theorem nar_b2i (b : Bool) : narrow .boolean (.int (b2i b)) = .int (b2i b) := by cases b <;> rfl
theorem x_zret (C : CX p l s m args meth c cc nL own G) (hr : meth.sig.returnType = some .boolean) (hH : HW G s H locs I) {v : Int32} {b : Bool} (hv : v = b2i b) (hdg : decode cc pc = .ok (.ireturn, 1)) : W p l e R s m args below meth c H locs cells slots (MQ below (Qi9 G (b2i b) I s.heap.size) args s cells slots (AA G s.heap.size)) (F0 m pc ls [.int v]) := by
  have hlocks : meth.locks = false := C.2.2.2.2.2.2.2.1
  subst hv
  exact W.zret C.1 C.2.1 hr (nar_b2i b) (fun t ht hW => ⟨⟨b2i b, (), rfl, rfl, by show va_P _ _ _ t.heap; rw [ht]; exact hH.1⟩, hH.2.2.F ht⟩) hH.2.2.2.2 hdg
theorem x_vret (C : CX p l s m args meth c cc nL own G) (hr : meth.sig.returnType = none) (hH : HW G s H locs I) (hdg : decode cc pc = .ok (.return_, 1)) : W p l e R s m args below meth c H locs cells slots (MQ below (Qv9 G I s.heap.size) args s cells slots (AA G s.heap.size)) (F0 m pc ls []) := by
  have hlocks : meth.locks = false := C.2.2.2.2.2.2.2.1
  exact W.vret C.1 C.2.1 hr (fun t ht hW => ⟨⟨(), rfl, trivial, by show va_P _ _ _ t.heap; rw [ht]; exact hH.1⟩, hH.2.2.F ht⟩) hH.2.2.2.2 hdg
end X4
/-! the start of a contract -/
theorem Mi.of {l : Launch} {y : MethodName} {cc : ByteArray} {maxL fr lo : Nat} {ret : Option FieldType} {G : Gx} {I J : Mem} {av : List Value} {res : Int32} (hy : plainName y.cls = true) (hav : (lg_sl av).length ≤ maxL)
    (h : ∀ (p : Program) (e : Env) (s : State) (m : MethodId) (below : List Frame) (meth : Method) (c : Code) (ls : Array Slot), CX p l s m av.toArray meth c cc maxL y.cls G → meth.sig.returnType = ret → HW G s s.heap [] I → lv_has ls maxL (lv_args 0 av) →
      W p l e { frames := fr, cells := 0, slots := 0, locals := lo } s m av.toArray below meth c s.heap [] 0 0 (MQ below (Qi9 G res J s.heap.size) av.toArray s 0 0 (AA G s.heap.size)) (F0 m 0 ls [])) : Mi l y (.code y cc maxL ret) fr lo G I av res J := by
  intro sz
  refine Met.ofW (cc := cc) (maxL := maxL) (ret := ret) hy rfl ?_
  intro p e s m args below meth c s₁ B hml hv
  obtain ⟨rfl, hsz, hP, hK, hD0, hSF, hTZ⟩ := hv
  subst hsz
  have hts : ∀ w ∈ (Cond.code y cc maxL ret :: TBG), w.before av.toArray s = true := atoms_spec (ws := Cond.code y cc maxL ret :: TBG) B.pre
  have hl := lv_entry av (n := maxL) hav
  rw [lg_entry_eq]
  exact h p e s m below meth c _ ⟨B.exec, B.bytes, hml, findClass_of_methodNamed B.named, fun w hw => hts w (List.mem_cons_of_mem _ hw), hK, hSF, B.notSynchronized, hTZ⟩ B.returns ⟨hP, AA_D hD0, va_S.rf⟩ hl
theorem Mv.of {l : Launch} {y : MethodName} {cc : ByteArray} {maxL fr lo : Nat} {ret : Option FieldType} {G : Gx} {I J : Mem} {av : List Value} (hy : plainName y.cls = true) (hav : (lg_sl av).length ≤ maxL)
    (h : ∀ (p : Program) (e : Env) (s : State) (m : MethodId) (below : List Frame) (meth : Method) (c : Code) (ls : Array Slot), CX p l s m av.toArray meth c cc maxL y.cls G → meth.sig.returnType = ret → HW G s s.heap [] I → lv_has ls maxL (lv_args 0 av) →
      W p l e { frames := fr, cells := 0, slots := 0, locals := lo } s m av.toArray below meth c s.heap [] 0 0 (MQ below (Qv9 G J s.heap.size) av.toArray s 0 0 (AA G s.heap.size)) (F0 m 0 ls [])) : Mv l y (.code y cc maxL ret) fr lo G I av J := by
  intro sz
  refine Met.ofW (cc := cc) (maxL := maxL) (ret := ret) hy rfl ?_
  intro p e s m args below meth c s₁ B hml hv
  obtain ⟨rfl, hsz, hP, hK, hD0, hSF, hTZ⟩ := hv
  subst hsz
  have hts : ∀ w ∈ (Cond.code y cc maxL ret :: TBG), w.before av.toArray s = true := atoms_spec (ws := Cond.code y cc maxL ret :: TBG) B.pre
  have hl := lv_entry av (n := maxL) hav
  rw [lg_entry_eq]
  exact h p e s m below meth c _ ⟨B.exec, B.bytes, hml, findClass_of_methodNamed B.named, fun w hw => hts w (List.mem_cons_of_mem _ hw), hK, hSF, B.notSynchronized, hTZ⟩ B.returns ⟨hP, AA_D hD0, va_S.rf⟩ hl
theorem Mi.ofF {l : Launch} {y : MethodName} {cc : ByteArray} {maxL fr lo : Nat} {ret : Option FieldType} {G : Gx} {I J : Mem} {av : List Value} {res : Int32} (hy : plainFor y = true) (hav : (lg_sl av).length ≤ maxL)
    (h : ∀ (p : Program) (e : Env) (s : State) (m : MethodId) (below : List Frame) (meth : Method) (c : Code) (ls : Array Slot), CX p l s m av.toArray meth c cc maxL y.cls G → meth.sig.returnType = ret → HW G s s.heap [] I → lv_has ls maxL (lv_args 0 av) →
      W p l e { frames := fr, cells := 0, slots := 0, locals := lo } s m av.toArray below meth c s.heap [] 0 0 (MQ below (Qi9 G res J s.heap.size) av.toArray s 0 0 (AA G s.heap.size)) (F0 m 0 ls [])) : Mi l y (.code y cc maxL ret) fr lo G I av res J := by
  intro sz
  refine va_MetF (cc := cc) (maxL := maxL) (ret := ret) hy rfl ?_
  intro p e s m args below meth c s₁ B hml hv
  obtain ⟨rfl, hsz, hP, hK, hD0, hSF, hTZ⟩ := hv
  subst hsz
  have hts : ∀ w ∈ (Cond.code y cc maxL ret :: TBG), w.before av.toArray s = true := atoms_spec (ws := Cond.code y cc maxL ret :: TBG) B.pre
  have hl := lv_entry av (n := maxL) hav
  rw [lg_entry_eq]
  exact h p e s m below meth c _ ⟨B.exec, B.bytes, hml, findClass_of_methodNamed B.named, fun w hw => hts w (List.mem_cons_of_mem _ hw), hK, hSF, B.notSynchronized, hTZ⟩ B.returns ⟨hP, AA_D hD0, va_S.rf⟩ hl
