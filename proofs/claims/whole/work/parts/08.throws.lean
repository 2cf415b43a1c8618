/-! METHODS THAT THROW: the start, the throw itself, calls, the ends. -/
def thV {α : Type} (o : Option String) (a : String → α) (b : α) : α := match o with
  | some E => a E
  | none => b
def thI {α : Type} (o : Int32 ⊕ String) (a : String → α) (b : Int32 → α) : α := match o with
  | .inr E => a E
  | .inl r => b r
abbrev exNames : List String := ["java/lang/RuntimeException", "java/lang/Exception"]
abbrev QXi (G : Gx) (o : Int32 ⊕ String) (J : Mem) (sz : Nat) : Array Value → State → Outcome → State → Prop := va_Qi (fun (r : Int32) (_ : Unit) => o = .inl r) (fun _ t => va_P G.1 vwCl (wl G J) t.heap) (AA G sz)
abbrev QXv (G : Gx) (o : Option String) (J : Mem) (sz : Nat) : Array Value → State → Outcome → State → Prop := va_Qv (fun (_ : Unit) => o = none) (fun _ t => va_P G.1 vwCl (wl G J) t.heap) (AA G sz)
abbrev XXi (G : Gx) (o : Int32 ⊕ String) (J : Mem) (sz : Nat) : String → State → State → Prop := vx_X (fun (_ : Unit) => True) (fun E _ t => o = .inr E ∧ va_P G.1 vwCl (wl G J) t.heap) (AA G sz)
abbrev XXv (G : Gx) (o : Option String) (J : Mem) (sz : Nat) : String → State → State → Prop := vx_X (fun (_ : Unit) => True) (fun E _ t => o = some E ∧ va_P G.1 vwCl (wl G J) t.heap) (AA G sz)
section X8
variable {p : Program} {l : Launch} {e : Env} {R : Room} {s : State} {m : MethodId} {args : Array Value} {below : List Frame} {meth : Method} {c : Code} {H : Heap} {locs : List Loc} {cells slots : Nat} {Q : State → Prop} {cc : ByteArray} {nL : Nat} {own : String} {G : Gx} {I J : Mem} {pc : Nat} {ls : Array Slot} {rest st0 : List Value}
theorem HW.keepsP (hH : HW G s H locs I) {t : State} (h : ∀ q : Nat, q < H.size → t.heap[q]? = H[q]?) : va_P G.1 vwCl (wl G I) t.heap := hH.1.kept (fun k q hk => h q.1 (hH.1 k q hk).lt)
theorem HW.keepsF (hH : HW G s H locs I) {t : State} (hz : H.size ≤ t.heap.size) (h : ∀ q : Nat, q < H.size → t.heap[q]? = H[q]?) : va_F (AA G s.heap.size) s t := ⟨Nat.le_trans hH.2.2.1 hz, fun q h1 h2 => (h q (Nat.lt_of_lt_of_le h1 hH.2.2.1)).trans (hH.2.2.2.1 q h1 h2)⟩
theorem x_throwI (C : CX p l s m args meth c cc nL RX9 G) (hX : ∀ x ∈ c.exceptionTable.toList, False) (hlt : l.stackTraces = false) (hH : HW G s H locs I) (hsz : ls.size = nL) {cls text : String} {ik is ic mc ms : Nat} (hcls : Bundle.fit cls = true) (w1 : Cond.classLink RX9 ik cls ∈ lw_tbl) (w2 : Cond.initialized cls ∈ lw_tbl) (hs : (is, text) ∈ strL) (ha : ∀ w ∈ vx_atS RX9 ic cls exNames, w ∈ lw_tbl ∧ okW w = true) (hg : ∀ w ∈ Cond.classLink RX9 ik cls :: Cond.initialized cls :: vx_atS RX9 ic cls exNames, vx_ot w = true)
    (d0 : decode cc pc = .ok (.new ik, 3)) (d3 : decode cc (pc + 3) = .ok (.dup, 1)) (d4 : decode cc (pc + 4) = .ok (.ldc is, 2)) (d6 : decode cc (pc + 6) = .ok (.invokespecial ic, 3)) (d9 : decode cc (pc + 9) = .ok (.athrow, 1))
    (hR : 5 < R.frames ∧ (rest.map fun v => v.category).sum + 82 ≤ R.locals ∧ cells + 1 ≤ R.cells ∧ slots + 6 ≤ R.slots) (hm : cells + 1 ≤ mc ∧ slots + 6 ≤ ms) :
    W p l e R s m args below meth c H locs cells slots (vx_MQ below (QXi G (.inr cls) I s.heap.size) (XXi G (.inr cls) I s.heap.size) args s mc ms (AA G s.heap.size)) (F0 m pc ls rest) := by
  obtain ⟨sa, hsa⟩ := C.2.2.2.2.2.2.1.2.1 _ hs
  exact vx_throwS (own := RX9) (cls := cls) (text := text) (names := exNames) (sa := sa) (A := AA G s.heap.size) C.1 C.2.1 hlt C.2.2.2.1 hcls (by decide +kernel) (C.word w1 rfl) (C.word w2 rfl) hsa (fun w hw => C.wordW (ha w hw).1 (ha w hw).2) hg C.2.2.2.2.2.2.2.2.1 C.2.2.2.2.2.2.2.2.2 hH.2.2 (hsz.trans C.2.2.1.symm) d0 d3 d4 d6 d9 (fun x hx => (hX x hx).elim) hR.1 hR.2.1 hR.2.2.1 hR.2.2.2 C.2.2.2.2.2.2.2.1 (fun t hvm hz hk => ⟨(), trivial, ⟨rfl, hH.keepsP hk⟩, hH.keepsF hz hk⟩) hH.2.2.2.2 hm.1 hm.2
theorem x_throwV (C : CX p l s m args meth c cc nL RX9 G) (hX : ∀ x ∈ c.exceptionTable.toList, False) (hlt : l.stackTraces = false) (hH : HW G s H locs I) (hsz : ls.size = nL) {cls text : String} {ik is ic mc ms : Nat} (hcls : Bundle.fit cls = true) (w1 : Cond.classLink RX9 ik cls ∈ lw_tbl) (w2 : Cond.initialized cls ∈ lw_tbl) (hs : (is, text) ∈ strL) (ha : ∀ w ∈ vx_atS RX9 ic cls exNames, w ∈ lw_tbl ∧ okW w = true) (hg : ∀ w ∈ Cond.classLink RX9 ik cls :: Cond.initialized cls :: vx_atS RX9 ic cls exNames, vx_ot w = true)
    (d0 : decode cc pc = .ok (.new ik, 3)) (d3 : decode cc (pc + 3) = .ok (.dup, 1)) (d4 : decode cc (pc + 4) = .ok (.ldc is, 2)) (d6 : decode cc (pc + 6) = .ok (.invokespecial ic, 3)) (d9 : decode cc (pc + 9) = .ok (.athrow, 1))
    (hR : 5 < R.frames ∧ (rest.map fun v => v.category).sum + 82 ≤ R.locals ∧ cells + 1 ≤ R.cells ∧ slots + 6 ≤ R.slots) (hm : cells + 1 ≤ mc ∧ slots + 6 ≤ ms) :
    W p l e R s m args below meth c H locs cells slots (vx_MQ below (QXv G (some cls) I s.heap.size) (XXv G (some cls) I s.heap.size) args s mc ms (AA G s.heap.size)) (F0 m pc ls rest) := by
  obtain ⟨sa, hsa⟩ := C.2.2.2.2.2.2.1.2.1 _ hs
  exact vx_throwS (own := RX9) (cls := cls) (text := text) (names := exNames) (sa := sa) (A := AA G s.heap.size) C.1 C.2.1 hlt C.2.2.2.1 hcls (by decide +kernel) (C.word w1 rfl) (C.word w2 rfl) hsa (fun w hw => C.wordW (ha w hw).1 (ha w hw).2) hg C.2.2.2.2.2.2.2.2.1 C.2.2.2.2.2.2.2.2.2 hH.2.2 (hsz.trans C.2.2.1.symm) d0 d3 d4 d6 d9 (fun x hx => (hX x hx).elim) hR.1 hR.2.1 hR.2.2.1 hR.2.2.2 C.2.2.2.2.2.2.2.1 (fun t hvm hz hk => ⟨(), trivial, ⟨rfl, hH.keepsP hk⟩, hH.keepsF hz hk⟩) hH.2.2.2.2 hm.1 hm.2
/-- a call of a method that may throw -/
theorem x_xcv (C : CX p l s m args meth c cc nL own G) (hH : HW G s H locs I) {y : MethodName} {bytes : ByteArray} {maxL fr lo mc ms i index ci N n : Nat} {ret : Option FieldType} {Cn : String} {T : u_T} {fs : List Value} {As : List Value} {o : Option String}
    (hM : Xv l y (.code y bytes maxL ret) fr lo mc ms G I (.ref (G.2.1 i) :: As) o J) (hi : i < 66) (he : cellE G.2.1 G.2.2 i (I i) = .inr (ci, fs)) (hc : vwCl[ci]? = some (Cn, T, N))
    (w1 : Cond.code y bytes maxL ret ∈ lw_tbl) (w2 : Cond.methodLink own index y ∈ lw_tbl) (w3 : Cond.instanceMethod y ∈ lw_tbl) (w4 : Cond.selects Cn y y ∈ lw_tbl) (w5 : Cond.initialized Cn ∈ lw_tbl) (hd : y.cls = Cn ∧ dOk y n) (hR : fr + 1 ≤ R.frames ∧ 8 + (maxL + 11) + lo ≤ R.locals) (hn : As.length = n) (hsz : ls.size = nL) (hst : st0 = As.reverse ++ .ref (G.2.1 i) :: rest) (hrm : (rest.map fun v => v.category).sum ≤ 8) (hf : cells + mc ≤ R.cells ∧ slots + ms ≤ R.slots) (hdg : decode cc pc = .ok (.invokevirtual index, 3))
    (kx : ∀ (E : String) (H1 : Heap) (locs1 : List Loc) (ce : Cell) (q9 : Addr), o = some E → HW G s H1 locs1 J → H1[q9]? = some ce → ce.vm = .none → s.vm.findClass E = some ce.cls → vx_W p l e R s m args below meth c H1 locs1 (cells + mc) (slots + ms) Q (F0 m pc ls rest) q9)
    (kk : ∀ (H1 : Heap) (locs1 : List Loc), o = none → HW G s H1 locs1 J → W p l e R s m args below meth c H1 locs1 (cells + mc) (slots + ms) Q (F0 m (pc + 3) ls rest)) : W p l e R s m args below meth c H locs cells slots Q (F0 m pc ls st0) := by
  subst hst
  refine vx_callv (vx_runV (As := As) (rest := rest) C.fix (hM H.size) (cwV n C.2.2.2.2.1 (goodV w1 w2 w3 w4 w5) rfl rfl rfl hd hR) ⟨PcW_blind, va_recv C.2.2.2.2.2.1 hH.1 hc ((wl_get hi).trans (by rw [he])), C.start hH⟩ rfl hn hsz rfl (lv_room hrm) hdg hf) hH.2.2 (fun q _ h => AA_mono hH.2.2.1 h) (fun q h => AA_mono hH.2.2.1 h) (fun q _ h => AA_mono hH.2.2.1 h) ?_ ?_
  · intro E ce q9 u t H1 locs1 ht hvm _ hB _ _ hS h1 h2 h3
    exact kx E H1 locs1 ce q9 hB.1 (hH.next ht hB.2 hS) h1 h2 h3
  · intro u t H1 locs1 ht hvm hw hB hz1 hk1 hS
    exact kk H1 locs1 hw (hH.next ht hB hS)
theorem x_xci (C : CX p l s m args meth c cc nL own G) (hH : HW G s H locs I) {y : MethodName} {bytes : ByteArray} {maxL fr lo mc ms i index ci N n : Nat} {ret : Option FieldType} {Cn : String} {T : u_T} {fs : List Value} {As : List Value} {o : Int32 ⊕ String}
    (hM : Xi l y (.code y bytes maxL ret) fr lo mc ms G I (.ref (G.2.1 i) :: As) o J) (hi : i < 66) (he : cellE G.2.1 G.2.2 i (I i) = .inr (ci, fs)) (hc : vwCl[ci]? = some (Cn, T, N))
    (w1 : Cond.code y bytes maxL ret ∈ lw_tbl) (w2 : Cond.methodLink own index y ∈ lw_tbl) (w3 : Cond.instanceMethod y ∈ lw_tbl) (w4 : Cond.selects Cn y y ∈ lw_tbl) (w5 : Cond.initialized Cn ∈ lw_tbl) (hd : y.cls = Cn ∧ dOk y n) (hR : fr + 1 ≤ R.frames ∧ 8 + (maxL + 11) + lo ≤ R.locals) (hn : As.length = n) (hsz : ls.size = nL) (hst : st0 = As.reverse ++ .ref (G.2.1 i) :: rest) (hrm : (rest.map fun v => v.category).sum ≤ 8) (hf : cells + mc ≤ R.cells ∧ slots + ms ≤ R.slots) (hdg : decode cc pc = .ok (.invokevirtual index, 3))
    (kx : ∀ (E : String) (H1 : Heap) (locs1 : List Loc) (ce : Cell) (q9 : Addr), o = .inr E → HW G s H1 locs1 J → H1[q9]? = some ce → ce.vm = .none → s.vm.findClass E = some ce.cls → vx_W p l e R s m args below meth c H1 locs1 (cells + mc) (slots + ms) Q (F0 m pc ls rest) q9)
    (kk : ∀ (r : Int32) (H1 : Heap) (locs1 : List Loc), o = .inl r → HW G s H1 locs1 J → W p l e R s m args below meth c H1 locs1 (cells + mc) (slots + ms) Q (F0 m (pc + 3) ls (.int r :: rest))) : W p l e R s m args below meth c H locs cells slots Q (F0 m pc ls st0) := by
  subst hst
  refine vx_calli (vx_runV (As := As) (rest := rest) C.fix (hM H.size) (cwV n C.2.2.2.2.1 (goodV w1 w2 w3 w4 w5) rfl rfl rfl hd hR) ⟨PcW_blind, va_recv C.2.2.2.2.2.1 hH.1 hc ((wl_get hi).trans (by rw [he])), C.start hH⟩ rfl hn hsz rfl (lv_room hrm) hdg hf) hH.2.2 (fun q _ h => AA_mono hH.2.2.1 h) (fun q h => AA_mono hH.2.2.1 h) (fun q _ h => AA_mono hH.2.2.1 h) ?_ ?_
  · intro E ce q9 u t H1 locs1 ht hvm _ hB _ _ hS h1 h2 h3
    exact kx E H1 locs1 ce q9 hB.1 (hH.next ht hB.2 hS) h1 h2 h3
  · intro r u t H1 locs1 ht hvm hw hB hz1 hk1 hS
    exact kk r H1 locs1 hw (hH.next ht hB hS)
/-- what is thrown goes on to the caller -/
theorem x_outI (C : CX p l s m args meth c cc nL own G) (hX : ∀ x ∈ c.exceptionTable.toList, False) (hH : HW G s H locs I) {E : String} {ce : Cell} {q9 : Addr} {mc ms : Nat} (h1 : H[q9]? = some ce) (h2 : ce.vm = .none) (h3 : s.vm.findClass E = some ce.cls) (hm : cells ≤ mc ∧ slots ≤ ms) :
    vx_W p l e R s m args below meth c H locs cells slots (vx_MQ below (QXi G (.inr E) I s.heap.size) (XXi G (.inr E) I s.heap.size) args s mc ms (AA G s.heap.size)) (F0 m pc ls rest) q9 :=
  vx_out (fun x hx => (hX x hx).elim) C.2.2.2.2.2.2.2.1 h1 h2 h3 (fun t ht _ => ⟨(), trivial, ⟨rfl, by rw [ht]; exact hH.1⟩, hH.2.2.F ht⟩) hH.2.2.2.2 hm.1 hm.2
theorem x_outV (C : CX p l s m args meth c cc nL own G) (hX : ∀ x ∈ c.exceptionTable.toList, False) (hH : HW G s H locs I) {E : String} {ce : Cell} {q9 : Addr} {mc ms : Nat} (h1 : H[q9]? = some ce) (h2 : ce.vm = .none) (h3 : s.vm.findClass E = some ce.cls) (hm : cells ≤ mc ∧ slots ≤ ms) :
    vx_W p l e R s m args below meth c H locs cells slots (vx_MQ below (QXv G (some E) I s.heap.size) (XXv G (some E) I s.heap.size) args s mc ms (AA G s.heap.size)) (F0 m pc ls rest) q9 :=
  vx_out (fun x hx => (hX x hx).elim) C.2.2.2.2.2.2.2.1 h1 h2 h3 (fun t ht _ => ⟨(), trivial, ⟨rfl, by rw [ht]; exact hH.1⟩, hH.2.2.F ht⟩) hH.2.2.2.2 hm.1 hm.2
theorem x_iretX (C : CX p l s m args meth c cc nL own G) (hr : meth.sig.returnType = some .int) (hH : HW G s H locs I) {res : Int32} {mc ms : Nat} (hm : cells ≤ mc ∧ slots ≤ ms) (hdg : decode cc pc = .ok (.ireturn, 1)) : W p l e R s m args below meth c H locs cells slots (vx_MQ below (QXi G (.inl res) I s.heap.size) (XXi G (.inl res) I s.heap.size) args s mc ms (AA G s.heap.size)) (F0 m pc ls [.int res]) := by
  have hlocks : meth.locks = false := C.2.2.2.2.2.2.2.1
  refine W.widen hm.1 hm.2 (vx_ret ?_)
  exact W.iret C.1 C.2.1 hr (fun t ht hW => ⟨⟨res, (), rfl, rfl, by show va_P _ _ _ t.heap; rw [ht]; exact hH.1⟩, hH.2.2.F ht⟩) hH.2.2.2.2 hdg
theorem x_vretX (C : CX p l s m args meth c cc nL own G) (hr : meth.sig.returnType = none) (hH : HW G s H locs I) {mc ms : Nat} (hm : cells ≤ mc ∧ slots ≤ ms) (hdg : decode cc pc = .ok (.return_, 1)) : W p l e R s m args below meth c H locs cells slots (vx_MQ below (QXv G none I s.heap.size) (XXv G none I s.heap.size) args s mc ms (AA G s.heap.size)) (F0 m pc ls []) := by
  have hlocks : meth.locks = false := C.2.2.2.2.2.2.2.1
  refine W.widen hm.1 hm.2 (vx_ret ?_)
  exact W.vret C.1 C.2.1 hr (fun t ht hW => ⟨⟨(), rfl, rfl, by show va_P _ _ _ t.heap; rw [ht]; exact hH.1⟩, hH.2.2.F ht⟩) hH.2.2.2.2 hdg
end X8
theorem Xi.of {l : Launch} {y : MethodName} {cc : ByteArray} {maxL fr lo mc ms : Nat} {ret : Option FieldType} {G : Gx} {I J : Mem} {av : List Value} {o : Int32 ⊕ String} (hy : plainName y.cls = true) (hav : (lg_sl av).length ≤ maxL)
    (h : ∀ (p : Program) (e : Env) (s : State) (m : MethodId) (below : List Frame) (meth : Method) (c : Code) (ls : Array Slot), CX p l s m av.toArray meth c cc maxL y.cls G → (∀ x ∈ c.exceptionTable.toList, False) → meth.sig.returnType = ret → HW G s s.heap [] I → lv_has ls maxL (lv_args 0 av) →
      W p l e { frames := fr, cells := mc, slots := ms, locals := lo } s m av.toArray below meth c s.heap [] 0 0 (vx_MQ below (QXi G o J s.heap.size) (XXi G o J s.heap.size) av.toArray s mc ms (AA G s.heap.size)) (F0 m 0 ls [])) : Xi l y (.code y cc maxL ret) fr lo mc ms G I av o J := by
  intro sz
  refine vx_ofW (cc := cc) (maxL := maxL) (ret := ret) hy rfl ?_
  intro p e s m args below meth c s₁ B hml hX hv
  obtain ⟨rfl, hsz, hP, hK, hD0, hSF, hTZ⟩ := hv
  subst hsz
  have hts : ∀ w ∈ (Cond.code y cc maxL ret :: TBG), w.before av.toArray s = true := atoms_spec (ws := Cond.code y cc maxL ret :: TBG) B.pre
  have hl := lv_entry av (n := maxL) hav
  rw [lg_entry_eq]
  exact h p e s m below meth c _ ⟨B.exec, B.bytes, hml, findClass_of_methodNamed B.named, fun w hw => hts w (List.mem_cons_of_mem _ hw), hK, hSF, B.notSynchronized, hTZ⟩ hX B.returns ⟨hP, AA_D hD0, va_S.rf⟩ hl
theorem Xv.of {l : Launch} {y : MethodName} {cc : ByteArray} {maxL fr lo mc ms : Nat} {ret : Option FieldType} {G : Gx} {I J : Mem} {av : List Value} {o : Option String} (hy : plainName y.cls = true) (hav : (lg_sl av).length ≤ maxL)
    (h : ∀ (p : Program) (e : Env) (s : State) (m : MethodId) (below : List Frame) (meth : Method) (c : Code) (ls : Array Slot), CX p l s m av.toArray meth c cc maxL y.cls G → (∀ x ∈ c.exceptionTable.toList, False) → meth.sig.returnType = ret → HW G s s.heap [] I → lv_has ls maxL (lv_args 0 av) →
      W p l e { frames := fr, cells := mc, slots := ms, locals := lo } s m av.toArray below meth c s.heap [] 0 0 (vx_MQ below (QXv G o J s.heap.size) (XXv G o J s.heap.size) av.toArray s mc ms (AA G s.heap.size)) (F0 m 0 ls [])) : Xv l y (.code y cc maxL ret) fr lo mc ms G I av o J := by
  intro sz
  refine vx_ofW (cc := cc) (maxL := maxL) (ret := ret) hy rfl ?_
  intro p e s m args below meth c s₁ B hml hX hv
  obtain ⟨rfl, hsz, hP, hK, hD0, hSF, hTZ⟩ := hv
  subst hsz
  have hts : ∀ w ∈ (Cond.code y cc maxL ret :: TBG), w.before av.toArray s = true := atoms_spec (ws := Cond.code y cc maxL ret :: TBG) B.pre
  have hl := lv_entry av (n := maxL) hav
  rw [lg_entry_eq]
  exact h p e s m below meth c _ ⟨B.exec, B.bytes, hml, findClass_of_methodNamed B.named, fun w hw => hts w (List.mem_cons_of_mem _ hw), hK, hSF, B.notSynchronized, hTZ⟩ hX B.returns ⟨hP, AA_D hD0, va_S.rf⟩ hl
theorem ath_66_70 : ∀ w ∈ vx_atS RX9 70 "java/lang/IllegalArgumentException" exNames, w ∈ lw_tbl ∧ okW w = true := by decide +kernel
theorem ato_66_70 : ∀ w ∈ Cond.classLink RX9 66 "java/lang/IllegalArgumentException" :: Cond.initialized "java/lang/IllegalArgumentException" :: vx_atS RX9 70 "java/lang/IllegalArgumentException" exNames, vx_ot w = true := by decide +kernel
theorem ath_120_124 : ∀ w ∈ vx_atS RX9 124 "java/lang/IllegalStateException" exNames, w ∈ lw_tbl ∧ okW w = true := by decide +kernel
theorem ato_120_124 : ∀ w ∈ Cond.classLink RX9 120 "java/lang/IllegalStateException" :: Cond.initialized "java/lang/IllegalStateException" :: vx_atS RX9 124 "java/lang/IllegalStateException" exNames, vx_ot w = true := by decide +kernel
theorem ath_208_212 : ∀ w ∈ vx_atS RX9 212 "java/lang/UnsupportedOperationException" exNames, w ∈ lw_tbl ∧ okW w = true := by decide +kernel
theorem ato_208_212 : ∀ w ∈ Cond.classLink RX9 208 "java/lang/UnsupportedOperationException" :: Cond.initialized "java/lang/UnsupportedOperationException" :: vx_atS RX9 212 "java/lang/UnsupportedOperationException" exNames, vx_ot w = true := by decide +kernel
