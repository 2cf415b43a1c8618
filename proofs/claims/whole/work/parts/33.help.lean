/-! THE LAW'S HELPERS: static methods with a table of catches; they return. -/
def Mh (l : Launch) (y : MethodName) (cy : Cond) (fr lo mc ms : Nat) (G : Gx) (I : Mem) (av : List Value) (res : Int32) (J : Mem) : Prop :=
  ∀ sz : Nat, Met l y (cy :: TBG) { frames := fr, cells := mc, slots := ms, locals := lo } (PcW av G I sz) (Qi9 G res J sz) mc ms (AA G sz)
theorem Mh.of {l : Launch} {y : MethodName} {cc : ByteArray} {maxL fr lo mc ms : Nat} {ret : Option FieldType} {hh : List (Nat × Nat × Nat × Nat)} {G : Gx} {I J : Mem} {av : List Value} {res : Int32} (hy : plainName y.cls = true) (hav : (lg_sl av).length ≤ maxL)
    (h : ∀ (p : Program) (e : Env) (s : State) (m : MethodId) (below : List Frame) (meth : Method) (c : Code) (ls : Array Slot), CX p l s m av.toArray meth c cc maxL y.cls G → c.exceptionTable.toList = tableOf hh → meth.sig.returnType = ret → HW G s s.heap [] I → lv_has ls maxL (lv_args 0 av) →
      W p l e { frames := fr, cells := mc, slots := ms, locals := lo } s m av.toArray below meth c s.heap [] 0 0 (MQ below (Qi9 G res J s.heap.size) av.toArray s mc ms (AA G s.heap.size)) (F0 m 0 ls [])) : Mh l y (.codeWith y cc maxL ret hh) fr lo mc ms G I av res J := by
  intro sz
  refine va_MetW (cc := cc) (maxL := maxL) (ret := ret) (hh := hh) hy rfl ?_
  intro p e s m args below meth c s₁ B hml hv
  obtain ⟨rfl, hsz, hP, hK, hD0, hSF, hTZ⟩ := hv
  subst hsz
  have hts : ∀ w ∈ (Cond.codeWith y cc maxL ret hh :: TBG), w.before av.toArray s = true := atoms_spec (ws := Cond.codeWith y cc maxL ret hh :: TBG) B.pre
  have hl := lv_entry av (n := maxL) hav
  rw [lg_entry_eq]
  exact h p e s m below meth c _ ⟨B.exec, B.bytes, hml, findClass_of_methodNamed B.named, fun w hw => hts w (List.mem_cons_of_mem _ hw), hK, hSF, B.notSynchronized, hTZ⟩ (vx_table (x := y) B (hts _ List.mem_cons_self)) B.returns ⟨hP, AA_D hD0, va_S.rf⟩ hl
section X33
variable {p : Program} {l : Launch} {e : Env} {R : Room} {s : State} {m : MethodId} {args : Array Value} {below : List Frame} {meth : Method} {c : Code} {H : Heap} {locs : List Loc} {cells slots : Nat} {Q : State → Prop} {cc : ByteArray} {nL : Nat} {own : String} {G : Gx} {I J : Mem} {pc : Nat} {ls : Array Slot} {rest st0 : List Value}
theorem CX.nest (C : CX p l s m args meth c cc nL own G) {w : Cond} (h : w ∈ lw_tbl) (hn : isNest w = true) (ho : w.onTables = true) : w.before args s = true := va_Nw.use ho (C.2.2.2.2.2.2.1.1 w h hn)
theorem CX.nc (C : CX p l s m args meth c cc nL own G) {q : String × String} (h : q ∈ ncL) : va_Nc q.1 q.2 s := C.2.2.2.2.2.2.1.2.2 q h
theorem x_sh (C : CX p l s m args meth c cc nL own G) (hH : HW G s H locs I) {y : MethodName} {bytes : ByteArray} {maxL fr lo mc ms index n : Nat} {ret : Option FieldType} {hh : List (Nat × Nat × Nat × Nat)} {As : List Value} {res : Int32}
    (hM : Mh l y (.codeWith y bytes maxL ret hh) fr lo mc ms G I As res J)
    (w1 : Cond.codeWith y bytes maxL ret hh ∈ lw_tbl) (w2 : Cond.methodLink own index y ∈ lw_tbl) (w3 : Cond.static y ∈ lw_tbl) (w5 : Cond.initialized y.cls ∈ lw_tbl) (hd : dOk y n) (hR : fr + 1 ≤ R.frames ∧ 8 + (maxL + 11) + lo ≤ R.locals) (hn : As.length = n) (hsz : ls.size = nL) (hst : st0 = As.reverse ++ rest) (hrm : (rest.map fun v => v.category).sum ≤ 8) (hf : cells + mc ≤ R.cells ∧ slots + ms ≤ R.slots) (hdg : decode cc pc = .ok (.invokestatic index, 3))
    (kk : ∀ (H1 : Heap) (locs1 : List Loc), HW G s H1 locs1 J → W p l e R s m args below meth c H1 locs1 (cells + mc) (slots + ms) Q (F0 m (pc + 3) ls (.int res :: rest))) : W p l e R s m args below meth c H locs cells slots Q (F0 m pc ls st0) := by
  subst hst
  have hG : GoodIn TBG (Cond.codeWith y bytes maxL ret hh :: TBG) := goodTB w1 rfl
  refine va_calli (vx_runSW (As := As) (rest := rest) (hh := hh) C.fix (hM H.size) ⟨⟨rfl, rfl, hR.1, hR.2, pay_in C.2.2.2.2.1 hG, List.mem_cons_self⟩, C.word w1 rfl, C.word w5 rfl, ⟨hd.1, hd.2.1⟩, fun sig h => by
      have h2 := hd.2.2
      rw [h] at h2
      exact (Option.some.inj h2).symm, C.word w2 rfl, C.word w3 rfl⟩ ⟨PcW_blind, C.start hH⟩ rfl hn hsz rfl (lv_room hrm) hdg hf) hH.2.2 (fun q _ h => AA_mono hH.2.2.1 h) (fun q h => AA_mono hH.2.2.1 h) (fun r u t H1 locs1 ht hvm hw hB hz1 hk1 hS => ?_)
  subst hw
  exact kk H1 locs1 (hH.next ht hB hS)
end X33
