def f_L_law_L23 (xs : Nat → Int32) (L : Nat) : Nat → Mem → Int32 → Option (Bool × Mem)
  | 0, _, _ => none
  | n + 1, I, x4 => if ((nI L) - (5 : Int32)) < x4 then (some (true, I)) else (if inb x4 L = true then (if ((xs x4.toNatClampNeg) &&& (15 : Int32)) = (0 : Int32) then (if inb (x4 + (1 : Int32)) L = true then ((f_L_put I (xs (x4 + (1 : Int32)).toNatClampNeg)).bind fun q3 => (if inb (x4 + (1 : Int32)) L = true then ((f_X10_put q3.2 (xs (x4 + (1 : Int32)).toNatClampNeg)).bind fun q5 => ((f_X10_thrown q5.2).bind fun q6 => (if q6.1 = q3.1 then (if q3.1 = 0 then (if (lg_cmp ((q6.2 65 (0 : Int32).toNatClampNeg).toInt64) ((q5.1 : Int32).toInt64)) = 0 then (f_L_law_L23 xs L n q6.2 (x4 + (5 : Int32))) else (some (false, q6.2))) else (f_L_law_L23 xs L n q6.2 (x4 + (5 : Int32)))) else (some (false, q6.2))))) else none)) else none) else (if ((xs x4.toNatClampNeg) &&& (15 : Int32)) = (1 : Int32) then ((f_X9_empty I).bind fun q11 => ((f_X10_empty q11.2).bind fun q12 => (if q11.1 = q12.1 then (f_L_law_L23 xs L n q12.2 (x4 + (5 : Int32))) else (some (false, q12.2))))) else (if ((xs x4.toNatClampNeg) &&& (15 : Int32)) = (2 : Int32) then (if inb (x4 + (1 : Int32)) L = true then (if inb (x4 + (2 : Int32)) L = true then (if inb (x4 + (3 : Int32)) L = true then (if inb (x4 + (4 : Int32)) L = true then ((f_L_source I (xs (x4 + (1 : Int32)).toNatClampNeg) (xs (x4 + (2 : Int32)).toNatClampNeg) (xs (x4 + (3 : Int32)).toNatClampNeg) (xs (x4 + (4 : Int32)).toNatClampNeg)).bind fun q19 => (if inb (x4 + (1 : Int32)) L = true then (if inb (x4 + (2 : Int32)) L = true then (if inb (x4 + (3 : Int32)) L = true then (if inb (x4 + (4 : Int32)) L = true then ((f_X10_source q19.2 (xs (x4 + (1 : Int32)).toNatClampNeg) (xs (x4 + (2 : Int32)).toNatClampNeg) (xs (x4 + (3 : Int32)).toNatClampNeg) (xs (x4 + (4 : Int32)).toNatClampNeg)).bind fun q24 => ((f_X10_thrown q24).bind fun q25 => (if q25.1 = q19.1 then (f_L_law_L23 xs L n q25.2 (x4 + (5 : Int32))) else (some (false, q25.2))))) else none) else none) else none) else none)) else none) else none) else none) else none) else (if ((xs x4.toNatClampNeg) &&& (15 : Int32)) = (3 : Int32) then (if inb (x4 + (1 : Int32)) L = true then (if inb (x4 + (2 : Int32)) L = true then (if inb (x4 + (3 : Int32)) L = true then ((f_L_stage I (xs (x4 + (1 : Int32)).toNatClampNeg) (xs (x4 + (2 : Int32)).toNatClampNeg) (xs (x4 + (3 : Int32)).toNatClampNeg)).bind fun q31 => (if inb (x4 + (1 : Int32)) L = true then (if inb (x4 + (2 : Int32)) L = true then (if inb (x4 + (3 : Int32)) L = true then ((f_X10_stage q31.2 (xs (x4 + (1 : Int32)).toNatClampNeg) (xs (x4 + (2 : Int32)).toNatClampNeg) (xs (x4 + (3 : Int32)).toNatClampNeg)).bind fun q35 => ((f_X10_thrown q35.2).bind fun q36 => (if q36.1 = q31.1 then (if q31.1 = 0 then (if (lg_cmp ((q36.2 65 (0 : Int32).toNatClampNeg).toInt64) ((q35.1 : Int32).toInt64)) = 0 then (f_L_law_L23 xs L n q36.2 (x4 + (5 : Int32))) else (some (false, q36.2))) else (f_L_law_L23 xs L n q36.2 (x4 + (5 : Int32)))) else (some (false, q36.2))))) else none) else none) else none)) else none) else none) else none) else (if ((xs x4.toNatClampNeg) &&& (15 : Int32)) = (4 : Int32) then ((f_L_flags I).bind fun q41 => ((f_X10_flags q41.2).bind fun q42 => ((f_X10_thrown q42.2).bind fun q43 => (if q43.1 = q41.1 then (if q41.1 = 0 then (if (lg_cmp ((q43.2 65 (0 : Int32).toNatClampNeg).toInt64) ((q42.1 : Int32).toInt64)) = 0 then (f_L_law_L23 xs L n q43.2 (x4 + (5 : Int32))) else (some (false, q43.2))) else (f_L_law_L23 xs L n q43.2 (x4 + (5 : Int32)))) else (some (false, q43.2)))))) else (if ((xs x4.toNatClampNeg) &&& (15 : Int32)) = (5 : Int32) then (if inb (x4 + (1 : Int32)) L = true then (if inb (x4 + (2 : Int32)) L = true then (if inb (x4 + (3 : Int32)) L = true then ((f_L_run I (xs (x4 + (1 : Int32)).toNatClampNeg) (xs (x4 + (2 : Int32)).toNatClampNeg) (xs (x4 + (3 : Int32)).toNatClampNeg)).bind fun q51 => (if inb (x4 + (1 : Int32)) L = true then (if inb (x4 + (2 : Int32)) L = true then (if inb (x4 + (3 : Int32)) L = true then ((f_X10_run q51.2 (xs (x4 + (1 : Int32)).toNatClampNeg) (xs (x4 + (2 : Int32)).toNatClampNeg) (xs (x4 + (3 : Int32)).toNatClampNeg)).bind fun q55 => ((f_X10_thrown q55.2).bind fun q56 => (if q56.1 = q51.1 then (if q51.1 = 0 then (if (lg_cmp ((q56.2 65 (0 : Int32).toNatClampNeg).toInt64) ((q55.1 : Int32).toInt64)) = 0 then (f_L_law_L23 xs L n q56.2 (x4 + (5 : Int32))) else (some (false, q56.2))) else (f_L_law_L23 xs L n q56.2 (x4 + (5 : Int32)))) else (some (false, q56.2))))) else none) else none) else none)) else none) else none) else none) else (if ((xs x4.toNatClampNeg) &&& (15 : Int32)) = (6 : Int32) then (if inb (x4 + (1 : Int32)) L = true then (if inb (x4 + (2 : Int32)) L = true then (if inb (x4 + (3 : Int32)) L = true then ((f_L_pool I (xs (x4 + (1 : Int32)).toNatClampNeg) (xs (x4 + (2 : Int32)).toNatClampNeg) (xs (x4 + (3 : Int32)).toNatClampNeg)).bind fun q64 => (if inb (x4 + (1 : Int32)) L = true then (if inb (x4 + (2 : Int32)) L = true then (if inb (x4 + (3 : Int32)) L = true then ((f_X10_pool q64.2 (xs (x4 + (1 : Int32)).toNatClampNeg) (xs (x4 + (2 : Int32)).toNatClampNeg) (xs (x4 + (3 : Int32)).toNatClampNeg)).bind fun q68 => ((f_X10_thrown q68).bind fun q69 => (if q69.1 = q64.1 then (f_L_law_L23 xs L n q69.2 (x4 + (5 : Int32))) else (some (false, q69.2))))) else none) else none) else none)) else none) else none) else none) else (if ((xs x4.toNatClampNeg) &&& (15 : Int32)) = (7 : Int32) then (if inb (x4 + (1 : Int32)) L = true then (if inb (x4 + (2 : Int32)) L = true then (if inb (x4 + (3 : Int32)) L = true then ((f_L_parts I (xs (x4 + (1 : Int32)).toNatClampNeg) (xs (x4 + (2 : Int32)).toNatClampNeg) (xs (x4 + (3 : Int32)).toNatClampNeg)).bind fun q75 => (if inb (x4 + (1 : Int32)) L = true then (if inb (x4 + (2 : Int32)) L = true then (if inb (x4 + (3 : Int32)) L = true then ((f_X10_parts q75.2 (xs (x4 + (1 : Int32)).toNatClampNeg) (xs (x4 + (2 : Int32)).toNatClampNeg) (xs (x4 + (3 : Int32)).toNatClampNeg)).bind fun q79 => ((f_X10_thrown q79.2).bind fun q80 => (if q80.1 = q75.1 then (if q75.1 = 0 then (if (lg_cmp ((q80.2 65 (0 : Int32).toNatClampNeg).toInt64) ((q79.1 : Int32).toInt64)) = 0 then (f_L_law_L23 xs L n q80.2 (x4 + (5 : Int32))) else (some (false, q80.2))) else (f_L_law_L23 xs L n q80.2 (x4 + (5 : Int32)))) else (some (false, q80.2))))) else none) else none) else none)) else none) else none) else none) else (if ((xs x4.toNatClampNeg) &&& (15 : Int32)) = (8 : Int32) then (if inb (x4 + (1 : Int32)) L = true then ((f_X9_seen I (xs (x4 + (1 : Int32)).toNatClampNeg)).bind fun q86 => (if inb (x4 + (1 : Int32)) L = true then ((f_X10_seen q86.2 (xs (x4 + (1 : Int32)).toNatClampNeg)).bind fun q88 => (if q86.1 = q88.1 then (f_L_law_L23 xs L n q88.2 (x4 + (5 : Int32))) else (some (false, q88.2)))) else none)) else none) else (if ((xs x4.toNatClampNeg) &&& (15 : Int32)) = (9 : Int32) then (if inb (x4 + (1 : Int32)) L = true then ((f_L_kept I (xs (x4 + (1 : Int32)).toNatClampNeg)).bind fun q92 => (if inb (x4 + (1 : Int32)) L = true then ((f_X10_kept q92.2 (xs (x4 + (1 : Int32)).toNatClampNeg)).bind fun q94 => ((f_X10_thrown q94.2).bind fun q95 => (if q95.1 = q92.1 then (if q92.1 = 0 then (if (lg_cmp ((q95.2 65 (0 : Int32).toNatClampNeg).toInt64) ((q94.1 : Int32).toInt64)) = 0 then (f_L_law_L23 xs L n q95.2 (x4 + (5 : Int32))) else (some (false, q95.2))) else (f_L_law_L23 xs L n q95.2 (x4 + (5 : Int32)))) else (some (false, q95.2))))) else none)) else none) else (if ((xs x4.toNatClampNeg) &&& (15 : Int32)) = (10 : Int32) then (if inb (x4 + (1 : Int32)) L = true then ((f_X9_pooled I (xs (x4 + (1 : Int32)).toNatClampNeg)).bind fun q101 => (if inb (x4 + (1 : Int32)) L = true then ((f_X10_pooled q101.2 (xs (x4 + (1 : Int32)).toNatClampNeg)).bind fun q103 => (if q101.1 = q103.1 then (f_L_law_L23 xs L n q103.2 (x4 + (5 : Int32))) else (some (false, q103.2)))) else none)) else none) else (f_L_law_L23 xs L n I (x4 + (5 : Int32)))))))))))))) else none)
set_option maxHeartbeats 8000000 in
set_option maxRecDepth 100000 in
theorem w_L_law_L23 {p : Program} {l : Launch} {e : Env} {s : State} {m : MethodId} {b : Nat} {below : List Frame} {meth : Method} {c : Code} {G : Gx} (xs : Nat → Int32) (L : Nat) {J : Mem} (hlt : l.stackTraces = false) (C : CX p l s m #[Value.ref b] meth c code 7 RL G) (hr : meth.sig.returnType = ret) (hX : va_X b L xs s s.heap) (hbl : b < s.heap.size) (hbA : ¬ AA G s.heap.size b) (hge : ∀ q : Nat, AA G s.heap.size q → s.heap.size ≤ q) :
    ∀ (n : Nat) (I : Mem) (x4 : Int32) (cs sl : Nat), cs + 3 * n ≤ 601024 → sl + 18 * n ≤ 7293034 → ∀ (H : Heap) (locs : List Loc) (ls : Array Slot), HW G s H locs I → lv_has ls 7 [(0, .ref b), (1, .ref (G.2.1 0)), (2, .ref (G.2.1 45)), (3, .ref (G.2.1 65)), (4, .int x4)] → f_L_law_L23 xs L n I x4 = some (true, J) → W p l e room_1 s m #[Value.ref b] below meth c H locs cs sl (lw_Z below #[Value.ref b] s) (F0 m 23 ls []) := by
  intro n
  induction n with
  | zero => intro I x4 cs sl _ _ H locs ls hH hl hf; exact absurd hf (by simp [f_L_law_L23])
  | succ n ih =>
    intro I x4 cs sl hcs hsl H locs ls hH hl hf
    have hf : (if ((nI L) - (5 : Int32)) < x4 then (some (true, I)) else (if inb x4 L = true then (if ((xs x4.toNatClampNeg) &&& (15 : Int32)) = (0 : Int32) then (if inb (x4 + (1 : Int32)) L = true then ((f_L_put I (xs (x4 + (1 : Int32)).toNatClampNeg)).bind fun q3 => (if inb (x4 + (1 : Int32)) L = true then ((f_X10_put q3.2 (xs (x4 + (1 : Int32)).toNatClampNeg)).bind fun q5 => ((f_X10_thrown q5.2).bind fun q6 => (if q6.1 = q3.1 then (if q3.1 = 0 then (if (lg_cmp ((q6.2 65 (0 : Int32).toNatClampNeg).toInt64) ((q5.1 : Int32).toInt64)) = 0 then (f_L_law_L23 xs L n q6.2 (x4 + (5 : Int32))) else (some (false, q6.2))) else (f_L_law_L23 xs L n q6.2 (x4 + (5 : Int32)))) else (some (false, q6.2))))) else none)) else none) else (if ((xs x4.toNatClampNeg) &&& (15 : Int32)) = (1 : Int32) then ((f_X9_empty I).bind fun q11 => ((f_X10_empty q11.2).bind fun q12 => (if q11.1 = q12.1 then (f_L_law_L23 xs L n q12.2 (x4 + (5 : Int32))) else (some (false, q12.2))))) else (if ((xs x4.toNatClampNeg) &&& (15 : Int32)) = (2 : Int32) then (if inb (x4 + (1 : Int32)) L = true then (if inb (x4 + (2 : Int32)) L = true then (if inb (x4 + (3 : Int32)) L = true then (if inb (x4 + (4 : Int32)) L = true then ((f_L_source I (xs (x4 + (1 : Int32)).toNatClampNeg) (xs (x4 + (2 : Int32)).toNatClampNeg) (xs (x4 + (3 : Int32)).toNatClampNeg) (xs (x4 + (4 : Int32)).toNatClampNeg)).bind fun q19 => (if inb (x4 + (1 : Int32)) L = true then (if inb (x4 + (2 : Int32)) L = true then (if inb (x4 + (3 : Int32)) L = true then (if inb (x4 + (4 : Int32)) L = true then ((f_X10_source q19.2 (xs (x4 + (1 : Int32)).toNatClampNeg) (xs (x4 + (2 : Int32)).toNatClampNeg) (xs (x4 + (3 : Int32)).toNatClampNeg) (xs (x4 + (4 : Int32)).toNatClampNeg)).bind fun q24 => ((f_X10_thrown q24).bind fun q25 => (if q25.1 = q19.1 then (f_L_law_L23 xs L n q25.2 (x4 + (5 : Int32))) else (some (false, q25.2))))) else none) else none) else none) else none)) else none) else none) else none) else none) else (if ((xs x4.toNatClampNeg) &&& (15 : Int32)) = (3 : Int32) then (if inb (x4 + (1 : Int32)) L = true then (if inb (x4 + (2 : Int32)) L = true then (if inb (x4 + (3 : Int32)) L = true then ((f_L_stage I (xs (x4 + (1 : Int32)).toNatClampNeg) (xs (x4 + (2 : Int32)).toNatClampNeg) (xs (x4 + (3 : Int32)).toNatClampNeg)).bind fun q31 => (if inb (x4 + (1 : Int32)) L = true then (if inb (x4 + (2 : Int32)) L = true then (if inb (x4 + (3 : Int32)) L = true then ((f_X10_stage q31.2 (xs (x4 + (1 : Int32)).toNatClampNeg) (xs (x4 + (2 : Int32)).toNatClampNeg) (xs (x4 + (3 : Int32)).toNatClampNeg)).bind fun q35 => ((f_X10_thrown q35.2).bind fun q36 => (if q36.1 = q31.1 then (if q31.1 = 0 then (if (lg_cmp ((q36.2 65 (0 : Int32).toNatClampNeg).toInt64) ((q35.1 : Int32).toInt64)) = 0 then (f_L_law_L23 xs L n q36.2 (x4 + (5 : Int32))) else (some (false, q36.2))) else (f_L_law_L23 xs L n q36.2 (x4 + (5 : Int32)))) else (some (false, q36.2))))) else none) else none) else none)) else none) else none) else none) else (if ((xs x4.toNatClampNeg) &&& (15 : Int32)) = (4 : Int32) then ((f_L_flags I).bind fun q41 => ((f_X10_flags q41.2).bind fun q42 => ((f_X10_thrown q42.2).bind fun q43 => (if q43.1 = q41.1 then (if q41.1 = 0 then (if (lg_cmp ((q43.2 65 (0 : Int32).toNatClampNeg).toInt64) ((q42.1 : Int32).toInt64)) = 0 then (f_L_law_L23 xs L n q43.2 (x4 + (5 : Int32))) else (some (false, q43.2))) else (f_L_law_L23 xs L n q43.2 (x4 + (5 : Int32)))) else (some (false, q43.2)))))) else (if ((xs x4.toNatClampNeg) &&& (15 : Int32)) = (5 : Int32) then (if inb (x4 + (1 : Int32)) L = true then (if inb (x4 + (2 : Int32)) L = true then (if inb (x4 + (3 : Int32)) L = true then ((f_L_run I (xs (x4 + (1 : Int32)).toNatClampNeg) (xs (x4 + (2 : Int32)).toNatClampNeg) (xs (x4 + (3 : Int32)).toNatClampNeg)).bind fun q51 => (if inb (x4 + (1 : Int32)) L = true then (if inb (x4 + (2 : Int32)) L = true then (if inb (x4 + (3 : Int32)) L = true then ((f_X10_run q51.2 (xs (x4 + (1 : Int32)).toNatClampNeg) (xs (x4 + (2 : Int32)).toNatClampNeg) (xs (x4 + (3 : Int32)).toNatClampNeg)).bind fun q55 => ((f_X10_thrown q55.2).bind fun q56 => (if q56.1 = q51.1 then (if q51.1 = 0 then (if (lg_cmp ((q56.2 65 (0 : Int32).toNatClampNeg).toInt64) ((q55.1 : Int32).toInt64)) = 0 then (f_L_law_L23 xs L n q56.2 (x4 + (5 : Int32))) else (some (false, q56.2))) else (f_L_law_L23 xs L n q56.2 (x4 + (5 : Int32)))) else (some (false, q56.2))))) else none) else none) else none)) else none) else none) else none) else (if ((xs x4.toNatClampNeg) &&& (15 : Int32)) = (6 : Int32) then (if inb (x4 + (1 : Int32)) L = true then (if inb (x4 + (2 : Int32)) L = true then (if inb (x4 + (3 : Int32)) L = true then ((f_L_pool I (xs (x4 + (1 : Int32)).toNatClampNeg) (xs (x4 + (2 : Int32)).toNatClampNeg) (xs (x4 + (3 : Int32)).toNatClampNeg)).bind fun q64 => (if inb (x4 + (1 : Int32)) L = true then (if inb (x4 + (2 : Int32)) L = true then (if inb (x4 + (3 : Int32)) L = true then ((f_X10_pool q64.2 (xs (x4 + (1 : Int32)).toNatClampNeg) (xs (x4 + (2 : Int32)).toNatClampNeg) (xs (x4 + (3 : Int32)).toNatClampNeg)).bind fun q68 => ((f_X10_thrown q68).bind fun q69 => (if q69.1 = q64.1 then (f_L_law_L23 xs L n q69.2 (x4 + (5 : Int32))) else (some (false, q69.2))))) else none) else none) else none)) else none) else none) else none) else (if ((xs x4.toNatClampNeg) &&& (15 : Int32)) = (7 : Int32) then (if inb (x4 + (1 : Int32)) L = true then (if inb (x4 + (2 : Int32)) L = true then (if inb (x4 + (3 : Int32)) L = true then ((f_L_parts I (xs (x4 + (1 : Int32)).toNatClampNeg) (xs (x4 + (2 : Int32)).toNatClampNeg) (xs (x4 + (3 : Int32)).toNatClampNeg)).bind fun q75 => (if inb (x4 + (1 : Int32)) L = true then (if inb (x4 + (2 : Int32)) L = true then (if inb (x4 + (3 : Int32)) L = true then ((f_X10_parts q75.2 (xs (x4 + (1 : Int32)).toNatClampNeg) (xs (x4 + (2 : Int32)).toNatClampNeg) (xs (x4 + (3 : Int32)).toNatClampNeg)).bind fun q79 => ((f_X10_thrown q79.2).bind fun q80 => (if q80.1 = q75.1 then (if q75.1 = 0 then (if (lg_cmp ((q80.2 65 (0 : Int32).toNatClampNeg).toInt64) ((q79.1 : Int32).toInt64)) = 0 then (f_L_law_L23 xs L n q80.2 (x4 + (5 : Int32))) else (some (false, q80.2))) else (f_L_law_L23 xs L n q80.2 (x4 + (5 : Int32)))) else (some (false, q80.2))))) else none) else none) else none)) else none) else none) else none) else (if ((xs x4.toNatClampNeg) &&& (15 : Int32)) = (8 : Int32) then (if inb (x4 + (1 : Int32)) L = true then ((f_X9_seen I (xs (x4 + (1 : Int32)).toNatClampNeg)).bind fun q86 => (if inb (x4 + (1 : Int32)) L = true then ((f_X10_seen q86.2 (xs (x4 + (1 : Int32)).toNatClampNeg)).bind fun q88 => (if q86.1 = q88.1 then (f_L_law_L23 xs L n q88.2 (x4 + (5 : Int32))) else (some (false, q88.2)))) else none)) else none) else (if ((xs x4.toNatClampNeg) &&& (15 : Int32)) = (9 : Int32) then (if inb (x4 + (1 : Int32)) L = true then ((f_L_kept I (xs (x4 + (1 : Int32)).toNatClampNeg)).bind fun q92 => (if inb (x4 + (1 : Int32)) L = true then ((f_X10_kept q92.2 (xs (x4 + (1 : Int32)).toNatClampNeg)).bind fun q94 => ((f_X10_thrown q94.2).bind fun q95 => (if q95.1 = q92.1 then (if q92.1 = 0 then (if (lg_cmp ((q95.2 65 (0 : Int32).toNatClampNeg).toInt64) ((q94.1 : Int32).toInt64)) = 0 then (f_L_law_L23 xs L n q95.2 (x4 + (5 : Int32))) else (some (false, q95.2))) else (f_L_law_L23 xs L n q95.2 (x4 + (5 : Int32)))) else (some (false, q95.2))))) else none)) else none) else (if ((xs x4.toNatClampNeg) &&& (15 : Int32)) = (10 : Int32) then (if inb (x4 + (1 : Int32)) L = true then ((f_X9_pooled I (xs (x4 + (1 : Int32)).toNatClampNeg)).bind fun q101 => (if inb (x4 + (1 : Int32)) L = true then ((f_X10_pooled q101.2 (xs (x4 + (1 : Int32)).toNatClampNeg)).bind fun q103 => (if q101.1 = q103.1 then (f_L_law_L23 xs L n q103.2 (x4 + (5 : Int32))) else (some (false, q103.2)))) else none)) else none) else (f_L_law_L23 xs L n I (x4 + (5 : Int32)))))))))))))) else none)) = _ := hf
    refine lv_iload C.1 C.2.1 dL_law_23 (lv_at hl 4 rfl) ?_
    refine lv_aload_n C.1 C.2.1 dL_law_25 rfl (lv_at hl 0 rfl) ?_
    refine va_slen C.1 C.2.1 hX hbl hbA hH.2.2 dL_law_26 ?_
    refine lv_iconst (v := (5 : Int32)) C.1 C.2.1 dL_law_27 (by decide) ?_
    refine lv_isub C.1 C.2.1 dL_law_28 ?_
    refine lv_icmp_gt (tgt := 693) C.1 C.2.1 dL_law_29 (by decide) (fun q106 => ?_) (fun q106 => ?_)
    · have hf := (if_pos q106).symm.trans hf
      refine lv_iconst (v := (1 : Int32)) C.1 C.2.1 dL_law_693 (by decide) ?_
      refine va_forget (fun q hq => hge _ (hH.2.2.2.2 q hq)) ?_
      refine W.widen (k := 601024) (n := 7293034) (by omega) (by omega) ?_
      exact lw_ret C.1 C.2.1 hr C.2.2.2.2.2.2.2.1 dL_law_694
    · have hf := (if_neg q106).symm.trans hf
      refine lv_aload_n C.1 C.2.1 dL_law_32 rfl (lv_at hl 0 rfl) ?_
      refine lv_iload C.1 C.2.1 dL_law_33 (lv_at hl 4 rfl) ?_
      obtain ⟨q1, hf⟩ := itn hf
      refine va_sld C.1 C.2.1 hX hbl hbA hH.2.2 (inb_in q1) dL_law_35 ?_
      refine lv_bipush (v := (15 : Int32)) C.1 C.2.1 dL_law_36 (by decide) ?_
      refine lv_iand C.1 C.2.1 dL_law_38 ?_
      by_cases q10 : ((xs x4.toNatClampNeg) &&& (15 : Int32)) = (0 : Int32)
      · have hf := (if_pos q10).symm.trans hf
        refine lv_tableIn (tgt := 96) (off := 57) C.1 C.2.1 dL_law_39 (by rw [q10]; decide) (by rw [q10]; decide) (by rw [q10]; decide) (by decide) ?_
        refine lv_aload_n C.1 C.2.1 dL_law_96 rfl (lv_at hl 1 rfl) ?_
        refine lv_aload_n C.1 C.2.1 dL_law_97 rfl (lv_at hl 0 rfl) ?_
        refine lv_iload C.1 C.2.1 dL_law_98 (lv_at hl 4 rfl) ?_
        refine lv_iconst (v := (1 : Int32)) C.1 C.2.1 dL_law_100 (by decide) ?_
        refine lv_iadd C.1 C.2.1 dL_law_101 ?_
        obtain ⟨q2, hf⟩ := itn hf
        refine va_sld C.1 C.2.1 hX hbl hbA hH.2.2 (inb_in q2) dL_law_102 ?_
        refine lv_aload_n C.1 C.2.1 dL_law_103 rfl (lv_at hl 3 rfl) ?_
        obtain ⟨q3, hc, hf⟩ := Option.bind_eq_some_iff.mp hf
        refine x_sh (n := 3) C hH (c_L_put l hlt G I (xs (x4 + (1 : Int32)).toNatClampNeg) hc) tw_367 tw_365 tw_366 tw_46 (by decide +kernel) ⟨Nat.le_of_ble_eq_true rfl, Nat.le_of_ble_eq_true rfl⟩ rfl hl.1 rfl (Nat.le_of_ble_eq_true rfl) ⟨by show _ ≤ 601024; omega, by show _ ≤ 7293034; omega⟩ dL_law_104 (fun H locs hH => ?_)
        refine lv_istore (lv' := [(5, .int q3.1), (0, .ref b), (1, .ref (G.2.1 0)), (2, .ref (G.2.1 45)), (3, .ref (G.2.1 65)), (4, .int x4)]) C.1 C.2.1 dL_law_107 hl (by decide) rfl (fun ls hl => ?_)
        refine lv_aload_n C.1 C.2.1 dL_law_109 rfl (lv_at hl 3 rfl) ?_
        refine lv_aload_n C.1 C.2.1 dL_law_110 rfl (lv_at hl 1 rfl) ?_
        refine lv_iload C.1 C.2.1 dL_law_111 (lv_at hl 5 rfl) ?_
        refine lv_iconst (v := (1 : Int32)) C.1 C.2.1 dL_law_113 (by decide) ?_
        refine lv_iadd C.1 C.2.1 dL_law_114 ?_
        obtain ⟨q4, hf⟩ := itn hf
        refine va_sld C.1 C.2.1 hX hbl hbA hH.2.2 (inb_in q4) dL_law_115 ?_
        obtain ⟨q5, hc, hf⟩ := Option.bind_eq_some_iff.mp hf
        refine x_ci (n := 1) C hH (c_X10_put l G q3.2 (xs (x4 + (1 : Int32)).toNatClampNeg) hc) (kd_lt kk_45 (by decide)) (cE_10 kk_45) rfl tw_952 tw_949 tw_950 tw_951 tw_57 (by decide +kernel) ⟨Nat.le_of_ble_eq_true rfl, Nat.le_of_ble_eq_true rfl⟩ rfl hl.1 rfl (Nat.le_of_ble_eq_true rfl) ⟨by show _ ≤ 601024; omega, by show _ ≤ 7293034; omega⟩ dL_law_116 (fun H locs hH => ?_)
        refine lv_istore (lv' := [(6, .int q5.1), (5, .int q3.1), (0, .ref b), (1, .ref (G.2.1 0)), (2, .ref (G.2.1 45)), (3, .ref (G.2.1 65)), (4, .int x4)]) C.1 C.2.1 dL_law_119 hl (by decide) rfl (fun ls hl => ?_)
        refine lv_aload_n C.1 C.2.1 dL_law_121 rfl (lv_at hl 4 rfl) ?_
        obtain ⟨q6, hc, hf⟩ := Option.bind_eq_some_iff.mp hf
        refine x_ci (n := 0) C hH (c_X10_thrown l G q5.2  hc) (kd_lt kk_45 (by decide)) (cE_10 kk_45) rfl tw_948 tw_945 tw_946 tw_947 tw_57 (by decide +kernel) ⟨Nat.le_of_ble_eq_true rfl, Nat.le_of_ble_eq_true rfl⟩ rfl hl.1 rfl (Nat.le_of_ble_eq_true rfl) ⟨by show _ ≤ 601024; omega, by show _ ≤ 7293034; omega⟩ dL_law_122 (fun H locs hH => ?_)
        refine lv_iload C.1 C.2.1 dL_law_125 (lv_at hl 1 rfl) ?_
        refine lv_icmp_eq (tgt := 132) C.1 C.2.1 dL_law_127 (by decide) (fun q9 => ?_) (fun q9 => ?_)
        · have hf := (if_pos q9).symm.trans hf
          refine lv_iload C.1 C.2.1 dL_law_132 (lv_at hl 1 rfl) ?_
          refine lv_if_ne (tgt := 149) C.1 C.2.1 dL_law_134 (by decide) (fun q8 => ?_) (fun q8 => ?_)
          · have hf := (if_neg q8).symm.trans hf
            refine lv_goto (tgt := 687) C.1 C.2.1 dL_law_149 (by decide) ?_
            refine lv_iinc (v := (x4 + (5 : Int32))) (lv' := [(4, .int (x4 + (5 : Int32))), (6, .int q5.1), (5, .int q3.1), (0, .ref b), (1, .ref (G.2.1 0)), (2, .ref (G.2.1 45)), (3, .ref (G.2.1 65))]) C.1 C.2.1 dL_law_687 hl (k := 6) rfl rfl (by decide) rfl (fun ls hl => ?_)
            refine lv_goto (tgt := 23) C.1 C.2.1 dL_law_690 (by decide) ?_
            exact ih q6.2 (x4 + (5 : Int32)) (cs + 1) (sl + 6) (by omega) (by omega) _ _ _ hH (lv_sub hl [3, 4, 5, 6, 0] rfl) hf
          · have hf := (if_pos q8).symm.trans hf
            refine lv_aload_n C.1 C.2.1 dL_law_137 rfl (lv_at hl 5 rfl) ?_
            refine lv_iconst (v := (0 : Int32)) C.1 C.2.1 dL_law_138 (by decide) ?_
            refine x_lald C hH kk_65 (by decide) dL_law_139 ?_
            refine lv_iload C.1 C.2.1 dL_law_140 (lv_at hl 0 rfl) ?_
            refine lv_i2l (v := (q5.1 : Int32).toInt64) C.1 C.2.1 dL_law_142 rfl ?_
            refine W.lcmp C.1 C.2.1 dL_law_143 ?_
            refine lv_if_eq (tgt := 149) C.1 C.2.1 dL_law_144 (by decide) (fun q7 => ?_) (fun q7 => ?_)
            · have hf := (if_pos q7).symm.trans hf
              refine lv_goto (tgt := 687) C.1 C.2.1 dL_law_149 (by decide) ?_
              refine lv_iinc (v := (x4 + (5 : Int32))) (lv' := [(4, .int (x4 + (5 : Int32))), (6, .int q5.1), (5, .int q3.1), (0, .ref b), (1, .ref (G.2.1 0)), (2, .ref (G.2.1 45)), (3, .ref (G.2.1 65))]) C.1 C.2.1 dL_law_687 hl (k := 6) rfl rfl (by decide) rfl (fun ls hl => ?_)
              refine lv_goto (tgt := 23) C.1 C.2.1 dL_law_690 (by decide) ?_
              exact ih q6.2 (x4 + (5 : Int32)) (cs + 1) (sl + 6) (by omega) (by omega) _ _ _ hH (lv_sub hl [3, 4, 5, 6, 0] rfl) hf
            · have hf := (if_neg q7).symm.trans hf
              refine lv_iconst (v := (0 : Int32)) C.1 C.2.1 dL_law_147 (by decide) ?_
              exact absurd hf (by simp)
        · have hf := (if_neg q9).symm.trans hf
          refine lv_iconst (v := (0 : Int32)) C.1 C.2.1 dL_law_130 (by decide) ?_
          exact absurd hf (by simp)
      · have hf := (if_neg q10).symm.trans hf
        by_cases q14 : ((xs x4.toNatClampNeg) &&& (15 : Int32)) = (1 : Int32)
        · have hf := (if_pos q14).symm.trans hf
          refine lv_tableIn (tgt := 152) (off := 113) C.1 C.2.1 dL_law_39 (by rw [q14]; decide) (by rw [q14]; decide) (by rw [q14]; decide) (by decide) ?_
          refine lv_aload_n C.1 C.2.1 dL_law_152 rfl (lv_at hl 1 rfl) ?_
          obtain ⟨q11, hc, hf⟩ := Option.bind_eq_some_iff.mp hf
          refine x_ci (n := 0) C hH (c_X9_empty l G I  hc) (kd_lt kk_0 (by decide)) (cE_9 kk_0) rfl tw_345 tw_342 tw_343 tw_344 tw_47 (by decide +kernel) ⟨Nat.le_of_ble_eq_true rfl, Nat.le_of_ble_eq_true rfl⟩ rfl hl.1 rfl (Nat.le_of_ble_eq_true rfl) ⟨by show _ ≤ 601024; omega, by show _ ≤ 7293034; omega⟩ dL_law_153 (fun H locs hH => ?_)
          refine lv_aload_n C.1 C.2.1 dL_law_156 rfl (lv_at hl 2 rfl) ?_
          obtain ⟨q12, hc, hf⟩ := Option.bind_eq_some_iff.mp hf
          refine x_ci (n := 0) C hH (c_X10_empty l G q11.2  hc) (kd_lt kk_45 (by decide)) (cE_10 kk_45) rfl tw_960 tw_957 tw_958 tw_959 tw_57 (by decide +kernel) ⟨Nat.le_of_ble_eq_true rfl, Nat.le_of_ble_eq_true rfl⟩ rfl hl.1 rfl (Nat.le_of_ble_eq_true rfl) ⟨by show _ ≤ 601024; omega, by show _ ≤ 7293034; omega⟩ dL_law_157 (fun H locs hH => ?_)
          refine lv_icmp_eq (tgt := 687) C.1 C.2.1 dL_law_160 (by decide) (fun q13 => ?_) (fun q13 => ?_)
          · have hf := (if_pos q13).symm.trans hf
            refine lv_iinc (v := (x4 + (5 : Int32))) (lv' := [(4, .int (x4 + (5 : Int32))), (0, .ref b), (1, .ref (G.2.1 0)), (2, .ref (G.2.1 45)), (3, .ref (G.2.1 65))]) C.1 C.2.1 dL_law_687 hl (k := 4) rfl rfl (by decide) rfl (fun ls hl => ?_)
            refine lv_goto (tgt := 23) C.1 C.2.1 dL_law_690 (by decide) ?_
            exact ih q12.2 (x4 + (5 : Int32)) (cs + 0) (sl + 0) (by omega) (by omega) _ _ _ hH (lv_sub hl [1, 2, 3, 4, 0] rfl) hf
          · have hf := (if_neg q13).symm.trans hf
            refine lv_iconst (v := (0 : Int32)) C.1 C.2.1 dL_law_163 (by decide) ?_
            exact absurd hf (by simp)
        · have hf := (if_neg q14).symm.trans hf
          by_cases q27 : ((xs x4.toNatClampNeg) &&& (15 : Int32)) = (2 : Int32)
          · have hf := (if_pos q27).symm.trans hf
            refine lv_tableIn (tgt := 165) (off := 126) C.1 C.2.1 dL_law_39 (by rw [q27]; decide) (by rw [q27]; decide) (by rw [q27]; decide) (by decide) ?_
            refine lv_aload_n C.1 C.2.1 dL_law_165 rfl (lv_at hl 1 rfl) ?_
            refine lv_aload_n C.1 C.2.1 dL_law_166 rfl (lv_at hl 0 rfl) ?_
            refine lv_iload C.1 C.2.1 dL_law_167 (lv_at hl 4 rfl) ?_
            refine lv_iconst (v := (1 : Int32)) C.1 C.2.1 dL_law_169 (by decide) ?_
            refine lv_iadd C.1 C.2.1 dL_law_170 ?_
            obtain ⟨q15, hf⟩ := itn hf
            refine va_sld C.1 C.2.1 hX hbl hbA hH.2.2 (inb_in q15) dL_law_171 ?_
            refine lv_aload_n C.1 C.2.1 dL_law_172 rfl (lv_at hl 0 rfl) ?_
            refine lv_iload C.1 C.2.1 dL_law_173 (lv_at hl 4 rfl) ?_
            refine lv_iconst (v := (2 : Int32)) C.1 C.2.1 dL_law_175 (by decide) ?_
            refine lv_iadd C.1 C.2.1 dL_law_176 ?_
            obtain ⟨q16, hf⟩ := itn hf
            refine va_sld C.1 C.2.1 hX hbl hbA hH.2.2 (inb_in q16) dL_law_177 ?_
            refine lv_aload_n C.1 C.2.1 dL_law_178 rfl (lv_at hl 0 rfl) ?_
            refine lv_iload C.1 C.2.1 dL_law_179 (lv_at hl 4 rfl) ?_
            refine lv_iconst (v := (3 : Int32)) C.1 C.2.1 dL_law_181 (by decide) ?_
            refine lv_iadd C.1 C.2.1 dL_law_182 ?_
            obtain ⟨q17, hf⟩ := itn hf
            refine va_sld C.1 C.2.1 hX hbl hbA hH.2.2 (inb_in q17) dL_law_183 ?_
            refine lv_aload_n C.1 C.2.1 dL_law_184 rfl (lv_at hl 0 rfl) ?_
            refine lv_iload C.1 C.2.1 dL_law_185 (lv_at hl 4 rfl) ?_
            refine lv_iconst (v := (4 : Int32)) C.1 C.2.1 dL_law_187 (by decide) ?_
            refine lv_iadd C.1 C.2.1 dL_law_188 ?_
            obtain ⟨q18, hf⟩ := itn hf
            refine va_sld C.1 C.2.1 hX hbl hbA hH.2.2 (inb_in q18) dL_law_189 ?_
            obtain ⟨q19, hc, hf⟩ := Option.bind_eq_some_iff.mp hf
            refine x_sh (n := 5) C hH (c_L_source l hlt G I (xs (x4 + (1 : Int32)).toNatClampNeg) (xs (x4 + (2 : Int32)).toNatClampNeg) (xs (x4 + (3 : Int32)).toNatClampNeg) (xs (x4 + (4 : Int32)).toNatClampNeg) hc) tw_460 tw_458 tw_459 tw_46 (by decide +kernel) ⟨Nat.le_of_ble_eq_true rfl, Nat.le_of_ble_eq_true rfl⟩ rfl hl.1 rfl (Nat.le_of_ble_eq_true rfl) ⟨by show _ ≤ 601024; omega, by show _ ≤ 7293034; omega⟩ dL_law_190 (fun H locs hH => ?_)
            refine lv_istore (lv' := [(5, .int q19.1), (0, .ref b), (1, .ref (G.2.1 0)), (2, .ref (G.2.1 45)), (3, .ref (G.2.1 65)), (4, .int x4)]) C.1 C.2.1 dL_law_193 hl (by decide) rfl (fun ls hl => ?_)
            refine lv_aload_n C.1 C.2.1 dL_law_195 rfl (lv_at hl 3 rfl) ?_
            refine lv_aload_n C.1 C.2.1 dL_law_196 rfl (lv_at hl 1 rfl) ?_
            refine lv_iload C.1 C.2.1 dL_law_197 (lv_at hl 5 rfl) ?_
            refine lv_iconst (v := (1 : Int32)) C.1 C.2.1 dL_law_199 (by decide) ?_
            refine lv_iadd C.1 C.2.1 dL_law_200 ?_
            obtain ⟨q20, hf⟩ := itn hf
            refine va_sld C.1 C.2.1 hX hbl hbA hH.2.2 (inb_in q20) dL_law_201 ?_
            refine lv_aload_n C.1 C.2.1 dL_law_202 rfl (lv_at hl 1 rfl) ?_
            refine lv_iload C.1 C.2.1 dL_law_203 (lv_at hl 5 rfl) ?_
            refine lv_iconst (v := (2 : Int32)) C.1 C.2.1 dL_law_205 (by decide) ?_
            refine lv_iadd C.1 C.2.1 dL_law_206 ?_
            obtain ⟨q21, hf⟩ := itn hf
            refine va_sld C.1 C.2.1 hX hbl hbA hH.2.2 (inb_in q21) dL_law_207 ?_
            refine lv_aload_n C.1 C.2.1 dL_law_208 rfl (lv_at hl 1 rfl) ?_
            refine lv_iload C.1 C.2.1 dL_law_209 (lv_at hl 5 rfl) ?_
            refine lv_iconst (v := (3 : Int32)) C.1 C.2.1 dL_law_211 (by decide) ?_
            refine lv_iadd C.1 C.2.1 dL_law_212 ?_
            obtain ⟨q22, hf⟩ := itn hf
            refine va_sld C.1 C.2.1 hX hbl hbA hH.2.2 (inb_in q22) dL_law_213 ?_
            refine lv_aload_n C.1 C.2.1 dL_law_214 rfl (lv_at hl 1 rfl) ?_
            refine lv_iload C.1 C.2.1 dL_law_215 (lv_at hl 5 rfl) ?_
            refine lv_iconst (v := (4 : Int32)) C.1 C.2.1 dL_law_217 (by decide) ?_
            refine lv_iadd C.1 C.2.1 dL_law_218 ?_
            obtain ⟨q23, hf⟩ := itn hf
            refine va_sld C.1 C.2.1 hX hbl hbA hH.2.2 (inb_in q23) dL_law_219 ?_
            obtain ⟨q24, hc, hf⟩ := Option.bind_eq_some_iff.mp hf
            refine x_cv (n := 4) C hH (c_X10_source l G q19.2 (xs (x4 + (1 : Int32)).toNatClampNeg) (xs (x4 + (2 : Int32)).toNatClampNeg) (xs (x4 + (3 : Int32)).toNatClampNeg) (xs (x4 + (4 : Int32)).toNatClampNeg) hc) (kd_lt kk_45 (by decide)) (cE_10 kk_45) rfl tw_964 tw_961 tw_962 tw_963 tw_57 (by decide +kernel) ⟨Nat.le_of_ble_eq_true rfl, Nat.le_of_ble_eq_true rfl⟩ rfl hl.1 rfl (Nat.le_of_ble_eq_true rfl) ⟨by show _ ≤ 601024; omega, by show _ ≤ 7293034; omega⟩ dL_law_220 (fun H locs hH => ?_)
            refine lv_aload_n C.1 C.2.1 dL_law_223 rfl (lv_at hl 3 rfl) ?_
            obtain ⟨q25, hc, hf⟩ := Option.bind_eq_some_iff.mp hf
            refine x_ci (n := 0) C hH (c_X10_thrown l G q24  hc) (kd_lt kk_45 (by decide)) (cE_10 kk_45) rfl tw_948 tw_945 tw_946 tw_947 tw_57 (by decide +kernel) ⟨Nat.le_of_ble_eq_true rfl, Nat.le_of_ble_eq_true rfl⟩ rfl hl.1 rfl (Nat.le_of_ble_eq_true rfl) ⟨by show _ ≤ 601024; omega, by show _ ≤ 7293034; omega⟩ dL_law_224 (fun H locs hH => ?_)
            refine lv_iload C.1 C.2.1 dL_law_227 (lv_at hl 0 rfl) ?_
            refine lv_icmp_eq (tgt := 234) C.1 C.2.1 dL_law_229 (by decide) (fun q26 => ?_) (fun q26 => ?_)
            · have hf := (if_pos q26).symm.trans hf
              refine lv_goto (tgt := 687) C.1 C.2.1 dL_law_234 (by decide) ?_
              refine lv_iinc (v := (x4 + (5 : Int32))) (lv' := [(4, .int (x4 + (5 : Int32))), (5, .int q19.1), (0, .ref b), (1, .ref (G.2.1 0)), (2, .ref (G.2.1 45)), (3, .ref (G.2.1 65))]) C.1 C.2.1 dL_law_687 hl (k := 5) rfl rfl (by decide) rfl (fun ls hl => ?_)
              refine lv_goto (tgt := 23) C.1 C.2.1 dL_law_690 (by decide) ?_
              exact ih q25.2 (x4 + (5 : Int32)) (cs + 1) (sl + 6) (by omega) (by omega) _ _ _ hH (lv_sub hl [2, 3, 4, 5, 0] rfl) hf
            · have hf := (if_neg q26).symm.trans hf
              refine lv_iconst (v := (0 : Int32)) C.1 C.2.1 dL_law_232 (by decide) ?_
              exact absurd hf (by simp)
          · have hf := (if_neg q27).symm.trans hf
            by_cases q40 : ((xs x4.toNatClampNeg) &&& (15 : Int32)) = (3 : Int32)
            · have hf := (if_pos q40).symm.trans hf
              refine lv_tableIn (tgt := 237) (off := 198) C.1 C.2.1 dL_law_39 (by rw [q40]; decide) (by rw [q40]; decide) (by rw [q40]; decide) (by decide) ?_
              refine lv_aload_n C.1 C.2.1 dL_law_237 rfl (lv_at hl 1 rfl) ?_
              refine lv_aload_n C.1 C.2.1 dL_law_238 rfl (lv_at hl 0 rfl) ?_
              refine lv_iload C.1 C.2.1 dL_law_239 (lv_at hl 4 rfl) ?_
              refine lv_iconst (v := (1 : Int32)) C.1 C.2.1 dL_law_241 (by decide) ?_
              refine lv_iadd C.1 C.2.1 dL_law_242 ?_
              obtain ⟨q28, hf⟩ := itn hf
              refine va_sld C.1 C.2.1 hX hbl hbA hH.2.2 (inb_in q28) dL_law_243 ?_
              refine lv_aload_n C.1 C.2.1 dL_law_244 rfl (lv_at hl 0 rfl) ?_
              refine lv_iload C.1 C.2.1 dL_law_245 (lv_at hl 4 rfl) ?_
              refine lv_iconst (v := (2 : Int32)) C.1 C.2.1 dL_law_247 (by decide) ?_
              refine lv_iadd C.1 C.2.1 dL_law_248 ?_
              obtain ⟨q29, hf⟩ := itn hf
              refine va_sld C.1 C.2.1 hX hbl hbA hH.2.2 (inb_in q29) dL_law_249 ?_
              refine lv_aload_n C.1 C.2.1 dL_law_250 rfl (lv_at hl 0 rfl) ?_
              refine lv_iload C.1 C.2.1 dL_law_251 (lv_at hl 4 rfl) ?_
              refine lv_iconst (v := (3 : Int32)) C.1 C.2.1 dL_law_253 (by decide) ?_
              refine lv_iadd C.1 C.2.1 dL_law_254 ?_
              obtain ⟨q30, hf⟩ := itn hf
              refine va_sld C.1 C.2.1 hX hbl hbA hH.2.2 (inb_in q30) dL_law_255 ?_
              refine lv_aload_n C.1 C.2.1 dL_law_256 rfl (lv_at hl 3 rfl) ?_
              obtain ⟨q31, hc, hf⟩ := Option.bind_eq_some_iff.mp hf
              refine x_sh (n := 5) C hH (c_L_stage l hlt G I (xs (x4 + (1 : Int32)).toNatClampNeg) (xs (x4 + (2 : Int32)).toNatClampNeg) (xs (x4 + (3 : Int32)).toNatClampNeg) hc) tw_477 tw_475 tw_476 tw_46 (by decide +kernel) ⟨Nat.le_of_ble_eq_true rfl, Nat.le_of_ble_eq_true rfl⟩ rfl hl.1 rfl (Nat.le_of_ble_eq_true rfl) ⟨by show _ ≤ 601024; omega, by show _ ≤ 7293034; omega⟩ dL_law_257 (fun H locs hH => ?_)
              refine lv_istore (lv' := [(5, .int q31.1), (0, .ref b), (1, .ref (G.2.1 0)), (2, .ref (G.2.1 45)), (3, .ref (G.2.1 65)), (4, .int x4)]) C.1 C.2.1 dL_law_260 hl (by decide) rfl (fun ls hl => ?_)
              refine lv_aload_n C.1 C.2.1 dL_law_262 rfl (lv_at hl 3 rfl) ?_
              refine lv_aload_n C.1 C.2.1 dL_law_263 rfl (lv_at hl 1 rfl) ?_
              refine lv_iload C.1 C.2.1 dL_law_264 (lv_at hl 5 rfl) ?_
              refine lv_iconst (v := (1 : Int32)) C.1 C.2.1 dL_law_266 (by decide) ?_
              refine lv_iadd C.1 C.2.1 dL_law_267 ?_
              obtain ⟨q32, hf⟩ := itn hf
              refine va_sld C.1 C.2.1 hX hbl hbA hH.2.2 (inb_in q32) dL_law_268 ?_
              refine lv_aload_n C.1 C.2.1 dL_law_269 rfl (lv_at hl 1 rfl) ?_
              refine lv_iload C.1 C.2.1 dL_law_270 (lv_at hl 5 rfl) ?_
              refine lv_iconst (v := (2 : Int32)) C.1 C.2.1 dL_law_272 (by decide) ?_
              refine lv_iadd C.1 C.2.1 dL_law_273 ?_
              obtain ⟨q33, hf⟩ := itn hf
              refine va_sld C.1 C.2.1 hX hbl hbA hH.2.2 (inb_in q33) dL_law_274 ?_
              refine lv_aload_n C.1 C.2.1 dL_law_275 rfl (lv_at hl 1 rfl) ?_
              refine lv_iload C.1 C.2.1 dL_law_276 (lv_at hl 5 rfl) ?_
              refine lv_iconst (v := (3 : Int32)) C.1 C.2.1 dL_law_278 (by decide) ?_
              refine lv_iadd C.1 C.2.1 dL_law_279 ?_
              obtain ⟨q34, hf⟩ := itn hf
              refine va_sld C.1 C.2.1 hX hbl hbA hH.2.2 (inb_in q34) dL_law_280 ?_
              obtain ⟨q35, hc, hf⟩ := Option.bind_eq_some_iff.mp hf
              refine x_ci (n := 3) C hH (c_X10_stage l G q31.2 (xs (x4 + (1 : Int32)).toNatClampNeg) (xs (x4 + (2 : Int32)).toNatClampNeg) (xs (x4 + (3 : Int32)).toNatClampNeg) hc) (kd_lt kk_45 (by decide)) (cE_10 kk_45) rfl tw_968 tw_965 tw_966 tw_967 tw_57 (by decide +kernel) ⟨Nat.le_of_ble_eq_true rfl, Nat.le_of_ble_eq_true rfl⟩ rfl hl.1 rfl (Nat.le_of_ble_eq_true rfl) ⟨by show _ ≤ 601024; omega, by show _ ≤ 7293034; omega⟩ dL_law_281 (fun H locs hH => ?_)
              refine lv_istore (lv' := [(6, .int q35.1), (5, .int q31.1), (0, .ref b), (1, .ref (G.2.1 0)), (2, .ref (G.2.1 45)), (3, .ref (G.2.1 65)), (4, .int x4)]) C.1 C.2.1 dL_law_284 hl (by decide) rfl (fun ls hl => ?_)
              refine lv_aload_n C.1 C.2.1 dL_law_286 rfl (lv_at hl 4 rfl) ?_
              obtain ⟨q36, hc, hf⟩ := Option.bind_eq_some_iff.mp hf
              refine x_ci (n := 0) C hH (c_X10_thrown l G q35.2  hc) (kd_lt kk_45 (by decide)) (cE_10 kk_45) rfl tw_948 tw_945 tw_946 tw_947 tw_57 (by decide +kernel) ⟨Nat.le_of_ble_eq_true rfl, Nat.le_of_ble_eq_true rfl⟩ rfl hl.1 rfl (Nat.le_of_ble_eq_true rfl) ⟨by show _ ≤ 601024; omega, by show _ ≤ 7293034; omega⟩ dL_law_287 (fun H locs hH => ?_)
              refine lv_iload C.1 C.2.1 dL_law_290 (lv_at hl 1 rfl) ?_
              refine lv_icmp_eq (tgt := 297) C.1 C.2.1 dL_law_292 (by decide) (fun q39 => ?_) (fun q39 => ?_)
              · have hf := (if_pos q39).symm.trans hf
                refine lv_iload C.1 C.2.1 dL_law_297 (lv_at hl 1 rfl) ?_
                refine lv_if_ne (tgt := 314) C.1 C.2.1 dL_law_299 (by decide) (fun q38 => ?_) (fun q38 => ?_)
                · have hf := (if_neg q38).symm.trans hf
                  refine lv_goto (tgt := 687) C.1 C.2.1 dL_law_314 (by decide) ?_
                  refine lv_iinc (v := (x4 + (5 : Int32))) (lv' := [(4, .int (x4 + (5 : Int32))), (6, .int q35.1), (5, .int q31.1), (0, .ref b), (1, .ref (G.2.1 0)), (2, .ref (G.2.1 45)), (3, .ref (G.2.1 65))]) C.1 C.2.1 dL_law_687 hl (k := 6) rfl rfl (by decide) rfl (fun ls hl => ?_)
                  refine lv_goto (tgt := 23) C.1 C.2.1 dL_law_690 (by decide) ?_
                  exact ih q36.2 (x4 + (5 : Int32)) (cs + 2) (sl + 12) (by omega) (by omega) _ _ _ hH (lv_sub hl [3, 4, 5, 6, 0] rfl) hf
                · have hf := (if_pos q38).symm.trans hf
                  refine lv_aload_n C.1 C.2.1 dL_law_302 rfl (lv_at hl 5 rfl) ?_
                  refine lv_iconst (v := (0 : Int32)) C.1 C.2.1 dL_law_303 (by decide) ?_
                  refine x_lald C hH kk_65 (by decide) dL_law_304 ?_
                  refine lv_iload C.1 C.2.1 dL_law_305 (lv_at hl 0 rfl) ?_
                  refine lv_i2l (v := (q35.1 : Int32).toInt64) C.1 C.2.1 dL_law_307 rfl ?_
                  refine W.lcmp C.1 C.2.1 dL_law_308 ?_
                  refine lv_if_eq (tgt := 314) C.1 C.2.1 dL_law_309 (by decide) (fun q37 => ?_) (fun q37 => ?_)
                  · have hf := (if_pos q37).symm.trans hf
                    refine lv_goto (tgt := 687) C.1 C.2.1 dL_law_314 (by decide) ?_
                    refine lv_iinc (v := (x4 + (5 : Int32))) (lv' := [(4, .int (x4 + (5 : Int32))), (6, .int q35.1), (5, .int q31.1), (0, .ref b), (1, .ref (G.2.1 0)), (2, .ref (G.2.1 45)), (3, .ref (G.2.1 65))]) C.1 C.2.1 dL_law_687 hl (k := 6) rfl rfl (by decide) rfl (fun ls hl => ?_)
                    refine lv_goto (tgt := 23) C.1 C.2.1 dL_law_690 (by decide) ?_
                    exact ih q36.2 (x4 + (5 : Int32)) (cs + 2) (sl + 12) (by omega) (by omega) _ _ _ hH (lv_sub hl [3, 4, 5, 6, 0] rfl) hf
                  · have hf := (if_neg q37).symm.trans hf
                    refine lv_iconst (v := (0 : Int32)) C.1 C.2.1 dL_law_312 (by decide) ?_
                    exact absurd hf (by simp)
              · have hf := (if_neg q39).symm.trans hf
                refine lv_iconst (v := (0 : Int32)) C.1 C.2.1 dL_law_295 (by decide) ?_
                exact absurd hf (by simp)
            · have hf := (if_neg q40).symm.trans hf
              by_cases q47 : ((xs x4.toNatClampNeg) &&& (15 : Int32)) = (4 : Int32)
              · have hf := (if_pos q47).symm.trans hf
                refine lv_tableIn (tgt := 317) (off := 278) C.1 C.2.1 dL_law_39 (by rw [q47]; decide) (by rw [q47]; decide) (by rw [q47]; decide) (by decide) ?_
                refine lv_aload_n C.1 C.2.1 dL_law_317 rfl (lv_at hl 1 rfl) ?_
                refine lv_aload_n C.1 C.2.1 dL_law_318 rfl (lv_at hl 3 rfl) ?_
                obtain ⟨q41, hc, hf⟩ := Option.bind_eq_some_iff.mp hf
                refine x_sh (n := 2) C hH (c_L_flags l hlt G I  hc) tw_521 tw_519 tw_520 tw_46 (by decide +kernel) ⟨Nat.le_of_ble_eq_true rfl, Nat.le_of_ble_eq_true rfl⟩ rfl hl.1 rfl (Nat.le_of_ble_eq_true rfl) ⟨by show _ ≤ 601024; omega, by show _ ≤ 7293034; omega⟩ dL_law_319 (fun H locs hH => ?_)
                refine lv_istore (lv' := [(5, .int q41.1), (0, .ref b), (1, .ref (G.2.1 0)), (2, .ref (G.2.1 45)), (3, .ref (G.2.1 65)), (4, .int x4)]) C.1 C.2.1 dL_law_322 hl (by decide) rfl (fun ls hl => ?_)
                refine lv_aload_n C.1 C.2.1 dL_law_324 rfl (lv_at hl 3 rfl) ?_
                obtain ⟨q42, hc, hf⟩ := Option.bind_eq_some_iff.mp hf
                refine x_ci (n := 0) C hH (c_X10_flags l G q41.2  hc) (kd_lt kk_45 (by decide)) (cE_10 kk_45) rfl tw_975 tw_972 tw_973 tw_974 tw_57 (by decide +kernel) ⟨Nat.le_of_ble_eq_true rfl, Nat.le_of_ble_eq_true rfl⟩ rfl hl.1 rfl (Nat.le_of_ble_eq_true rfl) ⟨by show _ ≤ 601024; omega, by show _ ≤ 7293034; omega⟩ dL_law_325 (fun H locs hH => ?_)
                refine lv_istore (lv' := [(6, .int q42.1), (5, .int q41.1), (0, .ref b), (1, .ref (G.2.1 0)), (2, .ref (G.2.1 45)), (3, .ref (G.2.1 65)), (4, .int x4)]) C.1 C.2.1 dL_law_328 hl (by decide) rfl (fun ls hl => ?_)
                refine lv_aload_n C.1 C.2.1 dL_law_330 rfl (lv_at hl 4 rfl) ?_
                obtain ⟨q43, hc, hf⟩ := Option.bind_eq_some_iff.mp hf
                refine x_ci (n := 0) C hH (c_X10_thrown l G q42.2  hc) (kd_lt kk_45 (by decide)) (cE_10 kk_45) rfl tw_948 tw_945 tw_946 tw_947 tw_57 (by decide +kernel) ⟨Nat.le_of_ble_eq_true rfl, Nat.le_of_ble_eq_true rfl⟩ rfl hl.1 rfl (Nat.le_of_ble_eq_true rfl) ⟨by show _ ≤ 601024; omega, by show _ ≤ 7293034; omega⟩ dL_law_331 (fun H locs hH => ?_)
                refine lv_iload C.1 C.2.1 dL_law_334 (lv_at hl 1 rfl) ?_
                refine lv_icmp_eq (tgt := 341) C.1 C.2.1 dL_law_336 (by decide) (fun q46 => ?_) (fun q46 => ?_)
                · have hf := (if_pos q46).symm.trans hf
                  refine lv_iload C.1 C.2.1 dL_law_341 (lv_at hl 1 rfl) ?_
                  refine lv_if_ne (tgt := 358) C.1 C.2.1 dL_law_343 (by decide) (fun q45 => ?_) (fun q45 => ?_)
                  · have hf := (if_neg q45).symm.trans hf
                    refine lv_goto (tgt := 687) C.1 C.2.1 dL_law_358 (by decide) ?_
                    refine lv_iinc (v := (x4 + (5 : Int32))) (lv' := [(4, .int (x4 + (5 : Int32))), (6, .int q42.1), (5, .int q41.1), (0, .ref b), (1, .ref (G.2.1 0)), (2, .ref (G.2.1 45)), (3, .ref (G.2.1 65))]) C.1 C.2.1 dL_law_687 hl (k := 6) rfl rfl (by decide) rfl (fun ls hl => ?_)
                    refine lv_goto (tgt := 23) C.1 C.2.1 dL_law_690 (by decide) ?_
                    exact ih q43.2 (x4 + (5 : Int32)) (cs + 1) (sl + 6) (by omega) (by omega) _ _ _ hH (lv_sub hl [3, 4, 5, 6, 0] rfl) hf
                  · have hf := (if_pos q45).symm.trans hf
                    refine lv_aload_n C.1 C.2.1 dL_law_346 rfl (lv_at hl 5 rfl) ?_
                    refine lv_iconst (v := (0 : Int32)) C.1 C.2.1 dL_law_347 (by decide) ?_
                    refine x_lald C hH kk_65 (by decide) dL_law_348 ?_
                    refine lv_iload C.1 C.2.1 dL_law_349 (lv_at hl 0 rfl) ?_
                    refine lv_i2l (v := (q42.1 : Int32).toInt64) C.1 C.2.1 dL_law_351 rfl ?_
                    refine W.lcmp C.1 C.2.1 dL_law_352 ?_
                    refine lv_if_eq (tgt := 358) C.1 C.2.1 dL_law_353 (by decide) (fun q44 => ?_) (fun q44 => ?_)
                    · have hf := (if_pos q44).symm.trans hf
                      refine lv_goto (tgt := 687) C.1 C.2.1 dL_law_358 (by decide) ?_
                      refine lv_iinc (v := (x4 + (5 : Int32))) (lv' := [(4, .int (x4 + (5 : Int32))), (6, .int q42.1), (5, .int q41.1), (0, .ref b), (1, .ref (G.2.1 0)), (2, .ref (G.2.1 45)), (3, .ref (G.2.1 65))]) C.1 C.2.1 dL_law_687 hl (k := 6) rfl rfl (by decide) rfl (fun ls hl => ?_)
                      refine lv_goto (tgt := 23) C.1 C.2.1 dL_law_690 (by decide) ?_
                      exact ih q43.2 (x4 + (5 : Int32)) (cs + 1) (sl + 6) (by omega) (by omega) _ _ _ hH (lv_sub hl [3, 4, 5, 6, 0] rfl) hf
                    · have hf := (if_neg q44).symm.trans hf
                      refine lv_iconst (v := (0 : Int32)) C.1 C.2.1 dL_law_356 (by decide) ?_
                      exact absurd hf (by simp)
                · have hf := (if_neg q46).symm.trans hf
                  refine lv_iconst (v := (0 : Int32)) C.1 C.2.1 dL_law_339 (by decide) ?_
                  exact absurd hf (by simp)
              · have hf := (if_neg q47).symm.trans hf
                by_cases q60 : ((xs x4.toNatClampNeg) &&& (15 : Int32)) = (5 : Int32)
                · have hf := (if_pos q60).symm.trans hf
                  refine lv_tableIn (tgt := 361) (off := 322) C.1 C.2.1 dL_law_39 (by rw [q60]; decide) (by rw [q60]; decide) (by rw [q60]; decide) (by decide) ?_
                  refine lv_aload_n C.1 C.2.1 dL_law_361 rfl (lv_at hl 1 rfl) ?_
                  refine lv_aload_n C.1 C.2.1 dL_law_362 rfl (lv_at hl 0 rfl) ?_
                  refine lv_iload C.1 C.2.1 dL_law_363 (lv_at hl 4 rfl) ?_
                  refine lv_iconst (v := (1 : Int32)) C.1 C.2.1 dL_law_365 (by decide) ?_
                  refine lv_iadd C.1 C.2.1 dL_law_366 ?_
                  obtain ⟨q48, hf⟩ := itn hf
                  refine va_sld C.1 C.2.1 hX hbl hbA hH.2.2 (inb_in q48) dL_law_367 ?_
                  refine lv_aload_n C.1 C.2.1 dL_law_368 rfl (lv_at hl 0 rfl) ?_
                  refine lv_iload C.1 C.2.1 dL_law_369 (lv_at hl 4 rfl) ?_
                  refine lv_iconst (v := (2 : Int32)) C.1 C.2.1 dL_law_371 (by decide) ?_
                  refine lv_iadd C.1 C.2.1 dL_law_372 ?_
                  obtain ⟨q49, hf⟩ := itn hf
                  refine va_sld C.1 C.2.1 hX hbl hbA hH.2.2 (inb_in q49) dL_law_373 ?_
                  refine lv_aload_n C.1 C.2.1 dL_law_374 rfl (lv_at hl 0 rfl) ?_
                  refine lv_iload C.1 C.2.1 dL_law_375 (lv_at hl 4 rfl) ?_
                  refine lv_iconst (v := (3 : Int32)) C.1 C.2.1 dL_law_377 (by decide) ?_
                  refine lv_iadd C.1 C.2.1 dL_law_378 ?_
                  obtain ⟨q50, hf⟩ := itn hf
                  refine va_sld C.1 C.2.1 hX hbl hbA hH.2.2 (inb_in q50) dL_law_379 ?_
                  refine lv_aload_n C.1 C.2.1 dL_law_380 rfl (lv_at hl 3 rfl) ?_
                  obtain ⟨q51, hc, hf⟩ := Option.bind_eq_some_iff.mp hf
                  refine x_sh (n := 5) C hH (c_L_run l hlt G I (xs (x4 + (1 : Int32)).toNatClampNeg) (xs (x4 + (2 : Int32)).toNatClampNeg) (xs (x4 + (3 : Int32)).toNatClampNeg) hc) tw_541 tw_539 tw_540 tw_46 (by decide +kernel) ⟨Nat.le_of_ble_eq_true rfl, Nat.le_of_ble_eq_true rfl⟩ rfl hl.1 rfl (Nat.le_of_ble_eq_true rfl) ⟨by show _ ≤ 601024; omega, by show _ ≤ 7293034; omega⟩ dL_law_381 (fun H locs hH => ?_)
                  refine lv_istore (lv' := [(5, .int q51.1), (0, .ref b), (1, .ref (G.2.1 0)), (2, .ref (G.2.1 45)), (3, .ref (G.2.1 65)), (4, .int x4)]) C.1 C.2.1 dL_law_384 hl (by decide) rfl (fun ls hl => ?_)
                  refine lv_aload_n C.1 C.2.1 dL_law_386 rfl (lv_at hl 3 rfl) ?_
                  refine lv_aload_n C.1 C.2.1 dL_law_387 rfl (lv_at hl 1 rfl) ?_
                  refine lv_iload C.1 C.2.1 dL_law_388 (lv_at hl 5 rfl) ?_
                  refine lv_iconst (v := (1 : Int32)) C.1 C.2.1 dL_law_390 (by decide) ?_
                  refine lv_iadd C.1 C.2.1 dL_law_391 ?_
                  obtain ⟨q52, hf⟩ := itn hf
                  refine va_sld C.1 C.2.1 hX hbl hbA hH.2.2 (inb_in q52) dL_law_392 ?_
                  refine lv_aload_n C.1 C.2.1 dL_law_393 rfl (lv_at hl 1 rfl) ?_
                  refine lv_iload C.1 C.2.1 dL_law_394 (lv_at hl 5 rfl) ?_
                  refine lv_iconst (v := (2 : Int32)) C.1 C.2.1 dL_law_396 (by decide) ?_
                  refine lv_iadd C.1 C.2.1 dL_law_397 ?_
                  obtain ⟨q53, hf⟩ := itn hf
                  refine va_sld C.1 C.2.1 hX hbl hbA hH.2.2 (inb_in q53) dL_law_398 ?_
                  refine lv_aload_n C.1 C.2.1 dL_law_399 rfl (lv_at hl 1 rfl) ?_
                  refine lv_iload C.1 C.2.1 dL_law_400 (lv_at hl 5 rfl) ?_
                  refine lv_iconst (v := (3 : Int32)) C.1 C.2.1 dL_law_402 (by decide) ?_
                  refine lv_iadd C.1 C.2.1 dL_law_403 ?_
                  obtain ⟨q54, hf⟩ := itn hf
                  refine va_sld C.1 C.2.1 hX hbl hbA hH.2.2 (inb_in q54) dL_law_404 ?_
                  obtain ⟨q55, hc, hf⟩ := Option.bind_eq_some_iff.mp hf
                  refine x_ci (n := 3) C hH (c_X10_run l G q51.2 (xs (x4 + (1 : Int32)).toNatClampNeg) (xs (x4 + (2 : Int32)).toNatClampNeg) (xs (x4 + (3 : Int32)).toNatClampNeg) hc) (kd_lt kk_45 (by decide)) (cE_10 kk_45) rfl tw_979 tw_976 tw_977 tw_978 tw_57 (by decide +kernel) ⟨Nat.le_of_ble_eq_true rfl, Nat.le_of_ble_eq_true rfl⟩ rfl hl.1 rfl (Nat.le_of_ble_eq_true rfl) ⟨by show _ ≤ 601024; omega, by show _ ≤ 7293034; omega⟩ dL_law_405 (fun H locs hH => ?_)
                  refine lv_istore (lv' := [(6, .int q55.1), (5, .int q51.1), (0, .ref b), (1, .ref (G.2.1 0)), (2, .ref (G.2.1 45)), (3, .ref (G.2.1 65)), (4, .int x4)]) C.1 C.2.1 dL_law_408 hl (by decide) rfl (fun ls hl => ?_)
                  refine lv_aload_n C.1 C.2.1 dL_law_410 rfl (lv_at hl 4 rfl) ?_
                  obtain ⟨q56, hc, hf⟩ := Option.bind_eq_some_iff.mp hf
                  refine x_ci (n := 0) C hH (c_X10_thrown l G q55.2  hc) (kd_lt kk_45 (by decide)) (cE_10 kk_45) rfl tw_948 tw_945 tw_946 tw_947 tw_57 (by decide +kernel) ⟨Nat.le_of_ble_eq_true rfl, Nat.le_of_ble_eq_true rfl⟩ rfl hl.1 rfl (Nat.le_of_ble_eq_true rfl) ⟨by show _ ≤ 601024; omega, by show _ ≤ 7293034; omega⟩ dL_law_411 (fun H locs hH => ?_)
                  refine lv_iload C.1 C.2.1 dL_law_414 (lv_at hl 1 rfl) ?_
                  refine lv_icmp_eq (tgt := 421) C.1 C.2.1 dL_law_416 (by decide) (fun q59 => ?_) (fun q59 => ?_)
                  · have hf := (if_pos q59).symm.trans hf
                    refine lv_iload C.1 C.2.1 dL_law_421 (lv_at hl 1 rfl) ?_
                    refine lv_if_ne (tgt := 438) C.1 C.2.1 dL_law_423 (by decide) (fun q58 => ?_) (fun q58 => ?_)
                    · have hf := (if_neg q58).symm.trans hf
                      refine lv_goto (tgt := 687) C.1 C.2.1 dL_law_438 (by decide) ?_
                      refine lv_iinc (v := (x4 + (5 : Int32))) (lv' := [(4, .int (x4 + (5 : Int32))), (6, .int q55.1), (5, .int q51.1), (0, .ref b), (1, .ref (G.2.1 0)), (2, .ref (G.2.1 45)), (3, .ref (G.2.1 65))]) C.1 C.2.1 dL_law_687 hl (k := 6) rfl rfl (by decide) rfl (fun ls hl => ?_)
                      refine lv_goto (tgt := 23) C.1 C.2.1 dL_law_690 (by decide) ?_
                      exact ih q56.2 (x4 + (5 : Int32)) (cs + 3) (sl + 18) (by omega) (by omega) _ _ _ hH (lv_sub hl [3, 4, 5, 6, 0] rfl) hf
                    · have hf := (if_pos q58).symm.trans hf
                      refine lv_aload_n C.1 C.2.1 dL_law_426 rfl (lv_at hl 5 rfl) ?_
                      refine lv_iconst (v := (0 : Int32)) C.1 C.2.1 dL_law_427 (by decide) ?_
                      refine x_lald C hH kk_65 (by decide) dL_law_428 ?_
                      refine lv_iload C.1 C.2.1 dL_law_429 (lv_at hl 0 rfl) ?_
                      refine lv_i2l (v := (q55.1 : Int32).toInt64) C.1 C.2.1 dL_law_431 rfl ?_
                      refine W.lcmp C.1 C.2.1 dL_law_432 ?_
                      refine lv_if_eq (tgt := 438) C.1 C.2.1 dL_law_433 (by decide) (fun q57 => ?_) (fun q57 => ?_)
                      · have hf := (if_pos q57).symm.trans hf
                        refine lv_goto (tgt := 687) C.1 C.2.1 dL_law_438 (by decide) ?_
                        refine lv_iinc (v := (x4 + (5 : Int32))) (lv' := [(4, .int (x4 + (5 : Int32))), (6, .int q55.1), (5, .int q51.1), (0, .ref b), (1, .ref (G.2.1 0)), (2, .ref (G.2.1 45)), (3, .ref (G.2.1 65))]) C.1 C.2.1 dL_law_687 hl (k := 6) rfl rfl (by decide) rfl (fun ls hl => ?_)
                        refine lv_goto (tgt := 23) C.1 C.2.1 dL_law_690 (by decide) ?_
                        exact ih q56.2 (x4 + (5 : Int32)) (cs + 3) (sl + 18) (by omega) (by omega) _ _ _ hH (lv_sub hl [3, 4, 5, 6, 0] rfl) hf
                      · have hf := (if_neg q57).symm.trans hf
                        refine lv_iconst (v := (0 : Int32)) C.1 C.2.1 dL_law_436 (by decide) ?_
                        exact absurd hf (by simp)
                  · have hf := (if_neg q59).symm.trans hf
                    refine lv_iconst (v := (0 : Int32)) C.1 C.2.1 dL_law_419 (by decide) ?_
                    exact absurd hf (by simp)
                · have hf := (if_neg q60).symm.trans hf
                  by_cases q71 : ((xs x4.toNatClampNeg) &&& (15 : Int32)) = (6 : Int32)
                  · have hf := (if_pos q71).symm.trans hf
                    refine lv_tableIn (tgt := 441) (off := 402) C.1 C.2.1 dL_law_39 (by rw [q71]; decide) (by rw [q71]; decide) (by rw [q71]; decide) (by decide) ?_
                    refine lv_aload_n C.1 C.2.1 dL_law_441 rfl (lv_at hl 1 rfl) ?_
                    refine lv_aload_n C.1 C.2.1 dL_law_442 rfl (lv_at hl 0 rfl) ?_
                    refine lv_iload C.1 C.2.1 dL_law_443 (lv_at hl 4 rfl) ?_
                    refine lv_iconst (v := (1 : Int32)) C.1 C.2.1 dL_law_445 (by decide) ?_
                    refine lv_iadd C.1 C.2.1 dL_law_446 ?_
                    obtain ⟨q61, hf⟩ := itn hf
                    refine va_sld C.1 C.2.1 hX hbl hbA hH.2.2 (inb_in q61) dL_law_447 ?_
                    refine lv_aload_n C.1 C.2.1 dL_law_448 rfl (lv_at hl 0 rfl) ?_
                    refine lv_iload C.1 C.2.1 dL_law_449 (lv_at hl 4 rfl) ?_
                    refine lv_iconst (v := (2 : Int32)) C.1 C.2.1 dL_law_451 (by decide) ?_
                    refine lv_iadd C.1 C.2.1 dL_law_452 ?_
                    obtain ⟨q62, hf⟩ := itn hf
                    refine va_sld C.1 C.2.1 hX hbl hbA hH.2.2 (inb_in q62) dL_law_453 ?_
                    refine lv_aload_n C.1 C.2.1 dL_law_454 rfl (lv_at hl 0 rfl) ?_
                    refine lv_iload C.1 C.2.1 dL_law_455 (lv_at hl 4 rfl) ?_
                    refine lv_iconst (v := (3 : Int32)) C.1 C.2.1 dL_law_457 (by decide) ?_
                    refine lv_iadd C.1 C.2.1 dL_law_458 ?_
                    obtain ⟨q63, hf⟩ := itn hf
                    refine va_sld C.1 C.2.1 hX hbl hbA hH.2.2 (inb_in q63) dL_law_459 ?_
                    obtain ⟨q64, hc, hf⟩ := Option.bind_eq_some_iff.mp hf
                    refine x_sh (n := 4) C hH (c_L_pool l hlt G I (xs (x4 + (1 : Int32)).toNatClampNeg) (xs (x4 + (2 : Int32)).toNatClampNeg) (xs (x4 + (3 : Int32)).toNatClampNeg) hc) tw_717 tw_715 tw_716 tw_46 (by decide +kernel) ⟨Nat.le_of_ble_eq_true rfl, Nat.le_of_ble_eq_true rfl⟩ rfl hl.1 rfl (Nat.le_of_ble_eq_true rfl) ⟨by show _ ≤ 601024; omega, by show _ ≤ 7293034; omega⟩ dL_law_460 (fun H locs hH => ?_)
                    refine lv_istore (lv' := [(5, .int q64.1), (0, .ref b), (1, .ref (G.2.1 0)), (2, .ref (G.2.1 45)), (3, .ref (G.2.1 65)), (4, .int x4)]) C.1 C.2.1 dL_law_463 hl (by decide) rfl (fun ls hl => ?_)
                    refine lv_aload_n C.1 C.2.1 dL_law_465 rfl (lv_at hl 3 rfl) ?_
                    refine lv_aload_n C.1 C.2.1 dL_law_466 rfl (lv_at hl 1 rfl) ?_
                    refine lv_iload C.1 C.2.1 dL_law_467 (lv_at hl 5 rfl) ?_
                    refine lv_iconst (v := (1 : Int32)) C.1 C.2.1 dL_law_469 (by decide) ?_
                    refine lv_iadd C.1 C.2.1 dL_law_470 ?_
                    obtain ⟨q65, hf⟩ := itn hf
                    refine va_sld C.1 C.2.1 hX hbl hbA hH.2.2 (inb_in q65) dL_law_471 ?_
                    refine lv_aload_n C.1 C.2.1 dL_law_472 rfl (lv_at hl 1 rfl) ?_
                    refine lv_iload C.1 C.2.1 dL_law_473 (lv_at hl 5 rfl) ?_
                    refine lv_iconst (v := (2 : Int32)) C.1 C.2.1 dL_law_475 (by decide) ?_
                    refine lv_iadd C.1 C.2.1 dL_law_476 ?_
                    obtain ⟨q66, hf⟩ := itn hf
                    refine va_sld C.1 C.2.1 hX hbl hbA hH.2.2 (inb_in q66) dL_law_477 ?_
                    refine lv_aload_n C.1 C.2.1 dL_law_478 rfl (lv_at hl 1 rfl) ?_
                    refine lv_iload C.1 C.2.1 dL_law_479 (lv_at hl 5 rfl) ?_
                    refine lv_iconst (v := (3 : Int32)) C.1 C.2.1 dL_law_481 (by decide) ?_
                    refine lv_iadd C.1 C.2.1 dL_law_482 ?_
                    obtain ⟨q67, hf⟩ := itn hf
                    refine va_sld C.1 C.2.1 hX hbl hbA hH.2.2 (inb_in q67) dL_law_483 ?_
                    obtain ⟨q68, hc, hf⟩ := Option.bind_eq_some_iff.mp hf
                    refine x_cv (n := 3) C hH (c_X10_pool l G q64.2 (xs (x4 + (1 : Int32)).toNatClampNeg) (xs (x4 + (2 : Int32)).toNatClampNeg) (xs (x4 + (3 : Int32)).toNatClampNeg) hc) (kd_lt kk_45 (by decide)) (cE_10 kk_45) rfl tw_1052 tw_1049 tw_1050 tw_1051 tw_57 (by decide +kernel) ⟨Nat.le_of_ble_eq_true rfl, Nat.le_of_ble_eq_true rfl⟩ rfl hl.1 rfl (Nat.le_of_ble_eq_true rfl) ⟨by show _ ≤ 601024; omega, by show _ ≤ 7293034; omega⟩ dL_law_484 (fun H locs hH => ?_)
                    refine lv_aload_n C.1 C.2.1 dL_law_487 rfl (lv_at hl 3 rfl) ?_
                    obtain ⟨q69, hc, hf⟩ := Option.bind_eq_some_iff.mp hf
                    refine x_ci (n := 0) C hH (c_X10_thrown l G q68  hc) (kd_lt kk_45 (by decide)) (cE_10 kk_45) rfl tw_948 tw_945 tw_946 tw_947 tw_57 (by decide +kernel) ⟨Nat.le_of_ble_eq_true rfl, Nat.le_of_ble_eq_true rfl⟩ rfl hl.1 rfl (Nat.le_of_ble_eq_true rfl) ⟨by show _ ≤ 601024; omega, by show _ ≤ 7293034; omega⟩ dL_law_488 (fun H locs hH => ?_)
                    refine lv_iload C.1 C.2.1 dL_law_491 (lv_at hl 0 rfl) ?_
                    refine lv_icmp_eq (tgt := 498) C.1 C.2.1 dL_law_493 (by decide) (fun q70 => ?_) (fun q70 => ?_)
                    · have hf := (if_pos q70).symm.trans hf
                      refine lv_goto (tgt := 687) C.1 C.2.1 dL_law_498 (by decide) ?_
                      refine lv_iinc (v := (x4 + (5 : Int32))) (lv' := [(4, .int (x4 + (5 : Int32))), (5, .int q64.1), (0, .ref b), (1, .ref (G.2.1 0)), (2, .ref (G.2.1 45)), (3, .ref (G.2.1 65))]) C.1 C.2.1 dL_law_687 hl (k := 5) rfl rfl (by decide) rfl (fun ls hl => ?_)
                      refine lv_goto (tgt := 23) C.1 C.2.1 dL_law_690 (by decide) ?_
                      exact ih q69.2 (x4 + (5 : Int32)) (cs + 1) (sl + 6) (by omega) (by omega) _ _ _ hH (lv_sub hl [2, 3, 4, 5, 0] rfl) hf
                    · have hf := (if_neg q70).symm.trans hf
                      refine lv_iconst (v := (0 : Int32)) C.1 C.2.1 dL_law_496 (by decide) ?_
                      exact absurd hf (by simp)
                  · have hf := (if_neg q71).symm.trans hf
                    by_cases q84 : ((xs x4.toNatClampNeg) &&& (15 : Int32)) = (7 : Int32)
                    · have hf := (if_pos q84).symm.trans hf
                      refine lv_tableIn (tgt := 501) (off := 462) C.1 C.2.1 dL_law_39 (by rw [q84]; decide) (by rw [q84]; decide) (by rw [q84]; decide) (by decide) ?_
                      refine lv_aload_n C.1 C.2.1 dL_law_501 rfl (lv_at hl 1 rfl) ?_
                      refine lv_aload_n C.1 C.2.1 dL_law_502 rfl (lv_at hl 0 rfl) ?_
                      refine lv_iload C.1 C.2.1 dL_law_503 (lv_at hl 4 rfl) ?_
                      refine lv_iconst (v := (1 : Int32)) C.1 C.2.1 dL_law_505 (by decide) ?_
                      refine lv_iadd C.1 C.2.1 dL_law_506 ?_
                      obtain ⟨q72, hf⟩ := itn hf
                      refine va_sld C.1 C.2.1 hX hbl hbA hH.2.2 (inb_in q72) dL_law_507 ?_
                      refine lv_aload_n C.1 C.2.1 dL_law_508 rfl (lv_at hl 0 rfl) ?_
                      refine lv_iload C.1 C.2.1 dL_law_509 (lv_at hl 4 rfl) ?_
                      refine lv_iconst (v := (2 : Int32)) C.1 C.2.1 dL_law_511 (by decide) ?_
                      refine lv_iadd C.1 C.2.1 dL_law_512 ?_
                      obtain ⟨q73, hf⟩ := itn hf
                      refine va_sld C.1 C.2.1 hX hbl hbA hH.2.2 (inb_in q73) dL_law_513 ?_
                      refine lv_aload_n C.1 C.2.1 dL_law_514 rfl (lv_at hl 0 rfl) ?_
                      refine lv_iload C.1 C.2.1 dL_law_515 (lv_at hl 4 rfl) ?_
                      refine lv_iconst (v := (3 : Int32)) C.1 C.2.1 dL_law_517 (by decide) ?_
                      refine lv_iadd C.1 C.2.1 dL_law_518 ?_
                      obtain ⟨q74, hf⟩ := itn hf
                      refine va_sld C.1 C.2.1 hX hbl hbA hH.2.2 (inb_in q74) dL_law_519 ?_
                      refine lv_aload_n C.1 C.2.1 dL_law_520 rfl (lv_at hl 3 rfl) ?_
                      obtain ⟨q75, hc, hf⟩ := Option.bind_eq_some_iff.mp hf
                      refine x_sh (n := 5) C hH (c_L_parts l hlt G I (xs (x4 + (1 : Int32)).toNatClampNeg) (xs (x4 + (2 : Int32)).toNatClampNeg) (xs (x4 + (3 : Int32)).toNatClampNeg) hc) tw_729 tw_727 tw_728 tw_46 (by decide +kernel) ⟨Nat.le_of_ble_eq_true rfl, Nat.le_of_ble_eq_true rfl⟩ rfl hl.1 rfl (Nat.le_of_ble_eq_true rfl) ⟨by show _ ≤ 601024; omega, by show _ ≤ 7293034; omega⟩ dL_law_521 (fun H locs hH => ?_)
                      refine lv_istore (lv' := [(5, .int q75.1), (0, .ref b), (1, .ref (G.2.1 0)), (2, .ref (G.2.1 45)), (3, .ref (G.2.1 65)), (4, .int x4)]) C.1 C.2.1 dL_law_524 hl (by decide) rfl (fun ls hl => ?_)
                      refine lv_aload_n C.1 C.2.1 dL_law_526 rfl (lv_at hl 3 rfl) ?_
                      refine lv_aload_n C.1 C.2.1 dL_law_527 rfl (lv_at hl 1 rfl) ?_
                      refine lv_iload C.1 C.2.1 dL_law_528 (lv_at hl 5 rfl) ?_
                      refine lv_iconst (v := (1 : Int32)) C.1 C.2.1 dL_law_530 (by decide) ?_
                      refine lv_iadd C.1 C.2.1 dL_law_531 ?_
                      obtain ⟨q76, hf⟩ := itn hf
                      refine va_sld C.1 C.2.1 hX hbl hbA hH.2.2 (inb_in q76) dL_law_532 ?_
                      refine lv_aload_n C.1 C.2.1 dL_law_533 rfl (lv_at hl 1 rfl) ?_
                      refine lv_iload C.1 C.2.1 dL_law_534 (lv_at hl 5 rfl) ?_
                      refine lv_iconst (v := (2 : Int32)) C.1 C.2.1 dL_law_536 (by decide) ?_
                      refine lv_iadd C.1 C.2.1 dL_law_537 ?_
                      obtain ⟨q77, hf⟩ := itn hf
                      refine va_sld C.1 C.2.1 hX hbl hbA hH.2.2 (inb_in q77) dL_law_538 ?_
                      refine lv_aload_n C.1 C.2.1 dL_law_539 rfl (lv_at hl 1 rfl) ?_
                      refine lv_iload C.1 C.2.1 dL_law_540 (lv_at hl 5 rfl) ?_
                      refine lv_iconst (v := (3 : Int32)) C.1 C.2.1 dL_law_542 (by decide) ?_
                      refine lv_iadd C.1 C.2.1 dL_law_543 ?_
                      obtain ⟨q78, hf⟩ := itn hf
                      refine va_sld C.1 C.2.1 hX hbl hbA hH.2.2 (inb_in q78) dL_law_544 ?_
                      obtain ⟨q79, hc, hf⟩ := Option.bind_eq_some_iff.mp hf
                      refine x_ci (n := 3) C hH (c_X10_parts l G q75.2 (xs (x4 + (1 : Int32)).toNatClampNeg) (xs (x4 + (2 : Int32)).toNatClampNeg) (xs (x4 + (3 : Int32)).toNatClampNeg) hc) (kd_lt kk_45 (by decide)) (cE_10 kk_45) rfl tw_1056 tw_1053 tw_1054 tw_1055 tw_57 (by decide +kernel) ⟨Nat.le_of_ble_eq_true rfl, Nat.le_of_ble_eq_true rfl⟩ rfl hl.1 rfl (Nat.le_of_ble_eq_true rfl) ⟨by show _ ≤ 601024; omega, by show _ ≤ 7293034; omega⟩ dL_law_545 (fun H locs hH => ?_)
                      refine lv_istore (lv' := [(6, .int q79.1), (5, .int q75.1), (0, .ref b), (1, .ref (G.2.1 0)), (2, .ref (G.2.1 45)), (3, .ref (G.2.1 65)), (4, .int x4)]) C.1 C.2.1 dL_law_548 hl (by decide) rfl (fun ls hl => ?_)
                      refine lv_aload_n C.1 C.2.1 dL_law_550 rfl (lv_at hl 4 rfl) ?_
                      obtain ⟨q80, hc, hf⟩ := Option.bind_eq_some_iff.mp hf
                      refine x_ci (n := 0) C hH (c_X10_thrown l G q79.2  hc) (kd_lt kk_45 (by decide)) (cE_10 kk_45) rfl tw_948 tw_945 tw_946 tw_947 tw_57 (by decide +kernel) ⟨Nat.le_of_ble_eq_true rfl, Nat.le_of_ble_eq_true rfl⟩ rfl hl.1 rfl (Nat.le_of_ble_eq_true rfl) ⟨by show _ ≤ 601024; omega, by show _ ≤ 7293034; omega⟩ dL_law_551 (fun H locs hH => ?_)
                      refine lv_iload C.1 C.2.1 dL_law_554 (lv_at hl 1 rfl) ?_
                      refine lv_icmp_eq (tgt := 561) C.1 C.2.1 dL_law_556 (by decide) (fun q83 => ?_) (fun q83 => ?_)
                      · have hf := (if_pos q83).symm.trans hf
                        refine lv_iload C.1 C.2.1 dL_law_561 (lv_at hl 1 rfl) ?_
                        refine lv_if_ne (tgt := 578) C.1 C.2.1 dL_law_563 (by decide) (fun q82 => ?_) (fun q82 => ?_)
                        · have hf := (if_neg q82).symm.trans hf
                          refine lv_goto (tgt := 687) C.1 C.2.1 dL_law_578 (by decide) ?_
                          refine lv_iinc (v := (x4 + (5 : Int32))) (lv' := [(4, .int (x4 + (5 : Int32))), (6, .int q79.1), (5, .int q75.1), (0, .ref b), (1, .ref (G.2.1 0)), (2, .ref (G.2.1 45)), (3, .ref (G.2.1 65))]) C.1 C.2.1 dL_law_687 hl (k := 6) rfl rfl (by decide) rfl (fun ls hl => ?_)
                          refine lv_goto (tgt := 23) C.1 C.2.1 dL_law_690 (by decide) ?_
                          exact ih q80.2 (x4 + (5 : Int32)) (cs + 3) (sl + 18) (by omega) (by omega) _ _ _ hH (lv_sub hl [3, 4, 5, 6, 0] rfl) hf
                        · have hf := (if_pos q82).symm.trans hf
                          refine lv_aload_n C.1 C.2.1 dL_law_566 rfl (lv_at hl 5 rfl) ?_
                          refine lv_iconst (v := (0 : Int32)) C.1 C.2.1 dL_law_567 (by decide) ?_
                          refine x_lald C hH kk_65 (by decide) dL_law_568 ?_
                          refine lv_iload C.1 C.2.1 dL_law_569 (lv_at hl 0 rfl) ?_
                          refine lv_i2l (v := (q79.1 : Int32).toInt64) C.1 C.2.1 dL_law_571 rfl ?_
                          refine W.lcmp C.1 C.2.1 dL_law_572 ?_
                          refine lv_if_eq (tgt := 578) C.1 C.2.1 dL_law_573 (by decide) (fun q81 => ?_) (fun q81 => ?_)
                          · have hf := (if_pos q81).symm.trans hf
                            refine lv_goto (tgt := 687) C.1 C.2.1 dL_law_578 (by decide) ?_
                            refine lv_iinc (v := (x4 + (5 : Int32))) (lv' := [(4, .int (x4 + (5 : Int32))), (6, .int q79.1), (5, .int q75.1), (0, .ref b), (1, .ref (G.2.1 0)), (2, .ref (G.2.1 45)), (3, .ref (G.2.1 65))]) C.1 C.2.1 dL_law_687 hl (k := 6) rfl rfl (by decide) rfl (fun ls hl => ?_)
                            refine lv_goto (tgt := 23) C.1 C.2.1 dL_law_690 (by decide) ?_
                            exact ih q80.2 (x4 + (5 : Int32)) (cs + 3) (sl + 18) (by omega) (by omega) _ _ _ hH (lv_sub hl [3, 4, 5, 6, 0] rfl) hf
                          · have hf := (if_neg q81).symm.trans hf
                            refine lv_iconst (v := (0 : Int32)) C.1 C.2.1 dL_law_576 (by decide) ?_
                            exact absurd hf (by simp)
                      · have hf := (if_neg q83).symm.trans hf
                        refine lv_iconst (v := (0 : Int32)) C.1 C.2.1 dL_law_559 (by decide) ?_
                        exact absurd hf (by simp)
                    · have hf := (if_neg q84).symm.trans hf
                      by_cases q90 : ((xs x4.toNatClampNeg) &&& (15 : Int32)) = (8 : Int32)
                      · have hf := (if_pos q90).symm.trans hf
                        refine lv_tableIn (tgt := 581) (off := 542) C.1 C.2.1 dL_law_39 (by rw [q90]; decide) (by rw [q90]; decide) (by rw [q90]; decide) (by decide) ?_
                        refine lv_aload_n C.1 C.2.1 dL_law_581 rfl (lv_at hl 1 rfl) ?_
                        refine lv_aload_n C.1 C.2.1 dL_law_582 rfl (lv_at hl 0 rfl) ?_
                        refine lv_iload C.1 C.2.1 dL_law_583 (lv_at hl 4 rfl) ?_
                        refine lv_iconst (v := (1 : Int32)) C.1 C.2.1 dL_law_585 (by decide) ?_
                        refine lv_iadd C.1 C.2.1 dL_law_586 ?_
                        obtain ⟨q85, hf⟩ := itn hf
                        refine va_sld C.1 C.2.1 hX hbl hbA hH.2.2 (inb_in q85) dL_law_587 ?_
                        obtain ⟨q86, hc, hf⟩ := Option.bind_eq_some_iff.mp hf
                        refine x_ci (n := 1) C hH (c_X9_seen l G I (xs (x4 + (1 : Int32)).toNatClampNeg) hc) (kd_lt kk_0 (by decide)) (cE_9 kk_0) rfl tw_353 tw_350 tw_351 tw_352 tw_47 (by decide +kernel) ⟨Nat.le_of_ble_eq_true rfl, Nat.le_of_ble_eq_true rfl⟩ rfl hl.1 rfl (Nat.le_of_ble_eq_true rfl) ⟨by show _ ≤ 601024; omega, by show _ ≤ 7293034; omega⟩ dL_law_588 (fun H locs hH => ?_)
                        refine lv_aload_n C.1 C.2.1 dL_law_591 rfl (lv_at hl 2 rfl) ?_
                        refine lv_aload_n C.1 C.2.1 dL_law_592 rfl (lv_at hl 0 rfl) ?_
                        refine lv_iload C.1 C.2.1 dL_law_593 (lv_at hl 4 rfl) ?_
                        refine lv_iconst (v := (1 : Int32)) C.1 C.2.1 dL_law_595 (by decide) ?_
                        refine lv_iadd C.1 C.2.1 dL_law_596 ?_
                        obtain ⟨q87, hf⟩ := itn hf
                        refine va_sld C.1 C.2.1 hX hbl hbA hH.2.2 (inb_in q87) dL_law_597 ?_
                        obtain ⟨q88, hc, hf⟩ := Option.bind_eq_some_iff.mp hf
                        refine x_ci (n := 1) C hH (c_X10_seen l G q86.2 (xs (x4 + (1 : Int32)).toNatClampNeg) hc) (kd_lt kk_45 (by decide)) (cE_10 kk_45) rfl tw_1089 tw_1086 tw_1087 tw_1088 tw_57 (by decide +kernel) ⟨Nat.le_of_ble_eq_true rfl, Nat.le_of_ble_eq_true rfl⟩ rfl hl.1 rfl (Nat.le_of_ble_eq_true rfl) ⟨by show _ ≤ 601024; omega, by show _ ≤ 7293034; omega⟩ dL_law_598 (fun H locs hH => ?_)
                        refine lv_icmp_eq (tgt := 687) C.1 C.2.1 dL_law_601 (by decide) (fun q89 => ?_) (fun q89 => ?_)
                        · have hf := (if_pos q89).symm.trans hf
                          refine lv_iinc (v := (x4 + (5 : Int32))) (lv' := [(4, .int (x4 + (5 : Int32))), (0, .ref b), (1, .ref (G.2.1 0)), (2, .ref (G.2.1 45)), (3, .ref (G.2.1 65))]) C.1 C.2.1 dL_law_687 hl (k := 4) rfl rfl (by decide) rfl (fun ls hl => ?_)
                          refine lv_goto (tgt := 23) C.1 C.2.1 dL_law_690 (by decide) ?_
                          exact ih q88.2 (x4 + (5 : Int32)) (cs + 0) (sl + 0) (by omega) (by omega) _ _ _ hH (lv_sub hl [1, 2, 3, 4, 0] rfl) hf
                        · have hf := (if_neg q89).symm.trans hf
                          refine lv_iconst (v := (0 : Int32)) C.1 C.2.1 dL_law_604 (by decide) ?_
                          exact absurd hf (by simp)
                      · have hf := (if_neg q90).symm.trans hf
                        by_cases q99 : ((xs x4.toNatClampNeg) &&& (15 : Int32)) = (9 : Int32)
                        · have hf := (if_pos q99).symm.trans hf
                          refine lv_tableIn (tgt := 606) (off := 567) C.1 C.2.1 dL_law_39 (by rw [q99]; decide) (by rw [q99]; decide) (by rw [q99]; decide) (by decide) ?_
                          refine lv_aload_n C.1 C.2.1 dL_law_606 rfl (lv_at hl 1 rfl) ?_
                          refine lv_aload_n C.1 C.2.1 dL_law_607 rfl (lv_at hl 0 rfl) ?_
                          refine lv_iload C.1 C.2.1 dL_law_608 (lv_at hl 4 rfl) ?_
                          refine lv_iconst (v := (1 : Int32)) C.1 C.2.1 dL_law_610 (by decide) ?_
                          refine lv_iadd C.1 C.2.1 dL_law_611 ?_
                          obtain ⟨q91, hf⟩ := itn hf
                          refine va_sld C.1 C.2.1 hX hbl hbA hH.2.2 (inb_in q91) dL_law_612 ?_
                          refine lv_aload_n C.1 C.2.1 dL_law_613 rfl (lv_at hl 3 rfl) ?_
                          obtain ⟨q92, hc, hf⟩ := Option.bind_eq_some_iff.mp hf
                          refine x_sh (n := 3) C hH (c_L_kept l hlt G I (xs (x4 + (1 : Int32)).toNatClampNeg) hc) tw_802 tw_800 tw_801 tw_46 (by decide +kernel) ⟨Nat.le_of_ble_eq_true rfl, Nat.le_of_ble_eq_true rfl⟩ rfl hl.1 rfl (Nat.le_of_ble_eq_true rfl) ⟨by show _ ≤ 601024; omega, by show _ ≤ 7293034; omega⟩ dL_law_614 (fun H locs hH => ?_)
                          refine lv_istore (lv' := [(5, .int q92.1), (0, .ref b), (1, .ref (G.2.1 0)), (2, .ref (G.2.1 45)), (3, .ref (G.2.1 65)), (4, .int x4)]) C.1 C.2.1 dL_law_617 hl (by decide) rfl (fun ls hl => ?_)
                          refine lv_aload_n C.1 C.2.1 dL_law_619 rfl (lv_at hl 3 rfl) ?_
                          refine lv_aload_n C.1 C.2.1 dL_law_620 rfl (lv_at hl 1 rfl) ?_
                          refine lv_iload C.1 C.2.1 dL_law_621 (lv_at hl 5 rfl) ?_
                          refine lv_iconst (v := (1 : Int32)) C.1 C.2.1 dL_law_623 (by decide) ?_
                          refine lv_iadd C.1 C.2.1 dL_law_624 ?_
                          obtain ⟨q93, hf⟩ := itn hf
                          refine va_sld C.1 C.2.1 hX hbl hbA hH.2.2 (inb_in q93) dL_law_625 ?_
                          obtain ⟨q94, hc, hf⟩ := Option.bind_eq_some_iff.mp hf
                          refine x_ci (n := 1) C hH (c_X10_kept l G q92.2 (xs (x4 + (1 : Int32)).toNatClampNeg) hc) (kd_lt kk_45 (by decide)) (cE_10 kk_45) rfl tw_1093 tw_1090 tw_1091 tw_1092 tw_57 (by decide +kernel) ⟨Nat.le_of_ble_eq_true rfl, Nat.le_of_ble_eq_true rfl⟩ rfl hl.1 rfl (Nat.le_of_ble_eq_true rfl) ⟨by show _ ≤ 601024; omega, by show _ ≤ 7293034; omega⟩ dL_law_626 (fun H locs hH => ?_)
                          refine lv_istore (lv' := [(6, .int q94.1), (5, .int q92.1), (0, .ref b), (1, .ref (G.2.1 0)), (2, .ref (G.2.1 45)), (3, .ref (G.2.1 65)), (4, .int x4)]) C.1 C.2.1 dL_law_629 hl (by decide) rfl (fun ls hl => ?_)
                          refine lv_aload_n C.1 C.2.1 dL_law_631 rfl (lv_at hl 4 rfl) ?_
                          obtain ⟨q95, hc, hf⟩ := Option.bind_eq_some_iff.mp hf
                          refine x_ci (n := 0) C hH (c_X10_thrown l G q94.2  hc) (kd_lt kk_45 (by decide)) (cE_10 kk_45) rfl tw_948 tw_945 tw_946 tw_947 tw_57 (by decide +kernel) ⟨Nat.le_of_ble_eq_true rfl, Nat.le_of_ble_eq_true rfl⟩ rfl hl.1 rfl (Nat.le_of_ble_eq_true rfl) ⟨by show _ ≤ 601024; omega, by show _ ≤ 7293034; omega⟩ dL_law_632 (fun H locs hH => ?_)
                          refine lv_iload C.1 C.2.1 dL_law_635 (lv_at hl 1 rfl) ?_
                          refine lv_icmp_eq (tgt := 642) C.1 C.2.1 dL_law_637 (by decide) (fun q98 => ?_) (fun q98 => ?_)
                          · have hf := (if_pos q98).symm.trans hf
                            refine lv_iload C.1 C.2.1 dL_law_642 (lv_at hl 1 rfl) ?_
                            refine lv_if_ne (tgt := 659) C.1 C.2.1 dL_law_644 (by decide) (fun q97 => ?_) (fun q97 => ?_)
                            · have hf := (if_neg q97).symm.trans hf
                              refine lv_goto (tgt := 687) C.1 C.2.1 dL_law_659 (by decide) ?_
                              refine lv_iinc (v := (x4 + (5 : Int32))) (lv' := [(4, .int (x4 + (5 : Int32))), (6, .int q94.1), (5, .int q92.1), (0, .ref b), (1, .ref (G.2.1 0)), (2, .ref (G.2.1 45)), (3, .ref (G.2.1 65))]) C.1 C.2.1 dL_law_687 hl (k := 6) rfl rfl (by decide) rfl (fun ls hl => ?_)
                              refine lv_goto (tgt := 23) C.1 C.2.1 dL_law_690 (by decide) ?_
                              exact ih q95.2 (x4 + (5 : Int32)) (cs + 1) (sl + 6) (by omega) (by omega) _ _ _ hH (lv_sub hl [3, 4, 5, 6, 0] rfl) hf
                            · have hf := (if_pos q97).symm.trans hf
                              refine lv_aload_n C.1 C.2.1 dL_law_647 rfl (lv_at hl 5 rfl) ?_
                              refine lv_iconst (v := (0 : Int32)) C.1 C.2.1 dL_law_648 (by decide) ?_
                              refine x_lald C hH kk_65 (by decide) dL_law_649 ?_
                              refine lv_iload C.1 C.2.1 dL_law_650 (lv_at hl 0 rfl) ?_
                              refine lv_i2l (v := (q94.1 : Int32).toInt64) C.1 C.2.1 dL_law_652 rfl ?_
                              refine W.lcmp C.1 C.2.1 dL_law_653 ?_
                              refine lv_if_eq (tgt := 659) C.1 C.2.1 dL_law_654 (by decide) (fun q96 => ?_) (fun q96 => ?_)
                              · have hf := (if_pos q96).symm.trans hf
                                refine lv_goto (tgt := 687) C.1 C.2.1 dL_law_659 (by decide) ?_
                                refine lv_iinc (v := (x4 + (5 : Int32))) (lv' := [(4, .int (x4 + (5 : Int32))), (6, .int q94.1), (5, .int q92.1), (0, .ref b), (1, .ref (G.2.1 0)), (2, .ref (G.2.1 45)), (3, .ref (G.2.1 65))]) C.1 C.2.1 dL_law_687 hl (k := 6) rfl rfl (by decide) rfl (fun ls hl => ?_)
                                refine lv_goto (tgt := 23) C.1 C.2.1 dL_law_690 (by decide) ?_
                                exact ih q95.2 (x4 + (5 : Int32)) (cs + 1) (sl + 6) (by omega) (by omega) _ _ _ hH (lv_sub hl [3, 4, 5, 6, 0] rfl) hf
                              · have hf := (if_neg q96).symm.trans hf
                                refine lv_iconst (v := (0 : Int32)) C.1 C.2.1 dL_law_657 (by decide) ?_
                                exact absurd hf (by simp)
                          · have hf := (if_neg q98).symm.trans hf
                            refine lv_iconst (v := (0 : Int32)) C.1 C.2.1 dL_law_640 (by decide) ?_
                            exact absurd hf (by simp)
                        · have hf := (if_neg q99).symm.trans hf
                          by_cases q105 : ((xs x4.toNatClampNeg) &&& (15 : Int32)) = (10 : Int32)
                          · have hf := (if_pos q105).symm.trans hf
                            refine lv_tableIn (tgt := 662) (off := 623) C.1 C.2.1 dL_law_39 (by rw [q105]; decide) (by rw [q105]; decide) (by rw [q105]; decide) (by decide) ?_
                            refine lv_aload_n C.1 C.2.1 dL_law_662 rfl (lv_at hl 1 rfl) ?_
                            refine lv_aload_n C.1 C.2.1 dL_law_663 rfl (lv_at hl 0 rfl) ?_
                            refine lv_iload C.1 C.2.1 dL_law_664 (lv_at hl 4 rfl) ?_
                            refine lv_iconst (v := (1 : Int32)) C.1 C.2.1 dL_law_666 (by decide) ?_
                            refine lv_iadd C.1 C.2.1 dL_law_667 ?_
                            obtain ⟨q100, hf⟩ := itn hf
                            refine va_sld C.1 C.2.1 hX hbl hbA hH.2.2 (inb_in q100) dL_law_668 ?_
                            obtain ⟨q101, hc, hf⟩ := Option.bind_eq_some_iff.mp hf
                            refine x_ci (n := 1) C hH (c_X9_pooled l G I (xs (x4 + (1 : Int32)).toNatClampNeg) hc) (kd_lt kk_0 (by decide)) (cE_9 kk_0) rfl tw_357 tw_354 tw_355 tw_356 tw_47 (by decide +kernel) ⟨Nat.le_of_ble_eq_true rfl, Nat.le_of_ble_eq_true rfl⟩ rfl hl.1 rfl (Nat.le_of_ble_eq_true rfl) ⟨by show _ ≤ 601024; omega, by show _ ≤ 7293034; omega⟩ dL_law_669 (fun H locs hH => ?_)
                            refine lv_aload_n C.1 C.2.1 dL_law_672 rfl (lv_at hl 2 rfl) ?_
                            refine lv_aload_n C.1 C.2.1 dL_law_673 rfl (lv_at hl 0 rfl) ?_
                            refine lv_iload C.1 C.2.1 dL_law_674 (lv_at hl 4 rfl) ?_
                            refine lv_iconst (v := (1 : Int32)) C.1 C.2.1 dL_law_676 (by decide) ?_
                            refine lv_iadd C.1 C.2.1 dL_law_677 ?_
                            obtain ⟨q102, hf⟩ := itn hf
                            refine va_sld C.1 C.2.1 hX hbl hbA hH.2.2 (inb_in q102) dL_law_678 ?_
                            obtain ⟨q103, hc, hf⟩ := Option.bind_eq_some_iff.mp hf
                            refine x_ci (n := 1) C hH (c_X10_pooled l G q101.2 (xs (x4 + (1 : Int32)).toNatClampNeg) hc) (kd_lt kk_45 (by decide)) (cE_10 kk_45) rfl tw_1097 tw_1094 tw_1095 tw_1096 tw_57 (by decide +kernel) ⟨Nat.le_of_ble_eq_true rfl, Nat.le_of_ble_eq_true rfl⟩ rfl hl.1 rfl (Nat.le_of_ble_eq_true rfl) ⟨by show _ ≤ 601024; omega, by show _ ≤ 7293034; omega⟩ dL_law_679 (fun H locs hH => ?_)
                            refine lv_icmp_eq (tgt := 687) C.1 C.2.1 dL_law_682 (by decide) (fun q104 => ?_) (fun q104 => ?_)
                            · have hf := (if_pos q104).symm.trans hf
                              refine lv_iinc (v := (x4 + (5 : Int32))) (lv' := [(4, .int (x4 + (5 : Int32))), (0, .ref b), (1, .ref (G.2.1 0)), (2, .ref (G.2.1 45)), (3, .ref (G.2.1 65))]) C.1 C.2.1 dL_law_687 hl (k := 4) rfl rfl (by decide) rfl (fun ls hl => ?_)
                              refine lv_goto (tgt := 23) C.1 C.2.1 dL_law_690 (by decide) ?_
                              exact ih q103.2 (x4 + (5 : Int32)) (cs + 0) (sl + 0) (by omega) (by omega) _ _ _ hH (lv_sub hl [1, 2, 3, 4, 0] rfl) hf
                            · have hf := (if_neg q104).symm.trans hf
                              refine lv_iconst (v := (0 : Int32)) C.1 C.2.1 dL_law_685 (by decide) ?_
                              exact absurd hf (by simp)
                          · have hf := (if_neg q105).symm.trans hf
                            have q10' := ne_toInt (z := 0) (by decide) q10
                            have q14' := ne_toInt (z := 1) (by decide) q14
                            have q27' := ne_toInt (z := 2) (by decide) q27
                            have q40' := ne_toInt (z := 3) (by decide) q40
                            have q47' := ne_toInt (z := 4) (by decide) q47
                            have q60' := ne_toInt (z := 5) (by decide) q60
                            have q71' := ne_toInt (z := 6) (by decide) q71
                            have q84' := ne_toInt (z := 7) (by decide) q84
                            have q90' := ne_toInt (z := 8) (by decide) q90
                            have q99' := ne_toInt (z := 9) (by decide) q99
                            have q105' := ne_toInt (z := 10) (by decide) q105
                            refine x_tblD (tgt := 687) C.1 C.2.1 dL_law_39 ?_ (by decide) ?_
                            · exact Or.inl (by omega)
                            · refine lv_iinc (v := (x4 + (5 : Int32))) (lv' := [(4, .int (x4 + (5 : Int32))), (0, .ref b), (1, .ref (G.2.1 0)), (2, .ref (G.2.1 45)), (3, .ref (G.2.1 65))]) C.1 C.2.1 dL_law_687 hl (k := 4) rfl rfl (by decide) rfl (fun ls hl => ?_)
                              refine lv_goto (tgt := 23) C.1 C.2.1 dL_law_690 (by decide) ?_
                              exact ih I (x4 + (5 : Int32)) (cs + 0) (sl + 0) (by omega) (by omega) _ _ _ hH (lv_sub hl [1, 2, 3, 4, 0] rfl) hf
