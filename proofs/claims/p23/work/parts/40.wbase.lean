/-! ===== calls over a part of the world; methods that catch ===== -/
abbrev twY3 (cI cZ cJ : ClassId) : List (ClassId × FieldType) := [(cI, .int), (cZ, .boolean), (cJ, .long)]
def twTO (cI cZ cJ : ClassId) (q : Nat → Nat) (o : Nat) (st : twS) (w : Nat → Int64) : va_W := twT cI cZ q st ++ [(o, .inl (cJ, 1, .inr (.inl w)))]
theorem twTO_a (cI cZ cJ : ClassId) (q : Nat → Nat) (o : Nat) (st : twS) (w : Nat → Int64) (i : Int32) (v : Int64) : (twTO cI cZ cJ q o st w).set 26 (o, .inl (cJ, 1, .inr (.inl (vp_updL w i.toNatClampNeg v)))) = twTO cI cZ cJ q o st (vp_updL w i.toNatClampNeg v) := rfl
def twNcs (U : State) : Prop := va_Nc twX2 twX1 U ∧ va_Nc twX3 twX1 U ∧ va_Nc twX3 twX2 U
theorem twNcs.moved {u U : State} (h : u.vm.Alike U.vm) (n : twNcs u) : twNcs U := ⟨n.1.moved h, n.2.1.moved h, n.2.2.moved h⟩
section TWW
variable {p : Program} {l : Launch} {e : Env} {R : Room} {s : State} {m : MethodId} {args : Array Value} {below : List Frame} {meth : Method} {c : Code} {nc ns : Nat} {Q : State → Prop} {D : va_G} {A : Nat → Prop} {nL : Nat} {cc : ByteArray} {own : String} {ts : List Cond} {tys tyc : List (ClassId × FieldType)}
variable {ws ws' Wc Wr Wc' : va_W} {pc : Nat} {lv : List (Nat × Value)} {stk stk0 : List Value} {H H1 : Heap} {locs : List Loc}
theorem tw_Psub {is : List Nat} (h : va_P D vwCl ws H) (hs : is.map (fun i => ws[i]?) = ws'.map some) : va_P D vwCl ws' H := by
  intro k q hk
  have h1 : (ws'.map some)[k]? = some (some q) := by rw [List.getElem?_map, hk]; rfl
  rw [← hs, List.getElem?_map] at h1
  cases hi : is[k]? with
  | none => rw [hi] at h1; cases h1
  | some i =>
    rw [hi] at h1
    exact h i q (Option.some.inj h1)
/-- the callee's part of the world, and the rest; the order behind the call -/
def twCut (ws Wc Wr Wc' ws' : va_W) (isC isR ix : List Nat) : Prop := isC.map (fun i => ws[i]?) = Wc.map some ∧ va_nd isC = true ∧ isR.map (fun i => ws[i]?) = Wr.map some ∧ va_nd isR = true ∧ (∀ i ∈ isR, i ∉ isC) ∧ ix.map (fun i => (Wr ++ Wc')[i]?) = ws'.map some ∧ va_nd ix = true
theorem tw_back {isC isR ix : List Nat} (cut : twCut ws Wc Wr Wc' ws' isC isR ix) (C : twC p s m args meth c cc nL own ts D tys A) (hP : va_P D vwCl ws H) (hD : va_D A ws) (hS : va_S A s.heap H locs) (hk : ∀ q : Nat, q < H.size → ¬ va_A Wc H.size q → H1[q]? = H[q]?) (hP1 : va_P D vwCl Wc' H1) (hD1 : va_D (va_A Wc H.size) Wc') : va_P D vwCl ws' H1 ∧ va_D A ws' := by
  obtain ⟨c1, c2, c3, c4, c5, c6, c7⟩ := cut
  obtain ⟨j1, j2⟩ := va_join (wr := Wr) (w1 := Wc') hP hD isC isR c1 c3 c4 c5 hk (va_free hD hS C.hA isC c1) hP1 hD1
  exact ⟨tw_Psub j1 c6, j2.sub ix c7 c6⟩
theorem tw_startC {isC isR ix ki : List Nat} (cut : twCut ws Wc Wr Wc' ws' isC isR ix) (hki : ki.filterMap (fun i => tys[i]?) = tyc) (C : twC p s m args meth c cc nL own ts D tys A) (hP : va_P D vwCl ws H) (hD : va_D A ws) (as : List Value) : ∀ U : State, U.heap = H → s.WarmedH U.vm → twPre D tyc as Wc H.size as.toArray U := fun U hU hW =>
  ⟨rfl, by rw [hU], by rw [hU]; exact tw_Psub hP cut.1, va_K.moved hW.alike (C.hK.sub ki hki), (hD.sub isC cut.2.1 cut.1).weaken (fun _ _ _ _ => trivial), C.hN.warm hW⟩

theorem tw_fVi (C : twC p s m args meth c cc nL own ts D tys A) {isC isR ix ki : List Nat} (cut : twCut ws Wc Wr Wc' ws' isC isR ix) (hki : ki.filterMap (fun i => tys[i]?) = tyc) {y : MethodName} {wy : List Cond} {rm : Room} {bytes : ByteArray} {maxL index n : Nat} {ret : Option FieldType} {K : String} {b : Nat} {As : List Value} {r : Int32} (hM : twMi l y wy rm D tyc (.ref b :: As) Wc r Wc') (cw : CallW R s args own K index y bytes maxL ret wy rm 0 0 n) (q0 : Nat) {ci : Nat} {fs : List Value} {q : vw_C} (hc : vwCl[ci]? = some q) (he : ws[q0]? = some (b, .inr (ci, fs))) (hq : q.1 = K) (hn : As.length = n) (hst : stk0 = As.reverse ++ .ref b :: stk) (hcat : (stk.map fun v => v.category).sum ≤ 8) (d : decode cc pc = .ok (.invokevirtual index, 3)) (hroom : nc ≤ R.cells ∧ ns ≤ R.slots) (g : twG p l e R s m args below meth c nc ns Q D A nL ws' (pc + 3) lv (.int r :: stk)) : twG p l e R s m args below meth c nc ns Q D A nL ws pc lv stk0 := by
  intro H locs ls hl hP hD hS
  have hF := va_free hD hS C.hA isC cut.1
  refine va_calli (va_runV (As := As) (rest := stk) C.fix (hM H.size) cw ⟨twPre.blind, hq ▸ va_recv C.hK hP hc he, tw_startC cut hki C hP hD _⟩ rfl hn hl.1 hst (lv_room hcat) d hroom) hS (fun q _ h => hF q h) hF (fun r9 u t H1 locs1 ht hvm hw hB hz hk hS1 => ?_)
  obtain ⟨hP1, hK1, hD1⟩ := hB
  rw [ht] at hP1
  obtain ⟨j1, j2⟩ := tw_back cut C hP hD hS hk hP1 hD1
  subst hw
  exact g H1 locs1 ls hl j1 j2 hS1
theorem tw_fVv (C : twC p s m args meth c cc nL own ts D tys A) {isC isR ix ki : List Nat} (cut : twCut ws Wc Wr Wc' ws' isC isR ix) (hki : ki.filterMap (fun i => tys[i]?) = tyc) {y : MethodName} {wy : List Cond} {rm : Room} {bytes : ByteArray} {maxL index n : Nat} {ret : Option FieldType} {K : String} {b : Nat} {As : List Value} (hM : twMv l y wy rm D tyc (.ref b :: As) Wc Wc') (cw : CallW R s args own K index y bytes maxL ret wy rm 0 0 n) (q0 : Nat) {ci : Nat} {fs : List Value} {q : vw_C} (hc : vwCl[ci]? = some q) (he : ws[q0]? = some (b, .inr (ci, fs))) (hq : q.1 = K) (hn : As.length = n) (hst : stk0 = As.reverse ++ .ref b :: stk) (hcat : (stk.map fun v => v.category).sum ≤ 8) (d : decode cc pc = .ok (.invokevirtual index, 3)) (hroom : nc ≤ R.cells ∧ ns ≤ R.slots) (g : twG p l e R s m args below meth c nc ns Q D A nL ws' (pc + 3) lv stk) : twG p l e R s m args below meth c nc ns Q D A nL ws pc lv stk0 := by
  intro H locs ls hl hP hD hS
  have hF := va_free hD hS C.hA isC cut.1
  refine va_callv (va_runV (As := As) (rest := stk) C.fix (hM H.size) cw ⟨twPre.blind, hq ▸ va_recv C.hK hP hc he, tw_startC cut hki C hP hD _⟩ rfl hn hl.1 hst (lv_room hcat) d hroom) hS (fun q _ h => hF q h) hF (fun u t H1 locs1 ht hvm hw hB hz hk hS1 => ?_)
  obtain ⟨hP1, hK1, hD1⟩ := hB
  rw [ht] at hP1
  obtain ⟨j1, j2⟩ := tw_back cut C hP hD hS hk hP1 hD1
  exact g H1 locs1 ls hl j1 j2 hS1
theorem tw_last (C : twC p s m args meth c cc nL own ts D tys A) {a : Nat} (q0 t0 : Nat) {cA : ClassId} {n : Nat} {f : Nat → Int64} {i : Int32} {x : Int64} (hb : vp_in i n) (ha : ws[q0]? = some (a, .inl (cA, n, .inr (.inl f)))) (ht : tys[t0]? = some (cA, .long)) {ws' : va_W} (hw : ws.set q0 (a, .inl (cA, n, .inr (.inl (vp_updL f i.toNatClampNeg x)))) = ws') (d : decode cc pc = .ok (.lastore, 1)) (g : twG p l e R s m args below meth c nc ns Q D A nL ws' (pc + 1) lv stk) : twG p l e R s m args below meth c nc ns Q D A nL ws pc lv (.long x :: .int i :: .ref a :: stk) := fun H locs ls hl hP hD hS => va_last C.1 C.2.1 C.hK hP hD hS q0 t0 ha ht hb d (fun H1 locs1 hP1 hD1 hS1 => g H1 locs1 ls hl (hw ▸ hP1) (hw ▸ hD1) hS1)
theorem tw_lald (C : twC p s m args meth c cc nL own ts D tys A) {a : Nat} (q0 t0 : Nat) {cA : ClassId} {n : Nat} {f : Nat → Int64} {i : Int32} (hb : vp_in i n) (ha : ws[q0]? = some (a, .inl (cA, n, .inr (.inl f)))) (ht : tys[t0]? = some (cA, .long)) (d : decode cc pc = .ok (.laload, 1)) (g : twG p l e R s m args below meth c nc ns Q D A nL ws (pc + 1) lv (.long (f i.toNatClampNeg) :: stk)) : twG p l e R s m args below meth c nc ns Q D A nL ws pc lv (.int i :: .ref a :: stk) := fun H locs ls hl hP hD hS => va_lald C.1 C.2.1 C.hK hP q0 t0 ha ht hb d (g H locs ls hl hP hD hS)
theorem tw_widen {k n : Nat} (h1 : nc ≤ k) (h2 : ns ≤ n) (g : twG p l e R s m args below meth c k n Q D A nL ws pc lv stk) : twG p l e R s m args below meth c nc ns Q D A nL ws pc lv stk := fun H locs ls hl hP hD hS => W.widen h1 h2 (g H locs ls hl hP hD hS)
/-- a call that throws E, caught here by the row x of the table -/
theorem tw_fX (C : twC p s m args meth c cc nL own ts D tys A) (X0 : twXf A s s.heap) {isC isR ix ki : List Nat} (cut : twCut ws Wc Wr Wc' ws' isC isR ix) (hki : ki.filterMap (fun i => tys[i]?) = tyc) {y : MethodName} {wy : List Cond} {rm : Room} {bytes : ByteArray} {maxL index n : Nat} {ret : Option FieldType} {K : String} {b : Nat} {As : List Value} {E name : String} (hM : twMx l y wy rm D tyc (.ref b :: As) Wc E Wc') (cw : CallW R s args own K index y bytes maxL ret wy rm 1 6 n) (q0 : Nat) {ci : Nat} {fs : List Value} {q : vw_C} (hc : vwCl[ci]? = some q) (he : ws[q0]? = some (b, .inr (ci, fs))) (hq : q.1 = K) (hn : As.length = n) (hst : stk0 = As.reverse ++ .ref b :: stk) (hcat : (stk.map fun v => v.category).sum ≤ 8) (d : decode cc pc = .ok (.invokevirtual index, 3)) (hroom : nc + 1 ≤ R.cells ∧ ns + 6 ≤ R.slots)
    (pre : List ExceptionTableEntry) (x : ExceptionTableEntry) (suf : List ExceptionTableEntry) (hsplit : c.exceptionTable.toList = pre ++ x :: suf) (hpass : ∀ z ∈ pre, covers z pc = false ∨ (z.catchType ≠ 0 ∧ ∃ nm : String, (Cond.classLink own z.catchType nm).before args s = true ∧ va_Nc E nm s)) (hx : covers x pc = true) (h0 : x.catchType ≠ 0) (hlink : Cond.classLink own x.catchType name ∈ ts) (hcast : va_Nw (.castable E name) s)
    (g : ∀ q9 : Nat, twG p l e R s m args below meth c (nc + 1) (ns + 6) Q D A nL ws' x.handlerPc lv [.ref q9]) : twG p l e R s m args below meth c nc ns Q D A nL ws pc lv stk0 := by
  intro H locs ls hl hP hD hS
  have hF := va_free hD hS C.hA isC cut.1
  have hst0 : ∀ U : State, U.heap = H → s.WarmedH U.vm → twPreX D tyc (.ref b :: As) Wc H.size (.ref b :: As : List Value).toArray U := fun U hU hW =>
    ⟨rfl, by rw [hU], by rw [hU]; exact tw_Psub hP cut.1, va_K.moved hW.alike (C.hK.sub ki hki), (hD.sub isC cut.2.1 cut.1).weaken (fun _ _ _ _ => trivial), C.hN.warm hW, by rw [hU]; exact X0.warm hW hS.2.1 hF⟩
  refine vx_callv (vx_runV (As := As) (rest := stk) C.fix (hM H.size) cw ⟨twPreX.blind, hq ▸ va_recv C.hK hP hc he, hst0⟩ rfl hn hl.1 hst (lv_room hcat) d hroom) hS (fun q _ h => hF q h) hF (fun q _ h => hF q h) (fun E' ce q9 u t H1 locs1 ht hvm hp hB hz hk hS1 hce hcv hcl => ?_) (fun u t H1 locs1 ht hvm hw hB hz hk hS1 => hw.elim)
  obtain ⟨rfl, hP1, hK1, hD1⟩ := hB
  rw [ht] at hP1
  obtain ⟨j1, j2⟩ := tw_back cut C hP hD hS hk hP1 hD1
  exact vx_catch C.2.2.2.2.1 pre x suf hsplit hpass hx h0 (C.hts _ hlink) (va_Nw.use rfl hcast) hce hcv hcl (g q9 H1 locs1 ls hl j1 j2 hS1)
def twPreW (D : va_G) (tys : List (ClassId × FieldType)) (as : List Value) (ws : va_W) (sz : Nat) : Array Value → State → Prop := va_Pc as (fun U => U.heap.size = sz ∧ va_P D vwCl ws U.heap ∧ va_K D vwCl tys U ∧ va_D (fun _ => True) ws ∧ twNs U ∧ twXf (va_A ws sz) U U.heap ∧ twNcs U)
def twMw (l : Launch) (y : MethodName) (wy : List Cond) (rm : Room) (D : va_G) (tys : List (ClassId × FieldType)) (as : List Value) (ws : va_W) (r : Int32) (ws' : va_W) : Prop := ∀ sz : Nat, Met l y wy rm (twPreW D tys as ws sz) (va_Qi (fun (x : Int32) (_ : Unit) => x = r) (twPost D tys ws' (va_A ws sz)) (va_A ws sz)) 1 6 (va_A ws sz)
theorem twPreW.blind {as : List Value} {ws : va_W} {sz : Nat} : FrameBlind (twPreW D tys as ws sz) := fun a U g mk h => by
  obtain ⟨q0, q1, qP, qK, qD, qN, qX, qC⟩ := h
  exact ⟨q0, q1, qP, va_K.moved (u := U) (U := U.calling g mk a) (Vm.Alike.refl U.vm) qK, qD, twNs.same (u := U) (U := U.calling g mk a) rfl qN, twXf.same (u := U) (U := U.calling g mk a) rfl (Vm.Alike.refl U.vm) qX, twNcs.moved (u := U) (U := U.calling g mk a) (Vm.Alike.refl U.vm) qC⟩
theorem tw_entw {y : MethodName} {wy wy' : List Cond} {rm : Room} {as : List Value} {maxL : Nat} {r : Int32} {hh : List (Nat × Nat × Nat × Nat)} (hy : plainName y.cls = true) (hw : wy = Cond.codeWith y cc maxL (some .int) hh :: wy') (hlen : (lg_sl as).length ≤ maxL) (hown : y.cls = own)
  (body : ∀ (p : Program) (e : Env) (s : State) (m : MethodId) (below : List Frame) (meth : Method) (c : Code) (A : Nat → Prop) (Q : State → Prop), twC p s m as.toArray meth c cc maxL own wy D tys A → twXf A s s.heap → twNcs s → c.exceptionTable.toList = tableOf hh → twEi p l e rm s m as.toArray below meth c 1 6 Q D A maxL cc .int r ws' → twG p l e rm s m as.toArray below meth c 0 0 Q D A maxL ws 0 (lv_args 0 as) []) : twMw l y wy rm D tys as ws r ws' := by
  intro sz
  refine va_MetW (cc := cc) (maxL := maxL) (ret := some .int) hy hw ?_
  intro p e s m args below meth c s₁ B hml hv
  obtain ⟨rfl, hsz, hP, hK, hD0, hN, hX, hNc⟩ := hv
  subst hsz
  have hts := atoms_spec (ws := wy) B.pre
  have hD := hD0.self (sz := s.heap.size)
  have hlocks := B.notSynchronized
  have hl := lv_entry as (n := maxL) hlen
  have hT := vx_table (x := y) B (hts _ (by rw [hw]; exact List.mem_cons_self))
  rw [lg_entry_eq]
  have C : twC p s m as.toArray meth c cc maxL own wy D tys (va_A ws s.heap.size) := ⟨B.exec, B.bytes, hml, hlocks, hown ▸ findClass_of_methodNamed B.named, hts, hK, fun q h => Or.inr h, hN⟩
  refine body p e s m below meth c _ _ C hX hNc hT (fun pc lv d hn => ?_) _ _ _ hl hP hD va_S.rf
  intro H locs ls hl hP hD hS
  exact W.iret C.1 C.2.1 B.returns (fun t ht hW => ⟨⟨r, (), rfl, rfl, by rw [ht]; exact hP, va_K.moved hW.alike hK, hD⟩, hS.F ht⟩) hS.2.2 d hlocks
theorem tw_pass1 {pc : Nat} {E : String} {z : ExceptionTableEntry} {nm : String} (h0 : z.catchType ≠ 0) (h : (Cond.classLink own z.catchType nm).before args s = true) (hn : va_Nc E nm s) : covers z pc = false ∨ (z.catchType ≠ 0 ∧ ∃ nm : String, (Cond.classLink own z.catchType nm).before args s = true ∧ va_Nc E nm s) := Or.inr ⟨h0, nm, h, hn⟩
end TWW
