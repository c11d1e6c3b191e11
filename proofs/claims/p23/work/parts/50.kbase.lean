/-! ===== constructors: the world grows ===== -/
def twNi (U : State) : Prop := va_Nw (.methodLinkNest RX7 9 yX5_init RX7) U ∧ va_Nw (.methodLinkNest RX7 18 yX6_init RX7) U ∧ va_Nw (.methodLinkNest RX7 25 yX0_init RX7) U ∧ va_Nw (.methodLinkNest RX7 32 yX1_init RX7) U ∧ va_Nw (.methodLinkNest RX7 39 yX4_init RX7) U ∧ va_Nw (.methodLinkNest RX7 46 yX2_init RX7) U ∧ va_Nw (.methodLinkNest RX7 53 yX3_init RX7) U
theorem twNi.warm {s U : State} (hW : s.WarmedH U.vm) (h : twNi s) : twNi U := ⟨va_Nw.warmM hW h.1, va_Nw.warmM hW h.2.1, va_Nw.warmM hW h.2.2.1, va_Nw.warmM hW h.2.2.2.1, va_Nw.warmM hW h.2.2.2.2.1, va_Nw.warmM hW h.2.2.2.2.2.1, va_Nw.warmM hW h.2.2.2.2.2.2⟩
theorem twNi.same {u U : State} (v : u.vm = U.vm) (h : twNi u) : twNi U := ⟨va_Nw.same rfl v h.1, va_Nw.same rfl v h.2.1, va_Nw.same rfl v h.2.2.1, va_Nw.same rfl v h.2.2.2.1, va_Nw.same rfl v h.2.2.2.2.1, va_Nw.same rfl v h.2.2.2.2.2.1, va_Nw.same rfl v h.2.2.2.2.2.2⟩
def twPreK (N : State → Prop) (D : va_G) (tys : List (ClassId × FieldType)) (as : List Value) (ws : va_W) (sz : Nat) : Array Value → State → Prop := va_Pc as (fun U => U.heap.size = sz ∧ va_P D vwCl ws U.heap ∧ va_K D vwCl tys U ∧ va_D (fun _ => True) ws ∧ N U)
def twPostK (D : va_G) (tys : List (ClassId × FieldType)) (Wk : (Nat → Nat) → va_W) (A : Nat → Prop) : (Nat → Nat) → State → Prop := fun u t => va_P D vwCl (Wk u) t.heap ∧ va_K D vwCl tys t ∧ va_D A (Wk u)
def twMk (l : Launch) (N : State → Prop) (y : MethodName) (wy : List Cond) (rm : Room) (D : va_G) (tys : List (ClassId × FieldType)) (as : List Value) (ws : va_W) (Wk : (Nat → Nat) → va_W) (mc ms : Nat) : Prop := ∀ sz : Nat, Met l y wy rm (twPreK N D tys as ws sz) (va_Qv (fun (_ : Nat → Nat) => True) (twPostK D tys Wk (va_A ws sz)) (va_A ws sz)) mc ms (va_A ws sz)
def twKC (N : State → Prop) (p : Program) (s : State) (m : MethodId) (args : Array Value) (meth : Method) (c : Code) (cc : ByteArray) (nL : Nat) (own : String) (ts : List Cond) (D : va_G) (tys : List (ClassId × FieldType)) (A : Nat → Prop) : Prop :=
  p.tables.exec = Jvm.exec ∧ c.code = cc ∧ c.maxLocals = nL ∧ meth.locks = false ∧ s.vm.findClass own = some m.cls ∧ (∀ w ∈ ts, w.before args s = true) ∧ va_K D vwCl tys s ∧ (∀ q, s.heap.size ≤ q → A q) ∧ N s ∧ meth.name = "<init>"
section TWK
variable {p : Program} {l : Launch} {e : Env} {R : Room} {s : State} {m : MethodId} {args : Array Value} {below : List Frame} {meth : Method} {c : Code} {nc ns mc ms : Nat} {Q : State → Prop} {D : va_G} {A : Nat → Prop} {nL : Nat} {cc : ByteArray} {own : String} {ts : List Cond} {tys tyc : List (ClassId × FieldType)} {N : State → Prop}
variable {ws ws' Wc Wr : va_W} {pc : Nat} {lv : List (Nat × Value)} {stk stk0 : List Value} {H H1 : Heap} {locs : List Loc}
theorem twPreK.blind (hNs : ∀ u U : State, u.vm = U.vm → N u → N U) {as : List Value} {ws : va_W} {sz : Nat} : FrameBlind (twPreK N D tys as ws sz) := fun a U g mk h => by
  obtain ⟨q0, q1, qP, qK, qD, qN⟩ := h
  exact ⟨q0, q1, qP, va_K.moved (u := U) (U := U.calling g mk a) (Vm.Alike.refl U.vm) qK, qD, hNs U (U.calling g mk a) rfl qN⟩
theorem tw_obj (C : twC p s m args meth c cc nL own ts D tys A) {idx a : Nat} (h1 : Cond.methodLink own idx Lib.objectInit ∈ ts) (h2 : Cond.instanceMethod Lib.objectInit ∈ ts) (h3 : Cond.code Lib.objectInit ⟨#[0xb1]⟩ 1 none ∈ ts) (d : decode cc pc = .ok (.invokespecial idx, 3)) (hf : 1 ≤ R.frames) (h6 : 2 * 0 + (stk.map fun v => v.category).sum + 12 ≤ R.locals) (g : twG p l e R s m args below meth c nc ns Q D A nL ws (pc + 3) lv stk) : twG p l e R s m args below meth c nc ns Q D A nL ws pc lv (.ref a :: stk) := by
  intro H locs ls hl hP hD hS
  refine W.objInit C.1 C.2.1 C.2.2.2.2.1 (C.hts _ h1) (C.hts _ h2) (C.hts _ h3) rfl (hl.1.trans C.2.2.1.symm) rfl d hf h6 ?_
  exact W.eq (g2 := F0 m (pc + 3) ls stk) rfl (g H locs ls hl hP hD hS)
theorem tw_putF (C : twC p s m args meth c cc nL own ts D tys A) (hin2 : meth.name = "<init>") {ref : String} {a ci index N : Nat} {K : String} {T : u_T} (q0 k : Nat) {fs : List Value} (ty0 : Nat → FieldType) (hty : ∀ k, k < N → parseFieldDescriptor (T k).2.2.1 = some (ty0 k)) (hnm : ∀ a, a < N → ∀ b, b < N → a ≠ b → (T a).2.1 ≠ (T b).2.1) (hin : ∀ w ∈ u_ws K T N, w ∈ ts) (he : ws[q0]? = some (a, .inr (ci, fs))) (hc : vwCl[ci]? = some (K, T, N)) (hk : k < N) (hlink : Cond.fieldLink own index ref (T k).2.1 (T k).2.2.1 ∈ ts) (hsame : (T k).1 = ref) (hfin : (T k).2.2.2 = true) (hdecl : (T k).1 = own) {v : Value} (hn : narrow (ty0 k) v = v) (hfit : fits (ty0 k) v = true) (hlen : k < fs.length) {ws' : va_W} (hw : ws.set q0 (a, .inr (ci, fs.set k v)) = ws') (d : decode cc pc = .ok (.putfield index, 3)) (g : twG p l e R s m args below meth c nc ns Q D A nL ws' (pc + 3) lv stk) : twG p l e R s m args below meth c nc ns Q D A nL ws pc lv (v :: .ref a :: stk) := fun H locs ls hl hP hD hS => va_putF (D := D) C.1 C.2.1 C.hts hin ty0 hty hnm C.2.2.2.2.1 C.hK hP hD hS q0 he hc k hk (C.hts _ hlink) (fun _ h9 => hsame ▸ h9) hfin hin2 hdecl (hty k hk) hn hfit hlen d (fun H1 locs1 hP1 hD1 hS1 => g H1 locs1 ls hl (hw ▸ hP1) (hw ▸ hD1) hS1)
theorem tw_RA {U : State} {c1 c2 : ClassId} {ty : FieldType} (hty : ty = .int ∨ ty = .boolean ∨ ty = .long) (h1 : va_RA U c1 ty) (h2 : va_RA U c2 ty) : c1 = c2 := by
  rcases hty with rfl | rfl | rfl <;> exact Option.some.inj (Eq.trans (Eq.symm h1) h2)
theorem tw_newa (C : twC p s m args meth c cc nL own ts D tys A) {atype : ArrayType} {ty : FieldType} {cX : ClassId} (harr : Cond.arrayClass (newarray.typeOf atype) ∈ ts) (hty : newarray.typeOf atype = ty) (h3 : ty = .int ∨ ty = .boolean ∨ ty = .long) (t0 : Nat) (ht : tys[t0]? = some (cX, ty)) {n : Int32} {N' : Nat} {a0 : vp_A} (ha : ∀ cA : ClassId, vp_cell cA a0 = arrV cA N' (fun _ => defaultValue ty)) (hn : ¬ n < 0) (hN : n.toNatClampNeg = N') (hbytes : N' * componentBytes ty ≤ 536870912) (hcells : nc + 1 ≤ R.cells) (hslots : ns + N' ≤ R.slots) (d : decode cc pc = .ok (.newarray atype, 2)) (g : ∀ q : Nat, twG p l e R s m args below meth c (nc + 1) (ns + N') Q D A nL (ws ++ [(q, .inl (cX, a0))]) (pc + 2) lv (.ref q :: stk)) : twG p l e R s m args below meth c nc ns Q D A nL ws pc lv (.int n :: stk) := by
  intro H locs ls hl hP hD hS
  refine va_newa (D := D) (ty := ty) C.1 C.2.1 (C.hts _ harr) hty C.hK hP hD hS C.hA ha hn hN hbytes hcells hslots d (fun q cA H1 hK1 hP1 hD1 hS1 => ?_)
  have e : cA = cX := tw_RA h3 (hK1.2 tys.length (cA, ty) (by simp)).2 (C.hK.2 t0 (cX, ty) ht).2
  subst e
  exact g q H1 locs ls hl hP1 hD1 hS1
theorem tw_new (C : twC p s m args meth c cc nL own ts D tys A) {K : String} {T : u_T} {N ci index : Nat} (hin : ∀ w ∈ u_ws K T N, w ∈ ts) (ty : Nat → FieldType) (hty : ∀ k, k < N → parseFieldDescriptor (T k).2.2.1 = some (ty k)) (hcl : Cond.classLink own index K ∈ ts) (hinst : Cond.instantiable K N ∈ ts) (hini : Cond.initialized K ∈ ts) (hc : vwCl[ci]? = some (K, T, N)) {fs : List Value} (hfs : ∀ j, j < N → defaultValue (ty j) = vp_V fs j) (hcells : nc + 1 ≤ R.cells) (hslots : ns + N ≤ R.slots) (d : decode cc pc = .ok (.new index, 3)) (g : ∀ q : Nat, twG p l e R s m args below meth c (nc + 1) (ns + N) Q D A nL (ws ++ [(q, .inr (ci, fs))]) (pc + 3) lv (.ref q :: stk)) : twG p l e R s m args below meth c nc ns Q D A nL ws pc lv stk := fun H locs ls hl hP hD hS => va_new (D := D) C.1 C.2.1 C.hts hin ty hty C.2.2.2.2.1 (C.hts _ hcl) (C.hts _ hinst) (C.hts _ hini) C.hK hP hD hS C.hA hc hfs hcells hslots d (fun q H1 hP1 hD1 hS1 => g q H1 locs ls hl hP1 hD1 hS1)
theorem tw_startK {isC isR ix ki : List Nat} {Wc' : va_W} (cut : twCut ws Wc Wr Wc' ws' isC isR ix) (hki : ki.filterMap (fun i => tys[i]?) = tyc) (C : twC p s m args meth c cc nL own ts D tys A) (hNw : ∀ U : State, s.WarmedH U.vm → N U) (hP : va_P D vwCl ws H) (hD : va_D A ws) (as : List Value) : ∀ U : State, U.heap = H → s.WarmedH U.vm → twPreK N D tyc as Wc H.size as.toArray U := fun U hU hW =>
  ⟨rfl, by rw [hU], by rw [hU]; exact tw_Psub hP cut.1, va_K.moved hW.alike (C.hK.sub ki hki), (hD.sub isC cut.2.1 cut.1).weaken (fun _ _ _ _ => trivial), hNw U hW⟩

theorem tw_kN (C : twC p s m args meth c cc nL own ts D tys A) {Wk : (Nat → Nat) → va_W} (ws' : (Nat → Nat) → va_W) {isC isR ix ki : List Nat} (cut : ∀ u, twCut ws Wc Wr (Wk u) (ws' u) isC isR ix) (hki : ki.filterMap (fun i => tys[i]?) = tyc) {y : MethodName} {wy : List Cond} {rm : Room} {bytes : ByteArray} {maxL index n : Nat} {host : String} {b : Nat} {As : List Value} (hNs : ∀ u U : State, u.vm = U.vm → N u → N U) (hNw : ∀ U : State, s.WarmedH U.vm → N U) (hM : twMk l N y wy rm D tyc (.ref b :: As) Wc Wk mc ms) (cw : va_CN R s args own index y host bytes maxL none wy rm mc ms n ∧ y.name = "<init>" ∧ (Cond.instanceMethod y).before args s = true) (hn : As.length = n) (hst : stk0 = As.reverse ++ .ref b :: stk) (hcat : (stk.map fun v => v.category).sum ≤ 8) (d : decode cc pc = .ok (.invokespecial index, 3)) (hroom : nc + mc ≤ R.cells ∧ ns + ms ≤ R.slots) (g : ∀ u, twG p l e R s m args below meth c (nc + mc) (ns + ms) Q D A nL (ws' u) (pc + 3) lv stk) : twG p l e R s m args below meth c nc ns Q D A nL ws pc lv stk0 := by
  intro H locs ls hl hP hD hS
  have hF := va_free hD hS C.hA isC (cut (fun _ => 0)).1
  refine va_callv (va_runIN (As := As) (rest := stk) C.fix (hM H.size) cw ⟨twPreK.blind hNs, tw_startK (cut (fun _ => 0)) hki C hNw hP hD _⟩ rfl hn hl.1 hst (lv_room hcat) d hroom) hS (fun q _ h => hF q h) hF (fun u t H1 locs1 ht hvm hw hB hz hk hS1 => ?_)
  obtain ⟨hP1, hK1, hD1⟩ := hB
  rw [ht] at hP1
  obtain ⟨j1, j2⟩ := tw_back (cut u) C hP hD hS hk hP1 hD1
  exact g u H1 locs1 ls hl j1 j2 hS1
theorem tw_kI (C : twC p s m args meth c cc nL own ts D tys A) {Wk : (Nat → Nat) → va_W} (ws' : (Nat → Nat) → va_W) {isC isR ix ki : List Nat} (cut : ∀ u, twCut ws Wc Wr (Wk u) (ws' u) isC isR ix) (hki : ki.filterMap (fun i => tys[i]?) = tyc) {y : MethodName} {wy : List Cond} {rm : Room} {bytes : ByteArray} {maxL index n : Nat} {b : Nat} {As : List Value} (hNs : ∀ u U : State, u.vm = U.vm → N u → N U) (hNw : ∀ U : State, s.WarmedH U.vm → N U) (hM : twMk l N y wy rm D tyc (.ref b :: As) Wc Wk mc ms) (cw : CallB R s args own index y bytes maxL none wy rm mc ms n ∧ y.name = "<init>" ∧ (Cond.instanceMethod y).before args s = true) (hn : As.length = n) (hst : stk0 = As.reverse ++ .ref b :: stk) (hcat : (stk.map fun v => v.category).sum ≤ 8) (d : decode cc pc = .ok (.invokespecial index, 3)) (hroom : nc + mc ≤ R.cells ∧ ns + ms ≤ R.slots) (g : ∀ u, twG p l e R s m args below meth c (nc + mc) (ns + ms) Q D A nL (ws' u) (pc + 3) lv stk) : twG p l e R s m args below meth c nc ns Q D A nL ws pc lv stk0 := by
  intro H locs ls hl hP hD hS
  have hF := va_free hD hS C.hA isC (cut (fun _ => 0)).1
  refine va_callv (va_runI (As := As) (rest := stk) C.fix (hM H.size) cw ⟨twPreK.blind hNs, tw_startK (cut (fun _ => 0)) hki C hNw hP hD _⟩ rfl hn hl.1 hst (lv_room hcat) d hroom) hS (fun q _ h => hF q h) hF (fun u t H1 locs1 ht hvm hw hB hz hk hS1 => ?_)
  obtain ⟨hP1, hK1, hD1⟩ := hB
  rw [ht] at hP1
  obtain ⟨j1, j2⟩ := tw_back (cut u) C hP hD hS hk hP1 hD1
  exact g u H1 locs1 ls hl j1 j2 hS1
theorem tw_entk {y : MethodName} {wy wy' : List Cond} {rm : Room} {as : List Value} {maxL : Nat} {Wk : (Nat → Nat) → va_W} (hNs : ∀ U : State, N U → twNs U) (hy : plainName y.cls = true) (hw : wy = Cond.code y cc maxL none :: wy') (hlen : (lg_sl as).length ≤ maxL) (hown : y.cls = own) (hy1 : y.name = "<init>")
  (body : ∀ (p : Program) (e : Env) (s : State) (m : MethodId) (below : List Frame) (meth : Method) (c : Code) (A : Nat → Prop) (Q : State → Prop), twC p s m as.toArray meth c cc maxL own wy D tys A → N s → meth.name = "<init>" → (∀ (u : Nat → Nat) (pc : Nat) (lv : List (Nat × Value)), decode cc pc = .ok (.return_, 1) → twG p l e rm s m as.toArray below meth c mc ms Q D A maxL (Wk u) pc lv []) → twG p l e rm s m as.toArray below meth c 0 0 Q D A maxL ws 0 (lv_args 0 as) []) : twMk l N y wy rm D tys as ws Wk mc ms := by
  intro sz
  refine Met.ofW (cc := cc) (maxL := maxL) (ret := none) hy hw ?_
  intro p e s m args below meth c s₁ B hml hv
  obtain ⟨rfl, hsz, hP, hK, hD0, hN⟩ := hv
  subst hsz
  have hts := atoms_spec (ws := wy) B.pre
  have hD := hD0.self (sz := s.heap.size)
  have hlocks := B.notSynchronized
  have hl := lv_entry as (n := maxL) hlen
  have hin : meth.name = "<init>" := (name_of_methodNamed B.named B.method).1.trans hy1
  rw [lg_entry_eq]
  have C : twC p s m as.toArray meth c cc maxL own wy D tys (va_A ws s.heap.size) := ⟨B.exec, B.bytes, hml, hlocks, hown ▸ findClass_of_methodNamed B.named, hts, hK, fun q h => Or.inr h, hNs s hN⟩
  refine body p e s m below meth c _ _ C hN hin (fun u pc lv d => ?_) _ _ _ hl hP hD va_S.rf
  intro H locs ls hl hP hD hS
  exact W.vret C.1 C.2.1 B.returns (fun t ht hW => ⟨⟨u, rfl, trivial, by rw [ht]; exact hP, va_K.moved hW.alike hK, hD⟩, hS.F ht⟩) hS.2.2 d hlocks
end TWK
