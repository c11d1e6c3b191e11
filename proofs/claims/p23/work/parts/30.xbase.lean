/-! ===== methods that throw ===== -/
abbrev twX1 : String := "java/lang/IndexOutOfBoundsException"
abbrev twX2 : String := "java/lang/IllegalArgumentException"
abbrev twX3 : String := "java/lang/IllegalStateException"
abbrev twD1 : Cond := .declares (Bundle.initS "java/lang/RuntimeException")
abbrev twD2 : Cond := .declares (Bundle.initS "java/lang/Exception")
abbrev twD3 : Cond := .declares (Bundle.initS Bundle.tN)
abbrev twXs : List String := ["java/lang/RuntimeException", "java/lang/Exception"]
def twTry {α β : Type} (y : (String × twS) ⊕ α) (k : α → Option ((String × twS) ⊕ β)) : Option ((String × twS) ⊕ β) := match y with
  | .inl x => some (.inl x)
  | .inr z => k z
theorem tw_inr {α β : Type} {a b : β} (h : some (Sum.inr a : α ⊕ β) = some (Sum.inr b)) : some a = some b := by
  cases h
  rfl
theorem tw_tryN {α β : Type} {x : Option ((String × twS) ⊕ α)} {k : α → Option ((String × twS) ⊕ β)} {r : β} (h : (x.bind fun y => twTry y k) = some (.inr r)) : ∃ z, x = some (.inr z) ∧ k z = some (.inr r) := by
  cases x with
  | none => simp at h
  | some y =>
    cases y with
    | inl a =>
      have h : some (Sum.inl a : (String × twS) ⊕ β) = some (.inr r) := h
      cases h
    | inr z => exact ⟨z, rfl, h⟩
theorem tw_tryX {α β : Type} {x : Option ((String × twS) ⊕ α)} {k : α → Option ((String × twS) ⊕ β)} {r : String × twS} (h : (x.bind fun y => twTry y k) = some (.inl r)) : x = some (.inl r) ∨ ∃ z, x = some (.inr z) ∧ k z = some (.inl r) := by
  cases x with
  | none => simp at h
  | some y =>
    cases y with
    | inl a =>
      have h : some (Sum.inl a : (String × twS) ⊕ β) = some (.inl r) := h
      cases h
      exact Or.inl rfl
    | inr z => exact Or.inr ⟨z, rfl, h⟩
/-- what a throw needs of the heap and the tables beside words -/
def twXf (A : Nat → Prop) (U : State) (H : Heap) : Prop := vx_Zq Bundle.tN "UNASSIGNED_STACK" Bundle.steD A U H ∧ vx_Zq Bundle.tN "SUPPRESSED_SENTINEL" Bundle.listD A U H ∧ (∃ a, vk_R RX7 283 "there is no such thing" a U) ∧ (∃ a, vk_R RX7 287 "an argument is out of its range" a U) ∧ (∃ a, vk_R RX7 292 "the call does not fit what was done" a U) ∧ (∃ a, vk_R RX7 278 "there is no such segment or no door in it" a U) ∧ va_Nw (.castable twX1 twX1) U ∧ va_Nw (.castable twX2 twX2) U ∧ va_Nw (.castable twX3 twX3) U ∧ va_Nw twD1 U ∧ va_Nw twD2 U ∧ va_Nw twD3 U
theorem tw_strW {o t : String} {k : Nat} {s U : State} (hW : s.WarmedH U.vm) (h : ∃ a, vk_R o k t a s) : ∃ a, vk_R o k t a U := h.elim fun a h => ⟨a, h.warm hW⟩
theorem tw_strS {o t : String} {k : Nat} {u U : State} (hv : U.vm = u.vm) (h : ∃ a, vk_R o k t a u) : ∃ a, vk_R o k t a U := h.elim fun a h => ⟨a, h.same hv⟩
theorem twXf.warm {A B : Nat → Prop} {s U : State} {H H1 : Heap} (hW : s.WarmedH U.vm) (h : twXf A s H) (hq : ∀ a : Nat, a < H.size → ¬ A a → H1[a]? = H[a]?) (hAB : ∀ q, B q → A q) : twXf B U H1 := by
  obtain ⟨h1, h2, h3, h4, h5, h6, h7, h8, h9, k1, k2, k3⟩ := h
  exact ⟨((h1.moved hW.alike).kept hq).narrow hAB, ((h2.moved hW.alike).kept hq).narrow hAB, tw_strW hW h3, tw_strW hW h4, tw_strW hW h5, tw_strW hW h6, va_Nw.warmC hW h7, va_Nw.warmC hW h8, va_Nw.warmC hW h9, va_Nw.warmD hW k1, va_Nw.warmD hW k2, va_Nw.warmD hW k3⟩
theorem twXf.same {A : Nat → Prop} {u U : State} {H : Heap} (hv : u.vm = U.vm) (ha : u.vm.Alike U.vm) (h : twXf A u H) : twXf A U H := by
  obtain ⟨h1, h2, h3, h4, h5, h6, h7, h8, h9, k1, k2, k3⟩ := h
  exact ⟨h1.moved ha, h2.moved ha, tw_strS hv.symm h3, tw_strS hv.symm h4, tw_strS hv.symm h5, tw_strS hv.symm h6, va_Nw.same rfl hv h7, va_Nw.same rfl hv h8, va_Nw.same rfl hv h9, va_Nw.same rfl hv k1, va_Nw.same rfl hv k2, va_Nw.same rfl hv k3⟩
def twPreX (D : va_G) (tys : List (ClassId × FieldType)) (as : List Value) (ws : va_W) (sz : Nat) : Array Value → State → Prop := va_Pc as (fun U => U.heap.size = sz ∧ va_P D vwCl ws U.heap ∧ va_K D vwCl tys U ∧ va_D (fun _ => True) ws ∧ twNs U ∧ twXf (va_A ws sz) U U.heap)
abbrev twQc (D : va_G) (tys : List (ClassId × FieldType)) (A : Nat → Prop) : Array Value → State → Outcome → State → Prop := va_Qv (fun (_ : Unit) => False) (fun _ _ => True) A
abbrev twXC (D : va_G) (tys : List (ClassId × FieldType)) (A : Nat → Prop) (E : String) (ws' : va_W) : String → State → State → Prop := vx_X (fun (_ : Unit) => True) (fun E' (_ : Unit) t => E' = E ∧ twPost (σ := Unit) D tys ws' A () t) A
def twQx (below : List Frame) (args : Array Value) (s : State) (D : va_G) (tys : List (ClassId × FieldType)) (A : Nat → Prop) (E : String) (ws' : va_W) : State → Prop := vx_MQ below (twQc D tys A) (twXC D tys A E ws') args s 1 6 A
def twMx (l : Launch) (y : MethodName) (wy : List Cond) (rm : Room) (D : va_G) (tys : List (ClassId × FieldType)) (as : List Value) (ws : va_W) (E : String) (ws' : va_W) : Prop := ∀ sz : Nat, vx_Met l y wy rm (twPreX D tys as ws sz) (twQc D tys (va_A ws sz)) (twXC D tys (va_A ws sz) E ws') 1 6 (va_A ws sz)
section TWX
variable {p : Program} {l : Launch} {e : Env} {R : Room} {s : State} {m : MethodId} {args : Array Value} {below : List Frame} {meth : Method} {c : Code} {nc ns : Nat} {Q : State → Prop} {D : va_G} {A : Nat → Prop} {nL : Nat} {cc : ByteArray} {own : String} {ts : List Cond} {tys : List (ClassId × FieldType)}
theorem twPreX.blind {as : List Value} {ws : va_W} {sz : Nat} : FrameBlind (twPreX D tys as ws sz) := fun a U g mk h => by
  obtain ⟨q0, q1, qP, qK, qD, qN, qX⟩ := h
  exact ⟨q0, q1, qP, va_K.moved (u := U) (U := U.calling g mk a) (Vm.Alike.refl U.vm) qK, qD, twNs.same (u := U) (U := U.calling g mk a) rfl qN, twXf.same (u := U) (U := U.calling g mk a) rfl (Vm.Alike.refl U.vm) qX⟩
variable {ws ws' : va_W} {pc : Nat} {lv : List (Nat × Value)} {stk stk0 : List Value} {H : Heap} {locs : List Loc}
theorem tw_startX (C : twC p s m args meth c cc nL own ts D tys A) (X0 : twXf A s s.heap) (hP : va_P D vwCl ws H) (hD : va_D A ws) (hS : va_S A s.heap H locs) (as : List Value) : ∀ U : State, U.heap = H → s.WarmedH U.vm → twPreX D tys as ws H.size as.toArray U := fun U hU hW =>
  ⟨rfl, by rw [hU], by rw [hU]; exact hP, va_K.moved hW.alike C.hK, hD.weaken (fun _ _ _ _ => trivial), C.hN.warm hW, by rw [hU]; exact X0.warm hW hS.2.1 (tw_free C hD hS)⟩
theorem tw_xS (C : twC p s m args meth c cc nL own ts D tys A) (X0 : twXf A s s.heap) (hnt : ∀ x ∈ c.exceptionTable.toList, False) {y : MethodName} {wy : List Cond} {rm : Room} {bytes : ByteArray} {maxL index n : Nat} {ret : Option FieldType} {As : List Value} {E : String} (hM : twMx l y wy rm D tys As ws E ws') (cw : CallB R s args own index y bytes maxL ret wy rm 1 6 n ∧ (Cond.static y).before args s = true) (hn : As.length = n) (hst : stk0 = As.reverse ++ stk) (hcat : (stk.map fun v => v.category).sum ≤ 8) (d : decode cc pc = .ok (.invokestatic index, 3)) (hroom : 0 + 1 ≤ R.cells ∧ 0 + 6 ≤ R.slots) : twG p l e R s m args below meth c 0 0 (twQx below args s D tys A E ws') D A nL ws pc lv stk0 := by
  intro H locs ls hl hP hD hS
  have hF := tw_free C hD hS
  refine vx_callv (vx_runS (As := As) (rest := stk) C.fix (hM H.size) cw ⟨twPreX.blind, tw_startX C X0 hP hD hS _⟩ rfl hn hl.1 hst (lv_room hcat) d hroom) hS (fun q _ h => hF q h) hF (fun q _ h => hF q h) (fun E' ce q9 u t H1 locs1 ht hvm hp hB hz hk hS1 hce hcv hcl => ?_) (fun u t H1 locs1 ht hvm hw hB hz hk hS1 => hw.elim)
  obtain ⟨rfl, hP1, hK1, hD1⟩ := hB
  rw [ht] at hP1
  exact vx_out (fun x hx => (hnt x hx).elim) C.2.2.2.1 hce hcv hcl (fun t2 ht2 hvm2 => ⟨(), trivial, ⟨rfl, by rw [ht2]; exact hP1, va_K.moved hvm2 C.hK, hD1.weaken (fun _ _ _ h => hF _ h)⟩, hS1.F ht2⟩) hS1.2.2 (Nat.le_refl _) (Nat.le_refl _)
theorem tw_xV (C : twC p s m args meth c cc nL own ts D tys A) (X0 : twXf A s s.heap) (hnt : ∀ x ∈ c.exceptionTable.toList, False) {y : MethodName} {wy : List Cond} {rm : Room} {bytes : ByteArray} {maxL index n : Nat} {ret : Option FieldType} {K : String} {b : Nat} {As : List Value} {E : String} (hM : twMx l y wy rm D tys (.ref b :: As) ws E ws') (cw : CallW R s args own K index y bytes maxL ret wy rm 1 6 n) (q0 : Nat) {ci : Nat} {fs : List Value} {q : vw_C} (hc : vwCl[ci]? = some q) (he : ws[q0]? = some (b, .inr (ci, fs))) (hq : q.1 = K) (hn : As.length = n) (hst : stk0 = As.reverse ++ .ref b :: stk) (hcat : (stk.map fun v => v.category).sum ≤ 8) (d : decode cc pc = .ok (.invokevirtual index, 3)) (hroom : 0 + 1 ≤ R.cells ∧ 0 + 6 ≤ R.slots) : twG p l e R s m args below meth c 0 0 (twQx below args s D tys A E ws') D A nL ws pc lv stk0 := by
  intro H locs ls hl hP hD hS
  have hF := tw_free C hD hS
  refine vx_callv (vx_runV (As := As) (rest := stk) C.fix (hM H.size) cw ⟨twPreX.blind, hq ▸ va_recv C.hK hP hc he, tw_startX C X0 hP hD hS _⟩ rfl hn hl.1 hst (lv_room hcat) d hroom) hS (fun q _ h => hF q h) hF (fun q _ h => hF q h) (fun E' ce q9 u t H1 locs1 ht hvm hp hB hz hk hS1 hce hcv hcl => ?_) (fun u t H1 locs1 ht hvm hw hB hz hk hS1 => hw.elim)
  obtain ⟨rfl, hP1, hK1, hD1⟩ := hB
  rw [ht] at hP1
  exact vx_out (fun x hx => (hnt x hx).elim) C.2.2.2.1 hce hcv hcl (fun t2 ht2 hvm2 => ⟨(), trivial, ⟨rfl, by rw [ht2]; exact hP1, va_K.moved hvm2 C.hK, hD1.weaken (fun _ _ _ h => hF _ h)⟩, hS1.F ht2⟩) hS1.2.2 (Nat.le_refl _) (Nat.le_refl _)
theorem tw_thr (C : twC p s m args meth c cc nL own ts D tys A) (hl0 : l.stackTraces = false) (X0 : twXf A s s.heap) (hnt : ∀ x ∈ c.exceptionTable.toList, False) {E text : String} {ik is ic : Nat} (hcls : Bundle.fit E = true) (hk : Cond.classLink own ik E ∈ ts) (hini : Cond.initialized E ∈ ts) (hstr : ∃ sa, vk_R own is text sa s) (hat : ∀ w ∈ (vx_atS own ic E twXs).filter goodWord, w ∈ ts) (hng : ∀ w ∈ (vx_atS own ic E twXs).filter (fun w => !goodWord w), w ∈ [Cond.castable E E, twD1, twD2, twD3]) (hca : va_Nw (.castable E E) s) (hgood : ∀ w ∈ Cond.classLink own ik E :: Cond.initialized E :: vx_atS own ic E twXs, vx_ot w = true)
    (d0 : decode cc pc = .ok (.new ik, 3)) (d3 : decode cc (pc + 3) = .ok (.dup, 1)) (d4 : decode cc (pc + 4) = .ok (.ldc_w is, 3)) (d7 : decode cc (pc + 7) = .ok (.invokespecial ic, 3)) (d10 : decode cc (pc + 10) = .ok (.athrow, 1)) (hRf : 5 < R.frames) (hRl : (stk.map fun v => v.category).sum + 82 ≤ R.locals) (hRc : 0 + 1 ≤ R.cells) (hRs : 0 + 6 ≤ R.slots) : twG p l e R s m args below meth c 0 0 (twQx below args s D tys A E ws) D A nL ws pc lv stk := by
  intro H locs ls hl hP hD hS
  obtain ⟨sa, hstr⟩ := hstr
  exact vx_throwSW (names := twXs) C.1 C.2.1 hl0 C.2.2.2.2.1 hcls (by decide +kernel) (C.hts _ hk) (C.hts _ hini) hstr (vx_hat (fun w hw => C.hts w (hat w hw)) hng (vx_c (va_Nw.use rfl hca) (vx_c (va_Nw.use rfl X0.2.2.2.2.2.2.2.2.2.1) (vx_c (va_Nw.use rfl X0.2.2.2.2.2.2.2.2.2.2.1) (vx_c (va_Nw.use rfl X0.2.2.2.2.2.2.2.2.2.2.2) vx_n))))) hgood X0.1 X0.2.1 hS (hl.1.trans C.2.2.1.symm) d0 d3 d4 d7 d10 (fun x hx => (hnt x hx).elim) hRf hRl hRc hRs C.2.2.2.1
    (fun t hvm hsz hq => ⟨(), trivial, ⟨rfl, hP.kept (fun k q hk => hq q.1 (vx_lt hP hk)), va_K.moved hvm C.hK, hD⟩, ⟨Nat.le_trans hS.1 hsz, fun q h1 h2 => (hq q (Nat.lt_of_lt_of_le h1 hS.1)).trans (hS.2.1 q h1 h2)⟩⟩) hS.2.2 (Nat.le_refl _) (Nat.le_refl _)
theorem tw_entx {y : MethodName} {wy wy' : List Cond} {rm : Room} {as : List Value} {maxL : Nat} {ret : Option FieldType} {E : String} (hy : plainName y.cls = true) (hw : wy = Cond.code y cc maxL ret :: wy') (hlen : (lg_sl as).length ≤ maxL) (hown : y.cls = own)
  (body : ∀ (p : Program) (e : Env) (s : State) (m : MethodId) (below : List Frame) (meth : Method) (c : Code) (A : Nat → Prop), twC p s m as.toArray meth c cc maxL own wy D tys A → twXf A s s.heap → (∀ x ∈ c.exceptionTable.toList, False) → twG p l e rm s m as.toArray below meth c 0 0 (twQx below as.toArray s D tys A E ws') D A maxL ws 0 (lv_args 0 as) []) : twMx l y wy rm D tys as ws E ws' := by
  intro sz
  refine vx_ofW (cc := cc) (maxL := maxL) (ret := ret) hy hw ?_
  intro p e s m args below meth c s₁ B hml hnt hv
  obtain ⟨rfl, hsz, hP, hK, hD0, hN, hX⟩ := hv
  subst hsz
  have hts := atoms_spec (ws := wy) B.pre
  have hD := hD0.self (sz := s.heap.size)
  have hlocks := B.notSynchronized
  have hl := lv_entry as (n := maxL) hlen
  rw [lg_entry_eq]
  have C : twC p s m as.toArray meth c cc maxL own wy D tys (va_A ws s.heap.size) := ⟨B.exec, B.bytes, hml, hlocks, hown ▸ findClass_of_methodNamed B.named, hts, hK, fun q h => Or.inr h, hN⟩
  exact body p e s m below meth c _ C hX hnt _ _ _ hl hP hD va_S.rf
end TWX
