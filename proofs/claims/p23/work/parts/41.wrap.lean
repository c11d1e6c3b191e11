/-! ===== the law's callers of the class ===== -/
def twE1 : Int32 := -101
def twE2 : Int32 := -102
def twE3 : Int32 := -103
section TWV
variable {p : Program} {l : Launch} {e : Env} {R : Room} {s : State} {m : MethodId} {args : Array Value} {below : List Frame} {meth : Method} {c : Code} {nc ns : Nat} {Q : State → Prop} {D : va_G} {A : Nat → Prop} {nL : Nat} {cc : ByteArray} {own : String} {ts : List Cond} {tys tyc : List (ClassId × FieldType)}
variable {ws ws' Wc Wr Wc' : va_W} {pc : Nat} {lv : List (Nat × Value)} {stk stk0 : List Value} {H H1 : Heap} {locs : List Loc}
theorem tw_entiW {y : MethodName} {wy wy' : List Cond} {rm : Room} {as : List Value} {maxL : Nat} {r : Int32} {hh : List (Nat × Nat × Nat × Nat)} (hy : plainName y.cls = true) (hw : wy = Cond.codeWith y cc maxL (some .int) hh :: wy') (hlen : (lg_sl as).length ≤ maxL) (hown : y.cls = own)
  (body : ∀ (p : Program) (e : Env) (s : State) (m : MethodId) (below : List Frame) (meth : Method) (c : Code) (A : Nat → Prop) (Q : State → Prop), twC p s m as.toArray meth c cc maxL own wy D tys A → twEi p l e rm s m as.toArray below meth c 0 0 Q D A maxL cc .int r ws' → twG p l e rm s m as.toArray below meth c 0 0 Q D A maxL ws 0 (lv_args 0 as) []) : twMi l y wy rm D tys as ws r ws' := by
  intro sz
  refine va_MetW (cc := cc) (maxL := maxL) (ret := some .int) hy hw ?_
  intro p e s m args below meth c s₁ B hml hv
  obtain ⟨rfl, hsz, hP, hK, hD0, hN⟩ := hv
  subst hsz
  have hts := atoms_spec (ws := wy) B.pre
  have hD := hD0.self (sz := s.heap.size)
  have hlocks := B.notSynchronized
  have hl := lv_entry as (n := maxL) hlen
  rw [lg_entry_eq]
  have C : twC p s m as.toArray meth c cc maxL own wy D tys (va_A ws s.heap.size) := ⟨B.exec, B.bytes, hml, hlocks, hown ▸ findClass_of_methodNamed B.named, hts, hK, fun q h => Or.inr h, hN⟩
  refine body p e s m below meth c _ _ C (fun pc lv d hn => ?_) _ _ _ hl hP hD va_S.rf
  intro H locs ls hl hP hD hS
  exact W.zret C.1 C.2.1 B.returns hn (fun t ht hW => ⟨⟨r, (), rfl, rfl, by rw [ht]; exact hP, va_K.moved hW.alike hK, hD⟩, hS.F ht⟩) hS.2.2 d hlocks
theorem tw_cWi (C : twC p s m args meth c cc nL own ts D tys A) {y : MethodName} {wy : List Cond} {rm : Room} {bytes : ByteArray} {maxL index n : Nat} {hh : List (Nat × Nat × Nat × Nat)} {As : List Value} {r : Int32} (hM : twMi l y wy rm D tys As ws r ws') (cw : vx_CSW R s args own index y bytes maxL (some .int) hh wy rm 0 0 n) (hn : As.length = n) (hst : stk0 = As.reverse ++ stk) (hcat : (stk.map fun v => v.category).sum ≤ 8) (d : decode cc pc = .ok (.invokestatic index, 3)) (hroom : nc ≤ R.cells ∧ ns ≤ R.slots) (g : twG p l e R s m args below meth c nc ns Q D A nL ws' (pc + 3) lv (.int r :: stk)) : twG p l e R s m args below meth c nc ns Q D A nL ws pc lv stk0 := by
  intro H locs ls hl hP hD hS
  have hF := tw_free C hD hS
  refine va_calli (vx_runSW (As := As) (rest := stk) C.fix (hM H.size) cw ⟨twPre.blind, tw_start C hP hD _⟩ rfl hn hl.1 hst (lv_room hcat) d hroom) hS (fun q _ h => hF q h) hF (fun r9 u t H1 locs1 ht hvm hw hB hz hk hS1 => ?_)
  obtain ⟨hP1, hK1, hD1⟩ := hB
  rw [ht] at hP1
  subst hw
  exact g H1 locs1 ls hl hP1 (hD1.weaken (fun _ _ _ h => hF _ h)) hS1
theorem tw_wS (C : twC p s m args meth c cc nL own ts D tys A) (X0 : twXf A s s.heap) (hNc : twNcs s) {isC isR ix ki : List Nat} (cut : twCut ws Wc Wr Wc' ws' isC isR ix) (hki : ki.filterMap (fun i => tys[i]?) = tyc) {y : MethodName} {wy : List Cond} {rm : Room} {bytes : ByteArray} {maxL index n : Nat} {hh : List (Nat × Nat × Nat × Nat)} {As : List Value} {r : Int32} (hM : twMw l y wy rm D tyc As Wc r Wc') (cw : vx_CSW R s args own index y bytes maxL (some .int) hh wy rm 1 6 n) (hn : As.length = n) (hst : stk0 = As.reverse ++ stk) (hcat : (stk.map fun v => v.category).sum ≤ 8) (d : decode cc pc = .ok (.invokestatic index, 3)) (hroom : nc + 1 ≤ R.cells ∧ ns + 6 ≤ R.slots) (g : twG p l e R s m args below meth c (nc + 1) (ns + 6) Q D A nL ws' (pc + 3) lv (.int r :: stk)) : twG p l e R s m args below meth c nc ns Q D A nL ws pc lv stk0 := by
  intro H locs ls hl hP hD hS
  have hF := va_free hD hS C.hA isC cut.1
  have hst0 : ∀ U : State, U.heap = H → s.WarmedH U.vm → twPreW D tyc As Wc H.size As.toArray U := fun U hU hW =>
    ⟨rfl, by rw [hU], by rw [hU]; exact tw_Psub hP cut.1, va_K.moved hW.alike (C.hK.sub ki hki), (hD.sub isC cut.2.1 cut.1).weaken (fun _ _ _ _ => trivial), C.hN.warm hW, by rw [hU]; exact X0.warm hW hS.2.1 hF, hNc.moved hW.alike⟩
  refine va_calli (vx_runSW (As := As) (rest := stk) C.fix (hM H.size) cw ⟨twPreW.blind, hst0⟩ rfl hn hl.1 hst (lv_room hcat) d hroom) hS (fun q _ h => hF q h) hF (fun r9 u t H1 locs1 ht hvm hw hB hz hk hS1 => ?_)
  obtain ⟨hP1, hK1, hD1⟩ := hB
  rw [ht] at hP1
  obtain ⟨j1, j2⟩ := tw_back cut C hP hD hS hk hP1 hD1
  subst hw
  exact g H1 locs1 ls hl j1 j2 hS1
/-- a method that reads the script alone -/
def twPreD (D : va_G) (tys : List (ClassId × FieldType)) (b L : Nat) (xs : Nat → Int32) (as : List Value) (sz : Nat) : Array Value → State → Prop := va_Pc as (fun U => U.heap.size = sz ∧ va_K D vwCl tys U ∧ twNs U ∧ va_X b L xs U U.heap ∧ b < U.heap.size)
def twMr (l : Launch) (y : MethodName) (wy : List Cond) (rm : Room) (D : va_G) (tys : List (ClassId × FieldType)) (b L : Nat) (xs : Nat → Int32) (as : List Value) (r : Int32) : Prop := ∀ sz : Nat, Met l y wy rm (twPreD D tys b L xs as sz) (va_Qi (fun (x : Int32) (_ : Unit) => x = r) (twPost D tys [] (va_A [] sz)) (va_A [] sz)) 0 0 (va_A [] sz)
theorem twPreD.blind {b L : Nat} {xs : Nat → Int32} {as : List Value} {sz : Nat} : FrameBlind (twPreD D tys b L xs as sz) := fun a U g mk h => by
  obtain ⟨q0, q1, qK, qN, qX, qb⟩ := h
  exact ⟨q0, q1, va_K.moved (u := U) (U := U.calling g mk a) (Vm.Alike.refl U.vm) qK, twNs.same (u := U) (U := U.calling g mk a) rfl qN, va_X.moved (u := U) (U := U.calling g mk a) (Vm.Alike.refl U.vm) qX, qb⟩
theorem tw_entr {y : MethodName} {wy wy' : List Cond} {rm : Room} {b L : Nat} {xs : Nat → Int32} {as : List Value} {maxL : Nat} {r : Int32} (hy : plainName y.cls = true) (hw : wy = Cond.code y cc maxL (some .int) :: wy') (hlen : (lg_sl as).length ≤ maxL) (hown : y.cls = own)
  (body : ∀ (p : Program) (e : Env) (s : State) (m : MethodId) (below : List Frame) (meth : Method) (c : Code) (A : Nat → Prop) (Q : State → Prop), twC p s m as.toArray meth c cc maxL own wy D tys A → va_X b L xs s s.heap → b < s.heap.size → ¬ A b → twEi p l e rm s m as.toArray below meth c 0 0 Q D A maxL cc .int r [] → twG p l e rm s m as.toArray below meth c 0 0 Q D A maxL [] 0 (lv_args 0 as) []) : twMr l y wy rm D tys b L xs as r := by
  intro sz
  refine Met.ofW (cc := cc) (maxL := maxL) (ret := (some .int)) hy hw ?_
  intro p e s m args below meth c s₁ B hml hv
  obtain ⟨rfl, hsz, hK, hN, hX, hbl⟩ := hv
  subst hsz
  have hts := atoms_spec (ws := wy) B.pre
  have hP : va_P D vwCl [] s.heap := fun k q hk => absurd hk (by simp)
  have hD : va_D (va_A [] s.heap.size) [] := ⟨fun i j p q h => absurd h (by simp), fun k q h => absurd h (by simp)⟩
  have hlocks := B.notSynchronized
  have hl := lv_entry as (n := maxL) hlen
  have hbA : ¬ va_A [] s.heap.size b := by
    rintro (⟨k, x, hk⟩ | h)
    · exact absurd hk (by simp)
    · exact absurd h (by omega)
  rw [lg_entry_eq]
  have C : twC p s m as.toArray meth c cc maxL own wy D tys (va_A [] s.heap.size) := ⟨B.exec, B.bytes, hml, hlocks, hown ▸ findClass_of_methodNamed B.named, hts, hK, fun q h => Or.inr h, hN⟩
  refine body p e s m below meth c _ _ C hX hbl hbA (fun pc lv d hn => ?_) _ _ _ hl hP hD va_S.rf
  intro H locs ls hl hP hD hS
  exact W.zret C.1 C.2.1 B.returns hn (fun t ht hW => ⟨⟨r, (), rfl, rfl, by rw [ht]; exact hP, va_K.moved hW.alike hK, hD⟩, hS.F ht⟩) hS.2.2 d hlocks
theorem tw_cDr (C : twC p s m args meth c cc nL own ts D tys A) {b L : Nat} {xs : Nat → Int32} (hX : va_X b L xs s s.heap) (hbl : b < s.heap.size) (hbA : ¬ A b) {isR ix : List Nat} (cut : twCut ws [] ws [] ws [] isR ix) {y : MethodName} {wy : List Cond} {rm : Room} {bytes : ByteArray} {maxL index n : Nat} {ret : Option FieldType} {As : List Value} {r : Int32} (hM : twMr l y wy rm D tys b L xs As r) (cw : CallB R s args own index y bytes maxL ret wy rm 0 0 n ∧ (Cond.static y).before args s = true) (hn : As.length = n) (hst : stk0 = As.reverse ++ stk) (hcat : (stk.map fun v => v.category).sum ≤ 8) (d : decode cc pc = .ok (.invokestatic index, 3)) (hroom : nc ≤ R.cells ∧ ns ≤ R.slots) (g : twG p l e R s m args below meth c nc ns Q D A nL ws (pc + 3) lv (.int r :: stk)) : twG p l e R s m args below meth c nc ns Q D A nL ws pc lv stk0 := by
  intro H locs ls hl hP hD hS
  have hF := va_free hD hS C.hA [] cut.1
  have hst0 : ∀ U : State, U.heap = H → s.WarmedH U.vm → twPreD D tys b L xs As H.size As.toArray U := fun U hU hW =>
    ⟨rfl, by rw [hU], va_K.moved hW.alike C.hK, C.hN.warm hW, by rw [hU]; exact (hX.kept (hS.2.1 b hbl hbA)).moved hW.alike, by rw [hU]; exact Nat.lt_of_lt_of_le hbl hS.1⟩
  refine va_calli (va_runS (As := As) (rest := stk) C.fix (hM H.size) cw ⟨twPreD.blind, hst0⟩ rfl hn hl.1 hst (lv_room hcat) d hroom) hS (fun q _ h => hF q h) hF (fun r9 u t H1 locs1 ht hvm hw hB hz hk hS1 => ?_)
  obtain ⟨hP1, hK1, hD1⟩ := hB
  rw [ht] at hP1
  obtain ⟨j1, j2⟩ := tw_back cut C hP hD hS hk hP1 hD1
  subst hw
  exact g H1 locs1 ls hl j1 j2 hS1
theorem tw_sld (C : twC p s m args meth c cc nL own ts D tys A) {b L : Nat} {xs : Nat → Int32} (hX : va_X b L xs s s.heap) (hbl : b < s.heap.size) (hbA : ¬ A b) {i : Int32} (hb : twb i L = true) (d : decode cc pc = .ok (.iaload, 1)) (g : twG p l e R s m args below meth c nc ns Q D A nL ws (pc + 1) lv (.int (xs i.toNatClampNeg) :: stk)) : twG p l e R s m args below meth c nc ns Q D A nL ws pc lv (.int i :: .ref b :: stk) := fun H locs ls hl hP hD hS => va_sld C.1 C.2.1 hX hbl hbA hS (tw_in hb) d (g H locs ls hl hP hD hS)
theorem tw_slen (C : twC p s m args meth c cc nL own ts D tys A) {b L : Nat} {xs : Nat → Int32} (hX : va_X b L xs s s.heap) (hbl : b < s.heap.size) (hbA : ¬ A b) (d : decode cc pc = .ok (.arraylength, 1)) (g : twG p l e R s m args below meth c nc ns Q D A nL ws (pc + 1) lv (.int (nI L) :: stk)) : twG p l e R s m args below meth c nc ns Q D A nL ws pc lv (.ref b :: stk) := fun H locs ls hl hP hD hS => va_slen C.1 C.2.1 hX hbl hbA hS d (g H locs ls hl hP hD hS)
theorem tw_ldci (C : twC p s m args meth c cc nL own ts D tys A) {index : Nat} {v : Int32} (hc : Jvm.Cond.constant own index v ∈ ts) (d : decode cc pc = .ok (.ldc index, 2)) (g : twG p l e R s m args below meth c nc ns Q D A nL ws (pc + 2) lv (.int v :: stk)) : twG p l e R s m args below meth c nc ns Q D A nL ws pc lv stk := fun H locs ls hl hP hD hS => lv_ldc C.1 C.2.1 C.2.2.2.2.1 (C.hts _ hc) d (g H locs ls hl hP hD hS)
theorem tw_endl {cI cZ : ClassId} {q : Nat → Nat} {v : Int32} {S : twS} {res : Int32 × twS} {kc kn : Nat} (hE : ∀ (pc k n : Nat) (lv : List (Nat × Value)) (ws : va_W), decode cc pc = .ok (.ireturn, 1) → k ≤ kc → n ≤ kn → twG p l e R s m args below meth c k n Q D A nL ws pc lv [.int 1]) (hr1 : res.1 = 1) (hf : some (v, S) = some res) (hk : nc ≤ kc) (hn : ns ≤ kn) (d : decode cc pc = .ok (.ireturn, 1)) : twG p l e R s m args below meth c nc ns Q D A nL (twT cI cZ q S) pc lv [.int v] := by
  cases hf
  have e : v = 1 := hr1
  rw [e]
  exact hE _ _ _ _ _ d hk hn
end TWV
theorem hd_L_build : yL_build.cls ≠ "java/lang/invoke/MethodHandle" ∧ yL_build.cls ≠ "java/lang/invoke/VarHandle" ∧ (parseMethodDescriptor yL_build.desc).map (fun d => d.parameters.length) = some 3 := by decide +kernel
abbrev rm_L_build : Room := { frames := 4, cells := 0, slots := 0, locals := 86 }
def f_L_build (st : twS) (v1 : Int32) (v2 : Int32) : Option (Int32 × twS) :=
  (f_X7_build st v1 v2).bind fun z => match z with
    | .inl _ => none
    | .inr u => some (0, u)
set_option maxRecDepth 20000 in
theorem c_L_build (l : Launch) (dC : Nat → ClassId) (dI : Nat → Nat → Nat) (cI cZ : ClassId) (q : Nat → Nat) {st : twS} {v1 : Int32} {v2 : Int32} {res : Int32 × twS} (hf : f_L_build st v1 v2 = some res) : twMi l yL_build wsL_build rm_L_build (dC, dI) (twY cI cZ) [.ref (q 0), .int v1, .int v2] (twT cI cZ q st) res.1 (twT cI cZ q res.2) := by
  refine tw_entiW (cc := cL_build) (maxL := 4) (own := RL) (by decide) rfl (Nat.le_of_ble_eq_true rfl) rfl ?_
  intro p e s m below meth c A Q C hE
  generalize ([.ref (q 0), .int v1, .int v2] : List Value).toArray = args at C hE ⊢
  refine tw_sub (lv' := [(0, .ref (q 0)), (1, .int v1), (2, .int v2)]) [0, 1, 2] rfl ?_
  unfold f_L_build at hf
  obtain ⟨z, hz, hf⟩ := tw_bd hf
  refine tw_aload_n C dL_build_0 0 rfl rfl ?_
  refine tw_iload_n C dL_build_1 1 rfl rfl ?_
  refine tw_iload_n C dL_build_2 2 rfl rfl ?_
  rcases z with x | u
  · have hf : (none : Option (Int32 × twS)) = some res := hf
    cases hf
  refine tw_cVv (As := [.int v1, .int v2]) (stk := []) C (c_X7_build l dC dI cI cZ q hz) (cwV 2 C.hts gL_build_X7_build rfl rfl rfl hd_X7_build ⟨Nat.le_of_ble_eq_true rfl, Nat.le_of_ble_eq_true rfl⟩) 0 (ci := 7) rfl rfl rfl rfl rfl (Nat.le_of_ble_eq_true rfl) dL_build_3 ⟨Nat.zero_le _, Nat.zero_le _⟩ ?_
  refine tw_iconst (v := 0) C dL_build_6 (by decide) ?_
  exact tw_endi (Wf := twT cI cZ q) hE hf dL_build_7 rfl
theorem hd_L_people : yL_people.cls ≠ "java/lang/invoke/MethodHandle" ∧ yL_people.cls ≠ "java/lang/invoke/VarHandle" ∧ (parseMethodDescriptor yL_people.desc).map (fun d => d.parameters.length) = some 3 := by decide +kernel
abbrev rm_L_people : Room := { frames := 4, cells := 0, slots := 0, locals := 86 }
def f_L_people (st : twS) (v1 : Int32) (v2 : Int32) : Option (Int32 × twS) :=
  (f_X7_people st v1 v2).bind fun z => match z with
    | .inl _ => none
    | .inr u => some u
set_option maxRecDepth 20000 in
theorem c_L_people (l : Launch) (dC : Nat → ClassId) (dI : Nat → Nat → Nat) (cI cZ : ClassId) (q : Nat → Nat) {st : twS} {v1 : Int32} {v2 : Int32} {res : Int32 × twS} (hf : f_L_people st v1 v2 = some res) : twMi l yL_people wsL_people rm_L_people (dC, dI) (twY cI cZ) [.ref (q 0), .int v1, .int v2] (twT cI cZ q st) res.1 (twT cI cZ q res.2) := by
  refine tw_entiW (cc := cL_people) (maxL := 4) (own := RL) (by decide) rfl (Nat.le_of_ble_eq_true rfl) rfl ?_
  intro p e s m below meth c A Q C hE
  generalize ([.ref (q 0), .int v1, .int v2] : List Value).toArray = args at C hE ⊢
  refine tw_sub (lv' := [(0, .ref (q 0)), (1, .int v1), (2, .int v2)]) [0, 1, 2] rfl ?_
  unfold f_L_people at hf
  obtain ⟨z, hz, hf⟩ := tw_bd hf
  refine tw_aload_n C dL_people_0 0 rfl rfl ?_
  refine tw_iload_n C dL_people_1 1 rfl rfl ?_
  refine tw_iload_n C dL_people_2 2 rfl rfl ?_
  rcases z with x | u
  · have hf : (none : Option (Int32 × twS)) = some res := hf
    cases hf
  refine tw_cVi (As := [.int v1, .int v2]) (stk := []) C (c_X7_people l dC dI cI cZ q hz) (cwV 2 C.hts gL_people_X7_people rfl rfl rfl hd_X7_people ⟨Nat.le_of_ble_eq_true rfl, Nat.le_of_ble_eq_true rfl⟩) 0 (ci := 7) rfl rfl rfl rfl rfl (Nat.le_of_ble_eq_true rfl) dL_people_3 ⟨Nat.zero_le _, Nat.zero_le _⟩ ?_
  have hf : some u = some res := hf
  exact tw_endi (Wf := twT cI cZ q) hE hf dL_people_6 rfl
abbrev rmw_L_people : Room := { frames := 9, cells := 1, slots := 6, locals := 145 }
def g_L_people (st : twS) (v1 : Int32) (v2 : Int32) : Option (Int32 × twS) :=
  (f_X7_people st v1 v2).bind fun z => match z with
    | .inl x => if x.1 = twX1 then some (twE1, x.2) else if x.1 = twX2 then some (twE2, x.2) else if x.1 = twX3 then some (twE3, x.2) else none
    | .inr u => some u
set_option maxRecDepth 20000 in
theorem w_L_people (l : Launch) (hl0 : l.stackTraces = false) (dC : Nat → ClassId) (dI : Nat → Nat → Nat) (cI cZ : ClassId) (q : Nat → Nat) {st : twS} {v1 : Int32} {v2 : Int32} {res : Int32 × twS} (hf : g_L_people st v1 v2 = some res) : twMw l yL_people wsL_people rmw_L_people (dC, dI) (twY cI cZ) [.ref (q 0), .int v1, .int v2] (twT cI cZ q st) res.1 (twT cI cZ q res.2) := by
  refine tw_entw (cc := cL_people) (maxL := 4) (own := RL) (by decide) rfl (Nat.le_of_ble_eq_true rfl) rfl ?_
  intro p e s m below meth c A Q C X0 hNc hT hE
  generalize ([.ref (q 0), .int v1, .int v2] : List Value).toArray = args at C hE ⊢
  refine tw_sub (lv' := [(0, .ref (q 0)), (1, .int v1), (2, .int v2)]) [0, 1, 2] rfl ?_
  unfold g_L_people at hf
  obtain ⟨z, hz, hf⟩ := tw_bd hf
  refine tw_aload_n C dL_people_0 0 rfl rfl ?_
  refine tw_iload_n C dL_people_1 1 rfl rfl ?_
  refine tw_iload_n C dL_people_2 2 rfl rfl ?_
  rcases z with x | u
  · have hf : (if x.1 = twX1 then some (twE1, x.2) else if x.1 = twX2 then some (twE2, x.2) else if x.1 = twX3 then some (twE3, x.2) else  none) = some res := hf
    by_cases e1 : x.1 = twX1
    · have hf := tw_pos hf e1
      obtain ⟨E, s1⟩ := x
      have e1 : E = twX1 := e1
      subst e1
      refine tw_fX (As := [.int v1, .int v2]) (stk := []) (ws' := twT cI cZ q s1) (Wr := []) C X0 (isC := List.range 26) (isR := []) (ix := List.range 26) (ki := [0, 1]) ⟨rfl, rfl, rfl, rfl, by decide, rfl, rfl⟩ rfl (x_X7_people l hl0 dC dI cI cZ q hz) (cwV 2 C.hts gL_people_X7_people rfl rfl rfl hd_X7_people ⟨Nat.le_of_ble_eq_true rfl, Nat.le_of_ble_eq_true rfl⟩) 0 (ci := 7) rfl rfl rfl rfl rfl (Nat.le_of_ble_eq_true rfl) dL_people_3 ⟨Nat.le_of_ble_eq_true rfl, Nat.le_of_ble_eq_true rfl⟩ [] (⟨0, 6, 7, 15⟩ : ExceptionTableEntry) [(⟨0, 6, 11, 17⟩ : ExceptionTableEntry), (⟨0, 6, 15, 19⟩ : ExceptionTableEntry)] (hT.trans rfl) (fun z h => nomatch h) (by decide) (by decide) (List.mem_cons_of_mem _ (List.mem_append_left _ (List.mem_append_left _ (List.mem_append_left _ (List.mem_append_left _ (List.mem_append_left _ (List.mem_append_left _ (List.mem_of_getElem? (i := 0) rfl)))))))) X0.2.2.2.2.2.2.1 (fun q9 => ?_)
      refine tw_astore_n (lv' := [(3, .ref q9), (0, .ref (q 0)), (1, .int v1), (2, .int v2)]) C dL_people_7 rfl (by decide) rfl ?_
      refine tw_bipush (v := twE1) C dL_people_8 (by decide) ?_
      exact tw_endi (Wf := twT cI cZ q) hE hf dL_people_10 rfl
    have hf := tw_neg hf e1
    by_cases e2 : x.1 = twX2
    · have hf := tw_pos hf e2
      obtain ⟨E, s1⟩ := x
      have e2 : E = twX2 := e2
      subst e2
      refine tw_fX (As := [.int v1, .int v2]) (stk := []) (ws' := twT cI cZ q s1) (Wr := []) C X0 (isC := List.range 26) (isR := []) (ix := List.range 26) (ki := [0, 1]) ⟨rfl, rfl, rfl, rfl, by decide, rfl, rfl⟩ rfl (x_X7_people l hl0 dC dI cI cZ q hz) (cwV 2 C.hts gL_people_X7_people rfl rfl rfl hd_X7_people ⟨Nat.le_of_ble_eq_true rfl, Nat.le_of_ble_eq_true rfl⟩) 0 (ci := 7) rfl rfl rfl rfl rfl (Nat.le_of_ble_eq_true rfl) dL_people_3 ⟨Nat.le_of_ble_eq_true rfl, Nat.le_of_ble_eq_true rfl⟩ [(⟨0, 6, 7, 15⟩ : ExceptionTableEntry)] (⟨0, 6, 11, 17⟩ : ExceptionTableEntry) [(⟨0, 6, 15, 19⟩ : ExceptionTableEntry)] (hT.trans rfl) (List.forall_mem_cons.mpr ⟨tw_pass1 (nm := twX1) (by decide) (C.hts _ (List.mem_cons_of_mem _ (List.mem_append_left _ (List.mem_append_left _ (List.mem_append_left _ (List.mem_append_left _ (List.mem_append_left _ (List.mem_append_left _ (List.mem_of_getElem? (i := 0) rfl))))))))) hNc.1, fun z h => nomatch h⟩) (by decide) (by decide) (List.mem_cons_of_mem _ (List.mem_append_left _ (List.mem_append_left _ (List.mem_append_left _ (List.mem_append_left _ (List.mem_append_left _ (List.mem_append_left _ (List.mem_of_getElem? (i := 1) rfl)))))))) X0.2.2.2.2.2.2.2.1 (fun q9 => ?_)
      refine tw_astore_n (lv' := [(3, .ref q9), (0, .ref (q 0)), (1, .int v1), (2, .int v2)]) C dL_people_11 rfl (by decide) rfl ?_
      refine tw_bipush (v := twE2) C dL_people_12 (by decide) ?_
      exact tw_endi (Wf := twT cI cZ q) hE hf dL_people_14 rfl
    have hf := tw_neg hf e2
    by_cases e3 : x.1 = twX3
    · have hf := tw_pos hf e3
      obtain ⟨E, s1⟩ := x
      have e3 : E = twX3 := e3
      subst e3
      refine tw_fX (As := [.int v1, .int v2]) (stk := []) (ws' := twT cI cZ q s1) (Wr := []) C X0 (isC := List.range 26) (isR := []) (ix := List.range 26) (ki := [0, 1]) ⟨rfl, rfl, rfl, rfl, by decide, rfl, rfl⟩ rfl (x_X7_people l hl0 dC dI cI cZ q hz) (cwV 2 C.hts gL_people_X7_people rfl rfl rfl hd_X7_people ⟨Nat.le_of_ble_eq_true rfl, Nat.le_of_ble_eq_true rfl⟩) 0 (ci := 7) rfl rfl rfl rfl rfl (Nat.le_of_ble_eq_true rfl) dL_people_3 ⟨Nat.le_of_ble_eq_true rfl, Nat.le_of_ble_eq_true rfl⟩ [(⟨0, 6, 7, 15⟩ : ExceptionTableEntry), (⟨0, 6, 11, 17⟩ : ExceptionTableEntry)] (⟨0, 6, 15, 19⟩ : ExceptionTableEntry) [] (hT.trans rfl) (List.forall_mem_cons.mpr ⟨tw_pass1 (nm := twX1) (by decide) (C.hts _ (List.mem_cons_of_mem _ (List.mem_append_left _ (List.mem_append_left _ (List.mem_append_left _ (List.mem_append_left _ (List.mem_append_left _ (List.mem_append_left _ (List.mem_of_getElem? (i := 0) rfl))))))))) hNc.2.1, List.forall_mem_cons.mpr ⟨tw_pass1 (nm := twX2) (by decide) (C.hts _ (List.mem_cons_of_mem _ (List.mem_append_left _ (List.mem_append_left _ (List.mem_append_left _ (List.mem_append_left _ (List.mem_append_left _ (List.mem_append_left _ (List.mem_of_getElem? (i := 1) rfl))))))))) hNc.2.2, fun z h => nomatch h⟩⟩) (by decide) (by decide) (List.mem_cons_of_mem _ (List.mem_append_left _ (List.mem_append_left _ (List.mem_append_left _ (List.mem_append_left _ (List.mem_append_left _ (List.mem_append_left _ (List.mem_of_getElem? (i := 2) rfl)))))))) X0.2.2.2.2.2.2.2.2.1 (fun q9 => ?_)
      refine tw_astore_n (lv' := [(3, .ref q9), (0, .ref (q 0)), (1, .int v1), (2, .int v2)]) C dL_people_15 rfl (by decide) rfl ?_
      refine tw_bipush (v := twE3) C dL_people_16 (by decide) ?_
      exact tw_endi (Wf := twT cI cZ q) hE hf dL_people_18 rfl
    have hf := tw_neg hf e3
    cases hf
  refine tw_cVi (As := [.int v1, .int v2]) (stk := []) C (c_X7_people l dC dI cI cZ q hz) (cwV 2 C.hts gL_people_X7_people rfl rfl rfl hd_X7_people ⟨Nat.le_of_ble_eq_true rfl, Nat.le_of_ble_eq_true rfl⟩) 0 (ci := 7) rfl rfl rfl rfl rfl (Nat.le_of_ble_eq_true rfl) dL_people_3 ⟨Nat.zero_le _, Nat.zero_le _⟩ ?_
  have hf : some u = some res := hf
  refine tw_widen (Nat.zero_le 1) (Nat.zero_le 6) ?_
  exact tw_endi (Wf := twT cI cZ q) hE hf dL_people_6 rfl
theorem hd_L_wind : yL_wind.cls ≠ "java/lang/invoke/MethodHandle" ∧ yL_wind.cls ≠ "java/lang/invoke/VarHandle" ∧ (parseMethodDescriptor yL_wind.desc).map (fun d => d.parameters.length) = some 2 := by decide +kernel
abbrev rm_L_wind : Room := { frames := 3, cells := 0, slots := 0, locals := 66 }
def f_L_wind (st : twS) (v1 : Int32) : Option (Int32 × twS) :=
  (f_X7_wind st v1).bind fun z => match z with
    | .inl _ => none
    | .inr u => some u
set_option maxRecDepth 20000 in
theorem c_L_wind (l : Launch) (dC : Nat → ClassId) (dI : Nat → Nat → Nat) (cI cZ : ClassId) (q : Nat → Nat) {st : twS} {v1 : Int32} {res : Int32 × twS} (hf : f_L_wind st v1 = some res) : twMi l yL_wind wsL_wind rm_L_wind (dC, dI) (twY cI cZ) [.ref (q 0), .int v1] (twT cI cZ q st) res.1 (twT cI cZ q res.2) := by
  refine tw_entiW (cc := cL_wind) (maxL := 3) (own := RL) (by decide) rfl (Nat.le_of_ble_eq_true rfl) rfl ?_
  intro p e s m below meth c A Q C hE
  generalize ([.ref (q 0), .int v1] : List Value).toArray = args at C hE ⊢
  refine tw_sub (lv' := [(0, .ref (q 0)), (1, .int v1)]) [0, 1] rfl ?_
  unfold f_L_wind at hf
  obtain ⟨z, hz, hf⟩ := tw_bd hf
  refine tw_aload_n C dL_wind_0 0 rfl rfl ?_
  refine tw_iload_n C dL_wind_1 1 rfl rfl ?_
  rcases z with x | u
  · have hf : (none : Option (Int32 × twS)) = some res := hf
    cases hf
  refine tw_cVi (As := [.int v1]) (stk := []) C (c_X7_wind l dC dI cI cZ q hz) (cwV 1 C.hts gL_wind_X7_wind rfl rfl rfl hd_X7_wind ⟨Nat.le_of_ble_eq_true rfl, Nat.le_of_ble_eq_true rfl⟩) 0 (ci := 7) rfl rfl rfl rfl rfl (Nat.le_of_ble_eq_true rfl) dL_wind_2 ⟨Nat.zero_le _, Nat.zero_le _⟩ ?_
  have hf : some u = some res := hf
  exact tw_endi (Wf := twT cI cZ q) hE hf dL_wind_5 rfl
theorem hd_L_fire : yL_fire.cls ≠ "java/lang/invoke/MethodHandle" ∧ yL_fire.cls ≠ "java/lang/invoke/VarHandle" ∧ (parseMethodDescriptor yL_fire.desc).map (fun d => d.parameters.length) = some 3 := by decide +kernel
abbrev rm_L_fire : Room := { frames := 4, cells := 0, slots := 0, locals := 86 }
def f_L_fire (st : twS) (v1 : Int32) (v2 : Int32) : Option (Int32 × twS) :=
  (f_X7_fire st v1 v2).bind fun z => match z with
    | .inl _ => none
    | .inr u => some (0, u)
set_option maxRecDepth 20000 in
theorem c_L_fire (l : Launch) (dC : Nat → ClassId) (dI : Nat → Nat → Nat) (cI cZ : ClassId) (q : Nat → Nat) {st : twS} {v1 : Int32} {v2 : Int32} {res : Int32 × twS} (hf : f_L_fire st v1 v2 = some res) : twMi l yL_fire wsL_fire rm_L_fire (dC, dI) (twY cI cZ) [.ref (q 0), .int v1, .int v2] (twT cI cZ q st) res.1 (twT cI cZ q res.2) := by
  refine tw_entiW (cc := cL_fire) (maxL := 4) (own := RL) (by decide) rfl (Nat.le_of_ble_eq_true rfl) rfl ?_
  intro p e s m below meth c A Q C hE
  generalize ([.ref (q 0), .int v1, .int v2] : List Value).toArray = args at C hE ⊢
  refine tw_sub (lv' := [(0, .ref (q 0)), (1, .int v1), (2, .int v2)]) [0, 1, 2] rfl ?_
  unfold f_L_fire at hf
  obtain ⟨z, hz, hf⟩ := tw_bd hf
  refine tw_aload_n C dL_fire_0 0 rfl rfl ?_
  refine tw_iload_n C dL_fire_1 1 rfl rfl ?_
  refine tw_iload_n C dL_fire_2 2 rfl rfl ?_
  rcases z with x | u
  · have hf : (none : Option (Int32 × twS)) = some res := hf
    cases hf
  refine tw_cVv (As := [.int v1, .int v2]) (stk := []) C (c_X7_fire l dC dI cI cZ q hz) (cwV 2 C.hts gL_fire_X7_fire rfl rfl rfl hd_X7_fire ⟨Nat.le_of_ble_eq_true rfl, Nat.le_of_ble_eq_true rfl⟩) 0 (ci := 7) rfl rfl rfl rfl rfl (Nat.le_of_ble_eq_true rfl) dL_fire_3 ⟨Nat.zero_le _, Nat.zero_le _⟩ ?_
  refine tw_iconst (v := 0) C dL_fire_6 (by decide) ?_
  exact tw_endi (Wf := twT cI cZ q) hE hf dL_fire_7 rfl
abbrev rmw_L_fire : Room := { frames := 9, cells := 1, slots := 6, locals := 145 }
def g_L_fire (st : twS) (v1 : Int32) (v2 : Int32) : Option (Int32 × twS) :=
  (f_X7_fire st v1 v2).bind fun z => match z with
    | .inl x => if x.1 = twX1 then some (twE1, x.2) else if x.1 = twX2 then some (twE2, x.2) else if x.1 = twX3 then some (twE3, x.2) else none
    | .inr u => some (0, u)
set_option maxRecDepth 20000 in
theorem w_L_fire (l : Launch) (hl0 : l.stackTraces = false) (dC : Nat → ClassId) (dI : Nat → Nat → Nat) (cI cZ : ClassId) (q : Nat → Nat) {st : twS} {v1 : Int32} {v2 : Int32} {res : Int32 × twS} (hf : g_L_fire st v1 v2 = some res) : twMw l yL_fire wsL_fire rmw_L_fire (dC, dI) (twY cI cZ) [.ref (q 0), .int v1, .int v2] (twT cI cZ q st) res.1 (twT cI cZ q res.2) := by
  refine tw_entw (cc := cL_fire) (maxL := 4) (own := RL) (by decide) rfl (Nat.le_of_ble_eq_true rfl) rfl ?_
  intro p e s m below meth c A Q C X0 hNc hT hE
  generalize ([.ref (q 0), .int v1, .int v2] : List Value).toArray = args at C hE ⊢
  refine tw_sub (lv' := [(0, .ref (q 0)), (1, .int v1), (2, .int v2)]) [0, 1, 2] rfl ?_
  unfold g_L_fire at hf
  obtain ⟨z, hz, hf⟩ := tw_bd hf
  refine tw_aload_n C dL_fire_0 0 rfl rfl ?_
  refine tw_iload_n C dL_fire_1 1 rfl rfl ?_
  refine tw_iload_n C dL_fire_2 2 rfl rfl ?_
  rcases z with x | u
  · have hf : (if x.1 = twX1 then some (twE1, x.2) else if x.1 = twX2 then some (twE2, x.2) else if x.1 = twX3 then some (twE3, x.2) else  none) = some res := hf
    by_cases e1 : x.1 = twX1
    · have hf := tw_pos hf e1
      obtain ⟨E, s1⟩ := x
      have e1 : E = twX1 := e1
      subst e1
      refine tw_fX (As := [.int v1, .int v2]) (stk := []) (ws' := twT cI cZ q s1) (Wr := []) C X0 (isC := List.range 26) (isR := []) (ix := List.range 26) (ki := [0, 1]) ⟨rfl, rfl, rfl, rfl, by decide, rfl, rfl⟩ rfl (x_X7_fire l hl0 dC dI cI cZ q hz) (cwV 2 C.hts gL_fire_X7_fire rfl rfl rfl hd_X7_fire ⟨Nat.le_of_ble_eq_true rfl, Nat.le_of_ble_eq_true rfl⟩) 0 (ci := 7) rfl rfl rfl rfl rfl (Nat.le_of_ble_eq_true rfl) dL_fire_3 ⟨Nat.le_of_ble_eq_true rfl, Nat.le_of_ble_eq_true rfl⟩ [] (⟨0, 7, 8, 15⟩ : ExceptionTableEntry) [(⟨0, 7, 12, 17⟩ : ExceptionTableEntry), (⟨0, 7, 16, 19⟩ : ExceptionTableEntry)] (hT.trans rfl) (fun z h => nomatch h) (by decide) (by decide) (List.mem_cons_of_mem _ (List.mem_append_left _ (List.mem_append_left _ (List.mem_append_left _ (List.mem_append_left _ (List.mem_append_left _ (List.mem_append_left _ (List.mem_of_getElem? (i := 0) rfl)))))))) X0.2.2.2.2.2.2.1 (fun q9 => ?_)
      refine tw_astore_n (lv' := [(3, .ref q9), (0, .ref (q 0)), (1, .int v1), (2, .int v2)]) C dL_fire_8 rfl (by decide) rfl ?_
      refine tw_bipush (v := twE1) C dL_fire_9 (by decide) ?_
      exact tw_endi (Wf := twT cI cZ q) hE hf dL_fire_11 rfl
    have hf := tw_neg hf e1
    by_cases e2 : x.1 = twX2
    · have hf := tw_pos hf e2
      obtain ⟨E, s1⟩ := x
      have e2 : E = twX2 := e2
      subst e2
      refine tw_fX (As := [.int v1, .int v2]) (stk := []) (ws' := twT cI cZ q s1) (Wr := []) C X0 (isC := List.range 26) (isR := []) (ix := List.range 26) (ki := [0, 1]) ⟨rfl, rfl, rfl, rfl, by decide, rfl, rfl⟩ rfl (x_X7_fire l hl0 dC dI cI cZ q hz) (cwV 2 C.hts gL_fire_X7_fire rfl rfl rfl hd_X7_fire ⟨Nat.le_of_ble_eq_true rfl, Nat.le_of_ble_eq_true rfl⟩) 0 (ci := 7) rfl rfl rfl rfl rfl (Nat.le_of_ble_eq_true rfl) dL_fire_3 ⟨Nat.le_of_ble_eq_true rfl, Nat.le_of_ble_eq_true rfl⟩ [(⟨0, 7, 8, 15⟩ : ExceptionTableEntry)] (⟨0, 7, 12, 17⟩ : ExceptionTableEntry) [(⟨0, 7, 16, 19⟩ : ExceptionTableEntry)] (hT.trans rfl) (List.forall_mem_cons.mpr ⟨tw_pass1 (nm := twX1) (by decide) (C.hts _ (List.mem_cons_of_mem _ (List.mem_append_left _ (List.mem_append_left _ (List.mem_append_left _ (List.mem_append_left _ (List.mem_append_left _ (List.mem_append_left _ (List.mem_of_getElem? (i := 0) rfl))))))))) hNc.1, fun z h => nomatch h⟩) (by decide) (by decide) (List.mem_cons_of_mem _ (List.mem_append_left _ (List.mem_append_left _ (List.mem_append_left _ (List.mem_append_left _ (List.mem_append_left _ (List.mem_append_left _ (List.mem_of_getElem? (i := 1) rfl)))))))) X0.2.2.2.2.2.2.2.1 (fun q9 => ?_)
      refine tw_astore_n (lv' := [(3, .ref q9), (0, .ref (q 0)), (1, .int v1), (2, .int v2)]) C dL_fire_12 rfl (by decide) rfl ?_
      refine tw_bipush (v := twE2) C dL_fire_13 (by decide) ?_
      exact tw_endi (Wf := twT cI cZ q) hE hf dL_fire_15 rfl
    have hf := tw_neg hf e2
    by_cases e3 : x.1 = twX3
    · have hf := tw_pos hf e3
      obtain ⟨E, s1⟩ := x
      have e3 : E = twX3 := e3
      subst e3
      refine tw_fX (As := [.int v1, .int v2]) (stk := []) (ws' := twT cI cZ q s1) (Wr := []) C X0 (isC := List.range 26) (isR := []) (ix := List.range 26) (ki := [0, 1]) ⟨rfl, rfl, rfl, rfl, by decide, rfl, rfl⟩ rfl (x_X7_fire l hl0 dC dI cI cZ q hz) (cwV 2 C.hts gL_fire_X7_fire rfl rfl rfl hd_X7_fire ⟨Nat.le_of_ble_eq_true rfl, Nat.le_of_ble_eq_true rfl⟩) 0 (ci := 7) rfl rfl rfl rfl rfl (Nat.le_of_ble_eq_true rfl) dL_fire_3 ⟨Nat.le_of_ble_eq_true rfl, Nat.le_of_ble_eq_true rfl⟩ [(⟨0, 7, 8, 15⟩ : ExceptionTableEntry), (⟨0, 7, 12, 17⟩ : ExceptionTableEntry)] (⟨0, 7, 16, 19⟩ : ExceptionTableEntry) [] (hT.trans rfl) (List.forall_mem_cons.mpr ⟨tw_pass1 (nm := twX1) (by decide) (C.hts _ (List.mem_cons_of_mem _ (List.mem_append_left _ (List.mem_append_left _ (List.mem_append_left _ (List.mem_append_left _ (List.mem_append_left _ (List.mem_append_left _ (List.mem_of_getElem? (i := 0) rfl))))))))) hNc.2.1, List.forall_mem_cons.mpr ⟨tw_pass1 (nm := twX2) (by decide) (C.hts _ (List.mem_cons_of_mem _ (List.mem_append_left _ (List.mem_append_left _ (List.mem_append_left _ (List.mem_append_left _ (List.mem_append_left _ (List.mem_append_left _ (List.mem_of_getElem? (i := 1) rfl))))))))) hNc.2.2, fun z h => nomatch h⟩⟩) (by decide) (by decide) (List.mem_cons_of_mem _ (List.mem_append_left _ (List.mem_append_left _ (List.mem_append_left _ (List.mem_append_left _ (List.mem_append_left _ (List.mem_append_left _ (List.mem_of_getElem? (i := 2) rfl)))))))) X0.2.2.2.2.2.2.2.2.1 (fun q9 => ?_)
      refine tw_astore_n (lv' := [(3, .ref q9), (0, .ref (q 0)), (1, .int v1), (2, .int v2)]) C dL_fire_16 rfl (by decide) rfl ?_
      refine tw_bipush (v := twE3) C dL_fire_17 (by decide) ?_
      exact tw_endi (Wf := twT cI cZ q) hE hf dL_fire_19 rfl
    have hf := tw_neg hf e3
    cases hf
  refine tw_cVv (As := [.int v1, .int v2]) (stk := []) C (c_X7_fire l dC dI cI cZ q hz) (cwV 2 C.hts gL_fire_X7_fire rfl rfl rfl hd_X7_fire ⟨Nat.le_of_ble_eq_true rfl, Nat.le_of_ble_eq_true rfl⟩) 0 (ci := 7) rfl rfl rfl rfl rfl (Nat.le_of_ble_eq_true rfl) dL_fire_3 ⟨Nat.zero_le _, Nat.zero_le _⟩ ?_
  refine tw_iconst (v := 0) C dL_fire_6 (by decide) ?_
  refine tw_widen (Nat.zero_le 1) (Nat.zero_le 6) ?_
  exact tw_endi (Wf := twT cI cZ q) hE hf dL_fire_7 rfl
theorem hd_L_feed : yL_feed.cls ≠ "java/lang/invoke/MethodHandle" ∧ yL_feed.cls ≠ "java/lang/invoke/VarHandle" ∧ (parseMethodDescriptor yL_feed.desc).map (fun d => d.parameters.length) = some 3 := by decide +kernel
abbrev rm_L_feed : Room := { frames := 3, cells := 0, slots := 0, locals := 66 }
def f_L_feed (st : twS) (v1 : Int32) (v2 : Int32) : Option (Int32 × twS) :=
  (f_X7_feed st v1 v2).bind fun z => match z with
    | .inl _ => none
    | .inr u => if u.1 = 0 then some (0, u.2) else some (1, u.2)
set_option maxRecDepth 20000 in
theorem c_L_feed (l : Launch) (dC : Nat → ClassId) (dI : Nat → Nat → Nat) (cI cZ : ClassId) (q : Nat → Nat) {st : twS} {v1 : Int32} {v2 : Int32} {res : Int32 × twS} (hf : f_L_feed st v1 v2 = some res) : twMi l yL_feed wsL_feed rm_L_feed (dC, dI) (twY cI cZ) [.ref (q 0), .int v1, .int v2] (twT cI cZ q st) res.1 (twT cI cZ q res.2) := by
  refine tw_entiW (cc := cL_feed) (maxL := 4) (own := RL) (by decide) rfl (Nat.le_of_ble_eq_true rfl) rfl ?_
  intro p e s m below meth c A Q C hE
  generalize ([.ref (q 0), .int v1, .int v2] : List Value).toArray = args at C hE ⊢
  refine tw_sub (lv' := [(0, .ref (q 0)), (1, .int v1), (2, .int v2)]) [0, 1, 2] rfl ?_
  unfold f_L_feed at hf
  obtain ⟨z, hz, hf⟩ := tw_bd hf
  refine tw_aload_n C dL_feed_0 0 rfl rfl ?_
  refine tw_iload_n C dL_feed_1 1 rfl rfl ?_
  refine tw_iload_n C dL_feed_2 2 rfl rfl ?_
  rcases z with x | u
  · have hf : (none : Option (Int32 × twS)) = some res := hf
    cases hf
  refine tw_cVi (As := [.int v1, .int v2]) (stk := []) C (c_X7_feed l dC dI cI cZ q hz) (cwV 2 C.hts gL_feed_X7_feed rfl rfl rfl hd_X7_feed ⟨Nat.le_of_ble_eq_true rfl, Nat.le_of_ble_eq_true rfl⟩) 0 (ci := 7) rfl rfl rfl rfl rfl (Nat.le_of_ble_eq_true rfl) dL_feed_3 ⟨Nat.zero_le _, Nat.zero_le _⟩ ?_
  have hf : (if u.1 = 0 then some (0, u.2) else some (1, u.2)) = some res := hf
  refine tw_if_eq (tgt := 13) C dL_feed_6 (by decide) (fun c1 => ?_) (fun c1 => ?_)
  · have hf := tw_pos hf c1
    refine tw_iconst (v := 0) C dL_feed_13 (by decide) ?_
    exact tw_endi (Wf := twT cI cZ q) hE hf dL_feed_14 rfl
  · have hf := tw_neg hf c1
    refine tw_iconst (v := 1) C dL_feed_9 (by decide) ?_
    refine tw_goto (tgt := 14) C dL_feed_10 (by decide) ?_
    exact tw_endi (Wf := twT cI cZ q) hE hf dL_feed_14 rfl
theorem hd_L_failFan : yL_failFan.cls ≠ "java/lang/invoke/MethodHandle" ∧ yL_failFan.cls ≠ "java/lang/invoke/VarHandle" ∧ (parseMethodDescriptor yL_failFan.desc).map (fun d => d.parameters.length) = some 3 := by decide +kernel
abbrev rm_L_failFan : Room := { frames := 3, cells := 0, slots := 0, locals := 66 }
def f_L_failFan (st : twS) (v1 : Int32) (v2 : Int32) : Option (Int32 × twS) :=
  (f_X7_failFan st v1 v2).bind fun z => match z with
    | .inl _ => none
    | .inr u => some u
set_option maxRecDepth 20000 in
theorem c_L_failFan (l : Launch) (dC : Nat → ClassId) (dI : Nat → Nat → Nat) (cI cZ : ClassId) (q : Nat → Nat) {st : twS} {v1 : Int32} {v2 : Int32} {res : Int32 × twS} (hf : f_L_failFan st v1 v2 = some res) : twMi l yL_failFan wsL_failFan rm_L_failFan (dC, dI) (twY cI cZ) [.ref (q 0), .int v1, .int v2] (twT cI cZ q st) res.1 (twT cI cZ q res.2) := by
  refine tw_entiW (cc := cL_failFan) (maxL := 4) (own := RL) (by decide) rfl (Nat.le_of_ble_eq_true rfl) rfl ?_
  intro p e s m below meth c A Q C hE
  generalize ([.ref (q 0), .int v1, .int v2] : List Value).toArray = args at C hE ⊢
  refine tw_sub (lv' := [(0, .ref (q 0)), (1, .int v1), (2, .int v2)]) [0, 1, 2] rfl ?_
  unfold f_L_failFan at hf
  obtain ⟨z, hz, hf⟩ := tw_bd hf
  refine tw_aload_n C dL_failFan_0 0 rfl rfl ?_
  refine tw_iload_n C dL_failFan_1 1 rfl rfl ?_
  refine tw_iload_n C dL_failFan_2 2 rfl rfl ?_
  rcases z with x | u
  · have hf : (none : Option (Int32 × twS)) = some res := hf
    cases hf
  refine tw_cVi (As := [.int v1, .int v2]) (stk := []) C (c_X7_failFan l dC dI cI cZ q hz) (cwV 2 C.hts gL_failFan_X7_failFan rfl rfl rfl hd_X7_failFan ⟨Nat.le_of_ble_eq_true rfl, Nat.le_of_ble_eq_true rfl⟩) 0 (ci := 7) rfl rfl rfl rfl rfl (Nat.le_of_ble_eq_true rfl) dL_failFan_3 ⟨Nat.zero_le _, Nat.zero_le _⟩ ?_
  have hf : some u = some res := hf
  exact tw_endi (Wf := twT cI cZ q) hE hf dL_failFan_6 rfl
theorem hd_L_failDoor : yL_failDoor.cls ≠ "java/lang/invoke/MethodHandle" ∧ yL_failDoor.cls ≠ "java/lang/invoke/VarHandle" ∧ (parseMethodDescriptor yL_failDoor.desc).map (fun d => d.parameters.length) = some 3 := by decide +kernel
abbrev rm_L_failDoor : Room := { frames := 4, cells := 0, slots := 0, locals := 84 }
def f_L_failDoor (st : twS) (v1 : Int32) (v2 : Int32) : Option (Int32 × twS) :=
  (f_X7_failDoor st v1 v2).bind fun z => match z with
    | .inl _ => none
    | .inr u => if u.1 = 0 then some (0, u.2) else some (1, u.2)
set_option maxRecDepth 20000 in
theorem c_L_failDoor (l : Launch) (dC : Nat → ClassId) (dI : Nat → Nat → Nat) (cI cZ : ClassId) (q : Nat → Nat) {st : twS} {v1 : Int32} {v2 : Int32} {res : Int32 × twS} (hf : f_L_failDoor st v1 v2 = some res) : twMi l yL_failDoor wsL_failDoor rm_L_failDoor (dC, dI) (twY cI cZ) [.ref (q 0), .int v1, .int v2] (twT cI cZ q st) res.1 (twT cI cZ q res.2) := by
  refine tw_entiW (cc := cL_failDoor) (maxL := 4) (own := RL) (by decide) rfl (Nat.le_of_ble_eq_true rfl) rfl ?_
  intro p e s m below meth c A Q C hE
  generalize ([.ref (q 0), .int v1, .int v2] : List Value).toArray = args at C hE ⊢
  refine tw_sub (lv' := [(0, .ref (q 0)), (1, .int v1), (2, .int v2)]) [0, 1, 2] rfl ?_
  unfold f_L_failDoor at hf
  obtain ⟨z, hz, hf⟩ := tw_bd hf
  refine tw_aload_n C dL_failDoor_0 0 rfl rfl ?_
  refine tw_iload_n C dL_failDoor_1 1 rfl rfl ?_
  refine tw_iload_n C dL_failDoor_2 2 rfl rfl ?_
  rcases z with x | u
  · have hf : (none : Option (Int32 × twS)) = some res := hf
    cases hf
  refine tw_cVi (As := [.int v1, .int v2]) (stk := []) C (c_X7_failDoor l dC dI cI cZ q hz) (cwV 2 C.hts gL_failDoor_X7_failDoor rfl rfl rfl hd_X7_failDoor ⟨Nat.le_of_ble_eq_true rfl, Nat.le_of_ble_eq_true rfl⟩) 0 (ci := 7) rfl rfl rfl rfl rfl (Nat.le_of_ble_eq_true rfl) dL_failDoor_3 ⟨Nat.zero_le _, Nat.zero_le _⟩ ?_
  have hf : (if u.1 = 0 then some (0, u.2) else some (1, u.2)) = some res := hf
  refine tw_if_eq (tgt := 13) C dL_failDoor_6 (by decide) (fun c1 => ?_) (fun c1 => ?_)
  · have hf := tw_pos hf c1
    refine tw_iconst (v := 0) C dL_failDoor_13 (by decide) ?_
    exact tw_endi (Wf := twT cI cZ q) hE hf dL_failDoor_14 rfl
  · have hf := tw_neg hf c1
    refine tw_iconst (v := 1) C dL_failDoor_9 (by decide) ?_
    refine tw_goto (tgt := 14) C dL_failDoor_10 (by decide) ?_
    exact tw_endi (Wf := twT cI cZ q) hE hf dL_failDoor_14 rfl
abbrev rmw_L_failDoor : Room := { frames := 8, cells := 1, slots := 6, locals := 125 }
def g_L_failDoor (st : twS) (v1 : Int32) (v2 : Int32) : Option (Int32 × twS) :=
  (f_X7_failDoor st v1 v2).bind fun z => match z with
    | .inl x => if x.1 = twX1 then some (twE1, x.2) else none
    | .inr u => if u.1 = 0 then some (0, u.2) else some (1, u.2)
set_option maxRecDepth 20000 in
theorem w_L_failDoor (l : Launch) (hl0 : l.stackTraces = false) (dC : Nat → ClassId) (dI : Nat → Nat → Nat) (cI cZ : ClassId) (q : Nat → Nat) {st : twS} {v1 : Int32} {v2 : Int32} {res : Int32 × twS} (hf : g_L_failDoor st v1 v2 = some res) : twMw l yL_failDoor wsL_failDoor rmw_L_failDoor (dC, dI) (twY cI cZ) [.ref (q 0), .int v1, .int v2] (twT cI cZ q st) res.1 (twT cI cZ q res.2) := by
  refine tw_entw (cc := cL_failDoor) (maxL := 4) (own := RL) (by decide) rfl (Nat.le_of_ble_eq_true rfl) rfl ?_
  intro p e s m below meth c A Q C X0 hNc hT hE
  generalize ([.ref (q 0), .int v1, .int v2] : List Value).toArray = args at C hE ⊢
  refine tw_sub (lv' := [(0, .ref (q 0)), (1, .int v1), (2, .int v2)]) [0, 1, 2] rfl ?_
  unfold g_L_failDoor at hf
  obtain ⟨z, hz, hf⟩ := tw_bd hf
  refine tw_aload_n C dL_failDoor_0 0 rfl rfl ?_
  refine tw_iload_n C dL_failDoor_1 1 rfl rfl ?_
  refine tw_iload_n C dL_failDoor_2 2 rfl rfl ?_
  rcases z with x | u
  · have hf : (if x.1 = twX1 then some (twE1, x.2) else  none) = some res := hf
    by_cases e1 : x.1 = twX1
    · have hf := tw_pos hf e1
      obtain ⟨E, s1⟩ := x
      have e1 : E = twX1 := e1
      subst e1
      refine tw_fX (As := [.int v1, .int v2]) (stk := []) (ws' := twT cI cZ q s1) (Wr := []) C X0 (isC := List.range 26) (isR := []) (ix := List.range 26) (ki := [0, 1]) ⟨rfl, rfl, rfl, rfl, by decide, rfl, rfl⟩ rfl (x_X7_failDoor l hl0 dC dI cI cZ q hz) (cwV 2 C.hts gL_failDoor_X7_failDoor rfl rfl rfl hd_X7_failDoor ⟨Nat.le_of_ble_eq_true rfl, Nat.le_of_ble_eq_true rfl⟩) 0 (ci := 7) rfl rfl rfl rfl rfl (Nat.le_of_ble_eq_true rfl) dL_failDoor_3 ⟨Nat.le_of_ble_eq_true rfl, Nat.le_of_ble_eq_true rfl⟩ [] (⟨0, 14, 15, 15⟩ : ExceptionTableEntry) [] (hT.trans rfl) (fun z h => nomatch h) (by decide) (by decide) (List.mem_cons_of_mem _ (List.mem_append_left _ (List.mem_append_left _ (List.mem_append_left _ (List.mem_append_left _ (List.mem_of_getElem? (i := 0) rfl)))))) X0.2.2.2.2.2.2.1 (fun q9 => ?_)
      refine tw_astore_n (lv' := [(3, .ref q9), (0, .ref (q 0)), (1, .int v1), (2, .int v2)]) C dL_failDoor_15 rfl (by decide) rfl ?_
      refine tw_bipush (v := twE1) C dL_failDoor_16 (by decide) ?_
      exact tw_endi (Wf := twT cI cZ q) hE hf dL_failDoor_18 rfl
    have hf := tw_neg hf e1
    cases hf
  refine tw_cVi (As := [.int v1, .int v2]) (stk := []) C (c_X7_failDoor l dC dI cI cZ q hz) (cwV 2 C.hts gL_failDoor_X7_failDoor rfl rfl rfl hd_X7_failDoor ⟨Nat.le_of_ble_eq_true rfl, Nat.le_of_ble_eq_true rfl⟩) 0 (ci := 7) rfl rfl rfl rfl rfl (Nat.le_of_ble_eq_true rfl) dL_failDoor_3 ⟨Nat.zero_le _, Nat.zero_le _⟩ ?_
  have hf : (if u.1 = 0 then some (0, u.2) else some (1, u.2)) = some res := hf
  refine tw_if_eq (tgt := 13) C dL_failDoor_6 (by decide) (fun c1 => ?_) (fun c1 => ?_)
  · have hf := tw_pos hf c1
    refine tw_iconst (v := 0) C dL_failDoor_13 (by decide) ?_
    refine tw_widen (Nat.zero_le 1) (Nat.zero_le 6) ?_
    exact tw_endi (Wf := twT cI cZ q) hE hf dL_failDoor_14 rfl
  · have hf := tw_neg hf c1
    refine tw_iconst (v := 1) C dL_failDoor_9 (by decide) ?_
    refine tw_goto (tgt := 14) C dL_failDoor_10 (by decide) ?_
    refine tw_widen (Nat.zero_le 1) (Nat.zero_le 6) ?_
    exact tw_endi (Wf := twT cI cZ q) hE hf dL_failDoor_14 rfl
theorem hd_L_failDetector : yL_failDetector.cls ≠ "java/lang/invoke/MethodHandle" ∧ yL_failDetector.cls ≠ "java/lang/invoke/VarHandle" ∧ (parseMethodDescriptor yL_failDetector.desc).map (fun d => d.parameters.length) = some 4 := by decide +kernel
abbrev rm_L_failDetector : Room := { frames := 4, cells := 0, slots := 0, locals := 87 }
def f_L_failDetector (st : twS) (v1 : Int32) (v2 : Int32) (v3 : Int32) : Option (Int32 × twS) :=
  (f_X7_failDetector st v1 v2 v3).bind fun z => match z with
    | .inl _ => none
    | .inr u => some (0, u)
set_option maxRecDepth 20000 in
theorem c_L_failDetector (l : Launch) (dC : Nat → ClassId) (dI : Nat → Nat → Nat) (cI cZ : ClassId) (q : Nat → Nat) {st : twS} {v1 : Int32} {v2 : Int32} {v3 : Int32} {res : Int32 × twS} (hf : f_L_failDetector st v1 v2 v3 = some res) : twMi l yL_failDetector wsL_failDetector rm_L_failDetector (dC, dI) (twY cI cZ) [.ref (q 0), .int v1, .int v2, .int v3] (twT cI cZ q st) res.1 (twT cI cZ q res.2) := by
  refine tw_entiW (cc := cL_failDetector) (maxL := 5) (own := RL) (by decide) rfl (Nat.le_of_ble_eq_true rfl) rfl ?_
  intro p e s m below meth c A Q C hE
  generalize ([.ref (q 0), .int v1, .int v2, .int v3] : List Value).toArray = args at C hE ⊢
  refine tw_sub (lv' := [(0, .ref (q 0)), (1, .int v1), (2, .int v2), (3, .int v3)]) [0, 1, 2, 3] rfl ?_
  unfold f_L_failDetector at hf
  obtain ⟨z, hz, hf⟩ := tw_bd hf
  refine tw_aload_n C dL_failDetector_0 0 rfl rfl ?_
  refine tw_iload_n C dL_failDetector_1 1 rfl rfl ?_
  refine tw_iload_n C dL_failDetector_2 2 rfl rfl ?_
  refine tw_iload_n C dL_failDetector_3 3 rfl rfl ?_
  rcases z with x | u
  · have hf : (none : Option (Int32 × twS)) = some res := hf
    cases hf
  refine tw_cVv (As := [.int v1, .int v2, .int v3]) (stk := []) C (c_X7_failDetector l dC dI cI cZ q hz) (cwV 3 C.hts gL_failDetector_X7_failDetector rfl rfl rfl hd_X7_failDetector ⟨Nat.le_of_ble_eq_true rfl, Nat.le_of_ble_eq_true rfl⟩) 0 (ci := 7) rfl rfl rfl rfl rfl (Nat.le_of_ble_eq_true rfl) dL_failDetector_4 ⟨Nat.zero_le _, Nat.zero_le _⟩ ?_
  refine tw_iconst (v := 0) C dL_failDetector_7 (by decide) ?_
  exact tw_endi (Wf := twT cI cZ q) hE hf dL_failDetector_8 rfl
theorem hd_L_act : yL_act.cls ≠ "java/lang/invoke/MethodHandle" ∧ yL_act.cls ≠ "java/lang/invoke/VarHandle" ∧ (parseMethodDescriptor yL_act.desc).map (fun d => d.parameters.length) = some 4 := by decide +kernel
abbrev rm_L_act : Room := { frames := 3, cells := 0, slots := 0, locals := 68 }
def f_L_act (st : twS) (v1 : Int32) (v2 : Int32) (v3 : Int32) : Option (Int32 × twS) :=
  (f_X7_act st v1 v2 v3).bind fun z => match z with
    | .inl _ => none
    | .inr u => some u
set_option maxRecDepth 20000 in
theorem c_L_act (l : Launch) (dC : Nat → ClassId) (dI : Nat → Nat → Nat) (cI cZ : ClassId) (q : Nat → Nat) {st : twS} {v1 : Int32} {v2 : Int32} {v3 : Int32} {res : Int32 × twS} (hf : f_L_act st v1 v2 v3 = some res) : twMi l yL_act wsL_act rm_L_act (dC, dI) (twY cI cZ) [.ref (q 0), .int v1, .int v2, .int v3] (twT cI cZ q st) res.1 (twT cI cZ q res.2) := by
  refine tw_entiW (cc := cL_act) (maxL := 5) (own := RL) (by decide) rfl (Nat.le_of_ble_eq_true rfl) rfl ?_
  intro p e s m below meth c A Q C hE
  generalize ([.ref (q 0), .int v1, .int v2, .int v3] : List Value).toArray = args at C hE ⊢
  refine tw_sub (lv' := [(0, .ref (q 0)), (1, .int v1), (2, .int v2), (3, .int v3)]) [0, 1, 2, 3] rfl ?_
  unfold f_L_act at hf
  obtain ⟨z, hz, hf⟩ := tw_bd hf
  refine tw_aload_n C dL_act_0 0 rfl rfl ?_
  refine tw_iload_n C dL_act_1 1 rfl rfl ?_
  refine tw_iload_n C dL_act_2 2 rfl rfl ?_
  refine tw_iload_n C dL_act_3 3 rfl rfl ?_
  rcases z with x | u
  · have hf : (none : Option (Int32 × twS)) = some res := hf
    cases hf
  refine tw_cVi (As := [.int v1, .int v2, .int v3]) (stk := []) C (c_X7_act l dC dI cI cZ q hz) (cwV 3 C.hts gL_act_X7_act rfl rfl rfl hd_X7_act ⟨Nat.le_of_ble_eq_true rfl, Nat.le_of_ble_eq_true rfl⟩) 0 (ci := 7) rfl rfl rfl rfl rfl (Nat.le_of_ble_eq_true rfl) dL_act_4 ⟨Nat.zero_le _, Nat.zero_le _⟩ ?_
  have hf : some u = some res := hf
  exact tw_endi (Wf := twT cI cZ q) hE hf dL_act_7 rfl
abbrev rmw_L_act : Room := { frames := 8, cells := 1, slots := 6, locals := 127 }
def g_L_act (st : twS) (v1 : Int32) (v2 : Int32) (v3 : Int32) : Option (Int32 × twS) :=
  (f_X7_act st v1 v2 v3).bind fun z => match z with
    | .inl x => if x.1 = twX2 then some (twE2, x.2) else if x.1 = twX3 then some (twE3, x.2) else none
    | .inr u => some u
set_option maxRecDepth 20000 in
theorem w_L_act (l : Launch) (hl0 : l.stackTraces = false) (dC : Nat → ClassId) (dI : Nat → Nat → Nat) (cI cZ : ClassId) (q : Nat → Nat) {st : twS} {v1 : Int32} {v2 : Int32} {v3 : Int32} {res : Int32 × twS} (hf : g_L_act st v1 v2 v3 = some res) : twMw l yL_act wsL_act rmw_L_act (dC, dI) (twY cI cZ) [.ref (q 0), .int v1, .int v2, .int v3] (twT cI cZ q st) res.1 (twT cI cZ q res.2) := by
  refine tw_entw (cc := cL_act) (maxL := 5) (own := RL) (by decide) rfl (Nat.le_of_ble_eq_true rfl) rfl ?_
  intro p e s m below meth c A Q C X0 hNc hT hE
  generalize ([.ref (q 0), .int v1, .int v2, .int v3] : List Value).toArray = args at C hE ⊢
  refine tw_sub (lv' := [(0, .ref (q 0)), (1, .int v1), (2, .int v2), (3, .int v3)]) [0, 1, 2, 3] rfl ?_
  unfold g_L_act at hf
  obtain ⟨z, hz, hf⟩ := tw_bd hf
  refine tw_aload_n C dL_act_0 0 rfl rfl ?_
  refine tw_iload_n C dL_act_1 1 rfl rfl ?_
  refine tw_iload_n C dL_act_2 2 rfl rfl ?_
  refine tw_iload_n C dL_act_3 3 rfl rfl ?_
  rcases z with x | u
  · have hf : (if x.1 = twX2 then some (twE2, x.2) else if x.1 = twX3 then some (twE3, x.2) else  none) = some res := hf
    by_cases e2 : x.1 = twX2
    · have hf := tw_pos hf e2
      obtain ⟨E, s1⟩ := x
      have e2 : E = twX2 := e2
      subst e2
      refine tw_fX (As := [.int v1, .int v2, .int v3]) (stk := []) (ws' := twT cI cZ q s1) (Wr := []) C X0 (isC := List.range 26) (isR := []) (ix := List.range 26) (ki := [0, 1]) ⟨rfl, rfl, rfl, rfl, by decide, rfl, rfl⟩ rfl (x_X7_act l hl0 dC dI cI cZ q hz) (cwV 3 C.hts gL_act_X7_act rfl rfl rfl hd_X7_act ⟨Nat.le_of_ble_eq_true rfl, Nat.le_of_ble_eq_true rfl⟩) 0 (ci := 7) rfl rfl rfl rfl rfl (Nat.le_of_ble_eq_true rfl) dL_act_4 ⟨Nat.le_of_ble_eq_true rfl, Nat.le_of_ble_eq_true rfl⟩ [] (⟨0, 7, 8, 17⟩ : ExceptionTableEntry) [(⟨0, 7, 13, 19⟩ : ExceptionTableEntry)] (hT.trans rfl) (fun z h => nomatch h) (by decide) (by decide) (List.mem_cons_of_mem _ (List.mem_append_left _ (List.mem_append_left _ (List.mem_append_left _ (List.mem_append_left _ (List.mem_append_left _ (List.mem_of_getElem? (i := 0) rfl))))))) X0.2.2.2.2.2.2.2.1 (fun q9 => ?_)
      refine tw_astore (lv' := [(4, .ref q9), (0, .ref (q 0)), (1, .int v1), (2, .int v2), (3, .int v3)]) C dL_act_8 (by decide) rfl ?_
      refine tw_bipush (v := twE2) C dL_act_10 (by decide) ?_
      exact tw_endi (Wf := twT cI cZ q) hE hf dL_act_12 rfl
    have hf := tw_neg hf e2
    by_cases e3 : x.1 = twX3
    · have hf := tw_pos hf e3
      obtain ⟨E, s1⟩ := x
      have e3 : E = twX3 := e3
      subst e3
      refine tw_fX (As := [.int v1, .int v2, .int v3]) (stk := []) (ws' := twT cI cZ q s1) (Wr := []) C X0 (isC := List.range 26) (isR := []) (ix := List.range 26) (ki := [0, 1]) ⟨rfl, rfl, rfl, rfl, by decide, rfl, rfl⟩ rfl (x_X7_act l hl0 dC dI cI cZ q hz) (cwV 3 C.hts gL_act_X7_act rfl rfl rfl hd_X7_act ⟨Nat.le_of_ble_eq_true rfl, Nat.le_of_ble_eq_true rfl⟩) 0 (ci := 7) rfl rfl rfl rfl rfl (Nat.le_of_ble_eq_true rfl) dL_act_4 ⟨Nat.le_of_ble_eq_true rfl, Nat.le_of_ble_eq_true rfl⟩ [(⟨0, 7, 8, 17⟩ : ExceptionTableEntry)] (⟨0, 7, 13, 19⟩ : ExceptionTableEntry) [] (hT.trans rfl) (List.forall_mem_cons.mpr ⟨tw_pass1 (nm := twX2) (by decide) (C.hts _ (List.mem_cons_of_mem _ (List.mem_append_left _ (List.mem_append_left _ (List.mem_append_left _ (List.mem_append_left _ (List.mem_append_left _ (List.mem_of_getElem? (i := 0) rfl)))))))) hNc.2.2, fun z h => nomatch h⟩) (by decide) (by decide) (List.mem_cons_of_mem _ (List.mem_append_left _ (List.mem_append_left _ (List.mem_append_left _ (List.mem_append_left _ (List.mem_append_left _ (List.mem_of_getElem? (i := 1) rfl))))))) X0.2.2.2.2.2.2.2.2.1 (fun q9 => ?_)
      refine tw_astore (lv' := [(4, .ref q9), (0, .ref (q 0)), (1, .int v1), (2, .int v2), (3, .int v3)]) C dL_act_13 (by decide) rfl ?_
      refine tw_bipush (v := twE3) C dL_act_15 (by decide) ?_
      exact tw_endi (Wf := twT cI cZ q) hE hf dL_act_17 rfl
    have hf := tw_neg hf e3
    cases hf
  refine tw_cVi (As := [.int v1, .int v2, .int v3]) (stk := []) C (c_X7_act l dC dI cI cZ q hz) (cwV 3 C.hts gL_act_X7_act rfl rfl rfl hd_X7_act ⟨Nat.le_of_ble_eq_true rfl, Nat.le_of_ble_eq_true rfl⟩) 0 (ci := 7) rfl rfl rfl rfl rfl (Nat.le_of_ble_eq_true rfl) dL_act_4 ⟨Nat.zero_le _, Nat.zero_le _⟩ ?_
  have hf : some u = some res := hf
  refine tw_widen (Nat.zero_le 1) (Nat.zero_le 6) ?_
  exact tw_endi (Wf := twT cI cZ q) hE hf dL_act_7 rfl
theorem hd_L_command : yL_command.cls ≠ "java/lang/invoke/MethodHandle" ∧ yL_command.cls ≠ "java/lang/invoke/VarHandle" ∧ (parseMethodDescriptor yL_command.desc).map (fun d => d.parameters.length) = some 3 := by decide +kernel
abbrev rm_L_command : Room := { frames := 3, cells := 0, slots := 0, locals := 67 }
def f_L_command (st : twS) (v1 : Int32) (v2 : Int32) : Option (Int32 × twS) :=
  (f_X7_command st v1 v2).bind fun z => match z with
    | .inl _ => none
    | .inr u => some u
set_option maxRecDepth 20000 in
theorem c_L_command (l : Launch) (dC : Nat → ClassId) (dI : Nat → Nat → Nat) (cI cZ : ClassId) (q : Nat → Nat) {st : twS} {v1 : Int32} {v2 : Int32} {res : Int32 × twS} (hf : f_L_command st v1 v2 = some res) : twMi l yL_command wsL_command rm_L_command (dC, dI) (twY cI cZ) [.ref (q 0), .int v1, .int v2] (twT cI cZ q st) res.1 (twT cI cZ q res.2) := by
  refine tw_entiW (cc := cL_command) (maxL := 4) (own := RL) (by decide) rfl (Nat.le_of_ble_eq_true rfl) rfl ?_
  intro p e s m below meth c A Q C hE
  generalize ([.ref (q 0), .int v1, .int v2] : List Value).toArray = args at C hE ⊢
  refine tw_sub (lv' := [(0, .ref (q 0)), (1, .int v1), (2, .int v2)]) [0, 1, 2] rfl ?_
  unfold f_L_command at hf
  obtain ⟨z, hz, hf⟩ := tw_bd hf
  refine tw_aload_n C dL_command_0 0 rfl rfl ?_
  refine tw_iload_n C dL_command_1 1 rfl rfl ?_
  refine tw_iload_n C dL_command_2 2 rfl rfl ?_
  rcases z with x | u
  · have hf : (none : Option (Int32 × twS)) = some res := hf
    cases hf
  refine tw_cVi (As := [.int v1, .int v2]) (stk := []) C (c_X7_command l dC dI cI cZ q hz) (cwV 2 C.hts gL_command_X7_command rfl rfl rfl hd_X7_command ⟨Nat.le_of_ble_eq_true rfl, Nat.le_of_ble_eq_true rfl⟩) 0 (ci := 7) rfl rfl rfl rfl rfl (Nat.le_of_ble_eq_true rfl) dL_command_3 ⟨Nat.zero_le _, Nat.zero_le _⟩ ?_
  have hf : some u = some res := hf
  exact tw_endi (Wf := twT cI cZ q) hE hf dL_command_6 rfl
theorem hd_L_step : yL_step.cls ≠ "java/lang/invoke/MethodHandle" ∧ yL_step.cls ≠ "java/lang/invoke/VarHandle" ∧ (parseMethodDescriptor yL_step.desc).map (fun d => d.parameters.length) = some 2 := by decide +kernel
abbrev rm_L_step : Room := { frames := 7, cells := 0, slots := 0, locals := 165 }
def f_L_step (st : twS) (v1 : Int32) : Option (Int32 × twS) :=
  (f_X7_step st v1).bind fun z => match z with
    | .inl _ => none
    | .inr u => some u
set_option maxRecDepth 20000 in
theorem c_L_step (l : Launch) (dC : Nat → ClassId) (dI : Nat → Nat → Nat) (cI cZ : ClassId) (q : Nat → Nat) {st : twS} {v1 : Int32} {res : Int32 × twS} (hf : f_L_step st v1 = some res) : twMi l yL_step wsL_step rm_L_step (dC, dI) (twY cI cZ) [.ref (q 0), .int v1] (twT cI cZ q st) res.1 (twT cI cZ q res.2) := by
  refine tw_entiW (cc := cL_step) (maxL := 3) (own := RL) (by decide) rfl (Nat.le_of_ble_eq_true rfl) rfl ?_
  intro p e s m below meth c A Q C hE
  generalize ([.ref (q 0), .int v1] : List Value).toArray = args at C hE ⊢
  refine tw_sub (lv' := [(0, .ref (q 0)), (1, .int v1)]) [0, 1] rfl ?_
  unfold f_L_step at hf
  obtain ⟨z, hz, hf⟩ := tw_bd hf
  refine tw_aload_n C dL_step_0 0 rfl rfl ?_
  refine tw_iload_n C dL_step_1 1 rfl rfl ?_
  rcases z with x | u
  · have hf : (none : Option (Int32 × twS)) = some res := hf
    cases hf
  refine tw_cVi (As := [.int v1]) (stk := []) C (c_X7_step l dC dI cI cZ q hz) (cwV 1 C.hts gL_step_X7_step rfl rfl rfl hd_X7_step ⟨Nat.le_of_ble_eq_true rfl, Nat.le_of_ble_eq_true rfl⟩) 0 (ci := 7) rfl rfl rfl rfl rfl (Nat.le_of_ble_eq_true rfl) dL_step_2 ⟨Nat.zero_le _, Nat.zero_le _⟩ ?_
  have hf : some u = some res := hf
  exact tw_endi (Wf := twT cI cZ q) hE hf dL_step_5 rfl
theorem hd_L_segment : yL_segment.cls ≠ "java/lang/invoke/MethodHandle" ∧ yL_segment.cls ≠ "java/lang/invoke/VarHandle" ∧ (parseMethodDescriptor yL_segment.desc).map (fun d => d.parameters.length) = some 3 := by decide +kernel
abbrev rm_L_segment : Room := { frames := 4, cells := 0, slots := 0, locals := 86 }
def f_L_segment (st : twS) (v1 : Int32) (v2 : Int32) : Option (Int32 × twS) :=
  (f_X7_segment st v1 v2).bind fun z => match z with
    | .inl _ => none
    | .inr u => some u
set_option maxRecDepth 20000 in
theorem c_L_segment (l : Launch) (dC : Nat → ClassId) (dI : Nat → Nat → Nat) (cI cZ : ClassId) (q : Nat → Nat) {st : twS} {v1 : Int32} {v2 : Int32} {res : Int32 × twS} (hf : f_L_segment st v1 v2 = some res) : twMi l yL_segment wsL_segment rm_L_segment (dC, dI) (twY cI cZ) [.ref (q 0), .int v1, .int v2] (twT cI cZ q st) res.1 (twT cI cZ q res.2) := by
  refine tw_entiW (cc := cL_segment) (maxL := 4) (own := RL) (by decide) rfl (Nat.le_of_ble_eq_true rfl) rfl ?_
  intro p e s m below meth c A Q C hE
  generalize ([.ref (q 0), .int v1, .int v2] : List Value).toArray = args at C hE ⊢
  refine tw_sub (lv' := [(0, .ref (q 0)), (1, .int v1), (2, .int v2)]) [0, 1, 2] rfl ?_
  unfold f_L_segment at hf
  obtain ⟨z, hz, hf⟩ := tw_bd hf
  refine tw_aload_n C dL_segment_0 0 rfl rfl ?_
  refine tw_iload_n C dL_segment_1 1 rfl rfl ?_
  refine tw_iload_n C dL_segment_2 2 rfl rfl ?_
  rcases z with x | u
  · have hf : (none : Option (Int32 × twS)) = some res := hf
    cases hf
  refine tw_cVi (As := [.int v1, .int v2]) (stk := []) C (c_X7_segment l dC dI cI cZ q hz) (cwV 2 C.hts gL_segment_X7_segment rfl rfl rfl hd_X7_segment ⟨Nat.le_of_ble_eq_true rfl, Nat.le_of_ble_eq_true rfl⟩) 0 (ci := 7) rfl rfl rfl rfl rfl (Nat.le_of_ble_eq_true rfl) dL_segment_3 ⟨Nat.zero_le _, Nat.zero_le _⟩ ?_
  have hf : some u = some res := hf
  exact tw_endi (Wf := twT cI cZ q) hE hf dL_segment_6 rfl
theorem hd_L_fan : yL_fan.cls ≠ "java/lang/invoke/MethodHandle" ∧ yL_fan.cls ≠ "java/lang/invoke/VarHandle" ∧ (parseMethodDescriptor yL_fan.desc).map (fun d => d.parameters.length) = some 2 := by decide +kernel
abbrev rm_L_fan : Room := { frames := 3, cells := 0, slots := 0, locals := 65 }
def f_L_fan (st : twS) (v1 : Int32) : Option (Int32 × twS) :=
  (f_X7_fan st v1).bind fun z => match z with
    | .inl _ => none
    | .inr u => some u
set_option maxRecDepth 20000 in
theorem c_L_fan (l : Launch) (dC : Nat → ClassId) (dI : Nat → Nat → Nat) (cI cZ : ClassId) (q : Nat → Nat) {st : twS} {v1 : Int32} {res : Int32 × twS} (hf : f_L_fan st v1 = some res) : twMi l yL_fan wsL_fan rm_L_fan (dC, dI) (twY cI cZ) [.ref (q 0), .int v1] (twT cI cZ q st) res.1 (twT cI cZ q res.2) := by
  refine tw_entiW (cc := cL_fan) (maxL := 3) (own := RL) (by decide) rfl (Nat.le_of_ble_eq_true rfl) rfl ?_
  intro p e s m below meth c A Q C hE
  generalize ([.ref (q 0), .int v1] : List Value).toArray = args at C hE ⊢
  refine tw_sub (lv' := [(0, .ref (q 0)), (1, .int v1)]) [0, 1] rfl ?_
  unfold f_L_fan at hf
  obtain ⟨z, hz, hf⟩ := tw_bd hf
  refine tw_aload_n C dL_fan_0 0 rfl rfl ?_
  refine tw_iload_n C dL_fan_1 1 rfl rfl ?_
  rcases z with x | u
  · have hf : (none : Option (Int32 × twS)) = some res := hf
    cases hf
  refine tw_cVi (As := [.int v1]) (stk := []) C (c_X7_fan l dC dI cI cZ q hz) (cwV 1 C.hts gL_fan_X7_fan rfl rfl rfl hd_X7_fan ⟨Nat.le_of_ble_eq_true rfl, Nat.le_of_ble_eq_true rfl⟩) 0 (ci := 7) rfl rfl rfl rfl rfl (Nat.le_of_ble_eq_true rfl) dL_fan_2 ⟨Nat.zero_le _, Nat.zero_le _⟩ ?_
  have hf : some u = some res := hf
  exact tw_endi (Wf := twT cI cZ q) hE hf dL_fan_5 rfl
theorem hd_L_done : yL_done.cls ≠ "java/lang/invoke/MethodHandle" ∧ yL_done.cls ≠ "java/lang/invoke/VarHandle" ∧ (parseMethodDescriptor yL_done.desc).map (fun d => d.parameters.length) = some 2 := by decide +kernel
abbrev rm_L_done : Room := { frames := 3, cells := 0, slots := 0, locals := 65 }
def f_L_done (st : twS) (v1 : Int32) : Option (Int32 × twS) :=
  (f_X7_done st v1).bind fun z => match z with
    | .inl _ => none
    | .inr u => some u
set_option maxRecDepth 20000 in
theorem c_L_done (l : Launch) (dC : Nat → ClassId) (dI : Nat → Nat → Nat) (cI cZ : ClassId) (q : Nat → Nat) {st : twS} {v1 : Int32} {res : Int32 × twS} (hf : f_L_done st v1 = some res) : twMi l yL_done wsL_done rm_L_done (dC, dI) (twY cI cZ) [.ref (q 0), .int v1] (twT cI cZ q st) res.1 (twT cI cZ q res.2) := by
  refine tw_entiW (cc := cL_done) (maxL := 3) (own := RL) (by decide) rfl (Nat.le_of_ble_eq_true rfl) rfl ?_
  intro p e s m below meth c A Q C hE
  generalize ([.ref (q 0), .int v1] : List Value).toArray = args at C hE ⊢
  refine tw_sub (lv' := [(0, .ref (q 0)), (1, .int v1)]) [0, 1] rfl ?_
  unfold f_L_done at hf
  obtain ⟨z, hz, hf⟩ := tw_bd hf
  refine tw_aload_n C dL_done_0 0 rfl rfl ?_
  refine tw_iload_n C dL_done_1 1 rfl rfl ?_
  rcases z with x | u
  · have hf : (none : Option (Int32 × twS)) = some res := hf
    cases hf
  refine tw_cVi (As := [.int v1]) (stk := []) C (c_X7_done l dC dI cI cZ q hz) (cwV 1 C.hts gL_done_X7_done rfl rfl rfl hd_X7_done ⟨Nat.le_of_ble_eq_true rfl, Nat.le_of_ble_eq_true rfl⟩) 0 (ci := 7) rfl rfl rfl rfl rfl (Nat.le_of_ble_eq_true rfl) dL_done_2 ⟨Nat.zero_le _, Nat.zero_le _⟩ ?_
  have hf : some u = some res := hf
  exact tw_endi (Wf := twT cI cZ q) hE hf dL_done_5 rfl
theorem hd_L_person : yL_person.cls ≠ "java/lang/invoke/MethodHandle" ∧ yL_person.cls ≠ "java/lang/invoke/VarHandle" ∧ (parseMethodDescriptor yL_person.desc).map (fun d => d.parameters.length) = some 3 := by decide +kernel
abbrev rm_L_person : Room := { frames := 3, cells := 0, slots := 0, locals := 67 }
def f_L_person (st : twS) (v1 : Int32) (v2 : Int32) : Option (Int32 × twS) :=
  (f_X7_person st v1 v2).bind fun z => match z with
    | .inl _ => none
    | .inr u => some u
set_option maxRecDepth 20000 in
theorem c_L_person (l : Launch) (dC : Nat → ClassId) (dI : Nat → Nat → Nat) (cI cZ : ClassId) (q : Nat → Nat) {st : twS} {v1 : Int32} {v2 : Int32} {res : Int32 × twS} (hf : f_L_person st v1 v2 = some res) : twMi l yL_person wsL_person rm_L_person (dC, dI) (twY cI cZ) [.ref (q 0), .int v1, .int v2] (twT cI cZ q st) res.1 (twT cI cZ q res.2) := by
  refine tw_entiW (cc := cL_person) (maxL := 4) (own := RL) (by decide) rfl (Nat.le_of_ble_eq_true rfl) rfl ?_
  intro p e s m below meth c A Q C hE
  generalize ([.ref (q 0), .int v1, .int v2] : List Value).toArray = args at C hE ⊢
  refine tw_sub (lv' := [(0, .ref (q 0)), (1, .int v1), (2, .int v2)]) [0, 1, 2] rfl ?_
  unfold f_L_person at hf
  obtain ⟨z, hz, hf⟩ := tw_bd hf
  refine tw_aload_n C dL_person_0 0 rfl rfl ?_
  refine tw_iload_n C dL_person_1 1 rfl rfl ?_
  refine tw_iload_n C dL_person_2 2 rfl rfl ?_
  rcases z with x | u
  · have hf : (none : Option (Int32 × twS)) = some res := hf
    cases hf
  refine tw_cVi (As := [.int v1, .int v2]) (stk := []) C (c_X7_person l dC dI cI cZ q hz) (cwV 2 C.hts gL_person_X7_person rfl rfl rfl hd_X7_person ⟨Nat.le_of_ble_eq_true rfl, Nat.le_of_ble_eq_true rfl⟩) 0 (ci := 7) rfl rfl rfl rfl rfl (Nat.le_of_ble_eq_true rfl) dL_person_3 ⟨Nat.zero_le _, Nat.zero_le _⟩ ?_
  have hf : some u = some res := hf
  exact tw_endi (Wf := twT cI cZ q) hE hf dL_person_6 rfl
theorem hd_L_count : yL_count.cls ≠ "java/lang/invoke/MethodHandle" ∧ yL_count.cls ≠ "java/lang/invoke/VarHandle" ∧ (parseMethodDescriptor yL_count.desc).map (fun d => d.parameters.length) = some 2 := by decide +kernel
abbrev rm_L_count : Room := { frames := 3, cells := 0, slots := 0, locals := 66 }
def f_L_count (st : twS) (v1 : Int32) : Option (Int32 × twS) :=
  (f_X7_count st v1).bind fun z => match z with
    | .inl _ => none
    | .inr u => some u
set_option maxRecDepth 20000 in
theorem c_L_count (l : Launch) (dC : Nat → ClassId) (dI : Nat → Nat → Nat) (cI cZ : ClassId) (q : Nat → Nat) {st : twS} {v1 : Int32} {res : Int32 × twS} (hf : f_L_count st v1 = some res) : twMi l yL_count wsL_count rm_L_count (dC, dI) (twY cI cZ) [.ref (q 0), .int v1] (twT cI cZ q st) res.1 (twT cI cZ q res.2) := by
  refine tw_entiW (cc := cL_count) (maxL := 3) (own := RL) (by decide) rfl (Nat.le_of_ble_eq_true rfl) rfl ?_
  intro p e s m below meth c A Q C hE
  generalize ([.ref (q 0), .int v1] : List Value).toArray = args at C hE ⊢
  refine tw_sub (lv' := [(0, .ref (q 0)), (1, .int v1)]) [0, 1] rfl ?_
  unfold f_L_count at hf
  obtain ⟨z, hz, hf⟩ := tw_bd hf
  refine tw_aload_n C dL_count_0 0 rfl rfl ?_
  refine tw_iload_n C dL_count_1 1 rfl rfl ?_
  rcases z with x | u
  · have hf : (none : Option (Int32 × twS)) = some res := hf
    cases hf
  refine tw_cVi (As := [.int v1]) (stk := []) C (c_X7_count l dC dI cI cZ q hz) (cwV 1 C.hts gL_count_X7_count rfl rfl rfl hd_X7_count ⟨Nat.le_of_ble_eq_true rfl, Nat.le_of_ble_eq_true rfl⟩) 0 (ci := 7) rfl rfl rfl rfl rfl (Nat.le_of_ble_eq_true rfl) dL_count_2 ⟨Nat.zero_le _, Nat.zero_le _⟩ ?_
  have hf : some u = some res := hf
  exact tw_endi (Wf := twT cI cZ q) hE hf dL_count_5 rfl
theorem hd_L_drawn : yL_drawn.cls ≠ "java/lang/invoke/MethodHandle" ∧ yL_drawn.cls ≠ "java/lang/invoke/VarHandle" ∧ (parseMethodDescriptor yL_drawn.desc).map (fun d => d.parameters.length) = some 2 := by decide +kernel
abbrev rm_L_drawn : Room := { frames := 0, cells := 0, slots := 0, locals := 0 }
def f_L_drawn (L : Nat) (xs : Nat → Int32) (k : Int32) : Option Int32 :=
  (if nI L ≤ k then some ((39119 * (k - k / 7919 * 7919) + 5077) &&& 2147483647) else (if twb k L = true then some (xs k.toNatClampNeg &&& 2147483647) else none))
set_option maxRecDepth 20000 in
theorem c_L_drawn (l : Launch) (dC : Nat → ClassId) (dI : Nat → Nat → Nat) (cI cZ : ClassId) {b L : Nat} {xs : Nat → Int32} {k r : Int32} (hf : f_L_drawn L xs k = some r) : twMr l yL_drawn wsL_drawn rm_L_drawn (dC, dI) (twY cI cZ) b L xs [.ref b, .int k] r := by
  refine tw_entr (cc := cL_drawn) (maxL := 2) (own := RL) (by decide) rfl (Nat.le_of_ble_eq_true rfl) rfl ?_
  intro p e s m below meth c A Q C hX hbl hbA hE
  generalize ([.ref b, .int k] : List Value).toArray = args at C hE ⊢
  refine tw_sub (lv' := [(0, .ref b), (1, .int k)]) [0, 1] rfl ?_
  unfold f_L_drawn at hf
  refine tw_iload_n C dL_drawn_0 1 rfl rfl ?_
  refine tw_aload_n C dL_drawn_1 0 rfl rfl ?_
  refine tw_slen C hX hbl hbA dL_drawn_2 ?_
  refine tw_icmp_ge (tgt := 12) C dL_drawn_3 (by decide) (fun c1 => ?_) (fun c1 => ?_)
  · have hf := tw_pos hf c1
    refine tw_ldci (v := 39119) C (List.mem_cons_of_mem _ (List.mem_of_getElem? (i := 0) rfl)) dL_drawn_12 ?_
    refine tw_iload_n C dL_drawn_14 1 rfl rfl ?_
    refine tw_sipush (v := 7919) C dL_drawn_15 (by decide) ?_
    refine tw_irem C dL_drawn_18 (by decide) ?_
    refine tw_imul C dL_drawn_19 ?_
    refine tw_sipush (v := 5077) C dL_drawn_20 (by decide) ?_
    refine tw_iadd C dL_drawn_23 ?_
    refine tw_ldci (v := 2147483647) C (List.mem_cons_of_mem _ (List.mem_of_getElem? (i := 1) rfl)) dL_drawn_24 ?_
    refine tw_iand C dL_drawn_26 ?_
    cases hf
    exact hE _ _ dL_drawn_27 rfl
  · have hf := tw_neg hf c1
    refine tw_aload_n C dL_drawn_6 0 rfl rfl ?_
    refine tw_iload_n C dL_drawn_7 1 rfl rfl ?_
    obtain ⟨hb2, hf⟩ := tw_ck hf
    refine tw_sld C hX hbl hbA hb2 dL_drawn_8 ?_
    refine tw_goto (tgt := 24) C dL_drawn_9 (by decide) ?_
    refine tw_ldci (v := 2147483647) C (List.mem_cons_of_mem _ (List.mem_of_getElem? (i := 1) rfl)) dL_drawn_24 ?_
    refine tw_iand C dL_drawn_26 ?_
    cases hf
    exact hE _ _ dL_drawn_27 rfl
