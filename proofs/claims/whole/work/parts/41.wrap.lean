theorem hd_L_build : yL_build.cls ≠ "java/lang/invoke/MethodHandle" ∧ yL_build.cls ≠ "java/lang/invoke/VarHandle" ∧ (parseMethodDescriptor yL_build.desc).map (fun d => d.parameters.length) = some 3 := by decide +kernel
abbrev rmw_L_build : Room := { frames := 9, cells := 1, slots := 6, locals := 145 }
def g_L_build (st : twS) (w : Nat → Int64) (v1 : Int32) (v2 : Int32) : Option (Int32 × (twS × (Nat → Int64))) :=
  (f_X7_build st v1 v2).bind fun z => match z with
    | .inl x => if x.1 = twX1 then some (1, (x.2, w)) else if x.1 = twX2 then some (2, (x.2, w)) else if x.1 = twX3 then some (3, (x.2, w)) else none
    | .inr u => some (0, (u, w))
set_option maxRecDepth 20000 in
theorem w_L_build (l : Launch) (hl0 : l.stackTraces = false) (dC : Nat → ClassId) (dI : Nat → Nat → Nat) (cI cZ cJ : ClassId) (q : Nat → Nat) (o : Nat) {st : twS} {w : Nat → Int64} {v1 : Int32} {v2 : Int32} {res : Int32 × (twS × (Nat → Int64))} (hf : g_L_build st w v1 v2 = some res) : twMw l yL_build wsL_build rmw_L_build (dC, dI) (twY3 cI cZ cJ) [.ref (q 0), .int v1, .int v2] (twTO cI cZ cJ q o st w) res.1 (twTO cI cZ cJ q o res.2.1 res.2.2) := by
  refine tw_entw (cc := cL_build) (maxL := 4) (own := RL) (by decide) rfl (Nat.le_of_ble_eq_true rfl) rfl ?_
  intro p e s m below meth c A Q C X0 hNc hT hE
  generalize ([.ref (q 0), .int v1, .int v2] : List Value).toArray = args at C hE ⊢
  refine tw_sub (lv' := [(0, .ref (q 0)), (1, .int v1), (2, .int v2)]) [0, 1, 2] rfl ?_
  unfold g_L_build at hf
  obtain ⟨z, hz, hf⟩ := tw_bd hf
  refine tw_aload_n C dL_build_0 0 rfl rfl ?_
  refine tw_iload_n C dL_build_1 1 rfl rfl ?_
  refine tw_iload_n C dL_build_2 2 rfl rfl ?_
  rcases z with x | u
  · have hf : (if x.1 = twX1 then some (1, (x.2, w)) else if x.1 = twX2 then some (2, (x.2, w)) else if x.1 = twX3 then some (3, (x.2, w)) else  none) = some res := hf
    by_cases e1 : x.1 = twX1
    · have hf := tw_pos hf e1
      obtain ⟨E, s1⟩ := x
      have e1 : E = twX1 := e1
      subst e1
      refine tw_fX (As := [.int v1, .int v2]) (stk := []) (ws' := twTO cI cZ cJ q o s1 w) (Wr := [(o, .inl (cJ, 1, .inr (.inl w)))]) C X0 (isC := List.range 26) (isR := [26]) (ix := [1, 2, 3, 4, 5, 6, 7, 8, 9, 10, 11, 12, 13, 14, 15, 16, 17, 18, 19, 20, 21, 22, 23, 24, 25, 26, 0]) (ki := [0, 1]) ⟨rfl, rfl, rfl, rfl, by decide, rfl, rfl⟩ rfl (x_X7_build l hl0 dC dI cI cZ q hz) (cwV 2 C.hts gL_build_X7_build rfl rfl rfl hd_X7_build ⟨Nat.le_of_ble_eq_true rfl, Nat.le_of_ble_eq_true rfl⟩) 0 (ci := 7) rfl rfl rfl rfl rfl (Nat.le_of_ble_eq_true rfl) dL_build_3 ⟨Nat.le_of_ble_eq_true rfl, Nat.le_of_ble_eq_true rfl⟩ [] (⟨0, 6, 9, 13⟩ : ExceptionTableEntry) [(⟨0, 6, 12, 15⟩ : ExceptionTableEntry), (⟨0, 6, 15, 17⟩ : ExceptionTableEntry)] (hT.trans rfl) (fun z h => nomatch h) (by decide) (by decide) (List.mem_cons_of_mem _ (List.mem_append_left _ (List.mem_append_left _ (List.mem_append_left _ (List.mem_append_left _ (List.mem_append_left _ (List.mem_append_left _ (List.mem_of_getElem? (i := 0) rfl)))))))) X0.2.2.2.2.2.2.1 (fun q9 => ?_)
      refine tw_astore_n (lv' := [(3, .ref q9), (0, .ref (q 0)), (1, .int v1), (2, .int v2)]) C dL_build_9 rfl (by decide) rfl ?_
      refine tw_iconst (v := 1) C dL_build_10 (by decide) ?_
      exact tw_endi (Wf := fun (u : twS × (Nat → Int64)) => twTO cI cZ cJ q o u.1 u.2) hE hf dL_build_11 rfl
    have hf := tw_neg hf e1
    by_cases e2 : x.1 = twX2
    · have hf := tw_pos hf e2
      obtain ⟨E, s1⟩ := x
      have e2 : E = twX2 := e2
      subst e2
      refine tw_fX (As := [.int v1, .int v2]) (stk := []) (ws' := twTO cI cZ cJ q o s1 w) (Wr := [(o, .inl (cJ, 1, .inr (.inl w)))]) C X0 (isC := List.range 26) (isR := [26]) (ix := [1, 2, 3, 4, 5, 6, 7, 8, 9, 10, 11, 12, 13, 14, 15, 16, 17, 18, 19, 20, 21, 22, 23, 24, 25, 26, 0]) (ki := [0, 1]) ⟨rfl, rfl, rfl, rfl, by decide, rfl, rfl⟩ rfl (x_X7_build l hl0 dC dI cI cZ q hz) (cwV 2 C.hts gL_build_X7_build rfl rfl rfl hd_X7_build ⟨Nat.le_of_ble_eq_true rfl, Nat.le_of_ble_eq_true rfl⟩) 0 (ci := 7) rfl rfl rfl rfl rfl (Nat.le_of_ble_eq_true rfl) dL_build_3 ⟨Nat.le_of_ble_eq_true rfl, Nat.le_of_ble_eq_true rfl⟩ [(⟨0, 6, 9, 13⟩ : ExceptionTableEntry)] (⟨0, 6, 12, 15⟩ : ExceptionTableEntry) [(⟨0, 6, 15, 17⟩ : ExceptionTableEntry)] (hT.trans rfl) (List.forall_mem_cons.mpr ⟨tw_pass1 (nm := twX1) (by decide) (C.hts _ (List.mem_cons_of_mem _ (List.mem_append_left _ (List.mem_append_left _ (List.mem_append_left _ (List.mem_append_left _ (List.mem_append_left _ (List.mem_append_left _ (List.mem_of_getElem? (i := 0) rfl))))))))) hNc.1, fun z h => nomatch h⟩) (by decide) (by decide) (List.mem_cons_of_mem _ (List.mem_append_left _ (List.mem_append_left _ (List.mem_append_left _ (List.mem_append_left _ (List.mem_append_left _ (List.mem_append_left _ (List.mem_of_getElem? (i := 1) rfl)))))))) X0.2.2.2.2.2.2.2.1 (fun q9 => ?_)
      refine tw_astore_n (lv' := [(3, .ref q9), (0, .ref (q 0)), (1, .int v1), (2, .int v2)]) C dL_build_12 rfl (by decide) rfl ?_
      refine tw_iconst (v := 2) C dL_build_13 (by decide) ?_
      exact tw_endi (Wf := fun (u : twS × (Nat → Int64)) => twTO cI cZ cJ q o u.1 u.2) hE hf dL_build_14 rfl
    have hf := tw_neg hf e2
    by_cases e3 : x.1 = twX3
    · have hf := tw_pos hf e3
      obtain ⟨E, s1⟩ := x
      have e3 : E = twX3 := e3
      subst e3
      refine tw_fX (As := [.int v1, .int v2]) (stk := []) (ws' := twTO cI cZ cJ q o s1 w) (Wr := [(o, .inl (cJ, 1, .inr (.inl w)))]) C X0 (isC := List.range 26) (isR := [26]) (ix := [1, 2, 3, 4, 5, 6, 7, 8, 9, 10, 11, 12, 13, 14, 15, 16, 17, 18, 19, 20, 21, 22, 23, 24, 25, 26, 0]) (ki := [0, 1]) ⟨rfl, rfl, rfl, rfl, by decide, rfl, rfl⟩ rfl (x_X7_build l hl0 dC dI cI cZ q hz) (cwV 2 C.hts gL_build_X7_build rfl rfl rfl hd_X7_build ⟨Nat.le_of_ble_eq_true rfl, Nat.le_of_ble_eq_true rfl⟩) 0 (ci := 7) rfl rfl rfl rfl rfl (Nat.le_of_ble_eq_true rfl) dL_build_3 ⟨Nat.le_of_ble_eq_true rfl, Nat.le_of_ble_eq_true rfl⟩ [(⟨0, 6, 9, 13⟩ : ExceptionTableEntry), (⟨0, 6, 12, 15⟩ : ExceptionTableEntry)] (⟨0, 6, 15, 17⟩ : ExceptionTableEntry) [] (hT.trans rfl) (List.forall_mem_cons.mpr ⟨tw_pass1 (nm := twX1) (by decide) (C.hts _ (List.mem_cons_of_mem _ (List.mem_append_left _ (List.mem_append_left _ (List.mem_append_left _ (List.mem_append_left _ (List.mem_append_left _ (List.mem_append_left _ (List.mem_of_getElem? (i := 0) rfl))))))))) hNc.2.1, List.forall_mem_cons.mpr ⟨tw_pass1 (nm := twX2) (by decide) (C.hts _ (List.mem_cons_of_mem _ (List.mem_append_left _ (List.mem_append_left _ (List.mem_append_left _ (List.mem_append_left _ (List.mem_append_left _ (List.mem_append_left _ (List.mem_of_getElem? (i := 1) rfl))))))))) hNc.2.2, fun z h => nomatch h⟩⟩) (by decide) (by decide) (List.mem_cons_of_mem _ (List.mem_append_left _ (List.mem_append_left _ (List.mem_append_left _ (List.mem_append_left _ (List.mem_append_left _ (List.mem_append_left _ (List.mem_of_getElem? (i := 2) rfl)))))))) X0.2.2.2.2.2.2.2.2.1 (fun q9 => ?_)
      refine tw_astore_n (lv' := [(3, .ref q9), (0, .ref (q 0)), (1, .int v1), (2, .int v2)]) C dL_build_15 rfl (by decide) rfl ?_
      refine tw_iconst (v := 3) C dL_build_16 (by decide) ?_
      exact tw_endi (Wf := fun (u : twS × (Nat → Int64)) => twTO cI cZ cJ q o u.1 u.2) hE hf dL_build_17 rfl
    have hf := tw_neg hf e3
    cases hf
  refine tw_fVv (As := [.int v1, .int v2]) (stk := []) (ws' := twTO cI cZ cJ q o u w) (Wr := [(o, .inl (cJ, 1, .inr (.inl w)))]) C (isC := List.range 26) (isR := [26]) (ix := [1, 2, 3, 4, 5, 6, 7, 8, 9, 10, 11, 12, 13, 14, 15, 16, 17, 18, 19, 20, 21, 22, 23, 24, 25, 26, 0]) (ki := [0, 1]) ⟨rfl, rfl, rfl, rfl, by decide, rfl, rfl⟩ rfl (c_X7_build l dC dI cI cZ q hz) (cwV 2 C.hts gL_build_X7_build rfl rfl rfl hd_X7_build ⟨Nat.le_of_ble_eq_true rfl, Nat.le_of_ble_eq_true rfl⟩) 0 (ci := 7) rfl rfl rfl rfl rfl (Nat.le_of_ble_eq_true rfl) dL_build_3 ⟨Nat.zero_le _, Nat.zero_le _⟩ ?_
  refine tw_goto (tgt := 18) C dL_build_6 (by decide) ?_
  refine tw_iconst (v := 0) C dL_build_18 (by decide) ?_
  refine tw_widen (Nat.zero_le 1) (Nat.zero_le 6) ?_
  exact tw_endi (Wf := fun (u : twS × (Nat → Int64)) => twTO cI cZ cJ q o u.1 u.2) hE hf dL_build_19 rfl
theorem hd_L_people : yL_people.cls ≠ "java/lang/invoke/MethodHandle" ∧ yL_people.cls ≠ "java/lang/invoke/VarHandle" ∧ (parseMethodDescriptor yL_people.desc).map (fun d => d.parameters.length) = some 4 := by decide +kernel
abbrev rmw_L_people : Room := { frames := 9, cells := 1, slots := 6, locals := 145 }
def g_L_people (st : twS) (w : Nat → Int64) (v1 : Int32) (v2 : Int32) : Option (Int32 × (twS × (Nat → Int64))) :=
  (f_X7_people st v1 v2).bind fun z => match z with
    | .inl x => if x.1 = twX1 then some (1, (x.2, w)) else if x.1 = twX2 then some (2, (x.2, w)) else if x.1 = twX3 then some (3, (x.2, w)) else none
    | .inr u => some (0, (u.2, vp_updL w (0 : Int32).toNatClampNeg u.1.toInt64))
set_option maxRecDepth 20000 in
theorem w_L_people (l : Launch) (hl0 : l.stackTraces = false) (dC : Nat → ClassId) (dI : Nat → Nat → Nat) (cI cZ cJ : ClassId) (q : Nat → Nat) (o : Nat) {st : twS} {w : Nat → Int64} {v1 : Int32} {v2 : Int32} {res : Int32 × (twS × (Nat → Int64))} (hf : g_L_people st w v1 v2 = some res) : twMw l yL_people wsL_people rmw_L_people (dC, dI) (twY3 cI cZ cJ) [.ref (q 0), .int v1, .int v2, .ref o] (twTO cI cZ cJ q o st w) res.1 (twTO cI cZ cJ q o res.2.1 res.2.2) := by
  refine tw_entw (cc := cL_people) (maxL := 5) (own := RL) (by decide) rfl (Nat.le_of_ble_eq_true rfl) rfl ?_
  intro p e s m below meth c A Q C X0 hNc hT hE
  generalize ([.ref (q 0), .int v1, .int v2, .ref o] : List Value).toArray = args at C hE ⊢
  refine tw_sub (lv' := [(0, .ref (q 0)), (1, .int v1), (2, .int v2), (3, .ref o)]) [0, 1, 2, 3] rfl ?_
  unfold g_L_people at hf
  obtain ⟨z, hz, hf⟩ := tw_bd hf
  refine tw_aload_n C dL_people_0 3 rfl rfl ?_
  refine tw_iconst (v := 0) C dL_people_1 (by decide) ?_
  refine tw_aload_n C dL_people_2 0 rfl rfl ?_
  refine tw_iload_n C dL_people_3 1 rfl rfl ?_
  refine tw_iload_n C dL_people_4 2 rfl rfl ?_
  rcases z with x | u
  · have hf : (if x.1 = twX1 then some (1, (x.2, w)) else if x.1 = twX2 then some (2, (x.2, w)) else if x.1 = twX3 then some (3, (x.2, w)) else  none) = some res := hf
    by_cases e1 : x.1 = twX1
    · have hf := tw_pos hf e1
      obtain ⟨E, s1⟩ := x
      have e1 : E = twX1 := e1
      subst e1
      refine tw_fX (As := [.int v1, .int v2]) (stk := [.int 0, .ref o]) (ws' := twTO cI cZ cJ q o s1 w) (Wr := [(o, .inl (cJ, 1, .inr (.inl w)))]) C X0 (isC := List.range 26) (isR := [26]) (ix := [1, 2, 3, 4, 5, 6, 7, 8, 9, 10, 11, 12, 13, 14, 15, 16, 17, 18, 19, 20, 21, 22, 23, 24, 25, 26, 0]) (ki := [0, 1]) ⟨rfl, rfl, rfl, rfl, by decide, rfl, rfl⟩ rfl (x_X7_people l hl0 dC dI cI cZ q hz) (cwV 2 C.hts gL_people_X7_people rfl rfl rfl hd_X7_people ⟨Nat.le_of_ble_eq_true rfl, Nat.le_of_ble_eq_true rfl⟩) 0 (ci := 7) rfl rfl rfl rfl rfl (Nat.le_of_ble_eq_true rfl) dL_people_5 ⟨Nat.le_of_ble_eq_true rfl, Nat.le_of_ble_eq_true rfl⟩ [] (⟨0, 10, 13, 13⟩ : ExceptionTableEntry) [(⟨0, 10, 17, 15⟩ : ExceptionTableEntry), (⟨0, 10, 21, 17⟩ : ExceptionTableEntry)] (hT.trans rfl) (fun z h => nomatch h) (by decide) (by decide) (List.mem_cons_of_mem _ (List.mem_append_left _ (List.mem_append_left _ (List.mem_append_left _ (List.mem_append_left _ (List.mem_append_left _ (List.mem_append_left _ (List.mem_of_getElem? (i := 0) rfl)))))))) X0.2.2.2.2.2.2.1 (fun q9 => ?_)
      refine tw_astore (lv' := [(4, .ref q9), (0, .ref (q 0)), (1, .int v1), (2, .int v2), (3, .ref o)]) C dL_people_13 (by decide) rfl ?_
      refine tw_iconst (v := 1) C dL_people_15 (by decide) ?_
      exact tw_endi (Wf := fun (u : twS × (Nat → Int64)) => twTO cI cZ cJ q o u.1 u.2) hE hf dL_people_16 rfl
    have hf := tw_neg hf e1
    by_cases e2 : x.1 = twX2
    · have hf := tw_pos hf e2
      obtain ⟨E, s1⟩ := x
      have e2 : E = twX2 := e2
      subst e2
      refine tw_fX (As := [.int v1, .int v2]) (stk := [.int 0, .ref o]) (ws' := twTO cI cZ cJ q o s1 w) (Wr := [(o, .inl (cJ, 1, .inr (.inl w)))]) C X0 (isC := List.range 26) (isR := [26]) (ix := [1, 2, 3, 4, 5, 6, 7, 8, 9, 10, 11, 12, 13, 14, 15, 16, 17, 18, 19, 20, 21, 22, 23, 24, 25, 26, 0]) (ki := [0, 1]) ⟨rfl, rfl, rfl, rfl, by decide, rfl, rfl⟩ rfl (x_X7_people l hl0 dC dI cI cZ q hz) (cwV 2 C.hts gL_people_X7_people rfl rfl rfl hd_X7_people ⟨Nat.le_of_ble_eq_true rfl, Nat.le_of_ble_eq_true rfl⟩) 0 (ci := 7) rfl rfl rfl rfl rfl (Nat.le_of_ble_eq_true rfl) dL_people_5 ⟨Nat.le_of_ble_eq_true rfl, Nat.le_of_ble_eq_true rfl⟩ [(⟨0, 10, 13, 13⟩ : ExceptionTableEntry)] (⟨0, 10, 17, 15⟩ : ExceptionTableEntry) [(⟨0, 10, 21, 17⟩ : ExceptionTableEntry)] (hT.trans rfl) (List.forall_mem_cons.mpr ⟨tw_pass1 (nm := twX1) (by decide) (C.hts _ (List.mem_cons_of_mem _ (List.mem_append_left _ (List.mem_append_left _ (List.mem_append_left _ (List.mem_append_left _ (List.mem_append_left _ (List.mem_append_left _ (List.mem_of_getElem? (i := 0) rfl))))))))) hNc.1, fun z h => nomatch h⟩) (by decide) (by decide) (List.mem_cons_of_mem _ (List.mem_append_left _ (List.mem_append_left _ (List.mem_append_left _ (List.mem_append_left _ (List.mem_append_left _ (List.mem_append_left _ (List.mem_of_getElem? (i := 1) rfl)))))))) X0.2.2.2.2.2.2.2.1 (fun q9 => ?_)
      refine tw_astore (lv' := [(4, .ref q9), (0, .ref (q 0)), (1, .int v1), (2, .int v2), (3, .ref o)]) C dL_people_17 (by decide) rfl ?_
      refine tw_iconst (v := 2) C dL_people_19 (by decide) ?_
      exact tw_endi (Wf := fun (u : twS × (Nat → Int64)) => twTO cI cZ cJ q o u.1 u.2) hE hf dL_people_20 rfl
    have hf := tw_neg hf e2
    by_cases e3 : x.1 = twX3
    · have hf := tw_pos hf e3
      obtain ⟨E, s1⟩ := x
      have e3 : E = twX3 := e3
      subst e3
      refine tw_fX (As := [.int v1, .int v2]) (stk := [.int 0, .ref o]) (ws' := twTO cI cZ cJ q o s1 w) (Wr := [(o, .inl (cJ, 1, .inr (.inl w)))]) C X0 (isC := List.range 26) (isR := [26]) (ix := [1, 2, 3, 4, 5, 6, 7, 8, 9, 10, 11, 12, 13, 14, 15, 16, 17, 18, 19, 20, 21, 22, 23, 24, 25, 26, 0]) (ki := [0, 1]) ⟨rfl, rfl, rfl, rfl, by decide, rfl, rfl⟩ rfl (x_X7_people l hl0 dC dI cI cZ q hz) (cwV 2 C.hts gL_people_X7_people rfl rfl rfl hd_X7_people ⟨Nat.le_of_ble_eq_true rfl, Nat.le_of_ble_eq_true rfl⟩) 0 (ci := 7) rfl rfl rfl rfl rfl (Nat.le_of_ble_eq_true rfl) dL_people_5 ⟨Nat.le_of_ble_eq_true rfl, Nat.le_of_ble_eq_true rfl⟩ [(⟨0, 10, 13, 13⟩ : ExceptionTableEntry), (⟨0, 10, 17, 15⟩ : ExceptionTableEntry)] (⟨0, 10, 21, 17⟩ : ExceptionTableEntry) [] (hT.trans rfl) (List.forall_mem_cons.mpr ⟨tw_pass1 (nm := twX1) (by decide) (C.hts _ (List.mem_cons_of_mem _ (List.mem_append_left _ (List.mem_append_left _ (List.mem_append_left _ (List.mem_append_left _ (List.mem_append_left _ (List.mem_append_left _ (List.mem_of_getElem? (i := 0) rfl))))))))) hNc.2.1, List.forall_mem_cons.mpr ⟨tw_pass1 (nm := twX2) (by decide) (C.hts _ (List.mem_cons_of_mem _ (List.mem_append_left _ (List.mem_append_left _ (List.mem_append_left _ (List.mem_append_left _ (List.mem_append_left _ (List.mem_append_left _ (List.mem_of_getElem? (i := 1) rfl))))))))) hNc.2.2, fun z h => nomatch h⟩⟩) (by decide) (by decide) (List.mem_cons_of_mem _ (List.mem_append_left _ (List.mem_append_left _ (List.mem_append_left _ (List.mem_append_left _ (List.mem_append_left _ (List.mem_append_left _ (List.mem_of_getElem? (i := 2) rfl)))))))) X0.2.2.2.2.2.2.2.2.1 (fun q9 => ?_)
      refine tw_astore (lv' := [(4, .ref q9), (0, .ref (q 0)), (1, .int v1), (2, .int v2), (3, .ref o)]) C dL_people_21 (by decide) rfl ?_
      refine tw_iconst (v := 3) C dL_people_23 (by decide) ?_
      exact tw_endi (Wf := fun (u : twS × (Nat → Int64)) => twTO cI cZ cJ q o u.1 u.2) hE hf dL_people_24 rfl
    have hf := tw_neg hf e3
    cases hf
  refine tw_fVi (As := [.int v1, .int v2]) (stk := [.int 0, .ref o]) (ws' := twTO cI cZ cJ q o u.2 w) (Wr := [(o, .inl (cJ, 1, .inr (.inl w)))]) C (isC := List.range 26) (isR := [26]) (ix := [1, 2, 3, 4, 5, 6, 7, 8, 9, 10, 11, 12, 13, 14, 15, 16, 17, 18, 19, 20, 21, 22, 23, 24, 25, 26, 0]) (ki := [0, 1]) ⟨rfl, rfl, rfl, rfl, by decide, rfl, rfl⟩ rfl (c_X7_people l dC dI cI cZ q hz) (cwV 2 C.hts gL_people_X7_people rfl rfl rfl hd_X7_people ⟨Nat.le_of_ble_eq_true rfl, Nat.le_of_ble_eq_true rfl⟩) 0 (ci := 7) rfl rfl rfl rfl rfl (Nat.le_of_ble_eq_true rfl) dL_people_5 ⟨Nat.zero_le _, Nat.zero_le _⟩ ?_
  refine tw_i2l C dL_people_8 ?_
  refine tw_last C 26 2 (tw_in (i := 0) (n := 1) (by decide)) rfl rfl (twTO_a cI cZ cJ q o _ _ _ _) dL_people_9 ?_
  refine tw_goto (tgt := 25) C dL_people_10 (by decide) ?_
  refine tw_iconst (v := 0) C dL_people_25 (by decide) ?_
  refine tw_widen (Nat.zero_le 1) (Nat.zero_le 6) ?_
  exact tw_endi (Wf := fun (u : twS × (Nat → Int64)) => twTO cI cZ cJ q o u.1 u.2) hE hf dL_people_26 rfl
theorem hd_L_wind : yL_wind.cls ≠ "java/lang/invoke/MethodHandle" ∧ yL_wind.cls ≠ "java/lang/invoke/VarHandle" ∧ (parseMethodDescriptor yL_wind.desc).map (fun d => d.parameters.length) = some 3 := by decide +kernel
abbrev rmw_L_wind : Room := { frames := 8, cells := 1, slots := 6, locals := 125 }
def g_L_wind (st : twS) (w : Nat → Int64) (v1 : Int32) : Option (Int32 × (twS × (Nat → Int64))) :=
  (f_X7_wind st v1).bind fun z => match z with
    | .inl x => if x.1 = twX2 then some (1, (x.2, w)) else none
    | .inr u => some (0, (u.2, vp_updL w (0 : Int32).toNatClampNeg u.1.toInt64))
set_option maxRecDepth 20000 in
theorem w_L_wind (l : Launch) (hl0 : l.stackTraces = false) (dC : Nat → ClassId) (dI : Nat → Nat → Nat) (cI cZ cJ : ClassId) (q : Nat → Nat) (o : Nat) {st : twS} {w : Nat → Int64} {v1 : Int32} {res : Int32 × (twS × (Nat → Int64))} (hf : g_L_wind st w v1 = some res) : twMw l yL_wind wsL_wind rmw_L_wind (dC, dI) (twY3 cI cZ cJ) [.ref (q 0), .int v1, .ref o] (twTO cI cZ cJ q o st w) res.1 (twTO cI cZ cJ q o res.2.1 res.2.2) := by
  refine tw_entw (cc := cL_wind) (maxL := 4) (own := RL) (by decide) rfl (Nat.le_of_ble_eq_true rfl) rfl ?_
  intro p e s m below meth c A Q C X0 hNc hT hE
  generalize ([.ref (q 0), .int v1, .ref o] : List Value).toArray = args at C hE ⊢
  refine tw_sub (lv' := [(0, .ref (q 0)), (1, .int v1), (2, .ref o)]) [0, 1, 2] rfl ?_
  unfold g_L_wind at hf
  obtain ⟨z, hz, hf⟩ := tw_bd hf
  refine tw_aload_n C dL_wind_0 2 rfl rfl ?_
  refine tw_iconst (v := 0) C dL_wind_1 (by decide) ?_
  refine tw_aload_n C dL_wind_2 0 rfl rfl ?_
  refine tw_iload_n C dL_wind_3 1 rfl rfl ?_
  rcases z with x | u
  · have hf : (if x.1 = twX2 then some (1, (x.2, w)) else  none) = some res := hf
    by_cases e2 : x.1 = twX2
    · have hf := tw_pos hf e2
      obtain ⟨E, s1⟩ := x
      have e2 : E = twX2 := e2
      subst e2
      refine tw_fX (As := [.int v1]) (stk := [.int 0, .ref o]) (ws' := twTO cI cZ cJ q o s1 w) (Wr := [(o, .inl (cJ, 1, .inr (.inl w)))]) C X0 (isC := List.range 26) (isR := [26]) (ix := [1, 2, 3, 4, 5, 6, 7, 8, 9, 10, 11, 12, 13, 14, 15, 16, 17, 18, 19, 20, 21, 22, 23, 24, 25, 26, 0]) (ki := [0, 1]) ⟨rfl, rfl, rfl, rfl, by decide, rfl, rfl⟩ rfl (x_X7_wind l hl0 dC dI cI cZ q hz) (cwV 1 C.hts gL_wind_X7_wind rfl rfl rfl hd_X7_wind ⟨Nat.le_of_ble_eq_true rfl, Nat.le_of_ble_eq_true rfl⟩) 0 (ci := 7) rfl rfl rfl rfl rfl (Nat.le_of_ble_eq_true rfl) dL_wind_4 ⟨Nat.le_of_ble_eq_true rfl, Nat.le_of_ble_eq_true rfl⟩ [] (⟨0, 9, 12, 15⟩ : ExceptionTableEntry) [] (hT.trans rfl) (fun z h => nomatch h) (by decide) (by decide) (List.mem_cons_of_mem _ (List.mem_append_left _ (List.mem_append_left _ (List.mem_append_left _ (List.mem_of_getElem? (i := 0) rfl))))) X0.2.2.2.2.2.2.2.1 (fun q9 => ?_)
      refine tw_astore_n (lv' := [(3, .ref q9), (0, .ref (q 0)), (1, .int v1), (2, .ref o)]) C dL_wind_12 rfl (by decide) rfl ?_
      refine tw_iconst (v := 1) C dL_wind_13 (by decide) ?_
      exact tw_endi (Wf := fun (u : twS × (Nat → Int64)) => twTO cI cZ cJ q o u.1 u.2) hE hf dL_wind_14 rfl
    have hf := tw_neg hf e2
    cases hf
  refine tw_fVi (As := [.int v1]) (stk := [.int 0, .ref o]) (ws' := twTO cI cZ cJ q o u.2 w) (Wr := [(o, .inl (cJ, 1, .inr (.inl w)))]) C (isC := List.range 26) (isR := [26]) (ix := [1, 2, 3, 4, 5, 6, 7, 8, 9, 10, 11, 12, 13, 14, 15, 16, 17, 18, 19, 20, 21, 22, 23, 24, 25, 26, 0]) (ki := [0, 1]) ⟨rfl, rfl, rfl, rfl, by decide, rfl, rfl⟩ rfl (c_X7_wind l dC dI cI cZ q hz) (cwV 1 C.hts gL_wind_X7_wind rfl rfl rfl hd_X7_wind ⟨Nat.le_of_ble_eq_true rfl, Nat.le_of_ble_eq_true rfl⟩) 0 (ci := 7) rfl rfl rfl rfl rfl (Nat.le_of_ble_eq_true rfl) dL_wind_4 ⟨Nat.zero_le _, Nat.zero_le _⟩ ?_
  refine tw_i2l C dL_wind_7 ?_
  refine tw_last C 26 2 (tw_in (i := 0) (n := 1) (by decide)) rfl rfl (twTO_a cI cZ cJ q o _ _ _ _) dL_wind_8 ?_
  refine tw_goto (tgt := 15) C dL_wind_9 (by decide) ?_
  refine tw_iconst (v := 0) C dL_wind_15 (by decide) ?_
  refine tw_widen (Nat.zero_le 1) (Nat.zero_le 6) ?_
  exact tw_endi (Wf := fun (u : twS × (Nat → Int64)) => twTO cI cZ cJ q o u.1 u.2) hE hf dL_wind_16 rfl
theorem hd_L_fire : yL_fire.cls ≠ "java/lang/invoke/MethodHandle" ∧ yL_fire.cls ≠ "java/lang/invoke/VarHandle" ∧ (parseMethodDescriptor yL_fire.desc).map (fun d => d.parameters.length) = some 3 := by decide +kernel
abbrev rmw_L_fire : Room := { frames := 9, cells := 1, slots := 6, locals := 145 }
def g_L_fire (st : twS) (w : Nat → Int64) (v1 : Int32) (v2 : Int32) : Option (Int32 × (twS × (Nat → Int64))) :=
  (f_X7_fire st v1 v2).bind fun z => match z with
    | .inl x => if x.1 = twX1 then some (1, (x.2, w)) else if x.1 = twX2 then some (2, (x.2, w)) else if x.1 = twX3 then some (3, (x.2, w)) else none
    | .inr u => some (0, (u, w))
set_option maxRecDepth 20000 in
theorem w_L_fire (l : Launch) (hl0 : l.stackTraces = false) (dC : Nat → ClassId) (dI : Nat → Nat → Nat) (cI cZ cJ : ClassId) (q : Nat → Nat) (o : Nat) {st : twS} {w : Nat → Int64} {v1 : Int32} {v2 : Int32} {res : Int32 × (twS × (Nat → Int64))} (hf : g_L_fire st w v1 v2 = some res) : twMw l yL_fire wsL_fire rmw_L_fire (dC, dI) (twY3 cI cZ cJ) [.ref (q 0), .int v1, .int v2] (twTO cI cZ cJ q o st w) res.1 (twTO cI cZ cJ q o res.2.1 res.2.2) := by
  refine tw_entw (cc := cL_fire) (maxL := 4) (own := RL) (by decide) rfl (Nat.le_of_ble_eq_true rfl) rfl ?_
  intro p e s m below meth c A Q C X0 hNc hT hE
  generalize ([.ref (q 0), .int v1, .int v2] : List Value).toArray = args at C hE ⊢
  refine tw_sub (lv' := [(0, .ref (q 0)), (1, .int v1), (2, .int v2)]) [0, 1, 2] rfl ?_
  unfold g_L_fire at hf
  obtain ⟨z, hz, hf⟩ := tw_bd hf
  refine tw_aload_n C dL_fire_0 0 rfl rfl ?_
  refine tw_iload_n C dL_fire_1 1 rfl rfl ?_
  refine tw_iload_n C dL_fire_2 2 rfl rfl ?_
  rcases z with x | u
  · have hf : (if x.1 = twX1 then some (1, (x.2, w)) else if x.1 = twX2 then some (2, (x.2, w)) else if x.1 = twX3 then some (3, (x.2, w)) else  none) = some res := hf
    by_cases e1 : x.1 = twX1
    · have hf := tw_pos hf e1
      obtain ⟨E, s1⟩ := x
      have e1 : E = twX1 := e1
      subst e1
      refine tw_fX (As := [.int v1, .int v2]) (stk := []) (ws' := twTO cI cZ cJ q o s1 w) (Wr := [(o, .inl (cJ, 1, .inr (.inl w)))]) C X0 (isC := List.range 26) (isR := [26]) (ix := [1, 2, 3, 4, 5, 6, 7, 8, 9, 10, 11, 12, 13, 14, 15, 16, 17, 18, 19, 20, 21, 22, 23, 24, 25, 26, 0]) (ki := [0, 1]) ⟨rfl, rfl, rfl, rfl, by decide, rfl, rfl⟩ rfl (x_X7_fire l hl0 dC dI cI cZ q hz) (cwV 2 C.hts gL_fire_X7_fire rfl rfl rfl hd_X7_fire ⟨Nat.le_of_ble_eq_true rfl, Nat.le_of_ble_eq_true rfl⟩) 0 (ci := 7) rfl rfl rfl rfl rfl (Nat.le_of_ble_eq_true rfl) dL_fire_3 ⟨Nat.le_of_ble_eq_true rfl, Nat.le_of_ble_eq_true rfl⟩ [] (⟨0, 6, 9, 13⟩ : ExceptionTableEntry) [(⟨0, 6, 12, 15⟩ : ExceptionTableEntry), (⟨0, 6, 15, 17⟩ : ExceptionTableEntry)] (hT.trans rfl) (fun z h => nomatch h) (by decide) (by decide) (List.mem_cons_of_mem _ (List.mem_append_left _ (List.mem_append_left _ (List.mem_append_left _ (List.mem_append_left _ (List.mem_append_left _ (List.mem_append_left _ (List.mem_of_getElem? (i := 0) rfl)))))))) X0.2.2.2.2.2.2.1 (fun q9 => ?_)
      refine tw_astore_n (lv' := [(3, .ref q9), (0, .ref (q 0)), (1, .int v1), (2, .int v2)]) C dL_fire_9 rfl (by decide) rfl ?_
      refine tw_iconst (v := 1) C dL_fire_10 (by decide) ?_
      exact tw_endi (Wf := fun (u : twS × (Nat → Int64)) => twTO cI cZ cJ q o u.1 u.2) hE hf dL_fire_11 rfl
    have hf := tw_neg hf e1
    by_cases e2 : x.1 = twX2
    · have hf := tw_pos hf e2
      obtain ⟨E, s1⟩ := x
      have e2 : E = twX2 := e2
      subst e2
      refine tw_fX (As := [.int v1, .int v2]) (stk := []) (ws' := twTO cI cZ cJ q o s1 w) (Wr := [(o, .inl (cJ, 1, .inr (.inl w)))]) C X0 (isC := List.range 26) (isR := [26]) (ix := [1, 2, 3, 4, 5, 6, 7, 8, 9, 10, 11, 12, 13, 14, 15, 16, 17, 18, 19, 20, 21, 22, 23, 24, 25, 26, 0]) (ki := [0, 1]) ⟨rfl, rfl, rfl, rfl, by decide, rfl, rfl⟩ rfl (x_X7_fire l hl0 dC dI cI cZ q hz) (cwV 2 C.hts gL_fire_X7_fire rfl rfl rfl hd_X7_fire ⟨Nat.le_of_ble_eq_true rfl, Nat.le_of_ble_eq_true rfl⟩) 0 (ci := 7) rfl rfl rfl rfl rfl (Nat.le_of_ble_eq_true rfl) dL_fire_3 ⟨Nat.le_of_ble_eq_true rfl, Nat.le_of_ble_eq_true rfl⟩ [(⟨0, 6, 9, 13⟩ : ExceptionTableEntry)] (⟨0, 6, 12, 15⟩ : ExceptionTableEntry) [(⟨0, 6, 15, 17⟩ : ExceptionTableEntry)] (hT.trans rfl) (List.forall_mem_cons.mpr ⟨tw_pass1 (nm := twX1) (by decide) (C.hts _ (List.mem_cons_of_mem _ (List.mem_append_left _ (List.mem_append_left _ (List.mem_append_left _ (List.mem_append_left _ (List.mem_append_left _ (List.mem_append_left _ (List.mem_of_getElem? (i := 0) rfl))))))))) hNc.1, fun z h => nomatch h⟩) (by decide) (by decide) (List.mem_cons_of_mem _ (List.mem_append_left _ (List.mem_append_left _ (List.mem_append_left _ (List.mem_append_left _ (List.mem_append_left _ (List.mem_append_left _ (List.mem_of_getElem? (i := 1) rfl)))))))) X0.2.2.2.2.2.2.2.1 (fun q9 => ?_)
      refine tw_astore_n (lv' := [(3, .ref q9), (0, .ref (q 0)), (1, .int v1), (2, .int v2)]) C dL_fire_12 rfl (by decide) rfl ?_
      refine tw_iconst (v := 2) C dL_fire_13 (by decide) ?_
      exact tw_endi (Wf := fun (u : twS × (Nat → Int64)) => twTO cI cZ cJ q o u.1 u.2) hE hf dL_fire_14 rfl
    have hf := tw_neg hf e2
    by_cases e3 : x.1 = twX3
    · have hf := tw_pos hf e3
      obtain ⟨E, s1⟩ := x
      have e3 : E = twX3 := e3
      subst e3
      refine tw_fX (As := [.int v1, .int v2]) (stk := []) (ws' := twTO cI cZ cJ q o s1 w) (Wr := [(o, .inl (cJ, 1, .inr (.inl w)))]) C X0 (isC := List.range 26) (isR := [26]) (ix := [1, 2, 3, 4, 5, 6, 7, 8, 9, 10, 11, 12, 13, 14, 15, 16, 17, 18, 19, 20, 21, 22, 23, 24, 25, 26, 0]) (ki := [0, 1]) ⟨rfl, rfl, rfl, rfl, by decide, rfl, rfl⟩ rfl (x_X7_fire l hl0 dC dI cI cZ q hz) (cwV 2 C.hts gL_fire_X7_fire rfl rfl rfl hd_X7_fire ⟨Nat.le_of_ble_eq_true rfl, Nat.le_of_ble_eq_true rfl⟩) 0 (ci := 7) rfl rfl rfl rfl rfl (Nat.le_of_ble_eq_true rfl) dL_fire_3 ⟨Nat.le_of_ble_eq_true rfl, Nat.le_of_ble_eq_true rfl⟩ [(⟨0, 6, 9, 13⟩ : ExceptionTableEntry), (⟨0, 6, 12, 15⟩ : ExceptionTableEntry)] (⟨0, 6, 15, 17⟩ : ExceptionTableEntry) [] (hT.trans rfl) (List.forall_mem_cons.mpr ⟨tw_pass1 (nm := twX1) (by decide) (C.hts _ (List.mem_cons_of_mem _ (List.mem_append_left _ (List.mem_append_left _ (List.mem_append_left _ (List.mem_append_left _ (List.mem_append_left _ (List.mem_append_left _ (List.mem_of_getElem? (i := 0) rfl))))))))) hNc.2.1, List.forall_mem_cons.mpr ⟨tw_pass1 (nm := twX2) (by decide) (C.hts _ (List.mem_cons_of_mem _ (List.mem_append_left _ (List.mem_append_left _ (List.mem_append_left _ (List.mem_append_left _ (List.mem_append_left _ (List.mem_append_left _ (List.mem_of_getElem? (i := 1) rfl))))))))) hNc.2.2, fun z h => nomatch h⟩⟩) (by decide) (by decide) (List.mem_cons_of_mem _ (List.mem_append_left _ (List.mem_append_left _ (List.mem_append_left _ (List.mem_append_left _ (List.mem_append_left _ (List.mem_append_left _ (List.mem_of_getElem? (i := 2) rfl)))))))) X0.2.2.2.2.2.2.2.2.1 (fun q9 => ?_)
      refine tw_astore_n (lv' := [(3, .ref q9), (0, .ref (q 0)), (1, .int v1), (2, .int v2)]) C dL_fire_15 rfl (by decide) rfl ?_
      refine tw_iconst (v := 3) C dL_fire_16 (by decide) ?_
      exact tw_endi (Wf := fun (u : twS × (Nat → Int64)) => twTO cI cZ cJ q o u.1 u.2) hE hf dL_fire_17 rfl
    have hf := tw_neg hf e3
    cases hf
  refine tw_fVv (As := [.int v1, .int v2]) (stk := []) (ws' := twTO cI cZ cJ q o u w) (Wr := [(o, .inl (cJ, 1, .inr (.inl w)))]) C (isC := List.range 26) (isR := [26]) (ix := [1, 2, 3, 4, 5, 6, 7, 8, 9, 10, 11, 12, 13, 14, 15, 16, 17, 18, 19, 20, 21, 22, 23, 24, 25, 26, 0]) (ki := [0, 1]) ⟨rfl, rfl, rfl, rfl, by decide, rfl, rfl⟩ rfl (c_X7_fire l dC dI cI cZ q hz) (cwV 2 C.hts gL_fire_X7_fire rfl rfl rfl hd_X7_fire ⟨Nat.le_of_ble_eq_true rfl, Nat.le_of_ble_eq_true rfl⟩) 0 (ci := 7) rfl rfl rfl rfl rfl (Nat.le_of_ble_eq_true rfl) dL_fire_3 ⟨Nat.zero_le _, Nat.zero_le _⟩ ?_
  refine tw_goto (tgt := 18) C dL_fire_6 (by decide) ?_
  refine tw_iconst (v := 0) C dL_fire_18 (by decide) ?_
  refine tw_widen (Nat.zero_le 1) (Nat.zero_le 6) ?_
  exact tw_endi (Wf := fun (u : twS × (Nat → Int64)) => twTO cI cZ cJ q o u.1 u.2) hE hf dL_fire_19 rfl
theorem hd_L_feed : yL_feed.cls ≠ "java/lang/invoke/MethodHandle" ∧ yL_feed.cls ≠ "java/lang/invoke/VarHandle" ∧ (parseMethodDescriptor yL_feed.desc).map (fun d => d.parameters.length) = some 4 := by decide +kernel
abbrev rmw_L_feed : Room := { frames := 8, cells := 1, slots := 6, locals := 125 }
def g_L_feed (st : twS) (w : Nat → Int64) (v1 : Int32) (v2 : Int32) : Option (Int32 × (twS × (Nat → Int64))) :=
  (f_X7_feed st v1 v2).bind fun z => match z with
    | .inl x => if x.1 = twX1 then some (1, (x.2, w)) else none
    | .inr u => if u.1 = 0 then some (0, (u.2, vp_updL w (0 : Int32).toNatClampNeg 0)) else some (0, (u.2, vp_updL w (0 : Int32).toNatClampNeg 1))
set_option maxRecDepth 20000 in
theorem w_L_feed (l : Launch) (hl0 : l.stackTraces = false) (dC : Nat → ClassId) (dI : Nat → Nat → Nat) (cI cZ cJ : ClassId) (q : Nat → Nat) (o : Nat) {st : twS} {w : Nat → Int64} {v1 : Int32} {v2 : Int32} {res : Int32 × (twS × (Nat → Int64))} (hf : g_L_feed st w v1 v2 = some res) : twMw l yL_feed wsL_feed rmw_L_feed (dC, dI) (twY3 cI cZ cJ) [.ref (q 0), .int v1, .int v2, .ref o] (twTO cI cZ cJ q o st w) res.1 (twTO cI cZ cJ q o res.2.1 res.2.2) := by
  refine tw_entw (cc := cL_feed) (maxL := 5) (own := RL) (by decide) rfl (Nat.le_of_ble_eq_true rfl) rfl ?_
  intro p e s m below meth c A Q C X0 hNc hT hE
  generalize ([.ref (q 0), .int v1, .int v2, .ref o] : List Value).toArray = args at C hE ⊢
  refine tw_sub (lv' := [(0, .ref (q 0)), (1, .int v1), (2, .int v2), (3, .ref o)]) [0, 1, 2, 3] rfl ?_
  unfold g_L_feed at hf
  obtain ⟨z, hz, hf⟩ := tw_bd hf
  refine tw_aload_n C dL_feed_0 3 rfl rfl ?_
  refine tw_iconst (v := 0) C dL_feed_1 (by decide) ?_
  refine tw_aload_n C dL_feed_2 0 rfl rfl ?_
  refine tw_iload_n C dL_feed_3 1 rfl rfl ?_
  refine tw_iload_n C dL_feed_4 2 rfl rfl ?_
  rcases z with x | u
  · have hf : (if x.1 = twX1 then some (1, (x.2, w)) else  none) = some res := hf
    by_cases e1 : x.1 = twX1
    · have hf := tw_pos hf e1
      obtain ⟨E, s1⟩ := x
      have e1 : E = twX1 := e1
      subst e1
      refine tw_fX (As := [.int v1, .int v2]) (stk := [.int 0, .ref o]) (ws' := twTO cI cZ cJ q o s1 w) (Wr := [(o, .inl (cJ, 1, .inr (.inl w)))]) C X0 (isC := List.range 26) (isR := [26]) (ix := [1, 2, 3, 4, 5, 6, 7, 8, 9, 10, 11, 12, 13, 14, 15, 16, 17, 18, 19, 20, 21, 22, 23, 24, 25, 26, 0]) (ki := [0, 1]) ⟨rfl, rfl, rfl, rfl, by decide, rfl, rfl⟩ rfl (x_X7_feed l hl0 dC dI cI cZ q hz) (cwV 2 C.hts gL_feed_X7_feed rfl rfl rfl hd_X7_feed ⟨Nat.le_of_ble_eq_true rfl, Nat.le_of_ble_eq_true rfl⟩) 0 (ci := 7) rfl rfl rfl rfl rfl (Nat.le_of_ble_eq_true rfl) dL_feed_5 ⟨Nat.le_of_ble_eq_true rfl, Nat.le_of_ble_eq_true rfl⟩ [] (⟨0, 17, 20, 13⟩ : ExceptionTableEntry) [] (hT.trans rfl) (fun z h => nomatch h) (by decide) (by decide) (List.mem_cons_of_mem _ (List.mem_append_left _ (List.mem_append_left _ (List.mem_of_getElem? (i := 0) rfl)))) X0.2.2.2.2.2.2.1 (fun q9 => ?_)
      refine tw_astore (lv' := [(4, .ref q9), (0, .ref (q 0)), (1, .int v1), (2, .int v2), (3, .ref o)]) C dL_feed_20 (by decide) rfl ?_
      refine tw_iconst (v := 1) C dL_feed_22 (by decide) ?_
      exact tw_endi (Wf := fun (u : twS × (Nat → Int64)) => twTO cI cZ cJ q o u.1 u.2) hE hf dL_feed_23 rfl
    have hf := tw_neg hf e1
    cases hf
  refine tw_fVi (As := [.int v1, .int v2]) (stk := [.int 0, .ref o]) (ws' := twTO cI cZ cJ q o u.2 w) (Wr := [(o, .inl (cJ, 1, .inr (.inl w)))]) C (isC := List.range 26) (isR := [26]) (ix := [1, 2, 3, 4, 5, 6, 7, 8, 9, 10, 11, 12, 13, 14, 15, 16, 17, 18, 19, 20, 21, 22, 23, 24, 25, 26, 0]) (ki := [0, 1]) ⟨rfl, rfl, rfl, rfl, by decide, rfl, rfl⟩ rfl (c_X7_feed l dC dI cI cZ q hz) (cwV 2 C.hts gL_feed_X7_feed rfl rfl rfl hd_X7_feed ⟨Nat.le_of_ble_eq_true rfl, Nat.le_of_ble_eq_true rfl⟩) 0 (ci := 7) rfl rfl rfl rfl rfl (Nat.le_of_ble_eq_true rfl) dL_feed_5 ⟨Nat.zero_le _, Nat.zero_le _⟩ ?_
  have hf : (if u.1 = 0 then some (0, (u.2, vp_updL w (0 : Int32).toNatClampNeg 0)) else some (0, (u.2, vp_updL w (0 : Int32).toNatClampNeg 1))) = some res := hf
  refine tw_if_eq (tgt := 15) C dL_feed_8 (by decide) (fun c1 => ?_) (fun c1 => ?_)
  · have hf := tw_pos hf c1
    refine tw_lconst (v := 0) C dL_feed_15 (by decide) ?_
    refine tw_last C 26 2 (tw_in (i := 0) (n := 1) (by decide)) rfl rfl (twTO_a cI cZ cJ q o _ _ _ _) dL_feed_16 ?_
    refine tw_goto (tgt := 24) C dL_feed_17 (by decide) ?_
    refine tw_iconst (v := 0) C dL_feed_24 (by decide) ?_
    refine tw_widen (Nat.zero_le 1) (Nat.zero_le 6) ?_
    exact tw_endi (Wf := fun (u : twS × (Nat → Int64)) => twTO cI cZ cJ q o u.1 u.2) hE hf dL_feed_25 rfl
  · have hf := tw_neg hf c1
    refine tw_lconst (v := 1) C dL_feed_11 (by decide) ?_
    refine tw_goto (tgt := 16) C dL_feed_12 (by decide) ?_
    refine tw_last C 26 2 (tw_in (i := 0) (n := 1) (by decide)) rfl rfl (twTO_a cI cZ cJ q o _ _ _ _) dL_feed_16 ?_
    refine tw_goto (tgt := 24) C dL_feed_17 (by decide) ?_
    refine tw_iconst (v := 0) C dL_feed_24 (by decide) ?_
    refine tw_widen (Nat.zero_le 1) (Nat.zero_le 6) ?_
    exact tw_endi (Wf := fun (u : twS × (Nat → Int64)) => twTO cI cZ cJ q o u.1 u.2) hE hf dL_feed_25 rfl
theorem hd_L_failFan : yL_failFan.cls ≠ "java/lang/invoke/MethodHandle" ∧ yL_failFan.cls ≠ "java/lang/invoke/VarHandle" ∧ (parseMethodDescriptor yL_failFan.desc).map (fun d => d.parameters.length) = some 4 := by decide +kernel
abbrev rmw_L_failFan : Room := { frames := 8, cells := 1, slots := 6, locals := 125 }
def g_L_failFan (st : twS) (w : Nat → Int64) (v1 : Int32) (v2 : Int32) : Option (Int32 × (twS × (Nat → Int64))) :=
  (f_X7_failFan st v1 v2).bind fun z => match z with
    | .inl x => if x.1 = twX1 then some (1, (x.2, w)) else none
    | .inr u => some (0, (u.2, vp_updL w (0 : Int32).toNatClampNeg u.1.toInt64))
set_option maxRecDepth 20000 in
theorem w_L_failFan (l : Launch) (hl0 : l.stackTraces = false) (dC : Nat → ClassId) (dI : Nat → Nat → Nat) (cI cZ cJ : ClassId) (q : Nat → Nat) (o : Nat) {st : twS} {w : Nat → Int64} {v1 : Int32} {v2 : Int32} {res : Int32 × (twS × (Nat → Int64))} (hf : g_L_failFan st w v1 v2 = some res) : twMw l yL_failFan wsL_failFan rmw_L_failFan (dC, dI) (twY3 cI cZ cJ) [.ref (q 0), .int v1, .int v2, .ref o] (twTO cI cZ cJ q o st w) res.1 (twTO cI cZ cJ q o res.2.1 res.2.2) := by
  refine tw_entw (cc := cL_failFan) (maxL := 5) (own := RL) (by decide) rfl (Nat.le_of_ble_eq_true rfl) rfl ?_
  intro p e s m below meth c A Q C X0 hNc hT hE
  generalize ([.ref (q 0), .int v1, .int v2, .ref o] : List Value).toArray = args at C hE ⊢
  refine tw_sub (lv' := [(0, .ref (q 0)), (1, .int v1), (2, .int v2), (3, .ref o)]) [0, 1, 2, 3] rfl ?_
  unfold g_L_failFan at hf
  obtain ⟨z, hz, hf⟩ := tw_bd hf
  refine tw_aload_n C dL_failFan_0 3 rfl rfl ?_
  refine tw_iconst (v := 0) C dL_failFan_1 (by decide) ?_
  refine tw_aload_n C dL_failFan_2 0 rfl rfl ?_
  refine tw_iload_n C dL_failFan_3 1 rfl rfl ?_
  refine tw_iload_n C dL_failFan_4 2 rfl rfl ?_
  rcases z with x | u
  · have hf : (if x.1 = twX1 then some (1, (x.2, w)) else  none) = some res := hf
    by_cases e1 : x.1 = twX1
    · have hf := tw_pos hf e1
      obtain ⟨E, s1⟩ := x
      have e1 : E = twX1 := e1
      subst e1
      refine tw_fX (As := [.int v1, .int v2]) (stk := [.int 0, .ref o]) (ws' := twTO cI cZ cJ q o s1 w) (Wr := [(o, .inl (cJ, 1, .inr (.inl w)))]) C X0 (isC := List.range 26) (isR := [26]) (ix := [1, 2, 3, 4, 5, 6, 7, 8, 9, 10, 11, 12, 13, 14, 15, 16, 17, 18, 19, 20, 21, 22, 23, 24, 25, 26, 0]) (ki := [0, 1]) ⟨rfl, rfl, rfl, rfl, by decide, rfl, rfl⟩ rfl (x_X7_failFan l hl0 dC dI cI cZ q hz) (cwV 2 C.hts gL_failFan_X7_failFan rfl rfl rfl hd_X7_failFan ⟨Nat.le_of_ble_eq_true rfl, Nat.le_of_ble_eq_true rfl⟩) 0 (ci := 7) rfl rfl rfl rfl rfl (Nat.le_of_ble_eq_true rfl) dL_failFan_5 ⟨Nat.le_of_ble_eq_true rfl, Nat.le_of_ble_eq_true rfl⟩ [] (⟨0, 10, 13, 13⟩ : ExceptionTableEntry) [] (hT.trans rfl) (fun z h => nomatch h) (by decide) (by decide) (List.mem_cons_of_mem _ (List.mem_append_left _ (List.mem_append_left _ (List.mem_append_left _ (List.mem_append_left _ (List.mem_of_getElem? (i := 0) rfl)))))) X0.2.2.2.2.2.2.1 (fun q9 => ?_)
      refine tw_astore (lv' := [(4, .ref q9), (0, .ref (q 0)), (1, .int v1), (2, .int v2), (3, .ref o)]) C dL_failFan_13 (by decide) rfl ?_
      refine tw_iconst (v := 1) C dL_failFan_15 (by decide) ?_
      exact tw_endi (Wf := fun (u : twS × (Nat → Int64)) => twTO cI cZ cJ q o u.1 u.2) hE hf dL_failFan_16 rfl
    have hf := tw_neg hf e1
    cases hf
  refine tw_fVi (As := [.int v1, .int v2]) (stk := [.int 0, .ref o]) (ws' := twTO cI cZ cJ q o u.2 w) (Wr := [(o, .inl (cJ, 1, .inr (.inl w)))]) C (isC := List.range 26) (isR := [26]) (ix := [1, 2, 3, 4, 5, 6, 7, 8, 9, 10, 11, 12, 13, 14, 15, 16, 17, 18, 19, 20, 21, 22, 23, 24, 25, 26, 0]) (ki := [0, 1]) ⟨rfl, rfl, rfl, rfl, by decide, rfl, rfl⟩ rfl (c_X7_failFan l dC dI cI cZ q hz) (cwV 2 C.hts gL_failFan_X7_failFan rfl rfl rfl hd_X7_failFan ⟨Nat.le_of_ble_eq_true rfl, Nat.le_of_ble_eq_true rfl⟩) 0 (ci := 7) rfl rfl rfl rfl rfl (Nat.le_of_ble_eq_true rfl) dL_failFan_5 ⟨Nat.zero_le _, Nat.zero_le _⟩ ?_
  refine tw_i2l C dL_failFan_8 ?_
  refine tw_last C 26 2 (tw_in (i := 0) (n := 1) (by decide)) rfl rfl (twTO_a cI cZ cJ q o _ _ _ _) dL_failFan_9 ?_
  refine tw_goto (tgt := 17) C dL_failFan_10 (by decide) ?_
  refine tw_iconst (v := 0) C dL_failFan_17 (by decide) ?_
  refine tw_widen (Nat.zero_le 1) (Nat.zero_le 6) ?_
  exact tw_endi (Wf := fun (u : twS × (Nat → Int64)) => twTO cI cZ cJ q o u.1 u.2) hE hf dL_failFan_18 rfl
theorem hd_L_failDoor : yL_failDoor.cls ≠ "java/lang/invoke/MethodHandle" ∧ yL_failDoor.cls ≠ "java/lang/invoke/VarHandle" ∧ (parseMethodDescriptor yL_failDoor.desc).map (fun d => d.parameters.length) = some 4 := by decide +kernel
abbrev rmw_L_failDoor : Room := { frames := 8, cells := 1, slots := 6, locals := 125 }
def g_L_failDoor (st : twS) (w : Nat → Int64) (v1 : Int32) (v2 : Int32) : Option (Int32 × (twS × (Nat → Int64))) :=
  (f_X7_failDoor st v1 v2).bind fun z => match z with
    | .inl x => if x.1 = twX1 then some (1, (x.2, w)) else none
    | .inr u => if u.1 = 0 then some (0, (u.2, vp_updL w (0 : Int32).toNatClampNeg 0)) else some (0, (u.2, vp_updL w (0 : Int32).toNatClampNeg 1))
set_option maxRecDepth 20000 in
theorem w_L_failDoor (l : Launch) (hl0 : l.stackTraces = false) (dC : Nat → ClassId) (dI : Nat → Nat → Nat) (cI cZ cJ : ClassId) (q : Nat → Nat) (o : Nat) {st : twS} {w : Nat → Int64} {v1 : Int32} {v2 : Int32} {res : Int32 × (twS × (Nat → Int64))} (hf : g_L_failDoor st w v1 v2 = some res) : twMw l yL_failDoor wsL_failDoor rmw_L_failDoor (dC, dI) (twY3 cI cZ cJ) [.ref (q 0), .int v1, .int v2, .ref o] (twTO cI cZ cJ q o st w) res.1 (twTO cI cZ cJ q o res.2.1 res.2.2) := by
  refine tw_entw (cc := cL_failDoor) (maxL := 5) (own := RL) (by decide) rfl (Nat.le_of_ble_eq_true rfl) rfl ?_
  intro p e s m below meth c A Q C X0 hNc hT hE
  generalize ([.ref (q 0), .int v1, .int v2, .ref o] : List Value).toArray = args at C hE ⊢
  refine tw_sub (lv' := [(0, .ref (q 0)), (1, .int v1), (2, .int v2), (3, .ref o)]) [0, 1, 2, 3] rfl ?_
  unfold g_L_failDoor at hf
  obtain ⟨z, hz, hf⟩ := tw_bd hf
  refine tw_aload_n C dL_failDoor_0 3 rfl rfl ?_
  refine tw_iconst (v := 0) C dL_failDoor_1 (by decide) ?_
  refine tw_aload_n C dL_failDoor_2 0 rfl rfl ?_
  refine tw_iload_n C dL_failDoor_3 1 rfl rfl ?_
  refine tw_iload_n C dL_failDoor_4 2 rfl rfl ?_
  rcases z with x | u
  · have hf : (if x.1 = twX1 then some (1, (x.2, w)) else  none) = some res := hf
    by_cases e1 : x.1 = twX1
    · have hf := tw_pos hf e1
      obtain ⟨E, s1⟩ := x
      have e1 : E = twX1 := e1
      subst e1
      refine tw_fX (As := [.int v1, .int v2]) (stk := [.int 0, .ref o]) (ws' := twTO cI cZ cJ q o s1 w) (Wr := [(o, .inl (cJ, 1, .inr (.inl w)))]) C X0 (isC := List.range 26) (isR := [26]) (ix := [1, 2, 3, 4, 5, 6, 7, 8, 9, 10, 11, 12, 13, 14, 15, 16, 17, 18, 19, 20, 21, 22, 23, 24, 25, 26, 0]) (ki := [0, 1]) ⟨rfl, rfl, rfl, rfl, by decide, rfl, rfl⟩ rfl (x_X7_failDoor l hl0 dC dI cI cZ q hz) (cwV 2 C.hts gL_failDoor_X7_failDoor rfl rfl rfl hd_X7_failDoor ⟨Nat.le_of_ble_eq_true rfl, Nat.le_of_ble_eq_true rfl⟩) 0 (ci := 7) rfl rfl rfl rfl rfl (Nat.le_of_ble_eq_true rfl) dL_failDoor_5 ⟨Nat.le_of_ble_eq_true rfl, Nat.le_of_ble_eq_true rfl⟩ [] (⟨0, 17, 20, 13⟩ : ExceptionTableEntry) [] (hT.trans rfl) (fun z h => nomatch h) (by decide) (by decide) (List.mem_cons_of_mem _ (List.mem_append_left _ (List.mem_append_left _ (List.mem_append_left _ (List.mem_append_left _ (List.mem_of_getElem? (i := 0) rfl)))))) X0.2.2.2.2.2.2.1 (fun q9 => ?_)
      refine tw_astore (lv' := [(4, .ref q9), (0, .ref (q 0)), (1, .int v1), (2, .int v2), (3, .ref o)]) C dL_failDoor_20 (by decide) rfl ?_
      refine tw_iconst (v := 1) C dL_failDoor_22 (by decide) ?_
      exact tw_endi (Wf := fun (u : twS × (Nat → Int64)) => twTO cI cZ cJ q o u.1 u.2) hE hf dL_failDoor_23 rfl
    have hf := tw_neg hf e1
    cases hf
  refine tw_fVi (As := [.int v1, .int v2]) (stk := [.int 0, .ref o]) (ws' := twTO cI cZ cJ q o u.2 w) (Wr := [(o, .inl (cJ, 1, .inr (.inl w)))]) C (isC := List.range 26) (isR := [26]) (ix := [1, 2, 3, 4, 5, 6, 7, 8, 9, 10, 11, 12, 13, 14, 15, 16, 17, 18, 19, 20, 21, 22, 23, 24, 25, 26, 0]) (ki := [0, 1]) ⟨rfl, rfl, rfl, rfl, by decide, rfl, rfl⟩ rfl (c_X7_failDoor l dC dI cI cZ q hz) (cwV 2 C.hts gL_failDoor_X7_failDoor rfl rfl rfl hd_X7_failDoor ⟨Nat.le_of_ble_eq_true rfl, Nat.le_of_ble_eq_true rfl⟩) 0 (ci := 7) rfl rfl rfl rfl rfl (Nat.le_of_ble_eq_true rfl) dL_failDoor_5 ⟨Nat.zero_le _, Nat.zero_le _⟩ ?_
  have hf : (if u.1 = 0 then some (0, (u.2, vp_updL w (0 : Int32).toNatClampNeg 0)) else some (0, (u.2, vp_updL w (0 : Int32).toNatClampNeg 1))) = some res := hf
  refine tw_if_eq (tgt := 15) C dL_failDoor_8 (by decide) (fun c1 => ?_) (fun c1 => ?_)
  · have hf := tw_pos hf c1
    refine tw_lconst (v := 0) C dL_failDoor_15 (by decide) ?_
    refine tw_last C 26 2 (tw_in (i := 0) (n := 1) (by decide)) rfl rfl (twTO_a cI cZ cJ q o _ _ _ _) dL_failDoor_16 ?_
    refine tw_goto (tgt := 24) C dL_failDoor_17 (by decide) ?_
    refine tw_iconst (v := 0) C dL_failDoor_24 (by decide) ?_
    refine tw_widen (Nat.zero_le 1) (Nat.zero_le 6) ?_
    exact tw_endi (Wf := fun (u : twS × (Nat → Int64)) => twTO cI cZ cJ q o u.1 u.2) hE hf dL_failDoor_25 rfl
  · have hf := tw_neg hf c1
    refine tw_lconst (v := 1) C dL_failDoor_11 (by decide) ?_
    refine tw_goto (tgt := 16) C dL_failDoor_12 (by decide) ?_
    refine tw_last C 26 2 (tw_in (i := 0) (n := 1) (by decide)) rfl rfl (twTO_a cI cZ cJ q o _ _ _ _) dL_failDoor_16 ?_
    refine tw_goto (tgt := 24) C dL_failDoor_17 (by decide) ?_
    refine tw_iconst (v := 0) C dL_failDoor_24 (by decide) ?_
    refine tw_widen (Nat.zero_le 1) (Nat.zero_le 6) ?_
    exact tw_endi (Wf := fun (u : twS × (Nat → Int64)) => twTO cI cZ cJ q o u.1 u.2) hE hf dL_failDoor_25 rfl
theorem hd_L_failDetector : yL_failDetector.cls ≠ "java/lang/invoke/MethodHandle" ∧ yL_failDetector.cls ≠ "java/lang/invoke/VarHandle" ∧ (parseMethodDescriptor yL_failDetector.desc).map (fun d => d.parameters.length) = some 4 := by decide +kernel
abbrev rmw_L_failDetector : Room := { frames := 9, cells := 1, slots := 6, locals := 146 }
def g_L_failDetector (st : twS) (w : Nat → Int64) (v1 : Int32) (v2 : Int32) (v3 : Int32) : Option (Int32 × (twS × (Nat → Int64))) :=
  (f_X7_failDetector st v1 v2 v3).bind fun z => match z with
    | .inl x => if x.1 = twX1 then some (1, (x.2, w)) else none
    | .inr u => some (0, (u, w))
set_option maxRecDepth 20000 in
theorem w_L_failDetector (l : Launch) (hl0 : l.stackTraces = false) (dC : Nat → ClassId) (dI : Nat → Nat → Nat) (cI cZ cJ : ClassId) (q : Nat → Nat) (o : Nat) {st : twS} {w : Nat → Int64} {v1 : Int32} {v2 : Int32} {v3 : Int32} {res : Int32 × (twS × (Nat → Int64))} (hf : g_L_failDetector st w v1 v2 v3 = some res) : twMw l yL_failDetector wsL_failDetector rmw_L_failDetector (dC, dI) (twY3 cI cZ cJ) [.ref (q 0), .int v1, .int v2, .int v3] (twTO cI cZ cJ q o st w) res.1 (twTO cI cZ cJ q o res.2.1 res.2.2) := by
  refine tw_entw (cc := cL_failDetector) (maxL := 5) (own := RL) (by decide) rfl (Nat.le_of_ble_eq_true rfl) rfl ?_
  intro p e s m below meth c A Q C X0 hNc hT hE
  generalize ([.ref (q 0), .int v1, .int v2, .int v3] : List Value).toArray = args at C hE ⊢
  refine tw_sub (lv' := [(0, .ref (q 0)), (1, .int v1), (2, .int v2), (3, .int v3)]) [0, 1, 2, 3] rfl ?_
  unfold g_L_failDetector at hf
  obtain ⟨z, hz, hf⟩ := tw_bd hf
  refine tw_aload_n C dL_failDetector_0 0 rfl rfl ?_
  refine tw_iload_n C dL_failDetector_1 1 rfl rfl ?_
  refine tw_iload_n C dL_failDetector_2 2 rfl rfl ?_
  refine tw_iload_n C dL_failDetector_3 3 rfl rfl ?_
  rcases z with x | u
  · have hf : (if x.1 = twX1 then some (1, (x.2, w)) else  none) = some res := hf
    by_cases e1 : x.1 = twX1
    · have hf := tw_pos hf e1
      obtain ⟨E, s1⟩ := x
      have e1 : E = twX1 := e1
      subst e1
      refine tw_fX (As := [.int v1, .int v2, .int v3]) (stk := []) (ws' := twTO cI cZ cJ q o s1 w) (Wr := [(o, .inl (cJ, 1, .inr (.inl w)))]) C X0 (isC := List.range 26) (isR := [26]) (ix := [1, 2, 3, 4, 5, 6, 7, 8, 9, 10, 11, 12, 13, 14, 15, 16, 17, 18, 19, 20, 21, 22, 23, 24, 25, 26, 0]) (ki := [0, 1]) ⟨rfl, rfl, rfl, rfl, by decide, rfl, rfl⟩ rfl (x_X7_failDetector l hl0 dC dI cI cZ q hz) (cwV 3 C.hts gL_failDetector_X7_failDetector rfl rfl rfl hd_X7_failDetector ⟨Nat.le_of_ble_eq_true rfl, Nat.le_of_ble_eq_true rfl⟩) 0 (ci := 7) rfl rfl rfl rfl rfl (Nat.le_of_ble_eq_true rfl) dL_failDetector_4 ⟨Nat.le_of_ble_eq_true rfl, Nat.le_of_ble_eq_true rfl⟩ [] (⟨0, 7, 10, 13⟩ : ExceptionTableEntry) [] (hT.trans rfl) (fun z h => nomatch h) (by decide) (by decide) (List.mem_cons_of_mem _ (List.mem_append_left _ (List.mem_append_left _ (List.mem_of_getElem? (i := 0) rfl)))) X0.2.2.2.2.2.2.1 (fun q9 => ?_)
      refine tw_astore (lv' := [(4, .ref q9), (0, .ref (q 0)), (1, .int v1), (2, .int v2), (3, .int v3)]) C dL_failDetector_10 (by decide) rfl ?_
      refine tw_iconst (v := 1) C dL_failDetector_12 (by decide) ?_
      exact tw_endi (Wf := fun (u : twS × (Nat → Int64)) => twTO cI cZ cJ q o u.1 u.2) hE hf dL_failDetector_13 rfl
    have hf := tw_neg hf e1
    cases hf
  refine tw_fVv (As := [.int v1, .int v2, .int v3]) (stk := []) (ws' := twTO cI cZ cJ q o u w) (Wr := [(o, .inl (cJ, 1, .inr (.inl w)))]) C (isC := List.range 26) (isR := [26]) (ix := [1, 2, 3, 4, 5, 6, 7, 8, 9, 10, 11, 12, 13, 14, 15, 16, 17, 18, 19, 20, 21, 22, 23, 24, 25, 26, 0]) (ki := [0, 1]) ⟨rfl, rfl, rfl, rfl, by decide, rfl, rfl⟩ rfl (c_X7_failDetector l dC dI cI cZ q hz) (cwV 3 C.hts gL_failDetector_X7_failDetector rfl rfl rfl hd_X7_failDetector ⟨Nat.le_of_ble_eq_true rfl, Nat.le_of_ble_eq_true rfl⟩) 0 (ci := 7) rfl rfl rfl rfl rfl (Nat.le_of_ble_eq_true rfl) dL_failDetector_4 ⟨Nat.zero_le _, Nat.zero_le _⟩ ?_
  refine tw_goto (tgt := 14) C dL_failDetector_7 (by decide) ?_
  refine tw_iconst (v := 0) C dL_failDetector_14 (by decide) ?_
  refine tw_widen (Nat.zero_le 1) (Nat.zero_le 6) ?_
  exact tw_endi (Wf := fun (u : twS × (Nat → Int64)) => twTO cI cZ cJ q o u.1 u.2) hE hf dL_failDetector_15 rfl
theorem hd_L_act : yL_act.cls ≠ "java/lang/invoke/MethodHandle" ∧ yL_act.cls ≠ "java/lang/invoke/VarHandle" ∧ (parseMethodDescriptor yL_act.desc).map (fun d => d.parameters.length) = some 5 := by decide +kernel
abbrev rmw_L_act : Room := { frames := 8, cells := 1, slots := 6, locals := 127 }
def g_L_act (st : twS) (w : Nat → Int64) (v1 : Int32) (v2 : Int32) (v3 : Int32) : Option (Int32 × (twS × (Nat → Int64))) :=
  (f_X7_act st v1 v2 v3).bind fun z => match z with
    | .inl x => if x.1 = twX2 then some (1, (x.2, w)) else if x.1 = twX3 then some (2, (x.2, w)) else none
    | .inr u => some (0, (u.2, vp_updL w (0 : Int32).toNatClampNeg u.1.toInt64))
set_option maxRecDepth 20000 in
theorem w_L_act (l : Launch) (hl0 : l.stackTraces = false) (dC : Nat → ClassId) (dI : Nat → Nat → Nat) (cI cZ cJ : ClassId) (q : Nat → Nat) (o : Nat) {st : twS} {w : Nat → Int64} {v1 : Int32} {v2 : Int32} {v3 : Int32} {res : Int32 × (twS × (Nat → Int64))} (hf : g_L_act st w v1 v2 v3 = some res) : twMw l yL_act wsL_act rmw_L_act (dC, dI) (twY3 cI cZ cJ) [.ref (q 0), .int v1, .int v2, .int v3, .ref o] (twTO cI cZ cJ q o st w) res.1 (twTO cI cZ cJ q o res.2.1 res.2.2) := by
  refine tw_entw (cc := cL_act) (maxL := 6) (own := RL) (by decide) rfl (Nat.le_of_ble_eq_true rfl) rfl ?_
  intro p e s m below meth c A Q C X0 hNc hT hE
  generalize ([.ref (q 0), .int v1, .int v2, .int v3, .ref o] : List Value).toArray = args at C hE ⊢
  refine tw_sub (lv' := [(0, .ref (q 0)), (1, .int v1), (2, .int v2), (3, .int v3), (4, .ref o)]) [0, 1, 2, 3, 4] rfl ?_
  unfold g_L_act at hf
  obtain ⟨z, hz, hf⟩ := tw_bd hf
  refine tw_aload C dL_act_0 4 rfl ?_
  refine tw_iconst (v := 0) C dL_act_2 (by decide) ?_
  refine tw_aload_n C dL_act_3 0 rfl rfl ?_
  refine tw_iload_n C dL_act_4 1 rfl rfl ?_
  refine tw_iload_n C dL_act_5 2 rfl rfl ?_
  refine tw_iload_n C dL_act_6 3 rfl rfl ?_
  rcases z with x | u
  · have hf : (if x.1 = twX2 then some (1, (x.2, w)) else if x.1 = twX3 then some (2, (x.2, w)) else  none) = some res := hf
    by_cases e2 : x.1 = twX2
    · have hf := tw_pos hf e2
      obtain ⟨E, s1⟩ := x
      have e2 : E = twX2 := e2
      subst e2
      refine tw_fX (As := [.int v1, .int v2, .int v3]) (stk := [.int 0, .ref o]) (ws' := twTO cI cZ cJ q o s1 w) (Wr := [(o, .inl (cJ, 1, .inr (.inl w)))]) C X0 (isC := List.range 26) (isR := [26]) (ix := [1, 2, 3, 4, 5, 6, 7, 8, 9, 10, 11, 12, 13, 14, 15, 16, 17, 18, 19, 20, 21, 22, 23, 24, 25, 26, 0]) (ki := [0, 1]) ⟨rfl, rfl, rfl, rfl, by decide, rfl, rfl⟩ rfl (x_X7_act l hl0 dC dI cI cZ q hz) (cwV 3 C.hts gL_act_X7_act rfl rfl rfl hd_X7_act ⟨Nat.le_of_ble_eq_true rfl, Nat.le_of_ble_eq_true rfl⟩) 0 (ci := 7) rfl rfl rfl rfl rfl (Nat.le_of_ble_eq_true rfl) dL_act_7 ⟨Nat.le_of_ble_eq_true rfl, Nat.le_of_ble_eq_true rfl⟩ [] (⟨0, 12, 15, 15⟩ : ExceptionTableEntry) [(⟨0, 12, 19, 17⟩ : ExceptionTableEntry)] (hT.trans rfl) (fun z h => nomatch h) (by decide) (by decide) (List.mem_cons_of_mem _ (List.mem_append_left _ (List.mem_append_left _ (List.mem_append_left _ (List.mem_append_left _ (List.mem_append_left _ (List.mem_of_getElem? (i := 0) rfl))))))) X0.2.2.2.2.2.2.2.1 (fun q9 => ?_)
      refine tw_astore (lv' := [(5, .ref q9), (0, .ref (q 0)), (1, .int v1), (2, .int v2), (3, .int v3), (4, .ref o)]) C dL_act_15 (by decide) rfl ?_
      refine tw_iconst (v := 1) C dL_act_17 (by decide) ?_
      exact tw_endi (Wf := fun (u : twS × (Nat → Int64)) => twTO cI cZ cJ q o u.1 u.2) hE hf dL_act_18 rfl
    have hf := tw_neg hf e2
    by_cases e3 : x.1 = twX3
    · have hf := tw_pos hf e3
      obtain ⟨E, s1⟩ := x
      have e3 : E = twX3 := e3
      subst e3
      refine tw_fX (As := [.int v1, .int v2, .int v3]) (stk := [.int 0, .ref o]) (ws' := twTO cI cZ cJ q o s1 w) (Wr := [(o, .inl (cJ, 1, .inr (.inl w)))]) C X0 (isC := List.range 26) (isR := [26]) (ix := [1, 2, 3, 4, 5, 6, 7, 8, 9, 10, 11, 12, 13, 14, 15, 16, 17, 18, 19, 20, 21, 22, 23, 24, 25, 26, 0]) (ki := [0, 1]) ⟨rfl, rfl, rfl, rfl, by decide, rfl, rfl⟩ rfl (x_X7_act l hl0 dC dI cI cZ q hz) (cwV 3 C.hts gL_act_X7_act rfl rfl rfl hd_X7_act ⟨Nat.le_of_ble_eq_true rfl, Nat.le_of_ble_eq_true rfl⟩) 0 (ci := 7) rfl rfl rfl rfl rfl (Nat.le_of_ble_eq_true rfl) dL_act_7 ⟨Nat.le_of_ble_eq_true rfl, Nat.le_of_ble_eq_true rfl⟩ [(⟨0, 12, 15, 15⟩ : ExceptionTableEntry)] (⟨0, 12, 19, 17⟩ : ExceptionTableEntry) [] (hT.trans rfl) (List.forall_mem_cons.mpr ⟨tw_pass1 (nm := twX2) (by decide) (C.hts _ (List.mem_cons_of_mem _ (List.mem_append_left _ (List.mem_append_left _ (List.mem_append_left _ (List.mem_append_left _ (List.mem_append_left _ (List.mem_of_getElem? (i := 0) rfl)))))))) hNc.2.2, fun z h => nomatch h⟩) (by decide) (by decide) (List.mem_cons_of_mem _ (List.mem_append_left _ (List.mem_append_left _ (List.mem_append_left _ (List.mem_append_left _ (List.mem_append_left _ (List.mem_of_getElem? (i := 1) rfl))))))) X0.2.2.2.2.2.2.2.2.1 (fun q9 => ?_)
      refine tw_astore (lv' := [(5, .ref q9), (0, .ref (q 0)), (1, .int v1), (2, .int v2), (3, .int v3), (4, .ref o)]) C dL_act_19 (by decide) rfl ?_
      refine tw_iconst (v := 2) C dL_act_21 (by decide) ?_
      exact tw_endi (Wf := fun (u : twS × (Nat → Int64)) => twTO cI cZ cJ q o u.1 u.2) hE hf dL_act_22 rfl
    have hf := tw_neg hf e3
    cases hf
  refine tw_fVi (As := [.int v1, .int v2, .int v3]) (stk := [.int 0, .ref o]) (ws' := twTO cI cZ cJ q o u.2 w) (Wr := [(o, .inl (cJ, 1, .inr (.inl w)))]) C (isC := List.range 26) (isR := [26]) (ix := [1, 2, 3, 4, 5, 6, 7, 8, 9, 10, 11, 12, 13, 14, 15, 16, 17, 18, 19, 20, 21, 22, 23, 24, 25, 26, 0]) (ki := [0, 1]) ⟨rfl, rfl, rfl, rfl, by decide, rfl, rfl⟩ rfl (c_X7_act l dC dI cI cZ q hz) (cwV 3 C.hts gL_act_X7_act rfl rfl rfl hd_X7_act ⟨Nat.le_of_ble_eq_true rfl, Nat.le_of_ble_eq_true rfl⟩) 0 (ci := 7) rfl rfl rfl rfl rfl (Nat.le_of_ble_eq_true rfl) dL_act_7 ⟨Nat.zero_le _, Nat.zero_le _⟩ ?_
  refine tw_i2l C dL_act_10 ?_
  refine tw_last C 26 2 (tw_in (i := 0) (n := 1) (by decide)) rfl rfl (twTO_a cI cZ cJ q o _ _ _ _) dL_act_11 ?_
  refine tw_goto (tgt := 23) C dL_act_12 (by decide) ?_
  refine tw_iconst (v := 0) C dL_act_23 (by decide) ?_
  refine tw_widen (Nat.zero_le 1) (Nat.zero_le 6) ?_
  exact tw_endi (Wf := fun (u : twS × (Nat → Int64)) => twTO cI cZ cJ q o u.1 u.2) hE hf dL_act_24 rfl
theorem hd_L_command : yL_command.cls ≠ "java/lang/invoke/MethodHandle" ∧ yL_command.cls ≠ "java/lang/invoke/VarHandle" ∧ (parseMethodDescriptor yL_command.desc).map (fun d => d.parameters.length) = some 4 := by decide +kernel
abbrev rmw_L_command : Room := { frames := 8, cells := 1, slots := 6, locals := 126 }
def g_L_command (st : twS) (w : Nat → Int64) (v1 : Int32) (v2 : Int32) : Option (Int32 × (twS × (Nat → Int64))) :=
  (f_X7_command st v1 v2).bind fun z => match z with
    | .inl x => if x.1 = twX1 then some (1, (x.2, w)) else if x.1 = twX2 then some (2, (x.2, w)) else none
    | .inr u => some (0, (u.2, vp_updL w (0 : Int32).toNatClampNeg u.1.toInt64))
set_option maxRecDepth 20000 in
theorem w_L_command (l : Launch) (hl0 : l.stackTraces = false) (dC : Nat → ClassId) (dI : Nat → Nat → Nat) (cI cZ cJ : ClassId) (q : Nat → Nat) (o : Nat) {st : twS} {w : Nat → Int64} {v1 : Int32} {v2 : Int32} {res : Int32 × (twS × (Nat → Int64))} (hf : g_L_command st w v1 v2 = some res) : twMw l yL_command wsL_command rmw_L_command (dC, dI) (twY3 cI cZ cJ) [.ref (q 0), .int v1, .int v2, .ref o] (twTO cI cZ cJ q o st w) res.1 (twTO cI cZ cJ q o res.2.1 res.2.2) := by
  refine tw_entw (cc := cL_command) (maxL := 5) (own := RL) (by decide) rfl (Nat.le_of_ble_eq_true rfl) rfl ?_
  intro p e s m below meth c A Q C X0 hNc hT hE
  generalize ([.ref (q 0), .int v1, .int v2, .ref o] : List Value).toArray = args at C hE ⊢
  refine tw_sub (lv' := [(0, .ref (q 0)), (1, .int v1), (2, .int v2), (3, .ref o)]) [0, 1, 2, 3] rfl ?_
  unfold g_L_command at hf
  obtain ⟨z, hz, hf⟩ := tw_bd hf
  refine tw_aload_n C dL_command_0 3 rfl rfl ?_
  refine tw_iconst (v := 0) C dL_command_1 (by decide) ?_
  refine tw_aload_n C dL_command_2 0 rfl rfl ?_
  refine tw_iload_n C dL_command_3 1 rfl rfl ?_
  refine tw_iload_n C dL_command_4 2 rfl rfl ?_
  rcases z with x | u
  · have hf : (if x.1 = twX1 then some (1, (x.2, w)) else if x.1 = twX2 then some (2, (x.2, w)) else  none) = some res := hf
    by_cases e1 : x.1 = twX1
    · have hf := tw_pos hf e1
      obtain ⟨E, s1⟩ := x
      have e1 : E = twX1 := e1
      subst e1
      refine tw_fX (As := [.int v1, .int v2]) (stk := [.int 0, .ref o]) (ws' := twTO cI cZ cJ q o s1 w) (Wr := [(o, .inl (cJ, 1, .inr (.inl w)))]) C X0 (isC := List.range 26) (isR := [26]) (ix := [1, 2, 3, 4, 5, 6, 7, 8, 9, 10, 11, 12, 13, 14, 15, 16, 17, 18, 19, 20, 21, 22, 23, 24, 25, 26, 0]) (ki := [0, 1]) ⟨rfl, rfl, rfl, rfl, by decide, rfl, rfl⟩ rfl (x_X7_command l hl0 dC dI cI cZ q hz) (cwV 2 C.hts gL_command_X7_command rfl rfl rfl hd_X7_command ⟨Nat.le_of_ble_eq_true rfl, Nat.le_of_ble_eq_true rfl⟩) 0 (ci := 7) rfl rfl rfl rfl rfl (Nat.le_of_ble_eq_true rfl) dL_command_5 ⟨Nat.le_of_ble_eq_true rfl, Nat.le_of_ble_eq_true rfl⟩ [] (⟨0, 10, 13, 13⟩ : ExceptionTableEntry) [(⟨0, 10, 17, 15⟩ : ExceptionTableEntry)] (hT.trans rfl) (fun z h => nomatch h) (by decide) (by decide) (List.mem_cons_of_mem _ (List.mem_append_left _ (List.mem_append_left _ (List.mem_append_left _ (List.mem_append_left _ (List.mem_append_left _ (List.mem_of_getElem? (i := 0) rfl))))))) X0.2.2.2.2.2.2.1 (fun q9 => ?_)
      refine tw_astore (lv' := [(4, .ref q9), (0, .ref (q 0)), (1, .int v1), (2, .int v2), (3, .ref o)]) C dL_command_13 (by decide) rfl ?_
      refine tw_iconst (v := 1) C dL_command_15 (by decide) ?_
      exact tw_endi (Wf := fun (u : twS × (Nat → Int64)) => twTO cI cZ cJ q o u.1 u.2) hE hf dL_command_16 rfl
    have hf := tw_neg hf e1
    by_cases e2 : x.1 = twX2
    · have hf := tw_pos hf e2
      obtain ⟨E, s1⟩ := x
      have e2 : E = twX2 := e2
      subst e2
      refine tw_fX (As := [.int v1, .int v2]) (stk := [.int 0, .ref o]) (ws' := twTO cI cZ cJ q o s1 w) (Wr := [(o, .inl (cJ, 1, .inr (.inl w)))]) C X0 (isC := List.range 26) (isR := [26]) (ix := [1, 2, 3, 4, 5, 6, 7, 8, 9, 10, 11, 12, 13, 14, 15, 16, 17, 18, 19, 20, 21, 22, 23, 24, 25, 26, 0]) (ki := [0, 1]) ⟨rfl, rfl, rfl, rfl, by decide, rfl, rfl⟩ rfl (x_X7_command l hl0 dC dI cI cZ q hz) (cwV 2 C.hts gL_command_X7_command rfl rfl rfl hd_X7_command ⟨Nat.le_of_ble_eq_true rfl, Nat.le_of_ble_eq_true rfl⟩) 0 (ci := 7) rfl rfl rfl rfl rfl (Nat.le_of_ble_eq_true rfl) dL_command_5 ⟨Nat.le_of_ble_eq_true rfl, Nat.le_of_ble_eq_true rfl⟩ [(⟨0, 10, 13, 13⟩ : ExceptionTableEntry)] (⟨0, 10, 17, 15⟩ : ExceptionTableEntry) [] (hT.trans rfl) (List.forall_mem_cons.mpr ⟨tw_pass1 (nm := twX1) (by decide) (C.hts _ (List.mem_cons_of_mem _ (List.mem_append_left _ (List.mem_append_left _ (List.mem_append_left _ (List.mem_append_left _ (List.mem_append_left _ (List.mem_of_getElem? (i := 0) rfl)))))))) hNc.1, fun z h => nomatch h⟩) (by decide) (by decide) (List.mem_cons_of_mem _ (List.mem_append_left _ (List.mem_append_left _ (List.mem_append_left _ (List.mem_append_left _ (List.mem_append_left _ (List.mem_of_getElem? (i := 1) rfl))))))) X0.2.2.2.2.2.2.2.1 (fun q9 => ?_)
      refine tw_astore (lv' := [(4, .ref q9), (0, .ref (q 0)), (1, .int v1), (2, .int v2), (3, .ref o)]) C dL_command_17 (by decide) rfl ?_
      refine tw_iconst (v := 2) C dL_command_19 (by decide) ?_
      exact tw_endi (Wf := fun (u : twS × (Nat → Int64)) => twTO cI cZ cJ q o u.1 u.2) hE hf dL_command_20 rfl
    have hf := tw_neg hf e2
    cases hf
  refine tw_fVi (As := [.int v1, .int v2]) (stk := [.int 0, .ref o]) (ws' := twTO cI cZ cJ q o u.2 w) (Wr := [(o, .inl (cJ, 1, .inr (.inl w)))]) C (isC := List.range 26) (isR := [26]) (ix := [1, 2, 3, 4, 5, 6, 7, 8, 9, 10, 11, 12, 13, 14, 15, 16, 17, 18, 19, 20, 21, 22, 23, 24, 25, 26, 0]) (ki := [0, 1]) ⟨rfl, rfl, rfl, rfl, by decide, rfl, rfl⟩ rfl (c_X7_command l dC dI cI cZ q hz) (cwV 2 C.hts gL_command_X7_command rfl rfl rfl hd_X7_command ⟨Nat.le_of_ble_eq_true rfl, Nat.le_of_ble_eq_true rfl⟩) 0 (ci := 7) rfl rfl rfl rfl rfl (Nat.le_of_ble_eq_true rfl) dL_command_5 ⟨Nat.zero_le _, Nat.zero_le _⟩ ?_
  refine tw_i2l C dL_command_8 ?_
  refine tw_last C 26 2 (tw_in (i := 0) (n := 1) (by decide)) rfl rfl (twTO_a cI cZ cJ q o _ _ _ _) dL_command_9 ?_
  refine tw_goto (tgt := 21) C dL_command_10 (by decide) ?_
  refine tw_iconst (v := 0) C dL_command_21 (by decide) ?_
  refine tw_widen (Nat.zero_le 1) (Nat.zero_le 6) ?_
  exact tw_endi (Wf := fun (u : twS × (Nat → Int64)) => twTO cI cZ cJ q o u.1 u.2) hE hf dL_command_22 rfl
theorem hd_L_step : yL_step.cls ≠ "java/lang/invoke/MethodHandle" ∧ yL_step.cls ≠ "java/lang/invoke/VarHandle" ∧ (parseMethodDescriptor yL_step.desc).map (fun d => d.parameters.length) = some 3 := by decide +kernel
abbrev rmw_L_step : Room := { frames := 8, cells := 1, slots := 6, locals := 165 }
def g_L_step (st : twS) (w : Nat → Int64) (v1 : Int32) : Option (Int32 × (twS × (Nat → Int64))) :=
  (f_X7_step st v1).bind fun z => match z with
    | .inl x => if x.1 = twX2 then some (1, (x.2, w)) else none
    | .inr u => some (0, (u.2, vp_updL w (0 : Int32).toNatClampNeg u.1.toInt64))
set_option maxRecDepth 20000 in
theorem w_L_step (l : Launch) (hl0 : l.stackTraces = false) (dC : Nat → ClassId) (dI : Nat → Nat → Nat) (cI cZ cJ : ClassId) (q : Nat → Nat) (o : Nat) {st : twS} {w : Nat → Int64} {v1 : Int32} {res : Int32 × (twS × (Nat → Int64))} (hf : g_L_step st w v1 = some res) : twMw l yL_step wsL_step rmw_L_step (dC, dI) (twY3 cI cZ cJ) [.ref (q 0), .int v1, .ref o] (twTO cI cZ cJ q o st w) res.1 (twTO cI cZ cJ q o res.2.1 res.2.2) := by
  refine tw_entw (cc := cL_step) (maxL := 4) (own := RL) (by decide) rfl (Nat.le_of_ble_eq_true rfl) rfl ?_
  intro p e s m below meth c A Q C X0 hNc hT hE
  generalize ([.ref (q 0), .int v1, .ref o] : List Value).toArray = args at C hE ⊢
  refine tw_sub (lv' := [(0, .ref (q 0)), (1, .int v1), (2, .ref o)]) [0, 1, 2] rfl ?_
  unfold g_L_step at hf
  obtain ⟨z, hz, hf⟩ := tw_bd hf
  refine tw_aload_n C dL_step_0 2 rfl rfl ?_
  refine tw_iconst (v := 0) C dL_step_1 (by decide) ?_
  refine tw_aload_n C dL_step_2 0 rfl rfl ?_
  refine tw_iload_n C dL_step_3 1 rfl rfl ?_
  rcases z with x | u
  · have hf : (if x.1 = twX2 then some (1, (x.2, w)) else  none) = some res := hf
    by_cases e2 : x.1 = twX2
    · have hf := tw_pos hf e2
      obtain ⟨E, s1⟩ := x
      have e2 : E = twX2 := e2
      subst e2
      refine tw_fX (As := [.int v1]) (stk := [.int 0, .ref o]) (ws' := twTO cI cZ cJ q o s1 w) (Wr := [(o, .inl (cJ, 1, .inr (.inl w)))]) C X0 (isC := List.range 26) (isR := [26]) (ix := [1, 2, 3, 4, 5, 6, 7, 8, 9, 10, 11, 12, 13, 14, 15, 16, 17, 18, 19, 20, 21, 22, 23, 24, 25, 26, 0]) (ki := [0, 1]) ⟨rfl, rfl, rfl, rfl, by decide, rfl, rfl⟩ rfl (x_X7_step l hl0 dC dI cI cZ q hz) (cwV 1 C.hts gL_step_X7_step rfl rfl rfl hd_X7_step ⟨Nat.le_of_ble_eq_true rfl, Nat.le_of_ble_eq_true rfl⟩) 0 (ci := 7) rfl rfl rfl rfl rfl (Nat.le_of_ble_eq_true rfl) dL_step_4 ⟨Nat.le_of_ble_eq_true rfl, Nat.le_of_ble_eq_true rfl⟩ [] (⟨0, 9, 12, 15⟩ : ExceptionTableEntry) [] (hT.trans rfl) (fun z h => nomatch h) (by decide) (by decide) (List.mem_cons_of_mem _ (List.mem_append_left _ (List.mem_append_left _ (List.mem_append_left _ (List.mem_append_left _ (List.mem_append_left _ (List.mem_append_left _ (List.mem_append_left _ (List.mem_append_left _ (List.mem_append_left _ (List.mem_append_left _ (List.mem_of_getElem? (i := 0) rfl)))))))))))) X0.2.2.2.2.2.2.2.1 (fun q9 => ?_)
      refine tw_astore_n (lv' := [(3, .ref q9), (0, .ref (q 0)), (1, .int v1), (2, .ref o)]) C dL_step_12 rfl (by decide) rfl ?_
      refine tw_iconst (v := 1) C dL_step_13 (by decide) ?_
      exact tw_endi (Wf := fun (u : twS × (Nat → Int64)) => twTO cI cZ cJ q o u.1 u.2) hE hf dL_step_14 rfl
    have hf := tw_neg hf e2
    cases hf
  refine tw_fVi (As := [.int v1]) (stk := [.int 0, .ref o]) (ws' := twTO cI cZ cJ q o u.2 w) (Wr := [(o, .inl (cJ, 1, .inr (.inl w)))]) C (isC := List.range 26) (isR := [26]) (ix := [1, 2, 3, 4, 5, 6, 7, 8, 9, 10, 11, 12, 13, 14, 15, 16, 17, 18, 19, 20, 21, 22, 23, 24, 25, 26, 0]) (ki := [0, 1]) ⟨rfl, rfl, rfl, rfl, by decide, rfl, rfl⟩ rfl (c_X7_step l dC dI cI cZ q hz) (cwV 1 C.hts gL_step_X7_step rfl rfl rfl hd_X7_step ⟨Nat.le_of_ble_eq_true rfl, Nat.le_of_ble_eq_true rfl⟩) 0 (ci := 7) rfl rfl rfl rfl rfl (Nat.le_of_ble_eq_true rfl) dL_step_4 ⟨Nat.zero_le _, Nat.zero_le _⟩ ?_
  refine tw_i2l C dL_step_7 ?_
  refine tw_last C 26 2 (tw_in (i := 0) (n := 1) (by decide)) rfl rfl (twTO_a cI cZ cJ q o _ _ _ _) dL_step_8 ?_
  refine tw_goto (tgt := 15) C dL_step_9 (by decide) ?_
  refine tw_iconst (v := 0) C dL_step_15 (by decide) ?_
  refine tw_widen (Nat.zero_le 1) (Nat.zero_le 6) ?_
  exact tw_endi (Wf := fun (u : twS × (Nat → Int64)) => twTO cI cZ cJ q o u.1 u.2) hE hf dL_step_16 rfl
theorem hd_L_segment : yL_segment.cls ≠ "java/lang/invoke/MethodHandle" ∧ yL_segment.cls ≠ "java/lang/invoke/VarHandle" ∧ (parseMethodDescriptor yL_segment.desc).map (fun d => d.parameters.length) = some 4 := by decide +kernel
abbrev rmw_L_segment : Room := { frames := 9, cells := 1, slots := 6, locals := 145 }
def g_L_segment (st : twS) (w : Nat → Int64) (v1 : Int32) (v2 : Int32) : Option (Int32 × (twS × (Nat → Int64))) :=
  (f_X7_segment st v1 v2).bind fun z => match z with
    | .inl x => if x.1 = twX1 then some (1, (x.2, w)) else if x.1 = twX2 then some (2, (x.2, w)) else none
    | .inr u => some (0, (u.2, vp_updL w (0 : Int32).toNatClampNeg u.1.toInt64))
set_option maxRecDepth 20000 in
theorem w_L_segment (l : Launch) (hl0 : l.stackTraces = false) (dC : Nat → ClassId) (dI : Nat → Nat → Nat) (cI cZ cJ : ClassId) (q : Nat → Nat) (o : Nat) {st : twS} {w : Nat → Int64} {v1 : Int32} {v2 : Int32} {res : Int32 × (twS × (Nat → Int64))} (hf : g_L_segment st w v1 v2 = some res) : twMw l yL_segment wsL_segment rmw_L_segment (dC, dI) (twY3 cI cZ cJ) [.ref (q 0), .int v1, .int v2, .ref o] (twTO cI cZ cJ q o st w) res.1 (twTO cI cZ cJ q o res.2.1 res.2.2) := by
  refine tw_entw (cc := cL_segment) (maxL := 5) (own := RL) (by decide) rfl (Nat.le_of_ble_eq_true rfl) rfl ?_
  intro p e s m below meth c A Q C X0 hNc hT hE
  generalize ([.ref (q 0), .int v1, .int v2, .ref o] : List Value).toArray = args at C hE ⊢
  refine tw_sub (lv' := [(0, .ref (q 0)), (1, .int v1), (2, .int v2), (3, .ref o)]) [0, 1, 2, 3] rfl ?_
  unfold g_L_segment at hf
  obtain ⟨z, hz, hf⟩ := tw_bd hf
  refine tw_aload_n C dL_segment_0 3 rfl rfl ?_
  refine tw_iconst (v := 0) C dL_segment_1 (by decide) ?_
  refine tw_aload_n C dL_segment_2 0 rfl rfl ?_
  refine tw_iload_n C dL_segment_3 1 rfl rfl ?_
  refine tw_iload_n C dL_segment_4 2 rfl rfl ?_
  rcases z with x | u
  · have hf : (if x.1 = twX1 then some (1, (x.2, w)) else if x.1 = twX2 then some (2, (x.2, w)) else  none) = some res := hf
    by_cases e1 : x.1 = twX1
    · have hf := tw_pos hf e1
      obtain ⟨E, s1⟩ := x
      have e1 : E = twX1 := e1
      subst e1
      refine tw_fX (As := [.int v1, .int v2]) (stk := [.int 0, .ref o]) (ws' := twTO cI cZ cJ q o s1 w) (Wr := [(o, .inl (cJ, 1, .inr (.inl w)))]) C X0 (isC := List.range 26) (isR := [26]) (ix := [1, 2, 3, 4, 5, 6, 7, 8, 9, 10, 11, 12, 13, 14, 15, 16, 17, 18, 19, 20, 21, 22, 23, 24, 25, 26, 0]) (ki := [0, 1]) ⟨rfl, rfl, rfl, rfl, by decide, rfl, rfl⟩ rfl (x_X7_segment l hl0 dC dI cI cZ q hz) (cwV 2 C.hts gL_segment_X7_segment rfl rfl rfl hd_X7_segment ⟨Nat.le_of_ble_eq_true rfl, Nat.le_of_ble_eq_true rfl⟩) 0 (ci := 7) rfl rfl rfl rfl rfl (Nat.le_of_ble_eq_true rfl) dL_segment_5 ⟨Nat.le_of_ble_eq_true rfl, Nat.le_of_ble_eq_true rfl⟩ [] (⟨0, 10, 13, 13⟩ : ExceptionTableEntry) [(⟨0, 10, 17, 15⟩ : ExceptionTableEntry)] (hT.trans rfl) (fun z h => nomatch h) (by decide) (by decide) (List.mem_cons_of_mem _ (List.mem_append_left _ (List.mem_append_left _ (List.mem_append_left _ (List.mem_append_left _ (List.mem_append_left _ (List.mem_append_left _ (List.mem_append_left _ (List.mem_of_getElem? (i := 0) rfl))))))))) X0.2.2.2.2.2.2.1 (fun q9 => ?_)
      refine tw_astore (lv' := [(4, .ref q9), (0, .ref (q 0)), (1, .int v1), (2, .int v2), (3, .ref o)]) C dL_segment_13 (by decide) rfl ?_
      refine tw_iconst (v := 1) C dL_segment_15 (by decide) ?_
      exact tw_endi (Wf := fun (u : twS × (Nat → Int64)) => twTO cI cZ cJ q o u.1 u.2) hE hf dL_segment_16 rfl
    have hf := tw_neg hf e1
    by_cases e2 : x.1 = twX2
    · have hf := tw_pos hf e2
      obtain ⟨E, s1⟩ := x
      have e2 : E = twX2 := e2
      subst e2
      refine tw_fX (As := [.int v1, .int v2]) (stk := [.int 0, .ref o]) (ws' := twTO cI cZ cJ q o s1 w) (Wr := [(o, .inl (cJ, 1, .inr (.inl w)))]) C X0 (isC := List.range 26) (isR := [26]) (ix := [1, 2, 3, 4, 5, 6, 7, 8, 9, 10, 11, 12, 13, 14, 15, 16, 17, 18, 19, 20, 21, 22, 23, 24, 25, 26, 0]) (ki := [0, 1]) ⟨rfl, rfl, rfl, rfl, by decide, rfl, rfl⟩ rfl (x_X7_segment l hl0 dC dI cI cZ q hz) (cwV 2 C.hts gL_segment_X7_segment rfl rfl rfl hd_X7_segment ⟨Nat.le_of_ble_eq_true rfl, Nat.le_of_ble_eq_true rfl⟩) 0 (ci := 7) rfl rfl rfl rfl rfl (Nat.le_of_ble_eq_true rfl) dL_segment_5 ⟨Nat.le_of_ble_eq_true rfl, Nat.le_of_ble_eq_true rfl⟩ [(⟨0, 10, 13, 13⟩ : ExceptionTableEntry)] (⟨0, 10, 17, 15⟩ : ExceptionTableEntry) [] (hT.trans rfl) (List.forall_mem_cons.mpr ⟨tw_pass1 (nm := twX1) (by decide) (C.hts _ (List.mem_cons_of_mem _ (List.mem_append_left _ (List.mem_append_left _ (List.mem_append_left _ (List.mem_append_left _ (List.mem_append_left _ (List.mem_append_left _ (List.mem_append_left _ (List.mem_of_getElem? (i := 0) rfl)))))))))) hNc.1, fun z h => nomatch h⟩) (by decide) (by decide) (List.mem_cons_of_mem _ (List.mem_append_left _ (List.mem_append_left _ (List.mem_append_left _ (List.mem_append_left _ (List.mem_append_left _ (List.mem_append_left _ (List.mem_append_left _ (List.mem_of_getElem? (i := 1) rfl))))))))) X0.2.2.2.2.2.2.2.1 (fun q9 => ?_)
      refine tw_astore (lv' := [(4, .ref q9), (0, .ref (q 0)), (1, .int v1), (2, .int v2), (3, .ref o)]) C dL_segment_17 (by decide) rfl ?_
      refine tw_iconst (v := 2) C dL_segment_19 (by decide) ?_
      exact tw_endi (Wf := fun (u : twS × (Nat → Int64)) => twTO cI cZ cJ q o u.1 u.2) hE hf dL_segment_20 rfl
    have hf := tw_neg hf e2
    cases hf
  refine tw_fVi (As := [.int v1, .int v2]) (stk := [.int 0, .ref o]) (ws' := twTO cI cZ cJ q o u.2 w) (Wr := [(o, .inl (cJ, 1, .inr (.inl w)))]) C (isC := List.range 26) (isR := [26]) (ix := [1, 2, 3, 4, 5, 6, 7, 8, 9, 10, 11, 12, 13, 14, 15, 16, 17, 18, 19, 20, 21, 22, 23, 24, 25, 26, 0]) (ki := [0, 1]) ⟨rfl, rfl, rfl, rfl, by decide, rfl, rfl⟩ rfl (c_X7_segment l dC dI cI cZ q hz) (cwV 2 C.hts gL_segment_X7_segment rfl rfl rfl hd_X7_segment ⟨Nat.le_of_ble_eq_true rfl, Nat.le_of_ble_eq_true rfl⟩) 0 (ci := 7) rfl rfl rfl rfl rfl (Nat.le_of_ble_eq_true rfl) dL_segment_5 ⟨Nat.zero_le _, Nat.zero_le _⟩ ?_
  refine tw_i2l C dL_segment_8 ?_
  refine tw_last C 26 2 (tw_in (i := 0) (n := 1) (by decide)) rfl rfl (twTO_a cI cZ cJ q o _ _ _ _) dL_segment_9 ?_
  refine tw_goto (tgt := 21) C dL_segment_10 (by decide) ?_
  refine tw_iconst (v := 0) C dL_segment_21 (by decide) ?_
  refine tw_widen (Nat.zero_le 1) (Nat.zero_le 6) ?_
  exact tw_endi (Wf := fun (u : twS × (Nat → Int64)) => twTO cI cZ cJ q o u.1 u.2) hE hf dL_segment_22 rfl
theorem hd_L_fan : yL_fan.cls ≠ "java/lang/invoke/MethodHandle" ∧ yL_fan.cls ≠ "java/lang/invoke/VarHandle" ∧ (parseMethodDescriptor yL_fan.desc).map (fun d => d.parameters.length) = some 3 := by decide +kernel
abbrev rmw_L_fan : Room := { frames := 8, cells := 1, slots := 6, locals := 124 }
def g_L_fan (st : twS) (w : Nat → Int64) (v1 : Int32) : Option (Int32 × (twS × (Nat → Int64))) :=
  (f_X7_fan st v1).bind fun z => match z with
    | .inl x => if x.1 = twX1 then some (1, (x.2, w)) else none
    | .inr u => some (0, (u.2, vp_updL w (0 : Int32).toNatClampNeg u.1.toInt64))
set_option maxRecDepth 20000 in
theorem w_L_fan (l : Launch) (hl0 : l.stackTraces = false) (dC : Nat → ClassId) (dI : Nat → Nat → Nat) (cI cZ cJ : ClassId) (q : Nat → Nat) (o : Nat) {st : twS} {w : Nat → Int64} {v1 : Int32} {res : Int32 × (twS × (Nat → Int64))} (hf : g_L_fan st w v1 = some res) : twMw l yL_fan wsL_fan rmw_L_fan (dC, dI) (twY3 cI cZ cJ) [.ref (q 0), .int v1, .ref o] (twTO cI cZ cJ q o st w) res.1 (twTO cI cZ cJ q o res.2.1 res.2.2) := by
  refine tw_entw (cc := cL_fan) (maxL := 4) (own := RL) (by decide) rfl (Nat.le_of_ble_eq_true rfl) rfl ?_
  intro p e s m below meth c A Q C X0 hNc hT hE
  generalize ([.ref (q 0), .int v1, .ref o] : List Value).toArray = args at C hE ⊢
  refine tw_sub (lv' := [(0, .ref (q 0)), (1, .int v1), (2, .ref o)]) [0, 1, 2] rfl ?_
  unfold g_L_fan at hf
  obtain ⟨z, hz, hf⟩ := tw_bd hf
  refine tw_aload_n C dL_fan_0 2 rfl rfl ?_
  refine tw_iconst (v := 0) C dL_fan_1 (by decide) ?_
  refine tw_aload_n C dL_fan_2 0 rfl rfl ?_
  refine tw_iload_n C dL_fan_3 1 rfl rfl ?_
  rcases z with x | u
  · have hf : (if x.1 = twX1 then some (1, (x.2, w)) else  none) = some res := hf
    by_cases e1 : x.1 = twX1
    · have hf := tw_pos hf e1
      obtain ⟨E, s1⟩ := x
      have e1 : E = twX1 := e1
      subst e1
      refine tw_fX (As := [.int v1]) (stk := [.int 0, .ref o]) (ws' := twTO cI cZ cJ q o s1 w) (Wr := [(o, .inl (cJ, 1, .inr (.inl w)))]) C X0 (isC := List.range 26) (isR := [26]) (ix := [1, 2, 3, 4, 5, 6, 7, 8, 9, 10, 11, 12, 13, 14, 15, 16, 17, 18, 19, 20, 21, 22, 23, 24, 25, 26, 0]) (ki := [0, 1]) ⟨rfl, rfl, rfl, rfl, by decide, rfl, rfl⟩ rfl (x_X7_fan l hl0 dC dI cI cZ q hz) (cwV 1 C.hts gL_fan_X7_fan rfl rfl rfl hd_X7_fan ⟨Nat.le_of_ble_eq_true rfl, Nat.le_of_ble_eq_true rfl⟩) 0 (ci := 7) rfl rfl rfl rfl rfl (Nat.le_of_ble_eq_true rfl) dL_fan_4 ⟨Nat.le_of_ble_eq_true rfl, Nat.le_of_ble_eq_true rfl⟩ [] (⟨0, 9, 12, 13⟩ : ExceptionTableEntry) [] (hT.trans rfl) (fun z h => nomatch h) (by decide) (by decide) (List.mem_cons_of_mem _ (List.mem_append_left _ (List.mem_append_left _ (List.mem_append_left _ (List.mem_of_getElem? (i := 0) rfl))))) X0.2.2.2.2.2.2.1 (fun q9 => ?_)
      refine tw_astore_n (lv' := [(3, .ref q9), (0, .ref (q 0)), (1, .int v1), (2, .ref o)]) C dL_fan_12 rfl (by decide) rfl ?_
      refine tw_iconst (v := 1) C dL_fan_13 (by decide) ?_
      exact tw_endi (Wf := fun (u : twS × (Nat → Int64)) => twTO cI cZ cJ q o u.1 u.2) hE hf dL_fan_14 rfl
    have hf := tw_neg hf e1
    cases hf
  refine tw_fVi (As := [.int v1]) (stk := [.int 0, .ref o]) (ws' := twTO cI cZ cJ q o u.2 w) (Wr := [(o, .inl (cJ, 1, .inr (.inl w)))]) C (isC := List.range 26) (isR := [26]) (ix := [1, 2, 3, 4, 5, 6, 7, 8, 9, 10, 11, 12, 13, 14, 15, 16, 17, 18, 19, 20, 21, 22, 23, 24, 25, 26, 0]) (ki := [0, 1]) ⟨rfl, rfl, rfl, rfl, by decide, rfl, rfl⟩ rfl (c_X7_fan l dC dI cI cZ q hz) (cwV 1 C.hts gL_fan_X7_fan rfl rfl rfl hd_X7_fan ⟨Nat.le_of_ble_eq_true rfl, Nat.le_of_ble_eq_true rfl⟩) 0 (ci := 7) rfl rfl rfl rfl rfl (Nat.le_of_ble_eq_true rfl) dL_fan_4 ⟨Nat.zero_le _, Nat.zero_le _⟩ ?_
  refine tw_i2l C dL_fan_7 ?_
  refine tw_last C 26 2 (tw_in (i := 0) (n := 1) (by decide)) rfl rfl (twTO_a cI cZ cJ q o _ _ _ _) dL_fan_8 ?_
  refine tw_goto (tgt := 15) C dL_fan_9 (by decide) ?_
  refine tw_iconst (v := 0) C dL_fan_15 (by decide) ?_
  refine tw_widen (Nat.zero_le 1) (Nat.zero_le 6) ?_
  exact tw_endi (Wf := fun (u : twS × (Nat → Int64)) => twTO cI cZ cJ q o u.1 u.2) hE hf dL_fan_16 rfl
theorem hd_L_done : yL_done.cls ≠ "java/lang/invoke/MethodHandle" ∧ yL_done.cls ≠ "java/lang/invoke/VarHandle" ∧ (parseMethodDescriptor yL_done.desc).map (fun d => d.parameters.length) = some 3 := by decide +kernel
abbrev rmw_L_done : Room := { frames := 8, cells := 1, slots := 6, locals := 124 }
def g_L_done (st : twS) (w : Nat → Int64) (v1 : Int32) : Option (Int32 × (twS × (Nat → Int64))) :=
  (f_X7_done st v1).bind fun z => match z with
    | .inl x => if x.1 = twX1 then some (1, (x.2, w)) else none
    | .inr u => some (0, (u.2, vp_updL w (0 : Int32).toNatClampNeg u.1.toInt64))
set_option maxRecDepth 20000 in
theorem w_L_done (l : Launch) (hl0 : l.stackTraces = false) (dC : Nat → ClassId) (dI : Nat → Nat → Nat) (cI cZ cJ : ClassId) (q : Nat → Nat) (o : Nat) {st : twS} {w : Nat → Int64} {v1 : Int32} {res : Int32 × (twS × (Nat → Int64))} (hf : g_L_done st w v1 = some res) : twMw l yL_done wsL_done rmw_L_done (dC, dI) (twY3 cI cZ cJ) [.ref (q 0), .int v1, .ref o] (twTO cI cZ cJ q o st w) res.1 (twTO cI cZ cJ q o res.2.1 res.2.2) := by
  refine tw_entw (cc := cL_done) (maxL := 4) (own := RL) (by decide) rfl (Nat.le_of_ble_eq_true rfl) rfl ?_
  intro p e s m below meth c A Q C X0 hNc hT hE
  generalize ([.ref (q 0), .int v1, .ref o] : List Value).toArray = args at C hE ⊢
  refine tw_sub (lv' := [(0, .ref (q 0)), (1, .int v1), (2, .ref o)]) [0, 1, 2] rfl ?_
  unfold g_L_done at hf
  obtain ⟨z, hz, hf⟩ := tw_bd hf
  refine tw_aload_n C dL_done_0 2 rfl rfl ?_
  refine tw_iconst (v := 0) C dL_done_1 (by decide) ?_
  refine tw_aload_n C dL_done_2 0 rfl rfl ?_
  refine tw_iload_n C dL_done_3 1 rfl rfl ?_
  rcases z with x | u
  · have hf : (if x.1 = twX1 then some (1, (x.2, w)) else  none) = some res := hf
    by_cases e1 : x.1 = twX1
    · have hf := tw_pos hf e1
      obtain ⟨E, s1⟩ := x
      have e1 : E = twX1 := e1
      subst e1
      refine tw_fX (As := [.int v1]) (stk := [.int 0, .ref o]) (ws' := twTO cI cZ cJ q o s1 w) (Wr := [(o, .inl (cJ, 1, .inr (.inl w)))]) C X0 (isC := List.range 26) (isR := [26]) (ix := [1, 2, 3, 4, 5, 6, 7, 8, 9, 10, 11, 12, 13, 14, 15, 16, 17, 18, 19, 20, 21, 22, 23, 24, 25, 26, 0]) (ki := [0, 1]) ⟨rfl, rfl, rfl, rfl, by decide, rfl, rfl⟩ rfl (x_X7_done l hl0 dC dI cI cZ q hz) (cwV 1 C.hts gL_done_X7_done rfl rfl rfl hd_X7_done ⟨Nat.le_of_ble_eq_true rfl, Nat.le_of_ble_eq_true rfl⟩) 0 (ci := 7) rfl rfl rfl rfl rfl (Nat.le_of_ble_eq_true rfl) dL_done_4 ⟨Nat.le_of_ble_eq_true rfl, Nat.le_of_ble_eq_true rfl⟩ [] (⟨0, 9, 12, 13⟩ : ExceptionTableEntry) [] (hT.trans rfl) (fun z h => nomatch h) (by decide) (by decide) (List.mem_cons_of_mem _ (List.mem_append_left _ (List.mem_append_left _ (List.mem_append_left _ (List.mem_append_left _ (List.mem_of_getElem? (i := 0) rfl)))))) X0.2.2.2.2.2.2.1 (fun q9 => ?_)
      refine tw_astore_n (lv' := [(3, .ref q9), (0, .ref (q 0)), (1, .int v1), (2, .ref o)]) C dL_done_12 rfl (by decide) rfl ?_
      refine tw_iconst (v := 1) C dL_done_13 (by decide) ?_
      exact tw_endi (Wf := fun (u : twS × (Nat → Int64)) => twTO cI cZ cJ q o u.1 u.2) hE hf dL_done_14 rfl
    have hf := tw_neg hf e1
    cases hf
  refine tw_fVi (As := [.int v1]) (stk := [.int 0, .ref o]) (ws' := twTO cI cZ cJ q o u.2 w) (Wr := [(o, .inl (cJ, 1, .inr (.inl w)))]) C (isC := List.range 26) (isR := [26]) (ix := [1, 2, 3, 4, 5, 6, 7, 8, 9, 10, 11, 12, 13, 14, 15, 16, 17, 18, 19, 20, 21, 22, 23, 24, 25, 26, 0]) (ki := [0, 1]) ⟨rfl, rfl, rfl, rfl, by decide, rfl, rfl⟩ rfl (c_X7_done l dC dI cI cZ q hz) (cwV 1 C.hts gL_done_X7_done rfl rfl rfl hd_X7_done ⟨Nat.le_of_ble_eq_true rfl, Nat.le_of_ble_eq_true rfl⟩) 0 (ci := 7) rfl rfl rfl rfl rfl (Nat.le_of_ble_eq_true rfl) dL_done_4 ⟨Nat.zero_le _, Nat.zero_le _⟩ ?_
  refine tw_i2l C dL_done_7 ?_
  refine tw_last C 26 2 (tw_in (i := 0) (n := 1) (by decide)) rfl rfl (twTO_a cI cZ cJ q o _ _ _ _) dL_done_8 ?_
  refine tw_goto (tgt := 15) C dL_done_9 (by decide) ?_
  refine tw_iconst (v := 0) C dL_done_15 (by decide) ?_
  refine tw_widen (Nat.zero_le 1) (Nat.zero_le 6) ?_
  exact tw_endi (Wf := fun (u : twS × (Nat → Int64)) => twTO cI cZ cJ q o u.1 u.2) hE hf dL_done_16 rfl
theorem hd_L_person : yL_person.cls ≠ "java/lang/invoke/MethodHandle" ∧ yL_person.cls ≠ "java/lang/invoke/VarHandle" ∧ (parseMethodDescriptor yL_person.desc).map (fun d => d.parameters.length) = some 4 := by decide +kernel
abbrev rmw_L_person : Room := { frames := 8, cells := 1, slots := 6, locals := 126 }
def g_L_person (st : twS) (w : Nat → Int64) (v1 : Int32) (v2 : Int32) : Option (Int32 × (twS × (Nat → Int64))) :=
  (f_X7_person st v1 v2).bind fun z => match z with
    | .inl x => if x.1 = twX1 then some (1, (x.2, w)) else if x.1 = twX2 then some (2, (x.2, w)) else none
    | .inr u => some (0, (u.2, vp_updL w (0 : Int32).toNatClampNeg u.1.toInt64))
set_option maxRecDepth 20000 in
theorem w_L_person (l : Launch) (hl0 : l.stackTraces = false) (dC : Nat → ClassId) (dI : Nat → Nat → Nat) (cI cZ cJ : ClassId) (q : Nat → Nat) (o : Nat) {st : twS} {w : Nat → Int64} {v1 : Int32} {v2 : Int32} {res : Int32 × (twS × (Nat → Int64))} (hf : g_L_person st w v1 v2 = some res) : twMw l yL_person wsL_person rmw_L_person (dC, dI) (twY3 cI cZ cJ) [.ref (q 0), .int v1, .int v2, .ref o] (twTO cI cZ cJ q o st w) res.1 (twTO cI cZ cJ q o res.2.1 res.2.2) := by
  refine tw_entw (cc := cL_person) (maxL := 5) (own := RL) (by decide) rfl (Nat.le_of_ble_eq_true rfl) rfl ?_
  intro p e s m below meth c A Q C X0 hNc hT hE
  generalize ([.ref (q 0), .int v1, .int v2, .ref o] : List Value).toArray = args at C hE ⊢
  refine tw_sub (lv' := [(0, .ref (q 0)), (1, .int v1), (2, .int v2), (3, .ref o)]) [0, 1, 2, 3] rfl ?_
  unfold g_L_person at hf
  obtain ⟨z, hz, hf⟩ := tw_bd hf
  refine tw_aload_n C dL_person_0 3 rfl rfl ?_
  refine tw_iconst (v := 0) C dL_person_1 (by decide) ?_
  refine tw_aload_n C dL_person_2 0 rfl rfl ?_
  refine tw_iload_n C dL_person_3 1 rfl rfl ?_
  refine tw_iload_n C dL_person_4 2 rfl rfl ?_
  rcases z with x | u
  · have hf : (if x.1 = twX1 then some (1, (x.2, w)) else if x.1 = twX2 then some (2, (x.2, w)) else  none) = some res := hf
    by_cases e1 : x.1 = twX1
    · have hf := tw_pos hf e1
      obtain ⟨E, s1⟩ := x
      have e1 : E = twX1 := e1
      subst e1
      refine tw_fX (As := [.int v1, .int v2]) (stk := [.int 0, .ref o]) (ws' := twTO cI cZ cJ q o s1 w) (Wr := [(o, .inl (cJ, 1, .inr (.inl w)))]) C X0 (isC := List.range 26) (isR := [26]) (ix := [1, 2, 3, 4, 5, 6, 7, 8, 9, 10, 11, 12, 13, 14, 15, 16, 17, 18, 19, 20, 21, 22, 23, 24, 25, 26, 0]) (ki := [0, 1]) ⟨rfl, rfl, rfl, rfl, by decide, rfl, rfl⟩ rfl (x_X7_person l hl0 dC dI cI cZ q hz) (cwV 2 C.hts gL_person_X7_person rfl rfl rfl hd_X7_person ⟨Nat.le_of_ble_eq_true rfl, Nat.le_of_ble_eq_true rfl⟩) 0 (ci := 7) rfl rfl rfl rfl rfl (Nat.le_of_ble_eq_true rfl) dL_person_5 ⟨Nat.le_of_ble_eq_true rfl, Nat.le_of_ble_eq_true rfl⟩ [] (⟨0, 10, 13, 13⟩ : ExceptionTableEntry) [(⟨0, 10, 17, 15⟩ : ExceptionTableEntry)] (hT.trans rfl) (fun z h => nomatch h) (by decide) (by decide) (List.mem_cons_of_mem _ (List.mem_append_left _ (List.mem_append_left _ (List.mem_append_left _ (List.mem_append_left _ (List.mem_append_left _ (List.mem_of_getElem? (i := 0) rfl))))))) X0.2.2.2.2.2.2.1 (fun q9 => ?_)
      refine tw_astore (lv' := [(4, .ref q9), (0, .ref (q 0)), (1, .int v1), (2, .int v2), (3, .ref o)]) C dL_person_13 (by decide) rfl ?_
      refine tw_iconst (v := 1) C dL_person_15 (by decide) ?_
      exact tw_endi (Wf := fun (u : twS × (Nat → Int64)) => twTO cI cZ cJ q o u.1 u.2) hE hf dL_person_16 rfl
    have hf := tw_neg hf e1
    by_cases e2 : x.1 = twX2
    · have hf := tw_pos hf e2
      obtain ⟨E, s1⟩ := x
      have e2 : E = twX2 := e2
      subst e2
      refine tw_fX (As := [.int v1, .int v2]) (stk := [.int 0, .ref o]) (ws' := twTO cI cZ cJ q o s1 w) (Wr := [(o, .inl (cJ, 1, .inr (.inl w)))]) C X0 (isC := List.range 26) (isR := [26]) (ix := [1, 2, 3, 4, 5, 6, 7, 8, 9, 10, 11, 12, 13, 14, 15, 16, 17, 18, 19, 20, 21, 22, 23, 24, 25, 26, 0]) (ki := [0, 1]) ⟨rfl, rfl, rfl, rfl, by decide, rfl, rfl⟩ rfl (x_X7_person l hl0 dC dI cI cZ q hz) (cwV 2 C.hts gL_person_X7_person rfl rfl rfl hd_X7_person ⟨Nat.le_of_ble_eq_true rfl, Nat.le_of_ble_eq_true rfl⟩) 0 (ci := 7) rfl rfl rfl rfl rfl (Nat.le_of_ble_eq_true rfl) dL_person_5 ⟨Nat.le_of_ble_eq_true rfl, Nat.le_of_ble_eq_true rfl⟩ [(⟨0, 10, 13, 13⟩ : ExceptionTableEntry)] (⟨0, 10, 17, 15⟩ : ExceptionTableEntry) [] (hT.trans rfl) (List.forall_mem_cons.mpr ⟨tw_pass1 (nm := twX1) (by decide) (C.hts _ (List.mem_cons_of_mem _ (List.mem_append_left _ (List.mem_append_left _ (List.mem_append_left _ (List.mem_append_left _ (List.mem_append_left _ (List.mem_of_getElem? (i := 0) rfl)))))))) hNc.1, fun z h => nomatch h⟩) (by decide) (by decide) (List.mem_cons_of_mem _ (List.mem_append_left _ (List.mem_append_left _ (List.mem_append_left _ (List.mem_append_left _ (List.mem_append_left _ (List.mem_of_getElem? (i := 1) rfl))))))) X0.2.2.2.2.2.2.2.1 (fun q9 => ?_)
      refine tw_astore (lv' := [(4, .ref q9), (0, .ref (q 0)), (1, .int v1), (2, .int v2), (3, .ref o)]) C dL_person_17 (by decide) rfl ?_
      refine tw_iconst (v := 2) C dL_person_19 (by decide) ?_
      exact tw_endi (Wf := fun (u : twS × (Nat → Int64)) => twTO cI cZ cJ q o u.1 u.2) hE hf dL_person_20 rfl
    have hf := tw_neg hf e2
    cases hf
  refine tw_fVi (As := [.int v1, .int v2]) (stk := [.int 0, .ref o]) (ws' := twTO cI cZ cJ q o u.2 w) (Wr := [(o, .inl (cJ, 1, .inr (.inl w)))]) C (isC := List.range 26) (isR := [26]) (ix := [1, 2, 3, 4, 5, 6, 7, 8, 9, 10, 11, 12, 13, 14, 15, 16, 17, 18, 19, 20, 21, 22, 23, 24, 25, 26, 0]) (ki := [0, 1]) ⟨rfl, rfl, rfl, rfl, by decide, rfl, rfl⟩ rfl (c_X7_person l dC dI cI cZ q hz) (cwV 2 C.hts gL_person_X7_person rfl rfl rfl hd_X7_person ⟨Nat.le_of_ble_eq_true rfl, Nat.le_of_ble_eq_true rfl⟩) 0 (ci := 7) rfl rfl rfl rfl rfl (Nat.le_of_ble_eq_true rfl) dL_person_5 ⟨Nat.zero_le _, Nat.zero_le _⟩ ?_
  refine tw_i2l C dL_person_8 ?_
  refine tw_last C 26 2 (tw_in (i := 0) (n := 1) (by decide)) rfl rfl (twTO_a cI cZ cJ q o _ _ _ _) dL_person_9 ?_
  refine tw_goto (tgt := 21) C dL_person_10 (by decide) ?_
  refine tw_iconst (v := 0) C dL_person_21 (by decide) ?_
  refine tw_widen (Nat.zero_le 1) (Nat.zero_le 6) ?_
  exact tw_endi (Wf := fun (u : twS × (Nat → Int64)) => twTO cI cZ cJ q o u.1 u.2) hE hf dL_person_22 rfl
theorem hd_L_count : yL_count.cls ≠ "java/lang/invoke/MethodHandle" ∧ yL_count.cls ≠ "java/lang/invoke/VarHandle" ∧ (parseMethodDescriptor yL_count.desc).map (fun d => d.parameters.length) = some 3 := by decide +kernel
abbrev rmw_L_count : Room := { frames := 8, cells := 1, slots := 6, locals := 125 }
def g_L_count (st : twS) (w : Nat → Int64) (v1 : Int32) : Option (Int32 × (twS × (Nat → Int64))) :=
  (f_X7_count st v1).bind fun z => match z with
    | .inl x => if x.1 = twX2 then some (1, (x.2, w)) else none
    | .inr u => some (0, (u.2, vp_updL w (0 : Int32).toNatClampNeg u.1.toInt64))
set_option maxRecDepth 20000 in
theorem w_L_count (l : Launch) (hl0 : l.stackTraces = false) (dC : Nat → ClassId) (dI : Nat → Nat → Nat) (cI cZ cJ : ClassId) (q : Nat → Nat) (o : Nat) {st : twS} {w : Nat → Int64} {v1 : Int32} {res : Int32 × (twS × (Nat → Int64))} (hf : g_L_count st w v1 = some res) : twMw l yL_count wsL_count rmw_L_count (dC, dI) (twY3 cI cZ cJ) [.ref (q 0), .int v1, .ref o] (twTO cI cZ cJ q o st w) res.1 (twTO cI cZ cJ q o res.2.1 res.2.2) := by
  refine tw_entw (cc := cL_count) (maxL := 4) (own := RL) (by decide) rfl (Nat.le_of_ble_eq_true rfl) rfl ?_
  intro p e s m below meth c A Q C X0 hNc hT hE
  generalize ([.ref (q 0), .int v1, .ref o] : List Value).toArray = args at C hE ⊢
  refine tw_sub (lv' := [(0, .ref (q 0)), (1, .int v1), (2, .ref o)]) [0, 1, 2] rfl ?_
  unfold g_L_count at hf
  obtain ⟨z, hz, hf⟩ := tw_bd hf
  refine tw_aload_n C dL_count_0 2 rfl rfl ?_
  refine tw_iconst (v := 0) C dL_count_1 (by decide) ?_
  refine tw_aload_n C dL_count_2 0 rfl rfl ?_
  refine tw_iload_n C dL_count_3 1 rfl rfl ?_
  rcases z with x | u
  · have hf : (if x.1 = twX2 then some (1, (x.2, w)) else  none) = some res := hf
    by_cases e2 : x.1 = twX2
    · have hf := tw_pos hf e2
      obtain ⟨E, s1⟩ := x
      have e2 : E = twX2 := e2
      subst e2
      refine tw_fX (As := [.int v1]) (stk := [.int 0, .ref o]) (ws' := twTO cI cZ cJ q o s1 w) (Wr := [(o, .inl (cJ, 1, .inr (.inl w)))]) C X0 (isC := List.range 26) (isR := [26]) (ix := [1, 2, 3, 4, 5, 6, 7, 8, 9, 10, 11, 12, 13, 14, 15, 16, 17, 18, 19, 20, 21, 22, 23, 24, 25, 26, 0]) (ki := [0, 1]) ⟨rfl, rfl, rfl, rfl, by decide, rfl, rfl⟩ rfl (x_X7_count l hl0 dC dI cI cZ q hz) (cwV 1 C.hts gL_count_X7_count rfl rfl rfl hd_X7_count ⟨Nat.le_of_ble_eq_true rfl, Nat.le_of_ble_eq_true rfl⟩) 0 (ci := 7) rfl rfl rfl rfl rfl (Nat.le_of_ble_eq_true rfl) dL_count_4 ⟨Nat.le_of_ble_eq_true rfl, Nat.le_of_ble_eq_true rfl⟩ [] (⟨0, 9, 12, 15⟩ : ExceptionTableEntry) [] (hT.trans rfl) (fun z h => nomatch h) (by decide) (by decide) (List.mem_cons_of_mem _ (List.mem_append_left _ (List.mem_append_left _ (List.mem_append_left _ (List.mem_of_getElem? (i := 0) rfl))))) X0.2.2.2.2.2.2.2.1 (fun q9 => ?_)
      refine tw_astore_n (lv' := [(3, .ref q9), (0, .ref (q 0)), (1, .int v1), (2, .ref o)]) C dL_count_12 rfl (by decide) rfl ?_
      refine tw_iconst (v := 1) C dL_count_13 (by decide) ?_
      exact tw_endi (Wf := fun (u : twS × (Nat → Int64)) => twTO cI cZ cJ q o u.1 u.2) hE hf dL_count_14 rfl
    have hf := tw_neg hf e2
    cases hf
  refine tw_fVi (As := [.int v1]) (stk := [.int 0, .ref o]) (ws' := twTO cI cZ cJ q o u.2 w) (Wr := [(o, .inl (cJ, 1, .inr (.inl w)))]) C (isC := List.range 26) (isR := [26]) (ix := [1, 2, 3, 4, 5, 6, 7, 8, 9, 10, 11, 12, 13, 14, 15, 16, 17, 18, 19, 20, 21, 22, 23, 24, 25, 26, 0]) (ki := [0, 1]) ⟨rfl, rfl, rfl, rfl, by decide, rfl, rfl⟩ rfl (c_X7_count l dC dI cI cZ q hz) (cwV 1 C.hts gL_count_X7_count rfl rfl rfl hd_X7_count ⟨Nat.le_of_ble_eq_true rfl, Nat.le_of_ble_eq_true rfl⟩) 0 (ci := 7) rfl rfl rfl rfl rfl (Nat.le_of_ble_eq_true rfl) dL_count_4 ⟨Nat.zero_le _, Nat.zero_le _⟩ ?_
  refine tw_i2l C dL_count_7 ?_
  refine tw_last C 26 2 (tw_in (i := 0) (n := 1) (by decide)) rfl rfl (twTO_a cI cZ cJ q o _ _ _ _) dL_count_8 ?_
  refine tw_goto (tgt := 15) C dL_count_9 (by decide) ?_
  refine tw_iconst (v := 0) C dL_count_15 (by decide) ?_
  refine tw_widen (Nat.zero_le 1) (Nat.zero_le 6) ?_
  exact tw_endi (Wf := fun (u : twS × (Nat → Int64)) => twTO cI cZ cJ q o u.1 u.2) hE hf dL_count_16 rfl
