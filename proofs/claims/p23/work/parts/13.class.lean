theorem hd_X7_followChart : yX7_followChart.cls = RX7 ∧ yX7_followChart.cls ≠ "java/lang/invoke/MethodHandle" ∧ yX7_followChart.cls ≠ "java/lang/invoke/VarHandle" ∧ (parseMethodDescriptor yX7_followChart.desc).map (fun d => d.parameters.length) = some 0 := by decide +kernel
theorem hd_X3_isPerson : yX3_isPerson.cls = RX3 ∧ yX3_isPerson.cls ≠ "java/lang/invoke/MethodHandle" ∧ yX3_isPerson.cls ≠ "java/lang/invoke/VarHandle" ∧ (parseMethodDescriptor yX3_isPerson.desc).map (fun d => d.parameters.length) = some 1 := by decide +kernel
theorem hd_X4_nearestWay : yX4_nearestWay.cls = RX4 ∧ yX4_nearestWay.cls ≠ "java/lang/invoke/MethodHandle" ∧ yX4_nearestWay.cls ≠ "java/lang/invoke/VarHandle" ∧ (parseMethodDescriptor yX4_nearestWay.desc).map (fun d => d.parameters.length) = some 1 := by decide +kernel
theorem hd_X3_goOn : yX3_goOn.cls = RX3 ∧ yX3_goOn.cls ≠ "java/lang/invoke/MethodHandle" ∧ yX3_goOn.cls ≠ "java/lang/invoke/VarHandle" ∧ (parseMethodDescriptor yX3_goOn.desc).map (fun d => d.parameters.length) = some 3 := by decide +kernel
theorem hd_X3_liveOne : yX3_liveOne.cls = RX3 ∧ yX3_liveOne.cls ≠ "java/lang/invoke/MethodHandle" ∧ yX3_liveOne.cls ≠ "java/lang/invoke/VarHandle" ∧ (parseMethodDescriptor yX3_liveOne.desc).map (fun d => d.parameters.length) = some 5 := by decide +kernel
theorem hd_X3_live : yX3_live.cls = RX3 ∧ yX3_live.cls ≠ "java/lang/invoke/MethodHandle" ∧ yX3_live.cls ≠ "java/lang/invoke/VarHandle" ∧ (parseMethodDescriptor yX3_live.desc).map (fun d => d.parameters.length) = some 4 := by decide +kernel
theorem hd_X7_doStep : yX7_doStep.cls = RX7 ∧ yX7_doStep.cls ≠ "java/lang/invoke/MethodHandle" ∧ yX7_doStep.cls ≠ "java/lang/invoke/VarHandle" ∧ (parseMethodDescriptor yX7_doStep.desc).map (fun d => d.parameters.length) = some 0 := by decide +kernel
theorem hd_X4_isThere : yX4_isThere.cls = RX4 ∧ yX4_isThere.cls ≠ "java/lang/invoke/MethodHandle" ∧ yX4_isThere.cls ≠ "java/lang/invoke/VarHandle" ∧ (parseMethodDescriptor yX4_isThere.desc).map (fun d => d.parameters.length) = some 1 := by decide +kernel
theorem hd_X4_isOpen : yX4_isOpen.cls = RX4 ∧ yX4_isOpen.cls ≠ "java/lang/invoke/MethodHandle" ∧ yX4_isOpen.cls ≠ "java/lang/invoke/VarHandle" ∧ (parseMethodDescriptor yX4_isOpen.desc).map (fun d => d.parameters.length) = some 1 := by decide +kernel
theorem hd_X7_doorAnswer : yX7_doorAnswer.cls = RX7 ∧ yX7_doorAnswer.cls ≠ "java/lang/invoke/MethodHandle" ∧ yX7_doorAnswer.cls ≠ "java/lang/invoke/VarHandle" ∧ (parseMethodDescriptor yX7_doorAnswer.desc).map (fun d => d.parameters.length) = some 1 := by decide +kernel
theorem hd_X1_begin : yX1_begin.cls = RX1 ∧ yX1_begin.cls ≠ "java/lang/invoke/MethodHandle" ∧ yX1_begin.cls ≠ "java/lang/invoke/VarHandle" ∧ (parseMethodDescriptor yX1_begin.desc).map (fun d => d.parameters.length) = some 2 := by decide +kernel
theorem hd_X2_hasRoom : yX2_hasRoom.cls = RX2 ∧ yX2_hasRoom.cls ≠ "java/lang/invoke/MethodHandle" ∧ yX2_hasRoom.cls ≠ "java/lang/invoke/VarHandle" ∧ (parseMethodDescriptor yX2_hasRoom.desc).map (fun d => d.parameters.length) = some 0 := by decide +kernel
theorem hd_X2_put : yX2_put.cls = RX2 ∧ yX2_put.cls ≠ "java/lang/invoke/MethodHandle" ∧ yX2_put.cls ≠ "java/lang/invoke/VarHandle" ∧ (parseMethodDescriptor yX2_put.desc).map (fun d => d.parameters.length) = some 3 := by decide +kernel
theorem hd_X2_stepOf : yX2_stepOf.cls = RX2 ∧ yX2_stepOf.cls ≠ "java/lang/invoke/MethodHandle" ∧ yX2_stepOf.cls ≠ "java/lang/invoke/VarHandle" ∧ (parseMethodDescriptor yX2_stepOf.desc).map (fun d => d.parameters.length) = some 1 := by decide +kernel
theorem hd_X2_size : yX2_size.cls = RX2 ∧ yX2_size.cls ≠ "java/lang/invoke/MethodHandle" ∧ yX2_size.cls ≠ "java/lang/invoke/VarHandle" ∧ (parseMethodDescriptor yX2_size.desc).map (fun d => d.parameters.length) = some 0 := by decide +kernel
theorem hd_X3_hasRoomFor : yX3_hasRoomFor.cls = RX3 ∧ yX3_hasRoomFor.cls ≠ "java/lang/invoke/MethodHandle" ∧ yX3_hasRoomFor.cls ≠ "java/lang/invoke/VarHandle" ∧ (parseMethodDescriptor yX3_hasRoomFor.desc).map (fun d => d.parameters.length) = some 1 := by decide +kernel
/-! X7_followChart: private void followChart() -/
abbrev rm_X7_followChart : Room := { frames := 2, cells := 0, slots := 0, locals := 43 }
def f_X7_followChart_L2b (rec : Int32 → twS → Option (twS)) (v1 : Int32) (st : twS) : Option (twS) :=
  (if 10 ≤ v1 then
    some st
  else
    (if (st.1 3) = (-1) then
    some st
  else
    ((f_X2_isDue st (st.1 4)).bind fun y2003 => (if y2003.1 = 0 then
    some y2003.2
  else
    ((f_X2_finishNext y2003.2 (y2003.2.1 4)).bind fun y2005 => ((f_X7_perform y2005.2 y2005.1).bind fun y2006 => rec (v1 + 1) y2006))))))
def f_X7_followChart_L2 : Nat → Int32 → twS → Option (twS)
  | 0 => fun _ _ => none
  | n + 1 => fun v1 st => f_X7_followChart_L2b (f_X7_followChart_L2 n) v1 st
def f_X7_followChart (st : twS) : Option (twS) :=
  f_X7_followChart_L2 twN 0 st
section
variable {p : Program} {l : Launch} {e : Env} {s : State} {m : MethodId} {args : Array Value} {below : List Frame} {meth : Method} {c : Code} {Q : State → Prop} {dC : Nat → ClassId} {dI : Nat → Nat → Nat} {cI cZ : ClassId} {q : Nat → Nat} {A : Nat → Prop} {res : twS}
set_option maxRecDepth 20000 in
theorem m_X7_followChart_L2b (C : twC p s m args meth c cX7_followChart 2 RX7 wsX7_followChart (dC, dI) (twY cI cZ) A) (hE : twEv p l e rm_X7_followChart s m args below meth c 0 0 Q (dC, dI) A 2 cX7_followChart (twT cI cZ q res)) {rec : Int32 → twS → Option (twS)} (hrec : ∀ (v1 : Int32) (st : twS), rec v1 st = some res → twG p l e rm_X7_followChart s m args below meth c 0 0 Q (dC, dI) A 2 (twT cI cZ q st) 2 [(0, .ref (q 0)), (1, .int v1)] []) : ∀ (v1 : Int32) (st : twS), f_X7_followChart_L2b rec v1 st = some res → twG p l e rm_X7_followChart s m args below meth c 0 0 Q (dC, dI) A 2 (twT cI cZ q st) 2 [(0, .ref (q 0)), (1, .int v1)] [] := by
  intro v1 st hf
  unfold f_X7_followChart_L2b at hf
  refine tw_iload_n C dX7_followChart_2 1 rfl rfl ?_
  refine tw_bipush (v := 10) C dX7_followChart_3 (by decide) ?_
  refine tw_icmp_ge (tgt := 51) C dX7_followChart_5 (by decide) (fun c2001 => ?_) (fun c2001 => ?_)
  · have hf := tw_pos hf c2001
    exact tw_endv (Wf := twT cI cZ q) hE hf dX7_followChart_51
  · have hf := tw_neg hf c2001
    refine tw_aload_n C dX7_followChart_8 0 rfl rfl ?_
    refine tw_get (K := RX7) (T := TX7) (N := 14) (v := .int (st.1 3)) C 0 12 (fun _ h => List.mem_cons_of_mem _ (List.mem_append_left _ (List.mem_append_left _ (List.mem_append_left _ (List.mem_append_left _ (List.mem_append_left _ (List.mem_append_right _ (h)))))))) rfl rfl (by decide) (List.mem_cons_of_mem _ (List.mem_append_left _ (List.mem_append_left _ (List.mem_append_left _ (List.mem_append_left _ (List.mem_append_left _ (List.mem_append_left _ (List.mem_append_left _ (List.mem_of_getElem? (i := 0) rfl))))))))) rfl rfl dX7_followChart_9 ?_
    refine tw_iconst (v := (-1)) C dX7_followChart_12 (by decide) ?_
    refine tw_icmp_eq (tgt := 51) C dX7_followChart_13 (by decide) (fun c2002 => ?_) (fun c2002 => ?_)
    · have hf := tw_pos hf c2002
      exact tw_endv (Wf := twT cI cZ q) hE hf dX7_followChart_51
    · have hf := tw_neg hf c2002
      refine tw_aload_n C dX7_followChart_16 0 rfl rfl ?_
      refine tw_get (K := RX7) (T := TX7) (N := 14) (v := .ref (q 6)) C 0 5 (fun _ h => List.mem_cons_of_mem _ (List.mem_append_left _ (List.mem_append_left _ (List.mem_append_left _ (List.mem_append_left _ (List.mem_append_left _ (List.mem_append_right _ (h)))))))) rfl rfl (by decide) (List.mem_cons_of_mem _ (List.mem_append_left _ (List.mem_append_left _ (List.mem_append_left _ (List.mem_append_left _ (List.mem_append_left _ (List.mem_append_left _ (List.mem_append_left _ (List.mem_of_getElem? (i := 1) rfl))))))))) rfl rfl dX7_followChart_17 ?_
      refine tw_aload_n C dX7_followChart_20 0 rfl rfl ?_
      refine tw_get (K := RX7) (T := TX7) (N := 14) (v := .int (st.1 4)) C 0 13 (fun _ h => List.mem_cons_of_mem _ (List.mem_append_left _ (List.mem_append_left _ (List.mem_append_left _ (List.mem_append_left _ (List.mem_append_left _ (List.mem_append_right _ (h)))))))) rfl rfl (by decide) (List.mem_cons_of_mem _ (List.mem_append_left _ (List.mem_append_left _ (List.mem_append_left _ (List.mem_append_left _ (List.mem_append_left _ (List.mem_append_left _ (List.mem_append_left _ (List.mem_of_getElem? (i := 2) rfl))))))))) rfl rfl dX7_followChart_21 ?_
      obtain ⟨y2003, hc2003, hf⟩ := tw_bd hf
      refine tw_cVi (As := [.int (st.1 4)]) (stk := []) C (c_X2_isDue l dC dI cI cZ q hc2003) (cwV 1 C.hts gX7_followChart_X2_isDue rfl rfl rfl hd_X2_isDue ⟨Nat.le_of_ble_eq_true rfl, Nat.le_of_ble_eq_true rfl⟩) 6 (ci := 2) rfl rfl rfl rfl rfl (Nat.le_of_ble_eq_true rfl) dX7_followChart_24 ⟨Nat.zero_le _, Nat.zero_le _⟩ ?_
      refine tw_if_eq (tgt := 51) C dX7_followChart_27 (by decide) (fun c2004 => ?_) (fun c2004 => ?_)
      · have hf := tw_pos hf c2004
        exact tw_endv (Wf := twT cI cZ q) hE hf dX7_followChart_51
      · have hf := tw_neg hf c2004
        refine tw_aload_n C dX7_followChart_30 0 rfl rfl ?_
        refine tw_aload_n C dX7_followChart_31 0 rfl rfl ?_
        refine tw_get (K := RX7) (T := TX7) (N := 14) (v := .ref (q 6)) C 0 5 (fun _ h => List.mem_cons_of_mem _ (List.mem_append_left _ (List.mem_append_left _ (List.mem_append_left _ (List.mem_append_left _ (List.mem_append_left _ (List.mem_append_right _ (h)))))))) rfl rfl (by decide) (List.mem_cons_of_mem _ (List.mem_append_left _ (List.mem_append_left _ (List.mem_append_left _ (List.mem_append_left _ (List.mem_append_left _ (List.mem_append_left _ (List.mem_append_left _ (List.mem_of_getElem? (i := 1) rfl))))))))) rfl rfl dX7_followChart_32 ?_
        refine tw_aload_n C dX7_followChart_35 0 rfl rfl ?_
        refine tw_get (K := RX7) (T := TX7) (N := 14) (v := .int (y2003.2.1 4)) C 0 13 (fun _ h => List.mem_cons_of_mem _ (List.mem_append_left _ (List.mem_append_left _ (List.mem_append_left _ (List.mem_append_left _ (List.mem_append_left _ (List.mem_append_right _ (h)))))))) rfl rfl (by decide) (List.mem_cons_of_mem _ (List.mem_append_left _ (List.mem_append_left _ (List.mem_append_left _ (List.mem_append_left _ (List.mem_append_left _ (List.mem_append_left _ (List.mem_append_left _ (List.mem_of_getElem? (i := 2) rfl))))))))) rfl rfl dX7_followChart_36 ?_
        obtain ⟨y2005, hc2005, hf⟩ := tw_bd hf
        refine tw_cVi (As := [.int (y2003.2.1 4)]) (stk := [.ref (q 0)]) C (c_X2_finishNext l dC dI cI cZ q hc2005) (cwV 1 C.hts gX7_followChart_X2_finishNext rfl rfl rfl hd_X2_finishNext ⟨Nat.le_of_ble_eq_true rfl, Nat.le_of_ble_eq_true rfl⟩) 6 (ci := 2) rfl rfl rfl rfl rfl (Nat.le_of_ble_eq_true rfl) dX7_followChart_39 ⟨Nat.zero_le _, Nat.zero_le _⟩ ?_
        obtain ⟨y2006, hc2006, hf⟩ := tw_bd hf
        refine tw_cVv (As := [.int y2005.1]) (stk := []) C (c_X7_perform l dC dI cI cZ q hc2006) (cwV 1 C.hts gX7_followChart_X7_perform rfl rfl rfl hd_X7_perform ⟨Nat.le_of_ble_eq_true rfl, Nat.le_of_ble_eq_true rfl⟩) 0 (ci := 7) rfl rfl rfl rfl rfl (Nat.le_of_ble_eq_true rfl) dX7_followChart_42 ⟨Nat.zero_le _, Nat.zero_le _⟩ ?_
        refine tw_iinc (v := (v1 + 1)) (lv' := [(1, .int (v1 + 1)), (0, .ref (q 0))]) C dX7_followChart_45 (k := 1) rfl rfl (by decide) rfl ?_
        refine tw_goto (tgt := 2) C dX7_followChart_48 (by decide) ?_
        refine tw_sub [1, 0] rfl ?_
        exact hrec (v1 + 1) y2006 hf
theorem m_X7_followChart_L2 (C : twC p s m args meth c cX7_followChart 2 RX7 wsX7_followChart (dC, dI) (twY cI cZ) A) (hE : twEv p l e rm_X7_followChart s m args below meth c 0 0 Q (dC, dI) A 2 cX7_followChart (twT cI cZ q res)) : ∀ (n : Nat) (v1 : Int32) (st : twS), f_X7_followChart_L2 n v1 st = some res → twG p l e rm_X7_followChart s m args below meth c 0 0 Q (dC, dI) A 2 (twT cI cZ q st) 2 [(0, .ref (q 0)), (1, .int v1)] [] := by
  intro n
  induction n with
  | zero =>
    intro v1 st hf
    have hf : none = some res := hf
    cases hf
  | succ n ih =>
    intro v1 st hf
    exact m_X7_followChart_L2b C hE ih v1 st hf
set_option maxRecDepth 20000 in
theorem c_X7_followChart (l : Launch) (dC : Nat → ClassId) (dI : Nat → Nat → Nat) (cI cZ : ClassId) (q : Nat → Nat) {st : twS} {res : twS} (hf : f_X7_followChart st = some res) : twMv l yX7_followChart wsX7_followChart rm_X7_followChart (dC, dI) (twY cI cZ) [.ref (q 0)] (twT cI cZ q st) (twT cI cZ q res) := by
  refine tw_entv (cc := cX7_followChart) (maxL := 2) (own := RX7) (by decide) rfl (Nat.le_of_ble_eq_true rfl) rfl ⟨rfl, rfl⟩ ?_
  intro p e s m below meth c A Q C hE
  generalize ([.ref (q 0)] : List Value).toArray = args at C hE ⊢
  refine tw_sub (lv' := [(0, .ref (q 0))]) [0] rfl ?_
  unfold f_X7_followChart at hf
  refine tw_iconst (v := 0) C dX7_followChart_0 (by decide) ?_
  refine tw_istore_n (lv' := [(1, .int 0), (0, .ref (q 0))]) C dX7_followChart_1 rfl (by decide) rfl ?_
  refine tw_sub [1, 0] rfl ?_
  exact m_X7_followChart_L2 C hE twN 0 st hf
end
/-! X3_isPerson: private boolean isPerson(int) -/
abbrev rm_X3_isPerson : Room := { frames := 0, cells := 0, slots := 0, locals := 0 }
def f_X3_isPerson (st : twS) (v1 : Int32) : Option (Int32 × twS) :=
  (if v1 < 0 then
    some (0, st)
  else
    (if (st.1 16) ≤ v1 then
    some (0, st)
  else
    (if 30 ≤ v1 then
    some (0, st)
  else
    some (1, st))))
section
variable {p : Program} {l : Launch} {e : Env} {s : State} {m : MethodId} {args : Array Value} {below : List Frame} {meth : Method} {c : Code} {Q : State → Prop} {dC : Nat → ClassId} {dI : Nat → Nat → Nat} {cI cZ : ClassId} {q : Nat → Nat} {A : Nat → Prop} {res : Int32 × twS}
set_option maxRecDepth 20000 in
theorem c_X3_isPerson (l : Launch) (dC : Nat → ClassId) (dI : Nat → Nat → Nat) (cI cZ : ClassId) (q : Nat → Nat) {st : twS} {v1 : Int32} {res : Int32 × twS} (hf : f_X3_isPerson st v1 = some res) : twMi l yX3_isPerson wsX3_isPerson rm_X3_isPerson (dC, dI) (twY cI cZ) [.ref (q 7), .int v1] (twT cI cZ q st) res.1 (twT cI cZ q res.2) := by
  refine tw_enti (cc := cX3_isPerson) (maxL := 2) (own := RX3) (by decide) rfl (Nat.le_of_ble_eq_true rfl) rfl ⟨rfl, rfl⟩ ?_
  intro p e s m below meth c A Q C hE
  generalize ([.ref (q 7), .int v1] : List Value).toArray = args at C hE ⊢
  refine tw_sub (lv' := [(0, .ref (q 7)), (1, .int v1)]) [0, 1] rfl ?_
  unfold f_X3_isPerson at hf
  refine tw_iload_n C dX3_isPerson_0 1 rfl rfl ?_
  refine tw_if_lt (tgt := 22) C dX3_isPerson_1 (by decide) (fun c1 => ?_) (fun c1 => ?_)
  · have hf := tw_pos hf c1
    refine tw_iconst (v := 0) C dX3_isPerson_22 (by decide) ?_
    exact tw_endi (Wf := twT cI cZ q) hE hf dX3_isPerson_23 rfl
  · have hf := tw_neg hf c1
    refine tw_iload_n C dX3_isPerson_4 1 rfl rfl ?_
    refine tw_aload_n C dX3_isPerson_5 0 rfl rfl ?_
    refine tw_get (K := RX3) (T := TX3) (N := 5) (v := .int (st.1 16)) C 7 4 (fun _ h => List.mem_cons_of_mem _ (List.mem_append_right _ (h))) rfl rfl (by decide) (List.mem_cons_of_mem _ (List.mem_append_left _ (List.mem_of_getElem? (i := 0) rfl))) rfl rfl dX3_isPerson_6 ?_
    refine tw_icmp_ge (tgt := 22) C dX3_isPerson_9 (by decide) (fun c2 => ?_) (fun c2 => ?_)
    · have hf := tw_pos hf c2
      refine tw_iconst (v := 0) C dX3_isPerson_22 (by decide) ?_
      exact tw_endi (Wf := twT cI cZ q) hE hf dX3_isPerson_23 rfl
    · have hf := tw_neg hf c2
      refine tw_iload_n C dX3_isPerson_12 1 rfl rfl ?_
      refine tw_bipush (v := 30) C dX3_isPerson_13 (by decide) ?_
      refine tw_icmp_ge (tgt := 22) C dX3_isPerson_15 (by decide) (fun c3 => ?_) (fun c3 => ?_)
      · have hf := tw_pos hf c3
        refine tw_iconst (v := 0) C dX3_isPerson_22 (by decide) ?_
        exact tw_endi (Wf := twT cI cZ q) hE hf dX3_isPerson_23 rfl
      · have hf := tw_neg hf c3
        refine tw_iconst (v := 1) C dX3_isPerson_18 (by decide) ?_
        refine tw_goto (tgt := 23) C dX3_isPerson_19 (by decide) ?_
        exact tw_endi (Wf := twT cI cZ q) hE hf dX3_isPerson_23 rfl
end
/-! X4_nearestWay: int nearestWay(int) -/
abbrev rm_X4_nearestWay : Room := { frames := 1, cells := 0, slots := 0, locals := 23 }
def f_X4_nearestWay_L65 (v1 : Int32) (v2 : Int32) (v3 : Int32) (st : twS) : Option (Int32 × twS) :=
  (if v3 ≤ (12 - v1) then
    some (v2, st)
  else
    some (12, st))
def f_X4_nearestWay_L8b (rec : Int32 → Int32 → Int32 → Int32 → twS → Option (Int32 × twS)) (v1 : Int32) (v2 : Int32) (v3 : Int32) (v4 : Int32) (st : twS) : Option (Int32 × twS) :=
  (if 12 ≤ v4 then
    (if v3 ≤ (v1 + 1) then
    f_X4_nearestWay_L65 v1 v2 v3 st
  else
    f_X4_nearestWay_L65 v1 (-1) (v1 + 1) st)
  else
    (if twb v4 12 = true then (if (st.2.1 17 v4.toNatClampNeg) = 0 then
    rec v1 v2 v3 (v4 + 1) st
  else
    (if v3 ≤ (if 0 ≤ (v4 - v1) then (v4 - v1) else 0 - (v4 - v1)) then
    rec v1 v2 v3 (v4 + 1) st
  else
    rec v1 v4 (if 0 ≤ (v4 - v1) then (v4 - v1) else 0 - (v4 - v1)) (v4 + 1) st)) else none))
def f_X4_nearestWay_L8 : Nat → Int32 → Int32 → Int32 → Int32 → twS → Option (Int32 × twS)
  | 0 => fun _ _ _ _ _ => none
  | n + 1 => fun v1 v2 v3 v4 st => f_X4_nearestWay_L8b (f_X4_nearestWay_L8 n) v1 v2 v3 v4 st
def f_X4_nearestWay (st : twS) (v1 : Int32) : Option (Int32 × twS) :=
  f_X4_nearestWay_L8 twN v1 (-1) 13 0 st
section
variable {p : Program} {l : Launch} {e : Env} {s : State} {m : MethodId} {args : Array Value} {below : List Frame} {meth : Method} {c : Code} {Q : State → Prop} {dC : Nat → ClassId} {dI : Nat → Nat → Nat} {cI cZ : ClassId} {q : Nat → Nat} {A : Nat → Prop} {res : Int32 × twS}
set_option maxRecDepth 20000 in
theorem m_X4_nearestWay_L65 (C : twC p s m args meth c cX4_nearestWay 6 RX4 wsX4_nearestWay (dC, dI) (twY cI cZ) A) (hE : twEi p l e rm_X4_nearestWay s m args below meth c 0 0 Q (dC, dI) A 6 cX4_nearestWay .int res.1 (twT cI cZ q res.2)) : ∀ (v1 : Int32) (v2 : Int32) (v3 : Int32) (st : twS), f_X4_nearestWay_L65 v1 v2 v3 st = some res → twG p l e rm_X4_nearestWay s m args below meth c 0 0 Q (dC, dI) A 6 (twT cI cZ q st) 65 [(1, .int v1), (2, .int v2), (3, .int v3)] [] := by
  intro v1 v2 v3 st hf
  unfold f_X4_nearestWay_L65 at hf
  refine tw_bipush (v := 12) C dX4_nearestWay_65 (by decide) ?_
  refine tw_iload_n C dX4_nearestWay_67 0 rfl rfl ?_
  refine tw_isub C dX4_nearestWay_68 ?_
  refine tw_iload_n C dX4_nearestWay_69 2 rfl rfl ?_
  refine tw_icmp_ge (tgt := 78) C dX4_nearestWay_70 (by decide) (fun c65001 => ?_) (fun c65001 => ?_)
  · have hf := tw_pos hf c65001
    refine tw_iload_n C dX4_nearestWay_78 1 rfl rfl ?_
    exact tw_endi (Wf := twT cI cZ q) hE hf dX4_nearestWay_79 rfl
  · have hf := tw_neg hf c65001
    refine tw_bipush (v := 12) C dX4_nearestWay_73 (by decide) ?_
    refine tw_goto (tgt := 79) C dX4_nearestWay_75 (by decide) ?_
    exact tw_endi (Wf := twT cI cZ q) hE hf dX4_nearestWay_79 rfl
set_option maxRecDepth 20000 in
theorem m_X4_nearestWay_L8b (C : twC p s m args meth c cX4_nearestWay 6 RX4 wsX4_nearestWay (dC, dI) (twY cI cZ) A) (hE : twEi p l e rm_X4_nearestWay s m args below meth c 0 0 Q (dC, dI) A 6 cX4_nearestWay .int res.1 (twT cI cZ q res.2)) {rec : Int32 → Int32 → Int32 → Int32 → twS → Option (Int32 × twS)} (hrec : ∀ (v1 : Int32) (v2 : Int32) (v3 : Int32) (v4 : Int32) (st : twS), rec v1 v2 v3 v4 st = some res → twG p l e rm_X4_nearestWay s m args below meth c 0 0 Q (dC, dI) A 6 (twT cI cZ q st) 8 [(0, .ref (q 5)), (1, .int v1), (2, .int v2), (3, .int v3), (4, .int v4)] []) : ∀ (v1 : Int32) (v2 : Int32) (v3 : Int32) (v4 : Int32) (st : twS), f_X4_nearestWay_L8b rec v1 v2 v3 v4 st = some res → twG p l e rm_X4_nearestWay s m args below meth c 0 0 Q (dC, dI) A 6 (twT cI cZ q st) 8 [(0, .ref (q 5)), (1, .int v1), (2, .int v2), (3, .int v3), (4, .int v4)] [] := by
  intro v1 v2 v3 v4 st hf
  unfold f_X4_nearestWay_L8b at hf
  refine tw_iload C dX4_nearestWay_8 4 rfl ?_
  refine tw_bipush (v := 12) C dX4_nearestWay_10 (by decide) ?_
  refine tw_icmp_ge (tgt := 52) C dX4_nearestWay_12 (by decide) (fun c8001 => ?_) (fun c8001 => ?_)
  · have hf := tw_pos hf c8001
    refine tw_iload_n C dX4_nearestWay_52 1 rfl rfl ?_
    refine tw_iconst (v := 1) C dX4_nearestWay_53 (by decide) ?_
    refine tw_iadd C dX4_nearestWay_54 ?_
    refine tw_iload_n C dX4_nearestWay_55 3 rfl rfl ?_
    refine tw_icmp_ge (tgt := 65) C dX4_nearestWay_56 (by decide) (fun c8002 => ?_) (fun c8002 => ?_)
    · have hf := tw_pos hf c8002
      refine tw_sub [1, 2, 3] rfl ?_
      exact m_X4_nearestWay_L65 C hE v1 v2 v3 st hf
    · have hf := tw_neg hf c8002
      refine tw_iconst (v := (-1)) C dX4_nearestWay_59 (by decide) ?_
      refine tw_istore_n (lv' := [(2, .int (-1)), (0, .ref (q 5)), (1, .int v1), (3, .int v3), (4, .int v4)]) C dX4_nearestWay_60 rfl (by decide) rfl ?_
      refine tw_iload_n C dX4_nearestWay_61 2 rfl rfl ?_
      refine tw_iconst (v := 1) C dX4_nearestWay_62 (by decide) ?_
      refine tw_iadd C dX4_nearestWay_63 ?_
      refine tw_istore_n (lv' := [(3, .int (v1 + 1)), (2, .int (-1)), (0, .ref (q 5)), (1, .int v1), (4, .int v4)]) C dX4_nearestWay_64 rfl (by decide) rfl ?_
      refine tw_sub [3, 1, 0] rfl ?_
      exact m_X4_nearestWay_L65 C hE v1 (-1) (v1 + 1) st hf
  · have hf := tw_neg hf c8001
    refine tw_iload C dX4_nearestWay_15 4 rfl ?_
    refine tw_iload_n C dX4_nearestWay_17 1 rfl rfl ?_
    refine tw_isub C dX4_nearestWay_18 ?_
    refine tw_mabs C (List.mem_cons_of_mem _ (List.mem_append_left _ (List.mem_of_getElem? (i := 0) rfl))) (List.mem_cons_of_mem _ (List.mem_append_left _ (List.mem_of_getElem? (i := 1) rfl))) (List.mem_cons_of_mem _ (List.mem_append_left _ (List.mem_of_getElem? (i := 2) rfl))) (List.mem_cons_of_mem _ (List.mem_append_left _ (List.mem_of_getElem? (i := 3) rfl))) (Nat.le_of_ble_eq_true rfl) (Nat.le_of_ble_eq_true rfl) (Nat.zero_le _) (Nat.zero_le _) dX4_nearestWay_19 ?_
    refine tw_istore (lv' := [(5, .int (if 0 ≤ (v4 - v1) then (v4 - v1) else 0 - (v4 - v1))), (0, .ref (q 5)), (1, .int v1), (2, .int v2), (3, .int v3), (4, .int v4)]) C dX4_nearestWay_22 (by decide) rfl ?_
    refine tw_aload_n C dX4_nearestWay_24 1 rfl rfl ?_
    refine tw_get (K := RX4) (T := TX4) (N := 3) (v := .ref (q 17)) C 5 1 (fun _ h => List.mem_cons_of_mem _ (List.mem_append_right _ (h))) rfl rfl (by decide) (List.mem_cons_of_mem _ (List.mem_append_left _ (List.mem_of_getElem? (i := 4) rfl))) rfl rfl dX4_nearestWay_25 ?_
    refine tw_iload C dX4_nearestWay_28 5 rfl ?_
    obtain ⟨hb8003, hf⟩ := tw_ck hf
    refine tw_zald C 17 1 hb8003 rfl rfl dX4_nearestWay_30 ?_
    refine tw_if_eq (tgt := 46) C dX4_nearestWay_31 (by decide) (fun c8004 => ?_) (fun c8004 => ?_)
    · have hf := tw_pos hf c8004
      refine tw_iinc (v := (v4 + 1)) (lv' := [(4, .int (v4 + 1)), (5, .int (if 0 ≤ (v4 - v1) then (v4 - v1) else 0 - (v4 - v1))), (0, .ref (q 5)), (1, .int v1), (2, .int v2), (3, .int v3)]) C dX4_nearestWay_46 (k := 5) rfl rfl (by decide) rfl ?_
      refine tw_goto (tgt := 8) C dX4_nearestWay_49 (by decide) ?_
      refine tw_sub [2, 3, 4, 5, 0] rfl ?_
      exact hrec v1 v2 v3 (v4 + 1) st hf
    · have hf := tw_neg hf c8004
      refine tw_iload C dX4_nearestWay_34 0 rfl ?_
      refine tw_iload_n C dX4_nearestWay_36 4 rfl rfl ?_
      refine tw_icmp_ge (tgt := 46) C dX4_nearestWay_37 (by decide) (fun c8005 => ?_) (fun c8005 => ?_)
      · have hf := tw_pos hf c8005
        refine tw_iinc (v := (v4 + 1)) (lv' := [(4, .int (v4 + 1)), (5, .int (if 0 ≤ (v4 - v1) then (v4 - v1) else 0 - (v4 - v1))), (0, .ref (q 5)), (1, .int v1), (2, .int v2), (3, .int v3)]) C dX4_nearestWay_46 (k := 5) rfl rfl (by decide) rfl ?_
        refine tw_goto (tgt := 8) C dX4_nearestWay_49 (by decide) ?_
        refine tw_sub [2, 3, 4, 5, 0] rfl ?_
        exact hrec v1 v2 v3 (v4 + 1) st hf
      · have hf := tw_neg hf c8005
        refine tw_iload C dX4_nearestWay_40 5 rfl ?_
        refine tw_istore_n (lv' := [(2, .int v4), (5, .int (if 0 ≤ (v4 - v1) then (v4 - v1) else 0 - (v4 - v1))), (0, .ref (q 5)), (1, .int v1), (3, .int v3), (4, .int v4)]) C dX4_nearestWay_42 rfl (by decide) rfl ?_
        refine tw_iload C dX4_nearestWay_43 1 rfl ?_
        refine tw_istore_n (lv' := [(3, .int (if 0 ≤ (v4 - v1) then (v4 - v1) else 0 - (v4 - v1))), (2, .int v4), (5, .int (if 0 ≤ (v4 - v1) then (v4 - v1) else 0 - (v4 - v1))), (0, .ref (q 5)), (1, .int v1), (4, .int v4)]) C dX4_nearestWay_45 rfl (by decide) rfl ?_
        refine tw_iinc (v := (v4 + 1)) (lv' := [(4, .int (v4 + 1)), (3, .int (if 0 ≤ (v4 - v1) then (v4 - v1) else 0 - (v4 - v1))), (2, .int v4), (5, .int (if 0 ≤ (v4 - v1) then (v4 - v1) else 0 - (v4 - v1))), (0, .ref (q 5)), (1, .int v1)]) C dX4_nearestWay_46 (k := 5) rfl rfl (by decide) rfl ?_
        refine tw_goto (tgt := 8) C dX4_nearestWay_49 (by decide) ?_
        refine tw_sub [4, 5, 2, 1, 0] rfl ?_
        exact hrec v1 v4 (if 0 ≤ (v4 - v1) then (v4 - v1) else 0 - (v4 - v1)) (v4 + 1) st hf
theorem m_X4_nearestWay_L8 (C : twC p s m args meth c cX4_nearestWay 6 RX4 wsX4_nearestWay (dC, dI) (twY cI cZ) A) (hE : twEi p l e rm_X4_nearestWay s m args below meth c 0 0 Q (dC, dI) A 6 cX4_nearestWay .int res.1 (twT cI cZ q res.2)) : ∀ (n : Nat) (v1 : Int32) (v2 : Int32) (v3 : Int32) (v4 : Int32) (st : twS), f_X4_nearestWay_L8 n v1 v2 v3 v4 st = some res → twG p l e rm_X4_nearestWay s m args below meth c 0 0 Q (dC, dI) A 6 (twT cI cZ q st) 8 [(0, .ref (q 5)), (1, .int v1), (2, .int v2), (3, .int v3), (4, .int v4)] [] := by
  intro n
  induction n with
  | zero =>
    intro v1 v2 v3 v4 st hf
    have hf : none = some res := hf
    cases hf
  | succ n ih =>
    intro v1 v2 v3 v4 st hf
    exact m_X4_nearestWay_L8b C hE ih v1 v2 v3 v4 st hf
set_option maxRecDepth 20000 in
theorem c_X4_nearestWay (l : Launch) (dC : Nat → ClassId) (dI : Nat → Nat → Nat) (cI cZ : ClassId) (q : Nat → Nat) {st : twS} {v1 : Int32} {res : Int32 × twS} (hf : f_X4_nearestWay st v1 = some res) : twMi l yX4_nearestWay wsX4_nearestWay rm_X4_nearestWay (dC, dI) (twY cI cZ) [.ref (q 5), .int v1] (twT cI cZ q st) res.1 (twT cI cZ q res.2) := by
  refine tw_enti (cc := cX4_nearestWay) (maxL := 6) (own := RX4) (by decide) rfl (Nat.le_of_ble_eq_true rfl) rfl ⟨rfl, rfl⟩ ?_
  intro p e s m below meth c A Q C hE
  generalize ([.ref (q 5), .int v1] : List Value).toArray = args at C hE ⊢
  refine tw_sub (lv' := [(0, .ref (q 5)), (1, .int v1)]) [0, 1] rfl ?_
  unfold f_X4_nearestWay at hf
  refine tw_iconst (v := (-1)) C dX4_nearestWay_0 (by decide) ?_
  refine tw_istore_n (lv' := [(2, .int (-1)), (0, .ref (q 5)), (1, .int v1)]) C dX4_nearestWay_1 rfl (by decide) rfl ?_
  refine tw_bipush (v := 13) C dX4_nearestWay_2 (by decide) ?_
  refine tw_istore_n (lv' := [(3, .int 13), (2, .int (-1)), (0, .ref (q 5)), (1, .int v1)]) C dX4_nearestWay_4 rfl (by decide) rfl ?_
  refine tw_iconst (v := 0) C dX4_nearestWay_5 (by decide) ?_
  refine tw_istore (lv' := [(4, .int 0), (3, .int 13), (2, .int (-1)), (0, .ref (q 5)), (1, .int v1)]) C dX4_nearestWay_6 (by decide) rfl ?_
  refine tw_sub [3, 4, 2, 1, 0] rfl ?_
  exact m_X4_nearestWay_L8 C hE twN v1 (-1) 13 0 st hf
end
/-! X3_goOn: private void goOn(int, int, TubeWatch$Doors) -/
abbrev rm_X3_goOn : Room := { frames := 2, cells := 0, slots := 0, locals := 48 }
def f_X3_goOn_L48 (v1 : Int32) (v2 : Int32) (st : twS) : Option (twS) :=
  (if twb v1 30 = true then (if twb v1 30 = true then (if twb v1 30 = true then some (twA (twA (twA st 22 v1 3) 25 v1 v2) 23 v1 (-1)) else none) else none) else none)
def f_X3_goOn (st : twS) (v1 : Int32) (v2 : Int32) : Option (twS) :=
  ((f_X3_isPerson st v1).bind fun y1 => (if y1.1 = 0 then
    some y1.2
  else
    (if twb v1 30 = true then ((f_X4_nearestWay y1.2 (y1.2.2.1 23 v1.toNatClampNeg)).bind fun y4 => ((f_J6_compare_7cf53 y4.2 y4.1 (y1.2.2.1 23 v1.toNatClampNeg)).bind fun y5 => (if ((y1.2.2.1 23 v1.toNatClampNeg) + y5.1) = (y1.2.2.1 23 v1.toNatClampNeg) then
    f_X3_goOn_L48 v1 v2 y5.2
  else
    ((f_X7_isSegment y5.2 ((y1.2.2.1 23 v1.toNatClampNeg) + y5.1)).bind fun y7 => (if y7.1 = 0 then
    f_X3_goOn_L48 v1 v2 y7.2
  else
    (if twb v1 30 = true then some (twA y7.2 23 v1 ((y1.2.2.1 23 v1.toNatClampNeg) + y5.1)) else none)))))) else none)))
section
variable {p : Program} {l : Launch} {e : Env} {s : State} {m : MethodId} {args : Array Value} {below : List Frame} {meth : Method} {c : Code} {Q : State → Prop} {dC : Nat → ClassId} {dI : Nat → Nat → Nat} {cI cZ : ClassId} {q : Nat → Nat} {A : Nat → Prop} {res : twS}
set_option maxRecDepth 20000 in
theorem m_X3_goOn_L48 (C : twC p s m args meth c cX3_goOn 6 RX3 wsX3_goOn (dC, dI) (twY cI cZ) A) (hE : twEv p l e rm_X3_goOn s m args below meth c 0 0 Q (dC, dI) A 6 cX3_goOn (twT cI cZ q res)) : ∀ (v1 : Int32) (v2 : Int32) (st : twS), f_X3_goOn_L48 v1 v2 st = some res → twG p l e rm_X3_goOn s m args below meth c 0 0 Q (dC, dI) A 6 (twT cI cZ q st) 48 [(0, .ref (q 7)), (1, .int v1), (2, .int v2)] [] := by
  intro v1 v2 st hf
  unfold f_X3_goOn_L48 at hf
  refine tw_aload_n C dX3_goOn_48 0 rfl rfl ?_
  refine tw_get (K := RX3) (T := TX3) (N := 5) (v := .ref (q 22)) C 7 0 (fun _ h => List.mem_cons_of_mem _ (List.mem_append_left _ (List.mem_append_right _ (h)))) rfl rfl (by decide) (List.mem_cons_of_mem _ (List.mem_append_left _ (List.mem_append_left _ (List.mem_append_left _ (List.mem_of_getElem? (i := 1) rfl))))) rfl rfl dX3_goOn_49 ?_
  refine tw_iload_n C dX3_goOn_52 1 rfl rfl ?_
  refine tw_iconst (v := 3) C dX3_goOn_53 (by decide) ?_
  obtain ⟨hb48001, hf⟩ := tw_ck hf
  refine tw_iast C 22 0 hb48001 rfl rfl (tw_T_a22 cI cZ q st v1 3) dX3_goOn_54 ?_
  refine tw_aload_n C dX3_goOn_55 0 rfl rfl ?_
  refine tw_get (K := RX3) (T := TX3) (N := 5) (v := .ref (q 25)) C 7 3 (fun _ h => List.mem_cons_of_mem _ (List.mem_append_left _ (List.mem_append_right _ (h)))) rfl rfl (by decide) (List.mem_cons_of_mem _ (List.mem_append_left _ (List.mem_append_left _ (List.mem_append_left _ (List.mem_of_getElem? (i := 2) rfl))))) rfl rfl dX3_goOn_56 ?_
  refine tw_iload_n C dX3_goOn_59 1 rfl rfl ?_
  refine tw_iload_n C dX3_goOn_60 2 rfl rfl ?_
  obtain ⟨hb48002, hf⟩ := tw_ck hf
  refine tw_iast C 25 0 hb48002 rfl rfl (tw_T_a25 cI cZ q (twA st 22 v1 3) v1 v2) dX3_goOn_61 ?_
  refine tw_aload_n C dX3_goOn_62 0 rfl rfl ?_
  refine tw_get (K := RX3) (T := TX3) (N := 5) (v := .ref (q 23)) C 7 1 (fun _ h => List.mem_cons_of_mem _ (List.mem_append_left _ (List.mem_append_right _ (h)))) rfl rfl (by decide) (List.mem_cons_of_mem _ (List.mem_append_left _ (List.mem_append_left _ (List.mem_append_left _ (List.mem_of_getElem? (i := 0) rfl))))) rfl rfl dX3_goOn_63 ?_
  refine tw_iload_n C dX3_goOn_66 1 rfl rfl ?_
  refine tw_iconst (v := (-1)) C dX3_goOn_67 (by decide) ?_
  obtain ⟨hb48003, hf⟩ := tw_ck hf
  refine tw_iast C 23 0 hb48003 rfl rfl (tw_T_a23 cI cZ q (twA (twA st 22 v1 3) 25 v1 v2) v1 (-1)) dX3_goOn_68 ?_
  refine tw_goto (tgt := 80) C dX3_goOn_69 (by decide) ?_
  exact tw_endv (Wf := twT cI cZ q) hE hf dX3_goOn_80
set_option maxRecDepth 20000 in
theorem c_X3_goOn (l : Launch) (dC : Nat → ClassId) (dI : Nat → Nat → Nat) (cI cZ : ClassId) (q : Nat → Nat) {st : twS} {v1 : Int32} {v2 : Int32} {res : twS} (hf : f_X3_goOn st v1 v2 = some res) : twMv l yX3_goOn wsX3_goOn rm_X3_goOn (dC, dI) (twY cI cZ) [.ref (q 7), .int v1, .int v2, .ref (q 5)] (twT cI cZ q st) (twT cI cZ q res) := by
  refine tw_entv (cc := cX3_goOn) (maxL := 6) (own := RX3) (by decide) rfl (Nat.le_of_ble_eq_true rfl) rfl ⟨rfl, rfl⟩ ?_
  intro p e s m below meth c A Q C hE
  generalize ([.ref (q 7), .int v1, .int v2, .ref (q 5)] : List Value).toArray = args at C hE ⊢
  refine tw_sub (lv' := [(0, .ref (q 7)), (1, .int v1), (2, .int v2), (3, .ref (q 5))]) [0, 1, 2, 3] rfl ?_
  unfold f_X3_goOn at hf
  refine tw_aload_n C dX3_goOn_0 0 rfl rfl ?_
  refine tw_iload_n C dX3_goOn_1 1 rfl rfl ?_
  obtain ⟨y1, hc1, hf⟩ := tw_bd hf
  refine tw_cVi (As := [.int v1]) (stk := []) C (c_X3_isPerson l dC dI cI cZ q hc1) (cwV 1 C.hts gX3_goOn_X3_isPerson rfl rfl rfl hd_X3_isPerson ⟨Nat.le_of_ble_eq_true rfl, Nat.le_of_ble_eq_true rfl⟩) 7 (ci := 3) rfl rfl rfl rfl rfl (Nat.le_of_ble_eq_true rfl) dX3_goOn_2 ⟨Nat.zero_le _, Nat.zero_le _⟩ ?_
  refine tw_if_ne (tgt := 9) C dX3_goOn_5 (by decide) (fun c2 => ?_) (fun c2 => ?_)
  · have hf := tw_neg hf c2
    refine tw_aload_n C dX3_goOn_9 0 rfl rfl ?_
    refine tw_get (K := RX3) (T := TX3) (N := 5) (v := .ref (q 23)) C 7 1 (fun _ h => List.mem_cons_of_mem _ (List.mem_append_left _ (List.mem_append_right _ (h)))) rfl rfl (by decide) (List.mem_cons_of_mem _ (List.mem_append_left _ (List.mem_append_left _ (List.mem_append_left _ (List.mem_of_getElem? (i := 0) rfl))))) rfl rfl dX3_goOn_10 ?_
    refine tw_iload_n C dX3_goOn_13 1 rfl rfl ?_
    obtain ⟨hb3, hf⟩ := tw_ck hf
    refine tw_iald C 23 0 hb3 rfl rfl dX3_goOn_14 ?_
    refine tw_istore (lv' := [(4, .int (y1.2.2.1 23 v1.toNatClampNeg)), (0, .ref (q 7)), (1, .int v1), (2, .int v2), (3, .ref (q 5))]) C dX3_goOn_15 (by decide) rfl ?_
    refine tw_iload C dX3_goOn_17 0 rfl ?_
    refine tw_aload_n C dX3_goOn_19 4 rfl rfl ?_
    refine tw_iload C dX3_goOn_20 0 rfl ?_
    obtain ⟨y4, hc4, hf⟩ := tw_bd hf
    refine tw_cVi (As := [.int (y1.2.2.1 23 v1.toNatClampNeg)]) (stk := [.int (y1.2.2.1 23 v1.toNatClampNeg)]) C (c_X4_nearestWay l dC dI cI cZ q hc4) (cwV 1 C.hts gX3_goOn_X4_nearestWay rfl rfl rfl hd_X4_nearestWay ⟨Nat.le_of_ble_eq_true rfl, Nat.le_of_ble_eq_true rfl⟩) 5 (ci := 4) rfl rfl rfl rfl rfl (Nat.le_of_ble_eq_true rfl) dX3_goOn_22 ⟨Nat.zero_le _, Nat.zero_le _⟩ ?_
    refine tw_iload C dX3_goOn_25 0 rfl ?_
    obtain ⟨y5, hc5, hf⟩ := tw_bd hf
    refine tw_cSi (As := [.int y4.1, .int (y1.2.2.1 23 v1.toNatClampNeg)]) (stk := [.int (y1.2.2.1 23 v1.toNatClampNeg)]) C (c_J6_compare_7cf53 l dC dI cI cZ q hc5) (va_cwS 2 C.hts gX3_goOn_J6_compare_7cf53 rfl rfl rfl hd_J6_compare_7cf53 ⟨Nat.le_of_ble_eq_true rfl, Nat.le_of_ble_eq_true rfl⟩) rfl rfl (Nat.le_of_ble_eq_true rfl) dX3_goOn_27 ⟨Nat.zero_le _, Nat.zero_le _⟩ ?_
    refine tw_iadd C dX3_goOn_30 ?_
    refine tw_istore (lv' := [(5, .int ((y1.2.2.1 23 v1.toNatClampNeg) + y5.1)), (4, .int (y1.2.2.1 23 v1.toNatClampNeg)), (0, .ref (q 7)), (1, .int v1), (2, .int v2), (3, .ref (q 5))]) C dX3_goOn_31 (by decide) rfl ?_
    refine tw_iload C dX3_goOn_33 0 rfl ?_
    refine tw_iload C dX3_goOn_35 1 rfl ?_
    refine tw_icmp_eq (tgt := 48) C dX3_goOn_37 (by decide) (fun c6 => ?_) (fun c6 => ?_)
    · have hf := tw_pos hf c6
      refine tw_sub [2, 3, 4] rfl ?_
      exact m_X3_goOn_L48 C hE v1 v2 y5.2 hf
    · have hf := tw_neg hf c6
      refine tw_iload C dX3_goOn_40 0 rfl ?_
      obtain ⟨y7, hc7, hf⟩ := tw_bd hf
      refine tw_cNi (As := [.int ((y1.2.2.1 23 v1.toNatClampNeg) + y5.1)]) (stk := []) C (c_X7_isSegment l dC dI cI cZ q hc7) ⟨va_cnB (host := RX7) 1 C.hts gX3_goOn_X7_isSegment_n57 rfl rfl rfl C.hN.2.2 (C.hts _ (List.mem_cons_of_mem _ (List.mem_append_left _ (List.mem_append_left _ (List.mem_append_right _ (List.mem_of_getElem? (i := 0) rfl)))))) hd_X7_isSegment ⟨Nat.le_of_ble_eq_true rfl, Nat.le_of_ble_eq_true rfl⟩, C.hts _ (List.mem_cons_of_mem _ (List.mem_append_left _ (List.mem_append_left _ (List.mem_append_left _ (List.mem_of_getElem? (i := 23) rfl))))), trivial⟩ rfl rfl (Nat.le_of_ble_eq_true rfl) dX3_goOn_42 ⟨Nat.zero_le _, Nat.zero_le _⟩ ?_
      refine tw_if_ne (tgt := 72) C dX3_goOn_45 (by decide) (fun c8 => ?_) (fun c8 => ?_)
      · have hf := tw_neg hf c8
        refine tw_aload_n C dX3_goOn_72 2 rfl rfl ?_
        refine tw_get (K := RX3) (T := TX3) (N := 5) (v := .ref (q 23)) C 7 1 (fun _ h => List.mem_cons_of_mem _ (List.mem_append_left _ (List.mem_append_right _ (h)))) rfl rfl (by decide) (List.mem_cons_of_mem _ (List.mem_append_left _ (List.mem_append_left _ (List.mem_append_left _ (List.mem_of_getElem? (i := 0) rfl))))) rfl rfl dX3_goOn_73 ?_
        refine tw_iload_n C dX3_goOn_76 3 rfl rfl ?_
        refine tw_iload C dX3_goOn_77 0 rfl ?_
        obtain ⟨hb9, hf⟩ := tw_ck hf
        refine tw_iast C 23 0 hb9 rfl rfl (tw_T_a23 cI cZ q y7.2 v1 ((y1.2.2.1 23 v1.toNatClampNeg) + y5.1)) dX3_goOn_79 ?_
        exact tw_endv (Wf := twT cI cZ q) hE hf dX3_goOn_80
      · have hf := tw_pos hf c8
        refine tw_sub [2, 3, 4] rfl ?_
        exact m_X3_goOn_L48 C hE v1 v2 y7.2 hf
  · have hf := tw_pos hf c2
    exact tw_endv (Wf := twT cI cZ q) hE hf dX3_goOn_8
end
/-! X3_liveOne: private void liveOne(int, int, boolean, int, TubeWatch$Doors) -/
abbrev rm_X3_liveOne : Room := { frames := 3, cells := 0, slots := 0, locals := 73 }
def f_X3_liveOne_L117 (v1 : Int32) (v2 : Int32) (st : twS) : Option (twS) :=
  ((f_X3_goOn st v1 v2).bind fun y117001 => some y117001)
def f_X3_liveOne_L94 (v1 : Int32) (v2 : Int32) (v4 : Int32) (st : twS) : Option (twS) :=
  (if twb v1 30 = true then (if (st.2.1 22 v1.toNatClampNeg) = 2 then
    (if v4 < 40 then
    f_X3_liveOne_L117 v1 v2 st
  else
    (if (v2 - v2 / 2 * 2) = 0 then
    f_X3_liveOne_L117 v1 v2 st
  else
    some st))
  else
    some st) else none)
def f_X3_liveOne_L65 (v1 : Int32) (v2 : Int32) (v4 : Int32) (st : twS) : Option (twS) :=
  (if twb v1 30 = true then (if (st.2.1 22 v1.toNatClampNeg) = 1 then
    (if twb v1 30 = true then (if (v2 - (st.2.1 24 v1.toNatClampNeg)) < 3 then
    f_X3_liveOne_L94 v1 v2 v4 st
  else
    (if twb v1 30 = true then f_X3_liveOne_L94 v1 v2 v4 (twA st 22 v1 2) else none)) else none)
  else
    f_X3_liveOne_L94 v1 v2 v4 st) else none)
def f_X3_liveOne_L51 (v1 : Int32) (v2 : Int32) (v4 : Int32) (st : twS) : Option (twS) :=
  (if twb v1 30 = true then (if twb v1 30 = true then f_X3_liveOne_L65 v1 v2 v4 (twA (twA st 22 v1 1) 24 v1 v2) else none) else none)
def f_X3_liveOne (st : twS) (v1 : Int32) (v2 : Int32) (v3 : Int32) (v4 : Int32) : Option (twS) :=
  ((f_X3_isPerson st v1).bind fun y1 => (if y1.1 = 0 then
    some y1.2
  else
    (if v4 < 100 then
    (if twb v1 30 = true then (if (y1.2.2.1 22 v1.toNatClampNeg) = 0 then
    (if v3 = 0 then
    (if v4 < 10 then
    f_X3_liveOne_L65 v1 v2 v4 y1.2
  else
    f_X3_liveOne_L51 v1 v2 v4 y1.2)
  else
    f_X3_liveOne_L51 v1 v2 v4 y1.2)
  else
    f_X3_liveOne_L65 v1 v2 v4 y1.2) else none)
  else
    (if twb v1 30 = true then (if twb v1 30 = true then some (twA (twA y1.2 22 v1 4) 25 v1 v2) else none) else none))))
section
variable {p : Program} {l : Launch} {e : Env} {s : State} {m : MethodId} {args : Array Value} {below : List Frame} {meth : Method} {c : Code} {Q : State → Prop} {dC : Nat → ClassId} {dI : Nat → Nat → Nat} {cI cZ : ClassId} {q : Nat → Nat} {A : Nat → Prop} {res : twS}
set_option maxRecDepth 20000 in
theorem m_X3_liveOne_L117 (C : twC p s m args meth c cX3_liveOne 6 RX3 wsX3_liveOne (dC, dI) (twY cI cZ) A) (hE : twEv p l e rm_X3_liveOne s m args below meth c 0 0 Q (dC, dI) A 6 cX3_liveOne (twT cI cZ q res)) : ∀ (v1 : Int32) (v2 : Int32) (st : twS), f_X3_liveOne_L117 v1 v2 st = some res → twG p l e rm_X3_liveOne s m args below meth c 0 0 Q (dC, dI) A 6 (twT cI cZ q st) 117 [(0, .ref (q 7)), (1, .int v1), (2, .int v2), (5, .ref (q 5))] [] := by
  intro v1 v2 st hf
  unfold f_X3_liveOne_L117 at hf
  refine tw_aload_n C dX3_liveOne_117 0 rfl rfl ?_
  refine tw_iload_n C dX3_liveOne_118 1 rfl rfl ?_
  refine tw_iload_n C dX3_liveOne_119 2 rfl rfl ?_
  refine tw_aload C dX3_liveOne_120 3 rfl ?_
  obtain ⟨y117001, hc117001, hf⟩ := tw_bd hf
  refine tw_cVv (As := [.int v1, .int v2, .ref (q 5)]) (stk := []) C (c_X3_goOn l dC dI cI cZ q hc117001) (cwV 3 C.hts gX3_liveOne_X3_goOn rfl rfl rfl hd_X3_goOn ⟨Nat.le_of_ble_eq_true rfl, Nat.le_of_ble_eq_true rfl⟩) 7 (ci := 3) rfl rfl rfl rfl rfl (Nat.le_of_ble_eq_true rfl) dX3_liveOne_122 ⟨Nat.zero_le _, Nat.zero_le _⟩ ?_
  exact tw_endv (Wf := twT cI cZ q) hE hf dX3_liveOne_125
set_option maxRecDepth 20000 in
theorem m_X3_liveOne_L94 (C : twC p s m args meth c cX3_liveOne 6 RX3 wsX3_liveOne (dC, dI) (twY cI cZ) A) (hE : twEv p l e rm_X3_liveOne s m args below meth c 0 0 Q (dC, dI) A 6 cX3_liveOne (twT cI cZ q res)) : ∀ (v1 : Int32) (v2 : Int32) (v4 : Int32) (st : twS), f_X3_liveOne_L94 v1 v2 v4 st = some res → twG p l e rm_X3_liveOne s m args below meth c 0 0 Q (dC, dI) A 6 (twT cI cZ q st) 94 [(0, .ref (q 7)), (1, .int v1), (2, .int v2), (4, .int v4), (5, .ref (q 5))] [] := by
  intro v1 v2 v4 st hf
  unfold f_X3_liveOne_L94 at hf
  refine tw_aload_n C dX3_liveOne_94 0 rfl rfl ?_
  refine tw_get (K := RX3) (T := TX3) (N := 5) (v := .ref (q 22)) C 7 0 (fun _ h => List.mem_cons_of_mem _ (List.mem_append_left _ (List.mem_append_right _ (h)))) rfl rfl (by decide) (List.mem_cons_of_mem _ (List.mem_append_left _ (List.mem_append_left _ (List.mem_append_left _ (List.mem_of_getElem? (i := 0) rfl))))) rfl rfl dX3_liveOne_95 ?_
  refine tw_iload_n C dX3_liveOne_98 1 rfl rfl ?_
  obtain ⟨hb94001, hf⟩ := tw_ck hf
  refine tw_iald C 22 0 hb94001 rfl rfl dX3_liveOne_99 ?_
  refine tw_iconst (v := 2) C dX3_liveOne_100 (by decide) ?_
  refine tw_icmp_ne (tgt := 125) C dX3_liveOne_101 (by decide) (fun c94002 => ?_) (fun c94002 => ?_)
  · have hf := tw_neg hf c94002
    exact tw_endv (Wf := twT cI cZ q) hE hf dX3_liveOne_125
  · have hf := tw_pos hf c94002
    refine tw_iload C dX3_liveOne_104 3 rfl ?_
    refine tw_bipush (v := 40) C dX3_liveOne_106 (by decide) ?_
    refine tw_icmp_lt (tgt := 117) C dX3_liveOne_108 (by decide) (fun c94003 => ?_) (fun c94003 => ?_)
    · have hf := tw_pos hf c94003
      refine tw_sub [0, 1, 2, 4] rfl ?_
      exact m_X3_liveOne_L117 C hE v1 v2 st hf
    · have hf := tw_neg hf c94003
      refine tw_iload_n C dX3_liveOne_111 2 rfl rfl ?_
      refine tw_iconst (v := 2) C dX3_liveOne_112 (by decide) ?_
      refine tw_irem C dX3_liveOne_113 (by decide) ?_
      refine tw_if_ne (tgt := 125) C dX3_liveOne_114 (by decide) (fun c94004 => ?_) (fun c94004 => ?_)
      · have hf := tw_neg hf c94004
        exact tw_endv (Wf := twT cI cZ q) hE hf dX3_liveOne_125
      · have hf := tw_pos hf c94004
        refine tw_sub [0, 1, 2, 4] rfl ?_
        exact m_X3_liveOne_L117 C hE v1 v2 st hf
set_option maxRecDepth 20000 in
theorem m_X3_liveOne_L65 (C : twC p s m args meth c cX3_liveOne 6 RX3 wsX3_liveOne (dC, dI) (twY cI cZ) A) (hE : twEv p l e rm_X3_liveOne s m args below meth c 0 0 Q (dC, dI) A 6 cX3_liveOne (twT cI cZ q res)) : ∀ (v1 : Int32) (v2 : Int32) (v4 : Int32) (st : twS), f_X3_liveOne_L65 v1 v2 v4 st = some res → twG p l e rm_X3_liveOne s m args below meth c 0 0 Q (dC, dI) A 6 (twT cI cZ q st) 65 [(0, .ref (q 7)), (1, .int v1), (2, .int v2), (4, .int v4), (5, .ref (q 5))] [] := by
  intro v1 v2 v4 st hf
  unfold f_X3_liveOne_L65 at hf
  refine tw_aload_n C dX3_liveOne_65 0 rfl rfl ?_
  refine tw_get (K := RX3) (T := TX3) (N := 5) (v := .ref (q 22)) C 7 0 (fun _ h => List.mem_cons_of_mem _ (List.mem_append_left _ (List.mem_append_right _ (h)))) rfl rfl (by decide) (List.mem_cons_of_mem _ (List.mem_append_left _ (List.mem_append_left _ (List.mem_append_left _ (List.mem_of_getElem? (i := 0) rfl))))) rfl rfl dX3_liveOne_66 ?_
  refine tw_iload_n C dX3_liveOne_69 1 rfl rfl ?_
  obtain ⟨hb65001, hf⟩ := tw_ck hf
  refine tw_iald C 22 0 hb65001 rfl rfl dX3_liveOne_70 ?_
  refine tw_iconst (v := 1) C dX3_liveOne_71 (by decide) ?_
  refine tw_icmp_ne (tgt := 94) C dX3_liveOne_72 (by decide) (fun c65002 => ?_) (fun c65002 => ?_)
  · have hf := tw_neg hf c65002
    exact m_X3_liveOne_L94 C hE v1 v2 v4 st hf
  · have hf := tw_pos hf c65002
    refine tw_iload_n C dX3_liveOne_75 2 rfl rfl ?_
    refine tw_aload_n C dX3_liveOne_76 0 rfl rfl ?_
    refine tw_get (K := RX3) (T := TX3) (N := 5) (v := .ref (q 24)) C 7 2 (fun _ h => List.mem_cons_of_mem _ (List.mem_append_left _ (List.mem_append_right _ (h)))) rfl rfl (by decide) (List.mem_cons_of_mem _ (List.mem_append_left _ (List.mem_append_left _ (List.mem_append_left _ (List.mem_of_getElem? (i := 2) rfl))))) rfl rfl dX3_liveOne_77 ?_
    refine tw_iload_n C dX3_liveOne_80 1 rfl rfl ?_
    obtain ⟨hb65003, hf⟩ := tw_ck hf
    refine tw_iald C 24 0 hb65003 rfl rfl dX3_liveOne_81 ?_
    refine tw_isub C dX3_liveOne_82 ?_
    refine tw_iconst (v := 3) C dX3_liveOne_83 (by decide) ?_
    refine tw_icmp_lt (tgt := 94) C dX3_liveOne_84 (by decide) (fun c65004 => ?_) (fun c65004 => ?_)
    · have hf := tw_pos hf c65004
      exact m_X3_liveOne_L94 C hE v1 v2 v4 st hf
    · have hf := tw_neg hf c65004
      refine tw_aload_n C dX3_liveOne_87 0 rfl rfl ?_
      refine tw_get (K := RX3) (T := TX3) (N := 5) (v := .ref (q 22)) C 7 0 (fun _ h => List.mem_cons_of_mem _ (List.mem_append_left _ (List.mem_append_right _ (h)))) rfl rfl (by decide) (List.mem_cons_of_mem _ (List.mem_append_left _ (List.mem_append_left _ (List.mem_append_left _ (List.mem_of_getElem? (i := 0) rfl))))) rfl rfl dX3_liveOne_88 ?_
      refine tw_iload_n C dX3_liveOne_91 1 rfl rfl ?_
      refine tw_iconst (v := 2) C dX3_liveOne_92 (by decide) ?_
      obtain ⟨hb65005, hf⟩ := tw_ck hf
      refine tw_iast C 22 0 hb65005 rfl rfl (tw_T_a22 cI cZ q st v1 2) dX3_liveOne_93 ?_
      exact m_X3_liveOne_L94 C hE v1 v2 v4 (twA st 22 v1 2) hf
set_option maxRecDepth 20000 in
theorem m_X3_liveOne_L51 (C : twC p s m args meth c cX3_liveOne 6 RX3 wsX3_liveOne (dC, dI) (twY cI cZ) A) (hE : twEv p l e rm_X3_liveOne s m args below meth c 0 0 Q (dC, dI) A 6 cX3_liveOne (twT cI cZ q res)) : ∀ (v1 : Int32) (v2 : Int32) (v4 : Int32) (st : twS), f_X3_liveOne_L51 v1 v2 v4 st = some res → twG p l e rm_X3_liveOne s m args below meth c 0 0 Q (dC, dI) A 6 (twT cI cZ q st) 51 [(0, .ref (q 7)), (1, .int v1), (2, .int v2), (4, .int v4), (5, .ref (q 5))] [] := by
  intro v1 v2 v4 st hf
  unfold f_X3_liveOne_L51 at hf
  refine tw_aload_n C dX3_liveOne_51 0 rfl rfl ?_
  refine tw_get (K := RX3) (T := TX3) (N := 5) (v := .ref (q 22)) C 7 0 (fun _ h => List.mem_cons_of_mem _ (List.mem_append_left _ (List.mem_append_right _ (h)))) rfl rfl (by decide) (List.mem_cons_of_mem _ (List.mem_append_left _ (List.mem_append_left _ (List.mem_append_left _ (List.mem_of_getElem? (i := 0) rfl))))) rfl rfl dX3_liveOne_52 ?_
  refine tw_iload_n C dX3_liveOne_55 1 rfl rfl ?_
  refine tw_iconst (v := 1) C dX3_liveOne_56 (by decide) ?_
  obtain ⟨hb51001, hf⟩ := tw_ck hf
  refine tw_iast C 22 0 hb51001 rfl rfl (tw_T_a22 cI cZ q st v1 1) dX3_liveOne_57 ?_
  refine tw_aload_n C dX3_liveOne_58 0 rfl rfl ?_
  refine tw_get (K := RX3) (T := TX3) (N := 5) (v := .ref (q 24)) C 7 2 (fun _ h => List.mem_cons_of_mem _ (List.mem_append_left _ (List.mem_append_right _ (h)))) rfl rfl (by decide) (List.mem_cons_of_mem _ (List.mem_append_left _ (List.mem_append_left _ (List.mem_append_left _ (List.mem_of_getElem? (i := 2) rfl))))) rfl rfl dX3_liveOne_59 ?_
  refine tw_iload_n C dX3_liveOne_62 1 rfl rfl ?_
  refine tw_iload_n C dX3_liveOne_63 2 rfl rfl ?_
  obtain ⟨hb51002, hf⟩ := tw_ck hf
  refine tw_iast C 24 0 hb51002 rfl rfl (tw_T_a24 cI cZ q (twA st 22 v1 1) v1 v2) dX3_liveOne_64 ?_
  exact m_X3_liveOne_L65 C hE v1 v2 v4 (twA (twA st 22 v1 1) 24 v1 v2) hf
set_option maxRecDepth 20000 in
theorem c_X3_liveOne (l : Launch) (dC : Nat → ClassId) (dI : Nat → Nat → Nat) (cI cZ : ClassId) (q : Nat → Nat) {st : twS} {v1 : Int32} {v2 : Int32} {v3 : Int32} {v4 : Int32} {res : twS} (hf : f_X3_liveOne st v1 v2 v3 v4 = some res) : twMv l yX3_liveOne wsX3_liveOne rm_X3_liveOne (dC, dI) (twY cI cZ) [.ref (q 7), .int v1, .int v2, .int v3, .int v4, .ref (q 5)] (twT cI cZ q st) (twT cI cZ q res) := by
  refine tw_entv (cc := cX3_liveOne) (maxL := 6) (own := RX3) (by decide) rfl (Nat.le_of_ble_eq_true rfl) rfl ⟨rfl, rfl⟩ ?_
  intro p e s m below meth c A Q C hE
  generalize ([.ref (q 7), .int v1, .int v2, .int v3, .int v4, .ref (q 5)] : List Value).toArray = args at C hE ⊢
  refine tw_sub (lv' := [(0, .ref (q 7)), (1, .int v1), (2, .int v2), (3, .int v3), (4, .int v4), (5, .ref (q 5))]) [0, 1, 2, 3, 4, 5] rfl ?_
  unfold f_X3_liveOne at hf
  refine tw_aload_n C dX3_liveOne_0 0 rfl rfl ?_
  refine tw_iload_n C dX3_liveOne_1 1 rfl rfl ?_
  obtain ⟨y1, hc1, hf⟩ := tw_bd hf
  refine tw_cVi (As := [.int v1]) (stk := []) C (c_X3_isPerson l dC dI cI cZ q hc1) (cwV 1 C.hts gX3_liveOne_X3_isPerson rfl rfl rfl hd_X3_isPerson ⟨Nat.le_of_ble_eq_true rfl, Nat.le_of_ble_eq_true rfl⟩) 7 (ci := 3) rfl rfl rfl rfl rfl (Nat.le_of_ble_eq_true rfl) dX3_liveOne_2 ⟨Nat.zero_le _, Nat.zero_le _⟩ ?_
  refine tw_if_ne (tgt := 9) C dX3_liveOne_5 (by decide) (fun c2 => ?_) (fun c2 => ?_)
  · have hf := tw_neg hf c2
    refine tw_iload C dX3_liveOne_9 4 rfl ?_
    refine tw_bipush (v := 100) C dX3_liveOne_11 (by decide) ?_
    refine tw_icmp_lt (tgt := 31) C dX3_liveOne_13 (by decide) (fun c3 => ?_) (fun c3 => ?_)
    · have hf := tw_pos hf c3
      refine tw_aload_n C dX3_liveOne_31 0 rfl rfl ?_
      refine tw_get (K := RX3) (T := TX3) (N := 5) (v := .ref (q 22)) C 7 0 (fun _ h => List.mem_cons_of_mem _ (List.mem_append_left _ (List.mem_append_right _ (h)))) rfl rfl (by decide) (List.mem_cons_of_mem _ (List.mem_append_left _ (List.mem_append_left _ (List.mem_append_left _ (List.mem_of_getElem? (i := 0) rfl))))) rfl rfl dX3_liveOne_32 ?_
      refine tw_iload_n C dX3_liveOne_35 1 rfl rfl ?_
      obtain ⟨hb4, hf⟩ := tw_ck hf
      refine tw_iald C 22 0 hb4 rfl rfl dX3_liveOne_36 ?_
      refine tw_if_ne (tgt := 65) C dX3_liveOne_37 (by decide) (fun c5 => ?_) (fun c5 => ?_)
      · have hf := tw_neg hf c5
        refine tw_sub [0, 1, 2, 4, 5] rfl ?_
        exact m_X3_liveOne_L65 C hE v1 v2 v4 y1.2 hf
      · have hf := tw_pos hf c5
        refine tw_iload_n C dX3_liveOne_40 3 rfl rfl ?_
        refine tw_if_ne (tgt := 51) C dX3_liveOne_41 (by decide) (fun c6 => ?_) (fun c6 => ?_)
        · have hf := tw_neg hf c6
          refine tw_sub [0, 1, 2, 4, 5] rfl ?_
          exact m_X3_liveOne_L51 C hE v1 v2 v4 y1.2 hf
        · have hf := tw_pos hf c6
          refine tw_iload C dX3_liveOne_44 4 rfl ?_
          refine tw_bipush (v := 10) C dX3_liveOne_46 (by decide) ?_
          refine tw_icmp_lt (tgt := 65) C dX3_liveOne_48 (by decide) (fun c7 => ?_) (fun c7 => ?_)
          · have hf := tw_pos hf c7
            refine tw_sub [0, 1, 2, 4, 5] rfl ?_
            exact m_X3_liveOne_L65 C hE v1 v2 v4 y1.2 hf
          · have hf := tw_neg hf c7
            refine tw_sub [0, 1, 2, 4, 5] rfl ?_
            exact m_X3_liveOne_L51 C hE v1 v2 v4 y1.2 hf
    · have hf := tw_neg hf c3
      refine tw_aload_n C dX3_liveOne_16 0 rfl rfl ?_
      refine tw_get (K := RX3) (T := TX3) (N := 5) (v := .ref (q 22)) C 7 0 (fun _ h => List.mem_cons_of_mem _ (List.mem_append_left _ (List.mem_append_right _ (h)))) rfl rfl (by decide) (List.mem_cons_of_mem _ (List.mem_append_left _ (List.mem_append_left _ (List.mem_append_left _ (List.mem_of_getElem? (i := 0) rfl))))) rfl rfl dX3_liveOne_17 ?_
      refine tw_iload_n C dX3_liveOne_20 1 rfl rfl ?_
      refine tw_iconst (v := 4) C dX3_liveOne_21 (by decide) ?_
      obtain ⟨hb8, hf⟩ := tw_ck hf
      refine tw_iast C 22 0 hb8 rfl rfl (tw_T_a22 cI cZ q y1.2 v1 4) dX3_liveOne_22 ?_
      refine tw_aload_n C dX3_liveOne_23 0 rfl rfl ?_
      refine tw_get (K := RX3) (T := TX3) (N := 5) (v := .ref (q 25)) C 7 3 (fun _ h => List.mem_cons_of_mem _ (List.mem_append_left _ (List.mem_append_right _ (h)))) rfl rfl (by decide) (List.mem_cons_of_mem _ (List.mem_append_left _ (List.mem_append_left _ (List.mem_append_left _ (List.mem_of_getElem? (i := 1) rfl))))) rfl rfl dX3_liveOne_24 ?_
      refine tw_iload_n C dX3_liveOne_27 1 rfl rfl ?_
      refine tw_iload_n C dX3_liveOne_28 2 rfl rfl ?_
      obtain ⟨hb9, hf⟩ := tw_ck hf
      refine tw_iast C 25 0 hb9 rfl rfl (tw_T_a25 cI cZ q (twA y1.2 22 v1 4) v1 v2) dX3_liveOne_29 ?_
      exact tw_endv (Wf := twT cI cZ q) hE hf dX3_liveOne_30
  · have hf := tw_pos hf c2
    exact tw_endv (Wf := twT cI cZ q) hE hf dX3_liveOne_8
end
/-! X3_live: void live(int, boolean, TubeWatch$Air, TubeWatch$Doors) -/
abbrev rm_X3_live : Room := { frames := 4, cells := 0, slots := 0, locals := 98 }
def f_X3_live_L3b (rec : Int32 → Int32 → Int32 → twS → Option (twS)) (v1 : Int32) (v2 : Int32) (v5 : Int32) (st : twS) : Option (twS) :=
  (if (st.1 16) ≤ v5 then
    some st
  else
    (if 30 ≤ v5 then
    some st
  else
    (if twb v5 30 = true then (if (st.2.1 22 v5.toNatClampNeg) = 3 then
    rec v1 v2 (v5 + 1) st
  else
    (if twb v5 30 = true then (if (st.2.1 22 v5.toNatClampNeg) = 4 then
    rec v1 v2 (v5 + 1) st
  else
    (if twb v5 30 = true then ((f_X0_smokeIn st (st.2.1 23 v5.toNatClampNeg)).bind fun y3008 => ((f_X3_liveOne y3008.2 v5 v1 v2 y3008.1).bind fun y3009 => rec v1 v2 (v5 + 1) y3009)) else none)) else none)) else none)))
def f_X3_live_L3 : Nat → Int32 → Int32 → Int32 → twS → Option (twS)
  | 0 => fun _ _ _ _ => none
  | n + 1 => fun v1 v2 v5 st => f_X3_live_L3b (f_X3_live_L3 n) v1 v2 v5 st
def f_X3_live (st : twS) (v1 : Int32) (v2 : Int32) : Option (twS) :=
  f_X3_live_L3 twN v1 v2 0 st
section
variable {p : Program} {l : Launch} {e : Env} {s : State} {m : MethodId} {args : Array Value} {below : List Frame} {meth : Method} {c : Code} {Q : State → Prop} {dC : Nat → ClassId} {dI : Nat → Nat → Nat} {cI cZ : ClassId} {q : Nat → Nat} {A : Nat → Prop} {res : twS}
set_option maxRecDepth 20000 in
theorem m_X3_live_L3b (C : twC p s m args meth c cX3_live 6 RX3 wsX3_live (dC, dI) (twY cI cZ) A) (hE : twEv p l e rm_X3_live s m args below meth c 0 0 Q (dC, dI) A 6 cX3_live (twT cI cZ q res)) {rec : Int32 → Int32 → Int32 → twS → Option (twS)} (hrec : ∀ (v1 : Int32) (v2 : Int32) (v5 : Int32) (st : twS), rec v1 v2 v5 st = some res → twG p l e rm_X3_live s m args below meth c 0 0 Q (dC, dI) A 6 (twT cI cZ q st) 3 [(0, .ref (q 7)), (1, .int v1), (2, .int v2), (3, .ref (q 3)), (4, .ref (q 5)), (5, .int v5)] []) : ∀ (v1 : Int32) (v2 : Int32) (v5 : Int32) (st : twS), f_X3_live_L3b rec v1 v2 v5 st = some res → twG p l e rm_X3_live s m args below meth c 0 0 Q (dC, dI) A 6 (twT cI cZ q st) 3 [(0, .ref (q 7)), (1, .int v1), (2, .int v2), (3, .ref (q 3)), (4, .ref (q 5)), (5, .int v5)] [] := by
  intro v1 v2 v5 st hf
  unfold f_X3_live_L3b at hf
  refine tw_iload C dX3_live_3 5 rfl ?_
  refine tw_aload_n C dX3_live_5 0 rfl rfl ?_
  refine tw_get (K := RX3) (T := TX3) (N := 5) (v := .int (st.1 16)) C 7 4 (fun _ h => List.mem_cons_of_mem _ (List.mem_append_left _ (List.mem_append_left _ (List.mem_append_right _ (h))))) rfl rfl (by decide) (List.mem_cons_of_mem _ (List.mem_append_left _ (List.mem_append_left _ (List.mem_append_left _ (List.mem_append_left _ (List.mem_of_getElem? (i := 0) rfl)))))) rfl rfl dX3_live_6 ?_
  refine tw_icmp_ge (tgt := 68) C dX3_live_9 (by decide) (fun c3001 => ?_) (fun c3001 => ?_)
  · have hf := tw_pos hf c3001
    exact tw_endv (Wf := twT cI cZ q) hE hf dX3_live_68
  · have hf := tw_neg hf c3001
    refine tw_iload C dX3_live_12 5 rfl ?_
    refine tw_bipush (v := 30) C dX3_live_14 (by decide) ?_
    refine tw_icmp_ge (tgt := 68) C dX3_live_16 (by decide) (fun c3002 => ?_) (fun c3002 => ?_)
    · have hf := tw_pos hf c3002
      exact tw_endv (Wf := twT cI cZ q) hE hf dX3_live_68
    · have hf := tw_neg hf c3002
      refine tw_aload_n C dX3_live_19 0 rfl rfl ?_
      refine tw_get (K := RX3) (T := TX3) (N := 5) (v := .ref (q 22)) C 7 0 (fun _ h => List.mem_cons_of_mem _ (List.mem_append_left _ (List.mem_append_left _ (List.mem_append_right _ (h))))) rfl rfl (by decide) (List.mem_cons_of_mem _ (List.mem_append_left _ (List.mem_append_left _ (List.mem_append_left _ (List.mem_append_left _ (List.mem_of_getElem? (i := 1) rfl)))))) rfl rfl dX3_live_20 ?_
      refine tw_iload C dX3_live_23 5 rfl ?_
      obtain ⟨hb3003, hf⟩ := tw_ck hf
      refine tw_iald C 22 0 hb3003 rfl rfl dX3_live_25 ?_
      refine tw_iconst (v := 3) C dX3_live_26 (by decide) ?_
      refine tw_icmp_eq (tgt := 62) C dX3_live_27 (by decide) (fun c3004 => ?_) (fun c3004 => ?_)
      · have hf := tw_pos hf c3004
        refine tw_iinc (v := (v5 + 1)) (lv' := [(5, .int (v5 + 1)), (0, .ref (q 7)), (1, .int v1), (2, .int v2), (3, .ref (q 3)), (4, .ref (q 5))]) C dX3_live_62 (k := 5) rfl rfl (by decide) rfl ?_
        refine tw_goto (tgt := 3) C dX3_live_65 (by decide) ?_
        refine tw_sub [1, 2, 3, 4, 5, 0] rfl ?_
        exact hrec v1 v2 (v5 + 1) st hf
      · have hf := tw_neg hf c3004
        refine tw_aload_n C dX3_live_30 0 rfl rfl ?_
        refine tw_get (K := RX3) (T := TX3) (N := 5) (v := .ref (q 22)) C 7 0 (fun _ h => List.mem_cons_of_mem _ (List.mem_append_left _ (List.mem_append_left _ (List.mem_append_right _ (h))))) rfl rfl (by decide) (List.mem_cons_of_mem _ (List.mem_append_left _ (List.mem_append_left _ (List.mem_append_left _ (List.mem_append_left _ (List.mem_of_getElem? (i := 1) rfl)))))) rfl rfl dX3_live_31 ?_
        refine tw_iload C dX3_live_34 5 rfl ?_
        obtain ⟨hb3005, hf⟩ := tw_ck hf
        refine tw_iald C 22 0 hb3005 rfl rfl dX3_live_36 ?_
        refine tw_iconst (v := 4) C dX3_live_37 (by decide) ?_
        refine tw_icmp_eq (tgt := 62) C dX3_live_38 (by decide) (fun c3006 => ?_) (fun c3006 => ?_)
        · have hf := tw_pos hf c3006
          refine tw_iinc (v := (v5 + 1)) (lv' := [(5, .int (v5 + 1)), (0, .ref (q 7)), (1, .int v1), (2, .int v2), (3, .ref (q 3)), (4, .ref (q 5))]) C dX3_live_62 (k := 5) rfl rfl (by decide) rfl ?_
          refine tw_goto (tgt := 3) C dX3_live_65 (by decide) ?_
          refine tw_sub [1, 2, 3, 4, 5, 0] rfl ?_
          exact hrec v1 v2 (v5 + 1) st hf
        · have hf := tw_neg hf c3006
          refine tw_aload_n C dX3_live_41 0 rfl rfl ?_
          refine tw_iload C dX3_live_42 5 rfl ?_
          refine tw_iload_n C dX3_live_44 1 rfl rfl ?_
          refine tw_iload_n C dX3_live_45 2 rfl rfl ?_
          refine tw_aload_n C dX3_live_46 3 rfl rfl ?_
          refine tw_aload_n C dX3_live_47 0 rfl rfl ?_
          refine tw_get (K := RX3) (T := TX3) (N := 5) (v := .ref (q 23)) C 7 1 (fun _ h => List.mem_cons_of_mem _ (List.mem_append_left _ (List.mem_append_left _ (List.mem_append_right _ (h))))) rfl rfl (by decide) (List.mem_cons_of_mem _ (List.mem_append_left _ (List.mem_append_left _ (List.mem_append_left _ (List.mem_append_left _ (List.mem_of_getElem? (i := 2) rfl)))))) rfl rfl dX3_live_48 ?_
          refine tw_iload C dX3_live_51 5 rfl ?_
          obtain ⟨hb3007, hf⟩ := tw_ck hf
          refine tw_iald C 23 0 hb3007 rfl rfl dX3_live_53 ?_
          obtain ⟨y3008, hc3008, hf⟩ := tw_bd hf
          refine tw_cVi (As := [.int (st.2.1 23 v5.toNatClampNeg)]) (stk := [.int v2, .int v1, .int v5, .ref (q 7)]) C (c_X0_smokeIn l dC dI cI cZ q hc3008) (cwV 1 C.hts gX3_live_X0_smokeIn rfl rfl rfl hd_X0_smokeIn ⟨Nat.le_of_ble_eq_true rfl, Nat.le_of_ble_eq_true rfl⟩) 3 (ci := 0) rfl rfl rfl rfl rfl (Nat.le_of_ble_eq_true rfl) dX3_live_54 ⟨Nat.zero_le _, Nat.zero_le _⟩ ?_
          refine tw_aload C dX3_live_57 4 rfl ?_
          obtain ⟨y3009, hc3009, hf⟩ := tw_bd hf
          refine tw_cVv (As := [.int v5, .int v1, .int v2, .int y3008.1, .ref (q 5)]) (stk := []) C (c_X3_liveOne l dC dI cI cZ q hc3009) (cwV 5 C.hts gX3_live_X3_liveOne rfl rfl rfl hd_X3_liveOne ⟨Nat.le_of_ble_eq_true rfl, Nat.le_of_ble_eq_true rfl⟩) 7 (ci := 3) rfl rfl rfl rfl rfl (Nat.le_of_ble_eq_true rfl) dX3_live_59 ⟨Nat.zero_le _, Nat.zero_le _⟩ ?_
          refine tw_iinc (v := (v5 + 1)) (lv' := [(5, .int (v5 + 1)), (0, .ref (q 7)), (1, .int v1), (2, .int v2), (3, .ref (q 3)), (4, .ref (q 5))]) C dX3_live_62 (k := 5) rfl rfl (by decide) rfl ?_
          refine tw_goto (tgt := 3) C dX3_live_65 (by decide) ?_
          refine tw_sub [1, 2, 3, 4, 5, 0] rfl ?_
          exact hrec v1 v2 (v5 + 1) y3009 hf
theorem m_X3_live_L3 (C : twC p s m args meth c cX3_live 6 RX3 wsX3_live (dC, dI) (twY cI cZ) A) (hE : twEv p l e rm_X3_live s m args below meth c 0 0 Q (dC, dI) A 6 cX3_live (twT cI cZ q res)) : ∀ (n : Nat) (v1 : Int32) (v2 : Int32) (v5 : Int32) (st : twS), f_X3_live_L3 n v1 v2 v5 st = some res → twG p l e rm_X3_live s m args below meth c 0 0 Q (dC, dI) A 6 (twT cI cZ q st) 3 [(0, .ref (q 7)), (1, .int v1), (2, .int v2), (3, .ref (q 3)), (4, .ref (q 5)), (5, .int v5)] [] := by
  intro n
  induction n with
  | zero =>
    intro v1 v2 v5 st hf
    have hf : none = some res := hf
    cases hf
  | succ n ih =>
    intro v1 v2 v5 st hf
    exact m_X3_live_L3b C hE ih v1 v2 v5 st hf
set_option maxRecDepth 20000 in
theorem c_X3_live (l : Launch) (dC : Nat → ClassId) (dI : Nat → Nat → Nat) (cI cZ : ClassId) (q : Nat → Nat) {st : twS} {v1 : Int32} {v2 : Int32} {res : twS} (hf : f_X3_live st v1 v2 = some res) : twMv l yX3_live wsX3_live rm_X3_live (dC, dI) (twY cI cZ) [.ref (q 7), .int v1, .int v2, .ref (q 3), .ref (q 5)] (twT cI cZ q st) (twT cI cZ q res) := by
  refine tw_entv (cc := cX3_live) (maxL := 6) (own := RX3) (by decide) rfl (Nat.le_of_ble_eq_true rfl) rfl ⟨rfl, rfl⟩ ?_
  intro p e s m below meth c A Q C hE
  generalize ([.ref (q 7), .int v1, .int v2, .ref (q 3), .ref (q 5)] : List Value).toArray = args at C hE ⊢
  refine tw_sub (lv' := [(0, .ref (q 7)), (1, .int v1), (2, .int v2), (3, .ref (q 3)), (4, .ref (q 5))]) [0, 1, 2, 3, 4] rfl ?_
  unfold f_X3_live at hf
  refine tw_iconst (v := 0) C dX3_live_0 (by decide) ?_
  refine tw_istore (lv' := [(5, .int 0), (0, .ref (q 7)), (1, .int v1), (2, .int v2), (3, .ref (q 3)), (4, .ref (q 5))]) C dX3_live_1 (by decide) rfl ?_
  refine tw_sub [1, 2, 3, 4, 5, 0] rfl ?_
  exact m_X3_live_L3 C hE twN v1 v2 0 st hf
end
/-! X7_doStep: private void doStep() -/
abbrev rm_X7_doStep : Room := { frames := 5, cells := 0, slots := 0, locals := 123 }
def f_X7_doStep (st : twS) : Option (twS) :=
  ((f_X7_hasPower st).bind fun y1 => ((f_X5_turn y1.2 y1.1).bind fun y2 => ((f_X5_push y2).bind fun y3 => ((f_X6_become y3.2 y3.1).bind fun y4 => ((f_X7_burn y4).bind fun y5 => ((f_X7_moveAir y5).bind fun y6 => ((f_X7_watch y6).bind fun y7 => ((f_X7_followChart y7).bind fun y8 => ((f_X3_live y8 (y8.1 4) (y8.1 2)).bind fun y9 => some (twI y9 4 ((y9.1 4) + 1)))))))))))
section
variable {p : Program} {l : Launch} {e : Env} {s : State} {m : MethodId} {args : Array Value} {below : List Frame} {meth : Method} {c : Code} {Q : State → Prop} {dC : Nat → ClassId} {dI : Nat → Nat → Nat} {cI cZ : ClassId} {q : Nat → Nat} {A : Nat → Prop} {res : twS}
set_option maxRecDepth 20000 in
theorem c_X7_doStep (l : Launch) (dC : Nat → ClassId) (dI : Nat → Nat → Nat) (cI cZ : ClassId) (q : Nat → Nat) {st : twS} {res : twS} (hf : f_X7_doStep st = some res) : twMv l yX7_doStep wsX7_doStep rm_X7_doStep (dC, dI) (twY cI cZ) [.ref (q 0)] (twT cI cZ q st) (twT cI cZ q res) := by
  refine tw_entv (cc := cX7_doStep) (maxL := 1) (own := RX7) (by decide) rfl (Nat.le_of_ble_eq_true rfl) rfl ⟨rfl, rfl⟩ ?_
  intro p e s m below meth c A Q C hE
  generalize ([.ref (q 0)] : List Value).toArray = args at C hE ⊢
  refine tw_sub (lv' := [(0, .ref (q 0))]) [0] rfl ?_
  unfold f_X7_doStep at hf
  refine tw_aload_n C dX7_doStep_0 0 rfl rfl ?_
  refine tw_get (K := RX7) (T := TX7) (N := 14) (v := .ref (q 1)) C 0 0 (fun _ h => List.mem_cons_of_mem _ (List.mem_append_left _ (List.mem_append_left _ (List.mem_append_left _ (List.mem_append_left _ (List.mem_append_left _ (List.mem_append_left _ (List.mem_append_left _ (List.mem_append_right _ (h)))))))))) rfl rfl (by decide) (List.mem_cons_of_mem _ (List.mem_append_left _ (List.mem_append_left _ (List.mem_append_left _ (List.mem_append_left _ (List.mem_append_left _ (List.mem_append_left _ (List.mem_append_left _ (List.mem_append_left _ (List.mem_append_left _ (List.mem_of_getElem? (i := 0) rfl))))))))))) rfl rfl dX7_doStep_1 ?_
  refine tw_aload_n C dX7_doStep_4 0 rfl rfl ?_
  obtain ⟨y1, hc1, hf⟩ := tw_bd hf
  refine tw_cVi (As := []) (stk := [.ref (q 1)]) C (c_X7_hasPower l dC dI cI cZ q hc1) (cwV 0 C.hts gX7_doStep_X7_hasPower rfl rfl rfl hd_X7_hasPower ⟨Nat.le_of_ble_eq_true rfl, Nat.le_of_ble_eq_true rfl⟩) 0 (ci := 7) rfl rfl rfl rfl rfl (Nat.le_of_ble_eq_true rfl) dX7_doStep_5 ⟨Nat.zero_le _, Nat.zero_le _⟩ ?_
  obtain ⟨y2, hc2, hf⟩ := tw_bd hf
  refine tw_cVv (As := [.int y1.1]) (stk := []) C (c_X5_turn l dC dI cI cZ q hc2) (cwV 1 C.hts gX7_doStep_X5_turn rfl rfl rfl hd_X5_turn ⟨Nat.le_of_ble_eq_true rfl, Nat.le_of_ble_eq_true rfl⟩) 1 (ci := 5) rfl rfl rfl rfl rfl (Nat.le_of_ble_eq_true rfl) dX7_doStep_8 ⟨Nat.zero_le _, Nat.zero_le _⟩ ?_
  refine tw_aload_n C dX7_doStep_11 0 rfl rfl ?_
  refine tw_get (K := RX7) (T := TX7) (N := 14) (v := .ref (q 2)) C 0 1 (fun _ h => List.mem_cons_of_mem _ (List.mem_append_left _ (List.mem_append_left _ (List.mem_append_left _ (List.mem_append_left _ (List.mem_append_left _ (List.mem_append_left _ (List.mem_append_left _ (List.mem_append_right _ (h)))))))))) rfl rfl (by decide) (List.mem_cons_of_mem _ (List.mem_append_left _ (List.mem_append_left _ (List.mem_append_left _ (List.mem_append_left _ (List.mem_append_left _ (List.mem_append_left _ (List.mem_append_left _ (List.mem_append_left _ (List.mem_append_left _ (List.mem_of_getElem? (i := 1) rfl))))))))))) rfl rfl dX7_doStep_12 ?_
  refine tw_aload_n C dX7_doStep_15 0 rfl rfl ?_
  refine tw_get (K := RX7) (T := TX7) (N := 14) (v := .ref (q 1)) C 0 0 (fun _ h => List.mem_cons_of_mem _ (List.mem_append_left _ (List.mem_append_left _ (List.mem_append_left _ (List.mem_append_left _ (List.mem_append_left _ (List.mem_append_left _ (List.mem_append_left _ (List.mem_append_right _ (h)))))))))) rfl rfl (by decide) (List.mem_cons_of_mem _ (List.mem_append_left _ (List.mem_append_left _ (List.mem_append_left _ (List.mem_append_left _ (List.mem_append_left _ (List.mem_append_left _ (List.mem_append_left _ (List.mem_append_left _ (List.mem_append_left _ (List.mem_of_getElem? (i := 0) rfl))))))))))) rfl rfl dX7_doStep_16 ?_
  obtain ⟨y3, hc3, hf⟩ := tw_bd hf
  refine tw_cVi (As := []) (stk := [.ref (q 2)]) C (c_X5_push l dC dI cI cZ q hc3) (cwV 0 C.hts gX7_doStep_X5_push rfl rfl rfl hd_X5_push ⟨Nat.le_of_ble_eq_true rfl, Nat.le_of_ble_eq_true rfl⟩) 1 (ci := 5) rfl rfl rfl rfl rfl (Nat.le_of_ble_eq_true rfl) dX7_doStep_19 ⟨Nat.zero_le _, Nat.zero_le _⟩ ?_
  obtain ⟨y4, hc4, hf⟩ := tw_bd hf
  refine tw_cVv (As := [.int y3.1]) (stk := []) C (c_X6_become l dC dI cI cZ q hc4) (cwV 1 C.hts gX7_doStep_X6_become rfl rfl rfl hd_X6_become ⟨Nat.le_of_ble_eq_true rfl, Nat.le_of_ble_eq_true rfl⟩) 2 (ci := 6) rfl rfl rfl rfl rfl (Nat.le_of_ble_eq_true rfl) dX7_doStep_22 ⟨Nat.zero_le _, Nat.zero_le _⟩ ?_
  refine tw_aload_n C dX7_doStep_25 0 rfl rfl ?_
  obtain ⟨y5, hc5, hf⟩ := tw_bd hf
  refine tw_cVv (As := []) (stk := []) C (c_X7_burn l dC dI cI cZ q hc5) (cwV 0 C.hts gX7_doStep_X7_burn rfl rfl rfl hd_X7_burn ⟨Nat.le_of_ble_eq_true rfl, Nat.le_of_ble_eq_true rfl⟩) 0 (ci := 7) rfl rfl rfl rfl rfl (Nat.le_of_ble_eq_true rfl) dX7_doStep_26 ⟨Nat.zero_le _, Nat.zero_le _⟩ ?_
  refine tw_aload_n C dX7_doStep_29 0 rfl rfl ?_
  obtain ⟨y6, hc6, hf⟩ := tw_bd hf
  refine tw_cVv (As := []) (stk := []) C (c_X7_moveAir l dC dI cI cZ q hc6) (cwV 0 C.hts gX7_doStep_X7_moveAir rfl rfl rfl hd_X7_moveAir ⟨Nat.le_of_ble_eq_true rfl, Nat.le_of_ble_eq_true rfl⟩) 0 (ci := 7) rfl rfl rfl rfl rfl (Nat.le_of_ble_eq_true rfl) dX7_doStep_30 ⟨Nat.zero_le _, Nat.zero_le _⟩ ?_
  refine tw_aload_n C dX7_doStep_33 0 rfl rfl ?_
  obtain ⟨y7, hc7, hf⟩ := tw_bd hf
  refine tw_cVv (As := []) (stk := []) C (c_X7_watch l dC dI cI cZ q hc7) (cwV 0 C.hts gX7_doStep_X7_watch rfl rfl rfl hd_X7_watch ⟨Nat.le_of_ble_eq_true rfl, Nat.le_of_ble_eq_true rfl⟩) 0 (ci := 7) rfl rfl rfl rfl rfl (Nat.le_of_ble_eq_true rfl) dX7_doStep_34 ⟨Nat.zero_le _, Nat.zero_le _⟩ ?_
  refine tw_aload_n C dX7_doStep_37 0 rfl rfl ?_
  obtain ⟨y8, hc8, hf⟩ := tw_bd hf
  refine tw_cVv (As := []) (stk := []) C (c_X7_followChart l dC dI cI cZ q hc8) (cwV 0 C.hts gX7_doStep_X7_followChart rfl rfl rfl hd_X7_followChart ⟨Nat.le_of_ble_eq_true rfl, Nat.le_of_ble_eq_true rfl⟩) 0 (ci := 7) rfl rfl rfl rfl rfl (Nat.le_of_ble_eq_true rfl) dX7_doStep_38 ⟨Nat.zero_le _, Nat.zero_le _⟩ ?_
  refine tw_aload_n C dX7_doStep_41 0 rfl rfl ?_
  refine tw_get (K := RX7) (T := TX7) (N := 14) (v := .ref (q 7)) C 0 6 (fun _ h => List.mem_cons_of_mem _ (List.mem_append_left _ (List.mem_append_left _ (List.mem_append_left _ (List.mem_append_left _ (List.mem_append_left _ (List.mem_append_left _ (List.mem_append_left _ (List.mem_append_right _ (h)))))))))) rfl rfl (by decide) (List.mem_cons_of_mem _ (List.mem_append_left _ (List.mem_append_left _ (List.mem_append_left _ (List.mem_append_left _ (List.mem_append_left _ (List.mem_append_left _ (List.mem_append_left _ (List.mem_append_left _ (List.mem_append_left _ (List.mem_of_getElem? (i := 2) rfl))))))))))) rfl rfl dX7_doStep_42 ?_
  refine tw_aload_n C dX7_doStep_45 0 rfl rfl ?_
  refine tw_get (K := RX7) (T := TX7) (N := 14) (v := .int (y8.1 4)) C 0 13 (fun _ h => List.mem_cons_of_mem _ (List.mem_append_left _ (List.mem_append_left _ (List.mem_append_left _ (List.mem_append_left _ (List.mem_append_left _ (List.mem_append_left _ (List.mem_append_left _ (List.mem_append_right _ (h)))))))))) rfl rfl (by decide) (List.mem_cons_of_mem _ (List.mem_append_left _ (List.mem_append_left _ (List.mem_append_left _ (List.mem_append_left _ (List.mem_append_left _ (List.mem_append_left _ (List.mem_append_left _ (List.mem_append_left _ (List.mem_append_left _ (List.mem_of_getElem? (i := 3) rfl))))))))))) rfl rfl dX7_doStep_46 ?_
  refine tw_aload_n C dX7_doStep_49 0 rfl rfl ?_
  refine tw_get (K := RX7) (T := TX7) (N := 14) (v := .int (y8.1 2)) C 0 11 (fun _ h => List.mem_cons_of_mem _ (List.mem_append_left _ (List.mem_append_left _ (List.mem_append_left _ (List.mem_append_left _ (List.mem_append_left _ (List.mem_append_left _ (List.mem_append_left _ (List.mem_append_right _ (h)))))))))) rfl rfl (by decide) (List.mem_cons_of_mem _ (List.mem_append_left _ (List.mem_append_left _ (List.mem_append_left _ (List.mem_append_left _ (List.mem_append_left _ (List.mem_append_left _ (List.mem_append_left _ (List.mem_append_left _ (List.mem_append_left _ (List.mem_of_getElem? (i := 4) rfl))))))))))) rfl rfl dX7_doStep_50 ?_
  refine tw_aload_n C dX7_doStep_53 0 rfl rfl ?_
  refine tw_get (K := RX7) (T := TX7) (N := 14) (v := .ref (q 3)) C 0 2 (fun _ h => List.mem_cons_of_mem _ (List.mem_append_left _ (List.mem_append_left _ (List.mem_append_left _ (List.mem_append_left _ (List.mem_append_left _ (List.mem_append_left _ (List.mem_append_left _ (List.mem_append_right _ (h)))))))))) rfl rfl (by decide) (List.mem_cons_of_mem _ (List.mem_append_left _ (List.mem_append_left _ (List.mem_append_left _ (List.mem_append_left _ (List.mem_append_left _ (List.mem_append_left _ (List.mem_append_left _ (List.mem_append_left _ (List.mem_append_left _ (List.mem_of_getElem? (i := 5) rfl))))))))))) rfl rfl dX7_doStep_54 ?_
  refine tw_aload_n C dX7_doStep_57 0 rfl rfl ?_
  refine tw_get (K := RX7) (T := TX7) (N := 14) (v := .ref (q 5)) C 0 4 (fun _ h => List.mem_cons_of_mem _ (List.mem_append_left _ (List.mem_append_left _ (List.mem_append_left _ (List.mem_append_left _ (List.mem_append_left _ (List.mem_append_left _ (List.mem_append_left _ (List.mem_append_right _ (h)))))))))) rfl rfl (by decide) (List.mem_cons_of_mem _ (List.mem_append_left _ (List.mem_append_left _ (List.mem_append_left _ (List.mem_append_left _ (List.mem_append_left _ (List.mem_append_left _ (List.mem_append_left _ (List.mem_append_left _ (List.mem_append_left _ (List.mem_of_getElem? (i := 6) rfl))))))))))) rfl rfl dX7_doStep_58 ?_
  obtain ⟨y9, hc9, hf⟩ := tw_bd hf
  refine tw_cVv (As := [.int (y8.1 4), .int (y8.1 2), .ref (q 3), .ref (q 5)]) (stk := []) C (c_X3_live l dC dI cI cZ q hc9) (cwV 4 C.hts gX7_doStep_X3_live rfl rfl rfl hd_X3_live ⟨Nat.le_of_ble_eq_true rfl, Nat.le_of_ble_eq_true rfl⟩) 7 (ci := 3) rfl rfl rfl rfl rfl (Nat.le_of_ble_eq_true rfl) dX7_doStep_61 ⟨Nat.zero_le _, Nat.zero_le _⟩ ?_
  refine tw_aload_n C dX7_doStep_64 0 rfl rfl ?_
  refine tw_dup C dX7_doStep_65 rfl ?_
  refine tw_get (K := RX7) (T := TX7) (N := 14) (v := .int (y9.1 4)) C 0 13 (fun _ h => List.mem_cons_of_mem _ (List.mem_append_left _ (List.mem_append_left _ (List.mem_append_left _ (List.mem_append_left _ (List.mem_append_left _ (List.mem_append_left _ (List.mem_append_left _ (List.mem_append_right _ (h)))))))))) rfl rfl (by decide) (List.mem_cons_of_mem _ (List.mem_append_left _ (List.mem_append_left _ (List.mem_append_left _ (List.mem_append_left _ (List.mem_append_left _ (List.mem_append_left _ (List.mem_append_left _ (List.mem_append_left _ (List.mem_append_left _ (List.mem_of_getElem? (i := 3) rfl))))))))))) rfl rfl dX7_doStep_66 ?_
  refine tw_iconst (v := 1) C dX7_doStep_69 (by decide) ?_
  refine tw_iadd C dX7_doStep_70 ?_
  refine tw_put (K := RX7) (T := TX7) (N := 14) C 0 13 tyX7 tyX7_ok nmX7 (fun _ h => List.mem_cons_of_mem _ (List.mem_append_left _ (List.mem_append_left _ (List.mem_append_left _ (List.mem_append_left _ (List.mem_append_left _ (List.mem_append_left _ (List.mem_append_left _ (List.mem_append_right _ (h)))))))))) rfl rfl (by decide) (List.mem_cons_of_mem _ (List.mem_append_left _ (List.mem_append_left _ (List.mem_append_left _ (List.mem_append_left _ (List.mem_append_left _ (List.mem_append_left _ (List.mem_append_left _ (List.mem_append_left _ (List.mem_append_left _ (List.mem_of_getElem? (i := 3) rfl))))))))))) rfl rfl rfl rfl (Nat.le_of_ble_eq_true rfl) (tw_T_si4 cI cZ q y9 ((y9.1 4) + 1)) dX7_doStep_71 ?_
  exact tw_endv (Wf := twT cI cZ q) hE hf dX7_doStep_74
end
/-! X4_isThere: boolean isThere(int) -/
abbrev rm_X4_isThere : Room := { frames := 1, cells := 0, slots := 0, locals := 20 }
def f_X4_isThere (st : twS) (v1 : Int32) : Option (Int32 × twS) :=
  ((f_X7_isSegment st v1).bind fun y1 => (if y1.1 = 0 then
    some (0, y1.2)
  else
    (if twb v1 12 = true then (if (y1.2.2.1 16 v1.toNatClampNeg) = 0 then
    some (0, y1.2)
  else
    some (1, y1.2)) else none)))
section
variable {p : Program} {l : Launch} {e : Env} {s : State} {m : MethodId} {args : Array Value} {below : List Frame} {meth : Method} {c : Code} {Q : State → Prop} {dC : Nat → ClassId} {dI : Nat → Nat → Nat} {cI cZ : ClassId} {q : Nat → Nat} {A : Nat → Prop} {res : Int32 × twS}
set_option maxRecDepth 20000 in
theorem c_X4_isThere (l : Launch) (dC : Nat → ClassId) (dI : Nat → Nat → Nat) (cI cZ : ClassId) (q : Nat → Nat) {st : twS} {v1 : Int32} {res : Int32 × twS} (hf : f_X4_isThere st v1 = some res) : twMi l yX4_isThere wsX4_isThere rm_X4_isThere (dC, dI) (twY cI cZ) [.ref (q 5), .int v1] (twT cI cZ q st) res.1 (twT cI cZ q res.2) := by
  refine tw_enti (cc := cX4_isThere) (maxL := 2) (own := RX4) (by decide) rfl (Nat.le_of_ble_eq_true rfl) rfl ⟨rfl, rfl⟩ ?_
  intro p e s m below meth c A Q C hE
  generalize ([.ref (q 5), .int v1] : List Value).toArray = args at C hE ⊢
  refine tw_sub (lv' := [(0, .ref (q 5)), (1, .int v1)]) [0, 1] rfl ?_
  unfold f_X4_isThere at hf
  refine tw_iload_n C dX4_isThere_0 1 rfl rfl ?_
  obtain ⟨y1, hc1, hf⟩ := tw_bd hf
  refine tw_cNi (As := [.int v1]) (stk := []) C (c_X7_isSegment l dC dI cI cZ q hc1) ⟨va_cnB (host := RX7) 1 C.hts gX4_isThere_X7_isSegment_n21 rfl rfl rfl C.hN.1 (C.hts _ (List.mem_cons_of_mem _ (List.mem_append_left _ (List.mem_of_getElem? (i := 2) rfl)))) hd_X7_isSegment ⟨Nat.le_of_ble_eq_true rfl, Nat.le_of_ble_eq_true rfl⟩, C.hts _ (List.mem_cons_of_mem _ (List.mem_append_left _ (List.mem_of_getElem? (i := 1) rfl))), trivial⟩ rfl rfl (Nat.le_of_ble_eq_true rfl) dX4_isThere_1 ⟨Nat.zero_le _, Nat.zero_le _⟩ ?_
  refine tw_if_eq (tgt := 20) C dX4_isThere_4 (by decide) (fun c2 => ?_) (fun c2 => ?_)
  · have hf := tw_pos hf c2
    refine tw_iconst (v := 0) C dX4_isThere_20 (by decide) ?_
    exact tw_endi (Wf := twT cI cZ q) hE hf dX4_isThere_21 rfl
  · have hf := tw_neg hf c2
    refine tw_aload_n C dX4_isThere_7 0 rfl rfl ?_
    refine tw_get (K := RX4) (T := TX4) (N := 3) (v := .ref (q 16)) C 5 0 (fun _ h => List.mem_cons_of_mem _ (List.mem_append_right _ (h))) rfl rfl (by decide) (List.mem_cons_of_mem _ (List.mem_append_left _ (List.mem_of_getElem? (i := 0) rfl))) rfl rfl dX4_isThere_8 ?_
    refine tw_iload_n C dX4_isThere_11 1 rfl rfl ?_
    obtain ⟨hb3, hf⟩ := tw_ck hf
    refine tw_zald C 16 1 hb3 rfl rfl dX4_isThere_12 ?_
    refine tw_if_eq (tgt := 20) C dX4_isThere_13 (by decide) (fun c4 => ?_) (fun c4 => ?_)
    · have hf := tw_pos hf c4
      refine tw_iconst (v := 0) C dX4_isThere_20 (by decide) ?_
      exact tw_endi (Wf := twT cI cZ q) hE hf dX4_isThere_21 rfl
    · have hf := tw_neg hf c4
      refine tw_iconst (v := 1) C dX4_isThere_16 (by decide) ?_
      refine tw_goto (tgt := 21) C dX4_isThere_17 (by decide) ?_
      exact tw_endi (Wf := twT cI cZ q) hE hf dX4_isThere_21 rfl
end
/-! X4_isOpen: boolean isOpen(int) -/
abbrev rm_X4_isOpen : Room := { frames := 1, cells := 0, slots := 0, locals := 20 }
def f_X4_isOpen (st : twS) (v1 : Int32) : Option (Int32 × twS) :=
  ((f_X7_isSegment st v1).bind fun y1 => (if y1.1 = 0 then
    some (0, y1.2)
  else
    (if twb v1 12 = true then (if (y1.2.2.1 17 v1.toNatClampNeg) = 0 then
    some (0, y1.2)
  else
    some (1, y1.2)) else none)))
section
variable {p : Program} {l : Launch} {e : Env} {s : State} {m : MethodId} {args : Array Value} {below : List Frame} {meth : Method} {c : Code} {Q : State → Prop} {dC : Nat → ClassId} {dI : Nat → Nat → Nat} {cI cZ : ClassId} {q : Nat → Nat} {A : Nat → Prop} {res : Int32 × twS}
set_option maxRecDepth 20000 in
theorem c_X4_isOpen (l : Launch) (dC : Nat → ClassId) (dI : Nat → Nat → Nat) (cI cZ : ClassId) (q : Nat → Nat) {st : twS} {v1 : Int32} {res : Int32 × twS} (hf : f_X4_isOpen st v1 = some res) : twMi l yX4_isOpen wsX4_isOpen rm_X4_isOpen (dC, dI) (twY cI cZ) [.ref (q 5), .int v1] (twT cI cZ q st) res.1 (twT cI cZ q res.2) := by
  refine tw_enti (cc := cX4_isOpen) (maxL := 2) (own := RX4) (by decide) rfl (Nat.le_of_ble_eq_true rfl) rfl ⟨rfl, rfl⟩ ?_
  intro p e s m below meth c A Q C hE
  generalize ([.ref (q 5), .int v1] : List Value).toArray = args at C hE ⊢
  refine tw_sub (lv' := [(0, .ref (q 5)), (1, .int v1)]) [0, 1] rfl ?_
  unfold f_X4_isOpen at hf
  refine tw_iload_n C dX4_isOpen_0 1 rfl rfl ?_
  obtain ⟨y1, hc1, hf⟩ := tw_bd hf
  refine tw_cNi (As := [.int v1]) (stk := []) C (c_X7_isSegment l dC dI cI cZ q hc1) ⟨va_cnB (host := RX7) 1 C.hts gX4_isOpen_X7_isSegment_n21 rfl rfl rfl C.hN.1 (C.hts _ (List.mem_cons_of_mem _ (List.mem_append_left _ (List.mem_of_getElem? (i := 2) rfl)))) hd_X7_isSegment ⟨Nat.le_of_ble_eq_true rfl, Nat.le_of_ble_eq_true rfl⟩, C.hts _ (List.mem_cons_of_mem _ (List.mem_append_left _ (List.mem_of_getElem? (i := 1) rfl))), trivial⟩ rfl rfl (Nat.le_of_ble_eq_true rfl) dX4_isOpen_1 ⟨Nat.zero_le _, Nat.zero_le _⟩ ?_
  refine tw_if_eq (tgt := 20) C dX4_isOpen_4 (by decide) (fun c2 => ?_) (fun c2 => ?_)
  · have hf := tw_pos hf c2
    refine tw_iconst (v := 0) C dX4_isOpen_20 (by decide) ?_
    exact tw_endi (Wf := twT cI cZ q) hE hf dX4_isOpen_21 rfl
  · have hf := tw_neg hf c2
    refine tw_aload_n C dX4_isOpen_7 0 rfl rfl ?_
    refine tw_get (K := RX4) (T := TX4) (N := 3) (v := .ref (q 17)) C 5 1 (fun _ h => List.mem_cons_of_mem _ (List.mem_append_right _ (h))) rfl rfl (by decide) (List.mem_cons_of_mem _ (List.mem_append_left _ (List.mem_of_getElem? (i := 0) rfl))) rfl rfl dX4_isOpen_8 ?_
    refine tw_iload_n C dX4_isOpen_11 1 rfl rfl ?_
    obtain ⟨hb3, hf⟩ := tw_ck hf
    refine tw_zald C 17 1 hb3 rfl rfl dX4_isOpen_12 ?_
    refine tw_if_eq (tgt := 20) C dX4_isOpen_13 (by decide) (fun c4 => ?_) (fun c4 => ?_)
    · have hf := tw_pos hf c4
      refine tw_iconst (v := 0) C dX4_isOpen_20 (by decide) ?_
      exact tw_endi (Wf := twT cI cZ q) hE hf dX4_isOpen_21 rfl
    · have hf := tw_neg hf c4
      refine tw_iconst (v := 1) C dX4_isOpen_16 (by decide) ?_
      refine tw_goto (tgt := 21) C dX4_isOpen_17 (by decide) ?_
      exact tw_endi (Wf := twT cI cZ q) hE hf dX4_isOpen_21 rfl
end
/-! X7_doorAnswer: private int doorAnswer(int) -/
abbrev rm_X7_doorAnswer : Room := { frames := 2, cells := 0, slots := 0, locals := 41 }
def f_X7_doorAnswer (st : twS) (v1 : Int32) : Option (Int32 × twS) :=
  ((f_X4_isThere st v1).bind fun y1 => (if y1.1 = 0 then
    some ((-1), y1.2)
  else
    ((f_X4_isOpen y1.2 v1).bind fun y3 => (if y3.1 = 0 then
    some (0, y3.2)
  else
    some (1, y3.2)))))
section
variable {p : Program} {l : Launch} {e : Env} {s : State} {m : MethodId} {args : Array Value} {below : List Frame} {meth : Method} {c : Code} {Q : State → Prop} {dC : Nat → ClassId} {dI : Nat → Nat → Nat} {cI cZ : ClassId} {q : Nat → Nat} {A : Nat → Prop} {res : Int32 × twS}
set_option maxRecDepth 20000 in
theorem c_X7_doorAnswer (l : Launch) (dC : Nat → ClassId) (dI : Nat → Nat → Nat) (cI cZ : ClassId) (q : Nat → Nat) {st : twS} {v1 : Int32} {res : Int32 × twS} (hf : f_X7_doorAnswer st v1 = some res) : twMi l yX7_doorAnswer wsX7_doorAnswer rm_X7_doorAnswer (dC, dI) (twY cI cZ) [.ref (q 0), .int v1] (twT cI cZ q st) res.1 (twT cI cZ q res.2) := by
  refine tw_enti (cc := cX7_doorAnswer) (maxL := 2) (own := RX7) (by decide) rfl (Nat.le_of_ble_eq_true rfl) rfl ⟨rfl, rfl⟩ ?_
  intro p e s m below meth c A Q C hE
  generalize ([.ref (q 0), .int v1] : List Value).toArray = args at C hE ⊢
  refine tw_sub (lv' := [(0, .ref (q 0)), (1, .int v1)]) [0, 1] rfl ?_
  unfold f_X7_doorAnswer at hf
  refine tw_aload_n C dX7_doorAnswer_0 0 rfl rfl ?_
  refine tw_get (K := RX7) (T := TX7) (N := 14) (v := .ref (q 5)) C 0 4 (fun _ h => List.mem_cons_of_mem _ (List.mem_append_left _ (List.mem_append_right _ (h)))) rfl rfl (by decide) (List.mem_cons_of_mem _ (List.mem_append_left _ (List.mem_append_left _ (List.mem_of_getElem? (i := 0) rfl)))) rfl rfl dX7_doorAnswer_1 ?_
  refine tw_iload_n C dX7_doorAnswer_4 1 rfl rfl ?_
  obtain ⟨y1, hc1, hf⟩ := tw_bd hf
  refine tw_cVi (As := [.int v1]) (stk := []) C (c_X4_isThere l dC dI cI cZ q hc1) (cwV 1 C.hts gX7_doorAnswer_X4_isThere rfl rfl rfl hd_X4_isThere ⟨Nat.le_of_ble_eq_true rfl, Nat.le_of_ble_eq_true rfl⟩) 5 (ci := 4) rfl rfl rfl rfl rfl (Nat.le_of_ble_eq_true rfl) dX7_doorAnswer_5 ⟨Nat.zero_le _, Nat.zero_le _⟩ ?_
  refine tw_if_ne (tgt := 13) C dX7_doorAnswer_8 (by decide) (fun c2 => ?_) (fun c2 => ?_)
  · have hf := tw_neg hf c2
    refine tw_aload_n C dX7_doorAnswer_13 0 rfl rfl ?_
    refine tw_get (K := RX7) (T := TX7) (N := 14) (v := .ref (q 5)) C 0 4 (fun _ h => List.mem_cons_of_mem _ (List.mem_append_left _ (List.mem_append_right _ (h)))) rfl rfl (by decide) (List.mem_cons_of_mem _ (List.mem_append_left _ (List.mem_append_left _ (List.mem_of_getElem? (i := 0) rfl)))) rfl rfl dX7_doorAnswer_14 ?_
    refine tw_iload_n C dX7_doorAnswer_17 1 rfl rfl ?_
    obtain ⟨y3, hc3, hf⟩ := tw_bd hf
    refine tw_cVi (As := [.int v1]) (stk := []) C (c_X4_isOpen l dC dI cI cZ q hc3) (cwV 1 C.hts gX7_doorAnswer_X4_isOpen rfl rfl rfl hd_X4_isOpen ⟨Nat.le_of_ble_eq_true rfl, Nat.le_of_ble_eq_true rfl⟩) 5 (ci := 4) rfl rfl rfl rfl rfl (Nat.le_of_ble_eq_true rfl) dX7_doorAnswer_18 ⟨Nat.zero_le _, Nat.zero_le _⟩ ?_
    refine tw_if_eq (tgt := 28) C dX7_doorAnswer_21 (by decide) (fun c4 => ?_) (fun c4 => ?_)
    · have hf := tw_pos hf c4
      refine tw_iconst (v := 0) C dX7_doorAnswer_28 (by decide) ?_
      exact tw_endi (Wf := twT cI cZ q) hE hf dX7_doorAnswer_29 rfl
    · have hf := tw_neg hf c4
      refine tw_iconst (v := 1) C dX7_doorAnswer_24 (by decide) ?_
      refine tw_goto (tgt := 29) C dX7_doorAnswer_25 (by decide) ?_
      exact tw_endi (Wf := twT cI cZ q) hE hf dX7_doorAnswer_29 rfl
  · have hf := tw_pos hf c2
    refine tw_iconst (v := (-1)) C dX7_doorAnswer_11 (by decide) ?_
    exact tw_endi (Wf := twT cI cZ q) hE hf dX7_doorAnswer_12 rfl
end
/-! X1_begin: void begin(int, int) -/
abbrev rm_X1_begin : Room := { frames := 0, cells := 0, slots := 0, locals := 0 }
def f_X1_begin (st : twS) (v1 : Int32) (v2 : Int32) : Option (twS) :=
  some (twI (twI st 8 v1) 9 v2)
section
variable {p : Program} {l : Launch} {e : Env} {s : State} {m : MethodId} {args : Array Value} {below : List Frame} {meth : Method} {c : Code} {Q : State → Prop} {dC : Nat → ClassId} {dI : Nat → Nat → Nat} {cI cZ : ClassId} {q : Nat → Nat} {A : Nat → Prop} {res : twS}
set_option maxRecDepth 20000 in
theorem c_X1_begin (l : Launch) (dC : Nat → ClassId) (dI : Nat → Nat → Nat) (cI cZ : ClassId) (q : Nat → Nat) {st : twS} {v1 : Int32} {v2 : Int32} {res : twS} (hf : f_X1_begin st v1 v2 = some res) : twMv l yX1_begin wsX1_begin rm_X1_begin (dC, dI) (twY cI cZ) [.ref (q 4), .int v1, .int v2] (twT cI cZ q st) (twT cI cZ q res) := by
  refine tw_entv (cc := cX1_begin) (maxL := 3) (own := RX1) (by decide) rfl (Nat.le_of_ble_eq_true rfl) rfl ⟨rfl, rfl⟩ ?_
  intro p e s m below meth c A Q C hE
  generalize ([.ref (q 4), .int v1, .int v2] : List Value).toArray = args at C hE ⊢
  refine tw_sub (lv' := [(0, .ref (q 4)), (1, .int v1), (2, .int v2)]) [0, 1, 2] rfl ?_
  unfold f_X1_begin at hf
  refine tw_aload_n C dX1_begin_0 0 rfl rfl ?_
  refine tw_iload_n C dX1_begin_1 1 rfl rfl ?_
  refine tw_put (K := RX1) (T := TX1) (N := 6) C 4 0 tyX1 tyX1_ok nmX1 (fun _ h => List.mem_cons_of_mem _ (List.mem_append_right _ (h))) rfl rfl (by decide) (List.mem_cons_of_mem _ (List.mem_append_left _ (List.mem_of_getElem? (i := 0) rfl))) rfl rfl rfl rfl (Nat.le_of_ble_eq_true rfl) (tw_T_si8 cI cZ q st v1) dX1_begin_2 ?_
  refine tw_aload_n C dX1_begin_5 0 rfl rfl ?_
  refine tw_iload_n C dX1_begin_6 2 rfl rfl ?_
  refine tw_put (K := RX1) (T := TX1) (N := 6) C 4 1 tyX1 tyX1_ok nmX1 (fun _ h => List.mem_cons_of_mem _ (List.mem_append_right _ (h))) rfl rfl (by decide) (List.mem_cons_of_mem _ (List.mem_append_left _ (List.mem_of_getElem? (i := 1) rfl))) rfl rfl rfl rfl (Nat.le_of_ble_eq_true rfl) (tw_T_si9 cI cZ q (twI st 8 v1) v2) dX1_begin_7 ?_
  exact tw_endv (Wf := twT cI cZ q) hE hf dX1_begin_10
end
/-! X2_hasRoom: boolean hasRoom() -/
abbrev rm_X2_hasRoom : Room := { frames := 0, cells := 0, slots := 0, locals := 0 }
def f_X2_hasRoom (st : twS) : Option (Int32 × twS) :=
  (if 10 ≤ (st.1 13) then
    some (0, st)
  else
    some (1, st))
section
variable {p : Program} {l : Launch} {e : Env} {s : State} {m : MethodId} {args : Array Value} {below : List Frame} {meth : Method} {c : Code} {Q : State → Prop} {dC : Nat → ClassId} {dI : Nat → Nat → Nat} {cI cZ : ClassId} {q : Nat → Nat} {A : Nat → Prop} {res : Int32 × twS}
set_option maxRecDepth 20000 in
theorem c_X2_hasRoom (l : Launch) (dC : Nat → ClassId) (dI : Nat → Nat → Nat) (cI cZ : ClassId) (q : Nat → Nat) {st : twS} {res : Int32 × twS} (hf : f_X2_hasRoom st = some res) : twMi l yX2_hasRoom wsX2_hasRoom rm_X2_hasRoom (dC, dI) (twY cI cZ) [.ref (q 6)] (twT cI cZ q st) res.1 (twT cI cZ q res.2) := by
  refine tw_enti (cc := cX2_hasRoom) (maxL := 1) (own := RX2) (by decide) rfl (Nat.le_of_ble_eq_true rfl) rfl ⟨rfl, rfl⟩ ?_
  intro p e s m below meth c A Q C hE
  generalize ([.ref (q 6)] : List Value).toArray = args at C hE ⊢
  refine tw_sub (lv' := [(0, .ref (q 6))]) [0] rfl ?_
  unfold f_X2_hasRoom at hf
  refine tw_aload_n C dX2_hasRoom_0 0 rfl rfl ?_
  refine tw_get (K := RX2) (T := TX2) (N := 6) (v := .int (st.1 13)) C 6 3 (fun _ h => List.mem_cons_of_mem _ (List.mem_append_right _ (h))) rfl rfl (by decide) (List.mem_cons_of_mem _ (List.mem_append_left _ (List.mem_of_getElem? (i := 0) rfl))) rfl rfl dX2_hasRoom_1 ?_
  refine tw_bipush (v := 10) C dX2_hasRoom_4 (by decide) ?_
  refine tw_icmp_ge (tgt := 13) C dX2_hasRoom_6 (by decide) (fun c1 => ?_) (fun c1 => ?_)
  · have hf := tw_pos hf c1
    refine tw_iconst (v := 0) C dX2_hasRoom_13 (by decide) ?_
    exact tw_endi (Wf := twT cI cZ q) hE hf dX2_hasRoom_14 rfl
  · have hf := tw_neg hf c1
    refine tw_iconst (v := 1) C dX2_hasRoom_9 (by decide) ?_
    refine tw_goto (tgt := 14) C dX2_hasRoom_10 (by decide) ?_
    exact tw_endi (Wf := twT cI cZ q) hE hf dX2_hasRoom_14 rfl
end
/-! X2_put: int put(int, int, boolean) -/
abbrev rm_X2_put : Room := { frames := 1, cells := 0, slots := 0, locals := 20 }
def f_X2_put_L40 (k0 : Int32) (k1 : Int32) (st : twS) : Option (Int32 × twS) :=
  (if twb k1 10 = true then (if twb ((twA st 20 k1 k0).1 13) 10 = true then some ((((twI (twA (twA st 20 k1 k0) 21 ((twA st 20 k1 k0).1 13) (-1)) 13 (((twA (twA st 20 k1 k0) 21 ((twA st 20 k1 k0).1 13) (-1)).1 13) + 1)).1 13) - 1), (twI (twA (twA st 20 k1 k0) 21 ((twA st 20 k1 k0).1 13) (-1)) 13 (((twA (twA st 20 k1 k0) 21 ((twA st 20 k1 k0).1 13) (-1)).1 13) + 1))) else none) else none)
def f_X2_put (st : twS) (v1 : Int32) (v2 : Int32) (v3 : Int32) : Option (Int32 × twS) :=
  ((f_X2_hasRoom st).bind fun y1 => (if y1.1 = 0 then
    some ((-1), y1.2)
  else
    (if twb (y1.2.1 13) 10 = true then (if v3 = 0 then
    f_X2_put_L40 v2 ((twA y1.2 19 (y1.2.1 13) v1).1 13) (twA y1.2 19 (y1.2.1 13) v1)
  else
    f_X2_put_L40 ((2 * v2) + 3) ((twA y1.2 19 (y1.2.1 13) v1).1 13) (twA y1.2 19 (y1.2.1 13) v1)) else none)))
section
variable {p : Program} {l : Launch} {e : Env} {s : State} {m : MethodId} {args : Array Value} {below : List Frame} {meth : Method} {c : Code} {Q : State → Prop} {dC : Nat → ClassId} {dI : Nat → Nat → Nat} {cI cZ : ClassId} {q : Nat → Nat} {A : Nat → Prop} {res : Int32 × twS}
set_option maxRecDepth 20000 in
theorem m_X2_put_L40 (C : twC p s m args meth c cX2_put 4 RX2 wsX2_put (dC, dI) (twY cI cZ) A) (hE : twEi p l e rm_X2_put s m args below meth c 0 0 Q (dC, dI) A 4 cX2_put .int res.1 (twT cI cZ q res.2)) : ∀ (k0 : Int32) (k1 : Int32) (st : twS), f_X2_put_L40 k0 k1 st = some res → twG p l e rm_X2_put s m args below meth c 0 0 Q (dC, dI) A 4 (twT cI cZ q st) 40 [(0, .ref (q 6))] [.int k0, .int k1, .ref (q 20)] := by
  intro k0 k1 st hf
  unfold f_X2_put_L40 at hf
  obtain ⟨hb40001, hf⟩ := tw_ck hf
  refine tw_iast C 20 0 hb40001 rfl rfl (tw_T_a20 cI cZ q st k1 k0) dX2_put_40 ?_
  refine tw_aload_n C dX2_put_41 0 rfl rfl ?_
  refine tw_get (K := RX2) (T := TX2) (N := 6) (v := .ref (q 21)) C 6 2 (fun _ h => List.mem_cons_of_mem _ (List.mem_append_right _ (h))) rfl rfl (by decide) (List.mem_cons_of_mem _ (List.mem_append_left _ (List.mem_of_getElem? (i := 3) rfl))) rfl rfl dX2_put_42 ?_
  refine tw_aload_n C dX2_put_45 0 rfl rfl ?_
  refine tw_get (K := RX2) (T := TX2) (N := 6) (v := .int ((twA st 20 k1 k0).1 13)) C 6 3 (fun _ h => List.mem_cons_of_mem _ (List.mem_append_right _ (h))) rfl rfl (by decide) (List.mem_cons_of_mem _ (List.mem_append_left _ (List.mem_of_getElem? (i := 1) rfl))) rfl rfl dX2_put_46 ?_
  refine tw_iconst (v := (-1)) C dX2_put_49 (by decide) ?_
  obtain ⟨hb40002, hf⟩ := tw_ck hf
  refine tw_iast C 21 0 hb40002 rfl rfl (tw_T_a21 cI cZ q (twA st 20 k1 k0) ((twA st 20 k1 k0).1 13) (-1)) dX2_put_50 ?_
  refine tw_aload_n C dX2_put_51 0 rfl rfl ?_
  refine tw_dup C dX2_put_52 rfl ?_
  refine tw_get (K := RX2) (T := TX2) (N := 6) (v := .int ((twA (twA st 20 k1 k0) 21 ((twA st 20 k1 k0).1 13) (-1)).1 13)) C 6 3 (fun _ h => List.mem_cons_of_mem _ (List.mem_append_right _ (h))) rfl rfl (by decide) (List.mem_cons_of_mem _ (List.mem_append_left _ (List.mem_of_getElem? (i := 1) rfl))) rfl rfl dX2_put_53 ?_
  refine tw_iconst (v := 1) C dX2_put_56 (by decide) ?_
  refine tw_iadd C dX2_put_57 ?_
  refine tw_put (K := RX2) (T := TX2) (N := 6) C 6 3 tyX2 tyX2_ok nmX2 (fun _ h => List.mem_cons_of_mem _ (List.mem_append_right _ (h))) rfl rfl (by decide) (List.mem_cons_of_mem _ (List.mem_append_left _ (List.mem_of_getElem? (i := 1) rfl))) rfl rfl rfl rfl (Nat.le_of_ble_eq_true rfl) (tw_T_si13 cI cZ q (twA (twA st 20 k1 k0) 21 ((twA st 20 k1 k0).1 13) (-1)) (((twA (twA st 20 k1 k0) 21 ((twA st 20 k1 k0).1 13) (-1)).1 13) + 1)) dX2_put_58 ?_
  refine tw_aload_n C dX2_put_61 0 rfl rfl ?_
  refine tw_get (K := RX2) (T := TX2) (N := 6) (v := .int ((twI (twA (twA st 20 k1 k0) 21 ((twA st 20 k1 k0).1 13) (-1)) 13 (((twA (twA st 20 k1 k0) 21 ((twA st 20 k1 k0).1 13) (-1)).1 13) + 1)).1 13)) C 6 3 (fun _ h => List.mem_cons_of_mem _ (List.mem_append_right _ (h))) rfl rfl (by decide) (List.mem_cons_of_mem _ (List.mem_append_left _ (List.mem_of_getElem? (i := 1) rfl))) rfl rfl dX2_put_62 ?_
  refine tw_iconst (v := 1) C dX2_put_65 (by decide) ?_
  refine tw_isub C dX2_put_66 ?_
  exact tw_endi (Wf := twT cI cZ q) hE hf dX2_put_67 rfl
set_option maxRecDepth 20000 in
theorem c_X2_put (l : Launch) (dC : Nat → ClassId) (dI : Nat → Nat → Nat) (cI cZ : ClassId) (q : Nat → Nat) {st : twS} {v1 : Int32} {v2 : Int32} {v3 : Int32} {res : Int32 × twS} (hf : f_X2_put st v1 v2 v3 = some res) : twMi l yX2_put wsX2_put rm_X2_put (dC, dI) (twY cI cZ) [.ref (q 6), .int v1, .int v2, .int v3] (twT cI cZ q st) res.1 (twT cI cZ q res.2) := by
  refine tw_enti (cc := cX2_put) (maxL := 4) (own := RX2) (by decide) rfl (Nat.le_of_ble_eq_true rfl) rfl ⟨rfl, rfl⟩ ?_
  intro p e s m below meth c A Q C hE
  generalize ([.ref (q 6), .int v1, .int v2, .int v3] : List Value).toArray = args at C hE ⊢
  refine tw_sub (lv' := [(0, .ref (q 6)), (1, .int v1), (2, .int v2), (3, .int v3)]) [0, 1, 2, 3] rfl ?_
  unfold f_X2_put at hf
  refine tw_aload_n C dX2_put_0 0 rfl rfl ?_
  obtain ⟨y1, hc1, hf⟩ := tw_bd hf
  refine tw_cVi (As := []) (stk := []) C (c_X2_hasRoom l dC dI cI cZ q hc1) (cwV 0 C.hts gX2_put_X2_hasRoom rfl rfl rfl hd_X2_hasRoom ⟨Nat.le_of_ble_eq_true rfl, Nat.le_of_ble_eq_true rfl⟩) 6 (ci := 2) rfl rfl rfl rfl rfl (Nat.le_of_ble_eq_true rfl) dX2_put_1 ⟨Nat.zero_le _, Nat.zero_le _⟩ ?_
  refine tw_if_ne (tgt := 9) C dX2_put_4 (by decide) (fun c2 => ?_) (fun c2 => ?_)
  · have hf := tw_neg hf c2
    refine tw_aload_n C dX2_put_9 0 rfl rfl ?_
    refine tw_get (K := RX2) (T := TX2) (N := 6) (v := .ref (q 19)) C 6 0 (fun _ h => List.mem_cons_of_mem _ (List.mem_append_right _ (h))) rfl rfl (by decide) (List.mem_cons_of_mem _ (List.mem_append_left _ (List.mem_of_getElem? (i := 0) rfl))) rfl rfl dX2_put_10 ?_
    refine tw_aload_n C dX2_put_13 0 rfl rfl ?_
    refine tw_get (K := RX2) (T := TX2) (N := 6) (v := .int (y1.2.1 13)) C 6 3 (fun _ h => List.mem_cons_of_mem _ (List.mem_append_right _ (h))) rfl rfl (by decide) (List.mem_cons_of_mem _ (List.mem_append_left _ (List.mem_of_getElem? (i := 1) rfl))) rfl rfl dX2_put_14 ?_
    refine tw_iload_n C dX2_put_17 1 rfl rfl ?_
    obtain ⟨hb3, hf⟩ := tw_ck hf
    refine tw_iast C 19 0 hb3 rfl rfl (tw_T_a19 cI cZ q y1.2 (y1.2.1 13) v1) dX2_put_18 ?_
    refine tw_aload_n C dX2_put_19 0 rfl rfl ?_
    refine tw_get (K := RX2) (T := TX2) (N := 6) (v := .ref (q 20)) C 6 1 (fun _ h => List.mem_cons_of_mem _ (List.mem_append_right _ (h))) rfl rfl (by decide) (List.mem_cons_of_mem _ (List.mem_append_left _ (List.mem_of_getElem? (i := 2) rfl))) rfl rfl dX2_put_20 ?_
    refine tw_aload_n C dX2_put_23 0 rfl rfl ?_
    refine tw_get (K := RX2) (T := TX2) (N := 6) (v := .int ((twA y1.2 19 (y1.2.1 13) v1).1 13)) C 6 3 (fun _ h => List.mem_cons_of_mem _ (List.mem_append_right _ (h))) rfl rfl (by decide) (List.mem_cons_of_mem _ (List.mem_append_left _ (List.mem_of_getElem? (i := 1) rfl))) rfl rfl dX2_put_24 ?_
    refine tw_iload_n C dX2_put_27 3 rfl rfl ?_
    refine tw_if_eq (tgt := 39) C dX2_put_28 (by decide) (fun c4 => ?_) (fun c4 => ?_)
    · have hf := tw_pos hf c4
      refine tw_iload_n C dX2_put_39 2 rfl rfl ?_
      refine tw_sub [0] rfl ?_
      exact m_X2_put_L40 C hE v2 ((twA y1.2 19 (y1.2.1 13) v1).1 13) (twA y1.2 19 (y1.2.1 13) v1) hf
    · have hf := tw_neg hf c4
      refine tw_iconst (v := 2) C dX2_put_31 (by decide) ?_
      refine tw_iload_n C dX2_put_32 2 rfl rfl ?_
      refine tw_imul C dX2_put_33 ?_
      refine tw_iconst (v := 3) C dX2_put_34 (by decide) ?_
      refine tw_iadd C dX2_put_35 ?_
      refine tw_goto (tgt := 40) C dX2_put_36 (by decide) ?_
      refine tw_sub [0] rfl ?_
      exact m_X2_put_L40 C hE ((2 * v2) + 3) ((twA y1.2 19 (y1.2.1 13) v1).1 13) (twA y1.2 19 (y1.2.1 13) v1) hf
  · have hf := tw_pos hf c2
    refine tw_iconst (v := (-1)) C dX2_put_7 (by decide) ?_
    exact tw_endi (Wf := twT cI cZ q) hE hf dX2_put_8 rfl
end
/-! X2_stepOf: int stepOf(int) -/
abbrev rm_X2_stepOf : Room := { frames := 1, cells := 0, slots := 0, locals := 21 }
def f_X2_stepOf (st : twS) (v1 : Int32) : Option (Int32 × twS) :=
  ((f_X2_isAct st v1).bind fun y1 => (if y1.1 = 0 then
    some ((-1), y1.2)
  else
    (if twb v1 10 = true then some ((y1.2.2.1 21 v1.toNatClampNeg), y1.2) else none)))
section
variable {p : Program} {l : Launch} {e : Env} {s : State} {m : MethodId} {args : Array Value} {below : List Frame} {meth : Method} {c : Code} {Q : State → Prop} {dC : Nat → ClassId} {dI : Nat → Nat → Nat} {cI cZ : ClassId} {q : Nat → Nat} {A : Nat → Prop} {res : Int32 × twS}
set_option maxRecDepth 20000 in
theorem c_X2_stepOf (l : Launch) (dC : Nat → ClassId) (dI : Nat → Nat → Nat) (cI cZ : ClassId) (q : Nat → Nat) {st : twS} {v1 : Int32} {res : Int32 × twS} (hf : f_X2_stepOf st v1 = some res) : twMi l yX2_stepOf wsX2_stepOf rm_X2_stepOf (dC, dI) (twY cI cZ) [.ref (q 6), .int v1] (twT cI cZ q st) res.1 (twT cI cZ q res.2) := by
  refine tw_enti (cc := cX2_stepOf) (maxL := 2) (own := RX2) (by decide) rfl (Nat.le_of_ble_eq_true rfl) rfl ⟨rfl, rfl⟩ ?_
  intro p e s m below meth c A Q C hE
  generalize ([.ref (q 6), .int v1] : List Value).toArray = args at C hE ⊢
  refine tw_sub (lv' := [(0, .ref (q 6)), (1, .int v1)]) [0, 1] rfl ?_
  unfold f_X2_stepOf at hf
  refine tw_aload_n C dX2_stepOf_0 0 rfl rfl ?_
  refine tw_iload_n C dX2_stepOf_1 1 rfl rfl ?_
  obtain ⟨y1, hc1, hf⟩ := tw_bd hf
  refine tw_cVi (As := [.int v1]) (stk := []) C (c_X2_isAct l dC dI cI cZ q hc1) (cwV 1 C.hts gX2_stepOf_X2_isAct rfl rfl rfl hd_X2_isAct ⟨Nat.le_of_ble_eq_true rfl, Nat.le_of_ble_eq_true rfl⟩) 6 (ci := 2) rfl rfl rfl rfl rfl (Nat.le_of_ble_eq_true rfl) dX2_stepOf_2 ⟨Nat.zero_le _, Nat.zero_le _⟩ ?_
  refine tw_if_eq (tgt := 17) C dX2_stepOf_5 (by decide) (fun c2 => ?_) (fun c2 => ?_)
  · have hf := tw_pos hf c2
    refine tw_iconst (v := (-1)) C dX2_stepOf_17 (by decide) ?_
    exact tw_endi (Wf := twT cI cZ q) hE hf dX2_stepOf_18 rfl
  · have hf := tw_neg hf c2
    refine tw_aload_n C dX2_stepOf_8 0 rfl rfl ?_
    refine tw_get (K := RX2) (T := TX2) (N := 6) (v := .ref (q 21)) C 6 2 (fun _ h => List.mem_cons_of_mem _ (List.mem_append_right _ (h))) rfl rfl (by decide) (List.mem_cons_of_mem _ (List.mem_append_left _ (List.mem_of_getElem? (i := 0) rfl))) rfl rfl dX2_stepOf_9 ?_
    refine tw_iload_n C dX2_stepOf_12 1 rfl rfl ?_
    obtain ⟨hb3, hf⟩ := tw_ck hf
    refine tw_iald C 21 0 hb3 rfl rfl dX2_stepOf_13 ?_
    refine tw_goto (tgt := 18) C dX2_stepOf_14 (by decide) ?_
    exact tw_endi (Wf := twT cI cZ q) hE hf dX2_stepOf_18 rfl
end
/-! X2_size: int size() -/
abbrev rm_X2_size : Room := { frames := 0, cells := 0, slots := 0, locals := 0 }
def f_X2_size (st : twS) : Option (Int32 × twS) :=
  some ((st.1 13), st)
section
variable {p : Program} {l : Launch} {e : Env} {s : State} {m : MethodId} {args : Array Value} {below : List Frame} {meth : Method} {c : Code} {Q : State → Prop} {dC : Nat → ClassId} {dI : Nat → Nat → Nat} {cI cZ : ClassId} {q : Nat → Nat} {A : Nat → Prop} {res : Int32 × twS}
set_option maxRecDepth 20000 in
theorem c_X2_size (l : Launch) (dC : Nat → ClassId) (dI : Nat → Nat → Nat) (cI cZ : ClassId) (q : Nat → Nat) {st : twS} {res : Int32 × twS} (hf : f_X2_size st = some res) : twMi l yX2_size wsX2_size rm_X2_size (dC, dI) (twY cI cZ) [.ref (q 6)] (twT cI cZ q st) res.1 (twT cI cZ q res.2) := by
  refine tw_enti (cc := cX2_size) (maxL := 1) (own := RX2) (by decide) rfl (Nat.le_of_ble_eq_true rfl) rfl ⟨rfl, rfl⟩ ?_
  intro p e s m below meth c A Q C hE
  generalize ([.ref (q 6)] : List Value).toArray = args at C hE ⊢
  refine tw_sub (lv' := [(0, .ref (q 6))]) [0] rfl ?_
  unfold f_X2_size at hf
  refine tw_aload_n C dX2_size_0 0 rfl rfl ?_
  refine tw_get (K := RX2) (T := TX2) (N := 6) (v := .int (st.1 13)) C 6 3 (fun _ h => List.mem_cons_of_mem _ (List.mem_append_right _ (h))) rfl rfl (by decide) (List.mem_cons_of_mem _ (List.mem_append_left _ (List.mem_of_getElem? (i := 0) rfl))) rfl rfl dX2_size_1 ?_
  exact tw_endi (Wf := twT cI cZ q) hE hf dX2_size_4 rfl
end
/-! X3_hasRoomFor: boolean hasRoomFor(int) -/
abbrev rm_X3_hasRoomFor : Room := { frames := 0, cells := 0, slots := 0, locals := 0 }
def f_X3_hasRoomFor (st : twS) (v1 : Int32) : Option (Int32 × twS) :=
  (if (30 - (st.1 16)) < v1 then
    some (0, st)
  else
    some (1, st))
section
variable {p : Program} {l : Launch} {e : Env} {s : State} {m : MethodId} {args : Array Value} {below : List Frame} {meth : Method} {c : Code} {Q : State → Prop} {dC : Nat → ClassId} {dI : Nat → Nat → Nat} {cI cZ : ClassId} {q : Nat → Nat} {A : Nat → Prop} {res : Int32 × twS}
set_option maxRecDepth 20000 in
theorem c_X3_hasRoomFor (l : Launch) (dC : Nat → ClassId) (dI : Nat → Nat → Nat) (cI cZ : ClassId) (q : Nat → Nat) {st : twS} {v1 : Int32} {res : Int32 × twS} (hf : f_X3_hasRoomFor st v1 = some res) : twMi l yX3_hasRoomFor wsX3_hasRoomFor rm_X3_hasRoomFor (dC, dI) (twY cI cZ) [.ref (q 7), .int v1] (twT cI cZ q st) res.1 (twT cI cZ q res.2) := by
  refine tw_enti (cc := cX3_hasRoomFor) (maxL := 2) (own := RX3) (by decide) rfl (Nat.le_of_ble_eq_true rfl) rfl ⟨rfl, rfl⟩ ?_
  intro p e s m below meth c A Q C hE
  generalize ([.ref (q 7), .int v1] : List Value).toArray = args at C hE ⊢
  refine tw_sub (lv' := [(0, .ref (q 7)), (1, .int v1)]) [0, 1] rfl ?_
  unfold f_X3_hasRoomFor at hf
  refine tw_iload_n C dX3_hasRoomFor_0 1 rfl rfl ?_
  refine tw_bipush (v := 30) C dX3_hasRoomFor_1 (by decide) ?_
  refine tw_aload_n C dX3_hasRoomFor_3 0 rfl rfl ?_
  refine tw_get (K := RX3) (T := TX3) (N := 5) (v := .int (st.1 16)) C 7 4 (fun _ h => List.mem_cons_of_mem _ (List.mem_append_right _ (h))) rfl rfl (by decide) (List.mem_cons_of_mem _ (List.mem_append_left _ (List.mem_of_getElem? (i := 0) rfl))) rfl rfl dX3_hasRoomFor_4 ?_
  refine tw_isub C dX3_hasRoomFor_7 ?_
  refine tw_icmp_gt (tgt := 15) C dX3_hasRoomFor_8 (by decide) (fun c1 => ?_) (fun c1 => ?_)
  · have hf := tw_pos hf c1
    refine tw_iconst (v := 0) C dX3_hasRoomFor_15 (by decide) ?_
    exact tw_endi (Wf := twT cI cZ q) hE hf dX3_hasRoomFor_16 rfl
  · have hf := tw_neg hf c1
    refine tw_iconst (v := 1) C dX3_hasRoomFor_11 (by decide) ?_
    refine tw_goto (tgt := 16) C dX3_hasRoomFor_12 (by decide) ?_
    exact tw_endi (Wf := twT cI cZ q) hE hf dX3_hasRoomFor_16 rfl
end
