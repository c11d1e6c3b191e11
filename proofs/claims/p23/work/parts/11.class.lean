theorem hd_X6_speed : yX6_speed.cls = RX6 ∧ yX6_speed.cls ≠ "java/lang/invoke/MethodHandle" ∧ yX6_speed.cls ≠ "java/lang/invoke/VarHandle" ∧ (parseMethodDescriptor yX6_speed.desc).map (fun d => d.parameters.length) = some 0 := by decide +kernel
theorem hd_X7_flow : yX7_flow.cls = RX7 ∧ yX7_flow.cls ≠ "java/lang/invoke/MethodHandle" ∧ yX7_flow.cls ≠ "java/lang/invoke/VarHandle" ∧ (parseMethodDescriptor yX7_flow.desc).map (fun d => d.parameters.length) = some 0 := by decide +kernel
theorem hd_X7_alarm : yX7_alarm.cls = RX7 ∧ yX7_alarm.cls ≠ "java/lang/invoke/MethodHandle" ∧ yX7_alarm.cls ≠ "java/lang/invoke/VarHandle" ∧ (parseMethodDescriptor yX7_alarm.desc).map (fun d => d.parameters.length) = some 0 := by decide +kernel
theorem hd_X0_lost : yX0_lost.cls = RX0 ∧ yX0_lost.cls ≠ "java/lang/invoke/MethodHandle" ∧ yX0_lost.cls ≠ "java/lang/invoke/VarHandle" ∧ (parseMethodDescriptor yX0_lost.desc).map (fun d => d.parameters.length) = some 0 := by decide +kernel
theorem hd_X7_gone : yX7_gone.cls = RX7 ∧ yX7_gone.cls ≠ "java/lang/invoke/MethodHandle" ∧ yX7_gone.cls ≠ "java/lang/invoke/VarHandle" ∧ (parseMethodDescriptor yX7_gone.desc).map (fun d => d.parameters.length) = some 0 := by decide +kernel
theorem hd_X3_howMany : yX3_howMany.cls = RX3 ∧ yX3_howMany.cls ≠ "java/lang/invoke/MethodHandle" ∧ yX3_howMany.cls ≠ "java/lang/invoke/VarHandle" ∧ (parseMethodDescriptor yX3_howMany.desc).map (fun d => d.parameters.length) = some 1 := by decide +kernel
theorem hd_X3_size : yX3_size.cls = RX3 ∧ yX3_size.cls ≠ "java/lang/invoke/MethodHandle" ∧ yX3_size.cls ≠ "java/lang/invoke/VarHandle" ∧ (parseMethodDescriptor yX3_size.desc).map (fun d => d.parameters.length) = some 0 := by decide +kernel
theorem hd_X0_allSmoke : yX0_allSmoke.cls = RX0 ∧ yX0_allSmoke.cls ≠ "java/lang/invoke/MethodHandle" ∧ yX0_allSmoke.cls ≠ "java/lang/invoke/VarHandle" ∧ (parseMethodDescriptor yX0_allSmoke.desc).map (fun d => d.parameters.length) = some 0 := by decide +kernel
theorem hd_X1_allMade : yX1_allMade.cls = RX1 ∧ yX1_allMade.cls ≠ "java/lang/invoke/MethodHandle" ∧ yX1_allMade.cls ≠ "java/lang/invoke/VarHandle" ∧ (parseMethodDescriptor yX1_allMade.desc).map (fun d => d.parameters.length) = some 0 := by decide +kernel
theorem hd_X7_balances : yX7_balances.cls = RX7 ∧ yX7_balances.cls ≠ "java/lang/invoke/MethodHandle" ∧ yX7_balances.cls ≠ "java/lang/invoke/VarHandle" ∧ (parseMethodDescriptor yX7_balances.desc).map (fun d => d.parameters.length) = some 0 := by decide +kernel
theorem hd_X7_hasPower : yX7_hasPower.cls = RX7 ∧ yX7_hasPower.cls ≠ "java/lang/invoke/MethodHandle" ∧ yX7_hasPower.cls ≠ "java/lang/invoke/VarHandle" ∧ (parseMethodDescriptor yX7_hasPower.desc).map (fun d => d.parameters.length) = some 0 := by decide +kernel
theorem hd_J6_compare_7cf53 : yJ6_compare_7cf53.cls ≠ "java/lang/invoke/MethodHandle" ∧ yJ6_compare_7cf53.cls ≠ "java/lang/invoke/VarHandle" ∧ (parseMethodDescriptor yJ6_compare_7cf53.desc).map (fun d => d.parameters.length) = some 2 := by decide +kernel
theorem hd_X5_oneNearer : yX5_oneNearer.cls ≠ "java/lang/invoke/MethodHandle" ∧ yX5_oneNearer.cls ≠ "java/lang/invoke/VarHandle" ∧ (parseMethodDescriptor yX5_oneNearer.desc).map (fun d => d.parameters.length) = some 2 := by decide +kernel
theorem hd_X5_turn : yX5_turn.cls = RX5 ∧ yX5_turn.cls ≠ "java/lang/invoke/MethodHandle" ∧ yX5_turn.cls ≠ "java/lang/invoke/VarHandle" ∧ (parseMethodDescriptor yX5_turn.desc).map (fun d => d.parameters.length) = some 1 := by decide +kernel
theorem hd_X5_push : yX5_push.cls = RX5 ∧ yX5_push.cls ≠ "java/lang/invoke/MethodHandle" ∧ yX5_push.cls ≠ "java/lang/invoke/VarHandle" ∧ (parseMethodDescriptor yX5_push.desc).map (fun d => d.parameters.length) = some 0 := by decide +kernel
theorem hd_X6_held : yX6_held.cls ≠ "java/lang/invoke/MethodHandle" ∧ yX6_held.cls ≠ "java/lang/invoke/VarHandle" ∧ (parseMethodDescriptor yX6_held.desc).map (fun d => d.parameters.length) = some 1 := by decide +kernel
theorem hd_X6_become : yX6_become.cls = RX6 ∧ yX6_become.cls ≠ "java/lang/invoke/MethodHandle" ∧ yX6_become.cls ≠ "java/lang/invoke/VarHandle" ∧ (parseMethodDescriptor yX6_become.desc).map (fun d => d.parameters.length) = some 1 := by decide +kernel
theorem hd_X1_isBurning : yX1_isBurning.cls = RX1 ∧ yX1_isBurning.cls ≠ "java/lang/invoke/MethodHandle" ∧ yX1_isBurning.cls ≠ "java/lang/invoke/VarHandle" ∧ (parseMethodDescriptor yX1_isBurning.desc).map (fun d => d.parameters.length) = some 0 := by decide +kernel
theorem hd_X1_place : yX1_place.cls = RX1 ∧ yX1_place.cls ≠ "java/lang/invoke/MethodHandle" ∧ yX1_place.cls ≠ "java/lang/invoke/VarHandle" ∧ (parseMethodDescriptor yX1_place.desc).map (fun d => d.parameters.length) = some 0 := by decide +kernel
theorem hd_X1_burn : yX1_burn.cls = RX1 ∧ yX1_burn.cls ≠ "java/lang/invoke/MethodHandle" ∧ yX1_burn.cls ≠ "java/lang/invoke/VarHandle" ∧ (parseMethodDescriptor yX1_burn.desc).map (fun d => d.parameters.length) = some 1 := by decide +kernel
theorem hd_X7_isSegment : yX7_isSegment.cls ≠ "java/lang/invoke/MethodHandle" ∧ yX7_isSegment.cls ≠ "java/lang/invoke/VarHandle" ∧ (parseMethodDescriptor yX7_isSegment.desc).map (fun d => d.parameters.length) = some 1 := by decide +kernel
theorem hd_X0_feedFrom : yX0_feedFrom.cls = RX0 ∧ yX0_feedFrom.cls ≠ "java/lang/invoke/MethodHandle" ∧ yX0_feedFrom.cls ≠ "java/lang/invoke/VarHandle" ∧ (parseMethodDescriptor yX0_feedFrom.desc).map (fun d => d.parameters.length) = some 2 := by decide +kernel
theorem hd_X7_burn : yX7_burn.cls = RX7 ∧ yX7_burn.cls ≠ "java/lang/invoke/MethodHandle" ∧ yX7_burn.cls ≠ "java/lang/invoke/VarHandle" ∧ (parseMethodDescriptor yX7_burn.desc).map (fun d => d.parameters.length) = some 0 := by decide +kernel
theorem hd_X0_withoutSign : yX0_withoutSign.cls ≠ "java/lang/invoke/MethodHandle" ∧ yX0_withoutSign.cls ≠ "java/lang/invoke/VarHandle" ∧ (parseMethodDescriptor yX0_withoutSign.desc).map (fun d => d.parameters.length) = some 1 := by decide +kernel
theorem hd_X0_side : yX0_side.cls ≠ "java/lang/invoke/MethodHandle" ∧ yX0_side.cls ≠ "java/lang/invoke/VarHandle" ∧ (parseMethodDescriptor yX0_side.desc).map (fun d => d.parameters.length) = some 1 := by decide +kernel
theorem hd_X0_shift : yX0_shift.cls = RX0 ∧ yX0_shift.cls ≠ "java/lang/invoke/MethodHandle" ∧ yX0_shift.cls ≠ "java/lang/invoke/VarHandle" ∧ (parseMethodDescriptor yX0_shift.desc).map (fun d => d.parameters.length) = some 3 := by decide +kernel
/-! X6_speed: double speed() -/
abbrev rm_X6_speed : Room := { frames := 0, cells := 0, slots := 0, locals := 0 }
def f_X6_speed (st : twS) : Option (UInt64 × twS) :=
  some (st.2.2.2, st)
section
variable {p : Program} {l : Launch} {e : Env} {s : State} {m : MethodId} {args : Array Value} {below : List Frame} {meth : Method} {c : Code} {Q : State → Prop} {dC : Nat → ClassId} {dI : Nat → Nat → Nat} {cI cZ : ClassId} {q : Nat → Nat} {A : Nat → Prop} {res : UInt64 × twS}
set_option maxRecDepth 20000 in
theorem c_X6_speed (l : Launch) (dC : Nat → ClassId) (dI : Nat → Nat → Nat) (cI cZ : ClassId) (q : Nat → Nat) {st : twS} {res : UInt64 × twS} (hf : f_X6_speed st = some res) : twMd l yX6_speed wsX6_speed rm_X6_speed (dC, dI) (twY cI cZ) [.ref (q 2)] (twT cI cZ q st) res.1 (twT cI cZ q res.2) := by
  refine tw_entd (cc := cX6_speed) (maxL := 1) (own := RX6) (by decide) rfl (Nat.le_of_ble_eq_true rfl) rfl ⟨rfl, rfl⟩ ?_
  intro p e s m below meth c A Q C hE
  generalize ([.ref (q 2)] : List Value).toArray = args at C hE ⊢
  refine tw_sub (lv' := [(0, .ref (q 2))]) [0] rfl ?_
  unfold f_X6_speed at hf
  refine tw_aload_n C dX6_speed_0 0 rfl rfl ?_
  refine tw_get (K := RX6) (T := TX6) (N := 3) (v := .double st.2.2.2) C 2 0 (fun _ h => List.mem_cons_of_mem _ (List.mem_append_right _ (h))) rfl rfl (by decide) (List.mem_cons_of_mem _ (List.mem_append_left _ (List.mem_of_getElem? (i := 0) rfl))) rfl rfl dX6_speed_1 ?_
  exact tw_endd (Wf := twT cI cZ q) hE hf dX6_speed_4
end
/-! X7_flow: public int flow() -/
abbrev rm_X7_flow : Room := { frames := 1, cells := 0, slots := 0, locals := 20 }
def f_X7_flow (st : twS) : Option (Int32 × twS) :=
  ((f_X6_speed st).bind fun y1 => (if twn (FP.dmul 4636737291354636288 y1.1) = true then some ((FP.d2i (FP.dmul 4636737291354636288 y1.1)), y1.2) else none))
section
variable {p : Program} {l : Launch} {e : Env} {s : State} {m : MethodId} {args : Array Value} {below : List Frame} {meth : Method} {c : Code} {Q : State → Prop} {dC : Nat → ClassId} {dI : Nat → Nat → Nat} {cI cZ : ClassId} {q : Nat → Nat} {A : Nat → Prop} {res : Int32 × twS}
set_option maxRecDepth 20000 in
theorem c_X7_flow (l : Launch) (dC : Nat → ClassId) (dI : Nat → Nat → Nat) (cI cZ : ClassId) (q : Nat → Nat) {st : twS} {res : Int32 × twS} (hf : f_X7_flow st = some res) : twMi l yX7_flow wsX7_flow rm_X7_flow (dC, dI) (twY cI cZ) [.ref (q 0)] (twT cI cZ q st) res.1 (twT cI cZ q res.2) := by
  refine tw_enti (cc := cX7_flow) (maxL := 1) (own := RX7) (by decide) rfl (Nat.le_of_ble_eq_true rfl) rfl ⟨rfl, rfl⟩ ?_
  intro p e s m below meth c A Q C hE
  generalize ([.ref (q 0)] : List Value).toArray = args at C hE ⊢
  refine tw_sub (lv' := [(0, .ref (q 0))]) [0] rfl ?_
  unfold f_X7_flow at hf
  refine tw_ldc2d C (List.mem_cons_of_mem _ (List.mem_append_left _ (List.mem_append_left _ (List.mem_of_getElem? (i := 0) rfl)))) dX7_flow_0 ?_
  refine tw_aload_n C dX7_flow_3 0 rfl rfl ?_
  refine tw_get (K := RX7) (T := TX7) (N := 14) (v := .ref (q 2)) C 0 1 (fun _ h => List.mem_cons_of_mem _ (List.mem_append_left _ (List.mem_append_right _ (h)))) rfl rfl (by decide) (List.mem_cons_of_mem _ (List.mem_append_left _ (List.mem_append_left _ (List.mem_of_getElem? (i := 1) rfl)))) rfl rfl dX7_flow_4 ?_
  obtain ⟨y1, hc1, hf⟩ := tw_bd hf
  refine tw_cVd (As := []) (stk := [.double 4636737291354636288]) C (c_X6_speed l dC dI cI cZ q hc1) (cwV 0 C.hts gX7_flow_X6_speed rfl rfl rfl hd_X6_speed ⟨Nat.le_of_ble_eq_true rfl, Nat.le_of_ble_eq_true rfl⟩) 2 (ci := 6) rfl rfl rfl rfl rfl (Nat.le_of_ble_eq_true rfl) dX7_flow_7 ⟨Nat.zero_le _, Nat.zero_le _⟩ ?_
  obtain ⟨hn2, hf⟩ := tw_ck hf
  refine tw_dmul C dX7_flow_10 hn2 ?_
  refine tw_d2i C dX7_flow_11 ?_
  exact tw_endi (Wf := twT cI cZ q) hE hf dX7_flow_12 rfl
end
/-! X7_alarm: public int alarm() -/
abbrev rm_X7_alarm : Room := { frames := 0, cells := 0, slots := 0, locals := 0 }
def f_X7_alarm (st : twS) : Option (Int32 × twS) :=
  some ((st.1 3), st)
section
variable {p : Program} {l : Launch} {e : Env} {s : State} {m : MethodId} {args : Array Value} {below : List Frame} {meth : Method} {c : Code} {Q : State → Prop} {dC : Nat → ClassId} {dI : Nat → Nat → Nat} {cI cZ : ClassId} {q : Nat → Nat} {A : Nat → Prop} {res : Int32 × twS}
set_option maxRecDepth 20000 in
theorem c_X7_alarm (l : Launch) (dC : Nat → ClassId) (dI : Nat → Nat → Nat) (cI cZ : ClassId) (q : Nat → Nat) {st : twS} {res : Int32 × twS} (hf : f_X7_alarm st = some res) : twMi l yX7_alarm wsX7_alarm rm_X7_alarm (dC, dI) (twY cI cZ) [.ref (q 0)] (twT cI cZ q st) res.1 (twT cI cZ q res.2) := by
  refine tw_enti (cc := cX7_alarm) (maxL := 1) (own := RX7) (by decide) rfl (Nat.le_of_ble_eq_true rfl) rfl ⟨rfl, rfl⟩ ?_
  intro p e s m below meth c A Q C hE
  generalize ([.ref (q 0)] : List Value).toArray = args at C hE ⊢
  refine tw_sub (lv' := [(0, .ref (q 0))]) [0] rfl ?_
  unfold f_X7_alarm at hf
  refine tw_aload_n C dX7_alarm_0 0 rfl rfl ?_
  refine tw_get (K := RX7) (T := TX7) (N := 14) (v := .int (st.1 3)) C 0 12 (fun _ h => List.mem_cons_of_mem _ (List.mem_append_right _ (h))) rfl rfl (by decide) (List.mem_cons_of_mem _ (List.mem_append_left _ (List.mem_of_getElem? (i := 0) rfl))) rfl rfl dX7_alarm_1 ?_
  exact tw_endi (Wf := twT cI cZ q) hE hf dX7_alarm_4 rfl
end
/-! X0_lost: int lost() -/
abbrev rm_X0_lost : Room := { frames := 0, cells := 0, slots := 0, locals := 0 }
def f_X0_lost (st : twS) : Option (Int32 × twS) :=
  some ((st.1 7), st)
section
variable {p : Program} {l : Launch} {e : Env} {s : State} {m : MethodId} {args : Array Value} {below : List Frame} {meth : Method} {c : Code} {Q : State → Prop} {dC : Nat → ClassId} {dI : Nat → Nat → Nat} {cI cZ : ClassId} {q : Nat → Nat} {A : Nat → Prop} {res : Int32 × twS}
set_option maxRecDepth 20000 in
theorem c_X0_lost (l : Launch) (dC : Nat → ClassId) (dI : Nat → Nat → Nat) (cI cZ : ClassId) (q : Nat → Nat) {st : twS} {res : Int32 × twS} (hf : f_X0_lost st = some res) : twMi l yX0_lost wsX0_lost rm_X0_lost (dC, dI) (twY cI cZ) [.ref (q 3)] (twT cI cZ q st) res.1 (twT cI cZ q res.2) := by
  refine tw_enti (cc := cX0_lost) (maxL := 1) (own := RX0) (by decide) rfl (Nat.le_of_ble_eq_true rfl) rfl ⟨rfl, rfl⟩ ?_
  intro p e s m below meth c A Q C hE
  generalize ([.ref (q 3)] : List Value).toArray = args at C hE ⊢
  refine tw_sub (lv' := [(0, .ref (q 3))]) [0] rfl ?_
  unfold f_X0_lost at hf
  refine tw_aload_n C dX0_lost_0 0 rfl rfl ?_
  refine tw_get (K := RX0) (T := TX0) (N := 4) (v := .int (st.1 7)) C 3 3 (fun _ h => List.mem_cons_of_mem _ (List.mem_append_right _ (h))) rfl rfl (by decide) (List.mem_cons_of_mem _ (List.mem_append_left _ (List.mem_of_getElem? (i := 0) rfl))) rfl rfl dX0_lost_1 ?_
  exact tw_endi (Wf := twT cI cZ q) hE hf dX0_lost_4 rfl
end
/-! X7_gone: public int gone() -/
abbrev rm_X7_gone : Room := { frames := 1, cells := 0, slots := 0, locals := 20 }
def f_X7_gone (st : twS) : Option (Int32 × twS) :=
  ((f_X0_lost st).bind fun y1 => some (y1.1, y1.2))
section
variable {p : Program} {l : Launch} {e : Env} {s : State} {m : MethodId} {args : Array Value} {below : List Frame} {meth : Method} {c : Code} {Q : State → Prop} {dC : Nat → ClassId} {dI : Nat → Nat → Nat} {cI cZ : ClassId} {q : Nat → Nat} {A : Nat → Prop} {res : Int32 × twS}
set_option maxRecDepth 20000 in
theorem c_X7_gone (l : Launch) (dC : Nat → ClassId) (dI : Nat → Nat → Nat) (cI cZ : ClassId) (q : Nat → Nat) {st : twS} {res : Int32 × twS} (hf : f_X7_gone st = some res) : twMi l yX7_gone wsX7_gone rm_X7_gone (dC, dI) (twY cI cZ) [.ref (q 0)] (twT cI cZ q st) res.1 (twT cI cZ q res.2) := by
  refine tw_enti (cc := cX7_gone) (maxL := 1) (own := RX7) (by decide) rfl (Nat.le_of_ble_eq_true rfl) rfl ⟨rfl, rfl⟩ ?_
  intro p e s m below meth c A Q C hE
  generalize ([.ref (q 0)] : List Value).toArray = args at C hE ⊢
  refine tw_sub (lv' := [(0, .ref (q 0))]) [0] rfl ?_
  unfold f_X7_gone at hf
  refine tw_aload_n C dX7_gone_0 0 rfl rfl ?_
  refine tw_get (K := RX7) (T := TX7) (N := 14) (v := .ref (q 3)) C 0 2 (fun _ h => List.mem_cons_of_mem _ (List.mem_append_left _ (List.mem_append_right _ (h)))) rfl rfl (by decide) (List.mem_cons_of_mem _ (List.mem_append_left _ (List.mem_append_left _ (List.mem_of_getElem? (i := 0) rfl)))) rfl rfl dX7_gone_1 ?_
  obtain ⟨y1, hc1, hf⟩ := tw_bd hf
  refine tw_cVi (As := []) (stk := []) C (c_X0_lost l dC dI cI cZ q hc1) (cwV 0 C.hts gX7_gone_X0_lost rfl rfl rfl hd_X0_lost ⟨Nat.le_of_ble_eq_true rfl, Nat.le_of_ble_eq_true rfl⟩) 3 (ci := 0) rfl rfl rfl rfl rfl (Nat.le_of_ble_eq_true rfl) dX7_gone_4 ⟨Nat.zero_le _, Nat.zero_le _⟩ ?_
  exact tw_endi (Wf := twT cI cZ q) hE hf dX7_gone_7 rfl
end
/-! X3_howMany: int howMany(int) -/
abbrev rm_X3_howMany : Room := { frames := 0, cells := 0, slots := 0, locals := 0 }
def f_X3_howMany_L4b (rec : Int32 → Int32 → Int32 → twS → Option (Int32 × twS)) (v1 : Int32) (v2 : Int32) (v3 : Int32) (st : twS) : Option (Int32 × twS) :=
  (if (st.1 16) ≤ v3 then
    some (v2, st)
  else
    (if 30 ≤ v3 then
    some (v2, st)
  else
    (if twb v3 30 = true then (if (st.2.1 22 v3.toNatClampNeg) = v1 then
    rec v1 (v2 + 1) (v3 + 1) st
  else
    rec v1 v2 (v3 + 1) st) else none)))
def f_X3_howMany_L4 : Nat → Int32 → Int32 → Int32 → twS → Option (Int32 × twS)
  | 0 => fun _ _ _ _ => none
  | n + 1 => fun v1 v2 v3 st => f_X3_howMany_L4b (f_X3_howMany_L4 n) v1 v2 v3 st
def f_X3_howMany (st : twS) (v1 : Int32) : Option (Int32 × twS) :=
  f_X3_howMany_L4 twN v1 0 0 st
section
variable {p : Program} {l : Launch} {e : Env} {s : State} {m : MethodId} {args : Array Value} {below : List Frame} {meth : Method} {c : Code} {Q : State → Prop} {dC : Nat → ClassId} {dI : Nat → Nat → Nat} {cI cZ : ClassId} {q : Nat → Nat} {A : Nat → Prop} {res : Int32 × twS}
set_option maxRecDepth 20000 in
theorem m_X3_howMany_L4b (C : twC p s m args meth c cX3_howMany 4 RX3 wsX3_howMany (dC, dI) (twY cI cZ) A) (hE : twEi p l e rm_X3_howMany s m args below meth c 0 0 Q (dC, dI) A 4 cX3_howMany .int res.1 (twT cI cZ q res.2)) {rec : Int32 → Int32 → Int32 → twS → Option (Int32 × twS)} (hrec : ∀ (v1 : Int32) (v2 : Int32) (v3 : Int32) (st : twS), rec v1 v2 v3 st = some res → twG p l e rm_X3_howMany s m args below meth c 0 0 Q (dC, dI) A 4 (twT cI cZ q st) 4 [(0, .ref (q 7)), (1, .int v1), (2, .int v2), (3, .int v3)] []) : ∀ (v1 : Int32) (v2 : Int32) (v3 : Int32) (st : twS), f_X3_howMany_L4b rec v1 v2 v3 st = some res → twG p l e rm_X3_howMany s m args below meth c 0 0 Q (dC, dI) A 4 (twT cI cZ q st) 4 [(0, .ref (q 7)), (1, .int v1), (2, .int v2), (3, .int v3)] [] := by
  intro v1 v2 v3 st hf
  unfold f_X3_howMany_L4b at hf
  refine tw_iload_n C dX3_howMany_4 3 rfl rfl ?_
  refine tw_aload_n C dX3_howMany_5 0 rfl rfl ?_
  refine tw_get (K := RX3) (T := TX3) (N := 5) (v := .int (st.1 16)) C 7 4 (fun _ h => List.mem_cons_of_mem _ (List.mem_append_right _ (h))) rfl rfl (by decide) (List.mem_cons_of_mem _ (List.mem_append_left _ (List.mem_of_getElem? (i := 0) rfl))) rfl rfl dX3_howMany_6 ?_
  refine tw_icmp_ge (tgt := 37) C dX3_howMany_9 (by decide) (fun c4001 => ?_) (fun c4001 => ?_)
  · have hf := tw_pos hf c4001
    refine tw_iload_n C dX3_howMany_37 2 rfl rfl ?_
    exact tw_endi (Wf := twT cI cZ q) hE hf dX3_howMany_38 rfl
  · have hf := tw_neg hf c4001
    refine tw_iload_n C dX3_howMany_12 3 rfl rfl ?_
    refine tw_bipush (v := 30) C dX3_howMany_13 (by decide) ?_
    refine tw_icmp_ge (tgt := 37) C dX3_howMany_15 (by decide) (fun c4002 => ?_) (fun c4002 => ?_)
    · have hf := tw_pos hf c4002
      refine tw_iload_n C dX3_howMany_37 2 rfl rfl ?_
      exact tw_endi (Wf := twT cI cZ q) hE hf dX3_howMany_38 rfl
    · have hf := tw_neg hf c4002
      refine tw_aload_n C dX3_howMany_18 0 rfl rfl ?_
      refine tw_get (K := RX3) (T := TX3) (N := 5) (v := .ref (q 22)) C 7 0 (fun _ h => List.mem_cons_of_mem _ (List.mem_append_right _ (h))) rfl rfl (by decide) (List.mem_cons_of_mem _ (List.mem_append_left _ (List.mem_of_getElem? (i := 1) rfl))) rfl rfl dX3_howMany_19 ?_
      refine tw_iload_n C dX3_howMany_22 3 rfl rfl ?_
      obtain ⟨hb4003, hf⟩ := tw_ck hf
      refine tw_iald C 22 0 hb4003 rfl rfl dX3_howMany_23 ?_
      refine tw_iload_n C dX3_howMany_24 1 rfl rfl ?_
      refine tw_icmp_ne (tgt := 31) C dX3_howMany_25 (by decide) (fun c4004 => ?_) (fun c4004 => ?_)
      · have hf := tw_neg hf c4004
        refine tw_iinc (v := (v3 + 1)) (lv' := [(3, .int (v3 + 1)), (0, .ref (q 7)), (1, .int v1), (2, .int v2)]) C dX3_howMany_31 (k := 3) rfl rfl (by decide) rfl ?_
        refine tw_goto (tgt := 4) C dX3_howMany_34 (by decide) ?_
        refine tw_sub [1, 2, 3, 0] rfl ?_
        exact hrec v1 v2 (v3 + 1) st hf
      · have hf := tw_pos hf c4004
        refine tw_iinc (v := (v2 + 1)) (lv' := [(2, .int (v2 + 1)), (0, .ref (q 7)), (1, .int v1), (3, .int v3)]) C dX3_howMany_28 (k := 2) rfl rfl (by decide) rfl ?_
        refine tw_iinc (v := (v3 + 1)) (lv' := [(3, .int (v3 + 1)), (2, .int (v2 + 1)), (0, .ref (q 7)), (1, .int v1)]) C dX3_howMany_31 (k := 3) rfl rfl (by decide) rfl ?_
        refine tw_goto (tgt := 4) C dX3_howMany_34 (by decide) ?_
        refine tw_sub [2, 3, 1, 0] rfl ?_
        exact hrec v1 (v2 + 1) (v3 + 1) st hf
theorem m_X3_howMany_L4 (C : twC p s m args meth c cX3_howMany 4 RX3 wsX3_howMany (dC, dI) (twY cI cZ) A) (hE : twEi p l e rm_X3_howMany s m args below meth c 0 0 Q (dC, dI) A 4 cX3_howMany .int res.1 (twT cI cZ q res.2)) : ∀ (n : Nat) (v1 : Int32) (v2 : Int32) (v3 : Int32) (st : twS), f_X3_howMany_L4 n v1 v2 v3 st = some res → twG p l e rm_X3_howMany s m args below meth c 0 0 Q (dC, dI) A 4 (twT cI cZ q st) 4 [(0, .ref (q 7)), (1, .int v1), (2, .int v2), (3, .int v3)] [] := by
  intro n
  induction n with
  | zero =>
    intro v1 v2 v3 st hf
    have hf : none = some res := hf
    cases hf
  | succ n ih =>
    intro v1 v2 v3 st hf
    exact m_X3_howMany_L4b C hE ih v1 v2 v3 st hf
set_option maxRecDepth 20000 in
theorem c_X3_howMany (l : Launch) (dC : Nat → ClassId) (dI : Nat → Nat → Nat) (cI cZ : ClassId) (q : Nat → Nat) {st : twS} {v1 : Int32} {res : Int32 × twS} (hf : f_X3_howMany st v1 = some res) : twMi l yX3_howMany wsX3_howMany rm_X3_howMany (dC, dI) (twY cI cZ) [.ref (q 7), .int v1] (twT cI cZ q st) res.1 (twT cI cZ q res.2) := by
  refine tw_enti (cc := cX3_howMany) (maxL := 4) (own := RX3) (by decide) rfl (Nat.le_of_ble_eq_true rfl) rfl ⟨rfl, rfl⟩ ?_
  intro p e s m below meth c A Q C hE
  generalize ([.ref (q 7), .int v1] : List Value).toArray = args at C hE ⊢
  refine tw_sub (lv' := [(0, .ref (q 7)), (1, .int v1)]) [0, 1] rfl ?_
  unfold f_X3_howMany at hf
  refine tw_iconst (v := 0) C dX3_howMany_0 (by decide) ?_
  refine tw_istore_n (lv' := [(2, .int 0), (0, .ref (q 7)), (1, .int v1)]) C dX3_howMany_1 rfl (by decide) rfl ?_
  refine tw_iconst (v := 0) C dX3_howMany_2 (by decide) ?_
  refine tw_istore_n (lv' := [(3, .int 0), (2, .int 0), (0, .ref (q 7)), (1, .int v1)]) C dX3_howMany_3 rfl (by decide) rfl ?_
  refine tw_sub [2, 3, 1, 0] rfl ?_
  exact m_X3_howMany_L4 C hE twN v1 0 0 st hf
end
/-! X3_size: int size() -/
abbrev rm_X3_size : Room := { frames := 0, cells := 0, slots := 0, locals := 0 }
def f_X3_size (st : twS) : Option (Int32 × twS) :=
  some ((st.1 16), st)
section
variable {p : Program} {l : Launch} {e : Env} {s : State} {m : MethodId} {args : Array Value} {below : List Frame} {meth : Method} {c : Code} {Q : State → Prop} {dC : Nat → ClassId} {dI : Nat → Nat → Nat} {cI cZ : ClassId} {q : Nat → Nat} {A : Nat → Prop} {res : Int32 × twS}
set_option maxRecDepth 20000 in
theorem c_X3_size (l : Launch) (dC : Nat → ClassId) (dI : Nat → Nat → Nat) (cI cZ : ClassId) (q : Nat → Nat) {st : twS} {res : Int32 × twS} (hf : f_X3_size st = some res) : twMi l yX3_size wsX3_size rm_X3_size (dC, dI) (twY cI cZ) [.ref (q 7)] (twT cI cZ q st) res.1 (twT cI cZ q res.2) := by
  refine tw_enti (cc := cX3_size) (maxL := 1) (own := RX3) (by decide) rfl (Nat.le_of_ble_eq_true rfl) rfl ⟨rfl, rfl⟩ ?_
  intro p e s m below meth c A Q C hE
  generalize ([.ref (q 7)] : List Value).toArray = args at C hE ⊢
  refine tw_sub (lv' := [(0, .ref (q 7))]) [0] rfl ?_
  unfold f_X3_size at hf
  refine tw_aload_n C dX3_size_0 0 rfl rfl ?_
  refine tw_get (K := RX3) (T := TX3) (N := 5) (v := .int (st.1 16)) C 7 4 (fun _ h => List.mem_cons_of_mem _ (List.mem_append_right _ (h))) rfl rfl (by decide) (List.mem_cons_of_mem _ (List.mem_append_left _ (List.mem_of_getElem? (i := 0) rfl))) rfl rfl dX3_size_1 ?_
  exact tw_endi (Wf := twT cI cZ q) hE hf dX3_size_4 rfl
end
/-! X0_allSmoke: int allSmoke() -/
abbrev rm_X0_allSmoke : Room := { frames := 0, cells := 0, slots := 0, locals := 0 }
def f_X0_allSmoke_L4b (rec : Int32 → Int32 → twS → Option (Int32 × twS)) (v1 : Int32) (v2 : Int32) (st : twS) : Option (Int32 × twS) :=
  (if 12 ≤ v2 then
    some (v1, st)
  else
    (if twb v2 12 = true then rec (v1 + (st.2.1 13 v2.toNatClampNeg)) (v2 + 1) st else none))
def f_X0_allSmoke_L4 : Nat → Int32 → Int32 → twS → Option (Int32 × twS)
  | 0 => fun _ _ _ => none
  | n + 1 => fun v1 v2 st => f_X0_allSmoke_L4b (f_X0_allSmoke_L4 n) v1 v2 st
def f_X0_allSmoke (st : twS) : Option (Int32 × twS) :=
  f_X0_allSmoke_L4 twN 0 0 st
section
variable {p : Program} {l : Launch} {e : Env} {s : State} {m : MethodId} {args : Array Value} {below : List Frame} {meth : Method} {c : Code} {Q : State → Prop} {dC : Nat → ClassId} {dI : Nat → Nat → Nat} {cI cZ : ClassId} {q : Nat → Nat} {A : Nat → Prop} {res : Int32 × twS}
set_option maxRecDepth 20000 in
theorem m_X0_allSmoke_L4b (C : twC p s m args meth c cX0_allSmoke 3 RX0 wsX0_allSmoke (dC, dI) (twY cI cZ) A) (hE : twEi p l e rm_X0_allSmoke s m args below meth c 0 0 Q (dC, dI) A 3 cX0_allSmoke .int res.1 (twT cI cZ q res.2)) {rec : Int32 → Int32 → twS → Option (Int32 × twS)} (hrec : ∀ (v1 : Int32) (v2 : Int32) (st : twS), rec v1 v2 st = some res → twG p l e rm_X0_allSmoke s m args below meth c 0 0 Q (dC, dI) A 3 (twT cI cZ q st) 4 [(0, .ref (q 3)), (1, .int v1), (2, .int v2)] []) : ∀ (v1 : Int32) (v2 : Int32) (st : twS), f_X0_allSmoke_L4b rec v1 v2 st = some res → twG p l e rm_X0_allSmoke s m args below meth c 0 0 Q (dC, dI) A 3 (twT cI cZ q st) 4 [(0, .ref (q 3)), (1, .int v1), (2, .int v2)] [] := by
  intro v1 v2 st hf
  unfold f_X0_allSmoke_L4b at hf
  refine tw_iload_n C dX0_allSmoke_4 2 rfl rfl ?_
  refine tw_bipush (v := 12) C dX0_allSmoke_5 (by decide) ?_
  refine tw_icmp_ge (tgt := 25) C dX0_allSmoke_7 (by decide) (fun c4001 => ?_) (fun c4001 => ?_)
  · have hf := tw_pos hf c4001
    refine tw_iload_n C dX0_allSmoke_25 1 rfl rfl ?_
    exact tw_endi (Wf := twT cI cZ q) hE hf dX0_allSmoke_26 rfl
  · have hf := tw_neg hf c4001
    refine tw_iload_n C dX0_allSmoke_10 1 rfl rfl ?_
    refine tw_aload_n C dX0_allSmoke_11 0 rfl rfl ?_
    refine tw_get (K := RX0) (T := TX0) (N := 4) (v := .ref (q 13)) C 3 0 (fun _ h => List.mem_cons_of_mem _ (List.mem_append_right _ (h))) rfl rfl (by decide) (List.mem_cons_of_mem _ (List.mem_append_left _ (List.mem_of_getElem? (i := 0) rfl))) rfl rfl dX0_allSmoke_12 ?_
    refine tw_iload_n C dX0_allSmoke_15 2 rfl rfl ?_
    obtain ⟨hb4002, hf⟩ := tw_ck hf
    refine tw_iald C 13 0 hb4002 rfl rfl dX0_allSmoke_16 ?_
    refine tw_iadd C dX0_allSmoke_17 ?_
    refine tw_istore_n (lv' := [(1, .int (v1 + (st.2.1 13 v2.toNatClampNeg))), (0, .ref (q 3)), (2, .int v2)]) C dX0_allSmoke_18 rfl (by decide) rfl ?_
    refine tw_iinc (v := (v2 + 1)) (lv' := [(2, .int (v2 + 1)), (1, .int (v1 + (st.2.1 13 v2.toNatClampNeg))), (0, .ref (q 3))]) C dX0_allSmoke_19 (k := 2) rfl rfl (by decide) rfl ?_
    refine tw_goto (tgt := 4) C dX0_allSmoke_22 (by decide) ?_
    refine tw_sub [2, 1, 0] rfl ?_
    exact hrec (v1 + (st.2.1 13 v2.toNatClampNeg)) (v2 + 1) st hf
theorem m_X0_allSmoke_L4 (C : twC p s m args meth c cX0_allSmoke 3 RX0 wsX0_allSmoke (dC, dI) (twY cI cZ) A) (hE : twEi p l e rm_X0_allSmoke s m args below meth c 0 0 Q (dC, dI) A 3 cX0_allSmoke .int res.1 (twT cI cZ q res.2)) : ∀ (n : Nat) (v1 : Int32) (v2 : Int32) (st : twS), f_X0_allSmoke_L4 n v1 v2 st = some res → twG p l e rm_X0_allSmoke s m args below meth c 0 0 Q (dC, dI) A 3 (twT cI cZ q st) 4 [(0, .ref (q 3)), (1, .int v1), (2, .int v2)] [] := by
  intro n
  induction n with
  | zero =>
    intro v1 v2 st hf
    have hf : none = some res := hf
    cases hf
  | succ n ih =>
    intro v1 v2 st hf
    exact m_X0_allSmoke_L4b C hE ih v1 v2 st hf
set_option maxRecDepth 20000 in
theorem c_X0_allSmoke (l : Launch) (dC : Nat → ClassId) (dI : Nat → Nat → Nat) (cI cZ : ClassId) (q : Nat → Nat) {st : twS} {res : Int32 × twS} (hf : f_X0_allSmoke st = some res) : twMi l yX0_allSmoke wsX0_allSmoke rm_X0_allSmoke (dC, dI) (twY cI cZ) [.ref (q 3)] (twT cI cZ q st) res.1 (twT cI cZ q res.2) := by
  refine tw_enti (cc := cX0_allSmoke) (maxL := 3) (own := RX0) (by decide) rfl (Nat.le_of_ble_eq_true rfl) rfl ⟨rfl, rfl⟩ ?_
  intro p e s m below meth c A Q C hE
  generalize ([.ref (q 3)] : List Value).toArray = args at C hE ⊢
  refine tw_sub (lv' := [(0, .ref (q 3))]) [0] rfl ?_
  unfold f_X0_allSmoke at hf
  refine tw_iconst (v := 0) C dX0_allSmoke_0 (by decide) ?_
  refine tw_istore_n (lv' := [(1, .int 0), (0, .ref (q 3))]) C dX0_allSmoke_1 rfl (by decide) rfl ?_
  refine tw_iconst (v := 0) C dX0_allSmoke_2 (by decide) ?_
  refine tw_istore_n (lv' := [(2, .int 0), (1, .int 0), (0, .ref (q 3))]) C dX0_allSmoke_3 rfl (by decide) rfl ?_
  refine tw_sub [2, 1, 0] rfl ?_
  exact m_X0_allSmoke_L4 C hE twN 0 0 st hf
end
/-! X1_allMade: int allMade() -/
abbrev rm_X1_allMade : Room := { frames := 0, cells := 0, slots := 0, locals := 0 }
def f_X1_allMade (st : twS) : Option (Int32 × twS) :=
  some ((st.1 12), st)
section
variable {p : Program} {l : Launch} {e : Env} {s : State} {m : MethodId} {args : Array Value} {below : List Frame} {meth : Method} {c : Code} {Q : State → Prop} {dC : Nat → ClassId} {dI : Nat → Nat → Nat} {cI cZ : ClassId} {q : Nat → Nat} {A : Nat → Prop} {res : Int32 × twS}
set_option maxRecDepth 20000 in
theorem c_X1_allMade (l : Launch) (dC : Nat → ClassId) (dI : Nat → Nat → Nat) (cI cZ : ClassId) (q : Nat → Nat) {st : twS} {res : Int32 × twS} (hf : f_X1_allMade st = some res) : twMi l yX1_allMade wsX1_allMade rm_X1_allMade (dC, dI) (twY cI cZ) [.ref (q 4)] (twT cI cZ q st) res.1 (twT cI cZ q res.2) := by
  refine tw_enti (cc := cX1_allMade) (maxL := 1) (own := RX1) (by decide) rfl (Nat.le_of_ble_eq_true rfl) rfl ⟨rfl, rfl⟩ ?_
  intro p e s m below meth c A Q C hE
  generalize ([.ref (q 4)] : List Value).toArray = args at C hE ⊢
  refine tw_sub (lv' := [(0, .ref (q 4))]) [0] rfl ?_
  unfold f_X1_allMade at hf
  refine tw_aload_n C dX1_allMade_0 0 rfl rfl ?_
  refine tw_get (K := RX1) (T := TX1) (N := 6) (v := .int (st.1 12)) C 4 5 (fun _ h => List.mem_cons_of_mem _ (List.mem_append_right _ (h))) rfl rfl (by decide) (List.mem_cons_of_mem _ (List.mem_append_left _ (List.mem_of_getElem? (i := 0) rfl))) rfl rfl dX1_allMade_1 ?_
  exact tw_endi (Wf := twT cI cZ q) hE hf dX1_allMade_4 rfl
end
/-! X7_balances: public boolean balances() -/
abbrev rm_X7_balances : Room := { frames := 1, cells := 0, slots := 0, locals := 23 }
def f_X7_balances_L4b (rec : Int32 → Int32 → twS → Option (Int32 × twS)) (v1 : Int32) (v2 : Int32) (st : twS) : Option (Int32 × twS) :=
  (if 4 < v2 then
    ((f_X3_size st).bind fun y4002 => (if v1 = y4002.1 then
    ((f_X0_allSmoke y4002.2).bind fun y4004 => ((f_X0_lost y4004.2).bind fun y4005 => ((f_X1_allMade y4005.2).bind fun y4006 => (if (y4004.1 + y4005.1) = y4006.1 then
    some (1, y4006.2)
  else
    some (0, y4006.2)))))
  else
    some (0, y4002.2)))
  else
    ((f_X3_howMany st v2).bind fun y4008 => rec (v1 + y4008.1) (v2 + 1) y4008.2))
def f_X7_balances_L4 : Nat → Int32 → Int32 → twS → Option (Int32 × twS)
  | 0 => fun _ _ _ => none
  | n + 1 => fun v1 v2 st => f_X7_balances_L4b (f_X7_balances_L4 n) v1 v2 st
def f_X7_balances (st : twS) : Option (Int32 × twS) :=
  f_X7_balances_L4 twN 0 0 st
section
variable {p : Program} {l : Launch} {e : Env} {s : State} {m : MethodId} {args : Array Value} {below : List Frame} {meth : Method} {c : Code} {Q : State → Prop} {dC : Nat → ClassId} {dI : Nat → Nat → Nat} {cI cZ : ClassId} {q : Nat → Nat} {A : Nat → Prop} {res : Int32 × twS}
set_option maxRecDepth 20000 in
theorem m_X7_balances_L4b (C : twC p s m args meth c cX7_balances 3 RX7 wsX7_balances (dC, dI) (twY cI cZ) A) (hE : twEi p l e rm_X7_balances s m args below meth c 0 0 Q (dC, dI) A 3 cX7_balances .boolean res.1 (twT cI cZ q res.2)) {rec : Int32 → Int32 → twS → Option (Int32 × twS)} (hrec : ∀ (v1 : Int32) (v2 : Int32) (st : twS), rec v1 v2 st = some res → twG p l e rm_X7_balances s m args below meth c 0 0 Q (dC, dI) A 3 (twT cI cZ q st) 4 [(0, .ref (q 0)), (1, .int v1), (2, .int v2)] []) : ∀ (v1 : Int32) (v2 : Int32) (st : twS), f_X7_balances_L4b rec v1 v2 st = some res → twG p l e rm_X7_balances s m args below meth c 0 0 Q (dC, dI) A 3 (twT cI cZ q st) 4 [(0, .ref (q 0)), (1, .int v1), (2, .int v2)] [] := by
  intro v1 v2 st hf
  unfold f_X7_balances_L4b at hf
  refine tw_iload_n C dX7_balances_4 2 rfl rfl ?_
  refine tw_iconst (v := 4) C dX7_balances_5 (by decide) ?_
  refine tw_icmp_gt (tgt := 26) C dX7_balances_6 (by decide) (fun c4001 => ?_) (fun c4001 => ?_)
  · have hf := tw_pos hf c4001
    refine tw_iload_n C dX7_balances_26 1 rfl rfl ?_
    refine tw_aload_n C dX7_balances_27 0 rfl rfl ?_
    refine tw_get (K := RX7) (T := TX7) (N := 14) (v := .ref (q 7)) C 0 6 (fun _ h => List.mem_cons_of_mem _ (List.mem_append_left _ (List.mem_append_left _ (List.mem_append_left _ (List.mem_append_right _ (h)))))) rfl rfl (by decide) (List.mem_cons_of_mem _ (List.mem_append_left _ (List.mem_append_left _ (List.mem_append_left _ (List.mem_append_left _ (List.mem_append_left _ (List.mem_of_getElem? (i := 0) rfl))))))) rfl rfl dX7_balances_28 ?_
    obtain ⟨y4002, hc4002, hf⟩ := tw_bd hf
    refine tw_cVi (As := []) (stk := [.int v1]) C (c_X3_size l dC dI cI cZ q hc4002) (cwV 0 C.hts gX7_balances_X3_size rfl rfl rfl hd_X3_size ⟨Nat.le_of_ble_eq_true rfl, Nat.le_of_ble_eq_true rfl⟩) 7 (ci := 3) rfl rfl rfl rfl rfl (Nat.le_of_ble_eq_true rfl) dX7_balances_31 ⟨Nat.zero_le _, Nat.zero_le _⟩ ?_
    refine tw_icmp_ne (tgt := 66) C dX7_balances_34 (by decide) (fun c4003 => ?_) (fun c4003 => ?_)
    · have hf := tw_neg hf c4003
      refine tw_iconst (v := 0) C dX7_balances_66 (by decide) ?_
      exact tw_endi (Wf := twT cI cZ q) hE hf dX7_balances_67 rfl
    · have hf := tw_pos hf c4003
      refine tw_aload_n C dX7_balances_37 0 rfl rfl ?_
      refine tw_get (K := RX7) (T := TX7) (N := 14) (v := .ref (q 3)) C 0 2 (fun _ h => List.mem_cons_of_mem _ (List.mem_append_left _ (List.mem_append_left _ (List.mem_append_left _ (List.mem_append_right _ (h)))))) rfl rfl (by decide) (List.mem_cons_of_mem _ (List.mem_append_left _ (List.mem_append_left _ (List.mem_append_left _ (List.mem_append_left _ (List.mem_append_left _ (List.mem_of_getElem? (i := 1) rfl))))))) rfl rfl dX7_balances_38 ?_
      obtain ⟨y4004, hc4004, hf⟩ := tw_bd hf
      refine tw_cVi (As := []) (stk := []) C (c_X0_allSmoke l dC dI cI cZ q hc4004) (cwV 0 C.hts gX7_balances_X0_allSmoke rfl rfl rfl hd_X0_allSmoke ⟨Nat.le_of_ble_eq_true rfl, Nat.le_of_ble_eq_true rfl⟩) 3 (ci := 0) rfl rfl rfl rfl rfl (Nat.le_of_ble_eq_true rfl) dX7_balances_41 ⟨Nat.zero_le _, Nat.zero_le _⟩ ?_
      refine tw_aload_n C dX7_balances_44 0 rfl rfl ?_
      refine tw_get (K := RX7) (T := TX7) (N := 14) (v := .ref (q 3)) C 0 2 (fun _ h => List.mem_cons_of_mem _ (List.mem_append_left _ (List.mem_append_left _ (List.mem_append_left _ (List.mem_append_right _ (h)))))) rfl rfl (by decide) (List.mem_cons_of_mem _ (List.mem_append_left _ (List.mem_append_left _ (List.mem_append_left _ (List.mem_append_left _ (List.mem_append_left _ (List.mem_of_getElem? (i := 1) rfl))))))) rfl rfl dX7_balances_45 ?_
      obtain ⟨y4005, hc4005, hf⟩ := tw_bd hf
      refine tw_cVi (As := []) (stk := [.int y4004.1]) C (c_X0_lost l dC dI cI cZ q hc4005) (cwV 0 C.hts gX7_balances_X0_lost rfl rfl rfl hd_X0_lost ⟨Nat.le_of_ble_eq_true rfl, Nat.le_of_ble_eq_true rfl⟩) 3 (ci := 0) rfl rfl rfl rfl rfl (Nat.le_of_ble_eq_true rfl) dX7_balances_48 ⟨Nat.zero_le _, Nat.zero_le _⟩ ?_
      refine tw_iadd C dX7_balances_51 ?_
      refine tw_aload_n C dX7_balances_52 0 rfl rfl ?_
      refine tw_get (K := RX7) (T := TX7) (N := 14) (v := .ref (q 4)) C 0 3 (fun _ h => List.mem_cons_of_mem _ (List.mem_append_left _ (List.mem_append_left _ (List.mem_append_left _ (List.mem_append_right _ (h)))))) rfl rfl (by decide) (List.mem_cons_of_mem _ (List.mem_append_left _ (List.mem_append_left _ (List.mem_append_left _ (List.mem_append_left _ (List.mem_append_left _ (List.mem_of_getElem? (i := 2) rfl))))))) rfl rfl dX7_balances_53 ?_
      obtain ⟨y4006, hc4006, hf⟩ := tw_bd hf
      refine tw_cVi (As := []) (stk := [.int (y4004.1 + y4005.1)]) C (c_X1_allMade l dC dI cI cZ q hc4006) (cwV 0 C.hts gX7_balances_X1_allMade rfl rfl rfl hd_X1_allMade ⟨Nat.le_of_ble_eq_true rfl, Nat.le_of_ble_eq_true rfl⟩) 4 (ci := 1) rfl rfl rfl rfl rfl (Nat.le_of_ble_eq_true rfl) dX7_balances_56 ⟨Nat.zero_le _, Nat.zero_le _⟩ ?_
      refine tw_icmp_ne (tgt := 66) C dX7_balances_59 (by decide) (fun c4007 => ?_) (fun c4007 => ?_)
      · have hf := tw_neg hf c4007
        refine tw_iconst (v := 0) C dX7_balances_66 (by decide) ?_
        exact tw_endi (Wf := twT cI cZ q) hE hf dX7_balances_67 rfl
      · have hf := tw_pos hf c4007
        refine tw_iconst (v := 1) C dX7_balances_62 (by decide) ?_
        refine tw_goto (tgt := 67) C dX7_balances_63 (by decide) ?_
        exact tw_endi (Wf := twT cI cZ q) hE hf dX7_balances_67 rfl
  · have hf := tw_neg hf c4001
    refine tw_iload_n C dX7_balances_9 1 rfl rfl ?_
    refine tw_aload_n C dX7_balances_10 0 rfl rfl ?_
    refine tw_get (K := RX7) (T := TX7) (N := 14) (v := .ref (q 7)) C 0 6 (fun _ h => List.mem_cons_of_mem _ (List.mem_append_left _ (List.mem_append_left _ (List.mem_append_left _ (List.mem_append_right _ (h)))))) rfl rfl (by decide) (List.mem_cons_of_mem _ (List.mem_append_left _ (List.mem_append_left _ (List.mem_append_left _ (List.mem_append_left _ (List.mem_append_left _ (List.mem_of_getElem? (i := 0) rfl))))))) rfl rfl dX7_balances_11 ?_
    refine tw_iload_n C dX7_balances_14 2 rfl rfl ?_
    obtain ⟨y4008, hc4008, hf⟩ := tw_bd hf
    refine tw_cVi (As := [.int v2]) (stk := [.int v1]) C (c_X3_howMany l dC dI cI cZ q hc4008) (cwV 1 C.hts gX7_balances_X3_howMany rfl rfl rfl hd_X3_howMany ⟨Nat.le_of_ble_eq_true rfl, Nat.le_of_ble_eq_true rfl⟩) 7 (ci := 3) rfl rfl rfl rfl rfl (Nat.le_of_ble_eq_true rfl) dX7_balances_15 ⟨Nat.zero_le _, Nat.zero_le _⟩ ?_
    refine tw_iadd C dX7_balances_18 ?_
    refine tw_istore_n (lv' := [(1, .int (v1 + y4008.1)), (0, .ref (q 0)), (2, .int v2)]) C dX7_balances_19 rfl (by decide) rfl ?_
    refine tw_iinc (v := (v2 + 1)) (lv' := [(2, .int (v2 + 1)), (1, .int (v1 + y4008.1)), (0, .ref (q 0))]) C dX7_balances_20 (k := 2) rfl rfl (by decide) rfl ?_
    refine tw_goto (tgt := 4) C dX7_balances_23 (by decide) ?_
    refine tw_sub [2, 1, 0] rfl ?_
    exact hrec (v1 + y4008.1) (v2 + 1) y4008.2 hf
theorem m_X7_balances_L4 (C : twC p s m args meth c cX7_balances 3 RX7 wsX7_balances (dC, dI) (twY cI cZ) A) (hE : twEi p l e rm_X7_balances s m args below meth c 0 0 Q (dC, dI) A 3 cX7_balances .boolean res.1 (twT cI cZ q res.2)) : ∀ (n : Nat) (v1 : Int32) (v2 : Int32) (st : twS), f_X7_balances_L4 n v1 v2 st = some res → twG p l e rm_X7_balances s m args below meth c 0 0 Q (dC, dI) A 3 (twT cI cZ q st) 4 [(0, .ref (q 0)), (1, .int v1), (2, .int v2)] [] := by
  intro n
  induction n with
  | zero =>
    intro v1 v2 st hf
    have hf : none = some res := hf
    cases hf
  | succ n ih =>
    intro v1 v2 st hf
    exact m_X7_balances_L4b C hE ih v1 v2 st hf
set_option maxRecDepth 20000 in
theorem c_X7_balances (l : Launch) (dC : Nat → ClassId) (dI : Nat → Nat → Nat) (cI cZ : ClassId) (q : Nat → Nat) {st : twS} {res : Int32 × twS} (hf : f_X7_balances st = some res) : twMi l yX7_balances wsX7_balances rm_X7_balances (dC, dI) (twY cI cZ) [.ref (q 0)] (twT cI cZ q st) res.1 (twT cI cZ q res.2) := by
  refine tw_enti (cc := cX7_balances) (maxL := 3) (own := RX7) (by decide) rfl (Nat.le_of_ble_eq_true rfl) rfl ⟨rfl, rfl⟩ ?_
  intro p e s m below meth c A Q C hE
  generalize ([.ref (q 0)] : List Value).toArray = args at C hE ⊢
  refine tw_sub (lv' := [(0, .ref (q 0))]) [0] rfl ?_
  unfold f_X7_balances at hf
  refine tw_iconst (v := 0) C dX7_balances_0 (by decide) ?_
  refine tw_istore_n (lv' := [(1, .int 0), (0, .ref (q 0))]) C dX7_balances_1 rfl (by decide) rfl ?_
  refine tw_iconst (v := 0) C dX7_balances_2 (by decide) ?_
  refine tw_istore_n (lv' := [(2, .int 0), (1, .int 0), (0, .ref (q 0))]) C dX7_balances_3 rfl (by decide) rfl ?_
  refine tw_sub [2, 1, 0] rfl ?_
  exact m_X7_balances_L4 C hE twN 0 0 st hf
end
/-! X7_hasPower: private boolean hasPower() -/
abbrev rm_X7_hasPower : Room := { frames := 0, cells := 0, slots := 0, locals := 0 }
def f_X7_hasPower_L2b (rec : Int32 → twS → Option (Int32 × twS)) (v1 : Int32) (st : twS) : Option (Int32 × twS) :=
  (if 2 ≤ v1 then
    some (0, st)
  else
    (if twb v1 2 = true then (if (st.2.1 8 v1.toNatClampNeg) = 0 then
    some (1, st)
  else
    rec (v1 + 1) st) else none))
def f_X7_hasPower_L2 : Nat → Int32 → twS → Option (Int32 × twS)
  | 0 => fun _ _ => none
  | n + 1 => fun v1 st => f_X7_hasPower_L2b (f_X7_hasPower_L2 n) v1 st
def f_X7_hasPower (st : twS) : Option (Int32 × twS) :=
  f_X7_hasPower_L2 twN 0 st
section
variable {p : Program} {l : Launch} {e : Env} {s : State} {m : MethodId} {args : Array Value} {below : List Frame} {meth : Method} {c : Code} {Q : State → Prop} {dC : Nat → ClassId} {dI : Nat → Nat → Nat} {cI cZ : ClassId} {q : Nat → Nat} {A : Nat → Prop} {res : Int32 × twS}
set_option maxRecDepth 20000 in
theorem m_X7_hasPower_L2b (C : twC p s m args meth c cX7_hasPower 2 RX7 wsX7_hasPower (dC, dI) (twY cI cZ) A) (hE : twEi p l e rm_X7_hasPower s m args below meth c 0 0 Q (dC, dI) A 2 cX7_hasPower .boolean res.1 (twT cI cZ q res.2)) {rec : Int32 → twS → Option (Int32 × twS)} (hrec : ∀ (v1 : Int32) (st : twS), rec v1 st = some res → twG p l e rm_X7_hasPower s m args below meth c 0 0 Q (dC, dI) A 2 (twT cI cZ q st) 2 [(0, .ref (q 0)), (1, .int v1)] []) : ∀ (v1 : Int32) (st : twS), f_X7_hasPower_L2b rec v1 st = some res → twG p l e rm_X7_hasPower s m args below meth c 0 0 Q (dC, dI) A 2 (twT cI cZ q st) 2 [(0, .ref (q 0)), (1, .int v1)] [] := by
  intro v1 st hf
  unfold f_X7_hasPower_L2b at hf
  refine tw_iload_n C dX7_hasPower_2 1 rfl rfl ?_
  refine tw_aload_n C dX7_hasPower_3 0 rfl rfl ?_
  refine tw_get (K := RX7) (T := TX7) (N := 14) (v := .ref (q 8)) C 0 7 (fun _ h => List.mem_cons_of_mem _ (List.mem_append_right _ (h))) rfl rfl (by decide) (List.mem_cons_of_mem _ (List.mem_append_left _ (List.mem_of_getElem? (i := 0) rfl))) rfl rfl dX7_hasPower_4 ?_
  refine tw_alen (v := 2) C 8 1 rfl rfl rfl dX7_hasPower_7 ?_
  refine tw_icmp_ge (tgt := 28) C dX7_hasPower_8 (by decide) (fun c2001 => ?_) (fun c2001 => ?_)
  · have hf := tw_pos hf c2001
    refine tw_iconst (v := 0) C dX7_hasPower_28 (by decide) ?_
    exact tw_endi (Wf := twT cI cZ q) hE hf dX7_hasPower_29 rfl
  · have hf := tw_neg hf c2001
    refine tw_aload_n C dX7_hasPower_11 0 rfl rfl ?_
    refine tw_get (K := RX7) (T := TX7) (N := 14) (v := .ref (q 8)) C 0 7 (fun _ h => List.mem_cons_of_mem _ (List.mem_append_right _ (h))) rfl rfl (by decide) (List.mem_cons_of_mem _ (List.mem_append_left _ (List.mem_of_getElem? (i := 0) rfl))) rfl rfl dX7_hasPower_12 ?_
    refine tw_iload_n C dX7_hasPower_15 1 rfl rfl ?_
    obtain ⟨hb2002, hf⟩ := tw_ck hf
    refine tw_zald C 8 1 hb2002 rfl rfl dX7_hasPower_16 ?_
    refine tw_if_ne (tgt := 22) C dX7_hasPower_17 (by decide) (fun c2003 => ?_) (fun c2003 => ?_)
    · have hf := tw_neg hf c2003
      refine tw_iinc (v := (v1 + 1)) (lv' := [(1, .int (v1 + 1)), (0, .ref (q 0))]) C dX7_hasPower_22 (k := 1) rfl rfl (by decide) rfl ?_
      refine tw_goto (tgt := 2) C dX7_hasPower_25 (by decide) ?_
      refine tw_sub [1, 0] rfl ?_
      exact hrec (v1 + 1) st hf
    · have hf := tw_pos hf c2003
      refine tw_iconst (v := 1) C dX7_hasPower_20 (by decide) ?_
      exact tw_endi (Wf := twT cI cZ q) hE hf dX7_hasPower_21 rfl
theorem m_X7_hasPower_L2 (C : twC p s m args meth c cX7_hasPower 2 RX7 wsX7_hasPower (dC, dI) (twY cI cZ) A) (hE : twEi p l e rm_X7_hasPower s m args below meth c 0 0 Q (dC, dI) A 2 cX7_hasPower .boolean res.1 (twT cI cZ q res.2)) : ∀ (n : Nat) (v1 : Int32) (st : twS), f_X7_hasPower_L2 n v1 st = some res → twG p l e rm_X7_hasPower s m args below meth c 0 0 Q (dC, dI) A 2 (twT cI cZ q st) 2 [(0, .ref (q 0)), (1, .int v1)] [] := by
  intro n
  induction n with
  | zero =>
    intro v1 st hf
    have hf : none = some res := hf
    cases hf
  | succ n ih =>
    intro v1 st hf
    exact m_X7_hasPower_L2b C hE ih v1 st hf
set_option maxRecDepth 20000 in
theorem c_X7_hasPower (l : Launch) (dC : Nat → ClassId) (dI : Nat → Nat → Nat) (cI cZ : ClassId) (q : Nat → Nat) {st : twS} {res : Int32 × twS} (hf : f_X7_hasPower st = some res) : twMi l yX7_hasPower wsX7_hasPower rm_X7_hasPower (dC, dI) (twY cI cZ) [.ref (q 0)] (twT cI cZ q st) res.1 (twT cI cZ q res.2) := by
  refine tw_enti (cc := cX7_hasPower) (maxL := 2) (own := RX7) (by decide) rfl (Nat.le_of_ble_eq_true rfl) rfl ⟨rfl, rfl⟩ ?_
  intro p e s m below meth c A Q C hE
  generalize ([.ref (q 0)] : List Value).toArray = args at C hE ⊢
  refine tw_sub (lv' := [(0, .ref (q 0))]) [0] rfl ?_
  unfold f_X7_hasPower at hf
  refine tw_iconst (v := 0) C dX7_hasPower_0 (by decide) ?_
  refine tw_istore_n (lv' := [(1, .int 0), (0, .ref (q 0))]) C dX7_hasPower_1 rfl (by decide) rfl ?_
  refine tw_sub [1, 0] rfl ?_
  exact m_X7_hasPower_L2 C hE twN 0 st hf
end
/-! J6_compare_7cf53: public static int compare(int, int) -/
abbrev rm_J6_compare_7cf53 : Room := { frames := 0, cells := 0, slots := 0, locals := 0 }
def f_J6_compare_7cf53 (st : twS) (v0 : Int32) (v1 : Int32) : Option (Int32 × twS) :=
  (if v1 ≤ v0 then
    (if v0 = v1 then
    some (0, st)
  else
    some (1, st))
  else
    some ((-1), st))
section
variable {p : Program} {l : Launch} {e : Env} {s : State} {m : MethodId} {args : Array Value} {below : List Frame} {meth : Method} {c : Code} {Q : State → Prop} {dC : Nat → ClassId} {dI : Nat → Nat → Nat} {cI cZ : ClassId} {q : Nat → Nat} {A : Nat → Prop} {res : Int32 × twS}
set_option maxRecDepth 20000 in
theorem c_J6_compare_7cf53 (l : Launch) (dC : Nat → ClassId) (dI : Nat → Nat → Nat) (cI cZ : ClassId) (q : Nat → Nat) {st : twS} {v0 : Int32} {v1 : Int32} {res : Int32 × twS} (hf : f_J6_compare_7cf53 st v0 v1 = some res) : twMi l yJ6_compare_7cf53 wsJ6_compare_7cf53 rm_J6_compare_7cf53 (dC, dI) (twY cI cZ) [.int v0, .int v1] (twT cI cZ q st) res.1 (twT cI cZ q res.2) := by
  refine tw_enti (cc := cJ6_compare_7cf53) (maxL := 2) (own := RJ6) (by decide) rfl (Nat.le_of_ble_eq_true rfl) rfl ⟨rfl, rfl⟩ ?_
  intro p e s m below meth c A Q C hE
  generalize ([.int v0, .int v1] : List Value).toArray = args at C hE ⊢
  refine tw_sub (lv' := [(0, .int v0), (1, .int v1)]) [0, 1] rfl ?_
  unfold f_J6_compare_7cf53 at hf
  refine tw_iload_n C dJ6_compare_7cf53_0 0 rfl rfl ?_
  refine tw_iload_n C dJ6_compare_7cf53_1 1 rfl rfl ?_
  refine tw_icmp_ge (tgt := 9) C dJ6_compare_7cf53_2 (by decide) (fun c1 => ?_) (fun c1 => ?_)
  · have hf := tw_pos hf c1
    refine tw_iload_n C dJ6_compare_7cf53_9 0 rfl rfl ?_
    refine tw_iload_n C dJ6_compare_7cf53_10 1 rfl rfl ?_
    refine tw_icmp_ne (tgt := 18) C dJ6_compare_7cf53_11 (by decide) (fun c2 => ?_) (fun c2 => ?_)
    · have hf := tw_neg hf c2
      refine tw_iconst (v := 1) C dJ6_compare_7cf53_18 (by decide) ?_
      exact tw_endi (Wf := twT cI cZ q) hE hf dJ6_compare_7cf53_19 rfl
    · have hf := tw_pos hf c2
      refine tw_iconst (v := 0) C dJ6_compare_7cf53_14 (by decide) ?_
      refine tw_goto (tgt := 19) C dJ6_compare_7cf53_15 (by decide) ?_
      exact tw_endi (Wf := twT cI cZ q) hE hf dJ6_compare_7cf53_19 rfl
  · have hf := tw_neg hf c1
    refine tw_iconst (v := (-1)) C dJ6_compare_7cf53_5 (by decide) ?_
    refine tw_goto (tgt := 19) C dJ6_compare_7cf53_6 (by decide) ?_
    exact tw_endi (Wf := twT cI cZ q) hE hf dJ6_compare_7cf53_19 rfl
end
/-! X5_oneNearer: private static int oneNearer(int, int) -/
abbrev rm_X5_oneNearer : Room := { frames := 1, cells := 0, slots := 0, locals := 21 }
def f_X5_oneNearer (st : twS) (v0 : Int32) (v1 : Int32) : Option (Int32 × twS) :=
  ((f_J6_compare_7cf53 st v1 v0).bind fun y1 => some ((v0 + y1.1), y1.2))
section
variable {p : Program} {l : Launch} {e : Env} {s : State} {m : MethodId} {args : Array Value} {below : List Frame} {meth : Method} {c : Code} {Q : State → Prop} {dC : Nat → ClassId} {dI : Nat → Nat → Nat} {cI cZ : ClassId} {q : Nat → Nat} {A : Nat → Prop} {res : Int32 × twS}
set_option maxRecDepth 20000 in
theorem c_X5_oneNearer (l : Launch) (dC : Nat → ClassId) (dI : Nat → Nat → Nat) (cI cZ : ClassId) (q : Nat → Nat) {st : twS} {v0 : Int32} {v1 : Int32} {res : Int32 × twS} (hf : f_X5_oneNearer st v0 v1 = some res) : twMi l yX5_oneNearer wsX5_oneNearer rm_X5_oneNearer (dC, dI) (twY cI cZ) [.int v0, .int v1] (twT cI cZ q st) res.1 (twT cI cZ q res.2) := by
  refine tw_enti (cc := cX5_oneNearer) (maxL := 2) (own := RX5) (by decide) rfl (Nat.le_of_ble_eq_true rfl) rfl ⟨rfl, rfl⟩ ?_
  intro p e s m below meth c A Q C hE
  generalize ([.int v0, .int v1] : List Value).toArray = args at C hE ⊢
  refine tw_sub (lv' := [(0, .int v0), (1, .int v1)]) [0, 1] rfl ?_
  unfold f_X5_oneNearer at hf
  refine tw_iload_n C dX5_oneNearer_0 0 rfl rfl ?_
  refine tw_iload_n C dX5_oneNearer_1 1 rfl rfl ?_
  refine tw_iload_n C dX5_oneNearer_2 0 rfl rfl ?_
  obtain ⟨y1, hc1, hf⟩ := tw_bd hf
  refine tw_cSi (As := [.int v1, .int v0]) (stk := [.int v0]) C (c_J6_compare_7cf53 l dC dI cI cZ q hc1) (va_cwS 2 C.hts gX5_oneNearer_J6_compare_7cf53 rfl rfl rfl hd_J6_compare_7cf53 ⟨Nat.le_of_ble_eq_true rfl, Nat.le_of_ble_eq_true rfl⟩) rfl rfl (Nat.le_of_ble_eq_true rfl) dX5_oneNearer_3 ⟨Nat.zero_le _, Nat.zero_le _⟩ ?_
  refine tw_iadd C dX5_oneNearer_6 ?_
  exact tw_endi (Wf := twT cI cZ q) hE hf dX5_oneNearer_7 rfl
end
/-! X5_turn: void turn(boolean) -/
abbrev rm_X5_turn : Room := { frames := 2, cells := 0, slots := 0, locals := 42 }
def f_X5_turn_L41 (rec : Int32 → Int32 → twS → Option (twS)) (v1 : Int32) (v2 : Int32) (k0 : Int32) (k1 : Int32) (k2 : Int32) (st : twS) : Option (twS) :=
  ((f_X5_oneNearer st k1 k0).bind fun y41001 => (if twb k2 3 = true then rec v1 (v2 + 1) (twA y41001.2 11 k2 y41001.1) else none))
def f_X5_turn_L2b (rec : Int32 → Int32 → twS → Option (twS)) (v1 : Int32) (v2 : Int32) (st : twS) : Option (twS) :=
  (if 3 ≤ v2 then
    some st
  else
    (if twb v2 3 = true then (if (st.2.1 12 v2.toNatClampNeg) = 0 then
    (if twb v2 3 = true then (if v1 = 0 then
    f_X5_turn_L41 rec v1 v2 0 (st.2.1 11 v2.toNatClampNeg) v2 st
  else
    (if twb v2 3 = true then f_X5_turn_L41 rec v1 v2 (st.2.1 10 v2.toNatClampNeg) (st.2.1 11 v2.toNatClampNeg) v2 st else none)) else none)
  else
    rec v1 (v2 + 1) st) else none))
def f_X5_turn_L2 : Nat → Int32 → Int32 → twS → Option (twS)
  | 0 => fun _ _ _ => none
  | n + 1 => fun v1 v2 st => f_X5_turn_L2b (f_X5_turn_L2 n) v1 v2 st
def f_X5_turn (st : twS) (v1 : Int32) : Option (twS) :=
  f_X5_turn_L2 twN v1 0 st
section
variable {p : Program} {l : Launch} {e : Env} {s : State} {m : MethodId} {args : Array Value} {below : List Frame} {meth : Method} {c : Code} {Q : State → Prop} {dC : Nat → ClassId} {dI : Nat → Nat → Nat} {cI cZ : ClassId} {q : Nat → Nat} {A : Nat → Prop} {res : twS}
set_option maxRecDepth 20000 in
theorem m_X5_turn_L41 (C : twC p s m args meth c cX5_turn 3 RX5 wsX5_turn (dC, dI) (twY cI cZ) A) (hE : twEv p l e rm_X5_turn s m args below meth c 0 0 Q (dC, dI) A 3 cX5_turn (twT cI cZ q res)) {rec : Int32 → Int32 → twS → Option (twS)} (hrec : ∀ (v1 : Int32) (v2 : Int32) (st : twS), rec v1 v2 st = some res → twG p l e rm_X5_turn s m args below meth c 0 0 Q (dC, dI) A 3 (twT cI cZ q st) 2 [(0, .ref (q 1)), (1, .int v1), (2, .int v2)] []) : ∀ (v1 : Int32) (v2 : Int32) (k0 : Int32) (k1 : Int32) (k2 : Int32) (st : twS), f_X5_turn_L41 rec v1 v2 k0 k1 k2 st = some res → twG p l e rm_X5_turn s m args below meth c 0 0 Q (dC, dI) A 3 (twT cI cZ q st) 41 [(0, .ref (q 1)), (1, .int v1), (2, .int v2)] [.int k0, .int k1, .int k2, .ref (q 11)] := by
  intro v1 v2 k0 k1 k2 st hf
  unfold f_X5_turn_L41 at hf
  obtain ⟨y41001, hc41001, hf⟩ := tw_bd hf
  refine tw_cSi (As := [.int k1, .int k0]) (stk := [.int k2, .ref (q 11)]) C (c_X5_oneNearer l dC dI cI cZ q hc41001) (va_cwS 2 C.hts gX5_turn_X5_oneNearer rfl rfl rfl hd_X5_oneNearer ⟨Nat.le_of_ble_eq_true rfl, Nat.le_of_ble_eq_true rfl⟩) rfl rfl (Nat.le_of_ble_eq_true rfl) dX5_turn_41 ⟨Nat.zero_le _, Nat.zero_le _⟩ ?_
  obtain ⟨hb41002, hf⟩ := tw_ck hf
  refine tw_iast C 11 0 hb41002 rfl rfl (tw_T_a11 cI cZ q y41001.2 k2 y41001.1) dX5_turn_44 ?_
  refine tw_iinc (v := (v2 + 1)) (lv' := [(2, .int (v2 + 1)), (0, .ref (q 1)), (1, .int v1)]) C dX5_turn_45 (k := 2) rfl rfl (by decide) rfl ?_
  refine tw_goto (tgt := 2) C dX5_turn_48 (by decide) ?_
  refine tw_sub [1, 2, 0] rfl ?_
  exact hrec v1 (v2 + 1) (twA y41001.2 11 k2 y41001.1) hf
set_option maxRecDepth 20000 in
theorem m_X5_turn_L2b (C : twC p s m args meth c cX5_turn 3 RX5 wsX5_turn (dC, dI) (twY cI cZ) A) (hE : twEv p l e rm_X5_turn s m args below meth c 0 0 Q (dC, dI) A 3 cX5_turn (twT cI cZ q res)) {rec : Int32 → Int32 → twS → Option (twS)} (hrec : ∀ (v1 : Int32) (v2 : Int32) (st : twS), rec v1 v2 st = some res → twG p l e rm_X5_turn s m args below meth c 0 0 Q (dC, dI) A 3 (twT cI cZ q st) 2 [(0, .ref (q 1)), (1, .int v1), (2, .int v2)] []) : ∀ (v1 : Int32) (v2 : Int32) (st : twS), f_X5_turn_L2b rec v1 v2 st = some res → twG p l e rm_X5_turn s m args below meth c 0 0 Q (dC, dI) A 3 (twT cI cZ q st) 2 [(0, .ref (q 1)), (1, .int v1), (2, .int v2)] [] := by
  intro v1 v2 st hf
  unfold f_X5_turn_L2b at hf
  refine tw_iload_n C dX5_turn_2 2 rfl rfl ?_
  refine tw_iconst (v := 3) C dX5_turn_3 (by decide) ?_
  refine tw_icmp_ge (tgt := 51) C dX5_turn_4 (by decide) (fun c2001 => ?_) (fun c2001 => ?_)
  · have hf := tw_pos hf c2001
    exact tw_endv (Wf := twT cI cZ q) hE hf dX5_turn_51
  · have hf := tw_neg hf c2001
    refine tw_aload_n C dX5_turn_7 0 rfl rfl ?_
    refine tw_get (K := RX5) (T := TX5) (N := 3) (v := .ref (q 12)) C 1 2 (fun _ h => List.mem_cons_of_mem _ (List.mem_append_right _ (h))) rfl rfl (by decide) (List.mem_cons_of_mem _ (List.mem_append_left _ (List.mem_of_getElem? (i := 0) rfl))) rfl rfl dX5_turn_8 ?_
    refine tw_iload_n C dX5_turn_11 2 rfl rfl ?_
    obtain ⟨hb2002, hf⟩ := tw_ck hf
    refine tw_zald C 12 1 hb2002 rfl rfl dX5_turn_12 ?_
    refine tw_if_ne (tgt := 45) C dX5_turn_13 (by decide) (fun c2003 => ?_) (fun c2003 => ?_)
    · have hf := tw_neg hf c2003
      refine tw_iinc (v := (v2 + 1)) (lv' := [(2, .int (v2 + 1)), (0, .ref (q 1)), (1, .int v1)]) C dX5_turn_45 (k := 2) rfl rfl (by decide) rfl ?_
      refine tw_goto (tgt := 2) C dX5_turn_48 (by decide) ?_
      refine tw_sub [1, 2, 0] rfl ?_
      exact hrec v1 (v2 + 1) st hf
    · have hf := tw_pos hf c2003
      refine tw_aload_n C dX5_turn_16 0 rfl rfl ?_
      refine tw_get (K := RX5) (T := TX5) (N := 3) (v := .ref (q 11)) C 1 1 (fun _ h => List.mem_cons_of_mem _ (List.mem_append_right _ (h))) rfl rfl (by decide) (List.mem_cons_of_mem _ (List.mem_append_left _ (List.mem_of_getElem? (i := 1) rfl))) rfl rfl dX5_turn_17 ?_
      refine tw_iload_n C dX5_turn_20 2 rfl rfl ?_
      refine tw_aload_n C dX5_turn_21 0 rfl rfl ?_
      refine tw_get (K := RX5) (T := TX5) (N := 3) (v := .ref (q 11)) C 1 1 (fun _ h => List.mem_cons_of_mem _ (List.mem_append_right _ (h))) rfl rfl (by decide) (List.mem_cons_of_mem _ (List.mem_append_left _ (List.mem_of_getElem? (i := 1) rfl))) rfl rfl dX5_turn_22 ?_
      refine tw_iload_n C dX5_turn_25 2 rfl rfl ?_
      obtain ⟨hb2004, hf⟩ := tw_ck hf
      refine tw_iald C 11 0 hb2004 rfl rfl dX5_turn_26 ?_
      refine tw_iload_n C dX5_turn_27 1 rfl rfl ?_
      refine tw_if_eq (tgt := 40) C dX5_turn_28 (by decide) (fun c2005 => ?_) (fun c2005 => ?_)
      · have hf := tw_pos hf c2005
        refine tw_iconst (v := 0) C dX5_turn_40 (by decide) ?_
        exact m_X5_turn_L41 C hE hrec v1 v2 0 (st.2.1 11 v2.toNatClampNeg) v2 st hf
      · have hf := tw_neg hf c2005
        refine tw_aload_n C dX5_turn_31 0 rfl rfl ?_
        refine tw_get (K := RX5) (T := TX5) (N := 3) (v := .ref (q 10)) C 1 0 (fun _ h => List.mem_cons_of_mem _ (List.mem_append_right _ (h))) rfl rfl (by decide) (List.mem_cons_of_mem _ (List.mem_append_left _ (List.mem_of_getElem? (i := 2) rfl))) rfl rfl dX5_turn_32 ?_
        refine tw_iload_n C dX5_turn_35 2 rfl rfl ?_
        obtain ⟨hb2006, hf⟩ := tw_ck hf
        refine tw_iald C 10 0 hb2006 rfl rfl dX5_turn_36 ?_
        refine tw_goto (tgt := 41) C dX5_turn_37 (by decide) ?_
        exact m_X5_turn_L41 C hE hrec v1 v2 (st.2.1 10 v2.toNatClampNeg) (st.2.1 11 v2.toNatClampNeg) v2 st hf
theorem m_X5_turn_L2 (C : twC p s m args meth c cX5_turn 3 RX5 wsX5_turn (dC, dI) (twY cI cZ) A) (hE : twEv p l e rm_X5_turn s m args below meth c 0 0 Q (dC, dI) A 3 cX5_turn (twT cI cZ q res)) : ∀ (n : Nat) (v1 : Int32) (v2 : Int32) (st : twS), f_X5_turn_L2 n v1 v2 st = some res → twG p l e rm_X5_turn s m args below meth c 0 0 Q (dC, dI) A 3 (twT cI cZ q st) 2 [(0, .ref (q 1)), (1, .int v1), (2, .int v2)] [] := by
  intro n
  induction n with
  | zero =>
    intro v1 v2 st hf
    have hf : none = some res := hf
    cases hf
  | succ n ih =>
    intro v1 v2 st hf
    exact m_X5_turn_L2b C hE ih v1 v2 st hf
set_option maxRecDepth 20000 in
theorem c_X5_turn (l : Launch) (dC : Nat → ClassId) (dI : Nat → Nat → Nat) (cI cZ : ClassId) (q : Nat → Nat) {st : twS} {v1 : Int32} {res : twS} (hf : f_X5_turn st v1 = some res) : twMv l yX5_turn wsX5_turn rm_X5_turn (dC, dI) (twY cI cZ) [.ref (q 1), .int v1] (twT cI cZ q st) (twT cI cZ q res) := by
  refine tw_entv (cc := cX5_turn) (maxL := 3) (own := RX5) (by decide) rfl (Nat.le_of_ble_eq_true rfl) rfl ⟨rfl, rfl⟩ ?_
  intro p e s m below meth c A Q C hE
  generalize ([.ref (q 1), .int v1] : List Value).toArray = args at C hE ⊢
  refine tw_sub (lv' := [(0, .ref (q 1)), (1, .int v1)]) [0, 1] rfl ?_
  unfold f_X5_turn at hf
  refine tw_iconst (v := 0) C dX5_turn_0 (by decide) ?_
  refine tw_istore_n (lv' := [(2, .int 0), (0, .ref (q 1)), (1, .int v1)]) C dX5_turn_1 rfl (by decide) rfl ?_
  refine tw_sub [1, 2, 0] rfl ?_
  exact m_X5_turn_L2 C hE twN v1 0 st hf
end
/-! X5_push: int push() -/
abbrev rm_X5_push : Room := { frames := 0, cells := 0, slots := 0, locals := 0 }
def f_X5_push_L4b (rec : Int32 → Int32 → twS → Option (Int32 × twS)) (v1 : Int32) (v2 : Int32) (st : twS) : Option (Int32 × twS) :=
  (if 3 ≤ v2 then
    some (v1, st)
  else
    (if twb v2 3 = true then rec (v1 + (st.2.1 11 v2.toNatClampNeg)) (v2 + 1) st else none))
def f_X5_push_L4 : Nat → Int32 → Int32 → twS → Option (Int32 × twS)
  | 0 => fun _ _ _ => none
  | n + 1 => fun v1 v2 st => f_X5_push_L4b (f_X5_push_L4 n) v1 v2 st
def f_X5_push (st : twS) : Option (Int32 × twS) :=
  f_X5_push_L4 twN 0 0 st
section
variable {p : Program} {l : Launch} {e : Env} {s : State} {m : MethodId} {args : Array Value} {below : List Frame} {meth : Method} {c : Code} {Q : State → Prop} {dC : Nat → ClassId} {dI : Nat → Nat → Nat} {cI cZ : ClassId} {q : Nat → Nat} {A : Nat → Prop} {res : Int32 × twS}
set_option maxRecDepth 20000 in
theorem m_X5_push_L4b (C : twC p s m args meth c cX5_push 3 RX5 wsX5_push (dC, dI) (twY cI cZ) A) (hE : twEi p l e rm_X5_push s m args below meth c 0 0 Q (dC, dI) A 3 cX5_push .int res.1 (twT cI cZ q res.2)) {rec : Int32 → Int32 → twS → Option (Int32 × twS)} (hrec : ∀ (v1 : Int32) (v2 : Int32) (st : twS), rec v1 v2 st = some res → twG p l e rm_X5_push s m args below meth c 0 0 Q (dC, dI) A 3 (twT cI cZ q st) 4 [(0, .ref (q 1)), (1, .int v1), (2, .int v2)] []) : ∀ (v1 : Int32) (v2 : Int32) (st : twS), f_X5_push_L4b rec v1 v2 st = some res → twG p l e rm_X5_push s m args below meth c 0 0 Q (dC, dI) A 3 (twT cI cZ q st) 4 [(0, .ref (q 1)), (1, .int v1), (2, .int v2)] [] := by
  intro v1 v2 st hf
  unfold f_X5_push_L4b at hf
  refine tw_iload_n C dX5_push_4 2 rfl rfl ?_
  refine tw_iconst (v := 3) C dX5_push_5 (by decide) ?_
  refine tw_icmp_ge (tgt := 24) C dX5_push_6 (by decide) (fun c4001 => ?_) (fun c4001 => ?_)
  · have hf := tw_pos hf c4001
    refine tw_iload_n C dX5_push_24 1 rfl rfl ?_
    exact tw_endi (Wf := twT cI cZ q) hE hf dX5_push_25 rfl
  · have hf := tw_neg hf c4001
    refine tw_iload_n C dX5_push_9 1 rfl rfl ?_
    refine tw_aload_n C dX5_push_10 0 rfl rfl ?_
    refine tw_get (K := RX5) (T := TX5) (N := 3) (v := .ref (q 11)) C 1 1 (fun _ h => List.mem_cons_of_mem _ (List.mem_append_right _ (h))) rfl rfl (by decide) (List.mem_cons_of_mem _ (List.mem_append_left _ (List.mem_of_getElem? (i := 0) rfl))) rfl rfl dX5_push_11 ?_
    refine tw_iload_n C dX5_push_14 2 rfl rfl ?_
    obtain ⟨hb4002, hf⟩ := tw_ck hf
    refine tw_iald C 11 0 hb4002 rfl rfl dX5_push_15 ?_
    refine tw_iadd C dX5_push_16 ?_
    refine tw_istore_n (lv' := [(1, .int (v1 + (st.2.1 11 v2.toNatClampNeg))), (0, .ref (q 1)), (2, .int v2)]) C dX5_push_17 rfl (by decide) rfl ?_
    refine tw_iinc (v := (v2 + 1)) (lv' := [(2, .int (v2 + 1)), (1, .int (v1 + (st.2.1 11 v2.toNatClampNeg))), (0, .ref (q 1))]) C dX5_push_18 (k := 2) rfl rfl (by decide) rfl ?_
    refine tw_goto (tgt := 4) C dX5_push_21 (by decide) ?_
    refine tw_sub [2, 1, 0] rfl ?_
    exact hrec (v1 + (st.2.1 11 v2.toNatClampNeg)) (v2 + 1) st hf
theorem m_X5_push_L4 (C : twC p s m args meth c cX5_push 3 RX5 wsX5_push (dC, dI) (twY cI cZ) A) (hE : twEi p l e rm_X5_push s m args below meth c 0 0 Q (dC, dI) A 3 cX5_push .int res.1 (twT cI cZ q res.2)) : ∀ (n : Nat) (v1 : Int32) (v2 : Int32) (st : twS), f_X5_push_L4 n v1 v2 st = some res → twG p l e rm_X5_push s m args below meth c 0 0 Q (dC, dI) A 3 (twT cI cZ q st) 4 [(0, .ref (q 1)), (1, .int v1), (2, .int v2)] [] := by
  intro n
  induction n with
  | zero =>
    intro v1 v2 st hf
    have hf : none = some res := hf
    cases hf
  | succ n ih =>
    intro v1 v2 st hf
    exact m_X5_push_L4b C hE ih v1 v2 st hf
set_option maxRecDepth 20000 in
theorem c_X5_push (l : Launch) (dC : Nat → ClassId) (dI : Nat → Nat → Nat) (cI cZ : ClassId) (q : Nat → Nat) {st : twS} {res : Int32 × twS} (hf : f_X5_push st = some res) : twMi l yX5_push wsX5_push rm_X5_push (dC, dI) (twY cI cZ) [.ref (q 1)] (twT cI cZ q st) res.1 (twT cI cZ q res.2) := by
  refine tw_enti (cc := cX5_push) (maxL := 3) (own := RX5) (by decide) rfl (Nat.le_of_ble_eq_true rfl) rfl ⟨rfl, rfl⟩ ?_
  intro p e s m below meth c A Q C hE
  generalize ([.ref (q 1)] : List Value).toArray = args at C hE ⊢
  refine tw_sub (lv' := [(0, .ref (q 1))]) [0] rfl ?_
  unfold f_X5_push at hf
  refine tw_iconst (v := 0) C dX5_push_0 (by decide) ?_
  refine tw_istore_n (lv' := [(1, .int 0), (0, .ref (q 1))]) C dX5_push_1 rfl (by decide) rfl ?_
  refine tw_iconst (v := 0) C dX5_push_2 (by decide) ?_
  refine tw_istore_n (lv' := [(2, .int 0), (1, .int 0), (0, .ref (q 1))]) C dX5_push_3 rfl (by decide) rfl ?_
  refine tw_sub [2, 1, 0] rfl ?_
  exact m_X5_push_L4 C hE twN 0 0 st hf
end
/-! X6_held: private static double held(double) -/
abbrev rm_X6_held : Room := { frames := 0, cells := 0, slots := 0, locals := 0 }
def f_X6_held (st : twS) (v0 : UInt64) : Option (UInt64 × twS) :=
  (if (Op.cmpValue (FP.dcmp v0 4636033603912859648) CmpOp.l) ≤ 0 then
    (if 0 ≤ (Op.cmpValue (FP.dcmp v0 13859405640767635456) CmpOp.g) then
    some (v0, st)
  else
    some (13859405640767635456, st))
  else
    some (4636033603912859648, st))
section
variable {p : Program} {l : Launch} {e : Env} {s : State} {m : MethodId} {args : Array Value} {below : List Frame} {meth : Method} {c : Code} {Q : State → Prop} {dC : Nat → ClassId} {dI : Nat → Nat → Nat} {cI cZ : ClassId} {q : Nat → Nat} {A : Nat → Prop} {res : UInt64 × twS}
set_option maxRecDepth 20000 in
theorem c_X6_held (l : Launch) (dC : Nat → ClassId) (dI : Nat → Nat → Nat) (cI cZ : ClassId) (q : Nat → Nat) {st : twS} {v0 : UInt64} {res : UInt64 × twS} (hf : f_X6_held st v0 = some res) : twMd l yX6_held wsX6_held rm_X6_held (dC, dI) (twY cI cZ) [.double v0] (twT cI cZ q st) res.1 (twT cI cZ q res.2) := by
  refine tw_entd (cc := cX6_held) (maxL := 2) (own := RX6) (by decide) rfl (Nat.le_of_ble_eq_true rfl) rfl ⟨rfl, rfl⟩ ?_
  intro p e s m below meth c A Q C hE
  generalize ([.double v0] : List Value).toArray = args at C hE ⊢
  refine tw_sub (lv' := [(0, .double v0)]) [0] rfl ?_
  unfold f_X6_held at hf
  refine tw_dload_n C dX6_held_0 0 rfl rfl ?_
  refine tw_ldc2d C (List.mem_cons_of_mem _ (List.mem_of_getElem? (i := 0) rfl)) dX6_held_1 ?_
  refine tw_dcmp C dX6_held_4 ?_
  refine tw_if_le (tgt := 12) C dX6_held_5 (by decide) (fun c1 => ?_) (fun c1 => ?_)
  · have hf := tw_pos hf c1
    refine tw_dload_n C dX6_held_12 0 rfl rfl ?_
    refine tw_ldc2d C (List.mem_cons_of_mem _ (List.mem_of_getElem? (i := 1) rfl)) dX6_held_13 ?_
    refine tw_dcmp C dX6_held_16 ?_
    refine tw_if_ge (tgt := 26) C dX6_held_17 (by decide) (fun c2 => ?_) (fun c2 => ?_)
    · have hf := tw_pos hf c2
      refine tw_dload_n C dX6_held_26 0 rfl rfl ?_
      exact tw_endd (Wf := twT cI cZ q) hE hf dX6_held_27
    · have hf := tw_neg hf c2
      refine tw_ldc2d C (List.mem_cons_of_mem _ (List.mem_of_getElem? (i := 1) rfl)) dX6_held_20 ?_
      refine tw_goto (tgt := 27) C dX6_held_23 (by decide) ?_
      exact tw_endd (Wf := twT cI cZ q) hE hf dX6_held_27
  · have hf := tw_neg hf c1
    refine tw_ldc2d C (List.mem_cons_of_mem _ (List.mem_of_getElem? (i := 0) rfl)) dX6_held_8 ?_
    exact tw_endd (Wf := twT cI cZ q) hE hf dX6_held_11
end
/-! X6_become: void become(int) -/
abbrev rm_X6_become : Room := { frames := 1, cells := 0, slots := 0, locals := 21 }
def f_X6_become_L26 (k0 : UInt64) (k1 : UInt64) (st : twS) : Option (twS) :=
  (if twn (FP.dadd k1 k0) = true then ((f_X6_held st (FP.dadd k1 k0)).bind fun y26002 => (if twn (FP.dsub y26002.1 y26002.2.2.2.2) = true then (if twn (FP.ddiv (FP.dsub y26002.1 y26002.2.2.2.2) 4616189618054758400) = true then (if twn (FP.dadd st.2.2.2 (FP.ddiv (FP.dsub y26002.1 y26002.2.2.2.2) 4616189618054758400)) = true then some (twD y26002.2 (FP.dadd st.2.2.2 (FP.ddiv (FP.dsub y26002.1 y26002.2.2.2.2) 4616189618054758400))) else none) else none) else none)) else none)
def f_X6_become (st : twS) (v1 : Int32) : Option (twS) :=
  (if twn (FP.dmul 4624633867356078080 (FP.i2d v1)) = true then (if twn (FP.dadd (FP.dmul 4624633867356078080 (FP.i2d v1)) (FP.i2d (st.1 5))) = true then (if (st.1 6) = 0 then
    f_X6_become_L26 4617315517961601024 (FP.dadd (FP.dmul 4624633867356078080 (FP.i2d v1)) (FP.i2d (st.1 5))) st
  else
    f_X6_become_L26 FP.dconst0 (FP.dadd (FP.dmul 4624633867356078080 (FP.i2d v1)) (FP.i2d (st.1 5))) st) else none) else none)
section
variable {p : Program} {l : Launch} {e : Env} {s : State} {m : MethodId} {args : Array Value} {below : List Frame} {meth : Method} {c : Code} {Q : State → Prop} {dC : Nat → ClassId} {dI : Nat → Nat → Nat} {cI cZ : ClassId} {q : Nat → Nat} {A : Nat → Prop} {res : twS}
set_option maxRecDepth 20000 in
theorem m_X6_become_L26 (C : twC p s m args meth c cX6_become 4 RX6 wsX6_become (dC, dI) (twY cI cZ) A) (hE : twEv p l e rm_X6_become s m args below meth c 0 0 Q (dC, dI) A 4 cX6_become (twT cI cZ q res)) : ∀ (k0 : UInt64) (k1 : UInt64) (st : twS), f_X6_become_L26 k0 k1 st = some res → twG p l e rm_X6_become s m args below meth c 0 0 Q (dC, dI) A 4 (twT cI cZ q st) 26 [(0, .ref (q 2))] [.double k0, .double k1] := by
  intro k0 k1 st hf
  unfold f_X6_become_L26 at hf
  obtain ⟨hn26001, hf⟩ := tw_ck hf
  refine tw_dadd C dX6_become_26 hn26001 ?_
  refine tw_dstore_n (lv' := [(2, .double (FP.dadd k1 k0)), (0, .ref (q 2))]) C dX6_become_27 rfl (by decide) rfl ?_
  refine tw_aload_n C dX6_become_28 1 rfl rfl ?_
  refine tw_aload_n C dX6_become_29 1 rfl rfl ?_
  refine tw_get (K := RX6) (T := TX6) (N := 3) (v := .double st.2.2.2) C 2 0 (fun _ h => List.mem_cons_of_mem _ (List.mem_append_right _ (h))) rfl rfl (by decide) (List.mem_cons_of_mem _ (List.mem_append_left _ (List.mem_of_getElem? (i := 4) rfl))) rfl rfl dX6_become_30 ?_
  refine tw_dload_n C dX6_become_33 0 rfl rfl ?_
  obtain ⟨y26002, hc26002, hf⟩ := tw_bd hf
  refine tw_cSd (As := [.double (FP.dadd k1 k0)]) (stk := [.double st.2.2.2, .ref (q 2)]) C (c_X6_held l dC dI cI cZ q hc26002) (va_cwS 1 C.hts gX6_become_X6_held rfl rfl rfl hd_X6_held ⟨Nat.le_of_ble_eq_true rfl, Nat.le_of_ble_eq_true rfl⟩) rfl rfl (Nat.le_of_ble_eq_true rfl) dX6_become_34 ⟨Nat.zero_le _, Nat.zero_le _⟩ ?_
  refine tw_aload_n C dX6_become_37 1 rfl rfl ?_
  refine tw_get (K := RX6) (T := TX6) (N := 3) (v := .double y26002.2.2.2.2) C 2 0 (fun _ h => List.mem_cons_of_mem _ (List.mem_append_right _ (h))) rfl rfl (by decide) (List.mem_cons_of_mem _ (List.mem_append_left _ (List.mem_of_getElem? (i := 4) rfl))) rfl rfl dX6_become_38 ?_
  obtain ⟨hn26003, hf⟩ := tw_ck hf
  refine tw_dsub C dX6_become_41 hn26003 ?_
  refine tw_ldc2d C (List.mem_cons_of_mem _ (List.mem_append_left _ (List.mem_of_getElem? (i := 5) rfl))) dX6_become_42 ?_
  obtain ⟨hn26004, hf⟩ := tw_ck hf
  refine tw_ddiv C dX6_become_45 hn26004 ?_
  obtain ⟨hn26005, hf⟩ := tw_ck hf
  refine tw_dadd C dX6_become_46 hn26005 ?_
  refine tw_put (K := RX6) (T := TX6) (N := 3) C 2 0 tyX6 tyX6_ok nmX6 (fun _ h => List.mem_cons_of_mem _ (List.mem_append_right _ (h))) rfl rfl (by decide) (List.mem_cons_of_mem _ (List.mem_append_left _ (List.mem_of_getElem? (i := 4) rfl))) rfl rfl rfl rfl (Nat.le_of_ble_eq_true rfl) (tw_T_sd cI cZ q y26002.2 (FP.dadd st.2.2.2 (FP.ddiv (FP.dsub y26002.1 y26002.2.2.2.2) 4616189618054758400))) dX6_become_47 ?_
  exact tw_endv (Wf := twT cI cZ q) hE hf dX6_become_50
set_option maxRecDepth 20000 in
theorem c_X6_become (l : Launch) (dC : Nat → ClassId) (dI : Nat → Nat → Nat) (cI cZ : ClassId) (q : Nat → Nat) {st : twS} {v1 : Int32} {res : twS} (hf : f_X6_become st v1 = some res) : twMv l yX6_become wsX6_become rm_X6_become (dC, dI) (twY cI cZ) [.ref (q 2), .int v1] (twT cI cZ q st) (twT cI cZ q res) := by
  refine tw_entv (cc := cX6_become) (maxL := 4) (own := RX6) (by decide) rfl (Nat.le_of_ble_eq_true rfl) rfl ⟨rfl, rfl⟩ ?_
  intro p e s m below meth c A Q C hE
  generalize ([.ref (q 2), .int v1] : List Value).toArray = args at C hE ⊢
  refine tw_sub (lv' := [(0, .ref (q 2)), (1, .int v1)]) [0, 1] rfl ?_
  unfold f_X6_become at hf
  refine tw_ldc2d C (List.mem_cons_of_mem _ (List.mem_append_left _ (List.mem_of_getElem? (i := 0) rfl))) dX6_become_0 ?_
  refine tw_iload_n C dX6_become_3 1 rfl rfl ?_
  refine tw_i2d C dX6_become_4 ?_
  obtain ⟨hn1, hf⟩ := tw_ck hf
  refine tw_dmul C dX6_become_5 hn1 ?_
  refine tw_aload_n C dX6_become_6 0 rfl rfl ?_
  refine tw_get (K := RX6) (T := TX6) (N := 3) (v := .int (st.1 5)) C 2 1 (fun _ h => List.mem_cons_of_mem _ (List.mem_append_right _ (h))) rfl rfl (by decide) (List.mem_cons_of_mem _ (List.mem_append_left _ (List.mem_of_getElem? (i := 1) rfl))) rfl rfl dX6_become_7 ?_
  refine tw_i2d C dX6_become_10 ?_
  obtain ⟨hn2, hf⟩ := tw_ck hf
  refine tw_dadd C dX6_become_11 hn2 ?_
  refine tw_aload_n C dX6_become_12 0 rfl rfl ?_
  refine tw_get (K := RX6) (T := TX6) (N := 3) (v := .int (st.1 6)) C 2 2 (fun _ h => List.mem_cons_of_mem _ (List.mem_append_right _ (h))) rfl rfl (by decide) (List.mem_cons_of_mem _ (List.mem_append_left _ (List.mem_of_getElem? (i := 2) rfl))) rfl rfl dX6_become_13 ?_
  refine tw_if_eq (tgt := 23) C dX6_become_16 (by decide) (fun c3 => ?_) (fun c3 => ?_)
  · have hf := tw_pos hf c3
    refine tw_ldc2d C (List.mem_cons_of_mem _ (List.mem_append_left _ (List.mem_of_getElem? (i := 3) rfl))) dX6_become_23 ?_
    refine tw_sub [0] rfl ?_
    exact m_X6_become_L26 C hE 4617315517961601024 (FP.dadd (FP.dmul 4624633867356078080 (FP.i2d v1)) (FP.i2d (st.1 5))) st hf
  · have hf := tw_neg hf c3
    refine tw_dconst0 C dX6_become_19 ?_
    refine tw_goto (tgt := 26) C dX6_become_20 (by decide) ?_
    refine tw_sub [0] rfl ?_
    exact m_X6_become_L26 C hE FP.dconst0 (FP.dadd (FP.dmul 4624633867356078080 (FP.i2d v1)) (FP.i2d (st.1 5))) st hf
end
/-! X1_isBurning: boolean isBurning() -/
abbrev rm_X1_isBurning : Room := { frames := 0, cells := 0, slots := 0, locals := 0 }
def f_X1_isBurning (st : twS) : Option (Int32 × twS) :=
  (if (st.1 8) = (-1) then
    some (0, st)
  else
    some (1, st))
section
variable {p : Program} {l : Launch} {e : Env} {s : State} {m : MethodId} {args : Array Value} {below : List Frame} {meth : Method} {c : Code} {Q : State → Prop} {dC : Nat → ClassId} {dI : Nat → Nat → Nat} {cI cZ : ClassId} {q : Nat → Nat} {A : Nat → Prop} {res : Int32 × twS}
set_option maxRecDepth 20000 in
theorem c_X1_isBurning (l : Launch) (dC : Nat → ClassId) (dI : Nat → Nat → Nat) (cI cZ : ClassId) (q : Nat → Nat) {st : twS} {res : Int32 × twS} (hf : f_X1_isBurning st = some res) : twMi l yX1_isBurning wsX1_isBurning rm_X1_isBurning (dC, dI) (twY cI cZ) [.ref (q 4)] (twT cI cZ q st) res.1 (twT cI cZ q res.2) := by
  refine tw_enti (cc := cX1_isBurning) (maxL := 1) (own := RX1) (by decide) rfl (Nat.le_of_ble_eq_true rfl) rfl ⟨rfl, rfl⟩ ?_
  intro p e s m below meth c A Q C hE
  generalize ([.ref (q 4)] : List Value).toArray = args at C hE ⊢
  refine tw_sub (lv' := [(0, .ref (q 4))]) [0] rfl ?_
  unfold f_X1_isBurning at hf
  refine tw_aload_n C dX1_isBurning_0 0 rfl rfl ?_
  refine tw_get (K := RX1) (T := TX1) (N := 6) (v := .int (st.1 8)) C 4 0 (fun _ h => List.mem_cons_of_mem _ (List.mem_append_right _ (h))) rfl rfl (by decide) (List.mem_cons_of_mem _ (List.mem_append_left _ (List.mem_of_getElem? (i := 0) rfl))) rfl rfl dX1_isBurning_1 ?_
  refine tw_iconst (v := (-1)) C dX1_isBurning_4 (by decide) ?_
  refine tw_icmp_eq (tgt := 12) C dX1_isBurning_5 (by decide) (fun c1 => ?_) (fun c1 => ?_)
  · have hf := tw_pos hf c1
    refine tw_iconst (v := 0) C dX1_isBurning_12 (by decide) ?_
    exact tw_endi (Wf := twT cI cZ q) hE hf dX1_isBurning_13 rfl
  · have hf := tw_neg hf c1
    refine tw_iconst (v := 1) C dX1_isBurning_8 (by decide) ?_
    refine tw_goto (tgt := 13) C dX1_isBurning_9 (by decide) ?_
    exact tw_endi (Wf := twT cI cZ q) hE hf dX1_isBurning_13 rfl
end
/-! X1_place: int place() -/
abbrev rm_X1_place : Room := { frames := 0, cells := 0, slots := 0, locals := 0 }
def f_X1_place (st : twS) : Option (Int32 × twS) :=
  some ((st.1 8), st)
section
variable {p : Program} {l : Launch} {e : Env} {s : State} {m : MethodId} {args : Array Value} {below : List Frame} {meth : Method} {c : Code} {Q : State → Prop} {dC : Nat → ClassId} {dI : Nat → Nat → Nat} {cI cZ : ClassId} {q : Nat → Nat} {A : Nat → Prop} {res : Int32 × twS}
set_option maxRecDepth 20000 in
theorem c_X1_place (l : Launch) (dC : Nat → ClassId) (dI : Nat → Nat → Nat) (cI cZ : ClassId) (q : Nat → Nat) {st : twS} {res : Int32 × twS} (hf : f_X1_place st = some res) : twMi l yX1_place wsX1_place rm_X1_place (dC, dI) (twY cI cZ) [.ref (q 4)] (twT cI cZ q st) res.1 (twT cI cZ q res.2) := by
  refine tw_enti (cc := cX1_place) (maxL := 1) (own := RX1) (by decide) rfl (Nat.le_of_ble_eq_true rfl) rfl ⟨rfl, rfl⟩ ?_
  intro p e s m below meth c A Q C hE
  generalize ([.ref (q 4)] : List Value).toArray = args at C hE ⊢
  refine tw_sub (lv' := [(0, .ref (q 4))]) [0] rfl ?_
  unfold f_X1_place at hf
  refine tw_aload_n C dX1_place_0 0 rfl rfl ?_
  refine tw_get (K := RX1) (T := TX1) (N := 6) (v := .int (st.1 8)) C 4 0 (fun _ h => List.mem_cons_of_mem _ (List.mem_append_right _ (h))) rfl rfl (by decide) (List.mem_cons_of_mem _ (List.mem_append_left _ (List.mem_of_getElem? (i := 0) rfl))) rfl rfl dX1_place_1 ?_
  exact tw_endi (Wf := twT cI cZ q) hE hf dX1_place_4 rfl
end
/-! X1_burn: int burn(boolean) -/
abbrev rm_X1_burn : Room := { frames := 1, cells := 0, slots := 0, locals := 23 }
def f_X1_burn_L57 (v2 : Int32) (st : twS) : Option (Int32 × twS) :=
  some (v2, (twI (twL st (st.2.2.1 + 1)) 12 (((twL st (st.2.2.1 + 1)).1 12) + v2)))
def f_X1_burn (st : twS) (v1 : Int32) : Option (Int32 × twS) :=
  (if (st.1 11) = 0 then
    f_X1_burn_L57 ((if (1 + ((st.2.2.1 * st.2.2.1) / 4)) < ((st.1 9).toInt64) then (1 + ((st.2.2.1 * st.2.2.1) / 4)) else ((st.1 9).toInt64)).toInt32) st
  else
    (if v1 = 0 then
    f_X1_burn_L57 ((if (1 + ((st.2.2.1 * st.2.2.1) / 4)) < ((st.1 9).toInt64) then (1 + ((st.2.2.1 * st.2.2.1) / 4)) else ((st.1 9).toInt64)).toInt32) st
  else
    (if (st.1 10) ≤ 0 then
    f_X1_burn_L57 ((if (1 + ((st.2.2.1 * st.2.2.1) / 4)) < ((st.1 9).toInt64) then (1 + ((st.2.2.1 * st.2.2.1) / 4)) else ((st.1 9).toInt64)).toInt32) st
  else
    f_X1_burn_L57 (((if (1 + ((st.2.2.1 * st.2.2.1) / 4)) < ((st.1 9).toInt64) then (1 + ((st.2.2.1 * st.2.2.1) / 4)) else ((st.1 9).toInt64)).toInt32) / 2) (twI st 10 ((st.1 10) - 1)))))
section
variable {p : Program} {l : Launch} {e : Env} {s : State} {m : MethodId} {args : Array Value} {below : List Frame} {meth : Method} {c : Code} {Q : State → Prop} {dC : Nat → ClassId} {dI : Nat → Nat → Nat} {cI cZ : ClassId} {q : Nat → Nat} {A : Nat → Prop} {res : Int32 × twS}
set_option maxRecDepth 20000 in
theorem m_X1_burn_L57 (C : twC p s m args meth c cX1_burn 3 RX1 wsX1_burn (dC, dI) (twY cI cZ) A) (hE : twEi p l e rm_X1_burn s m args below meth c 0 0 Q (dC, dI) A 3 cX1_burn .int res.1 (twT cI cZ q res.2)) : ∀ (v2 : Int32) (st : twS), f_X1_burn_L57 v2 st = some res → twG p l e rm_X1_burn s m args below meth c 0 0 Q (dC, dI) A 3 (twT cI cZ q st) 57 [(0, .ref (q 4)), (2, .int v2)] [] := by
  intro v2 st hf
  unfold f_X1_burn_L57 at hf
  refine tw_aload_n C dX1_burn_57 0 rfl rfl ?_
  refine tw_dup C dX1_burn_58 rfl ?_
  refine tw_get (K := RX1) (T := TX1) (N := 6) (v := .long st.2.2.1) C 4 2 (fun _ h => List.mem_cons_of_mem _ (List.mem_append_right _ (h))) rfl rfl (by decide) (List.mem_cons_of_mem _ (List.mem_append_left _ (List.mem_of_getElem? (i := 1) rfl))) rfl rfl dX1_burn_59 ?_
  refine tw_lconst (v := 1) C dX1_burn_62 (by decide) ?_
  refine tw_ladd C dX1_burn_63 ?_
  refine tw_put (K := RX1) (T := TX1) (N := 6) C 4 2 tyX1 tyX1_ok nmX1 (fun _ h => List.mem_cons_of_mem _ (List.mem_append_right _ (h))) rfl rfl (by decide) (List.mem_cons_of_mem _ (List.mem_append_left _ (List.mem_of_getElem? (i := 1) rfl))) rfl rfl rfl rfl (Nat.le_of_ble_eq_true rfl) (tw_T_sl cI cZ q st (st.2.2.1 + 1)) dX1_burn_64 ?_
  refine tw_aload_n C dX1_burn_67 0 rfl rfl ?_
  refine tw_dup C dX1_burn_68 rfl ?_
  refine tw_get (K := RX1) (T := TX1) (N := 6) (v := .int ((twL st (st.2.2.1 + 1)).1 12)) C 4 5 (fun _ h => List.mem_cons_of_mem _ (List.mem_append_right _ (h))) rfl rfl (by decide) (List.mem_cons_of_mem _ (List.mem_append_left _ (List.mem_of_getElem? (i := 9) rfl))) rfl rfl dX1_burn_69 ?_
  refine tw_iload_n C dX1_burn_72 1 rfl rfl ?_
  refine tw_iadd C dX1_burn_73 ?_
  refine tw_put (K := RX1) (T := TX1) (N := 6) C 4 5 tyX1 tyX1_ok nmX1 (fun _ h => List.mem_cons_of_mem _ (List.mem_append_right _ (h))) rfl rfl (by decide) (List.mem_cons_of_mem _ (List.mem_append_left _ (List.mem_of_getElem? (i := 9) rfl))) rfl rfl rfl rfl (Nat.le_of_ble_eq_true rfl) (tw_T_si12 cI cZ q (twL st (st.2.2.1 + 1)) (((twL st (st.2.2.1 + 1)).1 12) + v2)) dX1_burn_74 ?_
  refine tw_iload_n C dX1_burn_77 1 rfl rfl ?_
  exact tw_endi (Wf := twT cI cZ q) hE hf dX1_burn_78 rfl
set_option maxRecDepth 20000 in
theorem c_X1_burn (l : Launch) (dC : Nat → ClassId) (dI : Nat → Nat → Nat) (cI cZ : ClassId) (q : Nat → Nat) {st : twS} {v1 : Int32} {res : Int32 × twS} (hf : f_X1_burn st v1 = some res) : twMi l yX1_burn wsX1_burn rm_X1_burn (dC, dI) (twY cI cZ) [.ref (q 4), .int v1] (twT cI cZ q st) res.1 (twT cI cZ q res.2) := by
  refine tw_enti (cc := cX1_burn) (maxL := 3) (own := RX1) (by decide) rfl (Nat.le_of_ble_eq_true rfl) rfl ⟨rfl, rfl⟩ ?_
  intro p e s m below meth c A Q C hE
  generalize ([.ref (q 4), .int v1] : List Value).toArray = args at C hE ⊢
  refine tw_sub (lv' := [(0, .ref (q 4)), (1, .int v1)]) [0, 1] rfl ?_
  unfold f_X1_burn at hf
  refine tw_aload_n C dX1_burn_0 0 rfl rfl ?_
  refine tw_get (K := RX1) (T := TX1) (N := 6) (v := .int (st.1 9)) C 4 1 (fun _ h => List.mem_cons_of_mem _ (List.mem_append_right _ (h))) rfl rfl (by decide) (List.mem_cons_of_mem _ (List.mem_append_left _ (List.mem_of_getElem? (i := 0) rfl))) rfl rfl dX1_burn_1 ?_
  refine tw_i2l C dX1_burn_4 ?_
  refine tw_lconst (v := 1) C dX1_burn_5 (by decide) ?_
  refine tw_aload_n C dX1_burn_6 0 rfl rfl ?_
  refine tw_get (K := RX1) (T := TX1) (N := 6) (v := .long st.2.2.1) C 4 2 (fun _ h => List.mem_cons_of_mem _ (List.mem_append_right _ (h))) rfl rfl (by decide) (List.mem_cons_of_mem _ (List.mem_append_left _ (List.mem_of_getElem? (i := 1) rfl))) rfl rfl dX1_burn_7 ?_
  refine tw_aload_n C dX1_burn_10 0 rfl rfl ?_
  refine tw_get (K := RX1) (T := TX1) (N := 6) (v := .long st.2.2.1) C 4 2 (fun _ h => List.mem_cons_of_mem _ (List.mem_append_right _ (h))) rfl rfl (by decide) (List.mem_cons_of_mem _ (List.mem_append_left _ (List.mem_of_getElem? (i := 1) rfl))) rfl rfl dX1_burn_11 ?_
  refine tw_lmul C dX1_burn_14 ?_
  refine tw_ldc2 C (List.mem_cons_of_mem _ (List.mem_append_left _ (List.mem_of_getElem? (i := 2) rfl))) dX1_burn_15 ?_
  refine tw_ldiv C dX1_burn_18 (by decide) ?_
  refine tw_ladd C dX1_burn_19 ?_
  refine tw_mminl C (List.mem_cons_of_mem _ (List.mem_append_left _ (List.mem_of_getElem? (i := 3) rfl))) (List.mem_cons_of_mem _ (List.mem_append_left _ (List.mem_of_getElem? (i := 4) rfl))) (List.mem_cons_of_mem _ (List.mem_append_left _ (List.mem_of_getElem? (i := 5) rfl))) (List.mem_cons_of_mem _ (List.mem_append_left _ (List.mem_of_getElem? (i := 6) rfl))) (Nat.le_of_ble_eq_true rfl) (Nat.le_of_ble_eq_true rfl) (Nat.zero_le _) (Nat.zero_le _) dX1_burn_20 ?_
  refine tw_l2i C dX1_burn_23 ?_
  refine tw_istore_n (lv' := [(2, .int ((if (1 + ((st.2.2.1 * st.2.2.1) / 4)) < ((st.1 9).toInt64) then (1 + ((st.2.2.1 * st.2.2.1) / 4)) else ((st.1 9).toInt64)).toInt32)), (0, .ref (q 4)), (1, .int v1)]) C dX1_burn_24 rfl (by decide) rfl ?_
  refine tw_aload_n C dX1_burn_25 1 rfl rfl ?_
  refine tw_get (K := RX1) (T := TX1) (N := 6) (v := .int (st.1 11)) C 4 4 (fun _ h => List.mem_cons_of_mem _ (List.mem_append_right _ (h))) rfl rfl (by decide) (List.mem_cons_of_mem _ (List.mem_append_left _ (List.mem_of_getElem? (i := 7) rfl))) rfl rfl dX1_burn_26 ?_
  refine tw_if_eq (tgt := 57) C dX1_burn_29 (by decide) (fun c1 => ?_) (fun c1 => ?_)
  · have hf := tw_pos hf c1
    refine tw_sub [1, 0] rfl ?_
    exact m_X1_burn_L57 C hE ((if (1 + ((st.2.2.1 * st.2.2.1) / 4)) < ((st.1 9).toInt64) then (1 + ((st.2.2.1 * st.2.2.1) / 4)) else ((st.1 9).toInt64)).toInt32) st hf
  · have hf := tw_neg hf c1
    refine tw_iload_n C dX1_burn_32 2 rfl rfl ?_
    refine tw_if_eq (tgt := 57) C dX1_burn_33 (by decide) (fun c2 => ?_) (fun c2 => ?_)
    · have hf := tw_pos hf c2
      refine tw_sub [1, 0] rfl ?_
      exact m_X1_burn_L57 C hE ((if (1 + ((st.2.2.1 * st.2.2.1) / 4)) < ((st.1 9).toInt64) then (1 + ((st.2.2.1 * st.2.2.1) / 4)) else ((st.1 9).toInt64)).toInt32) st hf
    · have hf := tw_neg hf c2
      refine tw_aload_n C dX1_burn_36 1 rfl rfl ?_
      refine tw_get (K := RX1) (T := TX1) (N := 6) (v := .int (st.1 10)) C 4 3 (fun _ h => List.mem_cons_of_mem _ (List.mem_append_right _ (h))) rfl rfl (by decide) (List.mem_cons_of_mem _ (List.mem_append_left _ (List.mem_of_getElem? (i := 8) rfl))) rfl rfl dX1_burn_37 ?_
      refine tw_if_le (tgt := 57) C dX1_burn_40 (by decide) (fun c3 => ?_) (fun c3 => ?_)
      · have hf := tw_pos hf c3
        refine tw_sub [1, 0] rfl ?_
        exact m_X1_burn_L57 C hE ((if (1 + ((st.2.2.1 * st.2.2.1) / 4)) < ((st.1 9).toInt64) then (1 + ((st.2.2.1 * st.2.2.1) / 4)) else ((st.1 9).toInt64)).toInt32) st hf
      · have hf := tw_neg hf c3
        refine tw_aload_n C dX1_burn_43 1 rfl rfl ?_
        refine tw_dup C dX1_burn_44 rfl ?_
        refine tw_get (K := RX1) (T := TX1) (N := 6) (v := .int (st.1 10)) C 4 3 (fun _ h => List.mem_cons_of_mem _ (List.mem_append_right _ (h))) rfl rfl (by decide) (List.mem_cons_of_mem _ (List.mem_append_left _ (List.mem_of_getElem? (i := 8) rfl))) rfl rfl dX1_burn_45 ?_
        refine tw_iconst (v := 1) C dX1_burn_48 (by decide) ?_
        refine tw_isub C dX1_burn_49 ?_
        refine tw_put (K := RX1) (T := TX1) (N := 6) C 4 3 tyX1 tyX1_ok nmX1 (fun _ h => List.mem_cons_of_mem _ (List.mem_append_right _ (h))) rfl rfl (by decide) (List.mem_cons_of_mem _ (List.mem_append_left _ (List.mem_of_getElem? (i := 8) rfl))) rfl rfl rfl rfl (Nat.le_of_ble_eq_true rfl) (tw_T_si10 cI cZ q st ((st.1 10) - 1)) dX1_burn_50 ?_
        refine tw_iload_n C dX1_burn_53 0 rfl rfl ?_
        refine tw_iconst (v := 2) C dX1_burn_54 (by decide) ?_
        refine tw_idiv C dX1_burn_55 (by decide) ?_
        refine tw_istore_n (lv' := [(2, .int (((if (1 + ((st.2.2.1 * st.2.2.1) / 4)) < ((st.1 9).toInt64) then (1 + ((st.2.2.1 * st.2.2.1) / 4)) else ((st.1 9).toInt64)).toInt32) / 2)), (0, .ref (q 4)), (1, .int v1)]) C dX1_burn_56 rfl (by decide) rfl ?_
        refine tw_sub [1, 0] rfl ?_
        exact m_X1_burn_L57 C hE (((if (1 + ((st.2.2.1 * st.2.2.1) / 4)) < ((st.1 9).toInt64) then (1 + ((st.2.2.1 * st.2.2.1) / 4)) else ((st.1 9).toInt64)).toInt32) / 2) (twI st 10 ((st.1 10) - 1)) hf
end
/-! X7_isSegment: private static boolean isSegment(int) -/
abbrev rm_X7_isSegment : Room := { frames := 0, cells := 0, slots := 0, locals := 0 }
def f_X7_isSegment (st : twS) (v0 : Int32) : Option (Int32 × twS) :=
  (if v0 < 0 then
    some (0, st)
  else
    (if 12 ≤ v0 then
    some (0, st)
  else
    some (1, st)))
section
variable {p : Program} {l : Launch} {e : Env} {s : State} {m : MethodId} {args : Array Value} {below : List Frame} {meth : Method} {c : Code} {Q : State → Prop} {dC : Nat → ClassId} {dI : Nat → Nat → Nat} {cI cZ : ClassId} {q : Nat → Nat} {A : Nat → Prop} {res : Int32 × twS}
set_option maxRecDepth 20000 in
theorem c_X7_isSegment (l : Launch) (dC : Nat → ClassId) (dI : Nat → Nat → Nat) (cI cZ : ClassId) (q : Nat → Nat) {st : twS} {v0 : Int32} {res : Int32 × twS} (hf : f_X7_isSegment st v0 = some res) : twMi l yX7_isSegment wsX7_isSegment rm_X7_isSegment (dC, dI) (twY cI cZ) [.int v0] (twT cI cZ q st) res.1 (twT cI cZ q res.2) := by
  refine tw_enti (cc := cX7_isSegment) (maxL := 1) (own := RX7) (by decide) rfl (Nat.le_of_ble_eq_true rfl) rfl ⟨rfl, rfl⟩ ?_
  intro p e s m below meth c A Q C hE
  generalize ([.int v0] : List Value).toArray = args at C hE ⊢
  refine tw_sub (lv' := [(0, .int v0)]) [0] rfl ?_
  unfold f_X7_isSegment at hf
  refine tw_iload_n C dX7_isSegment_0 0 rfl rfl ?_
  refine tw_if_lt (tgt := 14) C dX7_isSegment_1 (by decide) (fun c1 => ?_) (fun c1 => ?_)
  · have hf := tw_pos hf c1
    refine tw_iconst (v := 0) C dX7_isSegment_14 (by decide) ?_
    exact tw_endi (Wf := twT cI cZ q) hE hf dX7_isSegment_15 rfl
  · have hf := tw_neg hf c1
    refine tw_iload_n C dX7_isSegment_4 0 rfl rfl ?_
    refine tw_bipush (v := 12) C dX7_isSegment_5 (by decide) ?_
    refine tw_icmp_ge (tgt := 14) C dX7_isSegment_7 (by decide) (fun c2 => ?_) (fun c2 => ?_)
    · have hf := tw_pos hf c2
      refine tw_iconst (v := 0) C dX7_isSegment_14 (by decide) ?_
      exact tw_endi (Wf := twT cI cZ q) hE hf dX7_isSegment_15 rfl
    · have hf := tw_neg hf c2
      refine tw_iconst (v := 1) C dX7_isSegment_10 (by decide) ?_
      refine tw_goto (tgt := 15) C dX7_isSegment_11 (by decide) ?_
      exact tw_endi (Wf := twT cI cZ q) hE hf dX7_isSegment_15 rfl
end
/-! X0_feedFrom: void feedFrom(int, int) -/
abbrev rm_X0_feedFrom : Room := { frames := 1, cells := 0, slots := 0, locals := 20 }
def f_X0_feedFrom (st : twS) (v1 : Int32) (v2 : Int32) : Option (twS) :=
  ((f_X7_isSegment st v1).bind fun y1 => (if y1.1 = 0 then
    some y1.2
  else
    (if twb v1 12 = true then (if twb v1 12 = true then (if twb v1 12 = true then (if twb v1 12 = true then some (twA (twA y1.2 13 v1 ((y1.2.2.1 13 v1.toNatClampNeg) + v2)) 14 v1 (((twA y1.2 13 v1 ((y1.2.2.1 13 v1.toNatClampNeg) + v2)).2.1 14 v1.toNatClampNeg) + v2)) else none) else none) else none) else none)))
section
variable {p : Program} {l : Launch} {e : Env} {s : State} {m : MethodId} {args : Array Value} {below : List Frame} {meth : Method} {c : Code} {Q : State → Prop} {dC : Nat → ClassId} {dI : Nat → Nat → Nat} {cI cZ : ClassId} {q : Nat → Nat} {A : Nat → Prop} {res : twS}
set_option maxRecDepth 20000 in
theorem c_X0_feedFrom (l : Launch) (dC : Nat → ClassId) (dI : Nat → Nat → Nat) (cI cZ : ClassId) (q : Nat → Nat) {st : twS} {v1 : Int32} {v2 : Int32} {res : twS} (hf : f_X0_feedFrom st v1 v2 = some res) : twMv l yX0_feedFrom wsX0_feedFrom rm_X0_feedFrom (dC, dI) (twY cI cZ) [.ref (q 3), .int v1, .int v2] (twT cI cZ q st) (twT cI cZ q res) := by
  refine tw_entv (cc := cX0_feedFrom) (maxL := 3) (own := RX0) (by decide) rfl (Nat.le_of_ble_eq_true rfl) rfl ⟨rfl, rfl⟩ ?_
  intro p e s m below meth c A Q C hE
  generalize ([.ref (q 3), .int v1, .int v2] : List Value).toArray = args at C hE ⊢
  refine tw_sub (lv' := [(0, .ref (q 3)), (1, .int v1), (2, .int v2)]) [0, 1, 2] rfl ?_
  unfold f_X0_feedFrom at hf
  refine tw_iload_n C dX0_feedFrom_0 1 rfl rfl ?_
  obtain ⟨y1, hc1, hf⟩ := tw_bd hf
  refine tw_cNi (As := [.int v1]) (stk := []) C (c_X7_isSegment l dC dI cI cZ q hc1) ⟨va_cnB (host := RX7) 1 C.hts gX0_feedFrom_X7_isSegment_n25 rfl rfl rfl C.hN.2.1 (C.hts _ (List.mem_cons_of_mem _ (List.mem_append_left _ (List.mem_of_getElem? (i := 3) rfl)))) hd_X7_isSegment ⟨Nat.le_of_ble_eq_true rfl, Nat.le_of_ble_eq_true rfl⟩, C.hts _ (List.mem_cons_of_mem _ (List.mem_append_left _ (List.mem_of_getElem? (i := 2) rfl))), trivial⟩ rfl rfl (Nat.le_of_ble_eq_true rfl) dX0_feedFrom_1 ⟨Nat.zero_le _, Nat.zero_le _⟩ ?_
  refine tw_if_eq (tgt := 27) C dX0_feedFrom_4 (by decide) (fun c2 => ?_) (fun c2 => ?_)
  · have hf := tw_pos hf c2
    exact tw_endv (Wf := twT cI cZ q) hE hf dX0_feedFrom_27
  · have hf := tw_neg hf c2
    refine tw_aload_n C dX0_feedFrom_7 0 rfl rfl ?_
    refine tw_get (K := RX0) (T := TX0) (N := 4) (v := .ref (q 13)) C 3 0 (fun _ h => List.mem_cons_of_mem _ (List.mem_append_right _ (h))) rfl rfl (by decide) (List.mem_cons_of_mem _ (List.mem_append_left _ (List.mem_of_getElem? (i := 0) rfl))) rfl rfl dX0_feedFrom_8 ?_
    refine tw_iload_n C dX0_feedFrom_11 1 rfl rfl ?_
    refine tw_dup2 C dX0_feedFrom_12 rfl rfl ?_
    obtain ⟨hb3, hf⟩ := tw_ck hf
    refine tw_iald C 13 0 hb3 rfl rfl dX0_feedFrom_13 ?_
    refine tw_iload_n C dX0_feedFrom_14 2 rfl rfl ?_
    refine tw_iadd C dX0_feedFrom_15 ?_
    obtain ⟨hb4, hf⟩ := tw_ck hf
    refine tw_iast C 13 0 hb4 rfl rfl (tw_T_a13 cI cZ q y1.2 v1 ((y1.2.2.1 13 v1.toNatClampNeg) + v2)) dX0_feedFrom_16 ?_
    refine tw_aload_n C dX0_feedFrom_17 0 rfl rfl ?_
    refine tw_get (K := RX0) (T := TX0) (N := 4) (v := .ref (q 14)) C 3 1 (fun _ h => List.mem_cons_of_mem _ (List.mem_append_right _ (h))) rfl rfl (by decide) (List.mem_cons_of_mem _ (List.mem_append_left _ (List.mem_of_getElem? (i := 1) rfl))) rfl rfl dX0_feedFrom_18 ?_
    refine tw_iload_n C dX0_feedFrom_21 1 rfl rfl ?_
    refine tw_dup2 C dX0_feedFrom_22 rfl rfl ?_
    obtain ⟨hb5, hf⟩ := tw_ck hf
    refine tw_iald C 14 0 hb5 rfl rfl dX0_feedFrom_23 ?_
    refine tw_iload_n C dX0_feedFrom_24 2 rfl rfl ?_
    refine tw_iadd C dX0_feedFrom_25 ?_
    obtain ⟨hb6, hf⟩ := tw_ck hf
    refine tw_iast C 14 0 hb6 rfl rfl (tw_T_a14 cI cZ q (twA y1.2 13 v1 ((y1.2.2.1 13 v1.toNatClampNeg) + v2)) v1 (((twA y1.2 13 v1 ((y1.2.2.1 13 v1.toNatClampNeg) + v2)).2.1 14 v1.toNatClampNeg) + v2)) dX0_feedFrom_26 ?_
    exact tw_endv (Wf := twT cI cZ q) hE hf dX0_feedFrom_27
end
/-! X7_burn: private void burn() -/
abbrev rm_X7_burn : Room := { frames := 2, cells := 0, slots := 0, locals := 45 }
def f_X7_burn (st : twS) : Option (twS) :=
  ((f_X1_isBurning st).bind fun y1 => (if y1.1 = 0 then
    some y1.2
  else
    ((f_X1_place y1.2).bind fun y3 => ((f_X7_hasPower y3.2).bind fun y4 => ((f_X1_burn y4.2 y4.1).bind fun y5 => ((f_X0_feedFrom y5.2 y3.1 y5.1).bind fun y6 => some y6))))))
section
variable {p : Program} {l : Launch} {e : Env} {s : State} {m : MethodId} {args : Array Value} {below : List Frame} {meth : Method} {c : Code} {Q : State → Prop} {dC : Nat → ClassId} {dI : Nat → Nat → Nat} {cI cZ : ClassId} {q : Nat → Nat} {A : Nat → Prop} {res : twS}
set_option maxRecDepth 20000 in
theorem c_X7_burn (l : Launch) (dC : Nat → ClassId) (dI : Nat → Nat → Nat) (cI cZ : ClassId) (q : Nat → Nat) {st : twS} {res : twS} (hf : f_X7_burn st = some res) : twMv l yX7_burn wsX7_burn rm_X7_burn (dC, dI) (twY cI cZ) [.ref (q 0)] (twT cI cZ q st) (twT cI cZ q res) := by
  refine tw_entv (cc := cX7_burn) (maxL := 1) (own := RX7) (by decide) rfl (Nat.le_of_ble_eq_true rfl) rfl ⟨rfl, rfl⟩ ?_
  intro p e s m below meth c A Q C hE
  generalize ([.ref (q 0)] : List Value).toArray = args at C hE ⊢
  refine tw_sub (lv' := [(0, .ref (q 0))]) [0] rfl ?_
  unfold f_X7_burn at hf
  refine tw_aload_n C dX7_burn_0 0 rfl rfl ?_
  refine tw_get (K := RX7) (T := TX7) (N := 14) (v := .ref (q 4)) C 0 3 (fun _ h => List.mem_cons_of_mem _ (List.mem_append_left _ (List.mem_append_left _ (List.mem_append_right _ (h))))) rfl rfl (by decide) (List.mem_cons_of_mem _ (List.mem_append_left _ (List.mem_append_left _ (List.mem_append_left _ (List.mem_append_left _ (List.mem_of_getElem? (i := 0) rfl)))))) rfl rfl dX7_burn_1 ?_
  obtain ⟨y1, hc1, hf⟩ := tw_bd hf
  refine tw_cVi (As := []) (stk := []) C (c_X1_isBurning l dC dI cI cZ q hc1) (cwV 0 C.hts gX7_burn_X1_isBurning rfl rfl rfl hd_X1_isBurning ⟨Nat.le_of_ble_eq_true rfl, Nat.le_of_ble_eq_true rfl⟩) 4 (ci := 1) rfl rfl rfl rfl rfl (Nat.le_of_ble_eq_true rfl) dX7_burn_4 ⟨Nat.zero_le _, Nat.zero_le _⟩ ?_
  refine tw_if_eq (tgt := 35) C dX7_burn_7 (by decide) (fun c2 => ?_) (fun c2 => ?_)
  · have hf := tw_pos hf c2
    exact tw_endv (Wf := twT cI cZ q) hE hf dX7_burn_35
  · have hf := tw_neg hf c2
    refine tw_aload_n C dX7_burn_10 0 rfl rfl ?_
    refine tw_get (K := RX7) (T := TX7) (N := 14) (v := .ref (q 3)) C 0 2 (fun _ h => List.mem_cons_of_mem _ (List.mem_append_left _ (List.mem_append_left _ (List.mem_append_right _ (h))))) rfl rfl (by decide) (List.mem_cons_of_mem _ (List.mem_append_left _ (List.mem_append_left _ (List.mem_append_left _ (List.mem_append_left _ (List.mem_of_getElem? (i := 1) rfl)))))) rfl rfl dX7_burn_11 ?_
    refine tw_aload_n C dX7_burn_14 0 rfl rfl ?_
    refine tw_get (K := RX7) (T := TX7) (N := 14) (v := .ref (q 4)) C 0 3 (fun _ h => List.mem_cons_of_mem _ (List.mem_append_left _ (List.mem_append_left _ (List.mem_append_right _ (h))))) rfl rfl (by decide) (List.mem_cons_of_mem _ (List.mem_append_left _ (List.mem_append_left _ (List.mem_append_left _ (List.mem_append_left _ (List.mem_of_getElem? (i := 0) rfl)))))) rfl rfl dX7_burn_15 ?_
    obtain ⟨y3, hc3, hf⟩ := tw_bd hf
    refine tw_cVi (As := []) (stk := [.ref (q 3)]) C (c_X1_place l dC dI cI cZ q hc3) (cwV 0 C.hts gX7_burn_X1_place rfl rfl rfl hd_X1_place ⟨Nat.le_of_ble_eq_true rfl, Nat.le_of_ble_eq_true rfl⟩) 4 (ci := 1) rfl rfl rfl rfl rfl (Nat.le_of_ble_eq_true rfl) dX7_burn_18 ⟨Nat.zero_le _, Nat.zero_le _⟩ ?_
    refine tw_aload_n C dX7_burn_21 0 rfl rfl ?_
    refine tw_get (K := RX7) (T := TX7) (N := 14) (v := .ref (q 4)) C 0 3 (fun _ h => List.mem_cons_of_mem _ (List.mem_append_left _ (List.mem_append_left _ (List.mem_append_right _ (h))))) rfl rfl (by decide) (List.mem_cons_of_mem _ (List.mem_append_left _ (List.mem_append_left _ (List.mem_append_left _ (List.mem_append_left _ (List.mem_of_getElem? (i := 0) rfl)))))) rfl rfl dX7_burn_22 ?_
    refine tw_aload_n C dX7_burn_25 0 rfl rfl ?_
    obtain ⟨y4, hc4, hf⟩ := tw_bd hf
    refine tw_cVi (As := []) (stk := [.ref (q 4), .int y3.1, .ref (q 3)]) C (c_X7_hasPower l dC dI cI cZ q hc4) (cwV 0 C.hts gX7_burn_X7_hasPower rfl rfl rfl hd_X7_hasPower ⟨Nat.le_of_ble_eq_true rfl, Nat.le_of_ble_eq_true rfl⟩) 0 (ci := 7) rfl rfl rfl rfl rfl (Nat.le_of_ble_eq_true rfl) dX7_burn_26 ⟨Nat.zero_le _, Nat.zero_le _⟩ ?_
    obtain ⟨y5, hc5, hf⟩ := tw_bd hf
    refine tw_cVi (As := [.int y4.1]) (stk := [.int y3.1, .ref (q 3)]) C (c_X1_burn l dC dI cI cZ q hc5) (cwV 1 C.hts gX7_burn_X1_burn rfl rfl rfl hd_X1_burn ⟨Nat.le_of_ble_eq_true rfl, Nat.le_of_ble_eq_true rfl⟩) 4 (ci := 1) rfl rfl rfl rfl rfl (Nat.le_of_ble_eq_true rfl) dX7_burn_29 ⟨Nat.zero_le _, Nat.zero_le _⟩ ?_
    obtain ⟨y6, hc6, hf⟩ := tw_bd hf
    refine tw_cVv (As := [.int y3.1, .int y5.1]) (stk := []) C (c_X0_feedFrom l dC dI cI cZ q hc6) (cwV 2 C.hts gX7_burn_X0_feedFrom rfl rfl rfl hd_X0_feedFrom ⟨Nat.le_of_ble_eq_true rfl, Nat.le_of_ble_eq_true rfl⟩) 3 (ci := 0) rfl rfl rfl rfl rfl (Nat.le_of_ble_eq_true rfl) dX7_burn_32 ⟨Nat.zero_le _, Nat.zero_le _⟩ ?_
    exact tw_endv (Wf := twT cI cZ q) hE hf dX7_burn_35
end
/-! X0_withoutSign: private static double withoutSign(double) -/
abbrev rm_X0_withoutSign : Room := { frames := 0, cells := 0, slots := 0, locals := 0 }
def f_X0_withoutSign (st : twS) (v0 : UInt64) : Option (UInt64 × twS) :=
  (if 0 ≤ (Op.cmpValue (FP.dcmp v0 FP.dconst0) CmpOp.g) then
    some (v0, st)
  else
    some ((FP.dneg v0), st))
section
variable {p : Program} {l : Launch} {e : Env} {s : State} {m : MethodId} {args : Array Value} {below : List Frame} {meth : Method} {c : Code} {Q : State → Prop} {dC : Nat → ClassId} {dI : Nat → Nat → Nat} {cI cZ : ClassId} {q : Nat → Nat} {A : Nat → Prop} {res : UInt64 × twS}
set_option maxRecDepth 20000 in
theorem c_X0_withoutSign (l : Launch) (dC : Nat → ClassId) (dI : Nat → Nat → Nat) (cI cZ : ClassId) (q : Nat → Nat) {st : twS} {v0 : UInt64} {res : UInt64 × twS} (hf : f_X0_withoutSign st v0 = some res) : twMd l yX0_withoutSign wsX0_withoutSign rm_X0_withoutSign (dC, dI) (twY cI cZ) [.double v0] (twT cI cZ q st) res.1 (twT cI cZ q res.2) := by
  refine tw_entd (cc := cX0_withoutSign) (maxL := 2) (own := RX0) (by decide) rfl (Nat.le_of_ble_eq_true rfl) rfl ⟨rfl, rfl⟩ ?_
  intro p e s m below meth c A Q C hE
  generalize ([.double v0] : List Value).toArray = args at C hE ⊢
  refine tw_sub (lv' := [(0, .double v0)]) [0] rfl ?_
  unfold f_X0_withoutSign at hf
  refine tw_dload_n C dX0_withoutSign_0 0 rfl rfl ?_
  refine tw_dconst0 C dX0_withoutSign_1 ?_
  refine tw_dcmp C dX0_withoutSign_2 ?_
  refine tw_if_ge (tgt := 11) C dX0_withoutSign_3 (by decide) (fun c1 => ?_) (fun c1 => ?_)
  · have hf := tw_pos hf c1
    refine tw_dload_n C dX0_withoutSign_11 0 rfl rfl ?_
    exact tw_endd (Wf := twT cI cZ q) hE hf dX0_withoutSign_12
  · have hf := tw_neg hf c1
    refine tw_dload_n C dX0_withoutSign_6 0 rfl rfl ?_
    refine tw_dneg C dX0_withoutSign_7 ?_
    refine tw_goto (tgt := 12) C dX0_withoutSign_8 (by decide) ?_
    exact tw_endd (Wf := twT cI cZ q) hE hf dX0_withoutSign_12
end
/-! X0_side: private static int side(double) -/
abbrev rm_X0_side : Room := { frames := 0, cells := 0, slots := 0, locals := 0 }
def f_X0_side (st : twS) (v0 : UInt64) : Option (Int32 × twS) :=
  (if 0 ≤ (Op.cmpValue (FP.dcmp v0 FP.dconst0) CmpOp.g) then
    some (1, st)
  else
    some ((-1), st))
section
variable {p : Program} {l : Launch} {e : Env} {s : State} {m : MethodId} {args : Array Value} {below : List Frame} {meth : Method} {c : Code} {Q : State → Prop} {dC : Nat → ClassId} {dI : Nat → Nat → Nat} {cI cZ : ClassId} {q : Nat → Nat} {A : Nat → Prop} {res : Int32 × twS}
set_option maxRecDepth 20000 in
theorem c_X0_side (l : Launch) (dC : Nat → ClassId) (dI : Nat → Nat → Nat) (cI cZ : ClassId) (q : Nat → Nat) {st : twS} {v0 : UInt64} {res : Int32 × twS} (hf : f_X0_side st v0 = some res) : twMi l yX0_side wsX0_side rm_X0_side (dC, dI) (twY cI cZ) [.double v0] (twT cI cZ q st) res.1 (twT cI cZ q res.2) := by
  refine tw_enti (cc := cX0_side) (maxL := 2) (own := RX0) (by decide) rfl (Nat.le_of_ble_eq_true rfl) rfl ⟨rfl, rfl⟩ ?_
  intro p e s m below meth c A Q C hE
  generalize ([.double v0] : List Value).toArray = args at C hE ⊢
  refine tw_sub (lv' := [(0, .double v0)]) [0] rfl ?_
  unfold f_X0_side at hf
  refine tw_dload_n C dX0_side_0 0 rfl rfl ?_
  refine tw_dconst0 C dX0_side_1 ?_
  refine tw_dcmp C dX0_side_2 ?_
  refine tw_if_ge (tgt := 10) C dX0_side_3 (by decide) (fun c1 => ?_) (fun c1 => ?_)
  · have hf := tw_pos hf c1
    refine tw_iconst (v := 1) C dX0_side_10 (by decide) ?_
    exact tw_endi (Wf := twT cI cZ q) hE hf dX0_side_11 rfl
  · have hf := tw_neg hf c1
    refine tw_iconst (v := (-1)) C dX0_side_6 (by decide) ?_
    refine tw_goto (tgt := 11) C dX0_side_7 (by decide) ?_
    exact tw_endi (Wf := twT cI cZ q) hE hf dX0_side_11 rfl
end
/-! X0_shift: private void shift(int, int, int) -/
abbrev rm_X0_shift : Room := { frames := 1, cells := 0, slots := 0, locals := 20 }
def f_X0_shift (st : twS) (v1 : Int32) (v2 : Int32) (v3 : Int32) : Option (twS) :=
  ((f_X7_isSegment st v1).bind fun y1 => (if y1.1 = 0 then
    some y1.2
  else
    (if twb v1 12 = true then (if twb v1 12 = true then ((f_X7_isSegment (twA y1.2 13 v1 ((y1.2.2.1 13 v1.toNatClampNeg) - v3)) v2).bind fun y5 => (if y5.1 = 0 then
    some (twI y5.2 7 ((y5.2.1 7) + v3))
  else
    (if twb v2 12 = true then (if twb v2 12 = true then some (twA y5.2 13 v2 ((y5.2.2.1 13 v2.toNatClampNeg) + v3)) else none) else none))) else none) else none)))
section
variable {p : Program} {l : Launch} {e : Env} {s : State} {m : MethodId} {args : Array Value} {below : List Frame} {meth : Method} {c : Code} {Q : State → Prop} {dC : Nat → ClassId} {dI : Nat → Nat → Nat} {cI cZ : ClassId} {q : Nat → Nat} {A : Nat → Prop} {res : twS}
set_option maxRecDepth 20000 in
theorem c_X0_shift (l : Launch) (dC : Nat → ClassId) (dI : Nat → Nat → Nat) (cI cZ : ClassId) (q : Nat → Nat) {st : twS} {v1 : Int32} {v2 : Int32} {v3 : Int32} {res : twS} (hf : f_X0_shift st v1 v2 v3 = some res) : twMv l yX0_shift wsX0_shift rm_X0_shift (dC, dI) (twY cI cZ) [.ref (q 3), .int v1, .int v2, .int v3] (twT cI cZ q st) (twT cI cZ q res) := by
  refine tw_entv (cc := cX0_shift) (maxL := 4) (own := RX0) (by decide) rfl (Nat.le_of_ble_eq_true rfl) rfl ⟨rfl, rfl⟩ ?_
  intro p e s m below meth c A Q C hE
  generalize ([.ref (q 3), .int v1, .int v2, .int v3] : List Value).toArray = args at C hE ⊢
  refine tw_sub (lv' := [(0, .ref (q 3)), (1, .int v1), (2, .int v2), (3, .int v3)]) [0, 1, 2, 3] rfl ?_
  unfold f_X0_shift at hf
  refine tw_iload_n C dX0_shift_0 1 rfl rfl ?_
  obtain ⟨y1, hc1, hf⟩ := tw_bd hf
  refine tw_cNi (As := [.int v1]) (stk := []) C (c_X7_isSegment l dC dI cI cZ q hc1) ⟨va_cnB (host := RX7) 1 C.hts gX0_shift_X7_isSegment_n25 rfl rfl rfl C.hN.2.1 (C.hts _ (List.mem_cons_of_mem _ (List.mem_append_left _ (List.mem_of_getElem? (i := 3) rfl)))) hd_X7_isSegment ⟨Nat.le_of_ble_eq_true rfl, Nat.le_of_ble_eq_true rfl⟩, C.hts _ (List.mem_cons_of_mem _ (List.mem_append_left _ (List.mem_of_getElem? (i := 2) rfl))), trivial⟩ rfl rfl (Nat.le_of_ble_eq_true rfl) dX0_shift_1 ⟨Nat.zero_le _, Nat.zero_le _⟩ ?_
  refine tw_if_ne (tgt := 8) C dX0_shift_4 (by decide) (fun c2 => ?_) (fun c2 => ?_)
  · have hf := tw_neg hf c2
    refine tw_aload_n C dX0_shift_8 0 rfl rfl ?_
    refine tw_get (K := RX0) (T := TX0) (N := 4) (v := .ref (q 13)) C 3 0 (fun _ h => List.mem_cons_of_mem _ (List.mem_append_right _ (h))) rfl rfl (by decide) (List.mem_cons_of_mem _ (List.mem_append_left _ (List.mem_of_getElem? (i := 0) rfl))) rfl rfl dX0_shift_9 ?_
    refine tw_iload_n C dX0_shift_12 1 rfl rfl ?_
    refine tw_dup2 C dX0_shift_13 rfl rfl ?_
    obtain ⟨hb3, hf⟩ := tw_ck hf
    refine tw_iald C 13 0 hb3 rfl rfl dX0_shift_14 ?_
    refine tw_iload_n C dX0_shift_15 3 rfl rfl ?_
    refine tw_isub C dX0_shift_16 ?_
    obtain ⟨hb4, hf⟩ := tw_ck hf
    refine tw_iast C 13 0 hb4 rfl rfl (tw_T_a13 cI cZ q y1.2 v1 ((y1.2.2.1 13 v1.toNatClampNeg) - v3)) dX0_shift_17 ?_
    refine tw_iload_n C dX0_shift_18 2 rfl rfl ?_
    obtain ⟨y5, hc5, hf⟩ := tw_bd hf
    refine tw_cNi (As := [.int v2]) (stk := []) C (c_X7_isSegment l dC dI cI cZ q hc5) ⟨va_cnB (host := RX7) 1 C.hts gX0_shift_X7_isSegment_n25 rfl rfl rfl C.hN.2.1 (C.hts _ (List.mem_cons_of_mem _ (List.mem_append_left _ (List.mem_of_getElem? (i := 3) rfl)))) hd_X7_isSegment ⟨Nat.le_of_ble_eq_true rfl, Nat.le_of_ble_eq_true rfl⟩, C.hts _ (List.mem_cons_of_mem _ (List.mem_append_left _ (List.mem_of_getElem? (i := 2) rfl))), trivial⟩ rfl rfl (Nat.le_of_ble_eq_true rfl) dX0_shift_19 ⟨Nat.zero_le _, Nat.zero_le _⟩ ?_
    refine tw_if_eq (tgt := 38) C dX0_shift_22 (by decide) (fun c6 => ?_) (fun c6 => ?_)
    · have hf := tw_pos hf c6
      refine tw_aload_n C dX0_shift_38 0 rfl rfl ?_
      refine tw_dup C dX0_shift_39 rfl ?_
      refine tw_get (K := RX0) (T := TX0) (N := 4) (v := .int (y5.2.1 7)) C 3 3 (fun _ h => List.mem_cons_of_mem _ (List.mem_append_right _ (h))) rfl rfl (by decide) (List.mem_cons_of_mem _ (List.mem_append_left _ (List.mem_of_getElem? (i := 1) rfl))) rfl rfl dX0_shift_40 ?_
      refine tw_iload_n C dX0_shift_43 3 rfl rfl ?_
      refine tw_iadd C dX0_shift_44 ?_
      refine tw_put (K := RX0) (T := TX0) (N := 4) C 3 3 tyX0 tyX0_ok nmX0 (fun _ h => List.mem_cons_of_mem _ (List.mem_append_right _ (h))) rfl rfl (by decide) (List.mem_cons_of_mem _ (List.mem_append_left _ (List.mem_of_getElem? (i := 1) rfl))) rfl rfl rfl rfl (Nat.le_of_ble_eq_true rfl) (tw_T_si7 cI cZ q y5.2 ((y5.2.1 7) + v3)) dX0_shift_45 ?_
      exact tw_endv (Wf := twT cI cZ q) hE hf dX0_shift_48
    · have hf := tw_neg hf c6
      refine tw_aload_n C dX0_shift_25 0 rfl rfl ?_
      refine tw_get (K := RX0) (T := TX0) (N := 4) (v := .ref (q 13)) C 3 0 (fun _ h => List.mem_cons_of_mem _ (List.mem_append_right _ (h))) rfl rfl (by decide) (List.mem_cons_of_mem _ (List.mem_append_left _ (List.mem_of_getElem? (i := 0) rfl))) rfl rfl dX0_shift_26 ?_
      refine tw_iload_n C dX0_shift_29 2 rfl rfl ?_
      refine tw_dup2 C dX0_shift_30 rfl rfl ?_
      obtain ⟨hb7, hf⟩ := tw_ck hf
      refine tw_iald C 13 0 hb7 rfl rfl dX0_shift_31 ?_
      refine tw_iload_n C dX0_shift_32 3 rfl rfl ?_
      refine tw_iadd C dX0_shift_33 ?_
      obtain ⟨hb8, hf⟩ := tw_ck hf
      refine tw_iast C 13 0 hb8 rfl rfl (tw_T_a13 cI cZ q y5.2 v2 ((y5.2.2.1 13 v2.toNatClampNeg) + v3)) dX0_shift_34 ?_
      refine tw_goto (tgt := 48) C dX0_shift_35 (by decide) ?_
      exact tw_endv (Wf := twT cI cZ q) hE hf dX0_shift_48
  · have hf := tw_pos hf c2
    exact tw_endv (Wf := twT cI cZ q) hE hf dX0_shift_7
end
