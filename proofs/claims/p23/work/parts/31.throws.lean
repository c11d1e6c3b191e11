theorem tw_ng_280 : ∀ w ∈ (vx_atS RX7 280 twX1 twXs).filter (fun w => !goodWord w), w ∈ [Cond.castable twX1 twX1, twD1, twD2, twD3] := by decide +kernel
theorem tw_gd_280 : ∀ w ∈ Cond.classLink RX7 276 twX1 :: Cond.initialized twX1 :: vx_atS RX7 280 twX1 twXs, vx_ot w = true := by decide +kernel
theorem tw_ng_289 : ∀ w ∈ (vx_atS RX7 289 twX2 twXs).filter (fun w => !goodWord w), w ∈ [Cond.castable twX2 twX2, twD1, twD2, twD3] := by decide +kernel
theorem tw_gd_289 : ∀ w ∈ Cond.classLink RX7 285 twX2 :: Cond.initialized twX2 :: vx_atS RX7 289 twX2 twXs, vx_ot w = true := by decide +kernel
theorem tw_ng_294 : ∀ w ∈ (vx_atS RX7 294 twX3 twXs).filter (fun w => !goodWord w), w ∈ [Cond.castable twX3 twX3, twD1, twD2, twD3] := by decide +kernel
theorem tw_gd_294 : ∀ w ∈ Cond.classLink RX7 290 twX3 :: Cond.initialized twX3 :: vx_atS RX7 294 twX3 twXs, vx_ot w = true := by decide +kernel
theorem hd_X7_requireIndex : yX7_requireIndex.cls ≠ "java/lang/invoke/MethodHandle" ∧ yX7_requireIndex.cls ≠ "java/lang/invoke/VarHandle" ∧ (parseMethodDescriptor yX7_requireIndex.desc).map (fun d => d.parameters.length) = some 2 := by decide +kernel
theorem hd_X7_requireSegment : yX7_requireSegment.cls ≠ "java/lang/invoke/MethodHandle" ∧ yX7_requireSegment.cls ≠ "java/lang/invoke/VarHandle" ∧ (parseMethodDescriptor yX7_requireSegment.desc).map (fun d => d.parameters.length) = some 1 := by decide +kernel
theorem hd_X7_requireRange : yX7_requireRange.cls ≠ "java/lang/invoke/MethodHandle" ∧ yX7_requireRange.cls ≠ "java/lang/invoke/VarHandle" ∧ (parseMethodDescriptor yX7_requireRange.desc).map (fun d => d.parameters.length) = some 3 := by decide +kernel
theorem hd_X7_requireState : yX7_requireState.cls ≠ "java/lang/invoke/MethodHandle" ∧ yX7_requireState.cls ≠ "java/lang/invoke/VarHandle" ∧ (parseMethodDescriptor yX7_requireState.desc).map (fun d => d.parameters.length) = some 1 := by decide +kernel
theorem hd_X7_build : yX7_build.cls = RX7 ∧ yX7_build.cls ≠ "java/lang/invoke/MethodHandle" ∧ yX7_build.cls ≠ "java/lang/invoke/VarHandle" ∧ (parseMethodDescriptor yX7_build.desc).map (fun d => d.parameters.length) = some 2 := by decide +kernel
theorem hd_X7_people : yX7_people.cls = RX7 ∧ yX7_people.cls ≠ "java/lang/invoke/MethodHandle" ∧ yX7_people.cls ≠ "java/lang/invoke/VarHandle" ∧ (parseMethodDescriptor yX7_people.desc).map (fun d => d.parameters.length) = some 2 := by decide +kernel
theorem hd_X7_wind : yX7_wind.cls = RX7 ∧ yX7_wind.cls ≠ "java/lang/invoke/MethodHandle" ∧ yX7_wind.cls ≠ "java/lang/invoke/VarHandle" ∧ (parseMethodDescriptor yX7_wind.desc).map (fun d => d.parameters.length) = some 1 := by decide +kernel
theorem hd_X7_fire : yX7_fire.cls = RX7 ∧ yX7_fire.cls ≠ "java/lang/invoke/MethodHandle" ∧ yX7_fire.cls ≠ "java/lang/invoke/VarHandle" ∧ (parseMethodDescriptor yX7_fire.desc).map (fun d => d.parameters.length) = some 2 := by decide +kernel
theorem hd_X7_feed : yX7_feed.cls = RX7 ∧ yX7_feed.cls ≠ "java/lang/invoke/MethodHandle" ∧ yX7_feed.cls ≠ "java/lang/invoke/VarHandle" ∧ (parseMethodDescriptor yX7_feed.desc).map (fun d => d.parameters.length) = some 2 := by decide +kernel
theorem hd_X7_failFan : yX7_failFan.cls = RX7 ∧ yX7_failFan.cls ≠ "java/lang/invoke/MethodHandle" ∧ yX7_failFan.cls ≠ "java/lang/invoke/VarHandle" ∧ (parseMethodDescriptor yX7_failFan.desc).map (fun d => d.parameters.length) = some 2 := by decide +kernel
theorem hd_X7_requireDoor : yX7_requireDoor.cls = RX7 ∧ yX7_requireDoor.cls ≠ "java/lang/invoke/MethodHandle" ∧ yX7_requireDoor.cls ≠ "java/lang/invoke/VarHandle" ∧ (parseMethodDescriptor yX7_requireDoor.desc).map (fun d => d.parameters.length) = some 1 := by decide +kernel
theorem hd_X7_failDoor : yX7_failDoor.cls = RX7 ∧ yX7_failDoor.cls ≠ "java/lang/invoke/MethodHandle" ∧ yX7_failDoor.cls ≠ "java/lang/invoke/VarHandle" ∧ (parseMethodDescriptor yX7_failDoor.desc).map (fun d => d.parameters.length) = some 2 := by decide +kernel
theorem hd_X7_failDetector : yX7_failDetector.cls = RX7 ∧ yX7_failDetector.cls ≠ "java/lang/invoke/MethodHandle" ∧ yX7_failDetector.cls ≠ "java/lang/invoke/VarHandle" ∧ (parseMethodDescriptor yX7_failDetector.desc).map (fun d => d.parameters.length) = some 3 := by decide +kernel
theorem hd_X7_act : yX7_act.cls = RX7 ∧ yX7_act.cls ≠ "java/lang/invoke/MethodHandle" ∧ yX7_act.cls ≠ "java/lang/invoke/VarHandle" ∧ (parseMethodDescriptor yX7_act.desc).map (fun d => d.parameters.length) = some 3 := by decide +kernel
theorem hd_X7_command : yX7_command.cls = RX7 ∧ yX7_command.cls ≠ "java/lang/invoke/MethodHandle" ∧ yX7_command.cls ≠ "java/lang/invoke/VarHandle" ∧ (parseMethodDescriptor yX7_command.desc).map (fun d => d.parameters.length) = some 2 := by decide +kernel
theorem hd_X7_step : yX7_step.cls = RX7 ∧ yX7_step.cls ≠ "java/lang/invoke/MethodHandle" ∧ yX7_step.cls ≠ "java/lang/invoke/VarHandle" ∧ (parseMethodDescriptor yX7_step.desc).map (fun d => d.parameters.length) = some 1 := by decide +kernel
/-! X7_requireIndex: private static void requireIndex(int, int) -/
abbrev rm_X7_requireIndex : Room := { frames := 1, cells := 0, slots := 0, locals := 23 }
def f_X7_requireIndex (st : twS) (v0 : Int32) (v1 : Int32) : Option ((String × twS) ⊕ (twS)) :=
  (if v0 < 0 then
    some (.inl ("java/lang/IndexOutOfBoundsException", st))
  else
    (if v0 < v1 then
    some (.inr st)
  else
    some (.inl ("java/lang/IndexOutOfBoundsException", st))))
section
variable {p : Program} {l : Launch} {e : Env} {s : State} {m : MethodId} {args : Array Value} {below : List Frame} {meth : Method} {c : Code} {Q : State → Prop} {dC : Nat → ClassId} {dI : Nat → Nat → Nat} {cI cZ : ClassId} {q : Nat → Nat} {A : Nat → Prop} {res : twS}
set_option maxRecDepth 20000 in
theorem c_X7_requireIndex (l : Launch) (dC : Nat → ClassId) (dI : Nat → Nat → Nat) (cI cZ : ClassId) (q : Nat → Nat) {st : twS} {v0 : Int32} {v1 : Int32} {res : twS} (hf : f_X7_requireIndex st v0 v1 = some (.inr res)) : twMv l yX7_requireIndex wsX7_requireIndex rm_X7_requireIndex (dC, dI) (twY cI cZ) [.int v0, .int v1] (twT cI cZ q st) (twT cI cZ q res) := by
  refine tw_entv (cc := cX7_requireIndex) (maxL := 2) (own := RX7) (by decide) rfl (Nat.le_of_ble_eq_true rfl) rfl ⟨rfl, rfl⟩ ?_
  intro p e s m below meth c A Q C hE
  generalize ([.int v0, .int v1] : List Value).toArray = args at C hE ⊢
  refine tw_sub (lv' := [(0, .int v0), (1, .int v1)]) [0, 1] rfl ?_
  unfold f_X7_requireIndex at hf
  refine tw_iload_n C dX7_requireIndex_0 0 rfl rfl ?_
  refine tw_if_lt (tgt := 9) C dX7_requireIndex_1 (by decide) (fun c1 => ?_) (fun c1 => ?_)
  · have hf := tw_pos hf c1
    cases hf
  · have hf := tw_neg hf c1
    refine tw_iload_n C dX7_requireIndex_4 0 rfl rfl ?_
    refine tw_iload_n C dX7_requireIndex_5 1 rfl rfl ?_
    refine tw_icmp_lt (tgt := 20) C dX7_requireIndex_6 (by decide) (fun c2 => ?_) (fun c2 => ?_)
    · have hf := tw_pos hf c2
      exact tw_endv (Wf := twT cI cZ q) hE (tw_inr hf) dX7_requireIndex_20
    · have hf := tw_neg hf c2
      cases hf
end
abbrev rmx_X7_requireIndex : Room := { frames := 6, cells := 1, slots := 6, locals := 82 }
section
variable {p : Program} {l : Launch} {e : Env} {s : State} {m : MethodId} {args : Array Value} {below : List Frame} {meth : Method} {c : Code} {Q : State → Prop} {dC : Nat → ClassId} {dI : Nat → Nat → Nat} {cI cZ : ClassId} {q : Nat → Nat} {A : Nat → Prop} {res : String × twS}
set_option maxRecDepth 20000 in
theorem x_X7_requireIndex (l : Launch) (hl0 : l.stackTraces = false) (dC : Nat → ClassId) (dI : Nat → Nat → Nat) (cI cZ : ClassId) (q : Nat → Nat) {st : twS} {v0 : Int32} {v1 : Int32} {res : String × twS} (hf : f_X7_requireIndex st v0 v1 = some (.inl res)) : twMx l yX7_requireIndex wsX7_requireIndex rmx_X7_requireIndex (dC, dI) (twY cI cZ) [.int v0, .int v1] (twT cI cZ q st) res.1 (twT cI cZ q res.2) := by
  refine tw_entx (cc := cX7_requireIndex) (maxL := 2) (own := RX7) (by decide) rfl (Nat.le_of_ble_eq_true rfl) rfl ?_
  intro p e s m below meth c A C X0 hnt
  generalize ([.int v0, .int v1] : List Value).toArray = args at C ⊢
  refine tw_sub (lv' := [(0, .int v0), (1, .int v1)]) [0, 1] rfl ?_
  unfold f_X7_requireIndex at hf
  refine tw_iload_n C dX7_requireIndex_0 0 rfl rfl ?_
  refine tw_if_lt (tgt := 9) C dX7_requireIndex_1 (by decide) (fun c1 => ?_) (fun c1 => ?_)
  · have hf := tw_pos hf c1
    cases hf
    exact tw_thr C hl0 X0 hnt (E := twX1) (by decide) (List.mem_cons_of_mem _ (List.mem_append_left _ (List.mem_of_getElem? (i := 0) rfl))) (List.mem_cons_of_mem _ (List.mem_append_left _ (List.mem_of_getElem? (i := 1) rfl))) X0.2.2.1 (fun _ h => List.mem_cons_of_mem _ (List.mem_append_right _ (h))) tw_ng_280 X0.2.2.2.2.2.2.1 tw_gd_280 dX7_requireIndex_9 dX7_requireIndex_12 dX7_requireIndex_13 dX7_requireIndex_16 dX7_requireIndex_19 (Nat.le_of_ble_eq_true rfl) (Nat.le_of_ble_eq_true rfl) (Nat.le_of_ble_eq_true rfl) (Nat.le_of_ble_eq_true rfl)
  · have hf := tw_neg hf c1
    refine tw_iload_n C dX7_requireIndex_4 0 rfl rfl ?_
    refine tw_iload_n C dX7_requireIndex_5 1 rfl rfl ?_
    refine tw_icmp_lt (tgt := 20) C dX7_requireIndex_6 (by decide) (fun c2 => ?_) (fun c2 => ?_)
    · have hf := tw_pos hf c2
      cases hf
    · have hf := tw_neg hf c2
      cases hf
      exact tw_thr C hl0 X0 hnt (E := twX1) (by decide) (List.mem_cons_of_mem _ (List.mem_append_left _ (List.mem_of_getElem? (i := 0) rfl))) (List.mem_cons_of_mem _ (List.mem_append_left _ (List.mem_of_getElem? (i := 1) rfl))) X0.2.2.1 (fun _ h => List.mem_cons_of_mem _ (List.mem_append_right _ (h))) tw_ng_280 X0.2.2.2.2.2.2.1 tw_gd_280 dX7_requireIndex_9 dX7_requireIndex_12 dX7_requireIndex_13 dX7_requireIndex_16 dX7_requireIndex_19 (Nat.le_of_ble_eq_true rfl) (Nat.le_of_ble_eq_true rfl) (Nat.le_of_ble_eq_true rfl) (Nat.le_of_ble_eq_true rfl)
end
/-! X7_requireSegment: private static void requireSegment(int) -/
abbrev rm_X7_requireSegment : Room := { frames := 2, cells := 0, slots := 0, locals := 44 }
def f_X7_requireSegment (st : twS) (v0 : Int32) : Option ((String × twS) ⊕ (twS)) :=
  ((f_X7_requireIndex st v0 12).bind fun w1 => twTry w1 fun y1 => some (.inr y1))
section
variable {p : Program} {l : Launch} {e : Env} {s : State} {m : MethodId} {args : Array Value} {below : List Frame} {meth : Method} {c : Code} {Q : State → Prop} {dC : Nat → ClassId} {dI : Nat → Nat → Nat} {cI cZ : ClassId} {q : Nat → Nat} {A : Nat → Prop} {res : twS}
set_option maxRecDepth 20000 in
theorem c_X7_requireSegment (l : Launch) (dC : Nat → ClassId) (dI : Nat → Nat → Nat) (cI cZ : ClassId) (q : Nat → Nat) {st : twS} {v0 : Int32} {res : twS} (hf : f_X7_requireSegment st v0 = some (.inr res)) : twMv l yX7_requireSegment wsX7_requireSegment rm_X7_requireSegment (dC, dI) (twY cI cZ) [.int v0] (twT cI cZ q st) (twT cI cZ q res) := by
  refine tw_entv (cc := cX7_requireSegment) (maxL := 1) (own := RX7) (by decide) rfl (Nat.le_of_ble_eq_true rfl) rfl ⟨rfl, rfl⟩ ?_
  intro p e s m below meth c A Q C hE
  generalize ([.int v0] : List Value).toArray = args at C hE ⊢
  refine tw_sub (lv' := [(0, .int v0)]) [0] rfl ?_
  unfold f_X7_requireSegment at hf
  refine tw_iload_n C dX7_requireSegment_0 0 rfl rfl ?_
  refine tw_bipush (v := 12) C dX7_requireSegment_1 (by decide) ?_
  obtain ⟨y1, hc1, hf⟩ := tw_tryN hf
  refine tw_cSv (As := [.int v0, .int 12]) (stk := []) C (c_X7_requireIndex l dC dI cI cZ q hc1) (va_cwS 2 C.hts gX7_requireSegment_X7_requireIndex rfl rfl rfl hd_X7_requireIndex ⟨Nat.le_of_ble_eq_true rfl, Nat.le_of_ble_eq_true rfl⟩) rfl rfl (Nat.le_of_ble_eq_true rfl) dX7_requireSegment_3 ⟨Nat.zero_le _, Nat.zero_le _⟩ ?_
  exact tw_endv (Wf := twT cI cZ q) hE (tw_inr hf) dX7_requireSegment_6
end
abbrev rmx_X7_requireSegment : Room := { frames := 7, cells := 1, slots := 6, locals := 103 }
section
variable {p : Program} {l : Launch} {e : Env} {s : State} {m : MethodId} {args : Array Value} {below : List Frame} {meth : Method} {c : Code} {Q : State → Prop} {dC : Nat → ClassId} {dI : Nat → Nat → Nat} {cI cZ : ClassId} {q : Nat → Nat} {A : Nat → Prop} {res : String × twS}
set_option maxRecDepth 20000 in
theorem x_X7_requireSegment (l : Launch) (hl0 : l.stackTraces = false) (dC : Nat → ClassId) (dI : Nat → Nat → Nat) (cI cZ : ClassId) (q : Nat → Nat) {st : twS} {v0 : Int32} {res : String × twS} (hf : f_X7_requireSegment st v0 = some (.inl res)) : twMx l yX7_requireSegment wsX7_requireSegment rmx_X7_requireSegment (dC, dI) (twY cI cZ) [.int v0] (twT cI cZ q st) res.1 (twT cI cZ q res.2) := by
  refine tw_entx (cc := cX7_requireSegment) (maxL := 1) (own := RX7) (by decide) rfl (Nat.le_of_ble_eq_true rfl) rfl ?_
  intro p e s m below meth c A C X0 hnt
  generalize ([.int v0] : List Value).toArray = args at C ⊢
  refine tw_sub (lv' := [(0, .int v0)]) [0] rfl ?_
  unfold f_X7_requireSegment at hf
  refine tw_iload_n C dX7_requireSegment_0 0 rfl rfl ?_
  refine tw_bipush (v := 12) C dX7_requireSegment_1 (by decide) ?_
  rcases tw_tryX hf with hx1 | ⟨y1, hc1, hf⟩
  · exact tw_xS (As := [.int v0, .int 12]) (stk := []) C X0 hnt (x_X7_requireIndex l hl0 dC dI cI cZ q hx1) (va_cwS 2 C.hts gX7_requireSegment_X7_requireIndex rfl rfl rfl hd_X7_requireIndex ⟨Nat.le_of_ble_eq_true rfl, Nat.le_of_ble_eq_true rfl⟩) rfl rfl (Nat.le_of_ble_eq_true rfl) dX7_requireSegment_3 ⟨Nat.le_of_ble_eq_true rfl, Nat.le_of_ble_eq_true rfl⟩
  refine tw_cSv (As := [.int v0, .int 12]) (stk := []) C (c_X7_requireIndex l dC dI cI cZ q hc1) (va_cwS 2 C.hts gX7_requireSegment_X7_requireIndex rfl rfl rfl hd_X7_requireIndex ⟨Nat.le_of_ble_eq_true rfl, Nat.le_of_ble_eq_true rfl⟩) rfl rfl (Nat.le_of_ble_eq_true rfl) dX7_requireSegment_3 ⟨Nat.zero_le _, Nat.zero_le _⟩ ?_
  cases hf
end
/-! X7_requireRange: private static void requireRange(int, int, int) -/
abbrev rm_X7_requireRange : Room := { frames := 1, cells := 0, slots := 0, locals := 23 }
def f_X7_requireRange (st : twS) (v0 : Int32) (v1 : Int32) (v2 : Int32) : Option ((String × twS) ⊕ (twS)) :=
  (if v0 < v1 then
    some (.inl ("java/lang/IllegalArgumentException", st))
  else
    (if v0 ≤ v2 then
    some (.inr st)
  else
    some (.inl ("java/lang/IllegalArgumentException", st))))
section
variable {p : Program} {l : Launch} {e : Env} {s : State} {m : MethodId} {args : Array Value} {below : List Frame} {meth : Method} {c : Code} {Q : State → Prop} {dC : Nat → ClassId} {dI : Nat → Nat → Nat} {cI cZ : ClassId} {q : Nat → Nat} {A : Nat → Prop} {res : twS}
set_option maxRecDepth 20000 in
theorem c_X7_requireRange (l : Launch) (dC : Nat → ClassId) (dI : Nat → Nat → Nat) (cI cZ : ClassId) (q : Nat → Nat) {st : twS} {v0 : Int32} {v1 : Int32} {v2 : Int32} {res : twS} (hf : f_X7_requireRange st v0 v1 v2 = some (.inr res)) : twMv l yX7_requireRange wsX7_requireRange rm_X7_requireRange (dC, dI) (twY cI cZ) [.int v0, .int v1, .int v2] (twT cI cZ q st) (twT cI cZ q res) := by
  refine tw_entv (cc := cX7_requireRange) (maxL := 3) (own := RX7) (by decide) rfl (Nat.le_of_ble_eq_true rfl) rfl ⟨rfl, rfl⟩ ?_
  intro p e s m below meth c A Q C hE
  generalize ([.int v0, .int v1, .int v2] : List Value).toArray = args at C hE ⊢
  refine tw_sub (lv' := [(0, .int v0), (1, .int v1), (2, .int v2)]) [0, 1, 2] rfl ?_
  unfold f_X7_requireRange at hf
  refine tw_iload_n C dX7_requireRange_0 0 rfl rfl ?_
  refine tw_iload_n C dX7_requireRange_1 1 rfl rfl ?_
  refine tw_icmp_lt (tgt := 10) C dX7_requireRange_2 (by decide) (fun c1 => ?_) (fun c1 => ?_)
  · have hf := tw_pos hf c1
    cases hf
  · have hf := tw_neg hf c1
    refine tw_iload_n C dX7_requireRange_5 0 rfl rfl ?_
    refine tw_iload_n C dX7_requireRange_6 2 rfl rfl ?_
    refine tw_icmp_le (tgt := 21) C dX7_requireRange_7 (by decide) (fun c2 => ?_) (fun c2 => ?_)
    · have hf := tw_pos hf c2
      exact tw_endv (Wf := twT cI cZ q) hE (tw_inr hf) dX7_requireRange_21
    · have hf := tw_neg hf c2
      cases hf
end
abbrev rmx_X7_requireRange : Room := { frames := 6, cells := 1, slots := 6, locals := 82 }
section
variable {p : Program} {l : Launch} {e : Env} {s : State} {m : MethodId} {args : Array Value} {below : List Frame} {meth : Method} {c : Code} {Q : State → Prop} {dC : Nat → ClassId} {dI : Nat → Nat → Nat} {cI cZ : ClassId} {q : Nat → Nat} {A : Nat → Prop} {res : String × twS}
set_option maxRecDepth 20000 in
theorem x_X7_requireRange (l : Launch) (hl0 : l.stackTraces = false) (dC : Nat → ClassId) (dI : Nat → Nat → Nat) (cI cZ : ClassId) (q : Nat → Nat) {st : twS} {v0 : Int32} {v1 : Int32} {v2 : Int32} {res : String × twS} (hf : f_X7_requireRange st v0 v1 v2 = some (.inl res)) : twMx l yX7_requireRange wsX7_requireRange rmx_X7_requireRange (dC, dI) (twY cI cZ) [.int v0, .int v1, .int v2] (twT cI cZ q st) res.1 (twT cI cZ q res.2) := by
  refine tw_entx (cc := cX7_requireRange) (maxL := 3) (own := RX7) (by decide) rfl (Nat.le_of_ble_eq_true rfl) rfl ?_
  intro p e s m below meth c A C X0 hnt
  generalize ([.int v0, .int v1, .int v2] : List Value).toArray = args at C ⊢
  refine tw_sub (lv' := [(0, .int v0), (1, .int v1), (2, .int v2)]) [0, 1, 2] rfl ?_
  unfold f_X7_requireRange at hf
  refine tw_iload_n C dX7_requireRange_0 0 rfl rfl ?_
  refine tw_iload_n C dX7_requireRange_1 1 rfl rfl ?_
  refine tw_icmp_lt (tgt := 10) C dX7_requireRange_2 (by decide) (fun c1 => ?_) (fun c1 => ?_)
  · have hf := tw_pos hf c1
    cases hf
    exact tw_thr C hl0 X0 hnt (E := twX2) (by decide) (List.mem_cons_of_mem _ (List.mem_append_left _ (List.mem_of_getElem? (i := 0) rfl))) (List.mem_cons_of_mem _ (List.mem_append_left _ (List.mem_of_getElem? (i := 1) rfl))) X0.2.2.2.1 (fun _ h => List.mem_cons_of_mem _ (List.mem_append_right _ (h))) tw_ng_289 X0.2.2.2.2.2.2.2.1 tw_gd_289 dX7_requireRange_10 dX7_requireRange_13 dX7_requireRange_14 dX7_requireRange_17 dX7_requireRange_20 (Nat.le_of_ble_eq_true rfl) (Nat.le_of_ble_eq_true rfl) (Nat.le_of_ble_eq_true rfl) (Nat.le_of_ble_eq_true rfl)
  · have hf := tw_neg hf c1
    refine tw_iload_n C dX7_requireRange_5 0 rfl rfl ?_
    refine tw_iload_n C dX7_requireRange_6 2 rfl rfl ?_
    refine tw_icmp_le (tgt := 21) C dX7_requireRange_7 (by decide) (fun c2 => ?_) (fun c2 => ?_)
    · have hf := tw_pos hf c2
      cases hf
    · have hf := tw_neg hf c2
      cases hf
      exact tw_thr C hl0 X0 hnt (E := twX2) (by decide) (List.mem_cons_of_mem _ (List.mem_append_left _ (List.mem_of_getElem? (i := 0) rfl))) (List.mem_cons_of_mem _ (List.mem_append_left _ (List.mem_of_getElem? (i := 1) rfl))) X0.2.2.2.1 (fun _ h => List.mem_cons_of_mem _ (List.mem_append_right _ (h))) tw_ng_289 X0.2.2.2.2.2.2.2.1 tw_gd_289 dX7_requireRange_10 dX7_requireRange_13 dX7_requireRange_14 dX7_requireRange_17 dX7_requireRange_20 (Nat.le_of_ble_eq_true rfl) (Nat.le_of_ble_eq_true rfl) (Nat.le_of_ble_eq_true rfl) (Nat.le_of_ble_eq_true rfl)
end
/-! X7_requireState: private static void requireState(boolean) -/
abbrev rm_X7_requireState : Room := { frames := 1, cells := 0, slots := 0, locals := 23 }
def f_X7_requireState (st : twS) (v0 : Int32) : Option ((String × twS) ⊕ (twS)) :=
  (if v0 = 0 then
    some (.inl ("java/lang/IllegalStateException", st))
  else
    some (.inr st))
section
variable {p : Program} {l : Launch} {e : Env} {s : State} {m : MethodId} {args : Array Value} {below : List Frame} {meth : Method} {c : Code} {Q : State → Prop} {dC : Nat → ClassId} {dI : Nat → Nat → Nat} {cI cZ : ClassId} {q : Nat → Nat} {A : Nat → Prop} {res : twS}
set_option maxRecDepth 20000 in
theorem c_X7_requireState (l : Launch) (dC : Nat → ClassId) (dI : Nat → Nat → Nat) (cI cZ : ClassId) (q : Nat → Nat) {st : twS} {v0 : Int32} {res : twS} (hf : f_X7_requireState st v0 = some (.inr res)) : twMv l yX7_requireState wsX7_requireState rm_X7_requireState (dC, dI) (twY cI cZ) [.int v0] (twT cI cZ q st) (twT cI cZ q res) := by
  refine tw_entv (cc := cX7_requireState) (maxL := 1) (own := RX7) (by decide) rfl (Nat.le_of_ble_eq_true rfl) rfl ⟨rfl, rfl⟩ ?_
  intro p e s m below meth c A Q C hE
  generalize ([.int v0] : List Value).toArray = args at C hE ⊢
  refine tw_sub (lv' := [(0, .int v0)]) [0] rfl ?_
  unfold f_X7_requireState at hf
  refine tw_iload_n C dX7_requireState_0 0 rfl rfl ?_
  refine tw_if_ne (tgt := 15) C dX7_requireState_1 (by decide) (fun c1 => ?_) (fun c1 => ?_)
  · have hf := tw_neg hf c1
    exact tw_endv (Wf := twT cI cZ q) hE (tw_inr hf) dX7_requireState_15
  · have hf := tw_pos hf c1
    cases hf
end
abbrev rmx_X7_requireState : Room := { frames := 6, cells := 1, slots := 6, locals := 82 }
section
variable {p : Program} {l : Launch} {e : Env} {s : State} {m : MethodId} {args : Array Value} {below : List Frame} {meth : Method} {c : Code} {Q : State → Prop} {dC : Nat → ClassId} {dI : Nat → Nat → Nat} {cI cZ : ClassId} {q : Nat → Nat} {A : Nat → Prop} {res : String × twS}
set_option maxRecDepth 20000 in
theorem x_X7_requireState (l : Launch) (hl0 : l.stackTraces = false) (dC : Nat → ClassId) (dI : Nat → Nat → Nat) (cI cZ : ClassId) (q : Nat → Nat) {st : twS} {v0 : Int32} {res : String × twS} (hf : f_X7_requireState st v0 = some (.inl res)) : twMx l yX7_requireState wsX7_requireState rmx_X7_requireState (dC, dI) (twY cI cZ) [.int v0] (twT cI cZ q st) res.1 (twT cI cZ q res.2) := by
  refine tw_entx (cc := cX7_requireState) (maxL := 1) (own := RX7) (by decide) rfl (Nat.le_of_ble_eq_true rfl) rfl ?_
  intro p e s m below meth c A C X0 hnt
  generalize ([.int v0] : List Value).toArray = args at C ⊢
  refine tw_sub (lv' := [(0, .int v0)]) [0] rfl ?_
  unfold f_X7_requireState at hf
  refine tw_iload_n C dX7_requireState_0 0 rfl rfl ?_
  refine tw_if_ne (tgt := 15) C dX7_requireState_1 (by decide) (fun c1 => ?_) (fun c1 => ?_)
  · have hf := tw_neg hf c1
    cases hf
  · have hf := tw_pos hf c1
    cases hf
    exact tw_thr C hl0 X0 hnt (E := twX3) (by decide) (List.mem_cons_of_mem _ (List.mem_append_left _ (List.mem_of_getElem? (i := 0) rfl))) (List.mem_cons_of_mem _ (List.mem_append_left _ (List.mem_of_getElem? (i := 1) rfl))) X0.2.2.2.2.1 (fun _ h => List.mem_cons_of_mem _ (List.mem_append_right _ (h))) tw_ng_294 X0.2.2.2.2.2.2.2.2.1 tw_gd_294 dX7_requireState_4 dX7_requireState_7 dX7_requireState_8 dX7_requireState_11 dX7_requireState_14 (Nat.le_of_ble_eq_true rfl) (Nat.le_of_ble_eq_true rfl) (Nat.le_of_ble_eq_true rfl) (Nat.le_of_ble_eq_true rfl)
end
/-! X7_build: public void build(int, int) throws java.lang.IndexOutOfBoundsException, java.lang.IllegalArgumentException, java.lang.IllegalStateException -/
abbrev rm_X7_build : Room := { frames := 3, cells := 0, slots := 0, locals := 64 }
def f_X7_build_L24 (v1 : Int32) (v2 : Int32) (k0 : Int32) (st : twS) : Option ((String × twS) ⊕ (twS)) :=
  ((f_X7_requireState st k0).bind fun w24001 => twTry w24001 fun y24001 => ((f_X4_place y24001 v1).bind fun y24002 => some (.inr (twI (twI y24002 0 v2) 1 0))))
def f_X7_build (st : twS) (v1 : Int32) (v2 : Int32) : Option ((String × twS) ⊕ (twS)) :=
  ((f_X7_requireSegment st v2).bind fun w1 => twTry w1 fun y1 => ((f_X7_requireRange y1 v1 0 4095).bind fun w2 => twTry w2 fun y2 => (if (y2.1 4) = 0 then
    f_X7_build_L24 v1 v2 1 y2
  else
    f_X7_build_L24 v1 v2 0 y2)))
section
variable {p : Program} {l : Launch} {e : Env} {s : State} {m : MethodId} {args : Array Value} {below : List Frame} {meth : Method} {c : Code} {Q : State → Prop} {dC : Nat → ClassId} {dI : Nat → Nat → Nat} {cI cZ : ClassId} {q : Nat → Nat} {A : Nat → Prop} {res : twS}
set_option maxRecDepth 20000 in
theorem m_X7_build_L24 (C : twC p s m args meth c cX7_build 3 RX7 wsX7_build (dC, dI) (twY cI cZ) A) (hE : twEv p l e rm_X7_build s m args below meth c 0 0 Q (dC, dI) A 3 cX7_build (twT cI cZ q res)) : ∀ (v1 : Int32) (v2 : Int32) (k0 : Int32) (st : twS), f_X7_build_L24 v1 v2 k0 st = some (.inr res) → twG p l e rm_X7_build s m args below meth c 0 0 Q (dC, dI) A 3 (twT cI cZ q st) 24 [(0, .ref (q 0)), (1, .int v1), (2, .int v2)] [.int k0] := by
  intro v1 v2 k0 st hf
  unfold f_X7_build_L24 at hf
  obtain ⟨y24001, hc24001, hf⟩ := tw_tryN hf
  refine tw_cSv (As := [.int k0]) (stk := []) C (c_X7_requireState l dC dI cI cZ q hc24001) (va_cwS 1 C.hts gX7_build_X7_requireState rfl rfl rfl hd_X7_requireState ⟨Nat.le_of_ble_eq_true rfl, Nat.le_of_ble_eq_true rfl⟩) rfl rfl (Nat.le_of_ble_eq_true rfl) dX7_build_24 ⟨Nat.zero_le _, Nat.zero_le _⟩ ?_
  refine tw_aload_n C dX7_build_27 0 rfl rfl ?_
  refine tw_get (K := RX7) (T := TX7) (N := 14) (v := .ref (q 5)) C 0 4 (fun _ h => List.mem_cons_of_mem _ (List.mem_append_left _ (List.mem_append_left _ (List.mem_append_left _ (List.mem_append_left _ (List.mem_append_right _ (h))))))) rfl rfl (by decide) (List.mem_cons_of_mem _ (List.mem_append_left _ (List.mem_append_left _ (List.mem_append_left _ (List.mem_append_left _ (List.mem_append_left _ (List.mem_append_left _ (List.mem_of_getElem? (i := 1) rfl)))))))) rfl rfl dX7_build_28 ?_
  refine tw_iload_n C dX7_build_31 1 rfl rfl ?_
  obtain ⟨y24002, hc24002, hf⟩ := tw_bd hf
  refine tw_cVv (As := [.int v1]) (stk := []) C (c_X4_place l dC dI cI cZ q hc24002) (cwV 1 C.hts gX7_build_X4_place rfl rfl rfl hd_X4_place ⟨Nat.le_of_ble_eq_true rfl, Nat.le_of_ble_eq_true rfl⟩) 5 (ci := 4) rfl rfl rfl rfl rfl (Nat.le_of_ble_eq_true rfl) dX7_build_32 ⟨Nat.zero_le _, Nat.zero_le _⟩ ?_
  refine tw_aload_n C dX7_build_35 0 rfl rfl ?_
  refine tw_iload_n C dX7_build_36 2 rfl rfl ?_
  refine tw_put (K := RX7) (T := TX7) (N := 14) C 0 9 tyX7 tyX7_ok nmX7 (fun _ h => List.mem_cons_of_mem _ (List.mem_append_left _ (List.mem_append_left _ (List.mem_append_left _ (List.mem_append_left _ (List.mem_append_right _ (h))))))) rfl rfl (by decide) (List.mem_cons_of_mem _ (List.mem_append_left _ (List.mem_append_left _ (List.mem_append_left _ (List.mem_append_left _ (List.mem_append_left _ (List.mem_append_left _ (List.mem_of_getElem? (i := 2) rfl)))))))) rfl rfl rfl rfl (Nat.le_of_ble_eq_true rfl) (tw_T_si0 cI cZ q y24002 v2) dX7_build_37 ?_
  refine tw_aload_n C dX7_build_40 0 rfl rfl ?_
  refine tw_iconst (v := 0) C dX7_build_41 (by decide) ?_
  refine tw_put (K := RX7) (T := TX7) (N := 14) C 0 10 tyX7 tyX7_ok nmX7 (fun _ h => List.mem_cons_of_mem _ (List.mem_append_left _ (List.mem_append_left _ (List.mem_append_left _ (List.mem_append_left _ (List.mem_append_right _ (h))))))) rfl rfl (by decide) (List.mem_cons_of_mem _ (List.mem_append_left _ (List.mem_append_left _ (List.mem_append_left _ (List.mem_append_left _ (List.mem_append_left _ (List.mem_append_left _ (List.mem_of_getElem? (i := 3) rfl)))))))) rfl rfl rfl rfl (Nat.le_of_ble_eq_true rfl) (tw_T_si1 cI cZ q (twI y24002 0 v2) 0) dX7_build_42 ?_
  exact tw_endv (Wf := twT cI cZ q) hE (tw_inr hf) dX7_build_45
set_option maxRecDepth 20000 in
theorem c_X7_build (l : Launch) (dC : Nat → ClassId) (dI : Nat → Nat → Nat) (cI cZ : ClassId) (q : Nat → Nat) {st : twS} {v1 : Int32} {v2 : Int32} {res : twS} (hf : f_X7_build st v1 v2 = some (.inr res)) : twMv l yX7_build wsX7_build rm_X7_build (dC, dI) (twY cI cZ) [.ref (q 0), .int v1, .int v2] (twT cI cZ q st) (twT cI cZ q res) := by
  refine tw_entv (cc := cX7_build) (maxL := 3) (own := RX7) (by decide) rfl (Nat.le_of_ble_eq_true rfl) rfl ⟨rfl, rfl⟩ ?_
  intro p e s m below meth c A Q C hE
  generalize ([.ref (q 0), .int v1, .int v2] : List Value).toArray = args at C hE ⊢
  refine tw_sub (lv' := [(0, .ref (q 0)), (1, .int v1), (2, .int v2)]) [0, 1, 2] rfl ?_
  unfold f_X7_build at hf
  refine tw_iload_n C dX7_build_0 2 rfl rfl ?_
  obtain ⟨y1, hc1, hf⟩ := tw_tryN hf
  refine tw_cSv (As := [.int v2]) (stk := []) C (c_X7_requireSegment l dC dI cI cZ q hc1) (va_cwS 1 C.hts gX7_build_X7_requireSegment rfl rfl rfl hd_X7_requireSegment ⟨Nat.le_of_ble_eq_true rfl, Nat.le_of_ble_eq_true rfl⟩) rfl rfl (Nat.le_of_ble_eq_true rfl) dX7_build_1 ⟨Nat.zero_le _, Nat.zero_le _⟩ ?_
  refine tw_iload_n C dX7_build_4 1 rfl rfl ?_
  refine tw_iconst (v := 0) C dX7_build_5 (by decide) ?_
  refine tw_sipush (v := 4095) C dX7_build_6 (by decide) ?_
  obtain ⟨y2, hc2, hf⟩ := tw_tryN hf
  refine tw_cSv (As := [.int v1, .int 0, .int 4095]) (stk := []) C (c_X7_requireRange l dC dI cI cZ q hc2) (va_cwS 3 C.hts gX7_build_X7_requireRange rfl rfl rfl hd_X7_requireRange ⟨Nat.le_of_ble_eq_true rfl, Nat.le_of_ble_eq_true rfl⟩) rfl rfl (Nat.le_of_ble_eq_true rfl) dX7_build_9 ⟨Nat.zero_le _, Nat.zero_le _⟩ ?_
  refine tw_aload_n C dX7_build_12 0 rfl rfl ?_
  refine tw_get (K := RX7) (T := TX7) (N := 14) (v := .int (y2.1 4)) C 0 13 (fun _ h => List.mem_cons_of_mem _ (List.mem_append_left _ (List.mem_append_left _ (List.mem_append_left _ (List.mem_append_left _ (List.mem_append_right _ (h))))))) rfl rfl (by decide) (List.mem_cons_of_mem _ (List.mem_append_left _ (List.mem_append_left _ (List.mem_append_left _ (List.mem_append_left _ (List.mem_append_left _ (List.mem_append_left _ (List.mem_of_getElem? (i := 0) rfl)))))))) rfl rfl dX7_build_13 ?_
  refine tw_if_ne (tgt := 23) C dX7_build_16 (by decide) (fun c3 => ?_) (fun c3 => ?_)
  · have hf := tw_neg hf c3
    refine tw_iconst (v := 0) C dX7_build_23 (by decide) ?_
    exact m_X7_build_L24 C hE v1 v2 0 y2 hf
  · have hf := tw_pos hf c3
    refine tw_iconst (v := 1) C dX7_build_19 (by decide) ?_
    refine tw_goto (tgt := 24) C dX7_build_20 (by decide) ?_
    exact m_X7_build_L24 C hE v1 v2 1 y2 hf
end
abbrev rmx_X7_build : Room := { frames := 8, cells := 1, slots := 6, locals := 123 }
section
variable {p : Program} {l : Launch} {e : Env} {s : State} {m : MethodId} {args : Array Value} {below : List Frame} {meth : Method} {c : Code} {Q : State → Prop} {dC : Nat → ClassId} {dI : Nat → Nat → Nat} {cI cZ : ClassId} {q : Nat → Nat} {A : Nat → Prop} {res : String × twS}
set_option maxRecDepth 20000 in
theorem x_X7_build_L24 (C : twC p s m args meth c cX7_build 3 RX7 wsX7_build (dC, dI) (twY cI cZ) A) (hl0 : l.stackTraces = false) (X0 : twXf A s s.heap) (hnt : ∀ x ∈ c.exceptionTable.toList, False) : ∀ (v1 : Int32) (v2 : Int32) (k0 : Int32) (st : twS), f_X7_build_L24 v1 v2 k0 st = some (.inl res) → twG p l e rmx_X7_build s m args below meth c 0 0 (twQx below args s (dC, dI) (twY cI cZ) A res.1 (twT cI cZ q res.2)) (dC, dI) A 3 (twT cI cZ q st) 24 [(0, .ref (q 0)), (1, .int v1), (2, .int v2)] [.int k0] := by
  intro v1 v2 k0 st hf
  unfold f_X7_build_L24 at hf
  rcases tw_tryX hf with hx24001 | ⟨y24001, hc24001, hf⟩
  · exact tw_xS (As := [.int k0]) (stk := []) C X0 hnt (x_X7_requireState l hl0 dC dI cI cZ q hx24001) (va_cwS 1 C.hts gX7_build_X7_requireState rfl rfl rfl hd_X7_requireState ⟨Nat.le_of_ble_eq_true rfl, Nat.le_of_ble_eq_true rfl⟩) rfl rfl (Nat.le_of_ble_eq_true rfl) dX7_build_24 ⟨Nat.le_of_ble_eq_true rfl, Nat.le_of_ble_eq_true rfl⟩
  refine tw_cSv (As := [.int k0]) (stk := []) C (c_X7_requireState l dC dI cI cZ q hc24001) (va_cwS 1 C.hts gX7_build_X7_requireState rfl rfl rfl hd_X7_requireState ⟨Nat.le_of_ble_eq_true rfl, Nat.le_of_ble_eq_true rfl⟩) rfl rfl (Nat.le_of_ble_eq_true rfl) dX7_build_24 ⟨Nat.zero_le _, Nat.zero_le _⟩ ?_
  refine tw_aload_n C dX7_build_27 0 rfl rfl ?_
  refine tw_get (K := RX7) (T := TX7) (N := 14) (v := .ref (q 5)) C 0 4 (fun _ h => List.mem_cons_of_mem _ (List.mem_append_left _ (List.mem_append_left _ (List.mem_append_left _ (List.mem_append_left _ (List.mem_append_right _ (h))))))) rfl rfl (by decide) (List.mem_cons_of_mem _ (List.mem_append_left _ (List.mem_append_left _ (List.mem_append_left _ (List.mem_append_left _ (List.mem_append_left _ (List.mem_append_left _ (List.mem_of_getElem? (i := 1) rfl)))))))) rfl rfl dX7_build_28 ?_
  refine tw_iload_n C dX7_build_31 1 rfl rfl ?_
  obtain ⟨y24002, hc24002, hf⟩ := tw_bd hf
  refine tw_cVv (As := [.int v1]) (stk := []) C (c_X4_place l dC dI cI cZ q hc24002) (cwV 1 C.hts gX7_build_X4_place rfl rfl rfl hd_X4_place ⟨Nat.le_of_ble_eq_true rfl, Nat.le_of_ble_eq_true rfl⟩) 5 (ci := 4) rfl rfl rfl rfl rfl (Nat.le_of_ble_eq_true rfl) dX7_build_32 ⟨Nat.zero_le _, Nat.zero_le _⟩ ?_
  refine tw_aload_n C dX7_build_35 0 rfl rfl ?_
  refine tw_iload_n C dX7_build_36 2 rfl rfl ?_
  refine tw_put (K := RX7) (T := TX7) (N := 14) C 0 9 tyX7 tyX7_ok nmX7 (fun _ h => List.mem_cons_of_mem _ (List.mem_append_left _ (List.mem_append_left _ (List.mem_append_left _ (List.mem_append_left _ (List.mem_append_right _ (h))))))) rfl rfl (by decide) (List.mem_cons_of_mem _ (List.mem_append_left _ (List.mem_append_left _ (List.mem_append_left _ (List.mem_append_left _ (List.mem_append_left _ (List.mem_append_left _ (List.mem_of_getElem? (i := 2) rfl)))))))) rfl rfl rfl rfl (Nat.le_of_ble_eq_true rfl) (tw_T_si0 cI cZ q y24002 v2) dX7_build_37 ?_
  refine tw_aload_n C dX7_build_40 0 rfl rfl ?_
  refine tw_iconst (v := 0) C dX7_build_41 (by decide) ?_
  refine tw_put (K := RX7) (T := TX7) (N := 14) C 0 10 tyX7 tyX7_ok nmX7 (fun _ h => List.mem_cons_of_mem _ (List.mem_append_left _ (List.mem_append_left _ (List.mem_append_left _ (List.mem_append_left _ (List.mem_append_right _ (h))))))) rfl rfl (by decide) (List.mem_cons_of_mem _ (List.mem_append_left _ (List.mem_append_left _ (List.mem_append_left _ (List.mem_append_left _ (List.mem_append_left _ (List.mem_append_left _ (List.mem_of_getElem? (i := 3) rfl)))))))) rfl rfl rfl rfl (Nat.le_of_ble_eq_true rfl) (tw_T_si1 cI cZ q (twI y24002 0 v2) 0) dX7_build_42 ?_
  cases hf
set_option maxRecDepth 20000 in
theorem x_X7_build (l : Launch) (hl0 : l.stackTraces = false) (dC : Nat → ClassId) (dI : Nat → Nat → Nat) (cI cZ : ClassId) (q : Nat → Nat) {st : twS} {v1 : Int32} {v2 : Int32} {res : String × twS} (hf : f_X7_build st v1 v2 = some (.inl res)) : twMx l yX7_build wsX7_build rmx_X7_build (dC, dI) (twY cI cZ) [.ref (q 0), .int v1, .int v2] (twT cI cZ q st) res.1 (twT cI cZ q res.2) := by
  refine tw_entx (cc := cX7_build) (maxL := 3) (own := RX7) (by decide) rfl (Nat.le_of_ble_eq_true rfl) rfl ?_
  intro p e s m below meth c A C X0 hnt
  generalize ([.ref (q 0), .int v1, .int v2] : List Value).toArray = args at C ⊢
  refine tw_sub (lv' := [(0, .ref (q 0)), (1, .int v1), (2, .int v2)]) [0, 1, 2] rfl ?_
  unfold f_X7_build at hf
  refine tw_iload_n C dX7_build_0 2 rfl rfl ?_
  rcases tw_tryX hf with hx1 | ⟨y1, hc1, hf⟩
  · exact tw_xS (As := [.int v2]) (stk := []) C X0 hnt (x_X7_requireSegment l hl0 dC dI cI cZ q hx1) (va_cwS 1 C.hts gX7_build_X7_requireSegment rfl rfl rfl hd_X7_requireSegment ⟨Nat.le_of_ble_eq_true rfl, Nat.le_of_ble_eq_true rfl⟩) rfl rfl (Nat.le_of_ble_eq_true rfl) dX7_build_1 ⟨Nat.le_of_ble_eq_true rfl, Nat.le_of_ble_eq_true rfl⟩
  refine tw_cSv (As := [.int v2]) (stk := []) C (c_X7_requireSegment l dC dI cI cZ q hc1) (va_cwS 1 C.hts gX7_build_X7_requireSegment rfl rfl rfl hd_X7_requireSegment ⟨Nat.le_of_ble_eq_true rfl, Nat.le_of_ble_eq_true rfl⟩) rfl rfl (Nat.le_of_ble_eq_true rfl) dX7_build_1 ⟨Nat.zero_le _, Nat.zero_le _⟩ ?_
  refine tw_iload_n C dX7_build_4 1 rfl rfl ?_
  refine tw_iconst (v := 0) C dX7_build_5 (by decide) ?_
  refine tw_sipush (v := 4095) C dX7_build_6 (by decide) ?_
  rcases tw_tryX hf with hx2 | ⟨y2, hc2, hf⟩
  · exact tw_xS (As := [.int v1, .int 0, .int 4095]) (stk := []) C X0 hnt (x_X7_requireRange l hl0 dC dI cI cZ q hx2) (va_cwS 3 C.hts gX7_build_X7_requireRange rfl rfl rfl hd_X7_requireRange ⟨Nat.le_of_ble_eq_true rfl, Nat.le_of_ble_eq_true rfl⟩) rfl rfl (Nat.le_of_ble_eq_true rfl) dX7_build_9 ⟨Nat.le_of_ble_eq_true rfl, Nat.le_of_ble_eq_true rfl⟩
  refine tw_cSv (As := [.int v1, .int 0, .int 4095]) (stk := []) C (c_X7_requireRange l dC dI cI cZ q hc2) (va_cwS 3 C.hts gX7_build_X7_requireRange rfl rfl rfl hd_X7_requireRange ⟨Nat.le_of_ble_eq_true rfl, Nat.le_of_ble_eq_true rfl⟩) rfl rfl (Nat.le_of_ble_eq_true rfl) dX7_build_9 ⟨Nat.zero_le _, Nat.zero_le _⟩ ?_
  refine tw_aload_n C dX7_build_12 0 rfl rfl ?_
  refine tw_get (K := RX7) (T := TX7) (N := 14) (v := .int (y2.1 4)) C 0 13 (fun _ h => List.mem_cons_of_mem _ (List.mem_append_left _ (List.mem_append_left _ (List.mem_append_left _ (List.mem_append_left _ (List.mem_append_right _ (h))))))) rfl rfl (by decide) (List.mem_cons_of_mem _ (List.mem_append_left _ (List.mem_append_left _ (List.mem_append_left _ (List.mem_append_left _ (List.mem_append_left _ (List.mem_append_left _ (List.mem_of_getElem? (i := 0) rfl)))))))) rfl rfl dX7_build_13 ?_
  refine tw_if_ne (tgt := 23) C dX7_build_16 (by decide) (fun c3 => ?_) (fun c3 => ?_)
  · have hf := tw_neg hf c3
    refine tw_iconst (v := 0) C dX7_build_23 (by decide) ?_
    exact x_X7_build_L24 C hl0 X0 hnt v1 v2 0 y2 hf
  · have hf := tw_pos hf c3
    refine tw_iconst (v := 1) C dX7_build_19 (by decide) ?_
    refine tw_goto (tgt := 24) C dX7_build_20 (by decide) ?_
    exact x_X7_build_L24 C hl0 X0 hnt v1 v2 1 y2 hf
end
/-! X7_people: public int people(int, int) throws java.lang.IndexOutOfBoundsException, java.lang.IllegalArgumentException, java.lang.IllegalStateException -/
abbrev rm_X7_people : Room := { frames := 3, cells := 0, slots := 0, locals := 64 }
def f_X7_people (st : twS) (v1 : Int32) (v2 : Int32) : Option ((String × twS) ⊕ (Int32 × twS)) :=
  ((f_X7_requireSegment st v1).bind fun w1 => twTry w1 fun y1 => ((f_X7_requireRange y1 v2 1 30).bind fun w2 => twTry w2 fun y2 => ((f_X3_hasRoomFor y2 v2).bind fun y3 => ((f_X7_requireState y3.2 y3.1).bind fun w4 => twTry w4 fun y4 => ((f_X3_seat y4 v1 v2).bind fun y5 => ((f_X3_size y5).bind fun y6 => some (.inr (y6.1, y6.2))))))))
section
variable {p : Program} {l : Launch} {e : Env} {s : State} {m : MethodId} {args : Array Value} {below : List Frame} {meth : Method} {c : Code} {Q : State → Prop} {dC : Nat → ClassId} {dI : Nat → Nat → Nat} {cI cZ : ClassId} {q : Nat → Nat} {A : Nat → Prop} {res : Int32 × twS}
set_option maxRecDepth 20000 in
theorem c_X7_people (l : Launch) (dC : Nat → ClassId) (dI : Nat → Nat → Nat) (cI cZ : ClassId) (q : Nat → Nat) {st : twS} {v1 : Int32} {v2 : Int32} {res : Int32 × twS} (hf : f_X7_people st v1 v2 = some (.inr res)) : twMi l yX7_people wsX7_people rm_X7_people (dC, dI) (twY cI cZ) [.ref (q 0), .int v1, .int v2] (twT cI cZ q st) res.1 (twT cI cZ q res.2) := by
  refine tw_enti (cc := cX7_people) (maxL := 3) (own := RX7) (by decide) rfl (Nat.le_of_ble_eq_true rfl) rfl ⟨rfl, rfl⟩ ?_
  intro p e s m below meth c A Q C hE
  generalize ([.ref (q 0), .int v1, .int v2] : List Value).toArray = args at C hE ⊢
  refine tw_sub (lv' := [(0, .ref (q 0)), (1, .int v1), (2, .int v2)]) [0, 1, 2] rfl ?_
  unfold f_X7_people at hf
  refine tw_iload_n C dX7_people_0 1 rfl rfl ?_
  obtain ⟨y1, hc1, hf⟩ := tw_tryN hf
  refine tw_cSv (As := [.int v1]) (stk := []) C (c_X7_requireSegment l dC dI cI cZ q hc1) (va_cwS 1 C.hts gX7_people_X7_requireSegment rfl rfl rfl hd_X7_requireSegment ⟨Nat.le_of_ble_eq_true rfl, Nat.le_of_ble_eq_true rfl⟩) rfl rfl (Nat.le_of_ble_eq_true rfl) dX7_people_1 ⟨Nat.zero_le _, Nat.zero_le _⟩ ?_
  refine tw_iload_n C dX7_people_4 2 rfl rfl ?_
  refine tw_iconst (v := 1) C dX7_people_5 (by decide) ?_
  refine tw_bipush (v := 30) C dX7_people_6 (by decide) ?_
  obtain ⟨y2, hc2, hf⟩ := tw_tryN hf
  refine tw_cSv (As := [.int v2, .int 1, .int 30]) (stk := []) C (c_X7_requireRange l dC dI cI cZ q hc2) (va_cwS 3 C.hts gX7_people_X7_requireRange rfl rfl rfl hd_X7_requireRange ⟨Nat.le_of_ble_eq_true rfl, Nat.le_of_ble_eq_true rfl⟩) rfl rfl (Nat.le_of_ble_eq_true rfl) dX7_people_8 ⟨Nat.zero_le _, Nat.zero_le _⟩ ?_
  refine tw_aload_n C dX7_people_11 0 rfl rfl ?_
  refine tw_get (K := RX7) (T := TX7) (N := 14) (v := .ref (q 7)) C 0 6 (fun _ h => List.mem_cons_of_mem _ (List.mem_append_left _ (List.mem_append_left _ (List.mem_append_left _ (List.mem_append_left _ (List.mem_append_right _ (h))))))) rfl rfl (by decide) (List.mem_cons_of_mem _ (List.mem_append_left _ (List.mem_append_left _ (List.mem_append_left _ (List.mem_append_left _ (List.mem_append_left _ (List.mem_append_left _ (List.mem_of_getElem? (i := 0) rfl)))))))) rfl rfl dX7_people_12 ?_
  refine tw_iload_n C dX7_people_15 2 rfl rfl ?_
  obtain ⟨y3, hc3, hf⟩ := tw_bd hf
  refine tw_cVi (As := [.int v2]) (stk := []) C (c_X3_hasRoomFor l dC dI cI cZ q hc3) (cwV 1 C.hts gX7_people_X3_hasRoomFor rfl rfl rfl hd_X3_hasRoomFor ⟨Nat.le_of_ble_eq_true rfl, Nat.le_of_ble_eq_true rfl⟩) 7 (ci := 3) rfl rfl rfl rfl rfl (Nat.le_of_ble_eq_true rfl) dX7_people_16 ⟨Nat.zero_le _, Nat.zero_le _⟩ ?_
  obtain ⟨y4, hc4, hf⟩ := tw_tryN hf
  refine tw_cSv (As := [.int y3.1]) (stk := []) C (c_X7_requireState l dC dI cI cZ q hc4) (va_cwS 1 C.hts gX7_people_X7_requireState rfl rfl rfl hd_X7_requireState ⟨Nat.le_of_ble_eq_true rfl, Nat.le_of_ble_eq_true rfl⟩) rfl rfl (Nat.le_of_ble_eq_true rfl) dX7_people_19 ⟨Nat.zero_le _, Nat.zero_le _⟩ ?_
  refine tw_aload_n C dX7_people_22 0 rfl rfl ?_
  refine tw_get (K := RX7) (T := TX7) (N := 14) (v := .ref (q 7)) C 0 6 (fun _ h => List.mem_cons_of_mem _ (List.mem_append_left _ (List.mem_append_left _ (List.mem_append_left _ (List.mem_append_left _ (List.mem_append_right _ (h))))))) rfl rfl (by decide) (List.mem_cons_of_mem _ (List.mem_append_left _ (List.mem_append_left _ (List.mem_append_left _ (List.mem_append_left _ (List.mem_append_left _ (List.mem_append_left _ (List.mem_of_getElem? (i := 0) rfl)))))))) rfl rfl dX7_people_23 ?_
  refine tw_iload_n C dX7_people_26 1 rfl rfl ?_
  refine tw_iload_n C dX7_people_27 2 rfl rfl ?_
  obtain ⟨y5, hc5, hf⟩ := tw_bd hf
  refine tw_cVv (As := [.int v1, .int v2]) (stk := []) C (c_X3_seat l dC dI cI cZ q hc5) (cwV 2 C.hts gX7_people_X3_seat rfl rfl rfl hd_X3_seat ⟨Nat.le_of_ble_eq_true rfl, Nat.le_of_ble_eq_true rfl⟩) 7 (ci := 3) rfl rfl rfl rfl rfl (Nat.le_of_ble_eq_true rfl) dX7_people_28 ⟨Nat.zero_le _, Nat.zero_le _⟩ ?_
  refine tw_aload_n C dX7_people_31 0 rfl rfl ?_
  refine tw_get (K := RX7) (T := TX7) (N := 14) (v := .ref (q 7)) C 0 6 (fun _ h => List.mem_cons_of_mem _ (List.mem_append_left _ (List.mem_append_left _ (List.mem_append_left _ (List.mem_append_left _ (List.mem_append_right _ (h))))))) rfl rfl (by decide) (List.mem_cons_of_mem _ (List.mem_append_left _ (List.mem_append_left _ (List.mem_append_left _ (List.mem_append_left _ (List.mem_append_left _ (List.mem_append_left _ (List.mem_of_getElem? (i := 0) rfl)))))))) rfl rfl dX7_people_32 ?_
  obtain ⟨y6, hc6, hf⟩ := tw_bd hf
  refine tw_cVi (As := []) (stk := []) C (c_X3_size l dC dI cI cZ q hc6) (cwV 0 C.hts gX7_people_X3_size rfl rfl rfl hd_X3_size ⟨Nat.le_of_ble_eq_true rfl, Nat.le_of_ble_eq_true rfl⟩) 7 (ci := 3) rfl rfl rfl rfl rfl (Nat.le_of_ble_eq_true rfl) dX7_people_35 ⟨Nat.zero_le _, Nat.zero_le _⟩ ?_
  exact tw_endi (Wf := twT cI cZ q) hE (tw_inr hf) dX7_people_38 rfl
end
abbrev rmx_X7_people : Room := { frames := 8, cells := 1, slots := 6, locals := 123 }
section
variable {p : Program} {l : Launch} {e : Env} {s : State} {m : MethodId} {args : Array Value} {below : List Frame} {meth : Method} {c : Code} {Q : State → Prop} {dC : Nat → ClassId} {dI : Nat → Nat → Nat} {cI cZ : ClassId} {q : Nat → Nat} {A : Nat → Prop} {res : String × twS}
set_option maxRecDepth 20000 in
theorem x_X7_people (l : Launch) (hl0 : l.stackTraces = false) (dC : Nat → ClassId) (dI : Nat → Nat → Nat) (cI cZ : ClassId) (q : Nat → Nat) {st : twS} {v1 : Int32} {v2 : Int32} {res : String × twS} (hf : f_X7_people st v1 v2 = some (.inl res)) : twMx l yX7_people wsX7_people rmx_X7_people (dC, dI) (twY cI cZ) [.ref (q 0), .int v1, .int v2] (twT cI cZ q st) res.1 (twT cI cZ q res.2) := by
  refine tw_entx (cc := cX7_people) (maxL := 3) (own := RX7) (by decide) rfl (Nat.le_of_ble_eq_true rfl) rfl ?_
  intro p e s m below meth c A C X0 hnt
  generalize ([.ref (q 0), .int v1, .int v2] : List Value).toArray = args at C ⊢
  refine tw_sub (lv' := [(0, .ref (q 0)), (1, .int v1), (2, .int v2)]) [0, 1, 2] rfl ?_
  unfold f_X7_people at hf
  refine tw_iload_n C dX7_people_0 1 rfl rfl ?_
  rcases tw_tryX hf with hx1 | ⟨y1, hc1, hf⟩
  · exact tw_xS (As := [.int v1]) (stk := []) C X0 hnt (x_X7_requireSegment l hl0 dC dI cI cZ q hx1) (va_cwS 1 C.hts gX7_people_X7_requireSegment rfl rfl rfl hd_X7_requireSegment ⟨Nat.le_of_ble_eq_true rfl, Nat.le_of_ble_eq_true rfl⟩) rfl rfl (Nat.le_of_ble_eq_true rfl) dX7_people_1 ⟨Nat.le_of_ble_eq_true rfl, Nat.le_of_ble_eq_true rfl⟩
  refine tw_cSv (As := [.int v1]) (stk := []) C (c_X7_requireSegment l dC dI cI cZ q hc1) (va_cwS 1 C.hts gX7_people_X7_requireSegment rfl rfl rfl hd_X7_requireSegment ⟨Nat.le_of_ble_eq_true rfl, Nat.le_of_ble_eq_true rfl⟩) rfl rfl (Nat.le_of_ble_eq_true rfl) dX7_people_1 ⟨Nat.zero_le _, Nat.zero_le _⟩ ?_
  refine tw_iload_n C dX7_people_4 2 rfl rfl ?_
  refine tw_iconst (v := 1) C dX7_people_5 (by decide) ?_
  refine tw_bipush (v := 30) C dX7_people_6 (by decide) ?_
  rcases tw_tryX hf with hx2 | ⟨y2, hc2, hf⟩
  · exact tw_xS (As := [.int v2, .int 1, .int 30]) (stk := []) C X0 hnt (x_X7_requireRange l hl0 dC dI cI cZ q hx2) (va_cwS 3 C.hts gX7_people_X7_requireRange rfl rfl rfl hd_X7_requireRange ⟨Nat.le_of_ble_eq_true rfl, Nat.le_of_ble_eq_true rfl⟩) rfl rfl (Nat.le_of_ble_eq_true rfl) dX7_people_8 ⟨Nat.le_of_ble_eq_true rfl, Nat.le_of_ble_eq_true rfl⟩
  refine tw_cSv (As := [.int v2, .int 1, .int 30]) (stk := []) C (c_X7_requireRange l dC dI cI cZ q hc2) (va_cwS 3 C.hts gX7_people_X7_requireRange rfl rfl rfl hd_X7_requireRange ⟨Nat.le_of_ble_eq_true rfl, Nat.le_of_ble_eq_true rfl⟩) rfl rfl (Nat.le_of_ble_eq_true rfl) dX7_people_8 ⟨Nat.zero_le _, Nat.zero_le _⟩ ?_
  refine tw_aload_n C dX7_people_11 0 rfl rfl ?_
  refine tw_get (K := RX7) (T := TX7) (N := 14) (v := .ref (q 7)) C 0 6 (fun _ h => List.mem_cons_of_mem _ (List.mem_append_left _ (List.mem_append_left _ (List.mem_append_left _ (List.mem_append_left _ (List.mem_append_right _ (h))))))) rfl rfl (by decide) (List.mem_cons_of_mem _ (List.mem_append_left _ (List.mem_append_left _ (List.mem_append_left _ (List.mem_append_left _ (List.mem_append_left _ (List.mem_append_left _ (List.mem_of_getElem? (i := 0) rfl)))))))) rfl rfl dX7_people_12 ?_
  refine tw_iload_n C dX7_people_15 2 rfl rfl ?_
  obtain ⟨y3, hc3, hf⟩ := tw_bd hf
  refine tw_cVi (As := [.int v2]) (stk := []) C (c_X3_hasRoomFor l dC dI cI cZ q hc3) (cwV 1 C.hts gX7_people_X3_hasRoomFor rfl rfl rfl hd_X3_hasRoomFor ⟨Nat.le_of_ble_eq_true rfl, Nat.le_of_ble_eq_true rfl⟩) 7 (ci := 3) rfl rfl rfl rfl rfl (Nat.le_of_ble_eq_true rfl) dX7_people_16 ⟨Nat.zero_le _, Nat.zero_le _⟩ ?_
  rcases tw_tryX hf with hx4 | ⟨y4, hc4, hf⟩
  · exact tw_xS (As := [.int y3.1]) (stk := []) C X0 hnt (x_X7_requireState l hl0 dC dI cI cZ q hx4) (va_cwS 1 C.hts gX7_people_X7_requireState rfl rfl rfl hd_X7_requireState ⟨Nat.le_of_ble_eq_true rfl, Nat.le_of_ble_eq_true rfl⟩) rfl rfl (Nat.le_of_ble_eq_true rfl) dX7_people_19 ⟨Nat.le_of_ble_eq_true rfl, Nat.le_of_ble_eq_true rfl⟩
  refine tw_cSv (As := [.int y3.1]) (stk := []) C (c_X7_requireState l dC dI cI cZ q hc4) (va_cwS 1 C.hts gX7_people_X7_requireState rfl rfl rfl hd_X7_requireState ⟨Nat.le_of_ble_eq_true rfl, Nat.le_of_ble_eq_true rfl⟩) rfl rfl (Nat.le_of_ble_eq_true rfl) dX7_people_19 ⟨Nat.zero_le _, Nat.zero_le _⟩ ?_
  refine tw_aload_n C dX7_people_22 0 rfl rfl ?_
  refine tw_get (K := RX7) (T := TX7) (N := 14) (v := .ref (q 7)) C 0 6 (fun _ h => List.mem_cons_of_mem _ (List.mem_append_left _ (List.mem_append_left _ (List.mem_append_left _ (List.mem_append_left _ (List.mem_append_right _ (h))))))) rfl rfl (by decide) (List.mem_cons_of_mem _ (List.mem_append_left _ (List.mem_append_left _ (List.mem_append_left _ (List.mem_append_left _ (List.mem_append_left _ (List.mem_append_left _ (List.mem_of_getElem? (i := 0) rfl)))))))) rfl rfl dX7_people_23 ?_
  refine tw_iload_n C dX7_people_26 1 rfl rfl ?_
  refine tw_iload_n C dX7_people_27 2 rfl rfl ?_
  obtain ⟨y5, hc5, hf⟩ := tw_bd hf
  refine tw_cVv (As := [.int v1, .int v2]) (stk := []) C (c_X3_seat l dC dI cI cZ q hc5) (cwV 2 C.hts gX7_people_X3_seat rfl rfl rfl hd_X3_seat ⟨Nat.le_of_ble_eq_true rfl, Nat.le_of_ble_eq_true rfl⟩) 7 (ci := 3) rfl rfl rfl rfl rfl (Nat.le_of_ble_eq_true rfl) dX7_people_28 ⟨Nat.zero_le _, Nat.zero_le _⟩ ?_
  refine tw_aload_n C dX7_people_31 0 rfl rfl ?_
  refine tw_get (K := RX7) (T := TX7) (N := 14) (v := .ref (q 7)) C 0 6 (fun _ h => List.mem_cons_of_mem _ (List.mem_append_left _ (List.mem_append_left _ (List.mem_append_left _ (List.mem_append_left _ (List.mem_append_right _ (h))))))) rfl rfl (by decide) (List.mem_cons_of_mem _ (List.mem_append_left _ (List.mem_append_left _ (List.mem_append_left _ (List.mem_append_left _ (List.mem_append_left _ (List.mem_append_left _ (List.mem_of_getElem? (i := 0) rfl)))))))) rfl rfl dX7_people_32 ?_
  obtain ⟨y6, hc6, hf⟩ := tw_bd hf
  refine tw_cVi (As := []) (stk := []) C (c_X3_size l dC dI cI cZ q hc6) (cwV 0 C.hts gX7_people_X3_size rfl rfl rfl hd_X3_size ⟨Nat.le_of_ble_eq_true rfl, Nat.le_of_ble_eq_true rfl⟩) 7 (ci := 3) rfl rfl rfl rfl rfl (Nat.le_of_ble_eq_true rfl) dX7_people_35 ⟨Nat.zero_le _, Nat.zero_le _⟩ ?_
  cases hf
end
/-! X7_wind: public int wind(int) throws java.lang.IllegalArgumentException -/
abbrev rm_X7_wind : Room := { frames := 2, cells := 0, slots := 0, locals := 45 }
def f_X7_wind (st : twS) (v1 : Int32) : Option ((String × twS) ⊕ (Int32 × twS)) :=
  ((f_X7_requireRange st v1 (-40) 40).bind fun w1 => twTry w1 fun y1 => ((f_X6_blow y1 v1).bind fun y2 => some (.inr (y2.1, y2.2))))
section
variable {p : Program} {l : Launch} {e : Env} {s : State} {m : MethodId} {args : Array Value} {below : List Frame} {meth : Method} {c : Code} {Q : State → Prop} {dC : Nat → ClassId} {dI : Nat → Nat → Nat} {cI cZ : ClassId} {q : Nat → Nat} {A : Nat → Prop} {res : Int32 × twS}
set_option maxRecDepth 20000 in
theorem c_X7_wind (l : Launch) (dC : Nat → ClassId) (dI : Nat → Nat → Nat) (cI cZ : ClassId) (q : Nat → Nat) {st : twS} {v1 : Int32} {res : Int32 × twS} (hf : f_X7_wind st v1 = some (.inr res)) : twMi l yX7_wind wsX7_wind rm_X7_wind (dC, dI) (twY cI cZ) [.ref (q 0), .int v1] (twT cI cZ q st) res.1 (twT cI cZ q res.2) := by
  refine tw_enti (cc := cX7_wind) (maxL := 2) (own := RX7) (by decide) rfl (Nat.le_of_ble_eq_true rfl) rfl ⟨rfl, rfl⟩ ?_
  intro p e s m below meth c A Q C hE
  generalize ([.ref (q 0), .int v1] : List Value).toArray = args at C hE ⊢
  refine tw_sub (lv' := [(0, .ref (q 0)), (1, .int v1)]) [0, 1] rfl ?_
  unfold f_X7_wind at hf
  refine tw_iload_n C dX7_wind_0 1 rfl rfl ?_
  refine tw_bipush (v := (-40)) C dX7_wind_1 (by decide) ?_
  refine tw_bipush (v := 40) C dX7_wind_3 (by decide) ?_
  obtain ⟨y1, hc1, hf⟩ := tw_tryN hf
  refine tw_cSv (As := [.int v1, .int (-40), .int 40]) (stk := []) C (c_X7_requireRange l dC dI cI cZ q hc1) (va_cwS 3 C.hts gX7_wind_X7_requireRange rfl rfl rfl hd_X7_requireRange ⟨Nat.le_of_ble_eq_true rfl, Nat.le_of_ble_eq_true rfl⟩) rfl rfl (Nat.le_of_ble_eq_true rfl) dX7_wind_5 ⟨Nat.zero_le _, Nat.zero_le _⟩ ?_
  refine tw_aload_n C dX7_wind_8 0 rfl rfl ?_
  refine tw_get (K := RX7) (T := TX7) (N := 14) (v := .ref (q 2)) C 0 1 (fun _ h => List.mem_cons_of_mem _ (List.mem_append_left _ (List.mem_append_left _ (List.mem_append_right _ (h))))) rfl rfl (by decide) (List.mem_cons_of_mem _ (List.mem_append_left _ (List.mem_append_left _ (List.mem_append_left _ (List.mem_of_getElem? (i := 0) rfl))))) rfl rfl dX7_wind_9 ?_
  refine tw_iload_n C dX7_wind_12 1 rfl rfl ?_
  obtain ⟨y2, hc2, hf⟩ := tw_bd hf
  refine tw_cVi (As := [.int v1]) (stk := []) C (c_X6_blow l dC dI cI cZ q hc2) (cwV 1 C.hts gX7_wind_X6_blow rfl rfl rfl hd_X6_blow ⟨Nat.le_of_ble_eq_true rfl, Nat.le_of_ble_eq_true rfl⟩) 2 (ci := 6) rfl rfl rfl rfl rfl (Nat.le_of_ble_eq_true rfl) dX7_wind_13 ⟨Nat.zero_le _, Nat.zero_le _⟩ ?_
  exact tw_endi (Wf := twT cI cZ q) hE (tw_inr hf) dX7_wind_16 rfl
end
abbrev rmx_X7_wind : Room := { frames := 7, cells := 1, slots := 6, locals := 104 }
section
variable {p : Program} {l : Launch} {e : Env} {s : State} {m : MethodId} {args : Array Value} {below : List Frame} {meth : Method} {c : Code} {Q : State → Prop} {dC : Nat → ClassId} {dI : Nat → Nat → Nat} {cI cZ : ClassId} {q : Nat → Nat} {A : Nat → Prop} {res : String × twS}
set_option maxRecDepth 20000 in
theorem x_X7_wind (l : Launch) (hl0 : l.stackTraces = false) (dC : Nat → ClassId) (dI : Nat → Nat → Nat) (cI cZ : ClassId) (q : Nat → Nat) {st : twS} {v1 : Int32} {res : String × twS} (hf : f_X7_wind st v1 = some (.inl res)) : twMx l yX7_wind wsX7_wind rmx_X7_wind (dC, dI) (twY cI cZ) [.ref (q 0), .int v1] (twT cI cZ q st) res.1 (twT cI cZ q res.2) := by
  refine tw_entx (cc := cX7_wind) (maxL := 2) (own := RX7) (by decide) rfl (Nat.le_of_ble_eq_true rfl) rfl ?_
  intro p e s m below meth c A C X0 hnt
  generalize ([.ref (q 0), .int v1] : List Value).toArray = args at C ⊢
  refine tw_sub (lv' := [(0, .ref (q 0)), (1, .int v1)]) [0, 1] rfl ?_
  unfold f_X7_wind at hf
  refine tw_iload_n C dX7_wind_0 1 rfl rfl ?_
  refine tw_bipush (v := (-40)) C dX7_wind_1 (by decide) ?_
  refine tw_bipush (v := 40) C dX7_wind_3 (by decide) ?_
  rcases tw_tryX hf with hx1 | ⟨y1, hc1, hf⟩
  · exact tw_xS (As := [.int v1, .int (-40), .int 40]) (stk := []) C X0 hnt (x_X7_requireRange l hl0 dC dI cI cZ q hx1) (va_cwS 3 C.hts gX7_wind_X7_requireRange rfl rfl rfl hd_X7_requireRange ⟨Nat.le_of_ble_eq_true rfl, Nat.le_of_ble_eq_true rfl⟩) rfl rfl (Nat.le_of_ble_eq_true rfl) dX7_wind_5 ⟨Nat.le_of_ble_eq_true rfl, Nat.le_of_ble_eq_true rfl⟩
  refine tw_cSv (As := [.int v1, .int (-40), .int 40]) (stk := []) C (c_X7_requireRange l dC dI cI cZ q hc1) (va_cwS 3 C.hts gX7_wind_X7_requireRange rfl rfl rfl hd_X7_requireRange ⟨Nat.le_of_ble_eq_true rfl, Nat.le_of_ble_eq_true rfl⟩) rfl rfl (Nat.le_of_ble_eq_true rfl) dX7_wind_5 ⟨Nat.zero_le _, Nat.zero_le _⟩ ?_
  refine tw_aload_n C dX7_wind_8 0 rfl rfl ?_
  refine tw_get (K := RX7) (T := TX7) (N := 14) (v := .ref (q 2)) C 0 1 (fun _ h => List.mem_cons_of_mem _ (List.mem_append_left _ (List.mem_append_left _ (List.mem_append_right _ (h))))) rfl rfl (by decide) (List.mem_cons_of_mem _ (List.mem_append_left _ (List.mem_append_left _ (List.mem_append_left _ (List.mem_of_getElem? (i := 0) rfl))))) rfl rfl dX7_wind_9 ?_
  refine tw_iload_n C dX7_wind_12 1 rfl rfl ?_
  obtain ⟨y2, hc2, hf⟩ := tw_bd hf
  refine tw_cVi (As := [.int v1]) (stk := []) C (c_X6_blow l dC dI cI cZ q hc2) (cwV 1 C.hts gX7_wind_X6_blow rfl rfl rfl hd_X6_blow ⟨Nat.le_of_ble_eq_true rfl, Nat.le_of_ble_eq_true rfl⟩) 2 (ci := 6) rfl rfl rfl rfl rfl (Nat.le_of_ble_eq_true rfl) dX7_wind_13 ⟨Nat.zero_le _, Nat.zero_le _⟩ ?_
  cases hf
end
/-! X7_fire: public void fire(int, int) throws java.lang.IndexOutOfBoundsException, java.lang.IllegalArgumentException, java.lang.IllegalStateException -/
abbrev rm_X7_fire : Room := { frames := 3, cells := 0, slots := 0, locals := 64 }
def f_X7_fire_L27 (v1 : Int32) (v2 : Int32) (k0 : Int32) (st : twS) : Option ((String × twS) ⊕ (twS)) :=
  ((f_X7_requireState st k0).bind fun w27001 => twTry w27001 fun y27001 => ((f_X1_begin y27001 v1 v2).bind fun y27002 => some (.inr y27002)))
def f_X7_fire (st : twS) (v1 : Int32) (v2 : Int32) : Option ((String × twS) ⊕ (twS)) :=
  ((f_X7_requireSegment st v1).bind fun w1 => twTry w1 fun y1 => ((f_X7_requireRange y1 v2 1 200).bind fun w2 => twTry w2 fun y2 => ((f_X1_isBurning y2).bind fun y3 => (if y3.1 = 0 then
    f_X7_fire_L27 v1 v2 1 y3.2
  else
    f_X7_fire_L27 v1 v2 0 y3.2))))
section
variable {p : Program} {l : Launch} {e : Env} {s : State} {m : MethodId} {args : Array Value} {below : List Frame} {meth : Method} {c : Code} {Q : State → Prop} {dC : Nat → ClassId} {dI : Nat → Nat → Nat} {cI cZ : ClassId} {q : Nat → Nat} {A : Nat → Prop} {res : twS}
set_option maxRecDepth 20000 in
theorem m_X7_fire_L27 (C : twC p s m args meth c cX7_fire 3 RX7 wsX7_fire (dC, dI) (twY cI cZ) A) (hE : twEv p l e rm_X7_fire s m args below meth c 0 0 Q (dC, dI) A 3 cX7_fire (twT cI cZ q res)) : ∀ (v1 : Int32) (v2 : Int32) (k0 : Int32) (st : twS), f_X7_fire_L27 v1 v2 k0 st = some (.inr res) → twG p l e rm_X7_fire s m args below meth c 0 0 Q (dC, dI) A 3 (twT cI cZ q st) 27 [(0, .ref (q 0)), (1, .int v1), (2, .int v2)] [.int k0] := by
  intro v1 v2 k0 st hf
  unfold f_X7_fire_L27 at hf
  obtain ⟨y27001, hc27001, hf⟩ := tw_tryN hf
  refine tw_cSv (As := [.int k0]) (stk := []) C (c_X7_requireState l dC dI cI cZ q hc27001) (va_cwS 1 C.hts gX7_fire_X7_requireState rfl rfl rfl hd_X7_requireState ⟨Nat.le_of_ble_eq_true rfl, Nat.le_of_ble_eq_true rfl⟩) rfl rfl (Nat.le_of_ble_eq_true rfl) dX7_fire_27 ⟨Nat.zero_le _, Nat.zero_le _⟩ ?_
  refine tw_aload_n C dX7_fire_30 0 rfl rfl ?_
  refine tw_get (K := RX7) (T := TX7) (N := 14) (v := .ref (q 4)) C 0 3 (fun _ h => List.mem_cons_of_mem _ (List.mem_append_left _ (List.mem_append_left _ (List.mem_append_left _ (List.mem_append_left _ (List.mem_append_right _ (h))))))) rfl rfl (by decide) (List.mem_cons_of_mem _ (List.mem_append_left _ (List.mem_append_left _ (List.mem_append_left _ (List.mem_append_left _ (List.mem_append_left _ (List.mem_append_left _ (List.mem_of_getElem? (i := 0) rfl)))))))) rfl rfl dX7_fire_31 ?_
  refine tw_iload_n C dX7_fire_34 1 rfl rfl ?_
  refine tw_iload_n C dX7_fire_35 2 rfl rfl ?_
  obtain ⟨y27002, hc27002, hf⟩ := tw_bd hf
  refine tw_cVv (As := [.int v1, .int v2]) (stk := []) C (c_X1_begin l dC dI cI cZ q hc27002) (cwV 2 C.hts gX7_fire_X1_begin rfl rfl rfl hd_X1_begin ⟨Nat.le_of_ble_eq_true rfl, Nat.le_of_ble_eq_true rfl⟩) 4 (ci := 1) rfl rfl rfl rfl rfl (Nat.le_of_ble_eq_true rfl) dX7_fire_36 ⟨Nat.zero_le _, Nat.zero_le _⟩ ?_
  exact tw_endv (Wf := twT cI cZ q) hE (tw_inr hf) dX7_fire_39
set_option maxRecDepth 20000 in
theorem c_X7_fire (l : Launch) (dC : Nat → ClassId) (dI : Nat → Nat → Nat) (cI cZ : ClassId) (q : Nat → Nat) {st : twS} {v1 : Int32} {v2 : Int32} {res : twS} (hf : f_X7_fire st v1 v2 = some (.inr res)) : twMv l yX7_fire wsX7_fire rm_X7_fire (dC, dI) (twY cI cZ) [.ref (q 0), .int v1, .int v2] (twT cI cZ q st) (twT cI cZ q res) := by
  refine tw_entv (cc := cX7_fire) (maxL := 3) (own := RX7) (by decide) rfl (Nat.le_of_ble_eq_true rfl) rfl ⟨rfl, rfl⟩ ?_
  intro p e s m below meth c A Q C hE
  generalize ([.ref (q 0), .int v1, .int v2] : List Value).toArray = args at C hE ⊢
  refine tw_sub (lv' := [(0, .ref (q 0)), (1, .int v1), (2, .int v2)]) [0, 1, 2] rfl ?_
  unfold f_X7_fire at hf
  refine tw_iload_n C dX7_fire_0 1 rfl rfl ?_
  obtain ⟨y1, hc1, hf⟩ := tw_tryN hf
  refine tw_cSv (As := [.int v1]) (stk := []) C (c_X7_requireSegment l dC dI cI cZ q hc1) (va_cwS 1 C.hts gX7_fire_X7_requireSegment rfl rfl rfl hd_X7_requireSegment ⟨Nat.le_of_ble_eq_true rfl, Nat.le_of_ble_eq_true rfl⟩) rfl rfl (Nat.le_of_ble_eq_true rfl) dX7_fire_1 ⟨Nat.zero_le _, Nat.zero_le _⟩ ?_
  refine tw_iload_n C dX7_fire_4 2 rfl rfl ?_
  refine tw_iconst (v := 1) C dX7_fire_5 (by decide) ?_
  refine tw_sipush (v := 200) C dX7_fire_6 (by decide) ?_
  obtain ⟨y2, hc2, hf⟩ := tw_tryN hf
  refine tw_cSv (As := [.int v2, .int 1, .int 200]) (stk := []) C (c_X7_requireRange l dC dI cI cZ q hc2) (va_cwS 3 C.hts gX7_fire_X7_requireRange rfl rfl rfl hd_X7_requireRange ⟨Nat.le_of_ble_eq_true rfl, Nat.le_of_ble_eq_true rfl⟩) rfl rfl (Nat.le_of_ble_eq_true rfl) dX7_fire_9 ⟨Nat.zero_le _, Nat.zero_le _⟩ ?_
  refine tw_aload_n C dX7_fire_12 0 rfl rfl ?_
  refine tw_get (K := RX7) (T := TX7) (N := 14) (v := .ref (q 4)) C 0 3 (fun _ h => List.mem_cons_of_mem _ (List.mem_append_left _ (List.mem_append_left _ (List.mem_append_left _ (List.mem_append_left _ (List.mem_append_right _ (h))))))) rfl rfl (by decide) (List.mem_cons_of_mem _ (List.mem_append_left _ (List.mem_append_left _ (List.mem_append_left _ (List.mem_append_left _ (List.mem_append_left _ (List.mem_append_left _ (List.mem_of_getElem? (i := 0) rfl)))))))) rfl rfl dX7_fire_13 ?_
  obtain ⟨y3, hc3, hf⟩ := tw_bd hf
  refine tw_cVi (As := []) (stk := []) C (c_X1_isBurning l dC dI cI cZ q hc3) (cwV 0 C.hts gX7_fire_X1_isBurning rfl rfl rfl hd_X1_isBurning ⟨Nat.le_of_ble_eq_true rfl, Nat.le_of_ble_eq_true rfl⟩) 4 (ci := 1) rfl rfl rfl rfl rfl (Nat.le_of_ble_eq_true rfl) dX7_fire_16 ⟨Nat.zero_le _, Nat.zero_le _⟩ ?_
  refine tw_if_ne (tgt := 26) C dX7_fire_19 (by decide) (fun c4 => ?_) (fun c4 => ?_)
  · have hf := tw_neg hf c4
    refine tw_iconst (v := 0) C dX7_fire_26 (by decide) ?_
    exact m_X7_fire_L27 C hE v1 v2 0 y3.2 hf
  · have hf := tw_pos hf c4
    refine tw_iconst (v := 1) C dX7_fire_22 (by decide) ?_
    refine tw_goto (tgt := 27) C dX7_fire_23 (by decide) ?_
    exact m_X7_fire_L27 C hE v1 v2 1 y3.2 hf
end
abbrev rmx_X7_fire : Room := { frames := 8, cells := 1, slots := 6, locals := 123 }
section
variable {p : Program} {l : Launch} {e : Env} {s : State} {m : MethodId} {args : Array Value} {below : List Frame} {meth : Method} {c : Code} {Q : State → Prop} {dC : Nat → ClassId} {dI : Nat → Nat → Nat} {cI cZ : ClassId} {q : Nat → Nat} {A : Nat → Prop} {res : String × twS}
set_option maxRecDepth 20000 in
theorem x_X7_fire_L27 (C : twC p s m args meth c cX7_fire 3 RX7 wsX7_fire (dC, dI) (twY cI cZ) A) (hl0 : l.stackTraces = false) (X0 : twXf A s s.heap) (hnt : ∀ x ∈ c.exceptionTable.toList, False) : ∀ (v1 : Int32) (v2 : Int32) (k0 : Int32) (st : twS), f_X7_fire_L27 v1 v2 k0 st = some (.inl res) → twG p l e rmx_X7_fire s m args below meth c 0 0 (twQx below args s (dC, dI) (twY cI cZ) A res.1 (twT cI cZ q res.2)) (dC, dI) A 3 (twT cI cZ q st) 27 [(0, .ref (q 0)), (1, .int v1), (2, .int v2)] [.int k0] := by
  intro v1 v2 k0 st hf
  unfold f_X7_fire_L27 at hf
  rcases tw_tryX hf with hx27001 | ⟨y27001, hc27001, hf⟩
  · exact tw_xS (As := [.int k0]) (stk := []) C X0 hnt (x_X7_requireState l hl0 dC dI cI cZ q hx27001) (va_cwS 1 C.hts gX7_fire_X7_requireState rfl rfl rfl hd_X7_requireState ⟨Nat.le_of_ble_eq_true rfl, Nat.le_of_ble_eq_true rfl⟩) rfl rfl (Nat.le_of_ble_eq_true rfl) dX7_fire_27 ⟨Nat.le_of_ble_eq_true rfl, Nat.le_of_ble_eq_true rfl⟩
  refine tw_cSv (As := [.int k0]) (stk := []) C (c_X7_requireState l dC dI cI cZ q hc27001) (va_cwS 1 C.hts gX7_fire_X7_requireState rfl rfl rfl hd_X7_requireState ⟨Nat.le_of_ble_eq_true rfl, Nat.le_of_ble_eq_true rfl⟩) rfl rfl (Nat.le_of_ble_eq_true rfl) dX7_fire_27 ⟨Nat.zero_le _, Nat.zero_le _⟩ ?_
  refine tw_aload_n C dX7_fire_30 0 rfl rfl ?_
  refine tw_get (K := RX7) (T := TX7) (N := 14) (v := .ref (q 4)) C 0 3 (fun _ h => List.mem_cons_of_mem _ (List.mem_append_left _ (List.mem_append_left _ (List.mem_append_left _ (List.mem_append_left _ (List.mem_append_right _ (h))))))) rfl rfl (by decide) (List.mem_cons_of_mem _ (List.mem_append_left _ (List.mem_append_left _ (List.mem_append_left _ (List.mem_append_left _ (List.mem_append_left _ (List.mem_append_left _ (List.mem_of_getElem? (i := 0) rfl)))))))) rfl rfl dX7_fire_31 ?_
  refine tw_iload_n C dX7_fire_34 1 rfl rfl ?_
  refine tw_iload_n C dX7_fire_35 2 rfl rfl ?_
  obtain ⟨y27002, hc27002, hf⟩ := tw_bd hf
  refine tw_cVv (As := [.int v1, .int v2]) (stk := []) C (c_X1_begin l dC dI cI cZ q hc27002) (cwV 2 C.hts gX7_fire_X1_begin rfl rfl rfl hd_X1_begin ⟨Nat.le_of_ble_eq_true rfl, Nat.le_of_ble_eq_true rfl⟩) 4 (ci := 1) rfl rfl rfl rfl rfl (Nat.le_of_ble_eq_true rfl) dX7_fire_36 ⟨Nat.zero_le _, Nat.zero_le _⟩ ?_
  cases hf
set_option maxRecDepth 20000 in
theorem x_X7_fire (l : Launch) (hl0 : l.stackTraces = false) (dC : Nat → ClassId) (dI : Nat → Nat → Nat) (cI cZ : ClassId) (q : Nat → Nat) {st : twS} {v1 : Int32} {v2 : Int32} {res : String × twS} (hf : f_X7_fire st v1 v2 = some (.inl res)) : twMx l yX7_fire wsX7_fire rmx_X7_fire (dC, dI) (twY cI cZ) [.ref (q 0), .int v1, .int v2] (twT cI cZ q st) res.1 (twT cI cZ q res.2) := by
  refine tw_entx (cc := cX7_fire) (maxL := 3) (own := RX7) (by decide) rfl (Nat.le_of_ble_eq_true rfl) rfl ?_
  intro p e s m below meth c A C X0 hnt
  generalize ([.ref (q 0), .int v1, .int v2] : List Value).toArray = args at C ⊢
  refine tw_sub (lv' := [(0, .ref (q 0)), (1, .int v1), (2, .int v2)]) [0, 1, 2] rfl ?_
  unfold f_X7_fire at hf
  refine tw_iload_n C dX7_fire_0 1 rfl rfl ?_
  rcases tw_tryX hf with hx1 | ⟨y1, hc1, hf⟩
  · exact tw_xS (As := [.int v1]) (stk := []) C X0 hnt (x_X7_requireSegment l hl0 dC dI cI cZ q hx1) (va_cwS 1 C.hts gX7_fire_X7_requireSegment rfl rfl rfl hd_X7_requireSegment ⟨Nat.le_of_ble_eq_true rfl, Nat.le_of_ble_eq_true rfl⟩) rfl rfl (Nat.le_of_ble_eq_true rfl) dX7_fire_1 ⟨Nat.le_of_ble_eq_true rfl, Nat.le_of_ble_eq_true rfl⟩
  refine tw_cSv (As := [.int v1]) (stk := []) C (c_X7_requireSegment l dC dI cI cZ q hc1) (va_cwS 1 C.hts gX7_fire_X7_requireSegment rfl rfl rfl hd_X7_requireSegment ⟨Nat.le_of_ble_eq_true rfl, Nat.le_of_ble_eq_true rfl⟩) rfl rfl (Nat.le_of_ble_eq_true rfl) dX7_fire_1 ⟨Nat.zero_le _, Nat.zero_le _⟩ ?_
  refine tw_iload_n C dX7_fire_4 2 rfl rfl ?_
  refine tw_iconst (v := 1) C dX7_fire_5 (by decide) ?_
  refine tw_sipush (v := 200) C dX7_fire_6 (by decide) ?_
  rcases tw_tryX hf with hx2 | ⟨y2, hc2, hf⟩
  · exact tw_xS (As := [.int v2, .int 1, .int 200]) (stk := []) C X0 hnt (x_X7_requireRange l hl0 dC dI cI cZ q hx2) (va_cwS 3 C.hts gX7_fire_X7_requireRange rfl rfl rfl hd_X7_requireRange ⟨Nat.le_of_ble_eq_true rfl, Nat.le_of_ble_eq_true rfl⟩) rfl rfl (Nat.le_of_ble_eq_true rfl) dX7_fire_9 ⟨Nat.le_of_ble_eq_true rfl, Nat.le_of_ble_eq_true rfl⟩
  refine tw_cSv (As := [.int v2, .int 1, .int 200]) (stk := []) C (c_X7_requireRange l dC dI cI cZ q hc2) (va_cwS 3 C.hts gX7_fire_X7_requireRange rfl rfl rfl hd_X7_requireRange ⟨Nat.le_of_ble_eq_true rfl, Nat.le_of_ble_eq_true rfl⟩) rfl rfl (Nat.le_of_ble_eq_true rfl) dX7_fire_9 ⟨Nat.zero_le _, Nat.zero_le _⟩ ?_
  refine tw_aload_n C dX7_fire_12 0 rfl rfl ?_
  refine tw_get (K := RX7) (T := TX7) (N := 14) (v := .ref (q 4)) C 0 3 (fun _ h => List.mem_cons_of_mem _ (List.mem_append_left _ (List.mem_append_left _ (List.mem_append_left _ (List.mem_append_left _ (List.mem_append_right _ (h))))))) rfl rfl (by decide) (List.mem_cons_of_mem _ (List.mem_append_left _ (List.mem_append_left _ (List.mem_append_left _ (List.mem_append_left _ (List.mem_append_left _ (List.mem_append_left _ (List.mem_of_getElem? (i := 0) rfl)))))))) rfl rfl dX7_fire_13 ?_
  obtain ⟨y3, hc3, hf⟩ := tw_bd hf
  refine tw_cVi (As := []) (stk := []) C (c_X1_isBurning l dC dI cI cZ q hc3) (cwV 0 C.hts gX7_fire_X1_isBurning rfl rfl rfl hd_X1_isBurning ⟨Nat.le_of_ble_eq_true rfl, Nat.le_of_ble_eq_true rfl⟩) 4 (ci := 1) rfl rfl rfl rfl rfl (Nat.le_of_ble_eq_true rfl) dX7_fire_16 ⟨Nat.zero_le _, Nat.zero_le _⟩ ?_
  refine tw_if_ne (tgt := 26) C dX7_fire_19 (by decide) (fun c4 => ?_) (fun c4 => ?_)
  · have hf := tw_neg hf c4
    refine tw_iconst (v := 0) C dX7_fire_26 (by decide) ?_
    exact x_X7_fire_L27 C hl0 X0 hnt v1 v2 0 y3.2 hf
  · have hf := tw_pos hf c4
    refine tw_iconst (v := 1) C dX7_fire_22 (by decide) ?_
    refine tw_goto (tgt := 27) C dX7_fire_23 (by decide) ?_
    exact x_X7_fire_L27 C hl0 X0 hnt v1 v2 1 y3.2 hf
end
/-! X7_feed: public boolean feed(int, boolean) throws java.lang.IndexOutOfBoundsException -/
abbrev rm_X7_feed : Room := { frames := 2, cells := 0, slots := 0, locals := 44 }
def f_X7_feed_L19 (k0 : Int32) (k1 : Int32) (st : twS) : Option ((String × twS) ⊕ (Int32 × twS)) :=
  (if twb k1 2 = true then ((f_X7_hasPower (twA st 8 k1 (vp_nar .boolean k0))).bind fun y19002 => (if twz y19002.1 = true then some (.inr (y19002.1, y19002.2)) else none)) else none)
def f_X7_feed (st : twS) (v1 : Int32) (v2 : Int32) : Option ((String × twS) ⊕ (Int32 × twS)) :=
  ((f_X7_requireIndex st v1 2).bind fun w1 => twTry w1 fun y1 => (if v2 = 0 then
    f_X7_feed_L19 1 v1 y1
  else
    f_X7_feed_L19 0 v1 y1))
section
variable {p : Program} {l : Launch} {e : Env} {s : State} {m : MethodId} {args : Array Value} {below : List Frame} {meth : Method} {c : Code} {Q : State → Prop} {dC : Nat → ClassId} {dI : Nat → Nat → Nat} {cI cZ : ClassId} {q : Nat → Nat} {A : Nat → Prop} {res : Int32 × twS}
set_option maxRecDepth 20000 in
theorem m_X7_feed_L19 (C : twC p s m args meth c cX7_feed 3 RX7 wsX7_feed (dC, dI) (twY cI cZ) A) (hE : twEi p l e rm_X7_feed s m args below meth c 0 0 Q (dC, dI) A 3 cX7_feed .boolean res.1 (twT cI cZ q res.2)) : ∀ (k0 : Int32) (k1 : Int32) (st : twS), f_X7_feed_L19 k0 k1 st = some (.inr res) → twG p l e rm_X7_feed s m args below meth c 0 0 Q (dC, dI) A 3 (twT cI cZ q st) 19 [(0, .ref (q 0))] [.int k0, .int k1, .ref (q 8)] := by
  intro k0 k1 st hf
  unfold f_X7_feed_L19 at hf
  obtain ⟨hb19001, hf⟩ := tw_ck hf
  refine tw_zast C 8 1 hb19001 rfl rfl (tw_T_a8 cI cZ q st k1 (vp_nar .boolean k0)) dX7_feed_19 ?_
  refine tw_aload_n C dX7_feed_20 0 rfl rfl ?_
  obtain ⟨y19002, hc19002, hf⟩ := tw_bd hf
  refine tw_cVi (As := []) (stk := []) C (c_X7_hasPower l dC dI cI cZ q hc19002) (cwV 0 C.hts gX7_feed_X7_hasPower rfl rfl rfl hd_X7_hasPower ⟨Nat.le_of_ble_eq_true rfl, Nat.le_of_ble_eq_true rfl⟩) 0 (ci := 7) rfl rfl rfl rfl rfl (Nat.le_of_ble_eq_true rfl) dX7_feed_21 ⟨Nat.zero_le _, Nat.zero_le _⟩ ?_
  obtain ⟨hz19003, hf⟩ := tw_ck hf
  exact tw_endi (Wf := twT cI cZ q) hE (tw_inr hf) dX7_feed_24 (tw_zz hz19003)
set_option maxRecDepth 20000 in
theorem c_X7_feed (l : Launch) (dC : Nat → ClassId) (dI : Nat → Nat → Nat) (cI cZ : ClassId) (q : Nat → Nat) {st : twS} {v1 : Int32} {v2 : Int32} {res : Int32 × twS} (hf : f_X7_feed st v1 v2 = some (.inr res)) : twMi l yX7_feed wsX7_feed rm_X7_feed (dC, dI) (twY cI cZ) [.ref (q 0), .int v1, .int v2] (twT cI cZ q st) res.1 (twT cI cZ q res.2) := by
  refine tw_enti (cc := cX7_feed) (maxL := 3) (own := RX7) (by decide) rfl (Nat.le_of_ble_eq_true rfl) rfl ⟨rfl, rfl⟩ ?_
  intro p e s m below meth c A Q C hE
  generalize ([.ref (q 0), .int v1, .int v2] : List Value).toArray = args at C hE ⊢
  refine tw_sub (lv' := [(0, .ref (q 0)), (1, .int v1), (2, .int v2)]) [0, 1, 2] rfl ?_
  unfold f_X7_feed at hf
  refine tw_iload_n C dX7_feed_0 1 rfl rfl ?_
  refine tw_iconst (v := 2) C dX7_feed_1 (by decide) ?_
  obtain ⟨y1, hc1, hf⟩ := tw_tryN hf
  refine tw_cSv (As := [.int v1, .int 2]) (stk := []) C (c_X7_requireIndex l dC dI cI cZ q hc1) (va_cwS 2 C.hts gX7_feed_X7_requireIndex rfl rfl rfl hd_X7_requireIndex ⟨Nat.le_of_ble_eq_true rfl, Nat.le_of_ble_eq_true rfl⟩) rfl rfl (Nat.le_of_ble_eq_true rfl) dX7_feed_2 ⟨Nat.zero_le _, Nat.zero_le _⟩ ?_
  refine tw_aload_n C dX7_feed_5 0 rfl rfl ?_
  refine tw_get (K := RX7) (T := TX7) (N := 14) (v := .ref (q 8)) C 0 7 (fun _ h => List.mem_cons_of_mem _ (List.mem_append_left _ (List.mem_append_right _ (h)))) rfl rfl (by decide) (List.mem_cons_of_mem _ (List.mem_append_left _ (List.mem_append_left _ (List.mem_of_getElem? (i := 0) rfl)))) rfl rfl dX7_feed_6 ?_
  refine tw_iload_n C dX7_feed_9 1 rfl rfl ?_
  refine tw_iload_n C dX7_feed_10 2 rfl rfl ?_
  refine tw_if_ne (tgt := 18) C dX7_feed_11 (by decide) (fun c2 => ?_) (fun c2 => ?_)
  · have hf := tw_neg hf c2
    refine tw_iconst (v := 0) C dX7_feed_18 (by decide) ?_
    refine tw_sub [0] rfl ?_
    exact m_X7_feed_L19 C hE 0 v1 y1 hf
  · have hf := tw_pos hf c2
    refine tw_iconst (v := 1) C dX7_feed_14 (by decide) ?_
    refine tw_goto (tgt := 19) C dX7_feed_15 (by decide) ?_
    refine tw_sub [0] rfl ?_
    exact m_X7_feed_L19 C hE 1 v1 y1 hf
end
abbrev rmx_X7_feed : Room := { frames := 7, cells := 1, slots := 6, locals := 103 }
section
variable {p : Program} {l : Launch} {e : Env} {s : State} {m : MethodId} {args : Array Value} {below : List Frame} {meth : Method} {c : Code} {Q : State → Prop} {dC : Nat → ClassId} {dI : Nat → Nat → Nat} {cI cZ : ClassId} {q : Nat → Nat} {A : Nat → Prop} {res : String × twS}
set_option maxRecDepth 20000 in
theorem x_X7_feed_L19 (C : twC p s m args meth c cX7_feed 3 RX7 wsX7_feed (dC, dI) (twY cI cZ) A) (hl0 : l.stackTraces = false) (X0 : twXf A s s.heap) (hnt : ∀ x ∈ c.exceptionTable.toList, False) : ∀ (k0 : Int32) (k1 : Int32) (st : twS), f_X7_feed_L19 k0 k1 st = some (.inl res) → twG p l e rmx_X7_feed s m args below meth c 0 0 (twQx below args s (dC, dI) (twY cI cZ) A res.1 (twT cI cZ q res.2)) (dC, dI) A 3 (twT cI cZ q st) 19 [(0, .ref (q 0))] [.int k0, .int k1, .ref (q 8)] := by
  intro k0 k1 st hf
  unfold f_X7_feed_L19 at hf
  obtain ⟨hb19001, hf⟩ := tw_ck hf
  refine tw_zast C 8 1 hb19001 rfl rfl (tw_T_a8 cI cZ q st k1 (vp_nar .boolean k0)) dX7_feed_19 ?_
  refine tw_aload_n C dX7_feed_20 0 rfl rfl ?_
  obtain ⟨y19002, hc19002, hf⟩ := tw_bd hf
  refine tw_cVi (As := []) (stk := []) C (c_X7_hasPower l dC dI cI cZ q hc19002) (cwV 0 C.hts gX7_feed_X7_hasPower rfl rfl rfl hd_X7_hasPower ⟨Nat.le_of_ble_eq_true rfl, Nat.le_of_ble_eq_true rfl⟩) 0 (ci := 7) rfl rfl rfl rfl rfl (Nat.le_of_ble_eq_true rfl) dX7_feed_21 ⟨Nat.zero_le _, Nat.zero_le _⟩ ?_
  obtain ⟨hz19003, hf⟩ := tw_ck hf
  cases hf
set_option maxRecDepth 20000 in
theorem x_X7_feed (l : Launch) (hl0 : l.stackTraces = false) (dC : Nat → ClassId) (dI : Nat → Nat → Nat) (cI cZ : ClassId) (q : Nat → Nat) {st : twS} {v1 : Int32} {v2 : Int32} {res : String × twS} (hf : f_X7_feed st v1 v2 = some (.inl res)) : twMx l yX7_feed wsX7_feed rmx_X7_feed (dC, dI) (twY cI cZ) [.ref (q 0), .int v1, .int v2] (twT cI cZ q st) res.1 (twT cI cZ q res.2) := by
  refine tw_entx (cc := cX7_feed) (maxL := 3) (own := RX7) (by decide) rfl (Nat.le_of_ble_eq_true rfl) rfl ?_
  intro p e s m below meth c A C X0 hnt
  generalize ([.ref (q 0), .int v1, .int v2] : List Value).toArray = args at C ⊢
  refine tw_sub (lv' := [(0, .ref (q 0)), (1, .int v1), (2, .int v2)]) [0, 1, 2] rfl ?_
  unfold f_X7_feed at hf
  refine tw_iload_n C dX7_feed_0 1 rfl rfl ?_
  refine tw_iconst (v := 2) C dX7_feed_1 (by decide) ?_
  rcases tw_tryX hf with hx1 | ⟨y1, hc1, hf⟩
  · exact tw_xS (As := [.int v1, .int 2]) (stk := []) C X0 hnt (x_X7_requireIndex l hl0 dC dI cI cZ q hx1) (va_cwS 2 C.hts gX7_feed_X7_requireIndex rfl rfl rfl hd_X7_requireIndex ⟨Nat.le_of_ble_eq_true rfl, Nat.le_of_ble_eq_true rfl⟩) rfl rfl (Nat.le_of_ble_eq_true rfl) dX7_feed_2 ⟨Nat.le_of_ble_eq_true rfl, Nat.le_of_ble_eq_true rfl⟩
  refine tw_cSv (As := [.int v1, .int 2]) (stk := []) C (c_X7_requireIndex l dC dI cI cZ q hc1) (va_cwS 2 C.hts gX7_feed_X7_requireIndex rfl rfl rfl hd_X7_requireIndex ⟨Nat.le_of_ble_eq_true rfl, Nat.le_of_ble_eq_true rfl⟩) rfl rfl (Nat.le_of_ble_eq_true rfl) dX7_feed_2 ⟨Nat.zero_le _, Nat.zero_le _⟩ ?_
  refine tw_aload_n C dX7_feed_5 0 rfl rfl ?_
  refine tw_get (K := RX7) (T := TX7) (N := 14) (v := .ref (q 8)) C 0 7 (fun _ h => List.mem_cons_of_mem _ (List.mem_append_left _ (List.mem_append_right _ (h)))) rfl rfl (by decide) (List.mem_cons_of_mem _ (List.mem_append_left _ (List.mem_append_left _ (List.mem_of_getElem? (i := 0) rfl)))) rfl rfl dX7_feed_6 ?_
  refine tw_iload_n C dX7_feed_9 1 rfl rfl ?_
  refine tw_iload_n C dX7_feed_10 2 rfl rfl ?_
  refine tw_if_ne (tgt := 18) C dX7_feed_11 (by decide) (fun c2 => ?_) (fun c2 => ?_)
  · have hf := tw_neg hf c2
    refine tw_iconst (v := 0) C dX7_feed_18 (by decide) ?_
    refine tw_sub [0] rfl ?_
    exact x_X7_feed_L19 C hl0 X0 hnt 0 v1 y1 hf
  · have hf := tw_pos hf c2
    refine tw_iconst (v := 1) C dX7_feed_14 (by decide) ?_
    refine tw_goto (tgt := 19) C dX7_feed_15 (by decide) ?_
    refine tw_sub [0] rfl ?_
    exact x_X7_feed_L19 C hl0 X0 hnt 1 v1 y1 hf
end
/-! X7_failFan: public int failFan(int, boolean) throws java.lang.IndexOutOfBoundsException -/
abbrev rm_X7_failFan : Room := { frames := 2, cells := 0, slots := 0, locals := 44 }
def f_X7_failFan (st : twS) (v1 : Int32) (v2 : Int32) : Option ((String × twS) ⊕ (Int32 × twS)) :=
  ((f_X7_requireIndex st v1 3).bind fun w1 => twTry w1 fun y1 => ((f_X5_setFailing y1 v1 v2).bind fun y2 => ((f_X5_stateOf y2 v1).bind fun y3 => some (.inr (y3.1, y3.2)))))
section
variable {p : Program} {l : Launch} {e : Env} {s : State} {m : MethodId} {args : Array Value} {below : List Frame} {meth : Method} {c : Code} {Q : State → Prop} {dC : Nat → ClassId} {dI : Nat → Nat → Nat} {cI cZ : ClassId} {q : Nat → Nat} {A : Nat → Prop} {res : Int32 × twS}
set_option maxRecDepth 20000 in
theorem c_X7_failFan (l : Launch) (dC : Nat → ClassId) (dI : Nat → Nat → Nat) (cI cZ : ClassId) (q : Nat → Nat) {st : twS} {v1 : Int32} {v2 : Int32} {res : Int32 × twS} (hf : f_X7_failFan st v1 v2 = some (.inr res)) : twMi l yX7_failFan wsX7_failFan rm_X7_failFan (dC, dI) (twY cI cZ) [.ref (q 0), .int v1, .int v2] (twT cI cZ q st) res.1 (twT cI cZ q res.2) := by
  refine tw_enti (cc := cX7_failFan) (maxL := 3) (own := RX7) (by decide) rfl (Nat.le_of_ble_eq_true rfl) rfl ⟨rfl, rfl⟩ ?_
  intro p e s m below meth c A Q C hE
  generalize ([.ref (q 0), .int v1, .int v2] : List Value).toArray = args at C hE ⊢
  refine tw_sub (lv' := [(0, .ref (q 0)), (1, .int v1), (2, .int v2)]) [0, 1, 2] rfl ?_
  unfold f_X7_failFan at hf
  refine tw_iload_n C dX7_failFan_0 1 rfl rfl ?_
  refine tw_iconst (v := 3) C dX7_failFan_1 (by decide) ?_
  obtain ⟨y1, hc1, hf⟩ := tw_tryN hf
  refine tw_cSv (As := [.int v1, .int 3]) (stk := []) C (c_X7_requireIndex l dC dI cI cZ q hc1) (va_cwS 2 C.hts gX7_failFan_X7_requireIndex rfl rfl rfl hd_X7_requireIndex ⟨Nat.le_of_ble_eq_true rfl, Nat.le_of_ble_eq_true rfl⟩) rfl rfl (Nat.le_of_ble_eq_true rfl) dX7_failFan_2 ⟨Nat.zero_le _, Nat.zero_le _⟩ ?_
  refine tw_aload_n C dX7_failFan_5 0 rfl rfl ?_
  refine tw_get (K := RX7) (T := TX7) (N := 14) (v := .ref (q 1)) C 0 0 (fun _ h => List.mem_cons_of_mem _ (List.mem_append_left _ (List.mem_append_left _ (List.mem_append_right _ (h))))) rfl rfl (by decide) (List.mem_cons_of_mem _ (List.mem_append_left _ (List.mem_append_left _ (List.mem_append_left _ (List.mem_of_getElem? (i := 0) rfl))))) rfl rfl dX7_failFan_6 ?_
  refine tw_iload_n C dX7_failFan_9 1 rfl rfl ?_
  refine tw_iload_n C dX7_failFan_10 2 rfl rfl ?_
  obtain ⟨y2, hc2, hf⟩ := tw_bd hf
  refine tw_cVv (As := [.int v1, .int v2]) (stk := []) C (c_X5_setFailing l dC dI cI cZ q hc2) (cwV 2 C.hts gX7_failFan_X5_setFailing rfl rfl rfl hd_X5_setFailing ⟨Nat.le_of_ble_eq_true rfl, Nat.le_of_ble_eq_true rfl⟩) 1 (ci := 5) rfl rfl rfl rfl rfl (Nat.le_of_ble_eq_true rfl) dX7_failFan_11 ⟨Nat.zero_le _, Nat.zero_le _⟩ ?_
  refine tw_aload_n C dX7_failFan_14 0 rfl rfl ?_
  refine tw_get (K := RX7) (T := TX7) (N := 14) (v := .ref (q 1)) C 0 0 (fun _ h => List.mem_cons_of_mem _ (List.mem_append_left _ (List.mem_append_left _ (List.mem_append_right _ (h))))) rfl rfl (by decide) (List.mem_cons_of_mem _ (List.mem_append_left _ (List.mem_append_left _ (List.mem_append_left _ (List.mem_of_getElem? (i := 0) rfl))))) rfl rfl dX7_failFan_15 ?_
  refine tw_iload_n C dX7_failFan_18 1 rfl rfl ?_
  obtain ⟨y3, hc3, hf⟩ := tw_bd hf
  refine tw_cVi (As := [.int v1]) (stk := []) C (c_X5_stateOf l dC dI cI cZ q hc3) (cwV 1 C.hts gX7_failFan_X5_stateOf rfl rfl rfl hd_X5_stateOf ⟨Nat.le_of_ble_eq_true rfl, Nat.le_of_ble_eq_true rfl⟩) 1 (ci := 5) rfl rfl rfl rfl rfl (Nat.le_of_ble_eq_true rfl) dX7_failFan_19 ⟨Nat.zero_le _, Nat.zero_le _⟩ ?_
  exact tw_endi (Wf := twT cI cZ q) hE (tw_inr hf) dX7_failFan_22 rfl
end
abbrev rmx_X7_failFan : Room := { frames := 7, cells := 1, slots := 6, locals := 103 }
section
variable {p : Program} {l : Launch} {e : Env} {s : State} {m : MethodId} {args : Array Value} {below : List Frame} {meth : Method} {c : Code} {Q : State → Prop} {dC : Nat → ClassId} {dI : Nat → Nat → Nat} {cI cZ : ClassId} {q : Nat → Nat} {A : Nat → Prop} {res : String × twS}
set_option maxRecDepth 20000 in
theorem x_X7_failFan (l : Launch) (hl0 : l.stackTraces = false) (dC : Nat → ClassId) (dI : Nat → Nat → Nat) (cI cZ : ClassId) (q : Nat → Nat) {st : twS} {v1 : Int32} {v2 : Int32} {res : String × twS} (hf : f_X7_failFan st v1 v2 = some (.inl res)) : twMx l yX7_failFan wsX7_failFan rmx_X7_failFan (dC, dI) (twY cI cZ) [.ref (q 0), .int v1, .int v2] (twT cI cZ q st) res.1 (twT cI cZ q res.2) := by
  refine tw_entx (cc := cX7_failFan) (maxL := 3) (own := RX7) (by decide) rfl (Nat.le_of_ble_eq_true rfl) rfl ?_
  intro p e s m below meth c A C X0 hnt
  generalize ([.ref (q 0), .int v1, .int v2] : List Value).toArray = args at C ⊢
  refine tw_sub (lv' := [(0, .ref (q 0)), (1, .int v1), (2, .int v2)]) [0, 1, 2] rfl ?_
  unfold f_X7_failFan at hf
  refine tw_iload_n C dX7_failFan_0 1 rfl rfl ?_
  refine tw_iconst (v := 3) C dX7_failFan_1 (by decide) ?_
  rcases tw_tryX hf with hx1 | ⟨y1, hc1, hf⟩
  · exact tw_xS (As := [.int v1, .int 3]) (stk := []) C X0 hnt (x_X7_requireIndex l hl0 dC dI cI cZ q hx1) (va_cwS 2 C.hts gX7_failFan_X7_requireIndex rfl rfl rfl hd_X7_requireIndex ⟨Nat.le_of_ble_eq_true rfl, Nat.le_of_ble_eq_true rfl⟩) rfl rfl (Nat.le_of_ble_eq_true rfl) dX7_failFan_2 ⟨Nat.le_of_ble_eq_true rfl, Nat.le_of_ble_eq_true rfl⟩
  refine tw_cSv (As := [.int v1, .int 3]) (stk := []) C (c_X7_requireIndex l dC dI cI cZ q hc1) (va_cwS 2 C.hts gX7_failFan_X7_requireIndex rfl rfl rfl hd_X7_requireIndex ⟨Nat.le_of_ble_eq_true rfl, Nat.le_of_ble_eq_true rfl⟩) rfl rfl (Nat.le_of_ble_eq_true rfl) dX7_failFan_2 ⟨Nat.zero_le _, Nat.zero_le _⟩ ?_
  refine tw_aload_n C dX7_failFan_5 0 rfl rfl ?_
  refine tw_get (K := RX7) (T := TX7) (N := 14) (v := .ref (q 1)) C 0 0 (fun _ h => List.mem_cons_of_mem _ (List.mem_append_left _ (List.mem_append_left _ (List.mem_append_right _ (h))))) rfl rfl (by decide) (List.mem_cons_of_mem _ (List.mem_append_left _ (List.mem_append_left _ (List.mem_append_left _ (List.mem_of_getElem? (i := 0) rfl))))) rfl rfl dX7_failFan_6 ?_
  refine tw_iload_n C dX7_failFan_9 1 rfl rfl ?_
  refine tw_iload_n C dX7_failFan_10 2 rfl rfl ?_
  obtain ⟨y2, hc2, hf⟩ := tw_bd hf
  refine tw_cVv (As := [.int v1, .int v2]) (stk := []) C (c_X5_setFailing l dC dI cI cZ q hc2) (cwV 2 C.hts gX7_failFan_X5_setFailing rfl rfl rfl hd_X5_setFailing ⟨Nat.le_of_ble_eq_true rfl, Nat.le_of_ble_eq_true rfl⟩) 1 (ci := 5) rfl rfl rfl rfl rfl (Nat.le_of_ble_eq_true rfl) dX7_failFan_11 ⟨Nat.zero_le _, Nat.zero_le _⟩ ?_
  refine tw_aload_n C dX7_failFan_14 0 rfl rfl ?_
  refine tw_get (K := RX7) (T := TX7) (N := 14) (v := .ref (q 1)) C 0 0 (fun _ h => List.mem_cons_of_mem _ (List.mem_append_left _ (List.mem_append_left _ (List.mem_append_right _ (h))))) rfl rfl (by decide) (List.mem_cons_of_mem _ (List.mem_append_left _ (List.mem_append_left _ (List.mem_append_left _ (List.mem_of_getElem? (i := 0) rfl))))) rfl rfl dX7_failFan_15 ?_
  refine tw_iload_n C dX7_failFan_18 1 rfl rfl ?_
  obtain ⟨y3, hc3, hf⟩ := tw_bd hf
  refine tw_cVi (As := [.int v1]) (stk := []) C (c_X5_stateOf l dC dI cI cZ q hc3) (cwV 1 C.hts gX7_failFan_X5_stateOf rfl rfl rfl hd_X5_stateOf ⟨Nat.le_of_ble_eq_true rfl, Nat.le_of_ble_eq_true rfl⟩) 1 (ci := 5) rfl rfl rfl rfl rfl (Nat.le_of_ble_eq_true rfl) dX7_failFan_19 ⟨Nat.zero_le _, Nat.zero_le _⟩ ?_
  cases hf
end
/-! X7_requireDoor: private void requireDoor(int) -/
abbrev rm_X7_requireDoor : Room := { frames := 2, cells := 0, slots := 0, locals := 41 }
def f_X7_requireDoor (st : twS) (v1 : Int32) : Option ((String × twS) ⊕ (twS)) :=
  ((f_X4_isThere st v1).bind fun y1 => (if y1.1 = 0 then
    some (.inl ("java/lang/IndexOutOfBoundsException", y1.2))
  else
    some (.inr y1.2)))
section
variable {p : Program} {l : Launch} {e : Env} {s : State} {m : MethodId} {args : Array Value} {below : List Frame} {meth : Method} {c : Code} {Q : State → Prop} {dC : Nat → ClassId} {dI : Nat → Nat → Nat} {cI cZ : ClassId} {q : Nat → Nat} {A : Nat → Prop} {res : twS}
set_option maxRecDepth 20000 in
theorem c_X7_requireDoor (l : Launch) (dC : Nat → ClassId) (dI : Nat → Nat → Nat) (cI cZ : ClassId) (q : Nat → Nat) {st : twS} {v1 : Int32} {res : twS} (hf : f_X7_requireDoor st v1 = some (.inr res)) : twMv l yX7_requireDoor wsX7_requireDoor rm_X7_requireDoor (dC, dI) (twY cI cZ) [.ref (q 0), .int v1] (twT cI cZ q st) (twT cI cZ q res) := by
  refine tw_entv (cc := cX7_requireDoor) (maxL := 2) (own := RX7) (by decide) rfl (Nat.le_of_ble_eq_true rfl) rfl ⟨rfl, rfl⟩ ?_
  intro p e s m below meth c A Q C hE
  generalize ([.ref (q 0), .int v1] : List Value).toArray = args at C hE ⊢
  refine tw_sub (lv' := [(0, .ref (q 0)), (1, .int v1)]) [0, 1] rfl ?_
  unfold f_X7_requireDoor at hf
  refine tw_aload_n C dX7_requireDoor_0 0 rfl rfl ?_
  refine tw_get (K := RX7) (T := TX7) (N := 14) (v := .ref (q 5)) C 0 4 (fun _ h => List.mem_cons_of_mem _ (List.mem_append_left _ (List.mem_append_left _ (List.mem_append_right _ (h))))) rfl rfl (by decide) (List.mem_cons_of_mem _ (List.mem_append_left _ (List.mem_append_left _ (List.mem_append_left _ (List.mem_of_getElem? (i := 2) rfl))))) rfl rfl dX7_requireDoor_1 ?_
  refine tw_iload_n C dX7_requireDoor_4 1 rfl rfl ?_
  obtain ⟨y1, hc1, hf⟩ := tw_bd hf
  refine tw_cVi (As := [.int v1]) (stk := []) C (c_X4_isThere l dC dI cI cZ q hc1) (cwV 1 C.hts gX7_requireDoor_X4_isThere rfl rfl rfl hd_X4_isThere ⟨Nat.le_of_ble_eq_true rfl, Nat.le_of_ble_eq_true rfl⟩) 5 (ci := 4) rfl rfl rfl rfl rfl (Nat.le_of_ble_eq_true rfl) dX7_requireDoor_5 ⟨Nat.zero_le _, Nat.zero_le _⟩ ?_
  refine tw_if_ne (tgt := 22) C dX7_requireDoor_8 (by decide) (fun c2 => ?_) (fun c2 => ?_)
  · have hf := tw_neg hf c2
    exact tw_endv (Wf := twT cI cZ q) hE (tw_inr hf) dX7_requireDoor_22
  · have hf := tw_pos hf c2
    cases hf
end
abbrev rmx_X7_requireDoor : Room := { frames := 6, cells := 1, slots := 6, locals := 82 }
section
variable {p : Program} {l : Launch} {e : Env} {s : State} {m : MethodId} {args : Array Value} {below : List Frame} {meth : Method} {c : Code} {Q : State → Prop} {dC : Nat → ClassId} {dI : Nat → Nat → Nat} {cI cZ : ClassId} {q : Nat → Nat} {A : Nat → Prop} {res : String × twS}
set_option maxRecDepth 20000 in
theorem x_X7_requireDoor (l : Launch) (hl0 : l.stackTraces = false) (dC : Nat → ClassId) (dI : Nat → Nat → Nat) (cI cZ : ClassId) (q : Nat → Nat) {st : twS} {v1 : Int32} {res : String × twS} (hf : f_X7_requireDoor st v1 = some (.inl res)) : twMx l yX7_requireDoor wsX7_requireDoor rmx_X7_requireDoor (dC, dI) (twY cI cZ) [.ref (q 0), .int v1] (twT cI cZ q st) res.1 (twT cI cZ q res.2) := by
  refine tw_entx (cc := cX7_requireDoor) (maxL := 2) (own := RX7) (by decide) rfl (Nat.le_of_ble_eq_true rfl) rfl ?_
  intro p e s m below meth c A C X0 hnt
  generalize ([.ref (q 0), .int v1] : List Value).toArray = args at C ⊢
  refine tw_sub (lv' := [(0, .ref (q 0)), (1, .int v1)]) [0, 1] rfl ?_
  unfold f_X7_requireDoor at hf
  refine tw_aload_n C dX7_requireDoor_0 0 rfl rfl ?_
  refine tw_get (K := RX7) (T := TX7) (N := 14) (v := .ref (q 5)) C 0 4 (fun _ h => List.mem_cons_of_mem _ (List.mem_append_left _ (List.mem_append_left _ (List.mem_append_right _ (h))))) rfl rfl (by decide) (List.mem_cons_of_mem _ (List.mem_append_left _ (List.mem_append_left _ (List.mem_append_left _ (List.mem_of_getElem? (i := 2) rfl))))) rfl rfl dX7_requireDoor_1 ?_
  refine tw_iload_n C dX7_requireDoor_4 1 rfl rfl ?_
  obtain ⟨y1, hc1, hf⟩ := tw_bd hf
  refine tw_cVi (As := [.int v1]) (stk := []) C (c_X4_isThere l dC dI cI cZ q hc1) (cwV 1 C.hts gX7_requireDoor_X4_isThere rfl rfl rfl hd_X4_isThere ⟨Nat.le_of_ble_eq_true rfl, Nat.le_of_ble_eq_true rfl⟩) 5 (ci := 4) rfl rfl rfl rfl rfl (Nat.le_of_ble_eq_true rfl) dX7_requireDoor_5 ⟨Nat.zero_le _, Nat.zero_le _⟩ ?_
  refine tw_if_ne (tgt := 22) C dX7_requireDoor_8 (by decide) (fun c2 => ?_) (fun c2 => ?_)
  · have hf := tw_neg hf c2
    cases hf
  · have hf := tw_pos hf c2
    cases hf
    exact tw_thr C hl0 X0 hnt (E := twX1) (by decide) (List.mem_cons_of_mem _ (List.mem_append_left _ (List.mem_append_left _ (List.mem_append_left _ (List.mem_of_getElem? (i := 0) rfl))))) (List.mem_cons_of_mem _ (List.mem_append_left _ (List.mem_append_left _ (List.mem_append_left _ (List.mem_of_getElem? (i := 1) rfl))))) X0.2.2.2.2.2.1 (fun _ h => List.mem_cons_of_mem _ (List.mem_append_right _ (h))) tw_ng_280 X0.2.2.2.2.2.2.1 tw_gd_280 dX7_requireDoor_11 dX7_requireDoor_14 dX7_requireDoor_15 dX7_requireDoor_18 dX7_requireDoor_21 (Nat.le_of_ble_eq_true rfl) (Nat.le_of_ble_eq_true rfl) (Nat.le_of_ble_eq_true rfl) (Nat.le_of_ble_eq_true rfl)
end
/-! X7_failDoor: public boolean failDoor(int, boolean) throws java.lang.IndexOutOfBoundsException -/
abbrev rm_X7_failDoor : Room := { frames := 3, cells := 0, slots := 0, locals := 62 }
def f_X7_failDoor (st : twS) (v1 : Int32) (v2 : Int32) : Option ((String × twS) ⊕ (Int32 × twS)) :=
  ((f_X7_requireDoor st v1).bind fun w1 => twTry w1 fun y1 => ((f_X4_setFailing y1 v1 v2).bind fun y2 => ((f_X4_isOpen y2 v1).bind fun y3 => (if twz y3.1 = true then some (.inr (y3.1, y3.2)) else none))))
section
variable {p : Program} {l : Launch} {e : Env} {s : State} {m : MethodId} {args : Array Value} {below : List Frame} {meth : Method} {c : Code} {Q : State → Prop} {dC : Nat → ClassId} {dI : Nat → Nat → Nat} {cI cZ : ClassId} {q : Nat → Nat} {A : Nat → Prop} {res : Int32 × twS}
set_option maxRecDepth 20000 in
theorem c_X7_failDoor (l : Launch) (dC : Nat → ClassId) (dI : Nat → Nat → Nat) (cI cZ : ClassId) (q : Nat → Nat) {st : twS} {v1 : Int32} {v2 : Int32} {res : Int32 × twS} (hf : f_X7_failDoor st v1 v2 = some (.inr res)) : twMi l yX7_failDoor wsX7_failDoor rm_X7_failDoor (dC, dI) (twY cI cZ) [.ref (q 0), .int v1, .int v2] (twT cI cZ q st) res.1 (twT cI cZ q res.2) := by
  refine tw_enti (cc := cX7_failDoor) (maxL := 3) (own := RX7) (by decide) rfl (Nat.le_of_ble_eq_true rfl) rfl ⟨rfl, rfl⟩ ?_
  intro p e s m below meth c A Q C hE
  generalize ([.ref (q 0), .int v1, .int v2] : List Value).toArray = args at C hE ⊢
  refine tw_sub (lv' := [(0, .ref (q 0)), (1, .int v1), (2, .int v2)]) [0, 1, 2] rfl ?_
  unfold f_X7_failDoor at hf
  refine tw_aload_n C dX7_failDoor_0 0 rfl rfl ?_
  refine tw_iload_n C dX7_failDoor_1 1 rfl rfl ?_
  obtain ⟨y1, hc1, hf⟩ := tw_tryN hf
  refine tw_cVv (As := [.int v1]) (stk := []) C (c_X7_requireDoor l dC dI cI cZ q hc1) (cwV 1 C.hts gX7_failDoor_X7_requireDoor rfl rfl rfl hd_X7_requireDoor ⟨Nat.le_of_ble_eq_true rfl, Nat.le_of_ble_eq_true rfl⟩) 0 (ci := 7) rfl rfl rfl rfl rfl (Nat.le_of_ble_eq_true rfl) dX7_failDoor_2 ⟨Nat.zero_le _, Nat.zero_le _⟩ ?_
  refine tw_aload_n C dX7_failDoor_5 0 rfl rfl ?_
  refine tw_get (K := RX7) (T := TX7) (N := 14) (v := .ref (q 5)) C 0 4 (fun _ h => List.mem_cons_of_mem _ (List.mem_append_left _ (List.mem_append_left _ (List.mem_append_right _ (h))))) rfl rfl (by decide) (List.mem_cons_of_mem _ (List.mem_append_left _ (List.mem_append_left _ (List.mem_append_left _ (List.mem_append_left _ (List.mem_of_getElem? (i := 0) rfl)))))) rfl rfl dX7_failDoor_6 ?_
  refine tw_iload_n C dX7_failDoor_9 1 rfl rfl ?_
  refine tw_iload_n C dX7_failDoor_10 2 rfl rfl ?_
  obtain ⟨y2, hc2, hf⟩ := tw_bd hf
  refine tw_cVv (As := [.int v1, .int v2]) (stk := []) C (c_X4_setFailing l dC dI cI cZ q hc2) (cwV 2 C.hts gX7_failDoor_X4_setFailing rfl rfl rfl hd_X4_setFailing ⟨Nat.le_of_ble_eq_true rfl, Nat.le_of_ble_eq_true rfl⟩) 5 (ci := 4) rfl rfl rfl rfl rfl (Nat.le_of_ble_eq_true rfl) dX7_failDoor_11 ⟨Nat.zero_le _, Nat.zero_le _⟩ ?_
  refine tw_aload_n C dX7_failDoor_14 0 rfl rfl ?_
  refine tw_get (K := RX7) (T := TX7) (N := 14) (v := .ref (q 5)) C 0 4 (fun _ h => List.mem_cons_of_mem _ (List.mem_append_left _ (List.mem_append_left _ (List.mem_append_right _ (h))))) rfl rfl (by decide) (List.mem_cons_of_mem _ (List.mem_append_left _ (List.mem_append_left _ (List.mem_append_left _ (List.mem_append_left _ (List.mem_of_getElem? (i := 0) rfl)))))) rfl rfl dX7_failDoor_15 ?_
  refine tw_iload_n C dX7_failDoor_18 1 rfl rfl ?_
  obtain ⟨y3, hc3, hf⟩ := tw_bd hf
  refine tw_cVi (As := [.int v1]) (stk := []) C (c_X4_isOpen l dC dI cI cZ q hc3) (cwV 1 C.hts gX7_failDoor_X4_isOpen rfl rfl rfl hd_X4_isOpen ⟨Nat.le_of_ble_eq_true rfl, Nat.le_of_ble_eq_true rfl⟩) 5 (ci := 4) rfl rfl rfl rfl rfl (Nat.le_of_ble_eq_true rfl) dX7_failDoor_19 ⟨Nat.zero_le _, Nat.zero_le _⟩ ?_
  obtain ⟨hz4, hf⟩ := tw_ck hf
  exact tw_endi (Wf := twT cI cZ q) hE (tw_inr hf) dX7_failDoor_22 (tw_zz hz4)
end
abbrev rmx_X7_failDoor : Room := { frames := 7, cells := 1, slots := 6, locals := 103 }
section
variable {p : Program} {l : Launch} {e : Env} {s : State} {m : MethodId} {args : Array Value} {below : List Frame} {meth : Method} {c : Code} {Q : State → Prop} {dC : Nat → ClassId} {dI : Nat → Nat → Nat} {cI cZ : ClassId} {q : Nat → Nat} {A : Nat → Prop} {res : String × twS}
set_option maxRecDepth 20000 in
theorem x_X7_failDoor (l : Launch) (hl0 : l.stackTraces = false) (dC : Nat → ClassId) (dI : Nat → Nat → Nat) (cI cZ : ClassId) (q : Nat → Nat) {st : twS} {v1 : Int32} {v2 : Int32} {res : String × twS} (hf : f_X7_failDoor st v1 v2 = some (.inl res)) : twMx l yX7_failDoor wsX7_failDoor rmx_X7_failDoor (dC, dI) (twY cI cZ) [.ref (q 0), .int v1, .int v2] (twT cI cZ q st) res.1 (twT cI cZ q res.2) := by
  refine tw_entx (cc := cX7_failDoor) (maxL := 3) (own := RX7) (by decide) rfl (Nat.le_of_ble_eq_true rfl) rfl ?_
  intro p e s m below meth c A C X0 hnt
  generalize ([.ref (q 0), .int v1, .int v2] : List Value).toArray = args at C ⊢
  refine tw_sub (lv' := [(0, .ref (q 0)), (1, .int v1), (2, .int v2)]) [0, 1, 2] rfl ?_
  unfold f_X7_failDoor at hf
  refine tw_aload_n C dX7_failDoor_0 0 rfl rfl ?_
  refine tw_iload_n C dX7_failDoor_1 1 rfl rfl ?_
  rcases tw_tryX hf with hx1 | ⟨y1, hc1, hf⟩
  · exact tw_xV (As := [.int v1]) (stk := []) C X0 hnt (x_X7_requireDoor l hl0 dC dI cI cZ q hx1) (cwV 1 C.hts gX7_failDoor_X7_requireDoor rfl rfl rfl hd_X7_requireDoor ⟨Nat.le_of_ble_eq_true rfl, Nat.le_of_ble_eq_true rfl⟩) 0 (ci := 7) rfl rfl rfl rfl rfl (Nat.le_of_ble_eq_true rfl) dX7_failDoor_2 ⟨Nat.le_of_ble_eq_true rfl, Nat.le_of_ble_eq_true rfl⟩
  refine tw_cVv (As := [.int v1]) (stk := []) C (c_X7_requireDoor l dC dI cI cZ q hc1) (cwV 1 C.hts gX7_failDoor_X7_requireDoor rfl rfl rfl hd_X7_requireDoor ⟨Nat.le_of_ble_eq_true rfl, Nat.le_of_ble_eq_true rfl⟩) 0 (ci := 7) rfl rfl rfl rfl rfl (Nat.le_of_ble_eq_true rfl) dX7_failDoor_2 ⟨Nat.zero_le _, Nat.zero_le _⟩ ?_
  refine tw_aload_n C dX7_failDoor_5 0 rfl rfl ?_
  refine tw_get (K := RX7) (T := TX7) (N := 14) (v := .ref (q 5)) C 0 4 (fun _ h => List.mem_cons_of_mem _ (List.mem_append_left _ (List.mem_append_left _ (List.mem_append_right _ (h))))) rfl rfl (by decide) (List.mem_cons_of_mem _ (List.mem_append_left _ (List.mem_append_left _ (List.mem_append_left _ (List.mem_append_left _ (List.mem_of_getElem? (i := 0) rfl)))))) rfl rfl dX7_failDoor_6 ?_
  refine tw_iload_n C dX7_failDoor_9 1 rfl rfl ?_
  refine tw_iload_n C dX7_failDoor_10 2 rfl rfl ?_
  obtain ⟨y2, hc2, hf⟩ := tw_bd hf
  refine tw_cVv (As := [.int v1, .int v2]) (stk := []) C (c_X4_setFailing l dC dI cI cZ q hc2) (cwV 2 C.hts gX7_failDoor_X4_setFailing rfl rfl rfl hd_X4_setFailing ⟨Nat.le_of_ble_eq_true rfl, Nat.le_of_ble_eq_true rfl⟩) 5 (ci := 4) rfl rfl rfl rfl rfl (Nat.le_of_ble_eq_true rfl) dX7_failDoor_11 ⟨Nat.zero_le _, Nat.zero_le _⟩ ?_
  refine tw_aload_n C dX7_failDoor_14 0 rfl rfl ?_
  refine tw_get (K := RX7) (T := TX7) (N := 14) (v := .ref (q 5)) C 0 4 (fun _ h => List.mem_cons_of_mem _ (List.mem_append_left _ (List.mem_append_left _ (List.mem_append_right _ (h))))) rfl rfl (by decide) (List.mem_cons_of_mem _ (List.mem_append_left _ (List.mem_append_left _ (List.mem_append_left _ (List.mem_append_left _ (List.mem_of_getElem? (i := 0) rfl)))))) rfl rfl dX7_failDoor_15 ?_
  refine tw_iload_n C dX7_failDoor_18 1 rfl rfl ?_
  obtain ⟨y3, hc3, hf⟩ := tw_bd hf
  refine tw_cVi (As := [.int v1]) (stk := []) C (c_X4_isOpen l dC dI cI cZ q hc3) (cwV 1 C.hts gX7_failDoor_X4_isOpen rfl rfl rfl hd_X4_isOpen ⟨Nat.le_of_ble_eq_true rfl, Nat.le_of_ble_eq_true rfl⟩) 5 (ci := 4) rfl rfl rfl rfl rfl (Nat.le_of_ble_eq_true rfl) dX7_failDoor_19 ⟨Nat.zero_le _, Nat.zero_le _⟩ ?_
  obtain ⟨hz4, hf⟩ := tw_ck hf
  cases hf
end
/-! X7_failDetector: public void failDetector(int, int, boolean) throws java.lang.IndexOutOfBoundsException -/
abbrev rm_X7_failDetector : Room := { frames := 3, cells := 0, slots := 0, locals := 64 }
def f_X7_failDetector (st : twS) (v1 : Int32) (v2 : Int32) (v3 : Int32) : Option ((String × twS) ⊕ (twS)) :=
  ((f_X7_requireSegment st v1).bind fun w1 => twTry w1 fun y1 => ((f_X7_requireIndex y1 v2 3).bind fun w2 => twTry w2 fun y2 => (if twb ((v1 * 3) + v2) 36 = true then some (.inr (twA y2 9 ((v1 * 3) + v2) (vp_nar .boolean v3))) else none)))
section
variable {p : Program} {l : Launch} {e : Env} {s : State} {m : MethodId} {args : Array Value} {below : List Frame} {meth : Method} {c : Code} {Q : State → Prop} {dC : Nat → ClassId} {dI : Nat → Nat → Nat} {cI cZ : ClassId} {q : Nat → Nat} {A : Nat → Prop} {res : twS}
set_option maxRecDepth 20000 in
theorem c_X7_failDetector (l : Launch) (dC : Nat → ClassId) (dI : Nat → Nat → Nat) (cI cZ : ClassId) (q : Nat → Nat) {st : twS} {v1 : Int32} {v2 : Int32} {v3 : Int32} {res : twS} (hf : f_X7_failDetector st v1 v2 v3 = some (.inr res)) : twMv l yX7_failDetector wsX7_failDetector rm_X7_failDetector (dC, dI) (twY cI cZ) [.ref (q 0), .int v1, .int v2, .int v3] (twT cI cZ q st) (twT cI cZ q res) := by
  refine tw_entv (cc := cX7_failDetector) (maxL := 4) (own := RX7) (by decide) rfl (Nat.le_of_ble_eq_true rfl) rfl ⟨rfl, rfl⟩ ?_
  intro p e s m below meth c A Q C hE
  generalize ([.ref (q 0), .int v1, .int v2, .int v3] : List Value).toArray = args at C hE ⊢
  refine tw_sub (lv' := [(0, .ref (q 0)), (1, .int v1), (2, .int v2), (3, .int v3)]) [0, 1, 2, 3] rfl ?_
  unfold f_X7_failDetector at hf
  refine tw_iload_n C dX7_failDetector_0 1 rfl rfl ?_
  obtain ⟨y1, hc1, hf⟩ := tw_tryN hf
  refine tw_cSv (As := [.int v1]) (stk := []) C (c_X7_requireSegment l dC dI cI cZ q hc1) (va_cwS 1 C.hts gX7_failDetector_X7_requireSegment rfl rfl rfl hd_X7_requireSegment ⟨Nat.le_of_ble_eq_true rfl, Nat.le_of_ble_eq_true rfl⟩) rfl rfl (Nat.le_of_ble_eq_true rfl) dX7_failDetector_1 ⟨Nat.zero_le _, Nat.zero_le _⟩ ?_
  refine tw_iload_n C dX7_failDetector_4 2 rfl rfl ?_
  refine tw_iconst (v := 3) C dX7_failDetector_5 (by decide) ?_
  obtain ⟨y2, hc2, hf⟩ := tw_tryN hf
  refine tw_cSv (As := [.int v2, .int 3]) (stk := []) C (c_X7_requireIndex l dC dI cI cZ q hc2) (va_cwS 2 C.hts gX7_failDetector_X7_requireIndex rfl rfl rfl hd_X7_requireIndex ⟨Nat.le_of_ble_eq_true rfl, Nat.le_of_ble_eq_true rfl⟩) rfl rfl (Nat.le_of_ble_eq_true rfl) dX7_failDetector_6 ⟨Nat.zero_le _, Nat.zero_le _⟩ ?_
  refine tw_aload_n C dX7_failDetector_9 0 rfl rfl ?_
  refine tw_get (K := RX7) (T := TX7) (N := 14) (v := .ref (q 9)) C 0 8 (fun _ h => List.mem_cons_of_mem _ (List.mem_append_left _ (List.mem_append_right _ (h)))) rfl rfl (by decide) (List.mem_cons_of_mem _ (List.mem_append_left _ (List.mem_append_left _ (List.mem_of_getElem? (i := 0) rfl)))) rfl rfl dX7_failDetector_10 ?_
  refine tw_iload_n C dX7_failDetector_13 1 rfl rfl ?_
  refine tw_iconst (v := 3) C dX7_failDetector_14 (by decide) ?_
  refine tw_imul C dX7_failDetector_15 ?_
  refine tw_iload_n C dX7_failDetector_16 2 rfl rfl ?_
  refine tw_iadd C dX7_failDetector_17 ?_
  refine tw_iload_n C dX7_failDetector_18 3 rfl rfl ?_
  obtain ⟨hb3, hf⟩ := tw_ck hf
  refine tw_zast C 9 1 hb3 rfl rfl (tw_T_a9 cI cZ q y2 ((v1 * 3) + v2) (vp_nar .boolean v3)) dX7_failDetector_19 ?_
  exact tw_endv (Wf := twT cI cZ q) hE (tw_inr hf) dX7_failDetector_20
end
abbrev rmx_X7_failDetector : Room := { frames := 8, cells := 1, slots := 6, locals := 123 }
section
variable {p : Program} {l : Launch} {e : Env} {s : State} {m : MethodId} {args : Array Value} {below : List Frame} {meth : Method} {c : Code} {Q : State → Prop} {dC : Nat → ClassId} {dI : Nat → Nat → Nat} {cI cZ : ClassId} {q : Nat → Nat} {A : Nat → Prop} {res : String × twS}
set_option maxRecDepth 20000 in
theorem x_X7_failDetector (l : Launch) (hl0 : l.stackTraces = false) (dC : Nat → ClassId) (dI : Nat → Nat → Nat) (cI cZ : ClassId) (q : Nat → Nat) {st : twS} {v1 : Int32} {v2 : Int32} {v3 : Int32} {res : String × twS} (hf : f_X7_failDetector st v1 v2 v3 = some (.inl res)) : twMx l yX7_failDetector wsX7_failDetector rmx_X7_failDetector (dC, dI) (twY cI cZ) [.ref (q 0), .int v1, .int v2, .int v3] (twT cI cZ q st) res.1 (twT cI cZ q res.2) := by
  refine tw_entx (cc := cX7_failDetector) (maxL := 4) (own := RX7) (by decide) rfl (Nat.le_of_ble_eq_true rfl) rfl ?_
  intro p e s m below meth c A C X0 hnt
  generalize ([.ref (q 0), .int v1, .int v2, .int v3] : List Value).toArray = args at C ⊢
  refine tw_sub (lv' := [(0, .ref (q 0)), (1, .int v1), (2, .int v2), (3, .int v3)]) [0, 1, 2, 3] rfl ?_
  unfold f_X7_failDetector at hf
  refine tw_iload_n C dX7_failDetector_0 1 rfl rfl ?_
  rcases tw_tryX hf with hx1 | ⟨y1, hc1, hf⟩
  · exact tw_xS (As := [.int v1]) (stk := []) C X0 hnt (x_X7_requireSegment l hl0 dC dI cI cZ q hx1) (va_cwS 1 C.hts gX7_failDetector_X7_requireSegment rfl rfl rfl hd_X7_requireSegment ⟨Nat.le_of_ble_eq_true rfl, Nat.le_of_ble_eq_true rfl⟩) rfl rfl (Nat.le_of_ble_eq_true rfl) dX7_failDetector_1 ⟨Nat.le_of_ble_eq_true rfl, Nat.le_of_ble_eq_true rfl⟩
  refine tw_cSv (As := [.int v1]) (stk := []) C (c_X7_requireSegment l dC dI cI cZ q hc1) (va_cwS 1 C.hts gX7_failDetector_X7_requireSegment rfl rfl rfl hd_X7_requireSegment ⟨Nat.le_of_ble_eq_true rfl, Nat.le_of_ble_eq_true rfl⟩) rfl rfl (Nat.le_of_ble_eq_true rfl) dX7_failDetector_1 ⟨Nat.zero_le _, Nat.zero_le _⟩ ?_
  refine tw_iload_n C dX7_failDetector_4 2 rfl rfl ?_
  refine tw_iconst (v := 3) C dX7_failDetector_5 (by decide) ?_
  rcases tw_tryX hf with hx2 | ⟨y2, hc2, hf⟩
  · exact tw_xS (As := [.int v2, .int 3]) (stk := []) C X0 hnt (x_X7_requireIndex l hl0 dC dI cI cZ q hx2) (va_cwS 2 C.hts gX7_failDetector_X7_requireIndex rfl rfl rfl hd_X7_requireIndex ⟨Nat.le_of_ble_eq_true rfl, Nat.le_of_ble_eq_true rfl⟩) rfl rfl (Nat.le_of_ble_eq_true rfl) dX7_failDetector_6 ⟨Nat.le_of_ble_eq_true rfl, Nat.le_of_ble_eq_true rfl⟩
  refine tw_cSv (As := [.int v2, .int 3]) (stk := []) C (c_X7_requireIndex l dC dI cI cZ q hc2) (va_cwS 2 C.hts gX7_failDetector_X7_requireIndex rfl rfl rfl hd_X7_requireIndex ⟨Nat.le_of_ble_eq_true rfl, Nat.le_of_ble_eq_true rfl⟩) rfl rfl (Nat.le_of_ble_eq_true rfl) dX7_failDetector_6 ⟨Nat.zero_le _, Nat.zero_le _⟩ ?_
  refine tw_aload_n C dX7_failDetector_9 0 rfl rfl ?_
  refine tw_get (K := RX7) (T := TX7) (N := 14) (v := .ref (q 9)) C 0 8 (fun _ h => List.mem_cons_of_mem _ (List.mem_append_left _ (List.mem_append_right _ (h)))) rfl rfl (by decide) (List.mem_cons_of_mem _ (List.mem_append_left _ (List.mem_append_left _ (List.mem_of_getElem? (i := 0) rfl)))) rfl rfl dX7_failDetector_10 ?_
  refine tw_iload_n C dX7_failDetector_13 1 rfl rfl ?_
  refine tw_iconst (v := 3) C dX7_failDetector_14 (by decide) ?_
  refine tw_imul C dX7_failDetector_15 ?_
  refine tw_iload_n C dX7_failDetector_16 2 rfl rfl ?_
  refine tw_iadd C dX7_failDetector_17 ?_
  refine tw_iload_n C dX7_failDetector_18 3 rfl rfl ?_
  obtain ⟨hb3, hf⟩ := tw_ck hf
  refine tw_zast C 9 1 hb3 rfl rfl (tw_T_a9 cI cZ q y2 ((v1 * 3) + v2) (vp_nar .boolean v3)) dX7_failDetector_19 ?_
  cases hf
end
/-! X7_act: public int act(int, int, boolean) throws java.lang.IllegalArgumentException, java.lang.IllegalStateException -/
abbrev rm_X7_act : Room := { frames := 2, cells := 0, slots := 0, locals := 45 }
def f_X7_act_L37 (v1 : Int32) (v2 : Int32) (v3 : Int32) (k0 : Int32) (st : twS) : Option ((String × twS) ⊕ (Int32 × twS)) :=
  ((f_X7_requireState st k0).bind fun w37001 => twTry w37001 fun y37001 => ((f_X2_put y37001 v1 v2 v3).bind fun y37002 => some (.inr (y37002.1, y37002.2))))
def f_X7_act_L36 (v1 : Int32) (v2 : Int32) (v3 : Int32) (st : twS) : Option ((String × twS) ⊕ (Int32 × twS)) :=
  f_X7_act_L37 v1 v2 v3 0 st
def f_X7_act (st : twS) (v1 : Int32) (v2 : Int32) (v3 : Int32) : Option ((String × twS) ⊕ (Int32 × twS)) :=
  ((f_X7_requireRange st v1 0 7).bind fun w1 => twTry w1 fun y1 => ((f_X7_requireRange y1 v2 0 20).bind fun w2 => twTry w2 fun y2 => (if (y2.1 3) = (-1) then
    ((f_X2_hasRoom y2).bind fun y4 => (if y4.1 = 0 then
    f_X7_act_L36 v1 v2 v3 y4.2
  else
    f_X7_act_L37 v1 v2 v3 1 y4.2))
  else
    f_X7_act_L36 v1 v2 v3 y2)))
section
variable {p : Program} {l : Launch} {e : Env} {s : State} {m : MethodId} {args : Array Value} {below : List Frame} {meth : Method} {c : Code} {Q : State → Prop} {dC : Nat → ClassId} {dI : Nat → Nat → Nat} {cI cZ : ClassId} {q : Nat → Nat} {A : Nat → Prop} {res : Int32 × twS}
set_option maxRecDepth 20000 in
theorem m_X7_act_L37 (C : twC p s m args meth c cX7_act 4 RX7 wsX7_act (dC, dI) (twY cI cZ) A) (hE : twEi p l e rm_X7_act s m args below meth c 0 0 Q (dC, dI) A 4 cX7_act .int res.1 (twT cI cZ q res.2)) : ∀ (v1 : Int32) (v2 : Int32) (v3 : Int32) (k0 : Int32) (st : twS), f_X7_act_L37 v1 v2 v3 k0 st = some (.inr res) → twG p l e rm_X7_act s m args below meth c 0 0 Q (dC, dI) A 4 (twT cI cZ q st) 37 [(0, .ref (q 0)), (1, .int v1), (2, .int v2), (3, .int v3)] [.int k0] := by
  intro v1 v2 v3 k0 st hf
  unfold f_X7_act_L37 at hf
  obtain ⟨y37001, hc37001, hf⟩ := tw_tryN hf
  refine tw_cSv (As := [.int k0]) (stk := []) C (c_X7_requireState l dC dI cI cZ q hc37001) (va_cwS 1 C.hts gX7_act_X7_requireState rfl rfl rfl hd_X7_requireState ⟨Nat.le_of_ble_eq_true rfl, Nat.le_of_ble_eq_true rfl⟩) rfl rfl (Nat.le_of_ble_eq_true rfl) dX7_act_37 ⟨Nat.zero_le _, Nat.zero_le _⟩ ?_
  refine tw_aload_n C dX7_act_40 0 rfl rfl ?_
  refine tw_get (K := RX7) (T := TX7) (N := 14) (v := .ref (q 6)) C 0 5 (fun _ h => List.mem_cons_of_mem _ (List.mem_append_left _ (List.mem_append_left _ (List.mem_append_left _ (List.mem_append_right _ (h)))))) rfl rfl (by decide) (List.mem_cons_of_mem _ (List.mem_append_left _ (List.mem_append_left _ (List.mem_append_left _ (List.mem_append_left _ (List.mem_append_left _ (List.mem_of_getElem? (i := 1) rfl))))))) rfl rfl dX7_act_41 ?_
  refine tw_iload_n C dX7_act_44 1 rfl rfl ?_
  refine tw_iload_n C dX7_act_45 2 rfl rfl ?_
  refine tw_iload_n C dX7_act_46 3 rfl rfl ?_
  obtain ⟨y37002, hc37002, hf⟩ := tw_bd hf
  refine tw_cVi (As := [.int v1, .int v2, .int v3]) (stk := []) C (c_X2_put l dC dI cI cZ q hc37002) (cwV 3 C.hts gX7_act_X2_put rfl rfl rfl hd_X2_put ⟨Nat.le_of_ble_eq_true rfl, Nat.le_of_ble_eq_true rfl⟩) 6 (ci := 2) rfl rfl rfl rfl rfl (Nat.le_of_ble_eq_true rfl) dX7_act_47 ⟨Nat.zero_le _, Nat.zero_le _⟩ ?_
  exact tw_endi (Wf := twT cI cZ q) hE (tw_inr hf) dX7_act_50 rfl
set_option maxRecDepth 20000 in
theorem m_X7_act_L36 (C : twC p s m args meth c cX7_act 4 RX7 wsX7_act (dC, dI) (twY cI cZ) A) (hE : twEi p l e rm_X7_act s m args below meth c 0 0 Q (dC, dI) A 4 cX7_act .int res.1 (twT cI cZ q res.2)) : ∀ (v1 : Int32) (v2 : Int32) (v3 : Int32) (st : twS), f_X7_act_L36 v1 v2 v3 st = some (.inr res) → twG p l e rm_X7_act s m args below meth c 0 0 Q (dC, dI) A 4 (twT cI cZ q st) 36 [(0, .ref (q 0)), (1, .int v1), (2, .int v2), (3, .int v3)] [] := by
  intro v1 v2 v3 st hf
  unfold f_X7_act_L36 at hf
  refine tw_iconst (v := 0) C dX7_act_36 (by decide) ?_
  exact m_X7_act_L37 C hE v1 v2 v3 0 st hf
set_option maxRecDepth 20000 in
theorem c_X7_act (l : Launch) (dC : Nat → ClassId) (dI : Nat → Nat → Nat) (cI cZ : ClassId) (q : Nat → Nat) {st : twS} {v1 : Int32} {v2 : Int32} {v3 : Int32} {res : Int32 × twS} (hf : f_X7_act st v1 v2 v3 = some (.inr res)) : twMi l yX7_act wsX7_act rm_X7_act (dC, dI) (twY cI cZ) [.ref (q 0), .int v1, .int v2, .int v3] (twT cI cZ q st) res.1 (twT cI cZ q res.2) := by
  refine tw_enti (cc := cX7_act) (maxL := 4) (own := RX7) (by decide) rfl (Nat.le_of_ble_eq_true rfl) rfl ⟨rfl, rfl⟩ ?_
  intro p e s m below meth c A Q C hE
  generalize ([.ref (q 0), .int v1, .int v2, .int v3] : List Value).toArray = args at C hE ⊢
  refine tw_sub (lv' := [(0, .ref (q 0)), (1, .int v1), (2, .int v2), (3, .int v3)]) [0, 1, 2, 3] rfl ?_
  unfold f_X7_act at hf
  refine tw_iload_n C dX7_act_0 1 rfl rfl ?_
  refine tw_iconst (v := 0) C dX7_act_1 (by decide) ?_
  refine tw_bipush (v := 7) C dX7_act_2 (by decide) ?_
  obtain ⟨y1, hc1, hf⟩ := tw_tryN hf
  refine tw_cSv (As := [.int v1, .int 0, .int 7]) (stk := []) C (c_X7_requireRange l dC dI cI cZ q hc1) (va_cwS 3 C.hts gX7_act_X7_requireRange rfl rfl rfl hd_X7_requireRange ⟨Nat.le_of_ble_eq_true rfl, Nat.le_of_ble_eq_true rfl⟩) rfl rfl (Nat.le_of_ble_eq_true rfl) dX7_act_4 ⟨Nat.zero_le _, Nat.zero_le _⟩ ?_
  refine tw_iload_n C dX7_act_7 2 rfl rfl ?_
  refine tw_iconst (v := 0) C dX7_act_8 (by decide) ?_
  refine tw_bipush (v := 20) C dX7_act_9 (by decide) ?_
  obtain ⟨y2, hc2, hf⟩ := tw_tryN hf
  refine tw_cSv (As := [.int v2, .int 0, .int 20]) (stk := []) C (c_X7_requireRange l dC dI cI cZ q hc2) (va_cwS 3 C.hts gX7_act_X7_requireRange rfl rfl rfl hd_X7_requireRange ⟨Nat.le_of_ble_eq_true rfl, Nat.le_of_ble_eq_true rfl⟩) rfl rfl (Nat.le_of_ble_eq_true rfl) dX7_act_11 ⟨Nat.zero_le _, Nat.zero_le _⟩ ?_
  refine tw_aload_n C dX7_act_14 0 rfl rfl ?_
  refine tw_get (K := RX7) (T := TX7) (N := 14) (v := .int (y2.1 3)) C 0 12 (fun _ h => List.mem_cons_of_mem _ (List.mem_append_left _ (List.mem_append_left _ (List.mem_append_left _ (List.mem_append_right _ (h)))))) rfl rfl (by decide) (List.mem_cons_of_mem _ (List.mem_append_left _ (List.mem_append_left _ (List.mem_append_left _ (List.mem_append_left _ (List.mem_append_left _ (List.mem_of_getElem? (i := 0) rfl))))))) rfl rfl dX7_act_15 ?_
  refine tw_iconst (v := (-1)) C dX7_act_18 (by decide) ?_
  refine tw_icmp_ne (tgt := 36) C dX7_act_19 (by decide) (fun c3 => ?_) (fun c3 => ?_)
  · have hf := tw_neg hf c3
    exact m_X7_act_L36 C hE v1 v2 v3 y2 hf
  · have hf := tw_pos hf c3
    refine tw_aload_n C dX7_act_22 0 rfl rfl ?_
    refine tw_get (K := RX7) (T := TX7) (N := 14) (v := .ref (q 6)) C 0 5 (fun _ h => List.mem_cons_of_mem _ (List.mem_append_left _ (List.mem_append_left _ (List.mem_append_left _ (List.mem_append_right _ (h)))))) rfl rfl (by decide) (List.mem_cons_of_mem _ (List.mem_append_left _ (List.mem_append_left _ (List.mem_append_left _ (List.mem_append_left _ (List.mem_append_left _ (List.mem_of_getElem? (i := 1) rfl))))))) rfl rfl dX7_act_23 ?_
    obtain ⟨y4, hc4, hf⟩ := tw_bd hf
    refine tw_cVi (As := []) (stk := []) C (c_X2_hasRoom l dC dI cI cZ q hc4) (cwV 0 C.hts gX7_act_X2_hasRoom rfl rfl rfl hd_X2_hasRoom ⟨Nat.le_of_ble_eq_true rfl, Nat.le_of_ble_eq_true rfl⟩) 6 (ci := 2) rfl rfl rfl rfl rfl (Nat.le_of_ble_eq_true rfl) dX7_act_26 ⟨Nat.zero_le _, Nat.zero_le _⟩ ?_
    refine tw_if_eq (tgt := 36) C dX7_act_29 (by decide) (fun c5 => ?_) (fun c5 => ?_)
    · have hf := tw_pos hf c5
      exact m_X7_act_L36 C hE v1 v2 v3 y4.2 hf
    · have hf := tw_neg hf c5
      refine tw_iconst (v := 1) C dX7_act_32 (by decide) ?_
      refine tw_goto (tgt := 37) C dX7_act_33 (by decide) ?_
      exact m_X7_act_L37 C hE v1 v2 v3 1 y4.2 hf
end
abbrev rmx_X7_act : Room := { frames := 7, cells := 1, slots := 6, locals := 104 }
section
variable {p : Program} {l : Launch} {e : Env} {s : State} {m : MethodId} {args : Array Value} {below : List Frame} {meth : Method} {c : Code} {Q : State → Prop} {dC : Nat → ClassId} {dI : Nat → Nat → Nat} {cI cZ : ClassId} {q : Nat → Nat} {A : Nat → Prop} {res : String × twS}
set_option maxRecDepth 20000 in
theorem x_X7_act_L37 (C : twC p s m args meth c cX7_act 4 RX7 wsX7_act (dC, dI) (twY cI cZ) A) (hl0 : l.stackTraces = false) (X0 : twXf A s s.heap) (hnt : ∀ x ∈ c.exceptionTable.toList, False) : ∀ (v1 : Int32) (v2 : Int32) (v3 : Int32) (k0 : Int32) (st : twS), f_X7_act_L37 v1 v2 v3 k0 st = some (.inl res) → twG p l e rmx_X7_act s m args below meth c 0 0 (twQx below args s (dC, dI) (twY cI cZ) A res.1 (twT cI cZ q res.2)) (dC, dI) A 4 (twT cI cZ q st) 37 [(0, .ref (q 0)), (1, .int v1), (2, .int v2), (3, .int v3)] [.int k0] := by
  intro v1 v2 v3 k0 st hf
  unfold f_X7_act_L37 at hf
  rcases tw_tryX hf with hx37001 | ⟨y37001, hc37001, hf⟩
  · exact tw_xS (As := [.int k0]) (stk := []) C X0 hnt (x_X7_requireState l hl0 dC dI cI cZ q hx37001) (va_cwS 1 C.hts gX7_act_X7_requireState rfl rfl rfl hd_X7_requireState ⟨Nat.le_of_ble_eq_true rfl, Nat.le_of_ble_eq_true rfl⟩) rfl rfl (Nat.le_of_ble_eq_true rfl) dX7_act_37 ⟨Nat.le_of_ble_eq_true rfl, Nat.le_of_ble_eq_true rfl⟩
  refine tw_cSv (As := [.int k0]) (stk := []) C (c_X7_requireState l dC dI cI cZ q hc37001) (va_cwS 1 C.hts gX7_act_X7_requireState rfl rfl rfl hd_X7_requireState ⟨Nat.le_of_ble_eq_true rfl, Nat.le_of_ble_eq_true rfl⟩) rfl rfl (Nat.le_of_ble_eq_true rfl) dX7_act_37 ⟨Nat.zero_le _, Nat.zero_le _⟩ ?_
  refine tw_aload_n C dX7_act_40 0 rfl rfl ?_
  refine tw_get (K := RX7) (T := TX7) (N := 14) (v := .ref (q 6)) C 0 5 (fun _ h => List.mem_cons_of_mem _ (List.mem_append_left _ (List.mem_append_left _ (List.mem_append_left _ (List.mem_append_right _ (h)))))) rfl rfl (by decide) (List.mem_cons_of_mem _ (List.mem_append_left _ (List.mem_append_left _ (List.mem_append_left _ (List.mem_append_left _ (List.mem_append_left _ (List.mem_of_getElem? (i := 1) rfl))))))) rfl rfl dX7_act_41 ?_
  refine tw_iload_n C dX7_act_44 1 rfl rfl ?_
  refine tw_iload_n C dX7_act_45 2 rfl rfl ?_
  refine tw_iload_n C dX7_act_46 3 rfl rfl ?_
  obtain ⟨y37002, hc37002, hf⟩ := tw_bd hf
  refine tw_cVi (As := [.int v1, .int v2, .int v3]) (stk := []) C (c_X2_put l dC dI cI cZ q hc37002) (cwV 3 C.hts gX7_act_X2_put rfl rfl rfl hd_X2_put ⟨Nat.le_of_ble_eq_true rfl, Nat.le_of_ble_eq_true rfl⟩) 6 (ci := 2) rfl rfl rfl rfl rfl (Nat.le_of_ble_eq_true rfl) dX7_act_47 ⟨Nat.zero_le _, Nat.zero_le _⟩ ?_
  cases hf
set_option maxRecDepth 20000 in
theorem x_X7_act_L36 (C : twC p s m args meth c cX7_act 4 RX7 wsX7_act (dC, dI) (twY cI cZ) A) (hl0 : l.stackTraces = false) (X0 : twXf A s s.heap) (hnt : ∀ x ∈ c.exceptionTable.toList, False) : ∀ (v1 : Int32) (v2 : Int32) (v3 : Int32) (st : twS), f_X7_act_L36 v1 v2 v3 st = some (.inl res) → twG p l e rmx_X7_act s m args below meth c 0 0 (twQx below args s (dC, dI) (twY cI cZ) A res.1 (twT cI cZ q res.2)) (dC, dI) A 4 (twT cI cZ q st) 36 [(0, .ref (q 0)), (1, .int v1), (2, .int v2), (3, .int v3)] [] := by
  intro v1 v2 v3 st hf
  unfold f_X7_act_L36 at hf
  refine tw_iconst (v := 0) C dX7_act_36 (by decide) ?_
  exact x_X7_act_L37 C hl0 X0 hnt v1 v2 v3 0 st hf
set_option maxRecDepth 20000 in
theorem x_X7_act (l : Launch) (hl0 : l.stackTraces = false) (dC : Nat → ClassId) (dI : Nat → Nat → Nat) (cI cZ : ClassId) (q : Nat → Nat) {st : twS} {v1 : Int32} {v2 : Int32} {v3 : Int32} {res : String × twS} (hf : f_X7_act st v1 v2 v3 = some (.inl res)) : twMx l yX7_act wsX7_act rmx_X7_act (dC, dI) (twY cI cZ) [.ref (q 0), .int v1, .int v2, .int v3] (twT cI cZ q st) res.1 (twT cI cZ q res.2) := by
  refine tw_entx (cc := cX7_act) (maxL := 4) (own := RX7) (by decide) rfl (Nat.le_of_ble_eq_true rfl) rfl ?_
  intro p e s m below meth c A C X0 hnt
  generalize ([.ref (q 0), .int v1, .int v2, .int v3] : List Value).toArray = args at C ⊢
  refine tw_sub (lv' := [(0, .ref (q 0)), (1, .int v1), (2, .int v2), (3, .int v3)]) [0, 1, 2, 3] rfl ?_
  unfold f_X7_act at hf
  refine tw_iload_n C dX7_act_0 1 rfl rfl ?_
  refine tw_iconst (v := 0) C dX7_act_1 (by decide) ?_
  refine tw_bipush (v := 7) C dX7_act_2 (by decide) ?_
  rcases tw_tryX hf with hx1 | ⟨y1, hc1, hf⟩
  · exact tw_xS (As := [.int v1, .int 0, .int 7]) (stk := []) C X0 hnt (x_X7_requireRange l hl0 dC dI cI cZ q hx1) (va_cwS 3 C.hts gX7_act_X7_requireRange rfl rfl rfl hd_X7_requireRange ⟨Nat.le_of_ble_eq_true rfl, Nat.le_of_ble_eq_true rfl⟩) rfl rfl (Nat.le_of_ble_eq_true rfl) dX7_act_4 ⟨Nat.le_of_ble_eq_true rfl, Nat.le_of_ble_eq_true rfl⟩
  refine tw_cSv (As := [.int v1, .int 0, .int 7]) (stk := []) C (c_X7_requireRange l dC dI cI cZ q hc1) (va_cwS 3 C.hts gX7_act_X7_requireRange rfl rfl rfl hd_X7_requireRange ⟨Nat.le_of_ble_eq_true rfl, Nat.le_of_ble_eq_true rfl⟩) rfl rfl (Nat.le_of_ble_eq_true rfl) dX7_act_4 ⟨Nat.zero_le _, Nat.zero_le _⟩ ?_
  refine tw_iload_n C dX7_act_7 2 rfl rfl ?_
  refine tw_iconst (v := 0) C dX7_act_8 (by decide) ?_
  refine tw_bipush (v := 20) C dX7_act_9 (by decide) ?_
  rcases tw_tryX hf with hx2 | ⟨y2, hc2, hf⟩
  · exact tw_xS (As := [.int v2, .int 0, .int 20]) (stk := []) C X0 hnt (x_X7_requireRange l hl0 dC dI cI cZ q hx2) (va_cwS 3 C.hts gX7_act_X7_requireRange rfl rfl rfl hd_X7_requireRange ⟨Nat.le_of_ble_eq_true rfl, Nat.le_of_ble_eq_true rfl⟩) rfl rfl (Nat.le_of_ble_eq_true rfl) dX7_act_11 ⟨Nat.le_of_ble_eq_true rfl, Nat.le_of_ble_eq_true rfl⟩
  refine tw_cSv (As := [.int v2, .int 0, .int 20]) (stk := []) C (c_X7_requireRange l dC dI cI cZ q hc2) (va_cwS 3 C.hts gX7_act_X7_requireRange rfl rfl rfl hd_X7_requireRange ⟨Nat.le_of_ble_eq_true rfl, Nat.le_of_ble_eq_true rfl⟩) rfl rfl (Nat.le_of_ble_eq_true rfl) dX7_act_11 ⟨Nat.zero_le _, Nat.zero_le _⟩ ?_
  refine tw_aload_n C dX7_act_14 0 rfl rfl ?_
  refine tw_get (K := RX7) (T := TX7) (N := 14) (v := .int (y2.1 3)) C 0 12 (fun _ h => List.mem_cons_of_mem _ (List.mem_append_left _ (List.mem_append_left _ (List.mem_append_left _ (List.mem_append_right _ (h)))))) rfl rfl (by decide) (List.mem_cons_of_mem _ (List.mem_append_left _ (List.mem_append_left _ (List.mem_append_left _ (List.mem_append_left _ (List.mem_append_left _ (List.mem_of_getElem? (i := 0) rfl))))))) rfl rfl dX7_act_15 ?_
  refine tw_iconst (v := (-1)) C dX7_act_18 (by decide) ?_
  refine tw_icmp_ne (tgt := 36) C dX7_act_19 (by decide) (fun c3 => ?_) (fun c3 => ?_)
  · have hf := tw_neg hf c3
    exact x_X7_act_L36 C hl0 X0 hnt v1 v2 v3 y2 hf
  · have hf := tw_pos hf c3
    refine tw_aload_n C dX7_act_22 0 rfl rfl ?_
    refine tw_get (K := RX7) (T := TX7) (N := 14) (v := .ref (q 6)) C 0 5 (fun _ h => List.mem_cons_of_mem _ (List.mem_append_left _ (List.mem_append_left _ (List.mem_append_left _ (List.mem_append_right _ (h)))))) rfl rfl (by decide) (List.mem_cons_of_mem _ (List.mem_append_left _ (List.mem_append_left _ (List.mem_append_left _ (List.mem_append_left _ (List.mem_append_left _ (List.mem_of_getElem? (i := 1) rfl))))))) rfl rfl dX7_act_23 ?_
    obtain ⟨y4, hc4, hf⟩ := tw_bd hf
    refine tw_cVi (As := []) (stk := []) C (c_X2_hasRoom l dC dI cI cZ q hc4) (cwV 0 C.hts gX7_act_X2_hasRoom rfl rfl rfl hd_X2_hasRoom ⟨Nat.le_of_ble_eq_true rfl, Nat.le_of_ble_eq_true rfl⟩) 6 (ci := 2) rfl rfl rfl rfl rfl (Nat.le_of_ble_eq_true rfl) dX7_act_26 ⟨Nat.zero_le _, Nat.zero_le _⟩ ?_
    refine tw_if_eq (tgt := 36) C dX7_act_29 (by decide) (fun c5 => ?_) (fun c5 => ?_)
    · have hf := tw_pos hf c5
      exact x_X7_act_L36 C hl0 X0 hnt v1 v2 v3 y4.2 hf
    · have hf := tw_neg hf c5
      refine tw_iconst (v := 1) C dX7_act_32 (by decide) ?_
      refine tw_goto (tgt := 37) C dX7_act_33 (by decide) ?_
      exact x_X7_act_L37 C hl0 X0 hnt v1 v2 v3 1 y4.2 hf
end
/-! X7_command: public int command(int, int) throws java.lang.IndexOutOfBoundsException, java.lang.IllegalArgumentException -/
abbrev rm_X7_command : Room := { frames := 2, cells := 0, slots := 0, locals := 45 }
def f_X7_command (st : twS) (v1 : Int32) (v2 : Int32) : Option ((String × twS) ⊕ (Int32 × twS)) :=
  ((f_X7_requireIndex st v1 3).bind fun w1 => twTry w1 fun y1 => ((f_X7_requireRange y1 v2 (-1) 1).bind fun w2 => twTry w2 fun y2 => ((f_X5_order y2 v1 v2).bind fun y3 => some (.inr (y3.1, y3.2)))))
section
variable {p : Program} {l : Launch} {e : Env} {s : State} {m : MethodId} {args : Array Value} {below : List Frame} {meth : Method} {c : Code} {Q : State → Prop} {dC : Nat → ClassId} {dI : Nat → Nat → Nat} {cI cZ : ClassId} {q : Nat → Nat} {A : Nat → Prop} {res : Int32 × twS}
set_option maxRecDepth 20000 in
theorem c_X7_command (l : Launch) (dC : Nat → ClassId) (dI : Nat → Nat → Nat) (cI cZ : ClassId) (q : Nat → Nat) {st : twS} {v1 : Int32} {v2 : Int32} {res : Int32 × twS} (hf : f_X7_command st v1 v2 = some (.inr res)) : twMi l yX7_command wsX7_command rm_X7_command (dC, dI) (twY cI cZ) [.ref (q 0), .int v1, .int v2] (twT cI cZ q st) res.1 (twT cI cZ q res.2) := by
  refine tw_enti (cc := cX7_command) (maxL := 3) (own := RX7) (by decide) rfl (Nat.le_of_ble_eq_true rfl) rfl ⟨rfl, rfl⟩ ?_
  intro p e s m below meth c A Q C hE
  generalize ([.ref (q 0), .int v1, .int v2] : List Value).toArray = args at C hE ⊢
  refine tw_sub (lv' := [(0, .ref (q 0)), (1, .int v1), (2, .int v2)]) [0, 1, 2] rfl ?_
  unfold f_X7_command at hf
  refine tw_iload_n C dX7_command_0 1 rfl rfl ?_
  refine tw_iconst (v := 3) C dX7_command_1 (by decide) ?_
  obtain ⟨y1, hc1, hf⟩ := tw_tryN hf
  refine tw_cSv (As := [.int v1, .int 3]) (stk := []) C (c_X7_requireIndex l dC dI cI cZ q hc1) (va_cwS 2 C.hts gX7_command_X7_requireIndex rfl rfl rfl hd_X7_requireIndex ⟨Nat.le_of_ble_eq_true rfl, Nat.le_of_ble_eq_true rfl⟩) rfl rfl (Nat.le_of_ble_eq_true rfl) dX7_command_2 ⟨Nat.zero_le _, Nat.zero_le _⟩ ?_
  refine tw_iload_n C dX7_command_5 2 rfl rfl ?_
  refine tw_iconst (v := (-1)) C dX7_command_6 (by decide) ?_
  refine tw_iconst (v := 1) C dX7_command_7 (by decide) ?_
  obtain ⟨y2, hc2, hf⟩ := tw_tryN hf
  refine tw_cSv (As := [.int v2, .int (-1), .int 1]) (stk := []) C (c_X7_requireRange l dC dI cI cZ q hc2) (va_cwS 3 C.hts gX7_command_X7_requireRange rfl rfl rfl hd_X7_requireRange ⟨Nat.le_of_ble_eq_true rfl, Nat.le_of_ble_eq_true rfl⟩) rfl rfl (Nat.le_of_ble_eq_true rfl) dX7_command_8 ⟨Nat.zero_le _, Nat.zero_le _⟩ ?_
  refine tw_aload_n C dX7_command_11 0 rfl rfl ?_
  refine tw_get (K := RX7) (T := TX7) (N := 14) (v := .ref (q 1)) C 0 0 (fun _ h => List.mem_cons_of_mem _ (List.mem_append_left _ (List.mem_append_left _ (List.mem_append_left _ (List.mem_append_right _ (h)))))) rfl rfl (by decide) (List.mem_cons_of_mem _ (List.mem_append_left _ (List.mem_append_left _ (List.mem_append_left _ (List.mem_append_left _ (List.mem_of_getElem? (i := 0) rfl)))))) rfl rfl dX7_command_12 ?_
  refine tw_iload_n C dX7_command_15 1 rfl rfl ?_
  refine tw_iload_n C dX7_command_16 2 rfl rfl ?_
  obtain ⟨y3, hc3, hf⟩ := tw_bd hf
  refine tw_cVi (As := [.int v1, .int v2]) (stk := []) C (c_X5_order l dC dI cI cZ q hc3) (cwV 2 C.hts gX7_command_X5_order rfl rfl rfl hd_X5_order ⟨Nat.le_of_ble_eq_true rfl, Nat.le_of_ble_eq_true rfl⟩) 1 (ci := 5) rfl rfl rfl rfl rfl (Nat.le_of_ble_eq_true rfl) dX7_command_17 ⟨Nat.zero_le _, Nat.zero_le _⟩ ?_
  exact tw_endi (Wf := twT cI cZ q) hE (tw_inr hf) dX7_command_20 rfl
end
abbrev rmx_X7_command : Room := { frames := 7, cells := 1, slots := 6, locals := 104 }
section
variable {p : Program} {l : Launch} {e : Env} {s : State} {m : MethodId} {args : Array Value} {below : List Frame} {meth : Method} {c : Code} {Q : State → Prop} {dC : Nat → ClassId} {dI : Nat → Nat → Nat} {cI cZ : ClassId} {q : Nat → Nat} {A : Nat → Prop} {res : String × twS}
set_option maxRecDepth 20000 in
theorem x_X7_command (l : Launch) (hl0 : l.stackTraces = false) (dC : Nat → ClassId) (dI : Nat → Nat → Nat) (cI cZ : ClassId) (q : Nat → Nat) {st : twS} {v1 : Int32} {v2 : Int32} {res : String × twS} (hf : f_X7_command st v1 v2 = some (.inl res)) : twMx l yX7_command wsX7_command rmx_X7_command (dC, dI) (twY cI cZ) [.ref (q 0), .int v1, .int v2] (twT cI cZ q st) res.1 (twT cI cZ q res.2) := by
  refine tw_entx (cc := cX7_command) (maxL := 3) (own := RX7) (by decide) rfl (Nat.le_of_ble_eq_true rfl) rfl ?_
  intro p e s m below meth c A C X0 hnt
  generalize ([.ref (q 0), .int v1, .int v2] : List Value).toArray = args at C ⊢
  refine tw_sub (lv' := [(0, .ref (q 0)), (1, .int v1), (2, .int v2)]) [0, 1, 2] rfl ?_
  unfold f_X7_command at hf
  refine tw_iload_n C dX7_command_0 1 rfl rfl ?_
  refine tw_iconst (v := 3) C dX7_command_1 (by decide) ?_
  rcases tw_tryX hf with hx1 | ⟨y1, hc1, hf⟩
  · exact tw_xS (As := [.int v1, .int 3]) (stk := []) C X0 hnt (x_X7_requireIndex l hl0 dC dI cI cZ q hx1) (va_cwS 2 C.hts gX7_command_X7_requireIndex rfl rfl rfl hd_X7_requireIndex ⟨Nat.le_of_ble_eq_true rfl, Nat.le_of_ble_eq_true rfl⟩) rfl rfl (Nat.le_of_ble_eq_true rfl) dX7_command_2 ⟨Nat.le_of_ble_eq_true rfl, Nat.le_of_ble_eq_true rfl⟩
  refine tw_cSv (As := [.int v1, .int 3]) (stk := []) C (c_X7_requireIndex l dC dI cI cZ q hc1) (va_cwS 2 C.hts gX7_command_X7_requireIndex rfl rfl rfl hd_X7_requireIndex ⟨Nat.le_of_ble_eq_true rfl, Nat.le_of_ble_eq_true rfl⟩) rfl rfl (Nat.le_of_ble_eq_true rfl) dX7_command_2 ⟨Nat.zero_le _, Nat.zero_le _⟩ ?_
  refine tw_iload_n C dX7_command_5 2 rfl rfl ?_
  refine tw_iconst (v := (-1)) C dX7_command_6 (by decide) ?_
  refine tw_iconst (v := 1) C dX7_command_7 (by decide) ?_
  rcases tw_tryX hf with hx2 | ⟨y2, hc2, hf⟩
  · exact tw_xS (As := [.int v2, .int (-1), .int 1]) (stk := []) C X0 hnt (x_X7_requireRange l hl0 dC dI cI cZ q hx2) (va_cwS 3 C.hts gX7_command_X7_requireRange rfl rfl rfl hd_X7_requireRange ⟨Nat.le_of_ble_eq_true rfl, Nat.le_of_ble_eq_true rfl⟩) rfl rfl (Nat.le_of_ble_eq_true rfl) dX7_command_8 ⟨Nat.le_of_ble_eq_true rfl, Nat.le_of_ble_eq_true rfl⟩
  refine tw_cSv (As := [.int v2, .int (-1), .int 1]) (stk := []) C (c_X7_requireRange l dC dI cI cZ q hc2) (va_cwS 3 C.hts gX7_command_X7_requireRange rfl rfl rfl hd_X7_requireRange ⟨Nat.le_of_ble_eq_true rfl, Nat.le_of_ble_eq_true rfl⟩) rfl rfl (Nat.le_of_ble_eq_true rfl) dX7_command_8 ⟨Nat.zero_le _, Nat.zero_le _⟩ ?_
  refine tw_aload_n C dX7_command_11 0 rfl rfl ?_
  refine tw_get (K := RX7) (T := TX7) (N := 14) (v := .ref (q 1)) C 0 0 (fun _ h => List.mem_cons_of_mem _ (List.mem_append_left _ (List.mem_append_left _ (List.mem_append_left _ (List.mem_append_right _ (h)))))) rfl rfl (by decide) (List.mem_cons_of_mem _ (List.mem_append_left _ (List.mem_append_left _ (List.mem_append_left _ (List.mem_append_left _ (List.mem_of_getElem? (i := 0) rfl)))))) rfl rfl dX7_command_12 ?_
  refine tw_iload_n C dX7_command_15 1 rfl rfl ?_
  refine tw_iload_n C dX7_command_16 2 rfl rfl ?_
  obtain ⟨y3, hc3, hf⟩ := tw_bd hf
  refine tw_cVi (As := [.int v1, .int v2]) (stk := []) C (c_X5_order l dC dI cI cZ q hc3) (cwV 2 C.hts gX7_command_X5_order rfl rfl rfl hd_X5_order ⟨Nat.le_of_ble_eq_true rfl, Nat.le_of_ble_eq_true rfl⟩) 1 (ci := 5) rfl rfl rfl rfl rfl (Nat.le_of_ble_eq_true rfl) dX7_command_17 ⟨Nat.zero_le _, Nat.zero_le _⟩ ?_
  cases hf
end
/-! X7_step: public int step(int) throws java.lang.IllegalArgumentException -/
abbrev rm_X7_step : Room := { frames := 6, cells := 0, slots := 0, locals := 143 }
def f_X7_step_L9b (rec : Int32 → Int32 → twS → Option ((String × twS) ⊕ (Int32 × twS))) (v1 : Int32) (v2 : Int32) (st : twS) : Option ((String × twS) ⊕ (Int32 × twS)) :=
  (if v1 ≤ v2 then
    some (.inr ((st.1 4), st))
  else
    ((f_X7_doStep st).bind fun y9002 => rec v1 (v2 + 1) y9002))
def f_X7_step_L9 : Nat → Int32 → Int32 → twS → Option ((String × twS) ⊕ (Int32 × twS))
  | 0 => fun _ _ _ => none
  | n + 1 => fun v1 v2 st => f_X7_step_L9b (f_X7_step_L9 n) v1 v2 st
def f_X7_step (st : twS) (v1 : Int32) : Option ((String × twS) ⊕ (Int32 × twS)) :=
  ((f_X7_requireRange st v1 1 100).bind fun w1 => twTry w1 fun y1 => f_X7_step_L9 twN v1 0 y1)
section
variable {p : Program} {l : Launch} {e : Env} {s : State} {m : MethodId} {args : Array Value} {below : List Frame} {meth : Method} {c : Code} {Q : State → Prop} {dC : Nat → ClassId} {dI : Nat → Nat → Nat} {cI cZ : ClassId} {q : Nat → Nat} {A : Nat → Prop} {res : Int32 × twS}
set_option maxRecDepth 20000 in
theorem m_X7_step_L9b (C : twC p s m args meth c cX7_step 3 RX7 wsX7_step (dC, dI) (twY cI cZ) A) (hE : twEi p l e rm_X7_step s m args below meth c 0 0 Q (dC, dI) A 3 cX7_step .int res.1 (twT cI cZ q res.2)) {rec : Int32 → Int32 → twS → Option ((String × twS) ⊕ (Int32 × twS))} (hrec : ∀ (v1 : Int32) (v2 : Int32) (st : twS), rec v1 v2 st = some (.inr res) → twG p l e rm_X7_step s m args below meth c 0 0 Q (dC, dI) A 3 (twT cI cZ q st) 9 [(0, .ref (q 0)), (1, .int v1), (2, .int v2)] []) : ∀ (v1 : Int32) (v2 : Int32) (st : twS), f_X7_step_L9b rec v1 v2 st = some (.inr res) → twG p l e rm_X7_step s m args below meth c 0 0 Q (dC, dI) A 3 (twT cI cZ q st) 9 [(0, .ref (q 0)), (1, .int v1), (2, .int v2)] [] := by
  intro v1 v2 st hf
  unfold f_X7_step_L9b at hf
  refine tw_iload_n C dX7_step_9 2 rfl rfl ?_
  refine tw_iload_n C dX7_step_10 1 rfl rfl ?_
  refine tw_icmp_ge (tgt := 24) C dX7_step_11 (by decide) (fun c9001 => ?_) (fun c9001 => ?_)
  · have hf := tw_pos hf c9001
    refine tw_aload_n C dX7_step_24 0 rfl rfl ?_
    refine tw_get (K := RX7) (T := TX7) (N := 14) (v := .int (st.1 4)) C 0 13 (fun _ h => List.mem_cons_of_mem _ (List.mem_append_left _ (List.mem_append_left _ (List.mem_append_left _ (List.mem_append_left _ (List.mem_append_left _ (List.mem_append_left _ (List.mem_append_left _ (List.mem_append_left _ (List.mem_append_right _ (h))))))))))) rfl rfl (by decide) (List.mem_cons_of_mem _ (List.mem_append_left _ (List.mem_append_left _ (List.mem_append_left _ (List.mem_append_left _ (List.mem_append_left _ (List.mem_append_left _ (List.mem_append_left _ (List.mem_append_left _ (List.mem_append_left _ (List.mem_append_left _ (List.mem_of_getElem? (i := 0) rfl)))))))))))) rfl rfl dX7_step_25 ?_
    exact tw_endi (Wf := twT cI cZ q) hE (tw_inr hf) dX7_step_28 rfl
  · have hf := tw_neg hf c9001
    refine tw_aload_n C dX7_step_14 0 rfl rfl ?_
    obtain ⟨y9002, hc9002, hf⟩ := tw_bd hf
    refine tw_cVv (As := []) (stk := []) C (c_X7_doStep l dC dI cI cZ q hc9002) (cwV 0 C.hts gX7_step_X7_doStep rfl rfl rfl hd_X7_doStep ⟨Nat.le_of_ble_eq_true rfl, Nat.le_of_ble_eq_true rfl⟩) 0 (ci := 7) rfl rfl rfl rfl rfl (Nat.le_of_ble_eq_true rfl) dX7_step_15 ⟨Nat.zero_le _, Nat.zero_le _⟩ ?_
    refine tw_iinc (v := (v2 + 1)) (lv' := [(2, .int (v2 + 1)), (0, .ref (q 0)), (1, .int v1)]) C dX7_step_18 (k := 2) rfl rfl (by decide) rfl ?_
    refine tw_goto (tgt := 9) C dX7_step_21 (by decide) ?_
    refine tw_sub [1, 2, 0] rfl ?_
    exact hrec v1 (v2 + 1) y9002 hf
theorem m_X7_step_L9 (C : twC p s m args meth c cX7_step 3 RX7 wsX7_step (dC, dI) (twY cI cZ) A) (hE : twEi p l e rm_X7_step s m args below meth c 0 0 Q (dC, dI) A 3 cX7_step .int res.1 (twT cI cZ q res.2)) : ∀ (n : Nat) (v1 : Int32) (v2 : Int32) (st : twS), f_X7_step_L9 n v1 v2 st = some (.inr res) → twG p l e rm_X7_step s m args below meth c 0 0 Q (dC, dI) A 3 (twT cI cZ q st) 9 [(0, .ref (q 0)), (1, .int v1), (2, .int v2)] [] := by
  intro n
  induction n with
  | zero =>
    intro v1 v2 st hf
    have hf : none = some (.inr res : (String × twS) ⊕ (Int32 × twS)) := hf
    cases hf
  | succ n ih =>
    intro v1 v2 st hf
    exact m_X7_step_L9b C hE ih v1 v2 st hf
set_option maxRecDepth 20000 in
theorem c_X7_step (l : Launch) (dC : Nat → ClassId) (dI : Nat → Nat → Nat) (cI cZ : ClassId) (q : Nat → Nat) {st : twS} {v1 : Int32} {res : Int32 × twS} (hf : f_X7_step st v1 = some (.inr res)) : twMi l yX7_step wsX7_step rm_X7_step (dC, dI) (twY cI cZ) [.ref (q 0), .int v1] (twT cI cZ q st) res.1 (twT cI cZ q res.2) := by
  refine tw_enti (cc := cX7_step) (maxL := 3) (own := RX7) (by decide) rfl (Nat.le_of_ble_eq_true rfl) rfl ⟨rfl, rfl⟩ ?_
  intro p e s m below meth c A Q C hE
  generalize ([.ref (q 0), .int v1] : List Value).toArray = args at C hE ⊢
  refine tw_sub (lv' := [(0, .ref (q 0)), (1, .int v1)]) [0, 1] rfl ?_
  unfold f_X7_step at hf
  refine tw_iload_n C dX7_step_0 1 rfl rfl ?_
  refine tw_iconst (v := 1) C dX7_step_1 (by decide) ?_
  refine tw_bipush (v := 100) C dX7_step_2 (by decide) ?_
  obtain ⟨y1, hc1, hf⟩ := tw_tryN hf
  refine tw_cSv (As := [.int v1, .int 1, .int 100]) (stk := []) C (c_X7_requireRange l dC dI cI cZ q hc1) (va_cwS 3 C.hts gX7_step_X7_requireRange rfl rfl rfl hd_X7_requireRange ⟨Nat.le_of_ble_eq_true rfl, Nat.le_of_ble_eq_true rfl⟩) rfl rfl (Nat.le_of_ble_eq_true rfl) dX7_step_4 ⟨Nat.zero_le _, Nat.zero_le _⟩ ?_
  refine tw_iconst (v := 0) C dX7_step_7 (by decide) ?_
  refine tw_istore_n (lv' := [(2, .int 0), (0, .ref (q 0)), (1, .int v1)]) C dX7_step_8 rfl (by decide) rfl ?_
  refine tw_sub [1, 2, 0] rfl ?_
  exact m_X7_step_L9 C hE twN v1 0 y1 hf
end
abbrev rmx_X7_step : Room := { frames := 7, cells := 1, slots := 6, locals := 143 }
section
variable {p : Program} {l : Launch} {e : Env} {s : State} {m : MethodId} {args : Array Value} {below : List Frame} {meth : Method} {c : Code} {Q : State → Prop} {dC : Nat → ClassId} {dI : Nat → Nat → Nat} {cI cZ : ClassId} {q : Nat → Nat} {A : Nat → Prop} {res : String × twS}
set_option maxRecDepth 20000 in
theorem x_X7_step_L9b (C : twC p s m args meth c cX7_step 3 RX7 wsX7_step (dC, dI) (twY cI cZ) A) (hl0 : l.stackTraces = false) (X0 : twXf A s s.heap) (hnt : ∀ x ∈ c.exceptionTable.toList, False) {rec : Int32 → Int32 → twS → Option ((String × twS) ⊕ (Int32 × twS))} (hrec : ∀ (v1 : Int32) (v2 : Int32) (st : twS), rec v1 v2 st = some (.inl res) → twG p l e rmx_X7_step s m args below meth c 0 0 (twQx below args s (dC, dI) (twY cI cZ) A res.1 (twT cI cZ q res.2)) (dC, dI) A 3 (twT cI cZ q st) 9 [(0, .ref (q 0)), (1, .int v1), (2, .int v2)] []) : ∀ (v1 : Int32) (v2 : Int32) (st : twS), f_X7_step_L9b rec v1 v2 st = some (.inl res) → twG p l e rmx_X7_step s m args below meth c 0 0 (twQx below args s (dC, dI) (twY cI cZ) A res.1 (twT cI cZ q res.2)) (dC, dI) A 3 (twT cI cZ q st) 9 [(0, .ref (q 0)), (1, .int v1), (2, .int v2)] [] := by
  intro v1 v2 st hf
  unfold f_X7_step_L9b at hf
  refine tw_iload_n C dX7_step_9 2 rfl rfl ?_
  refine tw_iload_n C dX7_step_10 1 rfl rfl ?_
  refine tw_icmp_ge (tgt := 24) C dX7_step_11 (by decide) (fun c9001 => ?_) (fun c9001 => ?_)
  · have hf := tw_pos hf c9001
    refine tw_aload_n C dX7_step_24 0 rfl rfl ?_
    refine tw_get (K := RX7) (T := TX7) (N := 14) (v := .int (st.1 4)) C 0 13 (fun _ h => List.mem_cons_of_mem _ (List.mem_append_left _ (List.mem_append_left _ (List.mem_append_left _ (List.mem_append_left _ (List.mem_append_left _ (List.mem_append_left _ (List.mem_append_left _ (List.mem_append_left _ (List.mem_append_right _ (h))))))))))) rfl rfl (by decide) (List.mem_cons_of_mem _ (List.mem_append_left _ (List.mem_append_left _ (List.mem_append_left _ (List.mem_append_left _ (List.mem_append_left _ (List.mem_append_left _ (List.mem_append_left _ (List.mem_append_left _ (List.mem_append_left _ (List.mem_append_left _ (List.mem_of_getElem? (i := 0) rfl)))))))))))) rfl rfl dX7_step_25 ?_
    cases hf
  · have hf := tw_neg hf c9001
    refine tw_aload_n C dX7_step_14 0 rfl rfl ?_
    obtain ⟨y9002, hc9002, hf⟩ := tw_bd hf
    refine tw_cVv (As := []) (stk := []) C (c_X7_doStep l dC dI cI cZ q hc9002) (cwV 0 C.hts gX7_step_X7_doStep rfl rfl rfl hd_X7_doStep ⟨Nat.le_of_ble_eq_true rfl, Nat.le_of_ble_eq_true rfl⟩) 0 (ci := 7) rfl rfl rfl rfl rfl (Nat.le_of_ble_eq_true rfl) dX7_step_15 ⟨Nat.zero_le _, Nat.zero_le _⟩ ?_
    refine tw_iinc (v := (v2 + 1)) (lv' := [(2, .int (v2 + 1)), (0, .ref (q 0)), (1, .int v1)]) C dX7_step_18 (k := 2) rfl rfl (by decide) rfl ?_
    refine tw_goto (tgt := 9) C dX7_step_21 (by decide) ?_
    refine tw_sub [1, 2, 0] rfl ?_
    exact hrec v1 (v2 + 1) y9002 hf
theorem x_X7_step_L9 (C : twC p s m args meth c cX7_step 3 RX7 wsX7_step (dC, dI) (twY cI cZ) A) (hl0 : l.stackTraces = false) (X0 : twXf A s s.heap) (hnt : ∀ x ∈ c.exceptionTable.toList, False) : ∀ (n : Nat) (v1 : Int32) (v2 : Int32) (st : twS), f_X7_step_L9 n v1 v2 st = some (.inl res) → twG p l e rmx_X7_step s m args below meth c 0 0 (twQx below args s (dC, dI) (twY cI cZ) A res.1 (twT cI cZ q res.2)) (dC, dI) A 3 (twT cI cZ q st) 9 [(0, .ref (q 0)), (1, .int v1), (2, .int v2)] [] := by
  intro n
  induction n with
  | zero =>
    intro v1 v2 st hf
    have hf : none = some (.inl res : (String × twS) ⊕ (Int32 × twS)) := hf
    cases hf
  | succ n ih =>
    intro v1 v2 st hf
    exact x_X7_step_L9b C hl0 X0 hnt ih v1 v2 st hf
set_option maxRecDepth 20000 in
theorem x_X7_step (l : Launch) (hl0 : l.stackTraces = false) (dC : Nat → ClassId) (dI : Nat → Nat → Nat) (cI cZ : ClassId) (q : Nat → Nat) {st : twS} {v1 : Int32} {res : String × twS} (hf : f_X7_step st v1 = some (.inl res)) : twMx l yX7_step wsX7_step rmx_X7_step (dC, dI) (twY cI cZ) [.ref (q 0), .int v1] (twT cI cZ q st) res.1 (twT cI cZ q res.2) := by
  refine tw_entx (cc := cX7_step) (maxL := 3) (own := RX7) (by decide) rfl (Nat.le_of_ble_eq_true rfl) rfl ?_
  intro p e s m below meth c A C X0 hnt
  generalize ([.ref (q 0), .int v1] : List Value).toArray = args at C ⊢
  refine tw_sub (lv' := [(0, .ref (q 0)), (1, .int v1)]) [0, 1] rfl ?_
  unfold f_X7_step at hf
  refine tw_iload_n C dX7_step_0 1 rfl rfl ?_
  refine tw_iconst (v := 1) C dX7_step_1 (by decide) ?_
  refine tw_bipush (v := 100) C dX7_step_2 (by decide) ?_
  rcases tw_tryX hf with hx1 | ⟨y1, hc1, hf⟩
  · exact tw_xS (As := [.int v1, .int 1, .int 100]) (stk := []) C X0 hnt (x_X7_requireRange l hl0 dC dI cI cZ q hx1) (va_cwS 3 C.hts gX7_step_X7_requireRange rfl rfl rfl hd_X7_requireRange ⟨Nat.le_of_ble_eq_true rfl, Nat.le_of_ble_eq_true rfl⟩) rfl rfl (Nat.le_of_ble_eq_true rfl) dX7_step_4 ⟨Nat.le_of_ble_eq_true rfl, Nat.le_of_ble_eq_true rfl⟩
  refine tw_cSv (As := [.int v1, .int 1, .int 100]) (stk := []) C (c_X7_requireRange l dC dI cI cZ q hc1) (va_cwS 3 C.hts gX7_step_X7_requireRange rfl rfl rfl hd_X7_requireRange ⟨Nat.le_of_ble_eq_true rfl, Nat.le_of_ble_eq_true rfl⟩) rfl rfl (Nat.le_of_ble_eq_true rfl) dX7_step_4 ⟨Nat.zero_le _, Nat.zero_le _⟩ ?_
  refine tw_iconst (v := 0) C dX7_step_7 (by decide) ?_
  refine tw_istore_n (lv' := [(2, .int 0), (0, .ref (q 0)), (1, .int v1)]) C dX7_step_8 rfl (by decide) rfl ?_
  refine tw_sub [1, 2, 0] rfl ?_
  exact x_X7_step_L9 C hl0 X0 hnt twN v1 0 y1 hf
end
