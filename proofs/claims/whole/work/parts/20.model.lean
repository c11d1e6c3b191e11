theorem hd_X8_thrown : yX8_thrown.cls = RX8 ∧ yX8_thrown.cls ≠ "java/lang/invoke/MethodHandle" ∧ yX8_thrown.cls ≠ "java/lang/invoke/VarHandle" ∧ (parseMethodDescriptor yX8_thrown.desc).map (fun d => d.parameters.length) = some 0 := by decide +kernel
theorem hd_X8_goes : yX8_goes.cls = RX8 ∧ yX8_goes.cls ≠ "java/lang/invoke/MethodHandle" ∧ yX8_goes.cls ≠ "java/lang/invoke/VarHandle" ∧ (parseMethodDescriptor yX8_goes.desc).map (fun d => d.parameters.length) = some 3 := by decide +kernel
theorem hd_X8_isBetween : yX8_isBetween.cls ≠ "java/lang/invoke/MethodHandle" ∧ yX8_isBetween.cls ≠ "java/lang/invoke/VarHandle" ∧ (parseMethodDescriptor yX8_isBetween.desc).map (fun d => d.parameters.length) = some 3 := by decide +kernel
theorem hd_X8_isSegment : yX8_isSegment.cls ≠ "java/lang/invoke/MethodHandle" ∧ yX8_isSegment.cls ≠ "java/lang/invoke/VarHandle" ∧ (parseMethodDescriptor yX8_isSegment.desc).map (fun d => d.parameters.length) = some 1 := by decide +kernel
theorem hd_X8_isFan : yX8_isFan.cls ≠ "java/lang/invoke/MethodHandle" ∧ yX8_isFan.cls ≠ "java/lang/invoke/VarHandle" ∧ (parseMethodDescriptor yX8_isFan.desc).map (fun d => d.parameters.length) = some 1 := by decide +kernel
theorem hd_X8_isIn : yX8_isIn.cls ≠ "java/lang/invoke/MethodHandle" ∧ yX8_isIn.cls ≠ "java/lang/invoke/VarHandle" ∧ (parseMethodDescriptor yX8_isIn.desc).map (fun d => d.parameters.length) = some 2 := by decide +kernel
theorem hd_X8_hasPower : yX8_hasPower.cls = RX8 ∧ yX8_hasPower.cls ≠ "java/lang/invoke/MethodHandle" ∧ yX8_hasPower.cls ≠ "java/lang/invoke/VarHandle" ∧ (parseMethodDescriptor yX8_hasPower.desc).map (fun d => d.parameters.length) = some 0 := by decide +kernel
theorem hd_X8_build : yX8_build.cls = RX8 ∧ yX8_build.cls ≠ "java/lang/invoke/MethodHandle" ∧ yX8_build.cls ≠ "java/lang/invoke/VarHandle" ∧ (parseMethodDescriptor yX8_build.desc).map (fun d => d.parameters.length) = some 2 := by decide +kernel
theorem hd_X8_people : yX8_people.cls = RX8 ∧ yX8_people.cls ≠ "java/lang/invoke/MethodHandle" ∧ yX8_people.cls ≠ "java/lang/invoke/VarHandle" ∧ (parseMethodDescriptor yX8_people.desc).map (fun d => d.parameters.length) = some 2 := by decide +kernel
theorem hd_X8_wind : yX8_wind.cls = RX8 ∧ yX8_wind.cls ≠ "java/lang/invoke/MethodHandle" ∧ yX8_wind.cls ≠ "java/lang/invoke/VarHandle" ∧ (parseMethodDescriptor yX8_wind.desc).map (fun d => d.parameters.length) = some 1 := by decide +kernel
theorem hd_X8_fire : yX8_fire.cls = RX8 ∧ yX8_fire.cls ≠ "java/lang/invoke/MethodHandle" ∧ yX8_fire.cls ≠ "java/lang/invoke/VarHandle" ∧ (parseMethodDescriptor yX8_fire.desc).map (fun d => d.parameters.length) = some 2 := by decide +kernel
theorem hd_X8_feed : yX8_feed.cls = RX8 ∧ yX8_feed.cls ≠ "java/lang/invoke/MethodHandle" ∧ yX8_feed.cls ≠ "java/lang/invoke/VarHandle" ∧ (parseMethodDescriptor yX8_feed.desc).map (fun d => d.parameters.length) = some 2 := by decide +kernel
theorem hd_X8_failFan : yX8_failFan.cls = RX8 ∧ yX8_failFan.cls ≠ "java/lang/invoke/MethodHandle" ∧ yX8_failFan.cls ≠ "java/lang/invoke/VarHandle" ∧ (parseMethodDescriptor yX8_failFan.desc).map (fun d => d.parameters.length) = some 2 := by decide +kernel
theorem hd_X8_failDoor : yX8_failDoor.cls = RX8 ∧ yX8_failDoor.cls ≠ "java/lang/invoke/MethodHandle" ∧ yX8_failDoor.cls ≠ "java/lang/invoke/VarHandle" ∧ (parseMethodDescriptor yX8_failDoor.desc).map (fun d => d.parameters.length) = some 2 := by decide +kernel
theorem hd_X8_failDetector : yX8_failDetector.cls = RX8 ∧ yX8_failDetector.cls ≠ "java/lang/invoke/MethodHandle" ∧ yX8_failDetector.cls ≠ "java/lang/invoke/VarHandle" ∧ (parseMethodDescriptor yX8_failDetector.desc).map (fun d => d.parameters.length) = some 3 := by decide +kernel
theorem hd_X8_act : yX8_act.cls = RX8 ∧ yX8_act.cls ≠ "java/lang/invoke/MethodHandle" ∧ yX8_act.cls ≠ "java/lang/invoke/VarHandle" ∧ (parseMethodDescriptor yX8_act.desc).map (fun d => d.parameters.length) = some 3 := by decide +kernel
theorem hd_X8_command : yX8_command.cls = RX8 ∧ yX8_command.cls ≠ "java/lang/invoke/MethodHandle" ∧ yX8_command.cls ≠ "java/lang/invoke/VarHandle" ∧ (parseMethodDescriptor yX8_command.desc).map (fun d => d.parameters.length) = some 2 := by decide +kernel
/-! X8_thrown: public int thrown() -/
abbrev rm_X8_thrown : Room := { frames := 0, cells := 0, slots := 0, locals := 0 }
def f_X8_thrown (st : twS) : Option (Int32 × twS) :=
  some ((st.1 36), st)
section
variable {p : Program} {l : Launch} {e : Env} {s : State} {m : MethodId} {args : Array Value} {below : List Frame} {meth : Method} {c : Code} {Q : State → Prop} {dC : Nat → ClassId} {dI : Nat → Nat → Nat} {cI cZ : ClassId} {q : Nat → Nat} {A : Nat → Prop} {res : Int32 × twS}
set_option maxRecDepth 20000 in
theorem c_X8_thrown (l : Launch) (dC : Nat → ClassId) (dI : Nat → Nat → Nat) (cI cZ : ClassId) (q : Nat → Nat) {st : twS} {res : Int32 × twS} (hf : f_X8_thrown st = some res) : twMi l yX8_thrown wsX8_thrown rm_X8_thrown (dC, dI) (twY cI cZ) [.ref (q 0)] (twM cI cZ q st) res.1 (twM cI cZ q res.2) := by
  refine tw_enti (cc := cX8_thrown) (maxL := 1) (own := RX8) (by decide) rfl (Nat.le_of_ble_eq_true rfl) rfl ⟨rfl, rfl⟩ ?_
  intro p e s m below meth c A Q C hE
  generalize ([.ref (q 0)] : List Value).toArray = args at C hE ⊢
  refine tw_sub (lv' := [(0, .ref (q 0))]) [0] rfl ?_
  unfold f_X8_thrown at hf
  refine tw_aload_n C dX8_thrown_0 0 rfl rfl ?_
  refine tw_get (K := RX8) (T := TX8) (N := 37) (v := .int (st.1 36)) C 0 36 (fun _ h => List.mem_cons_of_mem _ (List.mem_append_right _ (h))) rfl rfl (by decide) (List.mem_cons_of_mem _ (List.mem_append_left _ (List.mem_of_getElem? (i := 0) rfl))) rfl rfl dX8_thrown_1 ?_
  exact tw_endi (Wf := twM cI cZ q) hE hf dX8_thrown_4 rfl
end
/-! X8_goes: private boolean goes(boolean, boolean, boolean) -/
abbrev rm_X8_goes : Room := { frames := 0, cells := 0, slots := 0, locals := 0 }
def f_X8_goes_L26 (k0 : Int32) (st : twS) : Option (Int32 × twS) :=
  (if ((twI st 36 k0).1 36) = 0 then
    some (1, (twI st 36 k0))
  else
    some (0, (twI st 36 k0)))
def f_X8_goes (st : twS) (v1 : Int32) (v2 : Int32) (v3 : Int32) : Option (Int32 × twS) :=
  (if v1 = 0 then
    f_X8_goes_L26 1 st
  else
    (if v2 = 0 then
    f_X8_goes_L26 2 st
  else
    (if v3 = 0 then
    f_X8_goes_L26 3 st
  else
    f_X8_goes_L26 0 st)))
section
variable {p : Program} {l : Launch} {e : Env} {s : State} {m : MethodId} {args : Array Value} {below : List Frame} {meth : Method} {c : Code} {Q : State → Prop} {dC : Nat → ClassId} {dI : Nat → Nat → Nat} {cI cZ : ClassId} {q : Nat → Nat} {A : Nat → Prop} {res : Int32 × twS}
set_option maxRecDepth 20000 in
theorem m_X8_goes_L26 (C : twC p s m args meth c cX8_goes 4 RX8 wsX8_goes (dC, dI) (twY cI cZ) A) (hE : twEi p l e rm_X8_goes s m args below meth c 0 0 Q (dC, dI) A 4 cX8_goes .boolean res.1 (twM cI cZ q res.2)) : ∀ (k0 : Int32) (st : twS), f_X8_goes_L26 k0 st = some res → twG p l e rm_X8_goes s m args below meth c 0 0 Q (dC, dI) A 4 (twM cI cZ q st) 26 [(0, .ref (q 0))] [.int k0, .ref (q 0)] := by
  intro k0 st hf
  unfold f_X8_goes_L26 at hf
  refine tw_put (K := RX8) (T := TX8) (N := 37) C 0 36 tyX8 tyX8_ok nmX8 (fun _ h => List.mem_cons_of_mem _ (List.mem_append_right _ (h))) rfl rfl (by decide) (List.mem_cons_of_mem _ (List.mem_append_left _ (List.mem_of_getElem? (i := 0) rfl))) rfl rfl rfl rfl (Nat.le_of_ble_eq_true rfl) (tw_M_si36 cI cZ q st k0) dX8_goes_26 ?_
  refine tw_aload_n C dX8_goes_29 0 rfl rfl ?_
  refine tw_get (K := RX8) (T := TX8) (N := 37) (v := .int ((twI st 36 k0).1 36)) C 0 36 (fun _ h => List.mem_cons_of_mem _ (List.mem_append_right _ (h))) rfl rfl (by decide) (List.mem_cons_of_mem _ (List.mem_append_left _ (List.mem_of_getElem? (i := 0) rfl))) rfl rfl dX8_goes_30 ?_
  refine tw_if_ne (tgt := 40) C dX8_goes_33 (by decide) (fun c26001 => ?_) (fun c26001 => ?_)
  · have hf := tw_neg hf c26001
    refine tw_iconst (v := 0) C dX8_goes_40 (by decide) ?_
    exact tw_endi (Wf := twM cI cZ q) hE hf dX8_goes_41 rfl
  · have hf := tw_pos hf c26001
    refine tw_iconst (v := 1) C dX8_goes_36 (by decide) ?_
    refine tw_goto (tgt := 41) C dX8_goes_37 (by decide) ?_
    exact tw_endi (Wf := twM cI cZ q) hE hf dX8_goes_41 rfl
set_option maxRecDepth 20000 in
theorem c_X8_goes (l : Launch) (dC : Nat → ClassId) (dI : Nat → Nat → Nat) (cI cZ : ClassId) (q : Nat → Nat) {st : twS} {v1 : Int32} {v2 : Int32} {v3 : Int32} {res : Int32 × twS} (hf : f_X8_goes st v1 v2 v3 = some res) : twMi l yX8_goes wsX8_goes rm_X8_goes (dC, dI) (twY cI cZ) [.ref (q 0), .int v1, .int v2, .int v3] (twM cI cZ q st) res.1 (twM cI cZ q res.2) := by
  refine tw_enti (cc := cX8_goes) (maxL := 4) (own := RX8) (by decide) rfl (Nat.le_of_ble_eq_true rfl) rfl ⟨rfl, rfl⟩ ?_
  intro p e s m below meth c A Q C hE
  generalize ([.ref (q 0), .int v1, .int v2, .int v3] : List Value).toArray = args at C hE ⊢
  refine tw_sub (lv' := [(0, .ref (q 0)), (1, .int v1), (2, .int v2), (3, .int v3)]) [0, 1, 2, 3] rfl ?_
  unfold f_X8_goes at hf
  refine tw_aload_n C dX8_goes_0 0 rfl rfl ?_
  refine tw_iload_n C dX8_goes_1 1 rfl rfl ?_
  refine tw_if_ne (tgt := 9) C dX8_goes_2 (by decide) (fun c1 => ?_) (fun c1 => ?_)
  · have hf := tw_neg hf c1
    refine tw_iload_n C dX8_goes_9 2 rfl rfl ?_
    refine tw_if_ne (tgt := 17) C dX8_goes_10 (by decide) (fun c2 => ?_) (fun c2 => ?_)
    · have hf := tw_neg hf c2
      refine tw_iload_n C dX8_goes_17 3 rfl rfl ?_
      refine tw_if_ne (tgt := 25) C dX8_goes_18 (by decide) (fun c3 => ?_) (fun c3 => ?_)
      · have hf := tw_neg hf c3
        refine tw_iconst (v := 0) C dX8_goes_25 (by decide) ?_
        refine tw_sub [0] rfl ?_
        exact m_X8_goes_L26 C hE 0 st hf
      · have hf := tw_pos hf c3
        refine tw_iconst (v := 3) C dX8_goes_21 (by decide) ?_
        refine tw_goto (tgt := 26) C dX8_goes_22 (by decide) ?_
        refine tw_sub [0] rfl ?_
        exact m_X8_goes_L26 C hE 3 st hf
    · have hf := tw_pos hf c2
      refine tw_iconst (v := 2) C dX8_goes_13 (by decide) ?_
      refine tw_goto (tgt := 26) C dX8_goes_14 (by decide) ?_
      refine tw_sub [0] rfl ?_
      exact m_X8_goes_L26 C hE 2 st hf
  · have hf := tw_pos hf c1
    refine tw_iconst (v := 1) C dX8_goes_5 (by decide) ?_
    refine tw_goto (tgt := 26) C dX8_goes_6 (by decide) ?_
    refine tw_sub [0] rfl ?_
    exact m_X8_goes_L26 C hE 1 st hf
end
/-! X8_isBetween: private static boolean isBetween(int, int, int) -/
abbrev rm_X8_isBetween : Room := { frames := 0, cells := 0, slots := 0, locals := 0 }
def f_X8_isBetween (st : twS) (v0 : Int32) (v1 : Int32) (v2 : Int32) : Option (Int32 × twS) :=
  (if v0 < v1 then
    some (0, st)
  else
    (if v2 < v0 then
    some (0, st)
  else
    some (1, st)))
section
variable {p : Program} {l : Launch} {e : Env} {s : State} {m : MethodId} {args : Array Value} {below : List Frame} {meth : Method} {c : Code} {Q : State → Prop} {dC : Nat → ClassId} {dI : Nat → Nat → Nat} {cI cZ : ClassId} {q : Nat → Nat} {A : Nat → Prop} {res : Int32 × twS}
set_option maxRecDepth 20000 in
theorem c_X8_isBetween (l : Launch) (dC : Nat → ClassId) (dI : Nat → Nat → Nat) (cI cZ : ClassId) (q : Nat → Nat) {st : twS} {v0 : Int32} {v1 : Int32} {v2 : Int32} {res : Int32 × twS} (hf : f_X8_isBetween st v0 v1 v2 = some res) : twMi l yX8_isBetween wsX8_isBetween rm_X8_isBetween (dC, dI) (twY cI cZ) [.int v0, .int v1, .int v2] (twM cI cZ q st) res.1 (twM cI cZ q res.2) := by
  refine tw_enti (cc := cX8_isBetween) (maxL := 3) (own := RX8) (by decide) rfl (Nat.le_of_ble_eq_true rfl) rfl ⟨rfl, rfl⟩ ?_
  intro p e s m below meth c A Q C hE
  generalize ([.int v0, .int v1, .int v2] : List Value).toArray = args at C hE ⊢
  refine tw_sub (lv' := [(0, .int v0), (1, .int v1), (2, .int v2)]) [0, 1, 2] rfl ?_
  unfold f_X8_isBetween at hf
  refine tw_iload_n C dX8_isBetween_0 0 rfl rfl ?_
  refine tw_iload_n C dX8_isBetween_1 1 rfl rfl ?_
  refine tw_icmp_lt (tgt := 14) C dX8_isBetween_2 (by decide) (fun c1 => ?_) (fun c1 => ?_)
  · have hf := tw_pos hf c1
    refine tw_iconst (v := 0) C dX8_isBetween_14 (by decide) ?_
    exact tw_endi (Wf := twM cI cZ q) hE hf dX8_isBetween_15 rfl
  · have hf := tw_neg hf c1
    refine tw_iload_n C dX8_isBetween_5 0 rfl rfl ?_
    refine tw_iload_n C dX8_isBetween_6 2 rfl rfl ?_
    refine tw_icmp_gt (tgt := 14) C dX8_isBetween_7 (by decide) (fun c2 => ?_) (fun c2 => ?_)
    · have hf := tw_pos hf c2
      refine tw_iconst (v := 0) C dX8_isBetween_14 (by decide) ?_
      exact tw_endi (Wf := twM cI cZ q) hE hf dX8_isBetween_15 rfl
    · have hf := tw_neg hf c2
      refine tw_iconst (v := 1) C dX8_isBetween_10 (by decide) ?_
      refine tw_goto (tgt := 15) C dX8_isBetween_11 (by decide) ?_
      exact tw_endi (Wf := twM cI cZ q) hE hf dX8_isBetween_15 rfl
end
/-! X8_isSegment: private static boolean isSegment(int) -/
abbrev rm_X8_isSegment : Room := { frames := 1, cells := 0, slots := 0, locals := 22 }
def f_X8_isSegment (st : twS) (v0 : Int32) : Option (Int32 × twS) :=
  ((f_X8_isBetween st v0 0 11).bind fun y1 => (if twz y1.1 = true then some (y1.1, y1.2) else none))
section
variable {p : Program} {l : Launch} {e : Env} {s : State} {m : MethodId} {args : Array Value} {below : List Frame} {meth : Method} {c : Code} {Q : State → Prop} {dC : Nat → ClassId} {dI : Nat → Nat → Nat} {cI cZ : ClassId} {q : Nat → Nat} {A : Nat → Prop} {res : Int32 × twS}
set_option maxRecDepth 20000 in
theorem c_X8_isSegment (l : Launch) (dC : Nat → ClassId) (dI : Nat → Nat → Nat) (cI cZ : ClassId) (q : Nat → Nat) {st : twS} {v0 : Int32} {res : Int32 × twS} (hf : f_X8_isSegment st v0 = some res) : twMi l yX8_isSegment wsX8_isSegment rm_X8_isSegment (dC, dI) (twY cI cZ) [.int v0] (twM cI cZ q st) res.1 (twM cI cZ q res.2) := by
  refine tw_enti (cc := cX8_isSegment) (maxL := 1) (own := RX8) (by decide) rfl (Nat.le_of_ble_eq_true rfl) rfl ⟨rfl, rfl⟩ ?_
  intro p e s m below meth c A Q C hE
  generalize ([.int v0] : List Value).toArray = args at C hE ⊢
  refine tw_sub (lv' := [(0, .int v0)]) [0] rfl ?_
  unfold f_X8_isSegment at hf
  refine tw_iload_n C dX8_isSegment_0 0 rfl rfl ?_
  refine tw_iconst (v := 0) C dX8_isSegment_1 (by decide) ?_
  refine tw_bipush (v := 11) C dX8_isSegment_2 (by decide) ?_
  obtain ⟨y1, hc1, hf⟩ := tw_bd hf
  refine tw_cSi (As := [.int v0, .int 0, .int 11]) (stk := []) C (c_X8_isBetween l dC dI cI cZ q hc1) (va_cwS 3 C.hts gX8_isSegment_X8_isBetween rfl rfl rfl hd_X8_isBetween ⟨Nat.le_of_ble_eq_true rfl, Nat.le_of_ble_eq_true rfl⟩) rfl rfl (Nat.le_of_ble_eq_true rfl) dX8_isSegment_4 ⟨Nat.zero_le _, Nat.zero_le _⟩ ?_
  obtain ⟨hz2, hf⟩ := tw_ck hf
  exact tw_endi (Wf := twM cI cZ q) hE hf dX8_isSegment_7 (tw_zz hz2)
end
/-! X8_isFan: private static boolean isFan(int) -/
abbrev rm_X8_isFan : Room := { frames := 1, cells := 0, slots := 0, locals := 22 }
def f_X8_isFan (st : twS) (v0 : Int32) : Option (Int32 × twS) :=
  ((f_X8_isBetween st v0 0 2).bind fun y1 => (if twz y1.1 = true then some (y1.1, y1.2) else none))
section
variable {p : Program} {l : Launch} {e : Env} {s : State} {m : MethodId} {args : Array Value} {below : List Frame} {meth : Method} {c : Code} {Q : State → Prop} {dC : Nat → ClassId} {dI : Nat → Nat → Nat} {cI cZ : ClassId} {q : Nat → Nat} {A : Nat → Prop} {res : Int32 × twS}
set_option maxRecDepth 20000 in
theorem c_X8_isFan (l : Launch) (dC : Nat → ClassId) (dI : Nat → Nat → Nat) (cI cZ : ClassId) (q : Nat → Nat) {st : twS} {v0 : Int32} {res : Int32 × twS} (hf : f_X8_isFan st v0 = some res) : twMi l yX8_isFan wsX8_isFan rm_X8_isFan (dC, dI) (twY cI cZ) [.int v0] (twM cI cZ q st) res.1 (twM cI cZ q res.2) := by
  refine tw_enti (cc := cX8_isFan) (maxL := 1) (own := RX8) (by decide) rfl (Nat.le_of_ble_eq_true rfl) rfl ⟨rfl, rfl⟩ ?_
  intro p e s m below meth c A Q C hE
  generalize ([.int v0] : List Value).toArray = args at C hE ⊢
  refine tw_sub (lv' := [(0, .int v0)]) [0] rfl ?_
  unfold f_X8_isFan at hf
  refine tw_iload_n C dX8_isFan_0 0 rfl rfl ?_
  refine tw_iconst (v := 0) C dX8_isFan_1 (by decide) ?_
  refine tw_iconst (v := 2) C dX8_isFan_2 (by decide) ?_
  obtain ⟨y1, hc1, hf⟩ := tw_bd hf
  refine tw_cSi (As := [.int v0, .int 0, .int 2]) (stk := []) C (c_X8_isBetween l dC dI cI cZ q hc1) (va_cwS 3 C.hts gX8_isFan_X8_isBetween rfl rfl rfl hd_X8_isBetween ⟨Nat.le_of_ble_eq_true rfl, Nat.le_of_ble_eq_true rfl⟩) rfl rfl (Nat.le_of_ble_eq_true rfl) dX8_isFan_3 ⟨Nat.zero_le _, Nat.zero_le _⟩ ?_
  obtain ⟨hz2, hf⟩ := tw_ck hf
  exact tw_endi (Wf := twM cI cZ q) hE hf dX8_isFan_6 (tw_zz hz2)
end
/-! X8_isIn: private static boolean isIn(int, int) -/
abbrev rm_X8_isIn : Room := { frames := 0, cells := 0, slots := 0, locals := 0 }
def f_X8_isIn (st : twS) (v0 : Int32) (v1 : Int32) : Option (Int32 × twS) :=
  (if ((v1 >>> (v0 &&& 31)) &&& 1) = 1 then
    some (1, st)
  else
    some (0, st))
section
variable {p : Program} {l : Launch} {e : Env} {s : State} {m : MethodId} {args : Array Value} {below : List Frame} {meth : Method} {c : Code} {Q : State → Prop} {dC : Nat → ClassId} {dI : Nat → Nat → Nat} {cI cZ : ClassId} {q : Nat → Nat} {A : Nat → Prop} {res : Int32 × twS}
set_option maxRecDepth 20000 in
theorem c_X8_isIn (l : Launch) (dC : Nat → ClassId) (dI : Nat → Nat → Nat) (cI cZ : ClassId) (q : Nat → Nat) {st : twS} {v0 : Int32} {v1 : Int32} {res : Int32 × twS} (hf : f_X8_isIn st v0 v1 = some res) : twMi l yX8_isIn wsX8_isIn rm_X8_isIn (dC, dI) (twY cI cZ) [.int v0, .int v1] (twM cI cZ q st) res.1 (twM cI cZ q res.2) := by
  refine tw_enti (cc := cX8_isIn) (maxL := 2) (own := RX8) (by decide) rfl (Nat.le_of_ble_eq_true rfl) rfl ⟨rfl, rfl⟩ ?_
  intro p e s m below meth c A Q C hE
  generalize ([.int v0, .int v1] : List Value).toArray = args at C hE ⊢
  refine tw_sub (lv' := [(0, .int v0), (1, .int v1)]) [0, 1] rfl ?_
  unfold f_X8_isIn at hf
  refine tw_iload_n C dX8_isIn_0 1 rfl rfl ?_
  refine tw_iload_n C dX8_isIn_1 0 rfl rfl ?_
  refine tw_ishr C dX8_isIn_2 ?_
  refine tw_iconst (v := 1) C dX8_isIn_3 (by decide) ?_
  refine tw_iand C dX8_isIn_4 ?_
  refine tw_iconst (v := 1) C dX8_isIn_5 (by decide) ?_
  refine tw_icmp_ne (tgt := 13) C dX8_isIn_6 (by decide) (fun c1 => ?_) (fun c1 => ?_)
  · have hf := tw_neg hf c1
    refine tw_iconst (v := 0) C dX8_isIn_13 (by decide) ?_
    exact tw_endi (Wf := twM cI cZ q) hE hf dX8_isIn_14 rfl
  · have hf := tw_pos hf c1
    refine tw_iconst (v := 1) C dX8_isIn_9 (by decide) ?_
    refine tw_goto (tgt := 14) C dX8_isIn_10 (by decide) ?_
    exact tw_endi (Wf := twM cI cZ q) hE hf dX8_isIn_14 rfl
end
/-! X8_hasPower: private boolean hasPower() -/
abbrev rm_X8_hasPower : Room := { frames := 0, cells := 0, slots := 0, locals := 0 }
def f_X8_hasPower (st : twS) : Option (Int32 × twS) :=
  (if twb 0 2 = true then (if (st.2.1 6 (0 : Int32).toNatClampNeg) = 0 then
    some (1, st)
  else
    (if twb 1 2 = true then (if (st.2.1 6 (1 : Int32).toNatClampNeg) = 0 then
    some (1, st)
  else
    some (0, st)) else none)) else none)
section
variable {p : Program} {l : Launch} {e : Env} {s : State} {m : MethodId} {args : Array Value} {below : List Frame} {meth : Method} {c : Code} {Q : State → Prop} {dC : Nat → ClassId} {dI : Nat → Nat → Nat} {cI cZ : ClassId} {q : Nat → Nat} {A : Nat → Prop} {res : Int32 × twS}
set_option maxRecDepth 20000 in
theorem c_X8_hasPower (l : Launch) (dC : Nat → ClassId) (dI : Nat → Nat → Nat) (cI cZ : ClassId) (q : Nat → Nat) {st : twS} {res : Int32 × twS} (hf : f_X8_hasPower st = some res) : twMi l yX8_hasPower wsX8_hasPower rm_X8_hasPower (dC, dI) (twY cI cZ) [.ref (q 0)] (twM cI cZ q st) res.1 (twM cI cZ q res.2) := by
  refine tw_enti (cc := cX8_hasPower) (maxL := 1) (own := RX8) (by decide) rfl (Nat.le_of_ble_eq_true rfl) rfl ⟨rfl, rfl⟩ ?_
  intro p e s m below meth c A Q C hE
  generalize ([.ref (q 0)] : List Value).toArray = args at C hE ⊢
  refine tw_sub (lv' := [(0, .ref (q 0))]) [0] rfl ?_
  unfold f_X8_hasPower at hf
  refine tw_aload_n C dX8_hasPower_0 0 rfl rfl ?_
  refine tw_get (K := RX8) (T := TX8) (N := 37) (v := .ref (q 6)) C 0 17 (fun _ h => List.mem_cons_of_mem _ (List.mem_append_right _ (h))) rfl rfl (by decide) (List.mem_cons_of_mem _ (List.mem_append_left _ (List.mem_of_getElem? (i := 0) rfl))) rfl rfl dX8_hasPower_1 ?_
  refine tw_iconst (v := 0) C dX8_hasPower_4 (by decide) ?_
  obtain ⟨hb1, hf⟩ := tw_ck hf
  refine tw_zald C 6 1 hb1 rfl rfl dX8_hasPower_5 ?_
  refine tw_if_eq (tgt := 18) C dX8_hasPower_6 (by decide) (fun c2 => ?_) (fun c2 => ?_)
  · have hf := tw_pos hf c2
    refine tw_iconst (v := 1) C dX8_hasPower_18 (by decide) ?_
    refine tw_goto (tgt := 23) C dX8_hasPower_19 (by decide) ?_
    exact tw_endi (Wf := twM cI cZ q) hE hf dX8_hasPower_23 rfl
  · have hf := tw_neg hf c2
    refine tw_aload_n C dX8_hasPower_9 0 rfl rfl ?_
    refine tw_get (K := RX8) (T := TX8) (N := 37) (v := .ref (q 6)) C 0 17 (fun _ h => List.mem_cons_of_mem _ (List.mem_append_right _ (h))) rfl rfl (by decide) (List.mem_cons_of_mem _ (List.mem_append_left _ (List.mem_of_getElem? (i := 0) rfl))) rfl rfl dX8_hasPower_10 ?_
    refine tw_iconst (v := 1) C dX8_hasPower_13 (by decide) ?_
    obtain ⟨hb3, hf⟩ := tw_ck hf
    refine tw_zald C 6 1 hb3 rfl rfl dX8_hasPower_14 ?_
    refine tw_if_ne (tgt := 22) C dX8_hasPower_15 (by decide) (fun c4 => ?_) (fun c4 => ?_)
    · have hf := tw_neg hf c4
      refine tw_iconst (v := 0) C dX8_hasPower_22 (by decide) ?_
      exact tw_endi (Wf := twM cI cZ q) hE hf dX8_hasPower_23 rfl
    · have hf := tw_pos hf c4
      refine tw_iconst (v := 1) C dX8_hasPower_18 (by decide) ?_
      refine tw_goto (tgt := 23) C dX8_hasPower_19 (by decide) ?_
      exact tw_endi (Wf := twM cI cZ q) hE hf dX8_hasPower_23 rfl
end
/-! X8_build: public void build(int, int) -/
abbrev rm_X8_build : Room := { frames := 2, cells := 0, slots := 0, locals := 42 }
def f_X8_build_L25 (v1 : Int32) (v2 : Int32) (k0 : Int32) (k1 : Int32) (k2 : Int32) (st : twS) : Option (twS) :=
  ((f_X8_goes st k2 k1 k0).bind fun y25001 => (if y25001.1 = 0 then
    some y25001.2
  else
    some (twI (twI (twI (twI (twI y25001.2 6 v1) 7 0) 8 0) 9 v2) 10 0)))
def f_X8_build (st : twS) (v1 : Int32) (v2 : Int32) : Option (twS) :=
  ((f_X8_isSegment st v2).bind fun y1 => ((f_X8_isBetween y1.2 v1 0 4095).bind fun y2 => (if (y2.2.1 0) = 0 then
    f_X8_build_L25 v1 v2 1 y2.1 y1.1 y2.2
  else
    f_X8_build_L25 v1 v2 0 y2.1 y1.1 y2.2)))
section
variable {p : Program} {l : Launch} {e : Env} {s : State} {m : MethodId} {args : Array Value} {below : List Frame} {meth : Method} {c : Code} {Q : State → Prop} {dC : Nat → ClassId} {dI : Nat → Nat → Nat} {cI cZ : ClassId} {q : Nat → Nat} {A : Nat → Prop} {res : twS}
set_option maxRecDepth 20000 in
theorem m_X8_build_L25 (C : twC p s m args meth c cX8_build 3 RX8 wsX8_build (dC, dI) (twY cI cZ) A) (hE : twEv p l e rm_X8_build s m args below meth c 0 0 Q (dC, dI) A 3 cX8_build (twM cI cZ q res)) : ∀ (v1 : Int32) (v2 : Int32) (k0 : Int32) (k1 : Int32) (k2 : Int32) (st : twS), f_X8_build_L25 v1 v2 k0 k1 k2 st = some res → twG p l e rm_X8_build s m args below meth c 0 0 Q (dC, dI) A 3 (twM cI cZ q st) 25 [(0, .ref (q 0)), (1, .int v1), (2, .int v2)] [.int k0, .int k1, .int k2, .ref (q 0)] := by
  intro v1 v2 k0 k1 k2 st hf
  unfold f_X8_build_L25 at hf
  obtain ⟨y25001, hc25001, hf⟩ := tw_bd hf
  refine tw_cVi (As := [.int k2, .int k1, .int k0]) (stk := []) C (c_X8_goes l dC dI cI cZ q hc25001) (cwV 3 C.hts gX8_build_X8_goes rfl rfl rfl hd_X8_goes ⟨Nat.le_of_ble_eq_true rfl, Nat.le_of_ble_eq_true rfl⟩) 0 (ci := 8) rfl rfl rfl rfl rfl (Nat.le_of_ble_eq_true rfl) dX8_build_25 ⟨Nat.zero_le _, Nat.zero_le _⟩ ?_
  refine tw_if_ne (tgt := 32) C dX8_build_28 (by decide) (fun c25002 => ?_) (fun c25002 => ?_)
  · have hf := tw_neg hf c25002
    refine tw_aload_n C dX8_build_32 0 rfl rfl ?_
    refine tw_iload_n C dX8_build_33 1 rfl rfl ?_
    refine tw_put (K := RX8) (T := TX8) (N := 37) C 0 6 tyX8 tyX8_ok nmX8 (fun _ h => List.mem_cons_of_mem _ (List.mem_append_right _ (h))) rfl rfl (by decide) (List.mem_cons_of_mem _ (List.mem_append_left _ (List.mem_of_getElem? (i := 1) rfl))) rfl rfl rfl rfl (Nat.le_of_ble_eq_true rfl) (tw_M_si6 cI cZ q y25001.2 v1) dX8_build_34 ?_
    refine tw_aload_n C dX8_build_37 0 rfl rfl ?_
    refine tw_iconst (v := 0) C dX8_build_38 (by decide) ?_
    refine tw_put (K := RX8) (T := TX8) (N := 37) C 0 7 tyX8 tyX8_ok nmX8 (fun _ h => List.mem_cons_of_mem _ (List.mem_append_right _ (h))) rfl rfl (by decide) (List.mem_cons_of_mem _ (List.mem_append_left _ (List.mem_of_getElem? (i := 2) rfl))) rfl rfl rfl rfl (Nat.le_of_ble_eq_true rfl) (tw_M_si7 cI cZ q (twI y25001.2 6 v1) 0) dX8_build_39 ?_
    refine tw_aload_n C dX8_build_42 0 rfl rfl ?_
    refine tw_iconst (v := 0) C dX8_build_43 (by decide) ?_
    refine tw_put (K := RX8) (T := TX8) (N := 37) C 0 8 tyX8 tyX8_ok nmX8 (fun _ h => List.mem_cons_of_mem _ (List.mem_append_right _ (h))) rfl rfl (by decide) (List.mem_cons_of_mem _ (List.mem_append_left _ (List.mem_of_getElem? (i := 3) rfl))) rfl rfl rfl rfl (Nat.le_of_ble_eq_true rfl) (tw_M_si8 cI cZ q (twI (twI y25001.2 6 v1) 7 0) 0) dX8_build_44 ?_
    refine tw_aload_n C dX8_build_47 0 rfl rfl ?_
    refine tw_iload_n C dX8_build_48 2 rfl rfl ?_
    refine tw_put (K := RX8) (T := TX8) (N := 37) C 0 9 tyX8 tyX8_ok nmX8 (fun _ h => List.mem_cons_of_mem _ (List.mem_append_right _ (h))) rfl rfl (by decide) (List.mem_cons_of_mem _ (List.mem_append_left _ (List.mem_of_getElem? (i := 4) rfl))) rfl rfl rfl rfl (Nat.le_of_ble_eq_true rfl) (tw_M_si9 cI cZ q (twI (twI (twI y25001.2 6 v1) 7 0) 8 0) v2) dX8_build_49 ?_
    refine tw_aload_n C dX8_build_52 0 rfl rfl ?_
    refine tw_iconst (v := 0) C dX8_build_53 (by decide) ?_
    refine tw_put (K := RX8) (T := TX8) (N := 37) C 0 10 tyX8 tyX8_ok nmX8 (fun _ h => List.mem_cons_of_mem _ (List.mem_append_right _ (h))) rfl rfl (by decide) (List.mem_cons_of_mem _ (List.mem_append_left _ (List.mem_of_getElem? (i := 5) rfl))) rfl rfl rfl rfl (Nat.le_of_ble_eq_true rfl) (tw_M_si10 cI cZ q (twI (twI (twI (twI y25001.2 6 v1) 7 0) 8 0) 9 v2) 0) dX8_build_54 ?_
    exact tw_endv (Wf := twM cI cZ q) hE hf dX8_build_57
  · have hf := tw_pos hf c25002
    exact tw_endv (Wf := twM cI cZ q) hE hf dX8_build_31
set_option maxRecDepth 20000 in
theorem c_X8_build (l : Launch) (dC : Nat → ClassId) (dI : Nat → Nat → Nat) (cI cZ : ClassId) (q : Nat → Nat) {st : twS} {v1 : Int32} {v2 : Int32} {res : twS} (hf : f_X8_build st v1 v2 = some res) : twMv l yX8_build wsX8_build rm_X8_build (dC, dI) (twY cI cZ) [.ref (q 0), .int v1, .int v2] (twM cI cZ q st) (twM cI cZ q res) := by
  refine tw_entv (cc := cX8_build) (maxL := 3) (own := RX8) (by decide) rfl (Nat.le_of_ble_eq_true rfl) rfl ⟨rfl, rfl⟩ ?_
  intro p e s m below meth c A Q C hE
  generalize ([.ref (q 0), .int v1, .int v2] : List Value).toArray = args at C hE ⊢
  refine tw_sub (lv' := [(0, .ref (q 0)), (1, .int v1), (2, .int v2)]) [0, 1, 2] rfl ?_
  unfold f_X8_build at hf
  refine tw_aload_n C dX8_build_0 0 rfl rfl ?_
  refine tw_iload_n C dX8_build_1 2 rfl rfl ?_
  obtain ⟨y1, hc1, hf⟩ := tw_bd hf
  refine tw_cSi (As := [.int v2]) (stk := [.ref (q 0)]) C (c_X8_isSegment l dC dI cI cZ q hc1) (va_cwS 1 C.hts gX8_build_X8_isSegment rfl rfl rfl hd_X8_isSegment ⟨Nat.le_of_ble_eq_true rfl, Nat.le_of_ble_eq_true rfl⟩) rfl rfl (Nat.le_of_ble_eq_true rfl) dX8_build_2 ⟨Nat.zero_le _, Nat.zero_le _⟩ ?_
  refine tw_iload_n C dX8_build_5 1 rfl rfl ?_
  refine tw_iconst (v := 0) C dX8_build_6 (by decide) ?_
  refine tw_sipush (v := 4095) C dX8_build_7 (by decide) ?_
  obtain ⟨y2, hc2, hf⟩ := tw_bd hf
  refine tw_cSi (As := [.int v1, .int 0, .int 4095]) (stk := [.int y1.1, .ref (q 0)]) C (c_X8_isBetween l dC dI cI cZ q hc2) (va_cwS 3 C.hts gX8_build_X8_isBetween rfl rfl rfl hd_X8_isBetween ⟨Nat.le_of_ble_eq_true rfl, Nat.le_of_ble_eq_true rfl⟩) rfl rfl (Nat.le_of_ble_eq_true rfl) dX8_build_10 ⟨Nat.zero_le _, Nat.zero_le _⟩ ?_
  refine tw_aload_n C dX8_build_13 0 rfl rfl ?_
  refine tw_get (K := RX8) (T := TX8) (N := 37) (v := .int (y2.2.1 0)) C 0 0 (fun _ h => List.mem_cons_of_mem _ (List.mem_append_right _ (h))) rfl rfl (by decide) (List.mem_cons_of_mem _ (List.mem_append_left _ (List.mem_of_getElem? (i := 0) rfl))) rfl rfl dX8_build_14 ?_
  refine tw_if_ne (tgt := 24) C dX8_build_17 (by decide) (fun c3 => ?_) (fun c3 => ?_)
  · have hf := tw_neg hf c3
    refine tw_iconst (v := 0) C dX8_build_24 (by decide) ?_
    exact m_X8_build_L25 C hE v1 v2 0 y2.1 y1.1 y2.2 hf
  · have hf := tw_pos hf c3
    refine tw_iconst (v := 1) C dX8_build_20 (by decide) ?_
    refine tw_goto (tgt := 25) C dX8_build_21 (by decide) ?_
    exact m_X8_build_L25 C hE v1 v2 1 y2.1 y1.1 y2.2 hf
end
/-! X8_people: public int people(int, int) -/
abbrev rm_X8_people : Room := { frames := 2, cells := 0, slots := 0, locals := 42 }
def f_X8_people_L45b (rec : Int32 → Int32 → Int32 → twS → Option (Int32 × twS)) (v1 : Int32) (v2 : Int32) (v4 : Int32) (st : twS) : Option (Int32 × twS) :=
  (if v2 ≤ v4 then
    some ((st.1 31), st)
  else
    (if twb (st.1 31) 30 = true then (if twb ((twA st 12 (st.1 31) v1).1 31) 30 = true then rec v1 v2 (v4 + 1) (twI (twA (twA st 12 (st.1 31) v1) 14 ((twA st 12 (st.1 31) v1).1 31) (-1)) 31 (((twA (twA st 12 (st.1 31) v1) 14 ((twA st 12 (st.1 31) v1).1 31) (-1)).1 31) + 1)) else none) else none))
def f_X8_people_L45 : Nat → Int32 → Int32 → Int32 → twS → Option (Int32 × twS)
  | 0 => fun _ _ _ _ => none
  | n + 1 => fun v1 v2 v4 st => f_X8_people_L45b (f_X8_people_L45 n) v1 v2 v4 st
def f_X8_people_L34 (v1 : Int32) (v2 : Int32) (k0 : Int32) (k1 : Int32) (k2 : Int32) (st : twS) : Option (Int32 × twS) :=
  ((f_X8_goes st k2 k1 k0).bind fun y34001 => (if y34001.1 = 0 then
    some (0, y34001.2)
  else
    f_X8_people_L45 twN v1 v2 0 y34001.2))
def f_X8_people_L33 (v1 : Int32) (v2 : Int32) (k0 : Int32) (k1 : Int32) (st : twS) : Option (Int32 × twS) :=
  f_X8_people_L34 v1 v2 0 k0 k1 st
def f_X8_people (st : twS) (v1 : Int32) (v2 : Int32) : Option (Int32 × twS) :=
  ((f_X8_isBetween st v2 1 30).bind fun y1 => ((f_X8_isSegment y1.2 v1).bind fun y2 => (if y1.1 = 0 then
    f_X8_people_L33 v1 v2 y1.1 y2.1 y2.2
  else
    (if 30 < ((y2.2.1 31) + v2) then
    f_X8_people_L33 v1 v2 y1.1 y2.1 y2.2
  else
    f_X8_people_L34 v1 v2 1 y1.1 y2.1 y2.2))))
section
variable {p : Program} {l : Launch} {e : Env} {s : State} {m : MethodId} {args : Array Value} {below : List Frame} {meth : Method} {c : Code} {Q : State → Prop} {dC : Nat → ClassId} {dI : Nat → Nat → Nat} {cI cZ : ClassId} {q : Nat → Nat} {A : Nat → Prop} {res : Int32 × twS}
set_option maxRecDepth 20000 in
theorem m_X8_people_L45b (C : twC p s m args meth c cX8_people 5 RX8 wsX8_people (dC, dI) (twY cI cZ) A) (hE : twEi p l e rm_X8_people s m args below meth c 0 0 Q (dC, dI) A 5 cX8_people .int res.1 (twM cI cZ q res.2)) {rec : Int32 → Int32 → Int32 → twS → Option (Int32 × twS)} (hrec : ∀ (v1 : Int32) (v2 : Int32) (v4 : Int32) (st : twS), rec v1 v2 v4 st = some res → twG p l e rm_X8_people s m args below meth c 0 0 Q (dC, dI) A 5 (twM cI cZ q st) 45 [(0, .ref (q 0)), (1, .int v1), (2, .int v2), (4, .int v4)] []) : ∀ (v1 : Int32) (v2 : Int32) (v4 : Int32) (st : twS), f_X8_people_L45b rec v1 v2 v4 st = some res → twG p l e rm_X8_people s m args below meth c 0 0 Q (dC, dI) A 5 (twM cI cZ q st) 45 [(0, .ref (q 0)), (1, .int v1), (2, .int v2), (4, .int v4)] [] := by
  intro v1 v2 v4 st hf
  unfold f_X8_people_L45b at hf
  refine tw_iload C dX8_people_45 3 rfl ?_
  refine tw_iload_n C dX8_people_47 2 rfl rfl ?_
  refine tw_icmp_ge (tgt := 87) C dX8_people_48 (by decide) (fun c45001 => ?_) (fun c45001 => ?_)
  · have hf := tw_pos hf c45001
    refine tw_aload_n C dX8_people_87 0 rfl rfl ?_
    refine tw_get (K := RX8) (T := TX8) (N := 37) (v := .int (st.1 31)) C 0 31 (fun _ h => List.mem_cons_of_mem _ (List.mem_append_right _ (h))) rfl rfl (by decide) (List.mem_cons_of_mem _ (List.mem_append_left _ (List.mem_of_getElem? (i := 0) rfl))) rfl rfl dX8_people_88 ?_
    exact tw_endi (Wf := twM cI cZ q) hE hf dX8_people_91 rfl
  · have hf := tw_neg hf c45001
    refine tw_aload_n C dX8_people_51 0 rfl rfl ?_
    refine tw_get (K := RX8) (T := TX8) (N := 37) (v := .ref (q 12)) C 0 33 (fun _ h => List.mem_cons_of_mem _ (List.mem_append_right _ (h))) rfl rfl (by decide) (List.mem_cons_of_mem _ (List.mem_append_left _ (List.mem_of_getElem? (i := 1) rfl))) rfl rfl dX8_people_52 ?_
    refine tw_aload_n C dX8_people_55 0 rfl rfl ?_
    refine tw_get (K := RX8) (T := TX8) (N := 37) (v := .int (st.1 31)) C 0 31 (fun _ h => List.mem_cons_of_mem _ (List.mem_append_right _ (h))) rfl rfl (by decide) (List.mem_cons_of_mem _ (List.mem_append_left _ (List.mem_of_getElem? (i := 0) rfl))) rfl rfl dX8_people_56 ?_
    refine tw_iload_n C dX8_people_59 1 rfl rfl ?_
    obtain ⟨hb45002, hf⟩ := tw_ck hf
    refine tw_iast C 12 0 hb45002 rfl rfl (tw_M_a12 cI cZ q st (st.1 31) v1) dX8_people_60 ?_
    refine tw_aload_n C dX8_people_61 0 rfl rfl ?_
    refine tw_get (K := RX8) (T := TX8) (N := 37) (v := .ref (q 14)) C 0 35 (fun _ h => List.mem_cons_of_mem _ (List.mem_append_right _ (h))) rfl rfl (by decide) (List.mem_cons_of_mem _ (List.mem_append_left _ (List.mem_of_getElem? (i := 2) rfl))) rfl rfl dX8_people_62 ?_
    refine tw_aload_n C dX8_people_65 0 rfl rfl ?_
    refine tw_get (K := RX8) (T := TX8) (N := 37) (v := .int ((twA st 12 (st.1 31) v1).1 31)) C 0 31 (fun _ h => List.mem_cons_of_mem _ (List.mem_append_right _ (h))) rfl rfl (by decide) (List.mem_cons_of_mem _ (List.mem_append_left _ (List.mem_of_getElem? (i := 0) rfl))) rfl rfl dX8_people_66 ?_
    refine tw_iconst (v := (-1)) C dX8_people_69 (by decide) ?_
    obtain ⟨hb45003, hf⟩ := tw_ck hf
    refine tw_iast C 14 0 hb45003 rfl rfl (tw_M_a14 cI cZ q (twA st 12 (st.1 31) v1) ((twA st 12 (st.1 31) v1).1 31) (-1)) dX8_people_70 ?_
    refine tw_aload_n C dX8_people_71 0 rfl rfl ?_
    refine tw_dup C dX8_people_72 rfl ?_
    refine tw_get (K := RX8) (T := TX8) (N := 37) (v := .int ((twA (twA st 12 (st.1 31) v1) 14 ((twA st 12 (st.1 31) v1).1 31) (-1)).1 31)) C 0 31 (fun _ h => List.mem_cons_of_mem _ (List.mem_append_right _ (h))) rfl rfl (by decide) (List.mem_cons_of_mem _ (List.mem_append_left _ (List.mem_of_getElem? (i := 0) rfl))) rfl rfl dX8_people_73 ?_
    refine tw_iconst (v := 1) C dX8_people_76 (by decide) ?_
    refine tw_iadd C dX8_people_77 ?_
    refine tw_put (K := RX8) (T := TX8) (N := 37) C 0 31 tyX8 tyX8_ok nmX8 (fun _ h => List.mem_cons_of_mem _ (List.mem_append_right _ (h))) rfl rfl (by decide) (List.mem_cons_of_mem _ (List.mem_append_left _ (List.mem_of_getElem? (i := 0) rfl))) rfl rfl rfl rfl (Nat.le_of_ble_eq_true rfl) (tw_M_si31 cI cZ q (twA (twA st 12 (st.1 31) v1) 14 ((twA st 12 (st.1 31) v1).1 31) (-1)) (((twA (twA st 12 (st.1 31) v1) 14 ((twA st 12 (st.1 31) v1).1 31) (-1)).1 31) + 1)) dX8_people_78 ?_
    refine tw_iinc (v := (v4 + 1)) (lv' := [(4, .int (v4 + 1)), (0, .ref (q 0)), (1, .int v1), (2, .int v2)]) C dX8_people_81 (k := 3) rfl rfl (by decide) rfl ?_
    refine tw_goto (tgt := 45) C dX8_people_84 (by decide) ?_
    refine tw_sub [1, 2, 3, 0] rfl ?_
    exact hrec v1 v2 (v4 + 1) (twI (twA (twA st 12 (st.1 31) v1) 14 ((twA st 12 (st.1 31) v1).1 31) (-1)) 31 (((twA (twA st 12 (st.1 31) v1) 14 ((twA st 12 (st.1 31) v1).1 31) (-1)).1 31) + 1)) hf
theorem m_X8_people_L45 (C : twC p s m args meth c cX8_people 5 RX8 wsX8_people (dC, dI) (twY cI cZ) A) (hE : twEi p l e rm_X8_people s m args below meth c 0 0 Q (dC, dI) A 5 cX8_people .int res.1 (twM cI cZ q res.2)) : ∀ (n : Nat) (v1 : Int32) (v2 : Int32) (v4 : Int32) (st : twS), f_X8_people_L45 n v1 v2 v4 st = some res → twG p l e rm_X8_people s m args below meth c 0 0 Q (dC, dI) A 5 (twM cI cZ q st) 45 [(0, .ref (q 0)), (1, .int v1), (2, .int v2), (4, .int v4)] [] := by
  intro n
  induction n with
  | zero =>
    intro v1 v2 v4 st hf
    have hf : none = some res := hf
    cases hf
  | succ n ih =>
    intro v1 v2 v4 st hf
    exact m_X8_people_L45b C hE ih v1 v2 v4 st hf
set_option maxRecDepth 20000 in
theorem m_X8_people_L34 (C : twC p s m args meth c cX8_people 5 RX8 wsX8_people (dC, dI) (twY cI cZ) A) (hE : twEi p l e rm_X8_people s m args below meth c 0 0 Q (dC, dI) A 5 cX8_people .int res.1 (twM cI cZ q res.2)) : ∀ (v1 : Int32) (v2 : Int32) (k0 : Int32) (k1 : Int32) (k2 : Int32) (st : twS), f_X8_people_L34 v1 v2 k0 k1 k2 st = some res → twG p l e rm_X8_people s m args below meth c 0 0 Q (dC, dI) A 5 (twM cI cZ q st) 34 [(0, .ref (q 0)), (1, .int v1), (2, .int v2)] [.int k0, .int k1, .int k2, .ref (q 0)] := by
  intro v1 v2 k0 k1 k2 st hf
  unfold f_X8_people_L34 at hf
  obtain ⟨y34001, hc34001, hf⟩ := tw_bd hf
  refine tw_cVi (As := [.int k2, .int k1, .int k0]) (stk := []) C (c_X8_goes l dC dI cI cZ q hc34001) (cwV 3 C.hts gX8_people_X8_goes rfl rfl rfl hd_X8_goes ⟨Nat.le_of_ble_eq_true rfl, Nat.le_of_ble_eq_true rfl⟩) 0 (ci := 8) rfl rfl rfl rfl rfl (Nat.le_of_ble_eq_true rfl) dX8_people_34 ⟨Nat.zero_le _, Nat.zero_le _⟩ ?_
  refine tw_if_ne (tgt := 42) C dX8_people_37 (by decide) (fun c34002 => ?_) (fun c34002 => ?_)
  · have hf := tw_neg hf c34002
    refine tw_iconst (v := 0) C dX8_people_42 (by decide) ?_
    refine tw_istore (lv' := [(4, .int 0), (0, .ref (q 0)), (1, .int v1), (2, .int v2)]) C dX8_people_43 (by decide) rfl ?_
    refine tw_sub [1, 2, 3, 0] rfl ?_
    exact m_X8_people_L45 C hE twN v1 v2 0 y34001.2 hf
  · have hf := tw_pos hf c34002
    refine tw_iconst (v := 0) C dX8_people_40 (by decide) ?_
    exact tw_endi (Wf := twM cI cZ q) hE hf dX8_people_41 rfl
set_option maxRecDepth 20000 in
theorem m_X8_people_L33 (C : twC p s m args meth c cX8_people 5 RX8 wsX8_people (dC, dI) (twY cI cZ) A) (hE : twEi p l e rm_X8_people s m args below meth c 0 0 Q (dC, dI) A 5 cX8_people .int res.1 (twM cI cZ q res.2)) : ∀ (v1 : Int32) (v2 : Int32) (k0 : Int32) (k1 : Int32) (st : twS), f_X8_people_L33 v1 v2 k0 k1 st = some res → twG p l e rm_X8_people s m args below meth c 0 0 Q (dC, dI) A 5 (twM cI cZ q st) 33 [(0, .ref (q 0)), (1, .int v1), (2, .int v2)] [.int k0, .int k1, .ref (q 0)] := by
  intro v1 v2 k0 k1 st hf
  unfold f_X8_people_L33 at hf
  refine tw_iconst (v := 0) C dX8_people_33 (by decide) ?_
  exact m_X8_people_L34 C hE v1 v2 0 k0 k1 st hf
set_option maxRecDepth 20000 in
theorem c_X8_people (l : Launch) (dC : Nat → ClassId) (dI : Nat → Nat → Nat) (cI cZ : ClassId) (q : Nat → Nat) {st : twS} {v1 : Int32} {v2 : Int32} {res : Int32 × twS} (hf : f_X8_people st v1 v2 = some res) : twMi l yX8_people wsX8_people rm_X8_people (dC, dI) (twY cI cZ) [.ref (q 0), .int v1, .int v2] (twM cI cZ q st) res.1 (twM cI cZ q res.2) := by
  refine tw_enti (cc := cX8_people) (maxL := 5) (own := RX8) (by decide) rfl (Nat.le_of_ble_eq_true rfl) rfl ⟨rfl, rfl⟩ ?_
  intro p e s m below meth c A Q C hE
  generalize ([.ref (q 0), .int v1, .int v2] : List Value).toArray = args at C hE ⊢
  refine tw_sub (lv' := [(0, .ref (q 0)), (1, .int v1), (2, .int v2)]) [0, 1, 2] rfl ?_
  unfold f_X8_people at hf
  refine tw_iload_n C dX8_people_0 2 rfl rfl ?_
  refine tw_iconst (v := 1) C dX8_people_1 (by decide) ?_
  refine tw_bipush (v := 30) C dX8_people_2 (by decide) ?_
  obtain ⟨y1, hc1, hf⟩ := tw_bd hf
  refine tw_cSi (As := [.int v2, .int 1, .int 30]) (stk := []) C (c_X8_isBetween l dC dI cI cZ q hc1) (va_cwS 3 C.hts gX8_people_X8_isBetween rfl rfl rfl hd_X8_isBetween ⟨Nat.le_of_ble_eq_true rfl, Nat.le_of_ble_eq_true rfl⟩) rfl rfl (Nat.le_of_ble_eq_true rfl) dX8_people_4 ⟨Nat.zero_le _, Nat.zero_le _⟩ ?_
  refine tw_istore_n (lv' := [(3, .int y1.1), (0, .ref (q 0)), (1, .int v1), (2, .int v2)]) C dX8_people_7 rfl (by decide) rfl ?_
  refine tw_aload_n C dX8_people_8 1 rfl rfl ?_
  refine tw_iload_n C dX8_people_9 2 rfl rfl ?_
  obtain ⟨y2, hc2, hf⟩ := tw_bd hf
  refine tw_cSi (As := [.int v1]) (stk := [.ref (q 0)]) C (c_X8_isSegment l dC dI cI cZ q hc2) (va_cwS 1 C.hts gX8_people_X8_isSegment rfl rfl rfl hd_X8_isSegment ⟨Nat.le_of_ble_eq_true rfl, Nat.le_of_ble_eq_true rfl⟩) rfl rfl (Nat.le_of_ble_eq_true rfl) dX8_people_10 ⟨Nat.zero_le _, Nat.zero_le _⟩ ?_
  refine tw_iload_n C dX8_people_13 0 rfl rfl ?_
  refine tw_iload_n C dX8_people_14 0 rfl rfl ?_
  refine tw_if_eq (tgt := 33) C dX8_people_15 (by decide) (fun c3 => ?_) (fun c3 => ?_)
  · have hf := tw_pos hf c3
    refine tw_sub [1, 2, 3] rfl ?_
    exact m_X8_people_L33 C hE v1 v2 y1.1 y2.1 y2.2 hf
  · have hf := tw_neg hf c3
    refine tw_aload_n C dX8_people_18 1 rfl rfl ?_
    refine tw_get (K := RX8) (T := TX8) (N := 37) (v := .int (y2.2.1 31)) C 0 31 (fun _ h => List.mem_cons_of_mem _ (List.mem_append_right _ (h))) rfl rfl (by decide) (List.mem_cons_of_mem _ (List.mem_append_left _ (List.mem_of_getElem? (i := 0) rfl))) rfl rfl dX8_people_19 ?_
    refine tw_iload_n C dX8_people_22 3 rfl rfl ?_
    refine tw_iadd C dX8_people_23 ?_
    refine tw_bipush (v := 30) C dX8_people_24 (by decide) ?_
    refine tw_icmp_gt (tgt := 33) C dX8_people_26 (by decide) (fun c4 => ?_) (fun c4 => ?_)
    · have hf := tw_pos hf c4
      refine tw_sub [1, 2, 3] rfl ?_
      exact m_X8_people_L33 C hE v1 v2 y1.1 y2.1 y2.2 hf
    · have hf := tw_neg hf c4
      refine tw_iconst (v := 1) C dX8_people_29 (by decide) ?_
      refine tw_goto (tgt := 34) C dX8_people_30 (by decide) ?_
      refine tw_sub [1, 2, 3] rfl ?_
      exact m_X8_people_L34 C hE v1 v2 1 y1.1 y2.1 y2.2 hf
end
/-! X8_wind: public int wind(int) -/
abbrev rm_X8_wind : Room := { frames := 1, cells := 0, slots := 0, locals := 23 }
def f_X8_wind (st : twS) (v1 : Int32) : Option (Int32 × twS) :=
  ((f_X8_isBetween st v1 (-40) 40).bind fun y1 => ((f_X8_goes y1.2 y1.1 1 1).bind fun y2 => (if y2.1 = 0 then
    some (0, y2.2)
  else
    some ((y2.2.1 15), (twI y2.2 15 v1)))))
section
variable {p : Program} {l : Launch} {e : Env} {s : State} {m : MethodId} {args : Array Value} {below : List Frame} {meth : Method} {c : Code} {Q : State → Prop} {dC : Nat → ClassId} {dI : Nat → Nat → Nat} {cI cZ : ClassId} {q : Nat → Nat} {A : Nat → Prop} {res : Int32 × twS}
set_option maxRecDepth 20000 in
theorem c_X8_wind (l : Launch) (dC : Nat → ClassId) (dI : Nat → Nat → Nat) (cI cZ : ClassId) (q : Nat → Nat) {st : twS} {v1 : Int32} {res : Int32 × twS} (hf : f_X8_wind st v1 = some res) : twMi l yX8_wind wsX8_wind rm_X8_wind (dC, dI) (twY cI cZ) [.ref (q 0), .int v1] (twM cI cZ q st) res.1 (twM cI cZ q res.2) := by
  refine tw_enti (cc := cX8_wind) (maxL := 3) (own := RX8) (by decide) rfl (Nat.le_of_ble_eq_true rfl) rfl ⟨rfl, rfl⟩ ?_
  intro p e s m below meth c A Q C hE
  generalize ([.ref (q 0), .int v1] : List Value).toArray = args at C hE ⊢
  refine tw_sub (lv' := [(0, .ref (q 0)), (1, .int v1)]) [0, 1] rfl ?_
  unfold f_X8_wind at hf
  refine tw_aload_n C dX8_wind_0 0 rfl rfl ?_
  refine tw_iload_n C dX8_wind_1 1 rfl rfl ?_
  refine tw_bipush (v := (-40)) C dX8_wind_2 (by decide) ?_
  refine tw_bipush (v := 40) C dX8_wind_4 (by decide) ?_
  obtain ⟨y1, hc1, hf⟩ := tw_bd hf
  refine tw_cSi (As := [.int v1, .int (-40), .int 40]) (stk := [.ref (q 0)]) C (c_X8_isBetween l dC dI cI cZ q hc1) (va_cwS 3 C.hts gX8_wind_X8_isBetween rfl rfl rfl hd_X8_isBetween ⟨Nat.le_of_ble_eq_true rfl, Nat.le_of_ble_eq_true rfl⟩) rfl rfl (Nat.le_of_ble_eq_true rfl) dX8_wind_6 ⟨Nat.zero_le _, Nat.zero_le _⟩ ?_
  refine tw_iconst (v := 1) C dX8_wind_9 (by decide) ?_
  refine tw_iconst (v := 1) C dX8_wind_10 (by decide) ?_
  obtain ⟨y2, hc2, hf⟩ := tw_bd hf
  refine tw_cVi (As := [.int y1.1, .int 1, .int 1]) (stk := []) C (c_X8_goes l dC dI cI cZ q hc2) (cwV 3 C.hts gX8_wind_X8_goes rfl rfl rfl hd_X8_goes ⟨Nat.le_of_ble_eq_true rfl, Nat.le_of_ble_eq_true rfl⟩) 0 (ci := 8) rfl rfl rfl rfl rfl (Nat.le_of_ble_eq_true rfl) dX8_wind_11 ⟨Nat.zero_le _, Nat.zero_le _⟩ ?_
  refine tw_if_ne (tgt := 19) C dX8_wind_14 (by decide) (fun c3 => ?_) (fun c3 => ?_)
  · have hf := tw_neg hf c3
    refine tw_aload_n C dX8_wind_19 0 rfl rfl ?_
    refine tw_get (K := RX8) (T := TX8) (N := 37) (v := .int (y2.2.1 15)) C 0 15 (fun _ h => List.mem_cons_of_mem _ (List.mem_append_right _ (h))) rfl rfl (by decide) (List.mem_cons_of_mem _ (List.mem_append_left _ (List.mem_of_getElem? (i := 0) rfl))) rfl rfl dX8_wind_20 ?_
    refine tw_istore_n (lv' := [(2, .int (y2.2.1 15)), (0, .ref (q 0)), (1, .int v1)]) C dX8_wind_23 rfl (by decide) rfl ?_
    refine tw_aload_n C dX8_wind_24 1 rfl rfl ?_
    refine tw_iload_n C dX8_wind_25 2 rfl rfl ?_
    refine tw_put (K := RX8) (T := TX8) (N := 37) C 0 15 tyX8 tyX8_ok nmX8 (fun _ h => List.mem_cons_of_mem _ (List.mem_append_right _ (h))) rfl rfl (by decide) (List.mem_cons_of_mem _ (List.mem_append_left _ (List.mem_of_getElem? (i := 0) rfl))) rfl rfl rfl rfl (Nat.le_of_ble_eq_true rfl) (tw_M_si15 cI cZ q y2.2 v1) dX8_wind_26 ?_
    refine tw_iload_n C dX8_wind_29 0 rfl rfl ?_
    exact tw_endi (Wf := twM cI cZ q) hE hf dX8_wind_30 rfl
  · have hf := tw_pos hf c3
    refine tw_iconst (v := 0) C dX8_wind_17 (by decide) ?_
    exact tw_endi (Wf := twM cI cZ q) hE hf dX8_wind_18 rfl
end
/-! X8_fire: public void fire(int, int) -/
abbrev rm_X8_fire : Room := { frames := 2, cells := 0, slots := 0, locals := 42 }
def f_X8_fire_L26 (v1 : Int32) (v2 : Int32) (k0 : Int32) (k1 : Int32) (k2 : Int32) (st : twS) : Option (twS) :=
  ((f_X8_goes st k2 k1 k0).bind fun y26001 => (if y26001.1 = 0 then
    some y26001.2
  else
    some (twI (twI y26001.2 18 v1) 19 v2)))
def f_X8_fire (st : twS) (v1 : Int32) (v2 : Int32) : Option (twS) :=
  ((f_X8_isSegment st v1).bind fun y1 => ((f_X8_isBetween y1.2 v2 1 200).bind fun y2 => (if (y2.2.1 18) = (-1) then
    f_X8_fire_L26 v1 v2 1 y2.1 y1.1 y2.2
  else
    f_X8_fire_L26 v1 v2 0 y2.1 y1.1 y2.2)))
section
variable {p : Program} {l : Launch} {e : Env} {s : State} {m : MethodId} {args : Array Value} {below : List Frame} {meth : Method} {c : Code} {Q : State → Prop} {dC : Nat → ClassId} {dI : Nat → Nat → Nat} {cI cZ : ClassId} {q : Nat → Nat} {A : Nat → Prop} {res : twS}
set_option maxRecDepth 20000 in
theorem m_X8_fire_L26 (C : twC p s m args meth c cX8_fire 3 RX8 wsX8_fire (dC, dI) (twY cI cZ) A) (hE : twEv p l e rm_X8_fire s m args below meth c 0 0 Q (dC, dI) A 3 cX8_fire (twM cI cZ q res)) : ∀ (v1 : Int32) (v2 : Int32) (k0 : Int32) (k1 : Int32) (k2 : Int32) (st : twS), f_X8_fire_L26 v1 v2 k0 k1 k2 st = some res → twG p l e rm_X8_fire s m args below meth c 0 0 Q (dC, dI) A 3 (twM cI cZ q st) 26 [(0, .ref (q 0)), (1, .int v1), (2, .int v2)] [.int k0, .int k1, .int k2, .ref (q 0)] := by
  intro v1 v2 k0 k1 k2 st hf
  unfold f_X8_fire_L26 at hf
  obtain ⟨y26001, hc26001, hf⟩ := tw_bd hf
  refine tw_cVi (As := [.int k2, .int k1, .int k0]) (stk := []) C (c_X8_goes l dC dI cI cZ q hc26001) (cwV 3 C.hts gX8_fire_X8_goes rfl rfl rfl hd_X8_goes ⟨Nat.le_of_ble_eq_true rfl, Nat.le_of_ble_eq_true rfl⟩) 0 (ci := 8) rfl rfl rfl rfl rfl (Nat.le_of_ble_eq_true rfl) dX8_fire_26 ⟨Nat.zero_le _, Nat.zero_le _⟩ ?_
  refine tw_if_ne (tgt := 33) C dX8_fire_29 (by decide) (fun c26002 => ?_) (fun c26002 => ?_)
  · have hf := tw_neg hf c26002
    refine tw_aload_n C dX8_fire_33 0 rfl rfl ?_
    refine tw_iload_n C dX8_fire_34 1 rfl rfl ?_
    refine tw_put (K := RX8) (T := TX8) (N := 37) C 0 18 tyX8 tyX8_ok nmX8 (fun _ h => List.mem_cons_of_mem _ (List.mem_append_right _ (h))) rfl rfl (by decide) (List.mem_cons_of_mem _ (List.mem_append_left _ (List.mem_of_getElem? (i := 0) rfl))) rfl rfl rfl rfl (Nat.le_of_ble_eq_true rfl) (tw_M_si18 cI cZ q y26001.2 v1) dX8_fire_35 ?_
    refine tw_aload_n C dX8_fire_38 0 rfl rfl ?_
    refine tw_iload_n C dX8_fire_39 2 rfl rfl ?_
    refine tw_put (K := RX8) (T := TX8) (N := 37) C 0 19 tyX8 tyX8_ok nmX8 (fun _ h => List.mem_cons_of_mem _ (List.mem_append_right _ (h))) rfl rfl (by decide) (List.mem_cons_of_mem _ (List.mem_append_left _ (List.mem_of_getElem? (i := 1) rfl))) rfl rfl rfl rfl (Nat.le_of_ble_eq_true rfl) (tw_M_si19 cI cZ q (twI y26001.2 18 v1) v2) dX8_fire_40 ?_
    exact tw_endv (Wf := twM cI cZ q) hE hf dX8_fire_43
  · have hf := tw_pos hf c26002
    exact tw_endv (Wf := twM cI cZ q) hE hf dX8_fire_32
set_option maxRecDepth 20000 in
theorem c_X8_fire (l : Launch) (dC : Nat → ClassId) (dI : Nat → Nat → Nat) (cI cZ : ClassId) (q : Nat → Nat) {st : twS} {v1 : Int32} {v2 : Int32} {res : twS} (hf : f_X8_fire st v1 v2 = some res) : twMv l yX8_fire wsX8_fire rm_X8_fire (dC, dI) (twY cI cZ) [.ref (q 0), .int v1, .int v2] (twM cI cZ q st) (twM cI cZ q res) := by
  refine tw_entv (cc := cX8_fire) (maxL := 3) (own := RX8) (by decide) rfl (Nat.le_of_ble_eq_true rfl) rfl ⟨rfl, rfl⟩ ?_
  intro p e s m below meth c A Q C hE
  generalize ([.ref (q 0), .int v1, .int v2] : List Value).toArray = args at C hE ⊢
  refine tw_sub (lv' := [(0, .ref (q 0)), (1, .int v1), (2, .int v2)]) [0, 1, 2] rfl ?_
  unfold f_X8_fire at hf
  refine tw_aload_n C dX8_fire_0 0 rfl rfl ?_
  refine tw_iload_n C dX8_fire_1 1 rfl rfl ?_
  obtain ⟨y1, hc1, hf⟩ := tw_bd hf
  refine tw_cSi (As := [.int v1]) (stk := [.ref (q 0)]) C (c_X8_isSegment l dC dI cI cZ q hc1) (va_cwS 1 C.hts gX8_fire_X8_isSegment rfl rfl rfl hd_X8_isSegment ⟨Nat.le_of_ble_eq_true rfl, Nat.le_of_ble_eq_true rfl⟩) rfl rfl (Nat.le_of_ble_eq_true rfl) dX8_fire_2 ⟨Nat.zero_le _, Nat.zero_le _⟩ ?_
  refine tw_iload_n C dX8_fire_5 2 rfl rfl ?_
  refine tw_iconst (v := 1) C dX8_fire_6 (by decide) ?_
  refine tw_sipush (v := 200) C dX8_fire_7 (by decide) ?_
  obtain ⟨y2, hc2, hf⟩ := tw_bd hf
  refine tw_cSi (As := [.int v2, .int 1, .int 200]) (stk := [.int y1.1, .ref (q 0)]) C (c_X8_isBetween l dC dI cI cZ q hc2) (va_cwS 3 C.hts gX8_fire_X8_isBetween rfl rfl rfl hd_X8_isBetween ⟨Nat.le_of_ble_eq_true rfl, Nat.le_of_ble_eq_true rfl⟩) rfl rfl (Nat.le_of_ble_eq_true rfl) dX8_fire_10 ⟨Nat.zero_le _, Nat.zero_le _⟩ ?_
  refine tw_aload_n C dX8_fire_13 0 rfl rfl ?_
  refine tw_get (K := RX8) (T := TX8) (N := 37) (v := .int (y2.2.1 18)) C 0 18 (fun _ h => List.mem_cons_of_mem _ (List.mem_append_right _ (h))) rfl rfl (by decide) (List.mem_cons_of_mem _ (List.mem_append_left _ (List.mem_of_getElem? (i := 0) rfl))) rfl rfl dX8_fire_14 ?_
  refine tw_iconst (v := (-1)) C dX8_fire_17 (by decide) ?_
  refine tw_icmp_ne (tgt := 25) C dX8_fire_18 (by decide) (fun c3 => ?_) (fun c3 => ?_)
  · have hf := tw_neg hf c3
    refine tw_iconst (v := 0) C dX8_fire_25 (by decide) ?_
    exact m_X8_fire_L26 C hE v1 v2 0 y2.1 y1.1 y2.2 hf
  · have hf := tw_pos hf c3
    refine tw_iconst (v := 1) C dX8_fire_21 (by decide) ?_
    refine tw_goto (tgt := 26) C dX8_fire_22 (by decide) ?_
    exact m_X8_fire_L26 C hE v1 v2 1 y2.1 y1.1 y2.2 hf
end
/-! X8_feed: public boolean feed(int, boolean) -/
abbrev rm_X8_feed : Room := { frames := 1, cells := 0, slots := 0, locals := 23 }
def f_X8_feed_L31 (k0 : Int32) (k1 : Int32) (st : twS) : Option (Int32 × twS) :=
  (if twb k1 2 = true then ((f_X8_hasPower (twA st 6 k1 (vp_nar .boolean k0))).bind fun y31002 => (if twz y31002.1 = true then some (y31002.1, y31002.2) else none)) else none)
def f_X8_feed (st : twS) (v1 : Int32) (v2 : Int32) : Option (Int32 × twS) :=
  ((f_X8_isBetween st v1 0 1).bind fun y1 => ((f_X8_goes y1.2 y1.1 1 1).bind fun y2 => (if y2.1 = 0 then
    some (0, y2.2)
  else
    (if v2 = 0 then
    f_X8_feed_L31 1 v1 y2.2
  else
    f_X8_feed_L31 0 v1 y2.2))))
section
variable {p : Program} {l : Launch} {e : Env} {s : State} {m : MethodId} {args : Array Value} {below : List Frame} {meth : Method} {c : Code} {Q : State → Prop} {dC : Nat → ClassId} {dI : Nat → Nat → Nat} {cI cZ : ClassId} {q : Nat → Nat} {A : Nat → Prop} {res : Int32 × twS}
set_option maxRecDepth 20000 in
theorem m_X8_feed_L31 (C : twC p s m args meth c cX8_feed 3 RX8 wsX8_feed (dC, dI) (twY cI cZ) A) (hE : twEi p l e rm_X8_feed s m args below meth c 0 0 Q (dC, dI) A 3 cX8_feed .boolean res.1 (twM cI cZ q res.2)) : ∀ (k0 : Int32) (k1 : Int32) (st : twS), f_X8_feed_L31 k0 k1 st = some res → twG p l e rm_X8_feed s m args below meth c 0 0 Q (dC, dI) A 3 (twM cI cZ q st) 31 [(0, .ref (q 0))] [.int k0, .int k1, .ref (q 6)] := by
  intro k0 k1 st hf
  unfold f_X8_feed_L31 at hf
  obtain ⟨hb31001, hf⟩ := tw_ck hf
  refine tw_zast C 6 1 hb31001 rfl rfl (tw_M_a6 cI cZ q st k1 (vp_nar .boolean k0)) dX8_feed_31 ?_
  refine tw_aload_n C dX8_feed_32 0 rfl rfl ?_
  obtain ⟨y31002, hc31002, hf⟩ := tw_bd hf
  refine tw_cVi (As := []) (stk := []) C (c_X8_hasPower l dC dI cI cZ q hc31002) (cwV 0 C.hts gX8_feed_X8_hasPower rfl rfl rfl hd_X8_hasPower ⟨Nat.le_of_ble_eq_true rfl, Nat.le_of_ble_eq_true rfl⟩) 0 (ci := 8) rfl rfl rfl rfl rfl (Nat.le_of_ble_eq_true rfl) dX8_feed_33 ⟨Nat.zero_le _, Nat.zero_le _⟩ ?_
  obtain ⟨hz31003, hf⟩ := tw_ck hf
  exact tw_endi (Wf := twM cI cZ q) hE hf dX8_feed_36 (tw_zz hz31003)
set_option maxRecDepth 20000 in
theorem c_X8_feed (l : Launch) (dC : Nat → ClassId) (dI : Nat → Nat → Nat) (cI cZ : ClassId) (q : Nat → Nat) {st : twS} {v1 : Int32} {v2 : Int32} {res : Int32 × twS} (hf : f_X8_feed st v1 v2 = some res) : twMi l yX8_feed wsX8_feed rm_X8_feed (dC, dI) (twY cI cZ) [.ref (q 0), .int v1, .int v2] (twM cI cZ q st) res.1 (twM cI cZ q res.2) := by
  refine tw_enti (cc := cX8_feed) (maxL := 3) (own := RX8) (by decide) rfl (Nat.le_of_ble_eq_true rfl) rfl ⟨rfl, rfl⟩ ?_
  intro p e s m below meth c A Q C hE
  generalize ([.ref (q 0), .int v1, .int v2] : List Value).toArray = args at C hE ⊢
  refine tw_sub (lv' := [(0, .ref (q 0)), (1, .int v1), (2, .int v2)]) [0, 1, 2] rfl ?_
  unfold f_X8_feed at hf
  refine tw_aload_n C dX8_feed_0 0 rfl rfl ?_
  refine tw_iload_n C dX8_feed_1 1 rfl rfl ?_
  refine tw_iconst (v := 0) C dX8_feed_2 (by decide) ?_
  refine tw_iconst (v := 1) C dX8_feed_3 (by decide) ?_
  obtain ⟨y1, hc1, hf⟩ := tw_bd hf
  refine tw_cSi (As := [.int v1, .int 0, .int 1]) (stk := [.ref (q 0)]) C (c_X8_isBetween l dC dI cI cZ q hc1) (va_cwS 3 C.hts gX8_feed_X8_isBetween rfl rfl rfl hd_X8_isBetween ⟨Nat.le_of_ble_eq_true rfl, Nat.le_of_ble_eq_true rfl⟩) rfl rfl (Nat.le_of_ble_eq_true rfl) dX8_feed_4 ⟨Nat.zero_le _, Nat.zero_le _⟩ ?_
  refine tw_iconst (v := 1) C dX8_feed_7 (by decide) ?_
  refine tw_iconst (v := 1) C dX8_feed_8 (by decide) ?_
  obtain ⟨y2, hc2, hf⟩ := tw_bd hf
  refine tw_cVi (As := [.int y1.1, .int 1, .int 1]) (stk := []) C (c_X8_goes l dC dI cI cZ q hc2) (cwV 3 C.hts gX8_feed_X8_goes rfl rfl rfl hd_X8_goes ⟨Nat.le_of_ble_eq_true rfl, Nat.le_of_ble_eq_true rfl⟩) 0 (ci := 8) rfl rfl rfl rfl rfl (Nat.le_of_ble_eq_true rfl) dX8_feed_9 ⟨Nat.zero_le _, Nat.zero_le _⟩ ?_
  refine tw_if_ne (tgt := 17) C dX8_feed_12 (by decide) (fun c3 => ?_) (fun c3 => ?_)
  · have hf := tw_neg hf c3
    refine tw_aload_n C dX8_feed_17 0 rfl rfl ?_
    refine tw_get (K := RX8) (T := TX8) (N := 37) (v := .ref (q 6)) C 0 17 (fun _ h => List.mem_cons_of_mem _ (List.mem_append_right _ (h))) rfl rfl (by decide) (List.mem_cons_of_mem _ (List.mem_append_left _ (List.mem_of_getElem? (i := 0) rfl))) rfl rfl dX8_feed_18 ?_
    refine tw_iload_n C dX8_feed_21 1 rfl rfl ?_
    refine tw_iload_n C dX8_feed_22 2 rfl rfl ?_
    refine tw_if_ne (tgt := 30) C dX8_feed_23 (by decide) (fun c4 => ?_) (fun c4 => ?_)
    · have hf := tw_neg hf c4
      refine tw_iconst (v := 0) C dX8_feed_30 (by decide) ?_
      refine tw_sub [0] rfl ?_
      exact m_X8_feed_L31 C hE 0 v1 y2.2 hf
    · have hf := tw_pos hf c4
      refine tw_iconst (v := 1) C dX8_feed_26 (by decide) ?_
      refine tw_goto (tgt := 31) C dX8_feed_27 (by decide) ?_
      refine tw_sub [0] rfl ?_
      exact m_X8_feed_L31 C hE 1 v1 y2.2 hf
  · have hf := tw_pos hf c3
    refine tw_iconst (v := 0) C dX8_feed_15 (by decide) ?_
    exact tw_endi (Wf := twM cI cZ q) hE hf dX8_feed_16 rfl
end
/-! X8_failFan: public int failFan(int, boolean) -/
abbrev rm_X8_failFan : Room := { frames := 2, cells := 0, slots := 0, locals := 42 }
def f_X8_failFan (st : twS) (v1 : Int32) (v2 : Int32) : Option (Int32 × twS) :=
  ((f_X8_isFan st v1).bind fun y1 => ((f_X8_goes y1.2 y1.1 1 1).bind fun y2 => (if y2.1 = 0 then
    some (0, y2.2)
  else
    (if twb v1 3 = true then (if twb v1 3 = true then some (((twA y2.2 5 v1 (vp_nar .boolean v2)).2.1 4 v1.toNatClampNeg), (twA y2.2 5 v1 (vp_nar .boolean v2))) else none) else none))))
section
variable {p : Program} {l : Launch} {e : Env} {s : State} {m : MethodId} {args : Array Value} {below : List Frame} {meth : Method} {c : Code} {Q : State → Prop} {dC : Nat → ClassId} {dI : Nat → Nat → Nat} {cI cZ : ClassId} {q : Nat → Nat} {A : Nat → Prop} {res : Int32 × twS}
set_option maxRecDepth 20000 in
theorem c_X8_failFan (l : Launch) (dC : Nat → ClassId) (dI : Nat → Nat → Nat) (cI cZ : ClassId) (q : Nat → Nat) {st : twS} {v1 : Int32} {v2 : Int32} {res : Int32 × twS} (hf : f_X8_failFan st v1 v2 = some res) : twMi l yX8_failFan wsX8_failFan rm_X8_failFan (dC, dI) (twY cI cZ) [.ref (q 0), .int v1, .int v2] (twM cI cZ q st) res.1 (twM cI cZ q res.2) := by
  refine tw_enti (cc := cX8_failFan) (maxL := 3) (own := RX8) (by decide) rfl (Nat.le_of_ble_eq_true rfl) rfl ⟨rfl, rfl⟩ ?_
  intro p e s m below meth c A Q C hE
  generalize ([.ref (q 0), .int v1, .int v2] : List Value).toArray = args at C hE ⊢
  refine tw_sub (lv' := [(0, .ref (q 0)), (1, .int v1), (2, .int v2)]) [0, 1, 2] rfl ?_
  unfold f_X8_failFan at hf
  refine tw_aload_n C dX8_failFan_0 0 rfl rfl ?_
  refine tw_iload_n C dX8_failFan_1 1 rfl rfl ?_
  obtain ⟨y1, hc1, hf⟩ := tw_bd hf
  refine tw_cSi (As := [.int v1]) (stk := [.ref (q 0)]) C (c_X8_isFan l dC dI cI cZ q hc1) (va_cwS 1 C.hts gX8_failFan_X8_isFan rfl rfl rfl hd_X8_isFan ⟨Nat.le_of_ble_eq_true rfl, Nat.le_of_ble_eq_true rfl⟩) rfl rfl (Nat.le_of_ble_eq_true rfl) dX8_failFan_2 ⟨Nat.zero_le _, Nat.zero_le _⟩ ?_
  refine tw_iconst (v := 1) C dX8_failFan_5 (by decide) ?_
  refine tw_iconst (v := 1) C dX8_failFan_6 (by decide) ?_
  obtain ⟨y2, hc2, hf⟩ := tw_bd hf
  refine tw_cVi (As := [.int y1.1, .int 1, .int 1]) (stk := []) C (c_X8_goes l dC dI cI cZ q hc2) (cwV 3 C.hts gX8_failFan_X8_goes rfl rfl rfl hd_X8_goes ⟨Nat.le_of_ble_eq_true rfl, Nat.le_of_ble_eq_true rfl⟩) 0 (ci := 8) rfl rfl rfl rfl rfl (Nat.le_of_ble_eq_true rfl) dX8_failFan_7 ⟨Nat.zero_le _, Nat.zero_le _⟩ ?_
  refine tw_if_ne (tgt := 15) C dX8_failFan_10 (by decide) (fun c3 => ?_) (fun c3 => ?_)
  · have hf := tw_neg hf c3
    refine tw_aload_n C dX8_failFan_15 0 rfl rfl ?_
    refine tw_get (K := RX8) (T := TX8) (N := 37) (v := .ref (q 5)) C 0 5 (fun _ h => List.mem_cons_of_mem _ (List.mem_append_right _ (h))) rfl rfl (by decide) (List.mem_cons_of_mem _ (List.mem_append_left _ (List.mem_of_getElem? (i := 0) rfl))) rfl rfl dX8_failFan_16 ?_
    refine tw_iload_n C dX8_failFan_19 1 rfl rfl ?_
    refine tw_iload_n C dX8_failFan_20 2 rfl rfl ?_
    obtain ⟨hb4, hf⟩ := tw_ck hf
    refine tw_zast C 5 1 hb4 rfl rfl (tw_M_a5 cI cZ q y2.2 v1 (vp_nar .boolean v2)) dX8_failFan_21 ?_
    refine tw_aload_n C dX8_failFan_22 0 rfl rfl ?_
    refine tw_get (K := RX8) (T := TX8) (N := 37) (v := .ref (q 4)) C 0 4 (fun _ h => List.mem_cons_of_mem _ (List.mem_append_right _ (h))) rfl rfl (by decide) (List.mem_cons_of_mem _ (List.mem_append_left _ (List.mem_of_getElem? (i := 1) rfl))) rfl rfl dX8_failFan_23 ?_
    refine tw_iload_n C dX8_failFan_26 1 rfl rfl ?_
    obtain ⟨hb5, hf⟩ := tw_ck hf
    refine tw_iald C 4 0 hb5 rfl rfl dX8_failFan_27 ?_
    exact tw_endi (Wf := twM cI cZ q) hE hf dX8_failFan_28 rfl
  · have hf := tw_pos hf c3
    refine tw_iconst (v := 0) C dX8_failFan_13 (by decide) ?_
    exact tw_endi (Wf := twM cI cZ q) hE hf dX8_failFan_14 rfl
end
/-! X8_failDoor: public boolean failDoor(int, boolean) -/
abbrev rm_X8_failDoor : Room := { frames := 2, cells := 0, slots := 0, locals := 42 }
def f_X8_failDoor_L60 (v1 : Int32) (k0 : Int32) (st : twS) : Option (Int32 × twS) :=
  ((f_X8_isIn (twI st 8 k0) v1 ((twI st 8 k0).1 7)).bind fun y60001 => (if twz y60001.1 = true then some (y60001.1, y60001.2) else none))
def f_X8_failDoor_L24 (v1 : Int32) (v2 : Int32) (k0 : Int32) (st : twS) : Option (Int32 × twS) :=
  ((f_X8_goes st k0 1 1).bind fun y24001 => (if y24001.1 = 0 then
    some (0, y24001.2)
  else
    (if v2 = 0 then
    f_X8_failDoor_L60 v1 ((y24001.2.1 8) &&& ((1 <<< (v1 &&& 31)) ^^^ (-1))) y24001.2
  else
    f_X8_failDoor_L60 v1 ((y24001.2.1 8) ||| (1 <<< (v1 &&& 31))) y24001.2)))
def f_X8_failDoor_L23 (v1 : Int32) (v2 : Int32) (st : twS) : Option (Int32 × twS) :=
  f_X8_failDoor_L24 v1 v2 0 st
def f_X8_failDoor (st : twS) (v1 : Int32) (v2 : Int32) : Option (Int32 × twS) :=
  ((f_X8_isSegment st v1).bind fun y1 => (if y1.1 = 0 then
    f_X8_failDoor_L23 v1 v2 y1.2
  else
    ((f_X8_isIn y1.2 v1 (y1.2.1 6)).bind fun y3 => (if y3.1 = 0 then
    f_X8_failDoor_L23 v1 v2 y3.2
  else
    f_X8_failDoor_L24 v1 v2 1 y3.2))))
section
variable {p : Program} {l : Launch} {e : Env} {s : State} {m : MethodId} {args : Array Value} {below : List Frame} {meth : Method} {c : Code} {Q : State → Prop} {dC : Nat → ClassId} {dI : Nat → Nat → Nat} {cI cZ : ClassId} {q : Nat → Nat} {A : Nat → Prop} {res : Int32 × twS}
set_option maxRecDepth 20000 in
theorem m_X8_failDoor_L60 (C : twC p s m args meth c cX8_failDoor 3 RX8 wsX8_failDoor (dC, dI) (twY cI cZ) A) (hE : twEi p l e rm_X8_failDoor s m args below meth c 0 0 Q (dC, dI) A 3 cX8_failDoor .boolean res.1 (twM cI cZ q res.2)) : ∀ (v1 : Int32) (k0 : Int32) (st : twS), f_X8_failDoor_L60 v1 k0 st = some res → twG p l e rm_X8_failDoor s m args below meth c 0 0 Q (dC, dI) A 3 (twM cI cZ q st) 60 [(0, .ref (q 0)), (1, .int v1)] [.int k0, .ref (q 0)] := by
  intro v1 k0 st hf
  unfold f_X8_failDoor_L60 at hf
  refine tw_put (K := RX8) (T := TX8) (N := 37) C 0 8 tyX8 tyX8_ok nmX8 (fun _ h => List.mem_cons_of_mem _ (List.mem_append_right _ (h))) rfl rfl (by decide) (List.mem_cons_of_mem _ (List.mem_append_left _ (List.mem_of_getElem? (i := 1) rfl))) rfl rfl rfl rfl (Nat.le_of_ble_eq_true rfl) (tw_M_si8 cI cZ q st k0) dX8_failDoor_60 ?_
  refine tw_iload_n C dX8_failDoor_63 1 rfl rfl ?_
  refine tw_aload_n C dX8_failDoor_64 0 rfl rfl ?_
  refine tw_get (K := RX8) (T := TX8) (N := 37) (v := .int ((twI st 8 k0).1 7)) C 0 7 (fun _ h => List.mem_cons_of_mem _ (List.mem_append_right _ (h))) rfl rfl (by decide) (List.mem_cons_of_mem _ (List.mem_append_left _ (List.mem_of_getElem? (i := 2) rfl))) rfl rfl dX8_failDoor_65 ?_
  obtain ⟨y60001, hc60001, hf⟩ := tw_bd hf
  refine tw_cSi (As := [.int v1, .int ((twI st 8 k0).1 7)]) (stk := []) C (c_X8_isIn l dC dI cI cZ q hc60001) (va_cwS 2 C.hts gX8_failDoor_X8_isIn rfl rfl rfl hd_X8_isIn ⟨Nat.le_of_ble_eq_true rfl, Nat.le_of_ble_eq_true rfl⟩) rfl rfl (Nat.le_of_ble_eq_true rfl) dX8_failDoor_68 ⟨Nat.zero_le _, Nat.zero_le _⟩ ?_
  obtain ⟨hz60002, hf⟩ := tw_ck hf
  exact tw_endi (Wf := twM cI cZ q) hE hf dX8_failDoor_71 (tw_zz hz60002)
set_option maxRecDepth 20000 in
theorem m_X8_failDoor_L24 (C : twC p s m args meth c cX8_failDoor 3 RX8 wsX8_failDoor (dC, dI) (twY cI cZ) A) (hE : twEi p l e rm_X8_failDoor s m args below meth c 0 0 Q (dC, dI) A 3 cX8_failDoor .boolean res.1 (twM cI cZ q res.2)) : ∀ (v1 : Int32) (v2 : Int32) (k0 : Int32) (st : twS), f_X8_failDoor_L24 v1 v2 k0 st = some res → twG p l e rm_X8_failDoor s m args below meth c 0 0 Q (dC, dI) A 3 (twM cI cZ q st) 24 [(0, .ref (q 0)), (1, .int v1), (2, .int v2)] [.int k0, .ref (q 0)] := by
  intro v1 v2 k0 st hf
  unfold f_X8_failDoor_L24 at hf
  refine tw_iconst (v := 1) C dX8_failDoor_24 (by decide) ?_
  refine tw_iconst (v := 1) C dX8_failDoor_25 (by decide) ?_
  obtain ⟨y24001, hc24001, hf⟩ := tw_bd hf
  refine tw_cVi (As := [.int k0, .int 1, .int 1]) (stk := []) C (c_X8_goes l dC dI cI cZ q hc24001) (cwV 3 C.hts gX8_failDoor_X8_goes rfl rfl rfl hd_X8_goes ⟨Nat.le_of_ble_eq_true rfl, Nat.le_of_ble_eq_true rfl⟩) 0 (ci := 8) rfl rfl rfl rfl rfl (Nat.le_of_ble_eq_true rfl) dX8_failDoor_26 ⟨Nat.zero_le _, Nat.zero_le _⟩ ?_
  refine tw_if_ne (tgt := 34) C dX8_failDoor_29 (by decide) (fun c24002 => ?_) (fun c24002 => ?_)
  · have hf := tw_neg hf c24002
    refine tw_aload_n C dX8_failDoor_34 0 rfl rfl ?_
    refine tw_iload_n C dX8_failDoor_35 2 rfl rfl ?_
    refine tw_if_eq (tgt := 50) C dX8_failDoor_36 (by decide) (fun c24003 => ?_) (fun c24003 => ?_)
    · have hf := tw_pos hf c24003
      refine tw_aload_n C dX8_failDoor_50 0 rfl rfl ?_
      refine tw_get (K := RX8) (T := TX8) (N := 37) (v := .int (y24001.2.1 8)) C 0 8 (fun _ h => List.mem_cons_of_mem _ (List.mem_append_right _ (h))) rfl rfl (by decide) (List.mem_cons_of_mem _ (List.mem_append_left _ (List.mem_of_getElem? (i := 1) rfl))) rfl rfl dX8_failDoor_51 ?_
      refine tw_iconst (v := 1) C dX8_failDoor_54 (by decide) ?_
      refine tw_iload_n C dX8_failDoor_55 1 rfl rfl ?_
      refine tw_ishl C dX8_failDoor_56 ?_
      refine tw_iconst (v := (-1)) C dX8_failDoor_57 (by decide) ?_
      refine tw_ixor C dX8_failDoor_58 ?_
      refine tw_iand C dX8_failDoor_59 ?_
      refine tw_sub [0, 1] rfl ?_
      exact m_X8_failDoor_L60 C hE v1 ((y24001.2.1 8) &&& ((1 <<< (v1 &&& 31)) ^^^ (-1))) y24001.2 hf
    · have hf := tw_neg hf c24003
      refine tw_aload_n C dX8_failDoor_39 0 rfl rfl ?_
      refine tw_get (K := RX8) (T := TX8) (N := 37) (v := .int (y24001.2.1 8)) C 0 8 (fun _ h => List.mem_cons_of_mem _ (List.mem_append_right _ (h))) rfl rfl (by decide) (List.mem_cons_of_mem _ (List.mem_append_left _ (List.mem_of_getElem? (i := 1) rfl))) rfl rfl dX8_failDoor_40 ?_
      refine tw_iconst (v := 1) C dX8_failDoor_43 (by decide) ?_
      refine tw_iload_n C dX8_failDoor_44 1 rfl rfl ?_
      refine tw_ishl C dX8_failDoor_45 ?_
      refine tw_ior C dX8_failDoor_46 ?_
      refine tw_goto (tgt := 60) C dX8_failDoor_47 (by decide) ?_
      refine tw_sub [0, 1] rfl ?_
      exact m_X8_failDoor_L60 C hE v1 ((y24001.2.1 8) ||| (1 <<< (v1 &&& 31))) y24001.2 hf
  · have hf := tw_pos hf c24002
    refine tw_iconst (v := 0) C dX8_failDoor_32 (by decide) ?_
    exact tw_endi (Wf := twM cI cZ q) hE hf dX8_failDoor_33 rfl
set_option maxRecDepth 20000 in
theorem m_X8_failDoor_L23 (C : twC p s m args meth c cX8_failDoor 3 RX8 wsX8_failDoor (dC, dI) (twY cI cZ) A) (hE : twEi p l e rm_X8_failDoor s m args below meth c 0 0 Q (dC, dI) A 3 cX8_failDoor .boolean res.1 (twM cI cZ q res.2)) : ∀ (v1 : Int32) (v2 : Int32) (st : twS), f_X8_failDoor_L23 v1 v2 st = some res → twG p l e rm_X8_failDoor s m args below meth c 0 0 Q (dC, dI) A 3 (twM cI cZ q st) 23 [(0, .ref (q 0)), (1, .int v1), (2, .int v2)] [.ref (q 0)] := by
  intro v1 v2 st hf
  unfold f_X8_failDoor_L23 at hf
  refine tw_iconst (v := 0) C dX8_failDoor_23 (by decide) ?_
  exact m_X8_failDoor_L24 C hE v1 v2 0 st hf
set_option maxRecDepth 20000 in
theorem c_X8_failDoor (l : Launch) (dC : Nat → ClassId) (dI : Nat → Nat → Nat) (cI cZ : ClassId) (q : Nat → Nat) {st : twS} {v1 : Int32} {v2 : Int32} {res : Int32 × twS} (hf : f_X8_failDoor st v1 v2 = some res) : twMi l yX8_failDoor wsX8_failDoor rm_X8_failDoor (dC, dI) (twY cI cZ) [.ref (q 0), .int v1, .int v2] (twM cI cZ q st) res.1 (twM cI cZ q res.2) := by
  refine tw_enti (cc := cX8_failDoor) (maxL := 3) (own := RX8) (by decide) rfl (Nat.le_of_ble_eq_true rfl) rfl ⟨rfl, rfl⟩ ?_
  intro p e s m below meth c A Q C hE
  generalize ([.ref (q 0), .int v1, .int v2] : List Value).toArray = args at C hE ⊢
  refine tw_sub (lv' := [(0, .ref (q 0)), (1, .int v1), (2, .int v2)]) [0, 1, 2] rfl ?_
  unfold f_X8_failDoor at hf
  refine tw_aload_n C dX8_failDoor_0 0 rfl rfl ?_
  refine tw_iload_n C dX8_failDoor_1 1 rfl rfl ?_
  obtain ⟨y1, hc1, hf⟩ := tw_bd hf
  refine tw_cSi (As := [.int v1]) (stk := [.ref (q 0)]) C (c_X8_isSegment l dC dI cI cZ q hc1) (va_cwS 1 C.hts gX8_failDoor_X8_isSegment rfl rfl rfl hd_X8_isSegment ⟨Nat.le_of_ble_eq_true rfl, Nat.le_of_ble_eq_true rfl⟩) rfl rfl (Nat.le_of_ble_eq_true rfl) dX8_failDoor_2 ⟨Nat.zero_le _, Nat.zero_le _⟩ ?_
  refine tw_if_eq (tgt := 23) C dX8_failDoor_5 (by decide) (fun c2 => ?_) (fun c2 => ?_)
  · have hf := tw_pos hf c2
    exact m_X8_failDoor_L23 C hE v1 v2 y1.2 hf
  · have hf := tw_neg hf c2
    refine tw_iload_n C dX8_failDoor_8 1 rfl rfl ?_
    refine tw_aload_n C dX8_failDoor_9 0 rfl rfl ?_
    refine tw_get (K := RX8) (T := TX8) (N := 37) (v := .int (y1.2.1 6)) C 0 6 (fun _ h => List.mem_cons_of_mem _ (List.mem_append_right _ (h))) rfl rfl (by decide) (List.mem_cons_of_mem _ (List.mem_append_left _ (List.mem_of_getElem? (i := 0) rfl))) rfl rfl dX8_failDoor_10 ?_
    obtain ⟨y3, hc3, hf⟩ := tw_bd hf
    refine tw_cSi (As := [.int v1, .int (y1.2.1 6)]) (stk := [.ref (q 0)]) C (c_X8_isIn l dC dI cI cZ q hc3) (va_cwS 2 C.hts gX8_failDoor_X8_isIn rfl rfl rfl hd_X8_isIn ⟨Nat.le_of_ble_eq_true rfl, Nat.le_of_ble_eq_true rfl⟩) rfl rfl (Nat.le_of_ble_eq_true rfl) dX8_failDoor_13 ⟨Nat.zero_le _, Nat.zero_le _⟩ ?_
    refine tw_if_eq (tgt := 23) C dX8_failDoor_16 (by decide) (fun c4 => ?_) (fun c4 => ?_)
    · have hf := tw_pos hf c4
      exact m_X8_failDoor_L23 C hE v1 v2 y3.2 hf
    · have hf := tw_neg hf c4
      refine tw_iconst (v := 1) C dX8_failDoor_19 (by decide) ?_
      refine tw_goto (tgt := 24) C dX8_failDoor_20 (by decide) ?_
      exact m_X8_failDoor_L24 C hE v1 v2 1 y3.2 hf
end
/-! X8_failDetector: public void failDetector(int, int, boolean) -/
abbrev rm_X8_failDetector : Room := { frames := 2, cells := 0, slots := 0, locals := 42 }
def f_X8_failDetector_L22 (v1 : Int32) (v2 : Int32) (v3 : Int32) (k0 : Int32) (st : twS) : Option (twS) :=
  ((f_X8_goes st k0 1 1).bind fun y22001 => (if y22001.1 = 0 then
    some y22001.2
  else
    (if twb ((3 * v1) + v2) 36 = true then some (twA y22001.2 7 ((3 * v1) + v2) (vp_nar .boolean v3)) else none)))
def f_X8_failDetector_L21 (v1 : Int32) (v2 : Int32) (v3 : Int32) (st : twS) : Option (twS) :=
  f_X8_failDetector_L22 v1 v2 v3 0 st
def f_X8_failDetector (st : twS) (v1 : Int32) (v2 : Int32) (v3 : Int32) : Option (twS) :=
  ((f_X8_isSegment st v1).bind fun y1 => (if y1.1 = 0 then
    f_X8_failDetector_L21 v1 v2 v3 y1.2
  else
    ((f_X8_isBetween y1.2 v2 0 2).bind fun y3 => (if y3.1 = 0 then
    f_X8_failDetector_L21 v1 v2 v3 y3.2
  else
    f_X8_failDetector_L22 v1 v2 v3 1 y3.2))))
section
variable {p : Program} {l : Launch} {e : Env} {s : State} {m : MethodId} {args : Array Value} {below : List Frame} {meth : Method} {c : Code} {Q : State → Prop} {dC : Nat → ClassId} {dI : Nat → Nat → Nat} {cI cZ : ClassId} {q : Nat → Nat} {A : Nat → Prop} {res : twS}
set_option maxRecDepth 20000 in
theorem m_X8_failDetector_L22 (C : twC p s m args meth c cX8_failDetector 4 RX8 wsX8_failDetector (dC, dI) (twY cI cZ) A) (hE : twEv p l e rm_X8_failDetector s m args below meth c 0 0 Q (dC, dI) A 4 cX8_failDetector (twM cI cZ q res)) : ∀ (v1 : Int32) (v2 : Int32) (v3 : Int32) (k0 : Int32) (st : twS), f_X8_failDetector_L22 v1 v2 v3 k0 st = some res → twG p l e rm_X8_failDetector s m args below meth c 0 0 Q (dC, dI) A 4 (twM cI cZ q st) 22 [(0, .ref (q 0)), (1, .int v1), (2, .int v2), (3, .int v3)] [.int k0, .ref (q 0)] := by
  intro v1 v2 v3 k0 st hf
  unfold f_X8_failDetector_L22 at hf
  refine tw_iconst (v := 1) C dX8_failDetector_22 (by decide) ?_
  refine tw_iconst (v := 1) C dX8_failDetector_23 (by decide) ?_
  obtain ⟨y22001, hc22001, hf⟩ := tw_bd hf
  refine tw_cVi (As := [.int k0, .int 1, .int 1]) (stk := []) C (c_X8_goes l dC dI cI cZ q hc22001) (cwV 3 C.hts gX8_failDetector_X8_goes rfl rfl rfl hd_X8_goes ⟨Nat.le_of_ble_eq_true rfl, Nat.le_of_ble_eq_true rfl⟩) 0 (ci := 8) rfl rfl rfl rfl rfl (Nat.le_of_ble_eq_true rfl) dX8_failDetector_24 ⟨Nat.zero_le _, Nat.zero_le _⟩ ?_
  refine tw_if_ne (tgt := 31) C dX8_failDetector_27 (by decide) (fun c22002 => ?_) (fun c22002 => ?_)
  · have hf := tw_neg hf c22002
    refine tw_aload_n C dX8_failDetector_31 0 rfl rfl ?_
    refine tw_get (K := RX8) (T := TX8) (N := 37) (v := .ref (q 7)) C 0 23 (fun _ h => List.mem_cons_of_mem _ (List.mem_append_right _ (h))) rfl rfl (by decide) (List.mem_cons_of_mem _ (List.mem_append_left _ (List.mem_of_getElem? (i := 0) rfl))) rfl rfl dX8_failDetector_32 ?_
    refine tw_iconst (v := 3) C dX8_failDetector_35 (by decide) ?_
    refine tw_iload_n C dX8_failDetector_36 1 rfl rfl ?_
    refine tw_imul C dX8_failDetector_37 ?_
    refine tw_iload_n C dX8_failDetector_38 2 rfl rfl ?_
    refine tw_iadd C dX8_failDetector_39 ?_
    refine tw_iload_n C dX8_failDetector_40 3 rfl rfl ?_
    obtain ⟨hb22003, hf⟩ := tw_ck hf
    refine tw_zast C 7 1 hb22003 rfl rfl (tw_M_a7 cI cZ q y22001.2 ((3 * v1) + v2) (vp_nar .boolean v3)) dX8_failDetector_41 ?_
    exact tw_endv (Wf := twM cI cZ q) hE hf dX8_failDetector_42
  · have hf := tw_pos hf c22002
    exact tw_endv (Wf := twM cI cZ q) hE hf dX8_failDetector_30
set_option maxRecDepth 20000 in
theorem m_X8_failDetector_L21 (C : twC p s m args meth c cX8_failDetector 4 RX8 wsX8_failDetector (dC, dI) (twY cI cZ) A) (hE : twEv p l e rm_X8_failDetector s m args below meth c 0 0 Q (dC, dI) A 4 cX8_failDetector (twM cI cZ q res)) : ∀ (v1 : Int32) (v2 : Int32) (v3 : Int32) (st : twS), f_X8_failDetector_L21 v1 v2 v3 st = some res → twG p l e rm_X8_failDetector s m args below meth c 0 0 Q (dC, dI) A 4 (twM cI cZ q st) 21 [(0, .ref (q 0)), (1, .int v1), (2, .int v2), (3, .int v3)] [.ref (q 0)] := by
  intro v1 v2 v3 st hf
  unfold f_X8_failDetector_L21 at hf
  refine tw_iconst (v := 0) C dX8_failDetector_21 (by decide) ?_
  exact m_X8_failDetector_L22 C hE v1 v2 v3 0 st hf
set_option maxRecDepth 20000 in
theorem c_X8_failDetector (l : Launch) (dC : Nat → ClassId) (dI : Nat → Nat → Nat) (cI cZ : ClassId) (q : Nat → Nat) {st : twS} {v1 : Int32} {v2 : Int32} {v3 : Int32} {res : twS} (hf : f_X8_failDetector st v1 v2 v3 = some res) : twMv l yX8_failDetector wsX8_failDetector rm_X8_failDetector (dC, dI) (twY cI cZ) [.ref (q 0), .int v1, .int v2, .int v3] (twM cI cZ q st) (twM cI cZ q res) := by
  refine tw_entv (cc := cX8_failDetector) (maxL := 4) (own := RX8) (by decide) rfl (Nat.le_of_ble_eq_true rfl) rfl ⟨rfl, rfl⟩ ?_
  intro p e s m below meth c A Q C hE
  generalize ([.ref (q 0), .int v1, .int v2, .int v3] : List Value).toArray = args at C hE ⊢
  refine tw_sub (lv' := [(0, .ref (q 0)), (1, .int v1), (2, .int v2), (3, .int v3)]) [0, 1, 2, 3] rfl ?_
  unfold f_X8_failDetector at hf
  refine tw_aload_n C dX8_failDetector_0 0 rfl rfl ?_
  refine tw_iload_n C dX8_failDetector_1 1 rfl rfl ?_
  obtain ⟨y1, hc1, hf⟩ := tw_bd hf
  refine tw_cSi (As := [.int v1]) (stk := [.ref (q 0)]) C (c_X8_isSegment l dC dI cI cZ q hc1) (va_cwS 1 C.hts gX8_failDetector_X8_isSegment rfl rfl rfl hd_X8_isSegment ⟨Nat.le_of_ble_eq_true rfl, Nat.le_of_ble_eq_true rfl⟩) rfl rfl (Nat.le_of_ble_eq_true rfl) dX8_failDetector_2 ⟨Nat.zero_le _, Nat.zero_le _⟩ ?_
  refine tw_if_eq (tgt := 21) C dX8_failDetector_5 (by decide) (fun c2 => ?_) (fun c2 => ?_)
  · have hf := tw_pos hf c2
    exact m_X8_failDetector_L21 C hE v1 v2 v3 y1.2 hf
  · have hf := tw_neg hf c2
    refine tw_iload_n C dX8_failDetector_8 2 rfl rfl ?_
    refine tw_iconst (v := 0) C dX8_failDetector_9 (by decide) ?_
    refine tw_iconst (v := 2) C dX8_failDetector_10 (by decide) ?_
    obtain ⟨y3, hc3, hf⟩ := tw_bd hf
    refine tw_cSi (As := [.int v2, .int 0, .int 2]) (stk := [.ref (q 0)]) C (c_X8_isBetween l dC dI cI cZ q hc3) (va_cwS 3 C.hts gX8_failDetector_X8_isBetween rfl rfl rfl hd_X8_isBetween ⟨Nat.le_of_ble_eq_true rfl, Nat.le_of_ble_eq_true rfl⟩) rfl rfl (Nat.le_of_ble_eq_true rfl) dX8_failDetector_11 ⟨Nat.zero_le _, Nat.zero_le _⟩ ?_
    refine tw_if_eq (tgt := 21) C dX8_failDetector_14 (by decide) (fun c4 => ?_) (fun c4 => ?_)
    · have hf := tw_pos hf c4
      exact m_X8_failDetector_L21 C hE v1 v2 v3 y3.2 hf
    · have hf := tw_neg hf c4
      refine tw_iconst (v := 1) C dX8_failDetector_17 (by decide) ?_
      refine tw_goto (tgt := 22) C dX8_failDetector_18 (by decide) ?_
      exact m_X8_failDetector_L22 C hE v1 v2 v3 1 y3.2 hf
end
/-! X8_act: public int act(int, int, boolean) -/
abbrev rm_X8_act : Room := { frames := 1, cells := 0, slots := 0, locals := 23 }
def f_X8_act_L88 (k0 : Int32) (k1 : Int32) (st : twS) : Option (Int32 × twS) :=
  (if twb k1 10 = true then (if twb ((twA st 9 k1 k0).1 25) 10 = true then some ((((twI (twA (twA st 9 k1 k0) 10 ((twA st 9 k1 k0).1 25) (-1)) 25 (((twA (twA st 9 k1 k0) 10 ((twA st 9 k1 k0).1 25) (-1)).1 25) + 1)).1 25) - 1), (twI (twA (twA st 9 k1 k0) 10 ((twA st 9 k1 k0).1 25) (-1)) 25 (((twA (twA st 9 k1 k0) 10 ((twA st 9 k1 k0).1 25) (-1)).1 25) + 1))) else none) else none)
def f_X8_act_L48 (v1 : Int32) (v2 : Int32) (v3 : Int32) (k0 : Int32) (k1 : Int32) (st : twS) : Option (Int32 × twS) :=
  ((f_X8_goes st k1 k0 1).bind fun y48001 => (if y48001.1 = 0 then
    some (0, y48001.2)
  else
    (if twb (y48001.2.1 25) 10 = true then (if v3 = 0 then
    f_X8_act_L88 v2 ((twA y48001.2 8 (y48001.2.1 25) v1).1 25) (twA y48001.2 8 (y48001.2.1 25) v1)
  else
    f_X8_act_L88 ((2 * v2) + 3) ((twA y48001.2 8 (y48001.2.1 25) v1).1 25) (twA y48001.2 8 (y48001.2.1 25) v1)) else none)))
def f_X8_act_L47 (v1 : Int32) (v2 : Int32) (v3 : Int32) (k0 : Int32) (st : twS) : Option (Int32 × twS) :=
  f_X8_act_L48 v1 v2 v3 0 k0 st
def f_X8_act_L26 (v1 : Int32) (v2 : Int32) (v3 : Int32) (k0 : Int32) (st : twS) : Option (Int32 × twS) :=
  (if 10 ≤ (st.1 25) then
    f_X8_act_L47 v1 v2 v3 k0 st
  else
    (if (st.1 24) = (-1) then
    f_X8_act_L48 v1 v2 v3 1 k0 st
  else
    f_X8_act_L47 v1 v2 v3 k0 st))
def f_X8_act_L25 (v1 : Int32) (v2 : Int32) (v3 : Int32) (st : twS) : Option (Int32 × twS) :=
  f_X8_act_L26 v1 v2 v3 0 st
def f_X8_act (st : twS) (v1 : Int32) (v2 : Int32) (v3 : Int32) : Option (Int32 × twS) :=
  ((f_X8_isBetween st v1 0 7).bind fun y1 => (if y1.1 = 0 then
    f_X8_act_L25 v1 v2 v3 y1.2
  else
    ((f_X8_isBetween y1.2 v2 0 20).bind fun y3 => (if y3.1 = 0 then
    f_X8_act_L25 v1 v2 v3 y3.2
  else
    f_X8_act_L26 v1 v2 v3 1 y3.2))))
section
variable {p : Program} {l : Launch} {e : Env} {s : State} {m : MethodId} {args : Array Value} {below : List Frame} {meth : Method} {c : Code} {Q : State → Prop} {dC : Nat → ClassId} {dI : Nat → Nat → Nat} {cI cZ : ClassId} {q : Nat → Nat} {A : Nat → Prop} {res : Int32 × twS}
set_option maxRecDepth 20000 in
theorem m_X8_act_L88 (C : twC p s m args meth c cX8_act 4 RX8 wsX8_act (dC, dI) (twY cI cZ) A) (hE : twEi p l e rm_X8_act s m args below meth c 0 0 Q (dC, dI) A 4 cX8_act .int res.1 (twM cI cZ q res.2)) : ∀ (k0 : Int32) (k1 : Int32) (st : twS), f_X8_act_L88 k0 k1 st = some res → twG p l e rm_X8_act s m args below meth c 0 0 Q (dC, dI) A 4 (twM cI cZ q st) 88 [(0, .ref (q 0))] [.int k0, .int k1, .ref (q 9)] := by
  intro k0 k1 st hf
  unfold f_X8_act_L88 at hf
  obtain ⟨hb88001, hf⟩ := tw_ck hf
  refine tw_iast C 9 0 hb88001 rfl rfl (tw_M_a9 cI cZ q st k1 k0) dX8_act_88 ?_
  refine tw_aload_n C dX8_act_89 0 rfl rfl ?_
  refine tw_get (K := RX8) (T := TX8) (N := 37) (v := .ref (q 10)) C 0 28 (fun _ h => List.mem_cons_of_mem _ (List.mem_append_right _ (h))) rfl rfl (by decide) (List.mem_cons_of_mem _ (List.mem_append_left _ (List.mem_of_getElem? (i := 4) rfl))) rfl rfl dX8_act_90 ?_
  refine tw_aload_n C dX8_act_93 0 rfl rfl ?_
  refine tw_get (K := RX8) (T := TX8) (N := 37) (v := .int ((twA st 9 k1 k0).1 25)) C 0 25 (fun _ h => List.mem_cons_of_mem _ (List.mem_append_right _ (h))) rfl rfl (by decide) (List.mem_cons_of_mem _ (List.mem_append_left _ (List.mem_of_getElem? (i := 0) rfl))) rfl rfl dX8_act_94 ?_
  refine tw_iconst (v := (-1)) C dX8_act_97 (by decide) ?_
  obtain ⟨hb88002, hf⟩ := tw_ck hf
  refine tw_iast C 10 0 hb88002 rfl rfl (tw_M_a10 cI cZ q (twA st 9 k1 k0) ((twA st 9 k1 k0).1 25) (-1)) dX8_act_98 ?_
  refine tw_aload_n C dX8_act_99 0 rfl rfl ?_
  refine tw_dup C dX8_act_100 rfl ?_
  refine tw_get (K := RX8) (T := TX8) (N := 37) (v := .int ((twA (twA st 9 k1 k0) 10 ((twA st 9 k1 k0).1 25) (-1)).1 25)) C 0 25 (fun _ h => List.mem_cons_of_mem _ (List.mem_append_right _ (h))) rfl rfl (by decide) (List.mem_cons_of_mem _ (List.mem_append_left _ (List.mem_of_getElem? (i := 0) rfl))) rfl rfl dX8_act_101 ?_
  refine tw_iconst (v := 1) C dX8_act_104 (by decide) ?_
  refine tw_iadd C dX8_act_105 ?_
  refine tw_put (K := RX8) (T := TX8) (N := 37) C 0 25 tyX8 tyX8_ok nmX8 (fun _ h => List.mem_cons_of_mem _ (List.mem_append_right _ (h))) rfl rfl (by decide) (List.mem_cons_of_mem _ (List.mem_append_left _ (List.mem_of_getElem? (i := 0) rfl))) rfl rfl rfl rfl (Nat.le_of_ble_eq_true rfl) (tw_M_si25 cI cZ q (twA (twA st 9 k1 k0) 10 ((twA st 9 k1 k0).1 25) (-1)) (((twA (twA st 9 k1 k0) 10 ((twA st 9 k1 k0).1 25) (-1)).1 25) + 1)) dX8_act_106 ?_
  refine tw_aload_n C dX8_act_109 0 rfl rfl ?_
  refine tw_get (K := RX8) (T := TX8) (N := 37) (v := .int ((twI (twA (twA st 9 k1 k0) 10 ((twA st 9 k1 k0).1 25) (-1)) 25 (((twA (twA st 9 k1 k0) 10 ((twA st 9 k1 k0).1 25) (-1)).1 25) + 1)).1 25)) C 0 25 (fun _ h => List.mem_cons_of_mem _ (List.mem_append_right _ (h))) rfl rfl (by decide) (List.mem_cons_of_mem _ (List.mem_append_left _ (List.mem_of_getElem? (i := 0) rfl))) rfl rfl dX8_act_110 ?_
  refine tw_iconst (v := 1) C dX8_act_113 (by decide) ?_
  refine tw_isub C dX8_act_114 ?_
  exact tw_endi (Wf := twM cI cZ q) hE hf dX8_act_115 rfl
set_option maxRecDepth 20000 in
theorem m_X8_act_L48 (C : twC p s m args meth c cX8_act 4 RX8 wsX8_act (dC, dI) (twY cI cZ) A) (hE : twEi p l e rm_X8_act s m args below meth c 0 0 Q (dC, dI) A 4 cX8_act .int res.1 (twM cI cZ q res.2)) : ∀ (v1 : Int32) (v2 : Int32) (v3 : Int32) (k0 : Int32) (k1 : Int32) (st : twS), f_X8_act_L48 v1 v2 v3 k0 k1 st = some res → twG p l e rm_X8_act s m args below meth c 0 0 Q (dC, dI) A 4 (twM cI cZ q st) 48 [(0, .ref (q 0)), (1, .int v1), (2, .int v2), (3, .int v3)] [.int k0, .int k1, .ref (q 0)] := by
  intro v1 v2 v3 k0 k1 st hf
  unfold f_X8_act_L48 at hf
  refine tw_iconst (v := 1) C dX8_act_48 (by decide) ?_
  obtain ⟨y48001, hc48001, hf⟩ := tw_bd hf
  refine tw_cVi (As := [.int k1, .int k0, .int 1]) (stk := []) C (c_X8_goes l dC dI cI cZ q hc48001) (cwV 3 C.hts gX8_act_X8_goes rfl rfl rfl hd_X8_goes ⟨Nat.le_of_ble_eq_true rfl, Nat.le_of_ble_eq_true rfl⟩) 0 (ci := 8) rfl rfl rfl rfl rfl (Nat.le_of_ble_eq_true rfl) dX8_act_49 ⟨Nat.zero_le _, Nat.zero_le _⟩ ?_
  refine tw_if_ne (tgt := 57) C dX8_act_52 (by decide) (fun c48002 => ?_) (fun c48002 => ?_)
  · have hf := tw_neg hf c48002
    refine tw_aload_n C dX8_act_57 0 rfl rfl ?_
    refine tw_get (K := RX8) (T := TX8) (N := 37) (v := .ref (q 8)) C 0 26 (fun _ h => List.mem_cons_of_mem _ (List.mem_append_right _ (h))) rfl rfl (by decide) (List.mem_cons_of_mem _ (List.mem_append_left _ (List.mem_of_getElem? (i := 2) rfl))) rfl rfl dX8_act_58 ?_
    refine tw_aload_n C dX8_act_61 0 rfl rfl ?_
    refine tw_get (K := RX8) (T := TX8) (N := 37) (v := .int (y48001.2.1 25)) C 0 25 (fun _ h => List.mem_cons_of_mem _ (List.mem_append_right _ (h))) rfl rfl (by decide) (List.mem_cons_of_mem _ (List.mem_append_left _ (List.mem_of_getElem? (i := 0) rfl))) rfl rfl dX8_act_62 ?_
    refine tw_iload_n C dX8_act_65 1 rfl rfl ?_
    obtain ⟨hb48003, hf⟩ := tw_ck hf
    refine tw_iast C 8 0 hb48003 rfl rfl (tw_M_a8 cI cZ q y48001.2 (y48001.2.1 25) v1) dX8_act_66 ?_
    refine tw_aload_n C dX8_act_67 0 rfl rfl ?_
    refine tw_get (K := RX8) (T := TX8) (N := 37) (v := .ref (q 9)) C 0 27 (fun _ h => List.mem_cons_of_mem _ (List.mem_append_right _ (h))) rfl rfl (by decide) (List.mem_cons_of_mem _ (List.mem_append_left _ (List.mem_of_getElem? (i := 3) rfl))) rfl rfl dX8_act_68 ?_
    refine tw_aload_n C dX8_act_71 0 rfl rfl ?_
    refine tw_get (K := RX8) (T := TX8) (N := 37) (v := .int ((twA y48001.2 8 (y48001.2.1 25) v1).1 25)) C 0 25 (fun _ h => List.mem_cons_of_mem _ (List.mem_append_right _ (h))) rfl rfl (by decide) (List.mem_cons_of_mem _ (List.mem_append_left _ (List.mem_of_getElem? (i := 0) rfl))) rfl rfl dX8_act_72 ?_
    refine tw_iload_n C dX8_act_75 3 rfl rfl ?_
    refine tw_if_eq (tgt := 87) C dX8_act_76 (by decide) (fun c48004 => ?_) (fun c48004 => ?_)
    · have hf := tw_pos hf c48004
      refine tw_iload_n C dX8_act_87 2 rfl rfl ?_
      refine tw_sub [0] rfl ?_
      exact m_X8_act_L88 C hE v2 ((twA y48001.2 8 (y48001.2.1 25) v1).1 25) (twA y48001.2 8 (y48001.2.1 25) v1) hf
    · have hf := tw_neg hf c48004
      refine tw_iconst (v := 2) C dX8_act_79 (by decide) ?_
      refine tw_iload_n C dX8_act_80 2 rfl rfl ?_
      refine tw_imul C dX8_act_81 ?_
      refine tw_iconst (v := 3) C dX8_act_82 (by decide) ?_
      refine tw_iadd C dX8_act_83 ?_
      refine tw_goto (tgt := 88) C dX8_act_84 (by decide) ?_
      refine tw_sub [0] rfl ?_
      exact m_X8_act_L88 C hE ((2 * v2) + 3) ((twA y48001.2 8 (y48001.2.1 25) v1).1 25) (twA y48001.2 8 (y48001.2.1 25) v1) hf
  · have hf := tw_pos hf c48002
    refine tw_iconst (v := 0) C dX8_act_55 (by decide) ?_
    exact tw_endi (Wf := twM cI cZ q) hE hf dX8_act_56 rfl
set_option maxRecDepth 20000 in
theorem m_X8_act_L47 (C : twC p s m args meth c cX8_act 4 RX8 wsX8_act (dC, dI) (twY cI cZ) A) (hE : twEi p l e rm_X8_act s m args below meth c 0 0 Q (dC, dI) A 4 cX8_act .int res.1 (twM cI cZ q res.2)) : ∀ (v1 : Int32) (v2 : Int32) (v3 : Int32) (k0 : Int32) (st : twS), f_X8_act_L47 v1 v2 v3 k0 st = some res → twG p l e rm_X8_act s m args below meth c 0 0 Q (dC, dI) A 4 (twM cI cZ q st) 47 [(0, .ref (q 0)), (1, .int v1), (2, .int v2), (3, .int v3)] [.int k0, .ref (q 0)] := by
  intro v1 v2 v3 k0 st hf
  unfold f_X8_act_L47 at hf
  refine tw_iconst (v := 0) C dX8_act_47 (by decide) ?_
  exact m_X8_act_L48 C hE v1 v2 v3 0 k0 st hf
set_option maxRecDepth 20000 in
theorem m_X8_act_L26 (C : twC p s m args meth c cX8_act 4 RX8 wsX8_act (dC, dI) (twY cI cZ) A) (hE : twEi p l e rm_X8_act s m args below meth c 0 0 Q (dC, dI) A 4 cX8_act .int res.1 (twM cI cZ q res.2)) : ∀ (v1 : Int32) (v2 : Int32) (v3 : Int32) (k0 : Int32) (st : twS), f_X8_act_L26 v1 v2 v3 k0 st = some res → twG p l e rm_X8_act s m args below meth c 0 0 Q (dC, dI) A 4 (twM cI cZ q st) 26 [(0, .ref (q 0)), (1, .int v1), (2, .int v2), (3, .int v3)] [.int k0, .ref (q 0)] := by
  intro v1 v2 v3 k0 st hf
  unfold f_X8_act_L26 at hf
  refine tw_aload_n C dX8_act_26 0 rfl rfl ?_
  refine tw_get (K := RX8) (T := TX8) (N := 37) (v := .int (st.1 25)) C 0 25 (fun _ h => List.mem_cons_of_mem _ (List.mem_append_right _ (h))) rfl rfl (by decide) (List.mem_cons_of_mem _ (List.mem_append_left _ (List.mem_of_getElem? (i := 0) rfl))) rfl rfl dX8_act_27 ?_
  refine tw_bipush (v := 10) C dX8_act_30 (by decide) ?_
  refine tw_icmp_ge (tgt := 47) C dX8_act_32 (by decide) (fun c26001 => ?_) (fun c26001 => ?_)
  · have hf := tw_pos hf c26001
    exact m_X8_act_L47 C hE v1 v2 v3 k0 st hf
  · have hf := tw_neg hf c26001
    refine tw_aload_n C dX8_act_35 0 rfl rfl ?_
    refine tw_get (K := RX8) (T := TX8) (N := 37) (v := .int (st.1 24)) C 0 24 (fun _ h => List.mem_cons_of_mem _ (List.mem_append_right _ (h))) rfl rfl (by decide) (List.mem_cons_of_mem _ (List.mem_append_left _ (List.mem_of_getElem? (i := 1) rfl))) rfl rfl dX8_act_36 ?_
    refine tw_iconst (v := (-1)) C dX8_act_39 (by decide) ?_
    refine tw_icmp_ne (tgt := 47) C dX8_act_40 (by decide) (fun c26002 => ?_) (fun c26002 => ?_)
    · have hf := tw_neg hf c26002
      exact m_X8_act_L47 C hE v1 v2 v3 k0 st hf
    · have hf := tw_pos hf c26002
      refine tw_iconst (v := 1) C dX8_act_43 (by decide) ?_
      refine tw_goto (tgt := 48) C dX8_act_44 (by decide) ?_
      exact m_X8_act_L48 C hE v1 v2 v3 1 k0 st hf
set_option maxRecDepth 20000 in
theorem m_X8_act_L25 (C : twC p s m args meth c cX8_act 4 RX8 wsX8_act (dC, dI) (twY cI cZ) A) (hE : twEi p l e rm_X8_act s m args below meth c 0 0 Q (dC, dI) A 4 cX8_act .int res.1 (twM cI cZ q res.2)) : ∀ (v1 : Int32) (v2 : Int32) (v3 : Int32) (st : twS), f_X8_act_L25 v1 v2 v3 st = some res → twG p l e rm_X8_act s m args below meth c 0 0 Q (dC, dI) A 4 (twM cI cZ q st) 25 [(0, .ref (q 0)), (1, .int v1), (2, .int v2), (3, .int v3)] [.ref (q 0)] := by
  intro v1 v2 v3 st hf
  unfold f_X8_act_L25 at hf
  refine tw_iconst (v := 0) C dX8_act_25 (by decide) ?_
  exact m_X8_act_L26 C hE v1 v2 v3 0 st hf
set_option maxRecDepth 20000 in
theorem c_X8_act (l : Launch) (dC : Nat → ClassId) (dI : Nat → Nat → Nat) (cI cZ : ClassId) (q : Nat → Nat) {st : twS} {v1 : Int32} {v2 : Int32} {v3 : Int32} {res : Int32 × twS} (hf : f_X8_act st v1 v2 v3 = some res) : twMi l yX8_act wsX8_act rm_X8_act (dC, dI) (twY cI cZ) [.ref (q 0), .int v1, .int v2, .int v3] (twM cI cZ q st) res.1 (twM cI cZ q res.2) := by
  refine tw_enti (cc := cX8_act) (maxL := 4) (own := RX8) (by decide) rfl (Nat.le_of_ble_eq_true rfl) rfl ⟨rfl, rfl⟩ ?_
  intro p e s m below meth c A Q C hE
  generalize ([.ref (q 0), .int v1, .int v2, .int v3] : List Value).toArray = args at C hE ⊢
  refine tw_sub (lv' := [(0, .ref (q 0)), (1, .int v1), (2, .int v2), (3, .int v3)]) [0, 1, 2, 3] rfl ?_
  unfold f_X8_act at hf
  refine tw_aload_n C dX8_act_0 0 rfl rfl ?_
  refine tw_iload_n C dX8_act_1 1 rfl rfl ?_
  refine tw_iconst (v := 0) C dX8_act_2 (by decide) ?_
  refine tw_bipush (v := 7) C dX8_act_3 (by decide) ?_
  obtain ⟨y1, hc1, hf⟩ := tw_bd hf
  refine tw_cSi (As := [.int v1, .int 0, .int 7]) (stk := [.ref (q 0)]) C (c_X8_isBetween l dC dI cI cZ q hc1) (va_cwS 3 C.hts gX8_act_X8_isBetween rfl rfl rfl hd_X8_isBetween ⟨Nat.le_of_ble_eq_true rfl, Nat.le_of_ble_eq_true rfl⟩) rfl rfl (Nat.le_of_ble_eq_true rfl) dX8_act_5 ⟨Nat.zero_le _, Nat.zero_le _⟩ ?_
  refine tw_if_eq (tgt := 25) C dX8_act_8 (by decide) (fun c2 => ?_) (fun c2 => ?_)
  · have hf := tw_pos hf c2
    exact m_X8_act_L25 C hE v1 v2 v3 y1.2 hf
  · have hf := tw_neg hf c2
    refine tw_iload_n C dX8_act_11 2 rfl rfl ?_
    refine tw_iconst (v := 0) C dX8_act_12 (by decide) ?_
    refine tw_bipush (v := 20) C dX8_act_13 (by decide) ?_
    obtain ⟨y3, hc3, hf⟩ := tw_bd hf
    refine tw_cSi (As := [.int v2, .int 0, .int 20]) (stk := [.ref (q 0)]) C (c_X8_isBetween l dC dI cI cZ q hc3) (va_cwS 3 C.hts gX8_act_X8_isBetween rfl rfl rfl hd_X8_isBetween ⟨Nat.le_of_ble_eq_true rfl, Nat.le_of_ble_eq_true rfl⟩) rfl rfl (Nat.le_of_ble_eq_true rfl) dX8_act_15 ⟨Nat.zero_le _, Nat.zero_le _⟩ ?_
    refine tw_if_eq (tgt := 25) C dX8_act_18 (by decide) (fun c4 => ?_) (fun c4 => ?_)
    · have hf := tw_pos hf c4
      exact m_X8_act_L25 C hE v1 v2 v3 y3.2 hf
    · have hf := tw_neg hf c4
      refine tw_iconst (v := 1) C dX8_act_21 (by decide) ?_
      refine tw_goto (tgt := 26) C dX8_act_22 (by decide) ?_
      exact m_X8_act_L26 C hE v1 v2 v3 1 y3.2 hf
end
/-! X8_command: public int command(int, int) -/
abbrev rm_X8_command : Room := { frames := 2, cells := 0, slots := 0, locals := 42 }
def f_X8_command (st : twS) (v1 : Int32) (v2 : Int32) : Option (Int32 × twS) :=
  ((f_X8_isFan st v1).bind fun y1 => ((f_X8_isBetween y1.2 v2 (-1) 1).bind fun y2 => ((f_X8_goes y2.2 y1.1 y2.1 1).bind fun y3 => (if y3.1 = 0 then
    some (0, y3.2)
  else
    (if twb v1 3 = true then (if twb v1 3 = true then some ((y3.2.2.1 3 v1.toNatClampNeg), (twA y3.2 3 v1 v2)) else none) else none)))))
section
variable {p : Program} {l : Launch} {e : Env} {s : State} {m : MethodId} {args : Array Value} {below : List Frame} {meth : Method} {c : Code} {Q : State → Prop} {dC : Nat → ClassId} {dI : Nat → Nat → Nat} {cI cZ : ClassId} {q : Nat → Nat} {A : Nat → Prop} {res : Int32 × twS}
set_option maxRecDepth 20000 in
theorem c_X8_command (l : Launch) (dC : Nat → ClassId) (dI : Nat → Nat → Nat) (cI cZ : ClassId) (q : Nat → Nat) {st : twS} {v1 : Int32} {v2 : Int32} {res : Int32 × twS} (hf : f_X8_command st v1 v2 = some res) : twMi l yX8_command wsX8_command rm_X8_command (dC, dI) (twY cI cZ) [.ref (q 0), .int v1, .int v2] (twM cI cZ q st) res.1 (twM cI cZ q res.2) := by
  refine tw_enti (cc := cX8_command) (maxL := 4) (own := RX8) (by decide) rfl (Nat.le_of_ble_eq_true rfl) rfl ⟨rfl, rfl⟩ ?_
  intro p e s m below meth c A Q C hE
  generalize ([.ref (q 0), .int v1, .int v2] : List Value).toArray = args at C hE ⊢
  refine tw_sub (lv' := [(0, .ref (q 0)), (1, .int v1), (2, .int v2)]) [0, 1, 2] rfl ?_
  unfold f_X8_command at hf
  refine tw_aload_n C dX8_command_0 0 rfl rfl ?_
  refine tw_iload_n C dX8_command_1 1 rfl rfl ?_
  obtain ⟨y1, hc1, hf⟩ := tw_bd hf
  refine tw_cSi (As := [.int v1]) (stk := [.ref (q 0)]) C (c_X8_isFan l dC dI cI cZ q hc1) (va_cwS 1 C.hts gX8_command_X8_isFan rfl rfl rfl hd_X8_isFan ⟨Nat.le_of_ble_eq_true rfl, Nat.le_of_ble_eq_true rfl⟩) rfl rfl (Nat.le_of_ble_eq_true rfl) dX8_command_2 ⟨Nat.zero_le _, Nat.zero_le _⟩ ?_
  refine tw_iload_n C dX8_command_5 2 rfl rfl ?_
  refine tw_iconst (v := (-1)) C dX8_command_6 (by decide) ?_
  refine tw_iconst (v := 1) C dX8_command_7 (by decide) ?_
  obtain ⟨y2, hc2, hf⟩ := tw_bd hf
  refine tw_cSi (As := [.int v2, .int (-1), .int 1]) (stk := [.int y1.1, .ref (q 0)]) C (c_X8_isBetween l dC dI cI cZ q hc2) (va_cwS 3 C.hts gX8_command_X8_isBetween rfl rfl rfl hd_X8_isBetween ⟨Nat.le_of_ble_eq_true rfl, Nat.le_of_ble_eq_true rfl⟩) rfl rfl (Nat.le_of_ble_eq_true rfl) dX8_command_8 ⟨Nat.zero_le _, Nat.zero_le _⟩ ?_
  refine tw_iconst (v := 1) C dX8_command_11 (by decide) ?_
  obtain ⟨y3, hc3, hf⟩ := tw_bd hf
  refine tw_cVi (As := [.int y1.1, .int y2.1, .int 1]) (stk := []) C (c_X8_goes l dC dI cI cZ q hc3) (cwV 3 C.hts gX8_command_X8_goes rfl rfl rfl hd_X8_goes ⟨Nat.le_of_ble_eq_true rfl, Nat.le_of_ble_eq_true rfl⟩) 0 (ci := 8) rfl rfl rfl rfl rfl (Nat.le_of_ble_eq_true rfl) dX8_command_12 ⟨Nat.zero_le _, Nat.zero_le _⟩ ?_
  refine tw_if_ne (tgt := 20) C dX8_command_15 (by decide) (fun c4 => ?_) (fun c4 => ?_)
  · have hf := tw_neg hf c4
    refine tw_aload_n C dX8_command_20 0 rfl rfl ?_
    refine tw_get (K := RX8) (T := TX8) (N := 37) (v := .ref (q 3)) C 0 3 (fun _ h => List.mem_cons_of_mem _ (List.mem_append_right _ (h))) rfl rfl (by decide) (List.mem_cons_of_mem _ (List.mem_append_left _ (List.mem_of_getElem? (i := 0) rfl))) rfl rfl dX8_command_21 ?_
    refine tw_iload_n C dX8_command_24 1 rfl rfl ?_
    obtain ⟨hb5, hf⟩ := tw_ck hf
    refine tw_iald C 3 0 hb5 rfl rfl dX8_command_25 ?_
    refine tw_istore_n (lv' := [(3, .int (y3.2.2.1 3 v1.toNatClampNeg)), (0, .ref (q 0)), (1, .int v1), (2, .int v2)]) C dX8_command_26 rfl (by decide) rfl ?_
    refine tw_aload_n C dX8_command_27 1 rfl rfl ?_
    refine tw_get (K := RX8) (T := TX8) (N := 37) (v := .ref (q 3)) C 0 3 (fun _ h => List.mem_cons_of_mem _ (List.mem_append_right _ (h))) rfl rfl (by decide) (List.mem_cons_of_mem _ (List.mem_append_left _ (List.mem_of_getElem? (i := 0) rfl))) rfl rfl dX8_command_28 ?_
    refine tw_iload_n C dX8_command_31 2 rfl rfl ?_
    refine tw_iload_n C dX8_command_32 3 rfl rfl ?_
    obtain ⟨hb6, hf⟩ := tw_ck hf
    refine tw_iast C 3 0 hb6 rfl rfl (tw_M_a3 cI cZ q y3.2 v1 v2) dX8_command_33 ?_
    refine tw_iload_n C dX8_command_34 0 rfl rfl ?_
    exact tw_endi (Wf := twM cI cZ q) hE hf dX8_command_35 rfl
  · have hf := tw_pos hf c4
    refine tw_iconst (v := 0) C dX8_command_18 (by decide) ?_
    exact tw_endi (Wf := twM cI cZ q) hE hf dX8_command_19 rfl
end
