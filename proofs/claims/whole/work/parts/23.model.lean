theorem hd_X8_step : yX8_step.cls = RX8 ∧ yX8_step.cls ≠ "java/lang/invoke/MethodHandle" ∧ yX8_step.cls ≠ "java/lang/invoke/VarHandle" ∧ (parseMethodDescriptor yX8_step.desc).map (fun d => d.parameters.length) = some 1 := by decide +kernel
theorem hd_X8_segment : yX8_segment.cls = RX8 ∧ yX8_segment.cls ≠ "java/lang/invoke/MethodHandle" ∧ yX8_segment.cls ≠ "java/lang/invoke/VarHandle" ∧ (parseMethodDescriptor yX8_segment.desc).map (fun d => d.parameters.length) = some 2 := by decide +kernel
theorem hd_X8_flow : yX8_flow.cls = RX8 ∧ yX8_flow.cls ≠ "java/lang/invoke/MethodHandle" ∧ yX8_flow.cls ≠ "java/lang/invoke/VarHandle" ∧ (parseMethodDescriptor yX8_flow.desc).map (fun d => d.parameters.length) = some 0 := by decide +kernel
theorem hd_X8_fan : yX8_fan.cls = RX8 ∧ yX8_fan.cls ≠ "java/lang/invoke/MethodHandle" ∧ yX8_fan.cls ≠ "java/lang/invoke/VarHandle" ∧ (parseMethodDescriptor yX8_fan.desc).map (fun d => d.parameters.length) = some 1 := by decide +kernel
theorem hd_X8_alarm : yX8_alarm.cls = RX8 ∧ yX8_alarm.cls ≠ "java/lang/invoke/MethodHandle" ∧ yX8_alarm.cls ≠ "java/lang/invoke/VarHandle" ∧ (parseMethodDescriptor yX8_alarm.desc).map (fun d => d.parameters.length) = some 0 := by decide +kernel
theorem hd_X8_done : yX8_done.cls = RX8 ∧ yX8_done.cls ≠ "java/lang/invoke/MethodHandle" ∧ yX8_done.cls ≠ "java/lang/invoke/VarHandle" ∧ (parseMethodDescriptor yX8_done.desc).map (fun d => d.parameters.length) = some 1 := by decide +kernel
theorem hd_X8_person : yX8_person.cls = RX8 ∧ yX8_person.cls ≠ "java/lang/invoke/MethodHandle" ∧ yX8_person.cls ≠ "java/lang/invoke/VarHandle" ∧ (parseMethodDescriptor yX8_person.desc).map (fun d => d.parameters.length) = some 2 := by decide +kernel
theorem hd_X8_counted : yX8_counted.cls = RX8 ∧ yX8_counted.cls ≠ "java/lang/invoke/MethodHandle" ∧ yX8_counted.cls ≠ "java/lang/invoke/VarHandle" ∧ (parseMethodDescriptor yX8_counted.desc).map (fun d => d.parameters.length) = some 1 := by decide +kernel
theorem hd_X8_count : yX8_count.cls = RX8 ∧ yX8_count.cls ≠ "java/lang/invoke/MethodHandle" ∧ yX8_count.cls ≠ "java/lang/invoke/VarHandle" ∧ (parseMethodDescriptor yX8_count.desc).map (fun d => d.parameters.length) = some 1 := by decide +kernel
theorem hd_X8_gone : yX8_gone.cls = RX8 ∧ yX8_gone.cls ≠ "java/lang/invoke/MethodHandle" ∧ yX8_gone.cls ≠ "java/lang/invoke/VarHandle" ∧ (parseMethodDescriptor yX8_gone.desc).map (fun d => d.parameters.length) = some 0 := by decide +kernel
theorem hd_X8_balances : yX8_balances.cls = RX8 ∧ yX8_balances.cls ≠ "java/lang/invoke/MethodHandle" ∧ yX8_balances.cls ≠ "java/lang/invoke/VarHandle" ∧ (parseMethodDescriptor yX8_balances.desc).map (fun d => d.parameters.length) = some 0 := by decide +kernel
/-! X8_step: public int step(int) -/
abbrev rm_X8_step : Room := { frames := 5, cells := 0, slots := 0, locals := 115 }
def f_X8_step_L20b (rec : Int32 → Int32 → twS → Option (Int32 × twS)) (v1 : Int32) (v2 : Int32) (st : twS) : Option (Int32 × twS) :=
  (if v1 ≤ v2 then
    some ((st.1 0), st)
  else
    ((f_X8_doesStep st).bind fun y20002 => rec v1 (v2 + 1) y20002))
def f_X8_step_L20 : Nat → Int32 → Int32 → twS → Option (Int32 × twS)
  | 0 => fun _ _ _ => none
  | n + 1 => fun v1 v2 st => f_X8_step_L20b (f_X8_step_L20 n) v1 v2 st
def f_X8_step (st : twS) (v1 : Int32) : Option (Int32 × twS) :=
  ((f_X8_isBetween st v1 1 100).bind fun y1 => ((f_X8_goes y1.2 y1.1 1 1).bind fun y2 => (if y2.1 = 0 then
    some (0, y2.2)
  else
    f_X8_step_L20 twN v1 0 y2.2)))
section
variable {p : Program} {l : Launch} {e : Env} {s : State} {m : MethodId} {args : Array Value} {below : List Frame} {meth : Method} {c : Code} {Q : State → Prop} {dC : Nat → ClassId} {dI : Nat → Nat → Nat} {cI cZ : ClassId} {q : Nat → Nat} {A : Nat → Prop} {res : Int32 × twS}
set_option maxRecDepth 20000 in
theorem m_X8_step_L20b (C : twC p s m args meth c cX8_step 3 RX8 wsX8_step (dC, dI) (twY cI cZ) A) (hE : twEi p l e rm_X8_step s m args below meth c 0 0 Q (dC, dI) A 3 cX8_step .int res.1 (twM cI cZ q res.2)) {rec : Int32 → Int32 → twS → Option (Int32 × twS)} (hrec : ∀ (v1 : Int32) (v2 : Int32) (st : twS), rec v1 v2 st = some res → twG p l e rm_X8_step s m args below meth c 0 0 Q (dC, dI) A 3 (twM cI cZ q st) 20 [(0, .ref (q 0)), (1, .int v1), (2, .int v2)] []) : ∀ (v1 : Int32) (v2 : Int32) (st : twS), f_X8_step_L20b rec v1 v2 st = some res → twG p l e rm_X8_step s m args below meth c 0 0 Q (dC, dI) A 3 (twM cI cZ q st) 20 [(0, .ref (q 0)), (1, .int v1), (2, .int v2)] [] := by
  intro v1 v2 st hf
  unfold f_X8_step_L20b at hf
  refine tw_iload_n C dX8_step_20 2 rfl rfl ?_
  refine tw_iload_n C dX8_step_21 1 rfl rfl ?_
  refine tw_icmp_ge (tgt := 35) C dX8_step_22 (by decide) (fun c20001 => ?_) (fun c20001 => ?_)
  · have hf := tw_pos hf c20001
    refine tw_aload_n C dX8_step_35 0 rfl rfl ?_
    refine tw_get (K := RX8) (T := TX8) (N := 37) (v := .int (st.1 0)) C 0 0 (fun _ h => List.mem_cons_of_mem _ (List.mem_append_right _ (h))) rfl rfl (by decide) (List.mem_cons_of_mem _ (List.mem_append_left _ (List.mem_append_left _ (List.mem_of_getElem? (i := 0) rfl)))) rfl rfl dX8_step_36 ?_
    exact tw_endi (Wf := twM cI cZ q) hE hf dX8_step_39 rfl
  · have hf := tw_neg hf c20001
    refine tw_aload_n C dX8_step_25 0 rfl rfl ?_
    obtain ⟨y20002, hc20002, hf⟩ := tw_bd hf
    refine tw_cVv (As := []) (stk := []) C (c_X8_doesStep l dC dI cI cZ q hc20002) (cwV 0 C.hts gX8_step_X8_doesStep rfl rfl rfl hd_X8_doesStep ⟨Nat.le_of_ble_eq_true rfl, Nat.le_of_ble_eq_true rfl⟩) 0 (ci := 8) rfl rfl rfl rfl rfl (Nat.le_of_ble_eq_true rfl) dX8_step_26 ⟨Nat.zero_le _, Nat.zero_le _⟩ ?_
    refine tw_iinc (v := (v2 + 1)) (lv' := [(2, .int (v2 + 1)), (0, .ref (q 0)), (1, .int v1)]) C dX8_step_29 (k := 2) rfl rfl (by decide) rfl ?_
    refine tw_goto (tgt := 20) C dX8_step_32 (by decide) ?_
    refine tw_sub [1, 2, 0] rfl ?_
    exact hrec v1 (v2 + 1) y20002 hf
theorem m_X8_step_L20 (C : twC p s m args meth c cX8_step 3 RX8 wsX8_step (dC, dI) (twY cI cZ) A) (hE : twEi p l e rm_X8_step s m args below meth c 0 0 Q (dC, dI) A 3 cX8_step .int res.1 (twM cI cZ q res.2)) : ∀ (n : Nat) (v1 : Int32) (v2 : Int32) (st : twS), f_X8_step_L20 n v1 v2 st = some res → twG p l e rm_X8_step s m args below meth c 0 0 Q (dC, dI) A 3 (twM cI cZ q st) 20 [(0, .ref (q 0)), (1, .int v1), (2, .int v2)] [] := by
  intro n
  induction n with
  | zero =>
    intro v1 v2 st hf
    have hf : none = some res := hf
    cases hf
  | succ n ih =>
    intro v1 v2 st hf
    exact m_X8_step_L20b C hE ih v1 v2 st hf
set_option maxRecDepth 20000 in
theorem c_X8_step (l : Launch) (dC : Nat → ClassId) (dI : Nat → Nat → Nat) (cI cZ : ClassId) (q : Nat → Nat) {st : twS} {v1 : Int32} {res : Int32 × twS} (hf : f_X8_step st v1 = some res) : twMi l yX8_step wsX8_step rm_X8_step (dC, dI) (twY cI cZ) [.ref (q 0), .int v1] (twM cI cZ q st) res.1 (twM cI cZ q res.2) := by
  refine tw_enti (cc := cX8_step) (maxL := 3) (own := RX8) (by decide) rfl (Nat.le_of_ble_eq_true rfl) rfl ⟨rfl, rfl⟩ ?_
  intro p e s m below meth c A Q C hE
  generalize ([.ref (q 0), .int v1] : List Value).toArray = args at C hE ⊢
  refine tw_sub (lv' := [(0, .ref (q 0)), (1, .int v1)]) [0, 1] rfl ?_
  unfold f_X8_step at hf
  refine tw_aload_n C dX8_step_0 0 rfl rfl ?_
  refine tw_iload_n C dX8_step_1 1 rfl rfl ?_
  refine tw_iconst (v := 1) C dX8_step_2 (by decide) ?_
  refine tw_bipush (v := 100) C dX8_step_3 (by decide) ?_
  obtain ⟨y1, hc1, hf⟩ := tw_bd hf
  refine tw_cSi (As := [.int v1, .int 1, .int 100]) (stk := [.ref (q 0)]) C (c_X8_isBetween l dC dI cI cZ q hc1) (va_cwS 3 C.hts gX8_step_X8_isBetween rfl rfl rfl hd_X8_isBetween ⟨Nat.le_of_ble_eq_true rfl, Nat.le_of_ble_eq_true rfl⟩) rfl rfl (Nat.le_of_ble_eq_true rfl) dX8_step_5 ⟨Nat.zero_le _, Nat.zero_le _⟩ ?_
  refine tw_iconst (v := 1) C dX8_step_8 (by decide) ?_
  refine tw_iconst (v := 1) C dX8_step_9 (by decide) ?_
  obtain ⟨y2, hc2, hf⟩ := tw_bd hf
  refine tw_cVi (As := [.int y1.1, .int 1, .int 1]) (stk := []) C (c_X8_goes l dC dI cI cZ q hc2) (cwV 3 C.hts gX8_step_X8_goes rfl rfl rfl hd_X8_goes ⟨Nat.le_of_ble_eq_true rfl, Nat.le_of_ble_eq_true rfl⟩) 0 (ci := 8) rfl rfl rfl rfl rfl (Nat.le_of_ble_eq_true rfl) dX8_step_10 ⟨Nat.zero_le _, Nat.zero_le _⟩ ?_
  refine tw_if_ne (tgt := 18) C dX8_step_13 (by decide) (fun c3 => ?_) (fun c3 => ?_)
  · have hf := tw_neg hf c3
    refine tw_iconst (v := 0) C dX8_step_18 (by decide) ?_
    refine tw_istore_n (lv' := [(2, .int 0), (0, .ref (q 0)), (1, .int v1)]) C dX8_step_19 rfl (by decide) rfl ?_
    refine tw_sub [1, 2, 0] rfl ?_
    exact m_X8_step_L20 C hE twN v1 0 y2.2 hf
  · have hf := tw_pos hf c3
    refine tw_iconst (v := 0) C dX8_step_16 (by decide) ?_
    exact tw_endi (Wf := twM cI cZ q) hE hf dX8_step_17 rfl
end
/-! X8_segment: public int segment(int, int) -/
abbrev rm_X8_segment : Room := { frames := 2, cells := 0, slots := 0, locals := 45 }
def f_X8_segment (st : twS) (v1 : Int32) (v2 : Int32) : Option (Int32 × twS) :=
  ((f_X8_isSegment st v1).bind fun y1 => ((f_X8_isBetween y1.2 v2 0 4).bind fun y2 => ((f_X8_goes y2.2 y1.1 y2.1 1).bind fun y3 => (if y3.1 = 0 then
    some (0, y3.2)
  else
    (if v2 = 0 then
    (if twb v1 12 = true then some ((y3.2.2.1 1 v1.toNatClampNeg), y3.2) else none)
  else
    (if v2 = 1 then
    (if twb v1 12 = true then some ((y3.2.2.1 2 v1.toNatClampNeg), y3.2) else none)
  else
    (if v2 = 2 then
    ((f_X8_tells y3.2 v1).bind fun y12 => some (y12.1, y12.2))
  else
    (if v2 = 3 then
    ((f_X8_personsIn y3.2 v1).bind fun y13 => some (y13.1, y13.2))
  else
    ((f_X8_isIn y3.2 v1 (y3.2.1 6)).bind fun y14 => (if y14.1 = 0 then
    some ((-1), y14.2)
  else
    ((f_X8_isIn y14.2 v1 (y14.2.1 7)).bind fun y16 => (if y16.1 = 0 then
    some (0, y16.2)
  else
    some (1, y16.2)))))))))))))
section
variable {p : Program} {l : Launch} {e : Env} {s : State} {m : MethodId} {args : Array Value} {below : List Frame} {meth : Method} {c : Code} {Q : State → Prop} {dC : Nat → ClassId} {dI : Nat → Nat → Nat} {cI cZ : ClassId} {q : Nat → Nat} {A : Nat → Prop} {res : Int32 × twS}
set_option maxRecDepth 20000 in
theorem c_X8_segment (l : Launch) (dC : Nat → ClassId) (dI : Nat → Nat → Nat) (cI cZ : ClassId) (q : Nat → Nat) {st : twS} {v1 : Int32} {v2 : Int32} {res : Int32 × twS} (hf : f_X8_segment st v1 v2 = some res) : twMi l yX8_segment wsX8_segment rm_X8_segment (dC, dI) (twY cI cZ) [.ref (q 0), .int v1, .int v2] (twM cI cZ q st) res.1 (twM cI cZ q res.2) := by
  refine tw_enti (cc := cX8_segment) (maxL := 3) (own := RX8) (by decide) rfl (Nat.le_of_ble_eq_true rfl) rfl ⟨rfl, rfl⟩ ?_
  intro p e s m below meth c A Q C hE
  generalize ([.ref (q 0), .int v1, .int v2] : List Value).toArray = args at C hE ⊢
  refine tw_sub (lv' := [(0, .ref (q 0)), (1, .int v1), (2, .int v2)]) [0, 1, 2] rfl ?_
  unfold f_X8_segment at hf
  refine tw_aload_n C dX8_segment_0 0 rfl rfl ?_
  refine tw_iload_n C dX8_segment_1 1 rfl rfl ?_
  obtain ⟨y1, hc1, hf⟩ := tw_bd hf
  refine tw_cSi (As := [.int v1]) (stk := [.ref (q 0)]) C (c_X8_isSegment l dC dI cI cZ q hc1) (va_cwS 1 C.hts gX8_segment_X8_isSegment rfl rfl rfl hd_X8_isSegment ⟨Nat.le_of_ble_eq_true rfl, Nat.le_of_ble_eq_true rfl⟩) rfl rfl (Nat.le_of_ble_eq_true rfl) dX8_segment_2 ⟨Nat.zero_le _, Nat.zero_le _⟩ ?_
  refine tw_iload_n C dX8_segment_5 2 rfl rfl ?_
  refine tw_iconst (v := 0) C dX8_segment_6 (by decide) ?_
  refine tw_iconst (v := 4) C dX8_segment_7 (by decide) ?_
  obtain ⟨y2, hc2, hf⟩ := tw_bd hf
  refine tw_cSi (As := [.int v2, .int 0, .int 4]) (stk := [.int y1.1, .ref (q 0)]) C (c_X8_isBetween l dC dI cI cZ q hc2) (va_cwS 3 C.hts gX8_segment_X8_isBetween rfl rfl rfl hd_X8_isBetween ⟨Nat.le_of_ble_eq_true rfl, Nat.le_of_ble_eq_true rfl⟩) rfl rfl (Nat.le_of_ble_eq_true rfl) dX8_segment_8 ⟨Nat.zero_le _, Nat.zero_le _⟩ ?_
  refine tw_iconst (v := 1) C dX8_segment_11 (by decide) ?_
  obtain ⟨y3, hc3, hf⟩ := tw_bd hf
  refine tw_cVi (As := [.int y1.1, .int y2.1, .int 1]) (stk := []) C (c_X8_goes l dC dI cI cZ q hc3) (cwV 3 C.hts gX8_segment_X8_goes rfl rfl rfl hd_X8_goes ⟨Nat.le_of_ble_eq_true rfl, Nat.le_of_ble_eq_true rfl⟩) 0 (ci := 8) rfl rfl rfl rfl rfl (Nat.le_of_ble_eq_true rfl) dX8_segment_12 ⟨Nat.zero_le _, Nat.zero_le _⟩ ?_
  refine tw_if_ne (tgt := 20) C dX8_segment_15 (by decide) (fun c4 => ?_) (fun c4 => ?_)
  · have hf := tw_neg hf c4
    refine tw_iload_n C dX8_segment_20 2 rfl rfl ?_
    by_cases c5 : v2 = 0
    · have hf := tw_pos hf c5
      refine tw_tableIn (tgt := 52) C dX8_segment_21 (by rw [c5]; decide) (by rw [c5]; decide) (by rw [c5]; rfl) (by decide) ?_
      refine tw_aload_n C dX8_segment_52 0 rfl rfl ?_
      refine tw_get (K := RX8) (T := TX8) (N := 37) (v := .ref (q 1)) C 0 1 (fun _ h => List.mem_cons_of_mem _ (List.mem_append_right _ (h))) rfl rfl (by decide) (List.mem_cons_of_mem _ (List.mem_append_left _ (List.mem_append_left _ (List.mem_of_getElem? (i := 0) rfl)))) rfl rfl dX8_segment_53 ?_
      refine tw_iload_n C dX8_segment_56 1 rfl rfl ?_
      obtain ⟨hb10, hf⟩ := tw_ck hf
      refine tw_iald C 1 0 hb10 rfl rfl dX8_segment_57 ?_
      exact tw_endi (Wf := twM cI cZ q) hE hf dX8_segment_58 rfl
    have hf := tw_neg hf c5
    by_cases c6 : v2 = 1
    · have hf := tw_pos hf c6
      refine tw_tableIn (tgt := 59) C dX8_segment_21 (by rw [c6]; decide) (by rw [c6]; decide) (by rw [c6]; rfl) (by decide) ?_
      refine tw_aload_n C dX8_segment_59 0 rfl rfl ?_
      refine tw_get (K := RX8) (T := TX8) (N := 37) (v := .ref (q 2)) C 0 2 (fun _ h => List.mem_cons_of_mem _ (List.mem_append_right _ (h))) rfl rfl (by decide) (List.mem_cons_of_mem _ (List.mem_append_left _ (List.mem_append_left _ (List.mem_of_getElem? (i := 1) rfl)))) rfl rfl dX8_segment_60 ?_
      refine tw_iload_n C dX8_segment_63 1 rfl rfl ?_
      obtain ⟨hb11, hf⟩ := tw_ck hf
      refine tw_iald C 2 0 hb11 rfl rfl dX8_segment_64 ?_
      exact tw_endi (Wf := twM cI cZ q) hE hf dX8_segment_65 rfl
    have hf := tw_neg hf c6
    by_cases c7 : v2 = 2
    · have hf := tw_pos hf c7
      refine tw_tableIn (tgt := 66) C dX8_segment_21 (by rw [c7]; decide) (by rw [c7]; decide) (by rw [c7]; rfl) (by decide) ?_
      refine tw_aload_n C dX8_segment_66 0 rfl rfl ?_
      refine tw_iload_n C dX8_segment_67 1 rfl rfl ?_
      obtain ⟨y12, hc12, hf⟩ := tw_bd hf
      refine tw_cVi (As := [.int v1]) (stk := []) C (c_X8_tells l dC dI cI cZ q hc12) (cwV 1 C.hts gX8_segment_X8_tells rfl rfl rfl hd_X8_tells ⟨Nat.le_of_ble_eq_true rfl, Nat.le_of_ble_eq_true rfl⟩) 0 (ci := 8) rfl rfl rfl rfl rfl (Nat.le_of_ble_eq_true rfl) dX8_segment_68 ⟨Nat.zero_le _, Nat.zero_le _⟩ ?_
      exact tw_endi (Wf := twM cI cZ q) hE hf dX8_segment_71 rfl
    have hf := tw_neg hf c7
    by_cases c8 : v2 = 3
    · have hf := tw_pos hf c8
      refine tw_tableIn (tgt := 72) C dX8_segment_21 (by rw [c8]; decide) (by rw [c8]; decide) (by rw [c8]; rfl) (by decide) ?_
      refine tw_aload_n C dX8_segment_72 0 rfl rfl ?_
      refine tw_iload_n C dX8_segment_73 1 rfl rfl ?_
      obtain ⟨y13, hc13, hf⟩ := tw_bd hf
      refine tw_cVi (As := [.int v1]) (stk := []) C (c_X8_personsIn l dC dI cI cZ q hc13) (cwV 1 C.hts gX8_segment_X8_personsIn rfl rfl rfl hd_X8_personsIn ⟨Nat.le_of_ble_eq_true rfl, Nat.le_of_ble_eq_true rfl⟩) 0 (ci := 8) rfl rfl rfl rfl rfl (Nat.le_of_ble_eq_true rfl) dX8_segment_74 ⟨Nat.zero_le _, Nat.zero_le _⟩ ?_
      exact tw_endi (Wf := twM cI cZ q) hE hf dX8_segment_77 rfl
    have hf := tw_neg hf c8
    have K : twG p l e rm_X8_segment s m args below meth c 0 0 Q (dC, dI) A 3 (twM cI cZ q y3.2) 78 [(0, .ref (q 0)), (1, .int v1), (2, .int v2)] [] := by
      refine tw_iload_n C dX8_segment_78 1 rfl rfl ?_
      refine tw_aload_n C dX8_segment_79 0 rfl rfl ?_
      refine tw_get (K := RX8) (T := TX8) (N := 37) (v := .int (y3.2.1 6)) C 0 6 (fun _ h => List.mem_cons_of_mem _ (List.mem_append_right _ (h))) rfl rfl (by decide) (List.mem_cons_of_mem _ (List.mem_append_left _ (List.mem_append_left _ (List.mem_of_getElem? (i := 2) rfl)))) rfl rfl dX8_segment_80 ?_
      obtain ⟨y14, hc14, hf⟩ := tw_bd hf
      refine tw_cSi (As := [.int v1, .int (y3.2.1 6)]) (stk := []) C (c_X8_isIn l dC dI cI cZ q hc14) (va_cwS 2 C.hts gX8_segment_X8_isIn rfl rfl rfl hd_X8_isIn ⟨Nat.le_of_ble_eq_true rfl, Nat.le_of_ble_eq_true rfl⟩) rfl rfl (Nat.le_of_ble_eq_true rfl) dX8_segment_83 ⟨Nat.zero_le _, Nat.zero_le _⟩ ?_
      refine tw_if_ne (tgt := 93) C dX8_segment_86 (by decide) (fun c15 => ?_) (fun c15 => ?_)
      · have hf := tw_neg hf c15
        refine tw_iload_n C dX8_segment_93 1 rfl rfl ?_
        refine tw_aload_n C dX8_segment_94 0 rfl rfl ?_
        refine tw_get (K := RX8) (T := TX8) (N := 37) (v := .int (y14.2.1 7)) C 0 7 (fun _ h => List.mem_cons_of_mem _ (List.mem_append_right _ (h))) rfl rfl (by decide) (List.mem_cons_of_mem _ (List.mem_append_left _ (List.mem_append_left _ (List.mem_of_getElem? (i := 3) rfl)))) rfl rfl dX8_segment_95 ?_
        obtain ⟨y16, hc16, hf⟩ := tw_bd hf
        refine tw_cSi (As := [.int v1, .int (y14.2.1 7)]) (stk := []) C (c_X8_isIn l dC dI cI cZ q hc16) (va_cwS 2 C.hts gX8_segment_X8_isIn rfl rfl rfl hd_X8_isIn ⟨Nat.le_of_ble_eq_true rfl, Nat.le_of_ble_eq_true rfl⟩) rfl rfl (Nat.le_of_ble_eq_true rfl) dX8_segment_98 ⟨Nat.zero_le _, Nat.zero_le _⟩ ?_
        refine tw_if_eq (tgt := 108) C dX8_segment_101 (by decide) (fun c17 => ?_) (fun c17 => ?_)
        · have hf := tw_pos hf c17
          refine tw_iconst (v := 0) C dX8_segment_108 (by decide) ?_
          exact tw_endi (Wf := twM cI cZ q) hE hf dX8_segment_109 rfl
        · have hf := tw_neg hf c17
          refine tw_iconst (v := 1) C dX8_segment_104 (by decide) ?_
          refine tw_goto (tgt := 109) C dX8_segment_105 (by decide) ?_
          exact tw_endi (Wf := twM cI cZ q) hE hf dX8_segment_109 rfl
      · have hf := tw_pos hf c15
        refine tw_iconst (v := (-1)) C dX8_segment_89 (by decide) ?_
        refine tw_goto (tgt := 109) C dX8_segment_90 (by decide) ?_
        exact tw_endi (Wf := twM cI cZ q) hE hf dX8_segment_109 rfl
    exact tw_tableOut (tgt := 78) C dX8_segment_21 (tw_tout 3 (by decide) (fun k hk => by rcases (show k = 0 ∨ k = 1 ∨ k = 2 ∨ k = 3 by omega) with rfl | rfl | rfl | rfl <;> assumption)) (by decide) K
  · have hf := tw_pos hf c4
    refine tw_iconst (v := 0) C dX8_segment_18 (by decide) ?_
    exact tw_endi (Wf := twM cI cZ q) hE hf dX8_segment_19 rfl
end
/-! X8_flow: public int flow() -/
abbrev rm_X8_flow : Room := { frames := 0, cells := 0, slots := 0, locals := 0 }
def f_X8_flow (st : twS) : Option (Int32 × twS) :=
  (if twn (FP.dmul 4636737291354636288 ((twI st 36 0).2.2.2)) = true then some ((FP.d2i (FP.dmul 4636737291354636288 ((twI st 36 0).2.2.2))), (twI st 36 0)) else none)
section
variable {p : Program} {l : Launch} {e : Env} {s : State} {m : MethodId} {args : Array Value} {below : List Frame} {meth : Method} {c : Code} {Q : State → Prop} {dC : Nat → ClassId} {dI : Nat → Nat → Nat} {cI cZ : ClassId} {q : Nat → Nat} {A : Nat → Prop} {res : Int32 × twS}
set_option maxRecDepth 20000 in
theorem c_X8_flow (l : Launch) (dC : Nat → ClassId) (dI : Nat → Nat → Nat) (cI cZ : ClassId) (q : Nat → Nat) {st : twS} {res : Int32 × twS} (hf : f_X8_flow st = some res) : twMi l yX8_flow wsX8_flow rm_X8_flow (dC, dI) (twY cI cZ) [.ref (q 0)] (twM cI cZ q st) res.1 (twM cI cZ q res.2) := by
  refine tw_enti (cc := cX8_flow) (maxL := 1) (own := RX8) (by decide) rfl (Nat.le_of_ble_eq_true rfl) rfl ⟨rfl, rfl⟩ ?_
  intro p e s m below meth c A Q C hE
  generalize ([.ref (q 0)] : List Value).toArray = args at C hE ⊢
  refine tw_sub (lv' := [(0, .ref (q 0))]) [0] rfl ?_
  unfold f_X8_flow at hf
  refine tw_aload_n C dX8_flow_0 0 rfl rfl ?_
  refine tw_iconst (v := 0) C dX8_flow_1 (by decide) ?_
  refine tw_put (K := RX8) (T := TX8) (N := 37) C 0 36 tyX8 tyX8_ok nmX8 (fun _ h => List.mem_cons_of_mem _ (List.mem_append_right _ (h))) rfl rfl (by decide) (List.mem_cons_of_mem _ (List.mem_append_left _ (List.mem_of_getElem? (i := 0) rfl))) rfl rfl rfl rfl (Nat.le_of_ble_eq_true rfl) (tw_M_si36 cI cZ q st 0) dX8_flow_2 ?_
  refine tw_ldc2d C (List.mem_cons_of_mem _ (List.mem_append_left _ (List.mem_of_getElem? (i := 1) rfl))) dX8_flow_5 ?_
  refine tw_aload_n C dX8_flow_8 0 rfl rfl ?_
  refine tw_get (K := RX8) (T := TX8) (N := 37) (v := .double ((twI st 36 0).2.2.2)) C 0 16 (fun _ h => List.mem_cons_of_mem _ (List.mem_append_right _ (h))) rfl rfl (by decide) (List.mem_cons_of_mem _ (List.mem_append_left _ (List.mem_of_getElem? (i := 2) rfl))) rfl rfl dX8_flow_9 ?_
  obtain ⟨hn1, hf⟩ := tw_ck hf
  refine tw_dmul C dX8_flow_12 hn1 ?_
  refine tw_d2i C dX8_flow_13 ?_
  exact tw_endi (Wf := twM cI cZ q) hE hf dX8_flow_14 rfl
end
/-! X8_fan: public int fan(int) -/
abbrev rm_X8_fan : Room := { frames := 2, cells := 0, slots := 0, locals := 42 }
def f_X8_fan (st : twS) (v1 : Int32) : Option (Int32 × twS) :=
  ((f_X8_isFan st v1).bind fun y1 => ((f_X8_goes y1.2 y1.1 1 1).bind fun y2 => (if y2.1 = 0 then
    some (0, y2.2)
  else
    (if twb v1 3 = true then some ((y2.2.2.1 4 v1.toNatClampNeg), y2.2) else none))))
section
variable {p : Program} {l : Launch} {e : Env} {s : State} {m : MethodId} {args : Array Value} {below : List Frame} {meth : Method} {c : Code} {Q : State → Prop} {dC : Nat → ClassId} {dI : Nat → Nat → Nat} {cI cZ : ClassId} {q : Nat → Nat} {A : Nat → Prop} {res : Int32 × twS}
set_option maxRecDepth 20000 in
theorem c_X8_fan (l : Launch) (dC : Nat → ClassId) (dI : Nat → Nat → Nat) (cI cZ : ClassId) (q : Nat → Nat) {st : twS} {v1 : Int32} {res : Int32 × twS} (hf : f_X8_fan st v1 = some res) : twMi l yX8_fan wsX8_fan rm_X8_fan (dC, dI) (twY cI cZ) [.ref (q 0), .int v1] (twM cI cZ q st) res.1 (twM cI cZ q res.2) := by
  refine tw_enti (cc := cX8_fan) (maxL := 2) (own := RX8) (by decide) rfl (Nat.le_of_ble_eq_true rfl) rfl ⟨rfl, rfl⟩ ?_
  intro p e s m below meth c A Q C hE
  generalize ([.ref (q 0), .int v1] : List Value).toArray = args at C hE ⊢
  refine tw_sub (lv' := [(0, .ref (q 0)), (1, .int v1)]) [0, 1] rfl ?_
  unfold f_X8_fan at hf
  refine tw_aload_n C dX8_fan_0 0 rfl rfl ?_
  refine tw_iload_n C dX8_fan_1 1 rfl rfl ?_
  obtain ⟨y1, hc1, hf⟩ := tw_bd hf
  refine tw_cSi (As := [.int v1]) (stk := [.ref (q 0)]) C (c_X8_isFan l dC dI cI cZ q hc1) (va_cwS 1 C.hts gX8_fan_X8_isFan rfl rfl rfl hd_X8_isFan ⟨Nat.le_of_ble_eq_true rfl, Nat.le_of_ble_eq_true rfl⟩) rfl rfl (Nat.le_of_ble_eq_true rfl) dX8_fan_2 ⟨Nat.zero_le _, Nat.zero_le _⟩ ?_
  refine tw_iconst (v := 1) C dX8_fan_5 (by decide) ?_
  refine tw_iconst (v := 1) C dX8_fan_6 (by decide) ?_
  obtain ⟨y2, hc2, hf⟩ := tw_bd hf
  refine tw_cVi (As := [.int y1.1, .int 1, .int 1]) (stk := []) C (c_X8_goes l dC dI cI cZ q hc2) (cwV 3 C.hts gX8_fan_X8_goes rfl rfl rfl hd_X8_goes ⟨Nat.le_of_ble_eq_true rfl, Nat.le_of_ble_eq_true rfl⟩) 0 (ci := 8) rfl rfl rfl rfl rfl (Nat.le_of_ble_eq_true rfl) dX8_fan_7 ⟨Nat.zero_le _, Nat.zero_le _⟩ ?_
  refine tw_if_ne (tgt := 15) C dX8_fan_10 (by decide) (fun c3 => ?_) (fun c3 => ?_)
  · have hf := tw_neg hf c3
    refine tw_aload_n C dX8_fan_15 0 rfl rfl ?_
    refine tw_get (K := RX8) (T := TX8) (N := 37) (v := .ref (q 4)) C 0 4 (fun _ h => List.mem_cons_of_mem _ (List.mem_append_right _ (h))) rfl rfl (by decide) (List.mem_cons_of_mem _ (List.mem_append_left _ (List.mem_of_getElem? (i := 0) rfl))) rfl rfl dX8_fan_16 ?_
    refine tw_iload_n C dX8_fan_19 1 rfl rfl ?_
    obtain ⟨hb4, hf⟩ := tw_ck hf
    refine tw_iald C 4 0 hb4 rfl rfl dX8_fan_20 ?_
    exact tw_endi (Wf := twM cI cZ q) hE hf dX8_fan_21 rfl
  · have hf := tw_pos hf c3
    refine tw_iconst (v := 0) C dX8_fan_13 (by decide) ?_
    exact tw_endi (Wf := twM cI cZ q) hE hf dX8_fan_14 rfl
end
/-! X8_alarm: public int alarm() -/
abbrev rm_X8_alarm : Room := { frames := 0, cells := 0, slots := 0, locals := 0 }
def f_X8_alarm (st : twS) : Option (Int32 × twS) :=
  some (((twI st 36 0).1 24), (twI st 36 0))
section
variable {p : Program} {l : Launch} {e : Env} {s : State} {m : MethodId} {args : Array Value} {below : List Frame} {meth : Method} {c : Code} {Q : State → Prop} {dC : Nat → ClassId} {dI : Nat → Nat → Nat} {cI cZ : ClassId} {q : Nat → Nat} {A : Nat → Prop} {res : Int32 × twS}
set_option maxRecDepth 20000 in
theorem c_X8_alarm (l : Launch) (dC : Nat → ClassId) (dI : Nat → Nat → Nat) (cI cZ : ClassId) (q : Nat → Nat) {st : twS} {res : Int32 × twS} (hf : f_X8_alarm st = some res) : twMi l yX8_alarm wsX8_alarm rm_X8_alarm (dC, dI) (twY cI cZ) [.ref (q 0)] (twM cI cZ q st) res.1 (twM cI cZ q res.2) := by
  refine tw_enti (cc := cX8_alarm) (maxL := 1) (own := RX8) (by decide) rfl (Nat.le_of_ble_eq_true rfl) rfl ⟨rfl, rfl⟩ ?_
  intro p e s m below meth c A Q C hE
  generalize ([.ref (q 0)] : List Value).toArray = args at C hE ⊢
  refine tw_sub (lv' := [(0, .ref (q 0))]) [0] rfl ?_
  unfold f_X8_alarm at hf
  refine tw_aload_n C dX8_alarm_0 0 rfl rfl ?_
  refine tw_iconst (v := 0) C dX8_alarm_1 (by decide) ?_
  refine tw_put (K := RX8) (T := TX8) (N := 37) C 0 36 tyX8 tyX8_ok nmX8 (fun _ h => List.mem_cons_of_mem _ (List.mem_append_right _ (h))) rfl rfl (by decide) (List.mem_cons_of_mem _ (List.mem_append_left _ (List.mem_of_getElem? (i := 0) rfl))) rfl rfl rfl rfl (Nat.le_of_ble_eq_true rfl) (tw_M_si36 cI cZ q st 0) dX8_alarm_2 ?_
  refine tw_aload_n C dX8_alarm_5 0 rfl rfl ?_
  refine tw_get (K := RX8) (T := TX8) (N := 37) (v := .int ((twI st 36 0).1 24)) C 0 24 (fun _ h => List.mem_cons_of_mem _ (List.mem_append_right _ (h))) rfl rfl (by decide) (List.mem_cons_of_mem _ (List.mem_append_left _ (List.mem_of_getElem? (i := 1) rfl))) rfl rfl dX8_alarm_6 ?_
  exact tw_endi (Wf := twM cI cZ q) hE hf dX8_alarm_9 rfl
end
/-! X8_done: public int done(int) -/
abbrev rm_X8_done : Room := { frames := 1, cells := 0, slots := 0, locals := 23 }
def f_X8_done (st : twS) (v1 : Int32) : Option (Int32 × twS) :=
  ((f_X8_isBetween st v1 0 ((st.1 25) - 1)).bind fun y1 => ((f_X8_goes y1.2 y1.1 1 1).bind fun y2 => (if y2.1 = 0 then
    some (0, y2.2)
  else
    (if twb v1 10 = true then some ((y2.2.2.1 10 v1.toNatClampNeg), y2.2) else none))))
section
variable {p : Program} {l : Launch} {e : Env} {s : State} {m : MethodId} {args : Array Value} {below : List Frame} {meth : Method} {c : Code} {Q : State → Prop} {dC : Nat → ClassId} {dI : Nat → Nat → Nat} {cI cZ : ClassId} {q : Nat → Nat} {A : Nat → Prop} {res : Int32 × twS}
set_option maxRecDepth 20000 in
theorem c_X8_done (l : Launch) (dC : Nat → ClassId) (dI : Nat → Nat → Nat) (cI cZ : ClassId) (q : Nat → Nat) {st : twS} {v1 : Int32} {res : Int32 × twS} (hf : f_X8_done st v1 = some res) : twMi l yX8_done wsX8_done rm_X8_done (dC, dI) (twY cI cZ) [.ref (q 0), .int v1] (twM cI cZ q st) res.1 (twM cI cZ q res.2) := by
  refine tw_enti (cc := cX8_done) (maxL := 2) (own := RX8) (by decide) rfl (Nat.le_of_ble_eq_true rfl) rfl ⟨rfl, rfl⟩ ?_
  intro p e s m below meth c A Q C hE
  generalize ([.ref (q 0), .int v1] : List Value).toArray = args at C hE ⊢
  refine tw_sub (lv' := [(0, .ref (q 0)), (1, .int v1)]) [0, 1] rfl ?_
  unfold f_X8_done at hf
  refine tw_aload_n C dX8_done_0 0 rfl rfl ?_
  refine tw_iload_n C dX8_done_1 1 rfl rfl ?_
  refine tw_iconst (v := 0) C dX8_done_2 (by decide) ?_
  refine tw_aload_n C dX8_done_3 0 rfl rfl ?_
  refine tw_get (K := RX8) (T := TX8) (N := 37) (v := .int (st.1 25)) C 0 25 (fun _ h => List.mem_cons_of_mem _ (List.mem_append_right _ (h))) rfl rfl (by decide) (List.mem_cons_of_mem _ (List.mem_append_left _ (List.mem_of_getElem? (i := 0) rfl))) rfl rfl dX8_done_4 ?_
  refine tw_iconst (v := 1) C dX8_done_7 (by decide) ?_
  refine tw_isub C dX8_done_8 ?_
  obtain ⟨y1, hc1, hf⟩ := tw_bd hf
  refine tw_cSi (As := [.int v1, .int 0, .int ((st.1 25) - 1)]) (stk := [.ref (q 0)]) C (c_X8_isBetween l dC dI cI cZ q hc1) (va_cwS 3 C.hts gX8_done_X8_isBetween rfl rfl rfl hd_X8_isBetween ⟨Nat.le_of_ble_eq_true rfl, Nat.le_of_ble_eq_true rfl⟩) rfl rfl (Nat.le_of_ble_eq_true rfl) dX8_done_9 ⟨Nat.zero_le _, Nat.zero_le _⟩ ?_
  refine tw_iconst (v := 1) C dX8_done_12 (by decide) ?_
  refine tw_iconst (v := 1) C dX8_done_13 (by decide) ?_
  obtain ⟨y2, hc2, hf⟩ := tw_bd hf
  refine tw_cVi (As := [.int y1.1, .int 1, .int 1]) (stk := []) C (c_X8_goes l dC dI cI cZ q hc2) (cwV 3 C.hts gX8_done_X8_goes rfl rfl rfl hd_X8_goes ⟨Nat.le_of_ble_eq_true rfl, Nat.le_of_ble_eq_true rfl⟩) 0 (ci := 8) rfl rfl rfl rfl rfl (Nat.le_of_ble_eq_true rfl) dX8_done_14 ⟨Nat.zero_le _, Nat.zero_le _⟩ ?_
  refine tw_if_ne (tgt := 22) C dX8_done_17 (by decide) (fun c3 => ?_) (fun c3 => ?_)
  · have hf := tw_neg hf c3
    refine tw_aload_n C dX8_done_22 0 rfl rfl ?_
    refine tw_get (K := RX8) (T := TX8) (N := 37) (v := .ref (q 10)) C 0 28 (fun _ h => List.mem_cons_of_mem _ (List.mem_append_right _ (h))) rfl rfl (by decide) (List.mem_cons_of_mem _ (List.mem_append_left _ (List.mem_of_getElem? (i := 1) rfl))) rfl rfl dX8_done_23 ?_
    refine tw_iload_n C dX8_done_26 1 rfl rfl ?_
    obtain ⟨hb4, hf⟩ := tw_ck hf
    refine tw_iald C 10 0 hb4 rfl rfl dX8_done_27 ?_
    exact tw_endi (Wf := twM cI cZ q) hE hf dX8_done_28 rfl
  · have hf := tw_pos hf c3
    refine tw_iconst (v := 0) C dX8_done_20 (by decide) ?_
    exact tw_endi (Wf := twM cI cZ q) hE hf dX8_done_21 rfl
end
/-! X8_person: public int person(int, int) -/
abbrev rm_X8_person : Room := { frames := 1, cells := 0, slots := 0, locals := 23 }
def f_X8_person (st : twS) (v1 : Int32) (v2 : Int32) : Option (Int32 × twS) :=
  ((f_X8_isBetween st v1 0 ((st.1 31) - 1)).bind fun y1 => ((f_X8_isBetween y1.2 v2 0 2).bind fun y2 => ((f_X8_goes y2.2 y1.1 y2.1 1).bind fun y3 => (if y3.1 = 0 then
    some (0, y3.2)
  else
    (if v2 = 0 then
    (if twb v1 30 = true then some ((y3.2.2.1 11 v1.toNatClampNeg), y3.2) else none)
  else
    (if v2 = 2 then
    (if twb v1 30 = true then some ((y3.2.2.1 14 v1.toNatClampNeg), y3.2) else none)
  else
    (if twb v1 30 = true then (if (y3.2.2.1 11 v1.toNatClampNeg) = 3 then
    some ((-1), y3.2)
  else
    (if twb v1 30 = true then some ((y3.2.2.1 12 v1.toNatClampNeg), y3.2) else none)) else none)))))))
section
variable {p : Program} {l : Launch} {e : Env} {s : State} {m : MethodId} {args : Array Value} {below : List Frame} {meth : Method} {c : Code} {Q : State → Prop} {dC : Nat → ClassId} {dI : Nat → Nat → Nat} {cI cZ : ClassId} {q : Nat → Nat} {A : Nat → Prop} {res : Int32 × twS}
set_option maxRecDepth 20000 in
theorem c_X8_person (l : Launch) (dC : Nat → ClassId) (dI : Nat → Nat → Nat) (cI cZ : ClassId) (q : Nat → Nat) {st : twS} {v1 : Int32} {v2 : Int32} {res : Int32 × twS} (hf : f_X8_person st v1 v2 = some res) : twMi l yX8_person wsX8_person rm_X8_person (dC, dI) (twY cI cZ) [.ref (q 0), .int v1, .int v2] (twM cI cZ q st) res.1 (twM cI cZ q res.2) := by
  refine tw_enti (cc := cX8_person) (maxL := 3) (own := RX8) (by decide) rfl (Nat.le_of_ble_eq_true rfl) rfl ⟨rfl, rfl⟩ ?_
  intro p e s m below meth c A Q C hE
  generalize ([.ref (q 0), .int v1, .int v2] : List Value).toArray = args at C hE ⊢
  refine tw_sub (lv' := [(0, .ref (q 0)), (1, .int v1), (2, .int v2)]) [0, 1, 2] rfl ?_
  unfold f_X8_person at hf
  refine tw_aload_n C dX8_person_0 0 rfl rfl ?_
  refine tw_iload_n C dX8_person_1 1 rfl rfl ?_
  refine tw_iconst (v := 0) C dX8_person_2 (by decide) ?_
  refine tw_aload_n C dX8_person_3 0 rfl rfl ?_
  refine tw_get (K := RX8) (T := TX8) (N := 37) (v := .int (st.1 31)) C 0 31 (fun _ h => List.mem_cons_of_mem _ (List.mem_append_right _ (h))) rfl rfl (by decide) (List.mem_cons_of_mem _ (List.mem_append_left _ (List.mem_of_getElem? (i := 0) rfl))) rfl rfl dX8_person_4 ?_
  refine tw_iconst (v := 1) C dX8_person_7 (by decide) ?_
  refine tw_isub C dX8_person_8 ?_
  obtain ⟨y1, hc1, hf⟩ := tw_bd hf
  refine tw_cSi (As := [.int v1, .int 0, .int ((st.1 31) - 1)]) (stk := [.ref (q 0)]) C (c_X8_isBetween l dC dI cI cZ q hc1) (va_cwS 3 C.hts gX8_person_X8_isBetween rfl rfl rfl hd_X8_isBetween ⟨Nat.le_of_ble_eq_true rfl, Nat.le_of_ble_eq_true rfl⟩) rfl rfl (Nat.le_of_ble_eq_true rfl) dX8_person_9 ⟨Nat.zero_le _, Nat.zero_le _⟩ ?_
  refine tw_iload_n C dX8_person_12 2 rfl rfl ?_
  refine tw_iconst (v := 0) C dX8_person_13 (by decide) ?_
  refine tw_iconst (v := 2) C dX8_person_14 (by decide) ?_
  obtain ⟨y2, hc2, hf⟩ := tw_bd hf
  refine tw_cSi (As := [.int v2, .int 0, .int 2]) (stk := [.int y1.1, .ref (q 0)]) C (c_X8_isBetween l dC dI cI cZ q hc2) (va_cwS 3 C.hts gX8_person_X8_isBetween rfl rfl rfl hd_X8_isBetween ⟨Nat.le_of_ble_eq_true rfl, Nat.le_of_ble_eq_true rfl⟩) rfl rfl (Nat.le_of_ble_eq_true rfl) dX8_person_15 ⟨Nat.zero_le _, Nat.zero_le _⟩ ?_
  refine tw_iconst (v := 1) C dX8_person_18 (by decide) ?_
  obtain ⟨y3, hc3, hf⟩ := tw_bd hf
  refine tw_cVi (As := [.int y1.1, .int y2.1, .int 1]) (stk := []) C (c_X8_goes l dC dI cI cZ q hc3) (cwV 3 C.hts gX8_person_X8_goes rfl rfl rfl hd_X8_goes ⟨Nat.le_of_ble_eq_true rfl, Nat.le_of_ble_eq_true rfl⟩) 0 (ci := 8) rfl rfl rfl rfl rfl (Nat.le_of_ble_eq_true rfl) dX8_person_19 ⟨Nat.zero_le _, Nat.zero_le _⟩ ?_
  refine tw_if_ne (tgt := 27) C dX8_person_22 (by decide) (fun c4 => ?_) (fun c4 => ?_)
  · have hf := tw_neg hf c4
    refine tw_iload_n C dX8_person_27 2 rfl rfl ?_
    refine tw_if_ne (tgt := 40) C dX8_person_28 (by decide) (fun c5 => ?_) (fun c5 => ?_)
    · have hf := tw_neg hf c5
      refine tw_iload_n C dX8_person_40 2 rfl rfl ?_
      refine tw_iconst (v := 2) C dX8_person_41 (by decide) ?_
      refine tw_icmp_ne (tgt := 54) C dX8_person_42 (by decide) (fun c6 => ?_) (fun c6 => ?_)
      · have hf := tw_neg hf c6
        refine tw_aload_n C dX8_person_54 0 rfl rfl ?_
        refine tw_get (K := RX8) (T := TX8) (N := 37) (v := .ref (q 11)) C 0 32 (fun _ h => List.mem_cons_of_mem _ (List.mem_append_right _ (h))) rfl rfl (by decide) (List.mem_cons_of_mem _ (List.mem_append_left _ (List.mem_of_getElem? (i := 1) rfl))) rfl rfl dX8_person_55 ?_
        refine tw_iload_n C dX8_person_58 1 rfl rfl ?_
        obtain ⟨hb7, hf⟩ := tw_ck hf
        refine tw_iald C 11 0 hb7 rfl rfl dX8_person_59 ?_
        refine tw_iconst (v := 3) C dX8_person_60 (by decide) ?_
        refine tw_icmp_ne (tgt := 68) C dX8_person_61 (by decide) (fun c8 => ?_) (fun c8 => ?_)
        · have hf := tw_neg hf c8
          refine tw_aload_n C dX8_person_68 0 rfl rfl ?_
          refine tw_get (K := RX8) (T := TX8) (N := 37) (v := .ref (q 12)) C 0 33 (fun _ h => List.mem_cons_of_mem _ (List.mem_append_right _ (h))) rfl rfl (by decide) (List.mem_cons_of_mem _ (List.mem_append_left _ (List.mem_of_getElem? (i := 3) rfl))) rfl rfl dX8_person_69 ?_
          refine tw_iload_n C dX8_person_72 1 rfl rfl ?_
          obtain ⟨hb9, hf⟩ := tw_ck hf
          refine tw_iald C 12 0 hb9 rfl rfl dX8_person_73 ?_
          exact tw_endi (Wf := twM cI cZ q) hE hf dX8_person_74 rfl
        · have hf := tw_pos hf c8
          refine tw_iconst (v := (-1)) C dX8_person_64 (by decide) ?_
          refine tw_goto (tgt := 74) C dX8_person_65 (by decide) ?_
          exact tw_endi (Wf := twM cI cZ q) hE hf dX8_person_74 rfl
      · have hf := tw_pos hf c6
        refine tw_aload_n C dX8_person_45 0 rfl rfl ?_
        refine tw_get (K := RX8) (T := TX8) (N := 37) (v := .ref (q 14)) C 0 35 (fun _ h => List.mem_cons_of_mem _ (List.mem_append_right _ (h))) rfl rfl (by decide) (List.mem_cons_of_mem _ (List.mem_append_left _ (List.mem_of_getElem? (i := 2) rfl))) rfl rfl dX8_person_46 ?_
        refine tw_iload_n C dX8_person_49 1 rfl rfl ?_
        obtain ⟨hb10, hf⟩ := tw_ck hf
        refine tw_iald C 14 0 hb10 rfl rfl dX8_person_50 ?_
        refine tw_goto (tgt := 74) C dX8_person_51 (by decide) ?_
        exact tw_endi (Wf := twM cI cZ q) hE hf dX8_person_74 rfl
    · have hf := tw_pos hf c5
      refine tw_aload_n C dX8_person_31 0 rfl rfl ?_
      refine tw_get (K := RX8) (T := TX8) (N := 37) (v := .ref (q 11)) C 0 32 (fun _ h => List.mem_cons_of_mem _ (List.mem_append_right _ (h))) rfl rfl (by decide) (List.mem_cons_of_mem _ (List.mem_append_left _ (List.mem_of_getElem? (i := 1) rfl))) rfl rfl dX8_person_32 ?_
      refine tw_iload_n C dX8_person_35 1 rfl rfl ?_
      obtain ⟨hb11, hf⟩ := tw_ck hf
      refine tw_iald C 11 0 hb11 rfl rfl dX8_person_36 ?_
      refine tw_goto (tgt := 74) C dX8_person_37 (by decide) ?_
      exact tw_endi (Wf := twM cI cZ q) hE hf dX8_person_74 rfl
  · have hf := tw_pos hf c4
    refine tw_iconst (v := 0) C dX8_person_25 (by decide) ?_
    exact tw_endi (Wf := twM cI cZ q) hE hf dX8_person_26 rfl
end
/-! X8_counted: private int counted(int) -/
abbrev rm_X8_counted : Room := { frames := 0, cells := 0, slots := 0, locals := 0 }
def f_X8_counted_L4b (rec : Int32 → Int32 → Int32 → twS → Option (Int32 × twS)) (v1 : Int32) (v2 : Int32) (v3 : Int32) (st : twS) : Option (Int32 × twS) :=
  (if (st.1 31) ≤ v3 then
    some (v2, st)
  else
    (if twb v3 30 = true then (if (st.2.1 11 v3.toNatClampNeg) = v1 then
    rec v1 (v2 + 1) (v3 + 1) st
  else
    rec v1 (v2 + 0) (v3 + 1) st) else none))
def f_X8_counted_L4 : Nat → Int32 → Int32 → Int32 → twS → Option (Int32 × twS)
  | 0 => fun _ _ _ _ => none
  | n + 1 => fun v1 v2 v3 st => f_X8_counted_L4b (f_X8_counted_L4 n) v1 v2 v3 st
def f_X8_counted (st : twS) (v1 : Int32) : Option (Int32 × twS) :=
  f_X8_counted_L4 twN v1 0 0 st
section
variable {p : Program} {l : Launch} {e : Env} {s : State} {m : MethodId} {args : Array Value} {below : List Frame} {meth : Method} {c : Code} {Q : State → Prop} {dC : Nat → ClassId} {dI : Nat → Nat → Nat} {cI cZ : ClassId} {q : Nat → Nat} {A : Nat → Prop} {res : Int32 × twS}
set_option maxRecDepth 20000 in
theorem m_X8_counted_L4b (C : twC p s m args meth c cX8_counted 4 RX8 wsX8_counted (dC, dI) (twY cI cZ) A) (hE : twEi p l e rm_X8_counted s m args below meth c 0 0 Q (dC, dI) A 4 cX8_counted .int res.1 (twM cI cZ q res.2)) {rec : Int32 → Int32 → Int32 → twS → Option (Int32 × twS)} (hrec : ∀ (v1 : Int32) (v2 : Int32) (v3 : Int32) (st : twS), rec v1 v2 v3 st = some res → twG p l e rm_X8_counted s m args below meth c 0 0 Q (dC, dI) A 4 (twM cI cZ q st) 4 [(0, .ref (q 0)), (1, .int v1), (2, .int v2), (3, .int v3)] []) : ∀ (v1 : Int32) (v2 : Int32) (v3 : Int32) (st : twS), f_X8_counted_L4b rec v1 v2 v3 st = some res → twG p l e rm_X8_counted s m args below meth c 0 0 Q (dC, dI) A 4 (twM cI cZ q st) 4 [(0, .ref (q 0)), (1, .int v1), (2, .int v2), (3, .int v3)] [] := by
  intro v1 v2 v3 st hf
  unfold f_X8_counted_L4b at hf
  refine tw_iload_n C dX8_counted_4 3 rfl rfl ?_
  refine tw_aload_n C dX8_counted_5 0 rfl rfl ?_
  refine tw_get (K := RX8) (T := TX8) (N := 37) (v := .int (st.1 31)) C 0 31 (fun _ h => List.mem_cons_of_mem _ (List.mem_append_right _ (h))) rfl rfl (by decide) (List.mem_cons_of_mem _ (List.mem_append_left _ (List.mem_of_getElem? (i := 0) rfl))) rfl rfl dX8_counted_6 ?_
  refine tw_icmp_ge (tgt := 36) C dX8_counted_9 (by decide) (fun c4001 => ?_) (fun c4001 => ?_)
  · have hf := tw_pos hf c4001
    refine tw_iload_n C dX8_counted_36 2 rfl rfl ?_
    exact tw_endi (Wf := twM cI cZ q) hE hf dX8_counted_37 rfl
  · have hf := tw_neg hf c4001
    refine tw_iload_n C dX8_counted_12 2 rfl rfl ?_
    refine tw_aload_n C dX8_counted_13 0 rfl rfl ?_
    refine tw_get (K := RX8) (T := TX8) (N := 37) (v := .ref (q 11)) C 0 32 (fun _ h => List.mem_cons_of_mem _ (List.mem_append_right _ (h))) rfl rfl (by decide) (List.mem_cons_of_mem _ (List.mem_append_left _ (List.mem_of_getElem? (i := 1) rfl))) rfl rfl dX8_counted_14 ?_
    refine tw_iload_n C dX8_counted_17 3 rfl rfl ?_
    obtain ⟨hb4002, hf⟩ := tw_ck hf
    refine tw_iald C 11 0 hb4002 rfl rfl dX8_counted_18 ?_
    refine tw_iload_n C dX8_counted_19 1 rfl rfl ?_
    refine tw_icmp_ne (tgt := 27) C dX8_counted_20 (by decide) (fun c4003 => ?_) (fun c4003 => ?_)
    · have hf := tw_neg hf c4003
      refine tw_iconst (v := 0) C dX8_counted_27 (by decide) ?_
      refine tw_iadd C dX8_counted_28 ?_
      refine tw_istore_n (lv' := [(2, .int (v2 + 0)), (0, .ref (q 0)), (1, .int v1), (3, .int v3)]) C dX8_counted_29 rfl (by decide) rfl ?_
      refine tw_iinc (v := (v3 + 1)) (lv' := [(3, .int (v3 + 1)), (2, .int (v2 + 0)), (0, .ref (q 0)), (1, .int v1)]) C dX8_counted_30 (k := 3) rfl rfl (by decide) rfl ?_
      refine tw_goto (tgt := 4) C dX8_counted_33 (by decide) ?_
      refine tw_sub [2, 3, 1, 0] rfl ?_
      exact hrec v1 (v2 + 0) (v3 + 1) st hf
    · have hf := tw_pos hf c4003
      refine tw_iconst (v := 1) C dX8_counted_23 (by decide) ?_
      refine tw_goto (tgt := 28) C dX8_counted_24 (by decide) ?_
      refine tw_iadd C dX8_counted_28 ?_
      refine tw_istore_n (lv' := [(2, .int (v2 + 1)), (0, .ref (q 0)), (1, .int v1), (3, .int v3)]) C dX8_counted_29 rfl (by decide) rfl ?_
      refine tw_iinc (v := (v3 + 1)) (lv' := [(3, .int (v3 + 1)), (2, .int (v2 + 1)), (0, .ref (q 0)), (1, .int v1)]) C dX8_counted_30 (k := 3) rfl rfl (by decide) rfl ?_
      refine tw_goto (tgt := 4) C dX8_counted_33 (by decide) ?_
      refine tw_sub [2, 3, 1, 0] rfl ?_
      exact hrec v1 (v2 + 1) (v3 + 1) st hf
theorem m_X8_counted_L4 (C : twC p s m args meth c cX8_counted 4 RX8 wsX8_counted (dC, dI) (twY cI cZ) A) (hE : twEi p l e rm_X8_counted s m args below meth c 0 0 Q (dC, dI) A 4 cX8_counted .int res.1 (twM cI cZ q res.2)) : ∀ (n : Nat) (v1 : Int32) (v2 : Int32) (v3 : Int32) (st : twS), f_X8_counted_L4 n v1 v2 v3 st = some res → twG p l e rm_X8_counted s m args below meth c 0 0 Q (dC, dI) A 4 (twM cI cZ q st) 4 [(0, .ref (q 0)), (1, .int v1), (2, .int v2), (3, .int v3)] [] := by
  intro n
  induction n with
  | zero =>
    intro v1 v2 v3 st hf
    have hf : none = some res := hf
    cases hf
  | succ n ih =>
    intro v1 v2 v3 st hf
    exact m_X8_counted_L4b C hE ih v1 v2 v3 st hf
set_option maxRecDepth 20000 in
theorem c_X8_counted (l : Launch) (dC : Nat → ClassId) (dI : Nat → Nat → Nat) (cI cZ : ClassId) (q : Nat → Nat) {st : twS} {v1 : Int32} {res : Int32 × twS} (hf : f_X8_counted st v1 = some res) : twMi l yX8_counted wsX8_counted rm_X8_counted (dC, dI) (twY cI cZ) [.ref (q 0), .int v1] (twM cI cZ q st) res.1 (twM cI cZ q res.2) := by
  refine tw_enti (cc := cX8_counted) (maxL := 4) (own := RX8) (by decide) rfl (Nat.le_of_ble_eq_true rfl) rfl ⟨rfl, rfl⟩ ?_
  intro p e s m below meth c A Q C hE
  generalize ([.ref (q 0), .int v1] : List Value).toArray = args at C hE ⊢
  refine tw_sub (lv' := [(0, .ref (q 0)), (1, .int v1)]) [0, 1] rfl ?_
  unfold f_X8_counted at hf
  refine tw_iconst (v := 0) C dX8_counted_0 (by decide) ?_
  refine tw_istore_n (lv' := [(2, .int 0), (0, .ref (q 0)), (1, .int v1)]) C dX8_counted_1 rfl (by decide) rfl ?_
  refine tw_iconst (v := 0) C dX8_counted_2 (by decide) ?_
  refine tw_istore_n (lv' := [(3, .int 0), (2, .int 0), (0, .ref (q 0)), (1, .int v1)]) C dX8_counted_3 rfl (by decide) rfl ?_
  refine tw_sub [2, 3, 1, 0] rfl ?_
  exact m_X8_counted_L4 C hE twN v1 0 0 st hf
end
/-! X8_count: public int count(int) -/
abbrev rm_X8_count : Room := { frames := 1, cells := 0, slots := 0, locals := 23 }
def f_X8_count (st : twS) (v1 : Int32) : Option (Int32 × twS) :=
  ((f_X8_isBetween st v1 0 4).bind fun y1 => ((f_X8_goes y1.2 y1.1 1 1).bind fun y2 => (if y2.1 = 0 then
    some (0, y2.2)
  else
    ((f_X8_counted y2.2 v1).bind fun y4 => some (y4.1, y4.2)))))
section
variable {p : Program} {l : Launch} {e : Env} {s : State} {m : MethodId} {args : Array Value} {below : List Frame} {meth : Method} {c : Code} {Q : State → Prop} {dC : Nat → ClassId} {dI : Nat → Nat → Nat} {cI cZ : ClassId} {q : Nat → Nat} {A : Nat → Prop} {res : Int32 × twS}
set_option maxRecDepth 20000 in
theorem c_X8_count (l : Launch) (dC : Nat → ClassId) (dI : Nat → Nat → Nat) (cI cZ : ClassId) (q : Nat → Nat) {st : twS} {v1 : Int32} {res : Int32 × twS} (hf : f_X8_count st v1 = some res) : twMi l yX8_count wsX8_count rm_X8_count (dC, dI) (twY cI cZ) [.ref (q 0), .int v1] (twM cI cZ q st) res.1 (twM cI cZ q res.2) := by
  refine tw_enti (cc := cX8_count) (maxL := 2) (own := RX8) (by decide) rfl (Nat.le_of_ble_eq_true rfl) rfl ⟨rfl, rfl⟩ ?_
  intro p e s m below meth c A Q C hE
  generalize ([.ref (q 0), .int v1] : List Value).toArray = args at C hE ⊢
  refine tw_sub (lv' := [(0, .ref (q 0)), (1, .int v1)]) [0, 1] rfl ?_
  unfold f_X8_count at hf
  refine tw_aload_n C dX8_count_0 0 rfl rfl ?_
  refine tw_iload_n C dX8_count_1 1 rfl rfl ?_
  refine tw_iconst (v := 0) C dX8_count_2 (by decide) ?_
  refine tw_iconst (v := 4) C dX8_count_3 (by decide) ?_
  obtain ⟨y1, hc1, hf⟩ := tw_bd hf
  refine tw_cSi (As := [.int v1, .int 0, .int 4]) (stk := [.ref (q 0)]) C (c_X8_isBetween l dC dI cI cZ q hc1) (va_cwS 3 C.hts gX8_count_X8_isBetween rfl rfl rfl hd_X8_isBetween ⟨Nat.le_of_ble_eq_true rfl, Nat.le_of_ble_eq_true rfl⟩) rfl rfl (Nat.le_of_ble_eq_true rfl) dX8_count_4 ⟨Nat.zero_le _, Nat.zero_le _⟩ ?_
  refine tw_iconst (v := 1) C dX8_count_7 (by decide) ?_
  refine tw_iconst (v := 1) C dX8_count_8 (by decide) ?_
  obtain ⟨y2, hc2, hf⟩ := tw_bd hf
  refine tw_cVi (As := [.int y1.1, .int 1, .int 1]) (stk := []) C (c_X8_goes l dC dI cI cZ q hc2) (cwV 3 C.hts gX8_count_X8_goes rfl rfl rfl hd_X8_goes ⟨Nat.le_of_ble_eq_true rfl, Nat.le_of_ble_eq_true rfl⟩) 0 (ci := 8) rfl rfl rfl rfl rfl (Nat.le_of_ble_eq_true rfl) dX8_count_9 ⟨Nat.zero_le _, Nat.zero_le _⟩ ?_
  refine tw_if_ne (tgt := 17) C dX8_count_12 (by decide) (fun c3 => ?_) (fun c3 => ?_)
  · have hf := tw_neg hf c3
    refine tw_aload_n C dX8_count_17 0 rfl rfl ?_
    refine tw_iload_n C dX8_count_18 1 rfl rfl ?_
    obtain ⟨y4, hc4, hf⟩ := tw_bd hf
    refine tw_cVi (As := [.int v1]) (stk := []) C (c_X8_counted l dC dI cI cZ q hc4) (cwV 1 C.hts gX8_count_X8_counted rfl rfl rfl hd_X8_counted ⟨Nat.le_of_ble_eq_true rfl, Nat.le_of_ble_eq_true rfl⟩) 0 (ci := 8) rfl rfl rfl rfl rfl (Nat.le_of_ble_eq_true rfl) dX8_count_19 ⟨Nat.zero_le _, Nat.zero_le _⟩ ?_
    exact tw_endi (Wf := twM cI cZ q) hE hf dX8_count_22 rfl
  · have hf := tw_pos hf c3
    refine tw_iconst (v := 0) C dX8_count_15 (by decide) ?_
    exact tw_endi (Wf := twM cI cZ q) hE hf dX8_count_16 rfl
end
/-! X8_gone: public int gone() -/
abbrev rm_X8_gone : Room := { frames := 0, cells := 0, slots := 0, locals := 0 }
def f_X8_gone (st : twS) : Option (Int32 × twS) :=
  some (((twI st 36 0).1 22), (twI st 36 0))
section
variable {p : Program} {l : Launch} {e : Env} {s : State} {m : MethodId} {args : Array Value} {below : List Frame} {meth : Method} {c : Code} {Q : State → Prop} {dC : Nat → ClassId} {dI : Nat → Nat → Nat} {cI cZ : ClassId} {q : Nat → Nat} {A : Nat → Prop} {res : Int32 × twS}
set_option maxRecDepth 20000 in
theorem c_X8_gone (l : Launch) (dC : Nat → ClassId) (dI : Nat → Nat → Nat) (cI cZ : ClassId) (q : Nat → Nat) {st : twS} {res : Int32 × twS} (hf : f_X8_gone st = some res) : twMi l yX8_gone wsX8_gone rm_X8_gone (dC, dI) (twY cI cZ) [.ref (q 0)] (twM cI cZ q st) res.1 (twM cI cZ q res.2) := by
  refine tw_enti (cc := cX8_gone) (maxL := 1) (own := RX8) (by decide) rfl (Nat.le_of_ble_eq_true rfl) rfl ⟨rfl, rfl⟩ ?_
  intro p e s m below meth c A Q C hE
  generalize ([.ref (q 0)] : List Value).toArray = args at C hE ⊢
  refine tw_sub (lv' := [(0, .ref (q 0))]) [0] rfl ?_
  unfold f_X8_gone at hf
  refine tw_aload_n C dX8_gone_0 0 rfl rfl ?_
  refine tw_iconst (v := 0) C dX8_gone_1 (by decide) ?_
  refine tw_put (K := RX8) (T := TX8) (N := 37) C 0 36 tyX8 tyX8_ok nmX8 (fun _ h => List.mem_cons_of_mem _ (List.mem_append_right _ (h))) rfl rfl (by decide) (List.mem_cons_of_mem _ (List.mem_append_left _ (List.mem_of_getElem? (i := 0) rfl))) rfl rfl rfl rfl (Nat.le_of_ble_eq_true rfl) (tw_M_si36 cI cZ q st 0) dX8_gone_2 ?_
  refine tw_aload_n C dX8_gone_5 0 rfl rfl ?_
  refine tw_get (K := RX8) (T := TX8) (N := 37) (v := .int ((twI st 36 0).1 22)) C 0 22 (fun _ h => List.mem_cons_of_mem _ (List.mem_append_right _ (h))) rfl rfl (by decide) (List.mem_cons_of_mem _ (List.mem_append_left _ (List.mem_of_getElem? (i := 1) rfl))) rfl rfl dX8_gone_6 ?_
  exact tw_endi (Wf := twM cI cZ q) hE hf dX8_gone_9 rfl
end
/-! X8_balances: public boolean balances() -/
abbrev rm_X8_balances : Room := { frames := 1, cells := 0, slots := 0, locals := 23 }
def f_X8_balances_L37b (rec : Int32 → Int32 → Int32 → twS → Option (Int32 × twS)) (v1 : Int32) (v2 : Int32) (v3 : Int32) (st : twS) : Option (Int32 × twS) :=
  (if 4 < v3 then
    (if v1 = (st.1 21) then
    (if v2 = (st.1 31) then
    some (1, st)
  else
    some (0, st))
  else
    some (0, st))
  else
    ((f_X8_counted st v3).bind fun y37004 => rec v1 (v2 + y37004.1) (v3 + 1) y37004.2))
def f_X8_balances_L37 : Nat → Int32 → Int32 → Int32 → twS → Option (Int32 × twS)
  | 0 => fun _ _ _ _ => none
  | n + 1 => fun v1 v2 v3 st => f_X8_balances_L37b (f_X8_balances_L37 n) v1 v2 v3 st
def f_X8_balances_L12b (rec : Int32 → Int32 → twS → Option (Int32 × twS)) (v1 : Int32) (v2 : Int32) (st : twS) : Option (Int32 × twS) :=
  (if 12 ≤ v2 then
    f_X8_balances_L37 twN v1 0 0 st
  else
    (if twb v2 12 = true then rec (v1 + (st.2.1 1 v2.toNatClampNeg)) (v2 + 1) st else none))
def f_X8_balances_L12 : Nat → Int32 → Int32 → twS → Option (Int32 × twS)
  | 0 => fun _ _ _ => none
  | n + 1 => fun v1 v2 st => f_X8_balances_L12b (f_X8_balances_L12 n) v1 v2 st
def f_X8_balances (st : twS) : Option (Int32 × twS) :=
  f_X8_balances_L12 twN ((twI st 36 0).1 22) 0 (twI st 36 0)
section
variable {p : Program} {l : Launch} {e : Env} {s : State} {m : MethodId} {args : Array Value} {below : List Frame} {meth : Method} {c : Code} {Q : State → Prop} {dC : Nat → ClassId} {dI : Nat → Nat → Nat} {cI cZ : ClassId} {q : Nat → Nat} {A : Nat → Prop} {res : Int32 × twS}
set_option maxRecDepth 20000 in
theorem m_X8_balances_L37b (C : twC p s m args meth c cX8_balances 4 RX8 wsX8_balances (dC, dI) (twY cI cZ) A) (hE : twEi p l e rm_X8_balances s m args below meth c 0 0 Q (dC, dI) A 4 cX8_balances .boolean res.1 (twM cI cZ q res.2)) {rec : Int32 → Int32 → Int32 → twS → Option (Int32 × twS)} (hrec : ∀ (v1 : Int32) (v2 : Int32) (v3 : Int32) (st : twS), rec v1 v2 v3 st = some res → twG p l e rm_X8_balances s m args below meth c 0 0 Q (dC, dI) A 4 (twM cI cZ q st) 37 [(0, .ref (q 0)), (1, .int v1), (2, .int v2), (3, .int v3)] []) : ∀ (v1 : Int32) (v2 : Int32) (v3 : Int32) (st : twS), f_X8_balances_L37b rec v1 v2 v3 st = some res → twG p l e rm_X8_balances s m args below meth c 0 0 Q (dC, dI) A 4 (twM cI cZ q st) 37 [(0, .ref (q 0)), (1, .int v1), (2, .int v2), (3, .int v3)] [] := by
  intro v1 v2 v3 st hf
  unfold f_X8_balances_L37b at hf
  refine tw_iload_n C dX8_balances_37 3 rfl rfl ?_
  refine tw_iconst (v := 4) C dX8_balances_38 (by decide) ?_
  refine tw_icmp_gt (tgt := 56) C dX8_balances_39 (by decide) (fun c37001 => ?_) (fun c37001 => ?_)
  · have hf := tw_pos hf c37001
    refine tw_iload_n C dX8_balances_56 1 rfl rfl ?_
    refine tw_aload_n C dX8_balances_57 0 rfl rfl ?_
    refine tw_get (K := RX8) (T := TX8) (N := 37) (v := .int (st.1 21)) C 0 21 (fun _ h => List.mem_cons_of_mem _ (List.mem_append_right _ (h))) rfl rfl (by decide) (List.mem_cons_of_mem _ (List.mem_append_left _ (List.mem_of_getElem? (i := 3) rfl))) rfl rfl dX8_balances_58 ?_
    refine tw_icmp_ne (tgt := 76) C dX8_balances_61 (by decide) (fun c37002 => ?_) (fun c37002 => ?_)
    · have hf := tw_neg hf c37002
      refine tw_iconst (v := 0) C dX8_balances_76 (by decide) ?_
      exact tw_endi (Wf := twM cI cZ q) hE hf dX8_balances_77 rfl
    · have hf := tw_pos hf c37002
      refine tw_iload_n C dX8_balances_64 2 rfl rfl ?_
      refine tw_aload_n C dX8_balances_65 0 rfl rfl ?_
      refine tw_get (K := RX8) (T := TX8) (N := 37) (v := .int (st.1 31)) C 0 31 (fun _ h => List.mem_cons_of_mem _ (List.mem_append_right _ (h))) rfl rfl (by decide) (List.mem_cons_of_mem _ (List.mem_append_left _ (List.mem_of_getElem? (i := 4) rfl))) rfl rfl dX8_balances_66 ?_
      refine tw_icmp_ne (tgt := 76) C dX8_balances_69 (by decide) (fun c37003 => ?_) (fun c37003 => ?_)
      · have hf := tw_neg hf c37003
        refine tw_iconst (v := 0) C dX8_balances_76 (by decide) ?_
        exact tw_endi (Wf := twM cI cZ q) hE hf dX8_balances_77 rfl
      · have hf := tw_pos hf c37003
        refine tw_iconst (v := 1) C dX8_balances_72 (by decide) ?_
        refine tw_goto (tgt := 77) C dX8_balances_73 (by decide) ?_
        exact tw_endi (Wf := twM cI cZ q) hE hf dX8_balances_77 rfl
  · have hf := tw_neg hf c37001
    refine tw_iload_n C dX8_balances_42 2 rfl rfl ?_
    refine tw_aload_n C dX8_balances_43 0 rfl rfl ?_
    refine tw_iload_n C dX8_balances_44 3 rfl rfl ?_
    obtain ⟨y37004, hc37004, hf⟩ := tw_bd hf
    refine tw_cVi (As := [.int v3]) (stk := [.int v2]) C (c_X8_counted l dC dI cI cZ q hc37004) (cwV 1 C.hts gX8_balances_X8_counted rfl rfl rfl hd_X8_counted ⟨Nat.le_of_ble_eq_true rfl, Nat.le_of_ble_eq_true rfl⟩) 0 (ci := 8) rfl rfl rfl rfl rfl (Nat.le_of_ble_eq_true rfl) dX8_balances_45 ⟨Nat.zero_le _, Nat.zero_le _⟩ ?_
    refine tw_iadd C dX8_balances_48 ?_
    refine tw_istore_n (lv' := [(2, .int (v2 + y37004.1)), (0, .ref (q 0)), (1, .int v1), (3, .int v3)]) C dX8_balances_49 rfl (by decide) rfl ?_
    refine tw_iinc (v := (v3 + 1)) (lv' := [(3, .int (v3 + 1)), (2, .int (v2 + y37004.1)), (0, .ref (q 0)), (1, .int v1)]) C dX8_balances_50 (k := 3) rfl rfl (by decide) rfl ?_
    refine tw_goto (tgt := 37) C dX8_balances_53 (by decide) ?_
    refine tw_sub [2, 3, 1, 0] rfl ?_
    exact hrec v1 (v2 + y37004.1) (v3 + 1) y37004.2 hf
theorem m_X8_balances_L37 (C : twC p s m args meth c cX8_balances 4 RX8 wsX8_balances (dC, dI) (twY cI cZ) A) (hE : twEi p l e rm_X8_balances s m args below meth c 0 0 Q (dC, dI) A 4 cX8_balances .boolean res.1 (twM cI cZ q res.2)) : ∀ (n : Nat) (v1 : Int32) (v2 : Int32) (v3 : Int32) (st : twS), f_X8_balances_L37 n v1 v2 v3 st = some res → twG p l e rm_X8_balances s m args below meth c 0 0 Q (dC, dI) A 4 (twM cI cZ q st) 37 [(0, .ref (q 0)), (1, .int v1), (2, .int v2), (3, .int v3)] [] := by
  intro n
  induction n with
  | zero =>
    intro v1 v2 v3 st hf
    have hf : none = some res := hf
    cases hf
  | succ n ih =>
    intro v1 v2 v3 st hf
    exact m_X8_balances_L37b C hE ih v1 v2 v3 st hf
set_option maxRecDepth 20000 in
theorem m_X8_balances_L12b (C : twC p s m args meth c cX8_balances 4 RX8 wsX8_balances (dC, dI) (twY cI cZ) A) (hE : twEi p l e rm_X8_balances s m args below meth c 0 0 Q (dC, dI) A 4 cX8_balances .boolean res.1 (twM cI cZ q res.2)) {rec : Int32 → Int32 → twS → Option (Int32 × twS)} (hrec : ∀ (v1 : Int32) (v2 : Int32) (st : twS), rec v1 v2 st = some res → twG p l e rm_X8_balances s m args below meth c 0 0 Q (dC, dI) A 4 (twM cI cZ q st) 12 [(0, .ref (q 0)), (1, .int v1), (2, .int v2)] []) : ∀ (v1 : Int32) (v2 : Int32) (st : twS), f_X8_balances_L12b rec v1 v2 st = some res → twG p l e rm_X8_balances s m args below meth c 0 0 Q (dC, dI) A 4 (twM cI cZ q st) 12 [(0, .ref (q 0)), (1, .int v1), (2, .int v2)] [] := by
  intro v1 v2 st hf
  unfold f_X8_balances_L12b at hf
  refine tw_iload_n C dX8_balances_12 2 rfl rfl ?_
  refine tw_bipush (v := 12) C dX8_balances_13 (by decide) ?_
  refine tw_icmp_ge (tgt := 33) C dX8_balances_15 (by decide) (fun c12001 => ?_) (fun c12001 => ?_)
  · have hf := tw_pos hf c12001
    refine tw_iconst (v := 0) C dX8_balances_33 (by decide) ?_
    refine tw_istore_n (lv' := [(2, .int 0), (0, .ref (q 0)), (1, .int v1)]) C dX8_balances_34 rfl (by decide) rfl ?_
    refine tw_iconst (v := 0) C dX8_balances_35 (by decide) ?_
    refine tw_istore_n (lv' := [(3, .int 0), (2, .int 0), (0, .ref (q 0)), (1, .int v1)]) C dX8_balances_36 rfl (by decide) rfl ?_
    refine tw_sub [2, 3, 1, 0] rfl ?_
    exact m_X8_balances_L37 C hE twN v1 0 0 st hf
  · have hf := tw_neg hf c12001
    refine tw_iload_n C dX8_balances_18 1 rfl rfl ?_
    refine tw_aload_n C dX8_balances_19 0 rfl rfl ?_
    refine tw_get (K := RX8) (T := TX8) (N := 37) (v := .ref (q 1)) C 0 1 (fun _ h => List.mem_cons_of_mem _ (List.mem_append_right _ (h))) rfl rfl (by decide) (List.mem_cons_of_mem _ (List.mem_append_left _ (List.mem_of_getElem? (i := 2) rfl))) rfl rfl dX8_balances_20 ?_
    refine tw_iload_n C dX8_balances_23 2 rfl rfl ?_
    obtain ⟨hb12002, hf⟩ := tw_ck hf
    refine tw_iald C 1 0 hb12002 rfl rfl dX8_balances_24 ?_
    refine tw_iadd C dX8_balances_25 ?_
    refine tw_istore_n (lv' := [(1, .int (v1 + (st.2.1 1 v2.toNatClampNeg))), (0, .ref (q 0)), (2, .int v2)]) C dX8_balances_26 rfl (by decide) rfl ?_
    refine tw_iinc (v := (v2 + 1)) (lv' := [(2, .int (v2 + 1)), (1, .int (v1 + (st.2.1 1 v2.toNatClampNeg))), (0, .ref (q 0))]) C dX8_balances_27 (k := 2) rfl rfl (by decide) rfl ?_
    refine tw_goto (tgt := 12) C dX8_balances_30 (by decide) ?_
    refine tw_sub [2, 1, 0] rfl ?_
    exact hrec (v1 + (st.2.1 1 v2.toNatClampNeg)) (v2 + 1) st hf
theorem m_X8_balances_L12 (C : twC p s m args meth c cX8_balances 4 RX8 wsX8_balances (dC, dI) (twY cI cZ) A) (hE : twEi p l e rm_X8_balances s m args below meth c 0 0 Q (dC, dI) A 4 cX8_balances .boolean res.1 (twM cI cZ q res.2)) : ∀ (n : Nat) (v1 : Int32) (v2 : Int32) (st : twS), f_X8_balances_L12 n v1 v2 st = some res → twG p l e rm_X8_balances s m args below meth c 0 0 Q (dC, dI) A 4 (twM cI cZ q st) 12 [(0, .ref (q 0)), (1, .int v1), (2, .int v2)] [] := by
  intro n
  induction n with
  | zero =>
    intro v1 v2 st hf
    have hf : none = some res := hf
    cases hf
  | succ n ih =>
    intro v1 v2 st hf
    exact m_X8_balances_L12b C hE ih v1 v2 st hf
set_option maxRecDepth 20000 in
theorem c_X8_balances (l : Launch) (dC : Nat → ClassId) (dI : Nat → Nat → Nat) (cI cZ : ClassId) (q : Nat → Nat) {st : twS} {res : Int32 × twS} (hf : f_X8_balances st = some res) : twMi l yX8_balances wsX8_balances rm_X8_balances (dC, dI) (twY cI cZ) [.ref (q 0)] (twM cI cZ q st) res.1 (twM cI cZ q res.2) := by
  refine tw_enti (cc := cX8_balances) (maxL := 4) (own := RX8) (by decide) rfl (Nat.le_of_ble_eq_true rfl) rfl ⟨rfl, rfl⟩ ?_
  intro p e s m below meth c A Q C hE
  generalize ([.ref (q 0)] : List Value).toArray = args at C hE ⊢
  refine tw_sub (lv' := [(0, .ref (q 0))]) [0] rfl ?_
  unfold f_X8_balances at hf
  refine tw_aload_n C dX8_balances_0 0 rfl rfl ?_
  refine tw_iconst (v := 0) C dX8_balances_1 (by decide) ?_
  refine tw_put (K := RX8) (T := TX8) (N := 37) C 0 36 tyX8 tyX8_ok nmX8 (fun _ h => List.mem_cons_of_mem _ (List.mem_append_right _ (h))) rfl rfl (by decide) (List.mem_cons_of_mem _ (List.mem_append_left _ (List.mem_of_getElem? (i := 0) rfl))) rfl rfl rfl rfl (Nat.le_of_ble_eq_true rfl) (tw_M_si36 cI cZ q st 0) dX8_balances_2 ?_
  refine tw_aload_n C dX8_balances_5 0 rfl rfl ?_
  refine tw_get (K := RX8) (T := TX8) (N := 37) (v := .int ((twI st 36 0).1 22)) C 0 22 (fun _ h => List.mem_cons_of_mem _ (List.mem_append_right _ (h))) rfl rfl (by decide) (List.mem_cons_of_mem _ (List.mem_append_left _ (List.mem_of_getElem? (i := 1) rfl))) rfl rfl dX8_balances_6 ?_
  refine tw_istore_n (lv' := [(1, .int ((twI st 36 0).1 22)), (0, .ref (q 0))]) C dX8_balances_9 rfl (by decide) rfl ?_
  refine tw_iconst (v := 0) C dX8_balances_10 (by decide) ?_
  refine tw_istore_n (lv' := [(2, .int 0), (1, .int ((twI st 36 0).1 22)), (0, .ref (q 0))]) C dX8_balances_11 rfl (by decide) rfl ?_
  refine tw_sub [2, 1, 0] rfl ?_
  exact m_X8_balances_L12 C hE twN ((twI st 36 0).1 22) 0 (twI st 36 0) hf
end
