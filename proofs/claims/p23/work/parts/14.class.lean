theorem hd_X3_seat : yX3_seat.cls = RX3 ∧ yX3_seat.cls ≠ "java/lang/invoke/MethodHandle" ∧ yX3_seat.cls ≠ "java/lang/invoke/VarHandle" ∧ (parseMethodDescriptor yX3_seat.desc).map (fun d => d.parameters.length) = some 2 := by decide +kernel
theorem hd_X3_stateOf : yX3_stateOf.cls = RX3 ∧ yX3_stateOf.cls ≠ "java/lang/invoke/MethodHandle" ∧ yX3_stateOf.cls ≠ "java/lang/invoke/VarHandle" ∧ (parseMethodDescriptor yX3_stateOf.desc).map (fun d => d.parameters.length) = some 1 := by decide +kernel
theorem hd_X3_segmentOf : yX3_segmentOf.cls = RX3 ∧ yX3_segmentOf.cls ≠ "java/lang/invoke/MethodHandle" ∧ yX3_segmentOf.cls ≠ "java/lang/invoke/VarHandle" ∧ (parseMethodDescriptor yX3_segmentOf.desc).map (fun d => d.parameters.length) = some 1 := by decide +kernel
theorem hd_X3_endOf : yX3_endOf.cls = RX3 ∧ yX3_endOf.cls ≠ "java/lang/invoke/MethodHandle" ∧ yX3_endOf.cls ≠ "java/lang/invoke/VarHandle" ∧ (parseMethodDescriptor yX3_endOf.desc).map (fun d => d.parameters.length) = some 1 := by decide +kernel
theorem hd_X4_place : yX4_place.cls = RX4 ∧ yX4_place.cls ≠ "java/lang/invoke/MethodHandle" ∧ yX4_place.cls ≠ "java/lang/invoke/VarHandle" ∧ (parseMethodDescriptor yX4_place.desc).map (fun d => d.parameters.length) = some 1 := by decide +kernel
theorem hd_X4_setFailing : yX4_setFailing.cls = RX4 ∧ yX4_setFailing.cls ≠ "java/lang/invoke/MethodHandle" ∧ yX4_setFailing.cls ≠ "java/lang/invoke/VarHandle" ∧ (parseMethodDescriptor yX4_setFailing.desc).map (fun d => d.parameters.length) = some 2 := by decide +kernel
theorem hd_X5_isFan : yX5_isFan.cls ≠ "java/lang/invoke/MethodHandle" ∧ yX5_isFan.cls ≠ "java/lang/invoke/VarHandle" ∧ (parseMethodDescriptor yX5_isFan.desc).map (fun d => d.parameters.length) = some 1 := by decide +kernel
theorem hd_X5_order : yX5_order.cls = RX5 ∧ yX5_order.cls ≠ "java/lang/invoke/MethodHandle" ∧ yX5_order.cls ≠ "java/lang/invoke/VarHandle" ∧ (parseMethodDescriptor yX5_order.desc).map (fun d => d.parameters.length) = some 2 := by decide +kernel
theorem hd_X5_stateOf : yX5_stateOf.cls = RX5 ∧ yX5_stateOf.cls ≠ "java/lang/invoke/MethodHandle" ∧ yX5_stateOf.cls ≠ "java/lang/invoke/VarHandle" ∧ (parseMethodDescriptor yX5_stateOf.desc).map (fun d => d.parameters.length) = some 1 := by decide +kernel
theorem hd_X5_setFailing : yX5_setFailing.cls = RX5 ∧ yX5_setFailing.cls ≠ "java/lang/invoke/MethodHandle" ∧ yX5_setFailing.cls ≠ "java/lang/invoke/VarHandle" ∧ (parseMethodDescriptor yX5_setFailing.desc).map (fun d => d.parameters.length) = some 2 := by decide +kernel
theorem hd_X6_blow : yX6_blow.cls = RX6 ∧ yX6_blow.cls ≠ "java/lang/invoke/MethodHandle" ∧ yX6_blow.cls ≠ "java/lang/invoke/VarHandle" ∧ (parseMethodDescriptor yX6_blow.desc).map (fun d => d.parameters.length) = some 1 := by decide +kernel
/-! X3_seat: void seat(int, int) -/
abbrev rm_X3_seat : Room := { frames := 0, cells := 0, slots := 0, locals := 0 }
def f_X3_seat_L2b (rec : Int32 → Int32 → Int32 → twS → Option (twS)) (v1 : Int32) (v2 : Int32) (v3 : Int32) (st : twS) : Option (twS) :=
  (if v2 ≤ v3 then
    some st
  else
    (if 30 ≤ (st.1 16) then
    some st
  else
    (if twb (st.1 16) 30 = true then (if twb ((twA st 22 (st.1 16) 0).1 16) 30 = true then (if twb ((twA (twA st 22 (st.1 16) 0) 23 ((twA st 22 (st.1 16) 0).1 16) v1).1 16) 30 = true then rec v1 v2 (v3 + 1) (twI (twA (twA (twA st 22 (st.1 16) 0) 23 ((twA st 22 (st.1 16) 0).1 16) v1) 25 ((twA (twA st 22 (st.1 16) 0) 23 ((twA st 22 (st.1 16) 0).1 16) v1).1 16) (-1)) 16 (((twA (twA (twA st 22 (st.1 16) 0) 23 ((twA st 22 (st.1 16) 0).1 16) v1) 25 ((twA (twA st 22 (st.1 16) 0) 23 ((twA st 22 (st.1 16) 0).1 16) v1).1 16) (-1)).1 16) + 1)) else none) else none) else none)))
def f_X3_seat_L2 : Nat → Int32 → Int32 → Int32 → twS → Option (twS)
  | 0 => fun _ _ _ _ => none
  | n + 1 => fun v1 v2 v3 st => f_X3_seat_L2b (f_X3_seat_L2 n) v1 v2 v3 st
def f_X3_seat (st : twS) (v1 : Int32) (v2 : Int32) : Option (twS) :=
  f_X3_seat_L2 twN v1 v2 0 st
section
variable {p : Program} {l : Launch} {e : Env} {s : State} {m : MethodId} {args : Array Value} {below : List Frame} {meth : Method} {c : Code} {Q : State → Prop} {dC : Nat → ClassId} {dI : Nat → Nat → Nat} {cI cZ : ClassId} {q : Nat → Nat} {A : Nat → Prop} {res : twS}
set_option maxRecDepth 20000 in
theorem m_X3_seat_L2b (C : twC p s m args meth c cX3_seat 4 RX3 wsX3_seat (dC, dI) (twY cI cZ) A) (hE : twEv p l e rm_X3_seat s m args below meth c 0 0 Q (dC, dI) A 4 cX3_seat (twT cI cZ q res)) {rec : Int32 → Int32 → Int32 → twS → Option (twS)} (hrec : ∀ (v1 : Int32) (v2 : Int32) (v3 : Int32) (st : twS), rec v1 v2 v3 st = some res → twG p l e rm_X3_seat s m args below meth c 0 0 Q (dC, dI) A 4 (twT cI cZ q st) 2 [(0, .ref (q 7)), (1, .int v1), (2, .int v2), (3, .int v3)] []) : ∀ (v1 : Int32) (v2 : Int32) (v3 : Int32) (st : twS), f_X3_seat_L2b rec v1 v2 v3 st = some res → twG p l e rm_X3_seat s m args below meth c 0 0 Q (dC, dI) A 4 (twT cI cZ q st) 2 [(0, .ref (q 7)), (1, .int v1), (2, .int v2), (3, .int v3)] [] := by
  intro v1 v2 v3 st hf
  unfold f_X3_seat_L2b at hf
  refine tw_iload_n C dX3_seat_2 3 rfl rfl ?_
  refine tw_iload_n C dX3_seat_3 2 rfl rfl ?_
  refine tw_icmp_ge (tgt := 62) C dX3_seat_4 (by decide) (fun c2001 => ?_) (fun c2001 => ?_)
  · have hf := tw_pos hf c2001
    exact tw_endv (Wf := twT cI cZ q) hE hf dX3_seat_62
  · have hf := tw_neg hf c2001
    refine tw_aload_n C dX3_seat_7 0 rfl rfl ?_
    refine tw_get (K := RX3) (T := TX3) (N := 5) (v := .int (st.1 16)) C 7 4 (fun _ h => List.mem_cons_of_mem _ (List.mem_append_right _ (h))) rfl rfl (by decide) (List.mem_cons_of_mem _ (List.mem_append_left _ (List.mem_of_getElem? (i := 0) rfl))) rfl rfl dX3_seat_8 ?_
    refine tw_bipush (v := 30) C dX3_seat_11 (by decide) ?_
    refine tw_icmp_ge (tgt := 62) C dX3_seat_13 (by decide) (fun c2002 => ?_) (fun c2002 => ?_)
    · have hf := tw_pos hf c2002
      exact tw_endv (Wf := twT cI cZ q) hE hf dX3_seat_62
    · have hf := tw_neg hf c2002
      refine tw_aload_n C dX3_seat_16 0 rfl rfl ?_
      refine tw_get (K := RX3) (T := TX3) (N := 5) (v := .ref (q 22)) C 7 0 (fun _ h => List.mem_cons_of_mem _ (List.mem_append_right _ (h))) rfl rfl (by decide) (List.mem_cons_of_mem _ (List.mem_append_left _ (List.mem_of_getElem? (i := 1) rfl))) rfl rfl dX3_seat_17 ?_
      refine tw_aload_n C dX3_seat_20 0 rfl rfl ?_
      refine tw_get (K := RX3) (T := TX3) (N := 5) (v := .int (st.1 16)) C 7 4 (fun _ h => List.mem_cons_of_mem _ (List.mem_append_right _ (h))) rfl rfl (by decide) (List.mem_cons_of_mem _ (List.mem_append_left _ (List.mem_of_getElem? (i := 0) rfl))) rfl rfl dX3_seat_21 ?_
      refine tw_iconst (v := 0) C dX3_seat_24 (by decide) ?_
      obtain ⟨hb2003, hf⟩ := tw_ck hf
      refine tw_iast C 22 0 hb2003 rfl rfl (tw_T_a22 cI cZ q st (st.1 16) 0) dX3_seat_25 ?_
      refine tw_aload_n C dX3_seat_26 0 rfl rfl ?_
      refine tw_get (K := RX3) (T := TX3) (N := 5) (v := .ref (q 23)) C 7 1 (fun _ h => List.mem_cons_of_mem _ (List.mem_append_right _ (h))) rfl rfl (by decide) (List.mem_cons_of_mem _ (List.mem_append_left _ (List.mem_of_getElem? (i := 2) rfl))) rfl rfl dX3_seat_27 ?_
      refine tw_aload_n C dX3_seat_30 0 rfl rfl ?_
      refine tw_get (K := RX3) (T := TX3) (N := 5) (v := .int ((twA st 22 (st.1 16) 0).1 16)) C 7 4 (fun _ h => List.mem_cons_of_mem _ (List.mem_append_right _ (h))) rfl rfl (by decide) (List.mem_cons_of_mem _ (List.mem_append_left _ (List.mem_of_getElem? (i := 0) rfl))) rfl rfl dX3_seat_31 ?_
      refine tw_iload_n C dX3_seat_34 1 rfl rfl ?_
      obtain ⟨hb2004, hf⟩ := tw_ck hf
      refine tw_iast C 23 0 hb2004 rfl rfl (tw_T_a23 cI cZ q (twA st 22 (st.1 16) 0) ((twA st 22 (st.1 16) 0).1 16) v1) dX3_seat_35 ?_
      refine tw_aload_n C dX3_seat_36 0 rfl rfl ?_
      refine tw_get (K := RX3) (T := TX3) (N := 5) (v := .ref (q 25)) C 7 3 (fun _ h => List.mem_cons_of_mem _ (List.mem_append_right _ (h))) rfl rfl (by decide) (List.mem_cons_of_mem _ (List.mem_append_left _ (List.mem_of_getElem? (i := 3) rfl))) rfl rfl dX3_seat_37 ?_
      refine tw_aload_n C dX3_seat_40 0 rfl rfl ?_
      refine tw_get (K := RX3) (T := TX3) (N := 5) (v := .int ((twA (twA st 22 (st.1 16) 0) 23 ((twA st 22 (st.1 16) 0).1 16) v1).1 16)) C 7 4 (fun _ h => List.mem_cons_of_mem _ (List.mem_append_right _ (h))) rfl rfl (by decide) (List.mem_cons_of_mem _ (List.mem_append_left _ (List.mem_of_getElem? (i := 0) rfl))) rfl rfl dX3_seat_41 ?_
      refine tw_iconst (v := (-1)) C dX3_seat_44 (by decide) ?_
      obtain ⟨hb2005, hf⟩ := tw_ck hf
      refine tw_iast C 25 0 hb2005 rfl rfl (tw_T_a25 cI cZ q (twA (twA st 22 (st.1 16) 0) 23 ((twA st 22 (st.1 16) 0).1 16) v1) ((twA (twA st 22 (st.1 16) 0) 23 ((twA st 22 (st.1 16) 0).1 16) v1).1 16) (-1)) dX3_seat_45 ?_
      refine tw_aload_n C dX3_seat_46 0 rfl rfl ?_
      refine tw_dup C dX3_seat_47 rfl ?_
      refine tw_get (K := RX3) (T := TX3) (N := 5) (v := .int ((twA (twA (twA st 22 (st.1 16) 0) 23 ((twA st 22 (st.1 16) 0).1 16) v1) 25 ((twA (twA st 22 (st.1 16) 0) 23 ((twA st 22 (st.1 16) 0).1 16) v1).1 16) (-1)).1 16)) C 7 4 (fun _ h => List.mem_cons_of_mem _ (List.mem_append_right _ (h))) rfl rfl (by decide) (List.mem_cons_of_mem _ (List.mem_append_left _ (List.mem_of_getElem? (i := 0) rfl))) rfl rfl dX3_seat_48 ?_
      refine tw_iconst (v := 1) C dX3_seat_51 (by decide) ?_
      refine tw_iadd C dX3_seat_52 ?_
      refine tw_put (K := RX3) (T := TX3) (N := 5) C 7 4 tyX3 tyX3_ok nmX3 (fun _ h => List.mem_cons_of_mem _ (List.mem_append_right _ (h))) rfl rfl (by decide) (List.mem_cons_of_mem _ (List.mem_append_left _ (List.mem_of_getElem? (i := 0) rfl))) rfl rfl rfl rfl (Nat.le_of_ble_eq_true rfl) (tw_T_si16 cI cZ q (twA (twA (twA st 22 (st.1 16) 0) 23 ((twA st 22 (st.1 16) 0).1 16) v1) 25 ((twA (twA st 22 (st.1 16) 0) 23 ((twA st 22 (st.1 16) 0).1 16) v1).1 16) (-1)) (((twA (twA (twA st 22 (st.1 16) 0) 23 ((twA st 22 (st.1 16) 0).1 16) v1) 25 ((twA (twA st 22 (st.1 16) 0) 23 ((twA st 22 (st.1 16) 0).1 16) v1).1 16) (-1)).1 16) + 1)) dX3_seat_53 ?_
      refine tw_iinc (v := (v3 + 1)) (lv' := [(3, .int (v3 + 1)), (0, .ref (q 7)), (1, .int v1), (2, .int v2)]) C dX3_seat_56 (k := 3) rfl rfl (by decide) rfl ?_
      refine tw_goto (tgt := 2) C dX3_seat_59 (by decide) ?_
      refine tw_sub [1, 2, 3, 0] rfl ?_
      exact hrec v1 v2 (v3 + 1) (twI (twA (twA (twA st 22 (st.1 16) 0) 23 ((twA st 22 (st.1 16) 0).1 16) v1) 25 ((twA (twA st 22 (st.1 16) 0) 23 ((twA st 22 (st.1 16) 0).1 16) v1).1 16) (-1)) 16 (((twA (twA (twA st 22 (st.1 16) 0) 23 ((twA st 22 (st.1 16) 0).1 16) v1) 25 ((twA (twA st 22 (st.1 16) 0) 23 ((twA st 22 (st.1 16) 0).1 16) v1).1 16) (-1)).1 16) + 1)) hf
theorem m_X3_seat_L2 (C : twC p s m args meth c cX3_seat 4 RX3 wsX3_seat (dC, dI) (twY cI cZ) A) (hE : twEv p l e rm_X3_seat s m args below meth c 0 0 Q (dC, dI) A 4 cX3_seat (twT cI cZ q res)) : ∀ (n : Nat) (v1 : Int32) (v2 : Int32) (v3 : Int32) (st : twS), f_X3_seat_L2 n v1 v2 v3 st = some res → twG p l e rm_X3_seat s m args below meth c 0 0 Q (dC, dI) A 4 (twT cI cZ q st) 2 [(0, .ref (q 7)), (1, .int v1), (2, .int v2), (3, .int v3)] [] := by
  intro n
  induction n with
  | zero =>
    intro v1 v2 v3 st hf
    have hf : none = some res := hf
    cases hf
  | succ n ih =>
    intro v1 v2 v3 st hf
    exact m_X3_seat_L2b C hE ih v1 v2 v3 st hf
set_option maxRecDepth 20000 in
theorem c_X3_seat (l : Launch) (dC : Nat → ClassId) (dI : Nat → Nat → Nat) (cI cZ : ClassId) (q : Nat → Nat) {st : twS} {v1 : Int32} {v2 : Int32} {res : twS} (hf : f_X3_seat st v1 v2 = some res) : twMv l yX3_seat wsX3_seat rm_X3_seat (dC, dI) (twY cI cZ) [.ref (q 7), .int v1, .int v2] (twT cI cZ q st) (twT cI cZ q res) := by
  refine tw_entv (cc := cX3_seat) (maxL := 4) (own := RX3) (by decide) rfl (Nat.le_of_ble_eq_true rfl) rfl ⟨rfl, rfl⟩ ?_
  intro p e s m below meth c A Q C hE
  generalize ([.ref (q 7), .int v1, .int v2] : List Value).toArray = args at C hE ⊢
  refine tw_sub (lv' := [(0, .ref (q 7)), (1, .int v1), (2, .int v2)]) [0, 1, 2] rfl ?_
  unfold f_X3_seat at hf
  refine tw_iconst (v := 0) C dX3_seat_0 (by decide) ?_
  refine tw_istore_n (lv' := [(3, .int 0), (0, .ref (q 7)), (1, .int v1), (2, .int v2)]) C dX3_seat_1 rfl (by decide) rfl ?_
  refine tw_sub [1, 2, 3, 0] rfl ?_
  exact m_X3_seat_L2 C hE twN v1 v2 0 st hf
end
/-! X3_stateOf: int stateOf(int) -/
abbrev rm_X3_stateOf : Room := { frames := 1, cells := 0, slots := 0, locals := 21 }
def f_X3_stateOf (st : twS) (v1 : Int32) : Option (Int32 × twS) :=
  ((f_X3_isPerson st v1).bind fun y1 => (if y1.1 = 0 then
    some (0, y1.2)
  else
    (if twb v1 30 = true then some ((y1.2.2.1 22 v1.toNatClampNeg), y1.2) else none)))
section
variable {p : Program} {l : Launch} {e : Env} {s : State} {m : MethodId} {args : Array Value} {below : List Frame} {meth : Method} {c : Code} {Q : State → Prop} {dC : Nat → ClassId} {dI : Nat → Nat → Nat} {cI cZ : ClassId} {q : Nat → Nat} {A : Nat → Prop} {res : Int32 × twS}
set_option maxRecDepth 20000 in
theorem c_X3_stateOf (l : Launch) (dC : Nat → ClassId) (dI : Nat → Nat → Nat) (cI cZ : ClassId) (q : Nat → Nat) {st : twS} {v1 : Int32} {res : Int32 × twS} (hf : f_X3_stateOf st v1 = some res) : twMi l yX3_stateOf wsX3_stateOf rm_X3_stateOf (dC, dI) (twY cI cZ) [.ref (q 7), .int v1] (twT cI cZ q st) res.1 (twT cI cZ q res.2) := by
  refine tw_enti (cc := cX3_stateOf) (maxL := 2) (own := RX3) (by decide) rfl (Nat.le_of_ble_eq_true rfl) rfl ⟨rfl, rfl⟩ ?_
  intro p e s m below meth c A Q C hE
  generalize ([.ref (q 7), .int v1] : List Value).toArray = args at C hE ⊢
  refine tw_sub (lv' := [(0, .ref (q 7)), (1, .int v1)]) [0, 1] rfl ?_
  unfold f_X3_stateOf at hf
  refine tw_aload_n C dX3_stateOf_0 0 rfl rfl ?_
  refine tw_iload_n C dX3_stateOf_1 1 rfl rfl ?_
  obtain ⟨y1, hc1, hf⟩ := tw_bd hf
  refine tw_cVi (As := [.int v1]) (stk := []) C (c_X3_isPerson l dC dI cI cZ q hc1) (cwV 1 C.hts gX3_stateOf_X3_isPerson rfl rfl rfl hd_X3_isPerson ⟨Nat.le_of_ble_eq_true rfl, Nat.le_of_ble_eq_true rfl⟩) 7 (ci := 3) rfl rfl rfl rfl rfl (Nat.le_of_ble_eq_true rfl) dX3_stateOf_2 ⟨Nat.zero_le _, Nat.zero_le _⟩ ?_
  refine tw_if_eq (tgt := 17) C dX3_stateOf_5 (by decide) (fun c2 => ?_) (fun c2 => ?_)
  · have hf := tw_pos hf c2
    refine tw_iconst (v := 0) C dX3_stateOf_17 (by decide) ?_
    exact tw_endi (Wf := twT cI cZ q) hE hf dX3_stateOf_18 rfl
  · have hf := tw_neg hf c2
    refine tw_aload_n C dX3_stateOf_8 0 rfl rfl ?_
    refine tw_get (K := RX3) (T := TX3) (N := 5) (v := .ref (q 22)) C 7 0 (fun _ h => List.mem_cons_of_mem _ (List.mem_append_right _ (h))) rfl rfl (by decide) (List.mem_cons_of_mem _ (List.mem_append_left _ (List.mem_of_getElem? (i := 0) rfl))) rfl rfl dX3_stateOf_9 ?_
    refine tw_iload_n C dX3_stateOf_12 1 rfl rfl ?_
    obtain ⟨hb3, hf⟩ := tw_ck hf
    refine tw_iald C 22 0 hb3 rfl rfl dX3_stateOf_13 ?_
    refine tw_goto (tgt := 18) C dX3_stateOf_14 (by decide) ?_
    exact tw_endi (Wf := twT cI cZ q) hE hf dX3_stateOf_18 rfl
end
/-! X3_segmentOf: int segmentOf(int) -/
abbrev rm_X3_segmentOf : Room := { frames := 1, cells := 0, slots := 0, locals := 21 }
def f_X3_segmentOf (st : twS) (v1 : Int32) : Option (Int32 × twS) :=
  ((f_X3_isPerson st v1).bind fun y1 => (if y1.1 = 0 then
    some ((-1), y1.2)
  else
    (if twb v1 30 = true then some ((y1.2.2.1 23 v1.toNatClampNeg), y1.2) else none)))
section
variable {p : Program} {l : Launch} {e : Env} {s : State} {m : MethodId} {args : Array Value} {below : List Frame} {meth : Method} {c : Code} {Q : State → Prop} {dC : Nat → ClassId} {dI : Nat → Nat → Nat} {cI cZ : ClassId} {q : Nat → Nat} {A : Nat → Prop} {res : Int32 × twS}
set_option maxRecDepth 20000 in
theorem c_X3_segmentOf (l : Launch) (dC : Nat → ClassId) (dI : Nat → Nat → Nat) (cI cZ : ClassId) (q : Nat → Nat) {st : twS} {v1 : Int32} {res : Int32 × twS} (hf : f_X3_segmentOf st v1 = some res) : twMi l yX3_segmentOf wsX3_segmentOf rm_X3_segmentOf (dC, dI) (twY cI cZ) [.ref (q 7), .int v1] (twT cI cZ q st) res.1 (twT cI cZ q res.2) := by
  refine tw_enti (cc := cX3_segmentOf) (maxL := 2) (own := RX3) (by decide) rfl (Nat.le_of_ble_eq_true rfl) rfl ⟨rfl, rfl⟩ ?_
  intro p e s m below meth c A Q C hE
  generalize ([.ref (q 7), .int v1] : List Value).toArray = args at C hE ⊢
  refine tw_sub (lv' := [(0, .ref (q 7)), (1, .int v1)]) [0, 1] rfl ?_
  unfold f_X3_segmentOf at hf
  refine tw_aload_n C dX3_segmentOf_0 0 rfl rfl ?_
  refine tw_iload_n C dX3_segmentOf_1 1 rfl rfl ?_
  obtain ⟨y1, hc1, hf⟩ := tw_bd hf
  refine tw_cVi (As := [.int v1]) (stk := []) C (c_X3_isPerson l dC dI cI cZ q hc1) (cwV 1 C.hts gX3_segmentOf_X3_isPerson rfl rfl rfl hd_X3_isPerson ⟨Nat.le_of_ble_eq_true rfl, Nat.le_of_ble_eq_true rfl⟩) 7 (ci := 3) rfl rfl rfl rfl rfl (Nat.le_of_ble_eq_true rfl) dX3_segmentOf_2 ⟨Nat.zero_le _, Nat.zero_le _⟩ ?_
  refine tw_if_eq (tgt := 17) C dX3_segmentOf_5 (by decide) (fun c2 => ?_) (fun c2 => ?_)
  · have hf := tw_pos hf c2
    refine tw_iconst (v := (-1)) C dX3_segmentOf_17 (by decide) ?_
    exact tw_endi (Wf := twT cI cZ q) hE hf dX3_segmentOf_18 rfl
  · have hf := tw_neg hf c2
    refine tw_aload_n C dX3_segmentOf_8 0 rfl rfl ?_
    refine tw_get (K := RX3) (T := TX3) (N := 5) (v := .ref (q 23)) C 7 1 (fun _ h => List.mem_cons_of_mem _ (List.mem_append_right _ (h))) rfl rfl (by decide) (List.mem_cons_of_mem _ (List.mem_append_left _ (List.mem_of_getElem? (i := 0) rfl))) rfl rfl dX3_segmentOf_9 ?_
    refine tw_iload_n C dX3_segmentOf_12 1 rfl rfl ?_
    obtain ⟨hb3, hf⟩ := tw_ck hf
    refine tw_iald C 23 0 hb3 rfl rfl dX3_segmentOf_13 ?_
    refine tw_goto (tgt := 18) C dX3_segmentOf_14 (by decide) ?_
    exact tw_endi (Wf := twT cI cZ q) hE hf dX3_segmentOf_18 rfl
end
/-! X3_endOf: int endOf(int) -/
abbrev rm_X3_endOf : Room := { frames := 1, cells := 0, slots := 0, locals := 21 }
def f_X3_endOf (st : twS) (v1 : Int32) : Option (Int32 × twS) :=
  ((f_X3_isPerson st v1).bind fun y1 => (if y1.1 = 0 then
    some ((-1), y1.2)
  else
    (if twb v1 30 = true then some ((y1.2.2.1 25 v1.toNatClampNeg), y1.2) else none)))
section
variable {p : Program} {l : Launch} {e : Env} {s : State} {m : MethodId} {args : Array Value} {below : List Frame} {meth : Method} {c : Code} {Q : State → Prop} {dC : Nat → ClassId} {dI : Nat → Nat → Nat} {cI cZ : ClassId} {q : Nat → Nat} {A : Nat → Prop} {res : Int32 × twS}
set_option maxRecDepth 20000 in
theorem c_X3_endOf (l : Launch) (dC : Nat → ClassId) (dI : Nat → Nat → Nat) (cI cZ : ClassId) (q : Nat → Nat) {st : twS} {v1 : Int32} {res : Int32 × twS} (hf : f_X3_endOf st v1 = some res) : twMi l yX3_endOf wsX3_endOf rm_X3_endOf (dC, dI) (twY cI cZ) [.ref (q 7), .int v1] (twT cI cZ q st) res.1 (twT cI cZ q res.2) := by
  refine tw_enti (cc := cX3_endOf) (maxL := 2) (own := RX3) (by decide) rfl (Nat.le_of_ble_eq_true rfl) rfl ⟨rfl, rfl⟩ ?_
  intro p e s m below meth c A Q C hE
  generalize ([.ref (q 7), .int v1] : List Value).toArray = args at C hE ⊢
  refine tw_sub (lv' := [(0, .ref (q 7)), (1, .int v1)]) [0, 1] rfl ?_
  unfold f_X3_endOf at hf
  refine tw_aload_n C dX3_endOf_0 0 rfl rfl ?_
  refine tw_iload_n C dX3_endOf_1 1 rfl rfl ?_
  obtain ⟨y1, hc1, hf⟩ := tw_bd hf
  refine tw_cVi (As := [.int v1]) (stk := []) C (c_X3_isPerson l dC dI cI cZ q hc1) (cwV 1 C.hts gX3_endOf_X3_isPerson rfl rfl rfl hd_X3_isPerson ⟨Nat.le_of_ble_eq_true rfl, Nat.le_of_ble_eq_true rfl⟩) 7 (ci := 3) rfl rfl rfl rfl rfl (Nat.le_of_ble_eq_true rfl) dX3_endOf_2 ⟨Nat.zero_le _, Nat.zero_le _⟩ ?_
  refine tw_if_eq (tgt := 17) C dX3_endOf_5 (by decide) (fun c2 => ?_) (fun c2 => ?_)
  · have hf := tw_pos hf c2
    refine tw_iconst (v := (-1)) C dX3_endOf_17 (by decide) ?_
    exact tw_endi (Wf := twT cI cZ q) hE hf dX3_endOf_18 rfl
  · have hf := tw_neg hf c2
    refine tw_aload_n C dX3_endOf_8 0 rfl rfl ?_
    refine tw_get (K := RX3) (T := TX3) (N := 5) (v := .ref (q 25)) C 7 3 (fun _ h => List.mem_cons_of_mem _ (List.mem_append_right _ (h))) rfl rfl (by decide) (List.mem_cons_of_mem _ (List.mem_append_left _ (List.mem_of_getElem? (i := 0) rfl))) rfl rfl dX3_endOf_9 ?_
    refine tw_iload_n C dX3_endOf_12 1 rfl rfl ?_
    obtain ⟨hb3, hf⟩ := tw_ck hf
    refine tw_iald C 25 0 hb3 rfl rfl dX3_endOf_13 ?_
    refine tw_goto (tgt := 18) C dX3_endOf_14 (by decide) ?_
    exact tw_endi (Wf := twT cI cZ q) hE hf dX3_endOf_18 rfl
end
/-! X4_place: void place(int) -/
abbrev rm_X4_place : Room := { frames := 0, cells := 0, slots := 0, locals := 0 }
def f_X4_place_L27 (rec : Int32 → Int32 → twS → Option (twS)) (v1 : Int32) (v2 : Int32) (k0 : Int32) (k1 : Int32) (st : twS) : Option (twS) :=
  (if twb k1 12 = true then (if twb v2 12 = true then (if twb v2 12 = true then rec v1 (v2 + 1) (twA (twA (twA st 16 k1 (vp_nar .boolean k0)) 17 v2 (vp_nar .boolean 0)) 18 v2 (vp_nar .boolean 0)) else none) else none) else none)
def f_X4_place_L2b (rec : Int32 → Int32 → twS → Option (twS)) (v1 : Int32) (v2 : Int32) (st : twS) : Option (twS) :=
  (if 12 ≤ v2 then
    some st
  else
    (if ((v1 >>> (v2 &&& 31)) &&& 1) = 1 then
    f_X4_place_L27 rec v1 v2 1 v2 st
  else
    f_X4_place_L27 rec v1 v2 0 v2 st))
def f_X4_place_L2 : Nat → Int32 → Int32 → twS → Option (twS)
  | 0 => fun _ _ _ => none
  | n + 1 => fun v1 v2 st => f_X4_place_L2b (f_X4_place_L2 n) v1 v2 st
def f_X4_place (st : twS) (v1 : Int32) : Option (twS) :=
  f_X4_place_L2 twN v1 0 st
section
variable {p : Program} {l : Launch} {e : Env} {s : State} {m : MethodId} {args : Array Value} {below : List Frame} {meth : Method} {c : Code} {Q : State → Prop} {dC : Nat → ClassId} {dI : Nat → Nat → Nat} {cI cZ : ClassId} {q : Nat → Nat} {A : Nat → Prop} {res : twS}
set_option maxRecDepth 20000 in
theorem m_X4_place_L27 (C : twC p s m args meth c cX4_place 3 RX4 wsX4_place (dC, dI) (twY cI cZ) A) (hE : twEv p l e rm_X4_place s m args below meth c 0 0 Q (dC, dI) A 3 cX4_place (twT cI cZ q res)) {rec : Int32 → Int32 → twS → Option (twS)} (hrec : ∀ (v1 : Int32) (v2 : Int32) (st : twS), rec v1 v2 st = some res → twG p l e rm_X4_place s m args below meth c 0 0 Q (dC, dI) A 3 (twT cI cZ q st) 2 [(0, .ref (q 5)), (1, .int v1), (2, .int v2)] []) : ∀ (v1 : Int32) (v2 : Int32) (k0 : Int32) (k1 : Int32) (st : twS), f_X4_place_L27 rec v1 v2 k0 k1 st = some res → twG p l e rm_X4_place s m args below meth c 0 0 Q (dC, dI) A 3 (twT cI cZ q st) 27 [(0, .ref (q 5)), (1, .int v1), (2, .int v2)] [.int k0, .int k1, .ref (q 16)] := by
  intro v1 v2 k0 k1 st hf
  unfold f_X4_place_L27 at hf
  obtain ⟨hb27001, hf⟩ := tw_ck hf
  refine tw_zast C 16 1 hb27001 rfl rfl (tw_T_a16 cI cZ q st k1 (vp_nar .boolean k0)) dX4_place_27 ?_
  refine tw_aload_n C dX4_place_28 0 rfl rfl ?_
  refine tw_get (K := RX4) (T := TX4) (N := 3) (v := .ref (q 17)) C 5 1 (fun _ h => List.mem_cons_of_mem _ (List.mem_append_right _ (h))) rfl rfl (by decide) (List.mem_cons_of_mem _ (List.mem_append_left _ (List.mem_of_getElem? (i := 1) rfl))) rfl rfl dX4_place_29 ?_
  refine tw_iload_n C dX4_place_32 2 rfl rfl ?_
  refine tw_iconst (v := 0) C dX4_place_33 (by decide) ?_
  obtain ⟨hb27002, hf⟩ := tw_ck hf
  refine tw_zast C 17 1 hb27002 rfl rfl (tw_T_a17 cI cZ q (twA st 16 k1 (vp_nar .boolean k0)) v2 (vp_nar .boolean 0)) dX4_place_34 ?_
  refine tw_aload_n C dX4_place_35 0 rfl rfl ?_
  refine tw_get (K := RX4) (T := TX4) (N := 3) (v := .ref (q 18)) C 5 2 (fun _ h => List.mem_cons_of_mem _ (List.mem_append_right _ (h))) rfl rfl (by decide) (List.mem_cons_of_mem _ (List.mem_append_left _ (List.mem_of_getElem? (i := 2) rfl))) rfl rfl dX4_place_36 ?_
  refine tw_iload_n C dX4_place_39 2 rfl rfl ?_
  refine tw_iconst (v := 0) C dX4_place_40 (by decide) ?_
  obtain ⟨hb27003, hf⟩ := tw_ck hf
  refine tw_zast C 18 1 hb27003 rfl rfl (tw_T_a18 cI cZ q (twA (twA st 16 k1 (vp_nar .boolean k0)) 17 v2 (vp_nar .boolean 0)) v2 (vp_nar .boolean 0)) dX4_place_41 ?_
  refine tw_iinc (v := (v2 + 1)) (lv' := [(2, .int (v2 + 1)), (0, .ref (q 5)), (1, .int v1)]) C dX4_place_42 (k := 2) rfl rfl (by decide) rfl ?_
  refine tw_goto (tgt := 2) C dX4_place_45 (by decide) ?_
  refine tw_sub [1, 2, 0] rfl ?_
  exact hrec v1 (v2 + 1) (twA (twA (twA st 16 k1 (vp_nar .boolean k0)) 17 v2 (vp_nar .boolean 0)) 18 v2 (vp_nar .boolean 0)) hf
set_option maxRecDepth 20000 in
theorem m_X4_place_L2b (C : twC p s m args meth c cX4_place 3 RX4 wsX4_place (dC, dI) (twY cI cZ) A) (hE : twEv p l e rm_X4_place s m args below meth c 0 0 Q (dC, dI) A 3 cX4_place (twT cI cZ q res)) {rec : Int32 → Int32 → twS → Option (twS)} (hrec : ∀ (v1 : Int32) (v2 : Int32) (st : twS), rec v1 v2 st = some res → twG p l e rm_X4_place s m args below meth c 0 0 Q (dC, dI) A 3 (twT cI cZ q st) 2 [(0, .ref (q 5)), (1, .int v1), (2, .int v2)] []) : ∀ (v1 : Int32) (v2 : Int32) (st : twS), f_X4_place_L2b rec v1 v2 st = some res → twG p l e rm_X4_place s m args below meth c 0 0 Q (dC, dI) A 3 (twT cI cZ q st) 2 [(0, .ref (q 5)), (1, .int v1), (2, .int v2)] [] := by
  intro v1 v2 st hf
  unfold f_X4_place_L2b at hf
  refine tw_iload_n C dX4_place_2 2 rfl rfl ?_
  refine tw_bipush (v := 12) C dX4_place_3 (by decide) ?_
  refine tw_icmp_ge (tgt := 48) C dX4_place_5 (by decide) (fun c2001 => ?_) (fun c2001 => ?_)
  · have hf := tw_pos hf c2001
    exact tw_endv (Wf := twT cI cZ q) hE hf dX4_place_48
  · have hf := tw_neg hf c2001
    refine tw_aload_n C dX4_place_8 0 rfl rfl ?_
    refine tw_get (K := RX4) (T := TX4) (N := 3) (v := .ref (q 16)) C 5 0 (fun _ h => List.mem_cons_of_mem _ (List.mem_append_right _ (h))) rfl rfl (by decide) (List.mem_cons_of_mem _ (List.mem_append_left _ (List.mem_of_getElem? (i := 0) rfl))) rfl rfl dX4_place_9 ?_
    refine tw_iload_n C dX4_place_12 2 rfl rfl ?_
    refine tw_iload_n C dX4_place_13 1 rfl rfl ?_
    refine tw_iload_n C dX4_place_14 2 rfl rfl ?_
    refine tw_ishr C dX4_place_15 ?_
    refine tw_iconst (v := 1) C dX4_place_16 (by decide) ?_
    refine tw_iand C dX4_place_17 ?_
    refine tw_iconst (v := 1) C dX4_place_18 (by decide) ?_
    refine tw_icmp_ne (tgt := 26) C dX4_place_19 (by decide) (fun c2002 => ?_) (fun c2002 => ?_)
    · have hf := tw_neg hf c2002
      refine tw_iconst (v := 0) C dX4_place_26 (by decide) ?_
      exact m_X4_place_L27 C hE hrec v1 v2 0 v2 st hf
    · have hf := tw_pos hf c2002
      refine tw_iconst (v := 1) C dX4_place_22 (by decide) ?_
      refine tw_goto (tgt := 27) C dX4_place_23 (by decide) ?_
      exact m_X4_place_L27 C hE hrec v1 v2 1 v2 st hf
theorem m_X4_place_L2 (C : twC p s m args meth c cX4_place 3 RX4 wsX4_place (dC, dI) (twY cI cZ) A) (hE : twEv p l e rm_X4_place s m args below meth c 0 0 Q (dC, dI) A 3 cX4_place (twT cI cZ q res)) : ∀ (n : Nat) (v1 : Int32) (v2 : Int32) (st : twS), f_X4_place_L2 n v1 v2 st = some res → twG p l e rm_X4_place s m args below meth c 0 0 Q (dC, dI) A 3 (twT cI cZ q st) 2 [(0, .ref (q 5)), (1, .int v1), (2, .int v2)] [] := by
  intro n
  induction n with
  | zero =>
    intro v1 v2 st hf
    have hf : none = some res := hf
    cases hf
  | succ n ih =>
    intro v1 v2 st hf
    exact m_X4_place_L2b C hE ih v1 v2 st hf
set_option maxRecDepth 20000 in
theorem c_X4_place (l : Launch) (dC : Nat → ClassId) (dI : Nat → Nat → Nat) (cI cZ : ClassId) (q : Nat → Nat) {st : twS} {v1 : Int32} {res : twS} (hf : f_X4_place st v1 = some res) : twMv l yX4_place wsX4_place rm_X4_place (dC, dI) (twY cI cZ) [.ref (q 5), .int v1] (twT cI cZ q st) (twT cI cZ q res) := by
  refine tw_entv (cc := cX4_place) (maxL := 3) (own := RX4) (by decide) rfl (Nat.le_of_ble_eq_true rfl) rfl ⟨rfl, rfl⟩ ?_
  intro p e s m below meth c A Q C hE
  generalize ([.ref (q 5), .int v1] : List Value).toArray = args at C hE ⊢
  refine tw_sub (lv' := [(0, .ref (q 5)), (1, .int v1)]) [0, 1] rfl ?_
  unfold f_X4_place at hf
  refine tw_iconst (v := 0) C dX4_place_0 (by decide) ?_
  refine tw_istore_n (lv' := [(2, .int 0), (0, .ref (q 5)), (1, .int v1)]) C dX4_place_1 rfl (by decide) rfl ?_
  refine tw_sub [1, 2, 0] rfl ?_
  exact m_X4_place_L2 C hE twN v1 0 st hf
end
/-! X4_setFailing: void setFailing(int, boolean) -/
abbrev rm_X4_setFailing : Room := { frames := 1, cells := 0, slots := 0, locals := 20 }
def f_X4_setFailing (st : twS) (v1 : Int32) (v2 : Int32) : Option (twS) :=
  ((f_X7_isSegment st v1).bind fun y1 => (if y1.1 = 0 then
    some y1.2
  else
    (if twb v1 12 = true then some (twA y1.2 18 v1 (vp_nar .boolean v2)) else none)))
section
variable {p : Program} {l : Launch} {e : Env} {s : State} {m : MethodId} {args : Array Value} {below : List Frame} {meth : Method} {c : Code} {Q : State → Prop} {dC : Nat → ClassId} {dI : Nat → Nat → Nat} {cI cZ : ClassId} {q : Nat → Nat} {A : Nat → Prop} {res : twS}
set_option maxRecDepth 20000 in
theorem c_X4_setFailing (l : Launch) (dC : Nat → ClassId) (dI : Nat → Nat → Nat) (cI cZ : ClassId) (q : Nat → Nat) {st : twS} {v1 : Int32} {v2 : Int32} {res : twS} (hf : f_X4_setFailing st v1 v2 = some res) : twMv l yX4_setFailing wsX4_setFailing rm_X4_setFailing (dC, dI) (twY cI cZ) [.ref (q 5), .int v1, .int v2] (twT cI cZ q st) (twT cI cZ q res) := by
  refine tw_entv (cc := cX4_setFailing) (maxL := 3) (own := RX4) (by decide) rfl (Nat.le_of_ble_eq_true rfl) rfl ⟨rfl, rfl⟩ ?_
  intro p e s m below meth c A Q C hE
  generalize ([.ref (q 5), .int v1, .int v2] : List Value).toArray = args at C hE ⊢
  refine tw_sub (lv' := [(0, .ref (q 5)), (1, .int v1), (2, .int v2)]) [0, 1, 2] rfl ?_
  unfold f_X4_setFailing at hf
  refine tw_iload_n C dX4_setFailing_0 1 rfl rfl ?_
  obtain ⟨y1, hc1, hf⟩ := tw_bd hf
  refine tw_cNi (As := [.int v1]) (stk := []) C (c_X7_isSegment l dC dI cI cZ q hc1) ⟨va_cnB (host := RX7) 1 C.hts gX4_setFailing_X7_isSegment_n21 rfl rfl rfl C.hN.1 (C.hts _ (List.mem_cons_of_mem _ (List.mem_append_left _ (List.mem_of_getElem? (i := 2) rfl)))) hd_X7_isSegment ⟨Nat.le_of_ble_eq_true rfl, Nat.le_of_ble_eq_true rfl⟩, C.hts _ (List.mem_cons_of_mem _ (List.mem_append_left _ (List.mem_of_getElem? (i := 1) rfl))), trivial⟩ rfl rfl (Nat.le_of_ble_eq_true rfl) dX4_setFailing_1 ⟨Nat.zero_le _, Nat.zero_le _⟩ ?_
  refine tw_if_eq (tgt := 14) C dX4_setFailing_4 (by decide) (fun c2 => ?_) (fun c2 => ?_)
  · have hf := tw_pos hf c2
    exact tw_endv (Wf := twT cI cZ q) hE hf dX4_setFailing_14
  · have hf := tw_neg hf c2
    refine tw_aload_n C dX4_setFailing_7 0 rfl rfl ?_
    refine tw_get (K := RX4) (T := TX4) (N := 3) (v := .ref (q 18)) C 5 2 (fun _ h => List.mem_cons_of_mem _ (List.mem_append_right _ (h))) rfl rfl (by decide) (List.mem_cons_of_mem _ (List.mem_append_left _ (List.mem_of_getElem? (i := 0) rfl))) rfl rfl dX4_setFailing_8 ?_
    refine tw_iload_n C dX4_setFailing_11 1 rfl rfl ?_
    refine tw_iload_n C dX4_setFailing_12 2 rfl rfl ?_
    obtain ⟨hb3, hf⟩ := tw_ck hf
    refine tw_zast C 18 1 hb3 rfl rfl (tw_T_a18 cI cZ q y1.2 v1 (vp_nar .boolean v2)) dX4_setFailing_13 ?_
    exact tw_endv (Wf := twT cI cZ q) hE hf dX4_setFailing_14
end
/-! X5_isFan: private static boolean isFan(int) -/
abbrev rm_X5_isFan : Room := { frames := 0, cells := 0, slots := 0, locals := 0 }
def f_X5_isFan (st : twS) (v0 : Int32) : Option (Int32 × twS) :=
  (if v0 < 0 then
    some (0, st)
  else
    (if 3 ≤ v0 then
    some (0, st)
  else
    some (1, st)))
section
variable {p : Program} {l : Launch} {e : Env} {s : State} {m : MethodId} {args : Array Value} {below : List Frame} {meth : Method} {c : Code} {Q : State → Prop} {dC : Nat → ClassId} {dI : Nat → Nat → Nat} {cI cZ : ClassId} {q : Nat → Nat} {A : Nat → Prop} {res : Int32 × twS}
set_option maxRecDepth 20000 in
theorem c_X5_isFan (l : Launch) (dC : Nat → ClassId) (dI : Nat → Nat → Nat) (cI cZ : ClassId) (q : Nat → Nat) {st : twS} {v0 : Int32} {res : Int32 × twS} (hf : f_X5_isFan st v0 = some res) : twMi l yX5_isFan wsX5_isFan rm_X5_isFan (dC, dI) (twY cI cZ) [.int v0] (twT cI cZ q st) res.1 (twT cI cZ q res.2) := by
  refine tw_enti (cc := cX5_isFan) (maxL := 1) (own := RX5) (by decide) rfl (Nat.le_of_ble_eq_true rfl) rfl ⟨rfl, rfl⟩ ?_
  intro p e s m below meth c A Q C hE
  generalize ([.int v0] : List Value).toArray = args at C hE ⊢
  refine tw_sub (lv' := [(0, .int v0)]) [0] rfl ?_
  unfold f_X5_isFan at hf
  refine tw_iload_n C dX5_isFan_0 0 rfl rfl ?_
  refine tw_if_lt (tgt := 13) C dX5_isFan_1 (by decide) (fun c1 => ?_) (fun c1 => ?_)
  · have hf := tw_pos hf c1
    refine tw_iconst (v := 0) C dX5_isFan_13 (by decide) ?_
    exact tw_endi (Wf := twT cI cZ q) hE hf dX5_isFan_14 rfl
  · have hf := tw_neg hf c1
    refine tw_iload_n C dX5_isFan_4 0 rfl rfl ?_
    refine tw_iconst (v := 3) C dX5_isFan_5 (by decide) ?_
    refine tw_icmp_ge (tgt := 13) C dX5_isFan_6 (by decide) (fun c2 => ?_) (fun c2 => ?_)
    · have hf := tw_pos hf c2
      refine tw_iconst (v := 0) C dX5_isFan_13 (by decide) ?_
      exact tw_endi (Wf := twT cI cZ q) hE hf dX5_isFan_14 rfl
    · have hf := tw_neg hf c2
      refine tw_iconst (v := 1) C dX5_isFan_9 (by decide) ?_
      refine tw_goto (tgt := 14) C dX5_isFan_10 (by decide) ?_
      exact tw_endi (Wf := twT cI cZ q) hE hf dX5_isFan_14 rfl
end
/-! X5_order: int order(int, int) -/
abbrev rm_X5_order : Room := { frames := 1, cells := 0, slots := 0, locals := 20 }
def f_X5_order (st : twS) (v1 : Int32) (v2 : Int32) : Option (Int32 × twS) :=
  ((f_X5_isFan st v1).bind fun y1 => (if y1.1 = 0 then
    some (0, y1.2)
  else
    (if twb v1 3 = true then (if twb v1 3 = true then some ((y1.2.2.1 10 v1.toNatClampNeg), (twA y1.2 10 v1 v2)) else none) else none)))
section
variable {p : Program} {l : Launch} {e : Env} {s : State} {m : MethodId} {args : Array Value} {below : List Frame} {meth : Method} {c : Code} {Q : State → Prop} {dC : Nat → ClassId} {dI : Nat → Nat → Nat} {cI cZ : ClassId} {q : Nat → Nat} {A : Nat → Prop} {res : Int32 × twS}
set_option maxRecDepth 20000 in
theorem c_X5_order (l : Launch) (dC : Nat → ClassId) (dI : Nat → Nat → Nat) (cI cZ : ClassId) (q : Nat → Nat) {st : twS} {v1 : Int32} {v2 : Int32} {res : Int32 × twS} (hf : f_X5_order st v1 v2 = some res) : twMi l yX5_order wsX5_order rm_X5_order (dC, dI) (twY cI cZ) [.ref (q 1), .int v1, .int v2] (twT cI cZ q st) res.1 (twT cI cZ q res.2) := by
  refine tw_enti (cc := cX5_order) (maxL := 4) (own := RX5) (by decide) rfl (Nat.le_of_ble_eq_true rfl) rfl ⟨rfl, rfl⟩ ?_
  intro p e s m below meth c A Q C hE
  generalize ([.ref (q 1), .int v1, .int v2] : List Value).toArray = args at C hE ⊢
  refine tw_sub (lv' := [(0, .ref (q 1)), (1, .int v1), (2, .int v2)]) [0, 1, 2] rfl ?_
  unfold f_X5_order at hf
  refine tw_iload_n C dX5_order_0 1 rfl rfl ?_
  obtain ⟨y1, hc1, hf⟩ := tw_bd hf
  refine tw_cSi (As := [.int v1]) (stk := []) C (c_X5_isFan l dC dI cI cZ q hc1) (va_cwS 1 C.hts gX5_order_X5_isFan rfl rfl rfl hd_X5_isFan ⟨Nat.le_of_ble_eq_true rfl, Nat.le_of_ble_eq_true rfl⟩) rfl rfl (Nat.le_of_ble_eq_true rfl) dX5_order_1 ⟨Nat.zero_le _, Nat.zero_le _⟩ ?_
  refine tw_if_ne (tgt := 9) C dX5_order_4 (by decide) (fun c2 => ?_) (fun c2 => ?_)
  · have hf := tw_neg hf c2
    refine tw_aload_n C dX5_order_9 0 rfl rfl ?_
    refine tw_get (K := RX5) (T := TX5) (N := 3) (v := .ref (q 10)) C 1 0 (fun _ h => List.mem_cons_of_mem _ (List.mem_append_right _ (h))) rfl rfl (by decide) (List.mem_cons_of_mem _ (List.mem_append_left _ (List.mem_of_getElem? (i := 0) rfl))) rfl rfl dX5_order_10 ?_
    refine tw_iload_n C dX5_order_13 1 rfl rfl ?_
    obtain ⟨hb3, hf⟩ := tw_ck hf
    refine tw_iald C 10 0 hb3 rfl rfl dX5_order_14 ?_
    refine tw_istore_n (lv' := [(3, .int (y1.2.2.1 10 v1.toNatClampNeg)), (0, .ref (q 1)), (1, .int v1), (2, .int v2)]) C dX5_order_15 rfl (by decide) rfl ?_
    refine tw_aload_n C dX5_order_16 1 rfl rfl ?_
    refine tw_get (K := RX5) (T := TX5) (N := 3) (v := .ref (q 10)) C 1 0 (fun _ h => List.mem_cons_of_mem _ (List.mem_append_right _ (h))) rfl rfl (by decide) (List.mem_cons_of_mem _ (List.mem_append_left _ (List.mem_of_getElem? (i := 0) rfl))) rfl rfl dX5_order_17 ?_
    refine tw_iload_n C dX5_order_20 2 rfl rfl ?_
    refine tw_iload_n C dX5_order_21 3 rfl rfl ?_
    obtain ⟨hb4, hf⟩ := tw_ck hf
    refine tw_iast C 10 0 hb4 rfl rfl (tw_T_a10 cI cZ q y1.2 v1 v2) dX5_order_22 ?_
    refine tw_iload_n C dX5_order_23 0 rfl rfl ?_
    exact tw_endi (Wf := twT cI cZ q) hE hf dX5_order_24 rfl
  · have hf := tw_pos hf c2
    refine tw_iconst (v := 0) C dX5_order_7 (by decide) ?_
    exact tw_endi (Wf := twT cI cZ q) hE hf dX5_order_8 rfl
end
/-! X5_stateOf: int stateOf(int) -/
abbrev rm_X5_stateOf : Room := { frames := 1, cells := 0, slots := 0, locals := 20 }
def f_X5_stateOf (st : twS) (v1 : Int32) : Option (Int32 × twS) :=
  ((f_X5_isFan st v1).bind fun y1 => (if y1.1 = 0 then
    some (0, y1.2)
  else
    (if twb v1 3 = true then some ((y1.2.2.1 11 v1.toNatClampNeg), y1.2) else none)))
section
variable {p : Program} {l : Launch} {e : Env} {s : State} {m : MethodId} {args : Array Value} {below : List Frame} {meth : Method} {c : Code} {Q : State → Prop} {dC : Nat → ClassId} {dI : Nat → Nat → Nat} {cI cZ : ClassId} {q : Nat → Nat} {A : Nat → Prop} {res : Int32 × twS}
set_option maxRecDepth 20000 in
theorem c_X5_stateOf (l : Launch) (dC : Nat → ClassId) (dI : Nat → Nat → Nat) (cI cZ : ClassId) (q : Nat → Nat) {st : twS} {v1 : Int32} {res : Int32 × twS} (hf : f_X5_stateOf st v1 = some res) : twMi l yX5_stateOf wsX5_stateOf rm_X5_stateOf (dC, dI) (twY cI cZ) [.ref (q 1), .int v1] (twT cI cZ q st) res.1 (twT cI cZ q res.2) := by
  refine tw_enti (cc := cX5_stateOf) (maxL := 2) (own := RX5) (by decide) rfl (Nat.le_of_ble_eq_true rfl) rfl ⟨rfl, rfl⟩ ?_
  intro p e s m below meth c A Q C hE
  generalize ([.ref (q 1), .int v1] : List Value).toArray = args at C hE ⊢
  refine tw_sub (lv' := [(0, .ref (q 1)), (1, .int v1)]) [0, 1] rfl ?_
  unfold f_X5_stateOf at hf
  refine tw_iload_n C dX5_stateOf_0 1 rfl rfl ?_
  obtain ⟨y1, hc1, hf⟩ := tw_bd hf
  refine tw_cSi (As := [.int v1]) (stk := []) C (c_X5_isFan l dC dI cI cZ q hc1) (va_cwS 1 C.hts gX5_stateOf_X5_isFan rfl rfl rfl hd_X5_isFan ⟨Nat.le_of_ble_eq_true rfl, Nat.le_of_ble_eq_true rfl⟩) rfl rfl (Nat.le_of_ble_eq_true rfl) dX5_stateOf_1 ⟨Nat.zero_le _, Nat.zero_le _⟩ ?_
  refine tw_if_eq (tgt := 16) C dX5_stateOf_4 (by decide) (fun c2 => ?_) (fun c2 => ?_)
  · have hf := tw_pos hf c2
    refine tw_iconst (v := 0) C dX5_stateOf_16 (by decide) ?_
    exact tw_endi (Wf := twT cI cZ q) hE hf dX5_stateOf_17 rfl
  · have hf := tw_neg hf c2
    refine tw_aload_n C dX5_stateOf_7 0 rfl rfl ?_
    refine tw_get (K := RX5) (T := TX5) (N := 3) (v := .ref (q 11)) C 1 1 (fun _ h => List.mem_cons_of_mem _ (List.mem_append_right _ (h))) rfl rfl (by decide) (List.mem_cons_of_mem _ (List.mem_append_left _ (List.mem_of_getElem? (i := 0) rfl))) rfl rfl dX5_stateOf_8 ?_
    refine tw_iload_n C dX5_stateOf_11 1 rfl rfl ?_
    obtain ⟨hb3, hf⟩ := tw_ck hf
    refine tw_iald C 11 0 hb3 rfl rfl dX5_stateOf_12 ?_
    refine tw_goto (tgt := 17) C dX5_stateOf_13 (by decide) ?_
    exact tw_endi (Wf := twT cI cZ q) hE hf dX5_stateOf_17 rfl
end
/-! X5_setFailing: void setFailing(int, boolean) -/
abbrev rm_X5_setFailing : Room := { frames := 1, cells := 0, slots := 0, locals := 20 }
def f_X5_setFailing (st : twS) (v1 : Int32) (v2 : Int32) : Option (twS) :=
  ((f_X5_isFan st v1).bind fun y1 => (if y1.1 = 0 then
    some y1.2
  else
    (if twb v1 3 = true then some (twA y1.2 12 v1 (vp_nar .boolean v2)) else none)))
section
variable {p : Program} {l : Launch} {e : Env} {s : State} {m : MethodId} {args : Array Value} {below : List Frame} {meth : Method} {c : Code} {Q : State → Prop} {dC : Nat → ClassId} {dI : Nat → Nat → Nat} {cI cZ : ClassId} {q : Nat → Nat} {A : Nat → Prop} {res : twS}
set_option maxRecDepth 20000 in
theorem c_X5_setFailing (l : Launch) (dC : Nat → ClassId) (dI : Nat → Nat → Nat) (cI cZ : ClassId) (q : Nat → Nat) {st : twS} {v1 : Int32} {v2 : Int32} {res : twS} (hf : f_X5_setFailing st v1 v2 = some res) : twMv l yX5_setFailing wsX5_setFailing rm_X5_setFailing (dC, dI) (twY cI cZ) [.ref (q 1), .int v1, .int v2] (twT cI cZ q st) (twT cI cZ q res) := by
  refine tw_entv (cc := cX5_setFailing) (maxL := 3) (own := RX5) (by decide) rfl (Nat.le_of_ble_eq_true rfl) rfl ⟨rfl, rfl⟩ ?_
  intro p e s m below meth c A Q C hE
  generalize ([.ref (q 1), .int v1, .int v2] : List Value).toArray = args at C hE ⊢
  refine tw_sub (lv' := [(0, .ref (q 1)), (1, .int v1), (2, .int v2)]) [0, 1, 2] rfl ?_
  unfold f_X5_setFailing at hf
  refine tw_iload_n C dX5_setFailing_0 1 rfl rfl ?_
  obtain ⟨y1, hc1, hf⟩ := tw_bd hf
  refine tw_cSi (As := [.int v1]) (stk := []) C (c_X5_isFan l dC dI cI cZ q hc1) (va_cwS 1 C.hts gX5_setFailing_X5_isFan rfl rfl rfl hd_X5_isFan ⟨Nat.le_of_ble_eq_true rfl, Nat.le_of_ble_eq_true rfl⟩) rfl rfl (Nat.le_of_ble_eq_true rfl) dX5_setFailing_1 ⟨Nat.zero_le _, Nat.zero_le _⟩ ?_
  refine tw_if_eq (tgt := 14) C dX5_setFailing_4 (by decide) (fun c2 => ?_) (fun c2 => ?_)
  · have hf := tw_pos hf c2
    exact tw_endv (Wf := twT cI cZ q) hE hf dX5_setFailing_14
  · have hf := tw_neg hf c2
    refine tw_aload_n C dX5_setFailing_7 0 rfl rfl ?_
    refine tw_get (K := RX5) (T := TX5) (N := 3) (v := .ref (q 12)) C 1 2 (fun _ h => List.mem_cons_of_mem _ (List.mem_append_right _ (h))) rfl rfl (by decide) (List.mem_cons_of_mem _ (List.mem_append_left _ (List.mem_of_getElem? (i := 0) rfl))) rfl rfl dX5_setFailing_8 ?_
    refine tw_iload_n C dX5_setFailing_11 1 rfl rfl ?_
    refine tw_iload_n C dX5_setFailing_12 2 rfl rfl ?_
    obtain ⟨hb3, hf⟩ := tw_ck hf
    refine tw_zast C 12 1 hb3 rfl rfl (tw_T_a12 cI cZ q y1.2 v1 (vp_nar .boolean v2)) dX5_setFailing_13 ?_
    exact tw_endv (Wf := twT cI cZ q) hE hf dX5_setFailing_14
end
/-! X6_blow: int blow(int) -/
abbrev rm_X6_blow : Room := { frames := 0, cells := 0, slots := 0, locals := 0 }
def f_X6_blow (st : twS) (v1 : Int32) : Option (Int32 × twS) :=
  some ((st.1 5), (twI st 5 v1))
section
variable {p : Program} {l : Launch} {e : Env} {s : State} {m : MethodId} {args : Array Value} {below : List Frame} {meth : Method} {c : Code} {Q : State → Prop} {dC : Nat → ClassId} {dI : Nat → Nat → Nat} {cI cZ : ClassId} {q : Nat → Nat} {A : Nat → Prop} {res : Int32 × twS}
set_option maxRecDepth 20000 in
theorem c_X6_blow (l : Launch) (dC : Nat → ClassId) (dI : Nat → Nat → Nat) (cI cZ : ClassId) (q : Nat → Nat) {st : twS} {v1 : Int32} {res : Int32 × twS} (hf : f_X6_blow st v1 = some res) : twMi l yX6_blow wsX6_blow rm_X6_blow (dC, dI) (twY cI cZ) [.ref (q 2), .int v1] (twT cI cZ q st) res.1 (twT cI cZ q res.2) := by
  refine tw_enti (cc := cX6_blow) (maxL := 3) (own := RX6) (by decide) rfl (Nat.le_of_ble_eq_true rfl) rfl ⟨rfl, rfl⟩ ?_
  intro p e s m below meth c A Q C hE
  generalize ([.ref (q 2), .int v1] : List Value).toArray = args at C hE ⊢
  refine tw_sub (lv' := [(0, .ref (q 2)), (1, .int v1)]) [0, 1] rfl ?_
  unfold f_X6_blow at hf
  refine tw_aload_n C dX6_blow_0 0 rfl rfl ?_
  refine tw_get (K := RX6) (T := TX6) (N := 3) (v := .int (st.1 5)) C 2 1 (fun _ h => List.mem_cons_of_mem _ (List.mem_append_right _ (h))) rfl rfl (by decide) (List.mem_cons_of_mem _ (List.mem_append_left _ (List.mem_of_getElem? (i := 0) rfl))) rfl rfl dX6_blow_1 ?_
  refine tw_istore_n (lv' := [(2, .int (st.1 5)), (0, .ref (q 2)), (1, .int v1)]) C dX6_blow_4 rfl (by decide) rfl ?_
  refine tw_aload_n C dX6_blow_5 1 rfl rfl ?_
  refine tw_iload_n C dX6_blow_6 2 rfl rfl ?_
  refine tw_put (K := RX6) (T := TX6) (N := 3) C 2 1 tyX6 tyX6_ok nmX6 (fun _ h => List.mem_cons_of_mem _ (List.mem_append_right _ (h))) rfl rfl (by decide) (List.mem_cons_of_mem _ (List.mem_append_left _ (List.mem_of_getElem? (i := 0) rfl))) rfl rfl rfl rfl (Nat.le_of_ble_eq_true rfl) (tw_T_si5 cI cZ q st v1) dX6_blow_7 ?_
  refine tw_iload_n C dX6_blow_10 0 rfl rfl ?_
  exact tw_endi (Wf := twT cI cZ q) hE hf dX6_blow_11 rfl
end
