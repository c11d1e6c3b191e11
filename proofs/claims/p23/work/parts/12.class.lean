theorem hd_X0_drift : yX0_drift.cls = RX0 ∧ yX0_drift.cls ≠ "java/lang/invoke/MethodHandle" ∧ yX0_drift.cls ≠ "java/lang/invoke/VarHandle" ∧ (parseMethodDescriptor yX0_drift.desc).map (fun d => d.parameters.length) = some 1 := by decide +kernel
theorem hd_X0_smokeIn : yX0_smokeIn.cls = RX0 ∧ yX0_smokeIn.cls ≠ "java/lang/invoke/MethodHandle" ∧ yX0_smokeIn.cls ≠ "java/lang/invoke/VarHandle" ∧ (parseMethodDescriptor yX0_smokeIn.desc).map (fun d => d.parameters.length) = some 1 := by decide +kernel
theorem hd_X0_backUp : yX0_backUp.cls = RX0 ∧ yX0_backUp.cls ≠ "java/lang/invoke/MethodHandle" ∧ yX0_backUp.cls ≠ "java/lang/invoke/VarHandle" ∧ (parseMethodDescriptor yX0_backUp.desc).map (fun d => d.parameters.length) = some 2 := by decide +kernel
theorem hd_X0_drawOff : yX0_drawOff.cls = RX0 ∧ yX0_drawOff.cls ≠ "java/lang/invoke/MethodHandle" ∧ yX0_drawOff.cls ≠ "java/lang/invoke/VarHandle" ∧ (parseMethodDescriptor yX0_drawOff.desc).map (fun d => d.parameters.length) = some 1 := by decide +kernel
theorem hd_X0_cool : yX0_cool.cls = RX0 ∧ yX0_cool.cls ≠ "java/lang/invoke/MethodHandle" ∧ yX0_cool.cls ≠ "java/lang/invoke/VarHandle" ∧ (parseMethodDescriptor yX0_cool.desc).map (fun d => d.parameters.length) = some 0 := by decide +kernel
theorem hd_X7_moveAir : yX7_moveAir.cls = RX7 ∧ yX7_moveAir.cls ≠ "java/lang/invoke/MethodHandle" ∧ yX7_moveAir.cls ≠ "java/lang/invoke/VarHandle" ∧ (parseMethodDescriptor yX7_moveAir.desc).map (fun d => d.parameters.length) = some 0 := by decide +kernel
theorem hd_X0_heatIn : yX0_heatIn.cls = RX0 ∧ yX0_heatIn.cls ≠ "java/lang/invoke/MethodHandle" ∧ yX0_heatIn.cls ≠ "java/lang/invoke/VarHandle" ∧ (parseMethodDescriptor yX0_heatIn.desc).map (fun d => d.parameters.length) = some 1 := by decide +kernel
theorem hd_X7_detectorWorks : yX7_detectorWorks.cls = RX7 ∧ yX7_detectorWorks.cls ≠ "java/lang/invoke/MethodHandle" ∧ yX7_detectorWorks.cls ≠ "java/lang/invoke/VarHandle" ∧ (parseMethodDescriptor yX7_detectorWorks.desc).map (fun d => d.parameters.length) = some 2 := by decide +kernel
theorem hd_X3_insideOf : yX3_insideOf.cls = RX3 ∧ yX3_insideOf.cls ≠ "java/lang/invoke/MethodHandle" ∧ yX3_insideOf.cls ≠ "java/lang/invoke/VarHandle" ∧ (parseMethodDescriptor yX3_insideOf.desc).map (fun d => d.parameters.length) = some 1 := by decide +kernel
theorem hd_X7_tellingIn : yX7_tellingIn.cls = RX7 ∧ yX7_tellingIn.cls ≠ "java/lang/invoke/MethodHandle" ∧ yX7_tellingIn.cls ≠ "java/lang/invoke/VarHandle" ∧ (parseMethodDescriptor yX7_tellingIn.desc).map (fun d => d.parameters.length) = some 1 := by decide +kernel
theorem hd_X2_start : yX2_start.cls = RX2 ∧ yX2_start.cls ≠ "java/lang/invoke/MethodHandle" ∧ yX2_start.cls ≠ "java/lang/invoke/VarHandle" ∧ (parseMethodDescriptor yX2_start.desc).map (fun d => d.parameters.length) = some 1 := by decide +kernel
theorem hd_X7_watch : yX7_watch.cls = RX7 ∧ yX7_watch.cls ≠ "java/lang/invoke/MethodHandle" ∧ yX7_watch.cls ≠ "java/lang/invoke/VarHandle" ∧ (parseMethodDescriptor yX7_watch.desc).map (fun d => d.parameters.length) = some 0 := by decide +kernel
theorem hd_X2_isAct : yX2_isAct.cls = RX2 ∧ yX2_isAct.cls ≠ "java/lang/invoke/MethodHandle" ∧ yX2_isAct.cls ≠ "java/lang/invoke/VarHandle" ∧ (parseMethodDescriptor yX2_isAct.desc).map (fun d => d.parameters.length) = some 1 := by decide +kernel
theorem hd_X2_isDue : yX2_isDue.cls = RX2 ∧ yX2_isDue.cls ≠ "java/lang/invoke/MethodHandle" ∧ yX2_isDue.cls ≠ "java/lang/invoke/VarHandle" ∧ (parseMethodDescriptor yX2_isDue.desc).map (fun d => d.parameters.length) = some 1 := by decide +kernel
theorem hd_X2_finishNext : yX2_finishNext.cls = RX2 ∧ yX2_finishNext.cls ≠ "java/lang/invoke/MethodHandle" ∧ yX2_finishNext.cls ≠ "java/lang/invoke/VarHandle" ∧ (parseMethodDescriptor yX2_finishNext.desc).map (fun d => d.parameters.length) = some 1 := by decide +kernel
theorem hd_X6_stopTraffic : yX6_stopTraffic.cls = RX6 ∧ yX6_stopTraffic.cls ≠ "java/lang/invoke/MethodHandle" ∧ yX6_stopTraffic.cls ≠ "java/lang/invoke/VarHandle" ∧ (parseMethodDescriptor yX6_stopTraffic.desc).map (fun d => d.parameters.length) = some 0 := by decide +kernel
theorem hd_X4_openAll : yX4_openAll.cls = RX4 ∧ yX4_openAll.cls ≠ "java/lang/invoke/MethodHandle" ∧ yX4_openAll.cls ≠ "java/lang/invoke/VarHandle" ∧ (parseMethodDescriptor yX4_openAll.desc).map (fun d => d.parameters.length) = some 0 := by decide +kernel
theorem hd_X5_orderAll : yX5_orderAll.cls = RX5 ∧ yX5_orderAll.cls ≠ "java/lang/invoke/MethodHandle" ∧ yX5_orderAll.cls ≠ "java/lang/invoke/VarHandle" ∧ (parseMethodDescriptor yX5_orderAll.desc).map (fun d => d.parameters.length) = some 1 := by decide +kernel
theorem hd_X1_turnFoamOn : yX1_turnFoamOn.cls = RX1 ∧ yX1_turnFoamOn.cls ≠ "java/lang/invoke/MethodHandle" ∧ yX1_turnFoamOn.cls ≠ "java/lang/invoke/VarHandle" ∧ (parseMethodDescriptor yX1_turnFoamOn.desc).map (fun d => d.parameters.length) = some 0 := by decide +kernel
theorem hd_X7_perform : yX7_perform.cls = RX7 ∧ yX7_perform.cls ≠ "java/lang/invoke/MethodHandle" ∧ yX7_perform.cls ≠ "java/lang/invoke/VarHandle" ∧ (parseMethodDescriptor yX7_perform.desc).map (fun d => d.parameters.length) = some 1 := by decide +kernel
/-! X0_drift: void drift(double) -/
abbrev rm_X0_drift : Room := { frames := 2, cells := 0, slots := 0, locals := 43 }
def f_X0_drift_L44b (rec : UInt64 → Int32 → twS → Option (twS)) (v1 : UInt64) (v4 : Int32) (st : twS) : Option (twS) :=
  (if 12 ≤ v4 then
    some st
  else
    ((f_X0_side st v1).bind fun y44002 => (if twb v4 12 = true then ((f_X0_shift y44002.2 v4 (v4 + y44002.1) (y44002.2.2.1 15 v4.toNatClampNeg)).bind fun y44004 => rec v1 (v4 + 1) y44004) else none)))
def f_X0_drift_L44 : Nat → UInt64 → Int32 → twS → Option (twS)
  | 0 => fun _ _ _ => none
  | n + 1 => fun v1 v4 st => f_X0_drift_L44b (f_X0_drift_L44 n) v1 v4 st
def f_X0_drift_L9b (rec : UInt64 → Int32 → Int32 → twS → Option (twS)) (v1 : UInt64) (v3 : Int32) (v4 : Int32) (st : twS) : Option (twS) :=
  (if 12 ≤ v4 then
    f_X0_drift_L44 twN v1 0 st
  else
    (if twb v4 12 = true then (if twb v4 12 = true then rec v1 v3 (v4 + 1) (twA st 15 v4 (((st.2.1 13 v4.toNatClampNeg) * v3) / 100)) else none) else none))
def f_X0_drift_L9 : Nat → UInt64 → Int32 → Int32 → twS → Option (twS)
  | 0 => fun _ _ _ _ => none
  | n + 1 => fun v1 v3 v4 st => f_X0_drift_L9b (f_X0_drift_L9 n) v1 v3 v4 st
def f_X0_drift (st : twS) (v1 : UInt64) : Option (twS) :=
  ((f_X0_withoutSign st v1).bind fun y1 => f_X0_drift_L9 twN v1 (FP.d2i y1.1) 0 y1.2)
section
variable {p : Program} {l : Launch} {e : Env} {s : State} {m : MethodId} {args : Array Value} {below : List Frame} {meth : Method} {c : Code} {Q : State → Prop} {dC : Nat → ClassId} {dI : Nat → Nat → Nat} {cI cZ : ClassId} {q : Nat → Nat} {A : Nat → Prop} {res : twS}
set_option maxRecDepth 20000 in
theorem m_X0_drift_L44b (C : twC p s m args meth c cX0_drift 5 RX0 wsX0_drift (dC, dI) (twY cI cZ) A) (hE : twEv p l e rm_X0_drift s m args below meth c 0 0 Q (dC, dI) A 5 cX0_drift (twT cI cZ q res)) {rec : UInt64 → Int32 → twS → Option (twS)} (hrec : ∀ (v1 : UInt64) (v4 : Int32) (st : twS), rec v1 v4 st = some res → twG p l e rm_X0_drift s m args below meth c 0 0 Q (dC, dI) A 5 (twT cI cZ q st) 44 [(0, .ref (q 3)), (1, .double v1), (4, .int v4)] []) : ∀ (v1 : UInt64) (v4 : Int32) (st : twS), f_X0_drift_L44b rec v1 v4 st = some res → twG p l e rm_X0_drift s m args below meth c 0 0 Q (dC, dI) A 5 (twT cI cZ q st) 44 [(0, .ref (q 3)), (1, .double v1), (4, .int v4)] [] := by
  intro v1 v4 st hf
  unfold f_X0_drift_L44b at hf
  refine tw_iload C dX0_drift_44 2 rfl ?_
  refine tw_bipush (v := 12) C dX0_drift_46 (by decide) ?_
  refine tw_icmp_ge (tgt := 77) C dX0_drift_48 (by decide) (fun c44001 => ?_) (fun c44001 => ?_)
  · have hf := tw_pos hf c44001
    exact tw_endv (Wf := twT cI cZ q) hE hf dX0_drift_77
  · have hf := tw_neg hf c44001
    refine tw_aload_n C dX0_drift_51 0 rfl rfl ?_
    refine tw_iload C dX0_drift_52 2 rfl ?_
    refine tw_iload C dX0_drift_54 2 rfl ?_
    refine tw_dload_n C dX0_drift_56 1 rfl rfl ?_
    obtain ⟨y44002, hc44002, hf⟩ := tw_bd hf
    refine tw_cSi (As := [.double v1]) (stk := [.int v4, .int v4, .ref (q 3)]) C (c_X0_side l dC dI cI cZ q hc44002) (va_cwS 1 C.hts gX0_drift_X0_side rfl rfl rfl hd_X0_side ⟨Nat.le_of_ble_eq_true rfl, Nat.le_of_ble_eq_true rfl⟩) rfl rfl (Nat.le_of_ble_eq_true rfl) dX0_drift_57 ⟨Nat.zero_le _, Nat.zero_le _⟩ ?_
    refine tw_iadd C dX0_drift_60 ?_
    refine tw_aload_n C dX0_drift_61 0 rfl rfl ?_
    refine tw_get (K := RX0) (T := TX0) (N := 4) (v := .ref (q 15)) C 3 2 (fun _ h => List.mem_cons_of_mem _ (List.mem_append_right _ (h))) rfl rfl (by decide) (List.mem_cons_of_mem _ (List.mem_append_left _ (List.mem_of_getElem? (i := 0) rfl))) rfl rfl dX0_drift_62 ?_
    refine tw_iload C dX0_drift_65 2 rfl ?_
    obtain ⟨hb44003, hf⟩ := tw_ck hf
    refine tw_iald C 15 0 hb44003 rfl rfl dX0_drift_67 ?_
    obtain ⟨y44004, hc44004, hf⟩ := tw_bd hf
    refine tw_cVv (As := [.int v4, .int (v4 + y44002.1), .int (y44002.2.2.1 15 v4.toNatClampNeg)]) (stk := []) C (c_X0_shift l dC dI cI cZ q hc44004) (cwV 3 C.hts gX0_drift_X0_shift rfl rfl rfl hd_X0_shift ⟨Nat.le_of_ble_eq_true rfl, Nat.le_of_ble_eq_true rfl⟩) 3 (ci := 0) rfl rfl rfl rfl rfl (Nat.le_of_ble_eq_true rfl) dX0_drift_68 ⟨Nat.zero_le _, Nat.zero_le _⟩ ?_
    refine tw_iinc (v := (v4 + 1)) (lv' := [(4, .int (v4 + 1)), (0, .ref (q 3)), (1, .double v1)]) C dX0_drift_71 (k := 2) rfl rfl (by decide) rfl ?_
    refine tw_goto (tgt := 44) C dX0_drift_74 (by decide) ?_
    refine tw_sub [1, 2, 0] rfl ?_
    exact hrec v1 (v4 + 1) y44004 hf
theorem m_X0_drift_L44 (C : twC p s m args meth c cX0_drift 5 RX0 wsX0_drift (dC, dI) (twY cI cZ) A) (hE : twEv p l e rm_X0_drift s m args below meth c 0 0 Q (dC, dI) A 5 cX0_drift (twT cI cZ q res)) : ∀ (n : Nat) (v1 : UInt64) (v4 : Int32) (st : twS), f_X0_drift_L44 n v1 v4 st = some res → twG p l e rm_X0_drift s m args below meth c 0 0 Q (dC, dI) A 5 (twT cI cZ q st) 44 [(0, .ref (q 3)), (1, .double v1), (4, .int v4)] [] := by
  intro n
  induction n with
  | zero =>
    intro v1 v4 st hf
    have hf : none = some res := hf
    cases hf
  | succ n ih =>
    intro v1 v4 st hf
    exact m_X0_drift_L44b C hE ih v1 v4 st hf
set_option maxRecDepth 20000 in
theorem m_X0_drift_L9b (C : twC p s m args meth c cX0_drift 5 RX0 wsX0_drift (dC, dI) (twY cI cZ) A) (hE : twEv p l e rm_X0_drift s m args below meth c 0 0 Q (dC, dI) A 5 cX0_drift (twT cI cZ q res)) {rec : UInt64 → Int32 → Int32 → twS → Option (twS)} (hrec : ∀ (v1 : UInt64) (v3 : Int32) (v4 : Int32) (st : twS), rec v1 v3 v4 st = some res → twG p l e rm_X0_drift s m args below meth c 0 0 Q (dC, dI) A 5 (twT cI cZ q st) 9 [(0, .ref (q 3)), (1, .double v1), (3, .int v3), (4, .int v4)] []) : ∀ (v1 : UInt64) (v3 : Int32) (v4 : Int32) (st : twS), f_X0_drift_L9b rec v1 v3 v4 st = some res → twG p l e rm_X0_drift s m args below meth c 0 0 Q (dC, dI) A 5 (twT cI cZ q st) 9 [(0, .ref (q 3)), (1, .double v1), (3, .int v3), (4, .int v4)] [] := by
  intro v1 v3 v4 st hf
  unfold f_X0_drift_L9b at hf
  refine tw_iload C dX0_drift_9 3 rfl ?_
  refine tw_bipush (v := 12) C dX0_drift_11 (by decide) ?_
  refine tw_icmp_ge (tgt := 41) C dX0_drift_13 (by decide) (fun c9001 => ?_) (fun c9001 => ?_)
  · have hf := tw_pos hf c9001
    refine tw_iconst (v := 0) C dX0_drift_41 (by decide) ?_
    refine tw_istore (lv' := [(4, .int 0), (0, .ref (q 3)), (1, .double v1), (3, .int v3)]) C dX0_drift_42 (by decide) rfl ?_
    refine tw_sub [1, 2, 0] rfl ?_
    exact m_X0_drift_L44 C hE twN v1 0 st hf
  · have hf := tw_neg hf c9001
    refine tw_aload_n C dX0_drift_16 0 rfl rfl ?_
    refine tw_get (K := RX0) (T := TX0) (N := 4) (v := .ref (q 15)) C 3 2 (fun _ h => List.mem_cons_of_mem _ (List.mem_append_right _ (h))) rfl rfl (by decide) (List.mem_cons_of_mem _ (List.mem_append_left _ (List.mem_of_getElem? (i := 0) rfl))) rfl rfl dX0_drift_17 ?_
    refine tw_iload C dX0_drift_20 3 rfl ?_
    refine tw_aload_n C dX0_drift_22 0 rfl rfl ?_
    refine tw_get (K := RX0) (T := TX0) (N := 4) (v := .ref (q 13)) C 3 0 (fun _ h => List.mem_cons_of_mem _ (List.mem_append_right _ (h))) rfl rfl (by decide) (List.mem_cons_of_mem _ (List.mem_append_left _ (List.mem_of_getElem? (i := 1) rfl))) rfl rfl dX0_drift_23 ?_
    refine tw_iload C dX0_drift_26 3 rfl ?_
    obtain ⟨hb9002, hf⟩ := tw_ck hf
    refine tw_iald C 13 0 hb9002 rfl rfl dX0_drift_28 ?_
    refine tw_iload_n C dX0_drift_29 2 rfl rfl ?_
    refine tw_imul C dX0_drift_30 ?_
    refine tw_bipush (v := 100) C dX0_drift_31 (by decide) ?_
    refine tw_idiv C dX0_drift_33 (by decide) ?_
    obtain ⟨hb9003, hf⟩ := tw_ck hf
    refine tw_iast C 15 0 hb9003 rfl rfl (tw_T_a15 cI cZ q st v4 (((st.2.1 13 v4.toNatClampNeg) * v3) / 100)) dX0_drift_34 ?_
    refine tw_iinc (v := (v4 + 1)) (lv' := [(4, .int (v4 + 1)), (0, .ref (q 3)), (1, .double v1), (3, .int v3)]) C dX0_drift_35 (k := 3) rfl rfl (by decide) rfl ?_
    refine tw_goto (tgt := 9) C dX0_drift_38 (by decide) ?_
    refine tw_sub [1, 2, 3, 0] rfl ?_
    exact hrec v1 v3 (v4 + 1) (twA st 15 v4 (((st.2.1 13 v4.toNatClampNeg) * v3) / 100)) hf
theorem m_X0_drift_L9 (C : twC p s m args meth c cX0_drift 5 RX0 wsX0_drift (dC, dI) (twY cI cZ) A) (hE : twEv p l e rm_X0_drift s m args below meth c 0 0 Q (dC, dI) A 5 cX0_drift (twT cI cZ q res)) : ∀ (n : Nat) (v1 : UInt64) (v3 : Int32) (v4 : Int32) (st : twS), f_X0_drift_L9 n v1 v3 v4 st = some res → twG p l e rm_X0_drift s m args below meth c 0 0 Q (dC, dI) A 5 (twT cI cZ q st) 9 [(0, .ref (q 3)), (1, .double v1), (3, .int v3), (4, .int v4)] [] := by
  intro n
  induction n with
  | zero =>
    intro v1 v3 v4 st hf
    have hf : none = some res := hf
    cases hf
  | succ n ih =>
    intro v1 v3 v4 st hf
    exact m_X0_drift_L9b C hE ih v1 v3 v4 st hf
set_option maxRecDepth 20000 in
theorem c_X0_drift (l : Launch) (dC : Nat → ClassId) (dI : Nat → Nat → Nat) (cI cZ : ClassId) (q : Nat → Nat) {st : twS} {v1 : UInt64} {res : twS} (hf : f_X0_drift st v1 = some res) : twMv l yX0_drift wsX0_drift rm_X0_drift (dC, dI) (twY cI cZ) [.ref (q 3), .double v1] (twT cI cZ q st) (twT cI cZ q res) := by
  refine tw_entv (cc := cX0_drift) (maxL := 5) (own := RX0) (by decide) rfl (Nat.le_of_ble_eq_true rfl) rfl ⟨rfl, rfl⟩ ?_
  intro p e s m below meth c A Q C hE
  generalize ([.ref (q 3), .double v1] : List Value).toArray = args at C hE ⊢
  refine tw_sub (lv' := [(0, .ref (q 3)), (1, .double v1)]) [0, 1] rfl ?_
  unfold f_X0_drift at hf
  refine tw_dload_n C dX0_drift_0 1 rfl rfl ?_
  obtain ⟨y1, hc1, hf⟩ := tw_bd hf
  refine tw_cSd (As := [.double v1]) (stk := []) C (c_X0_withoutSign l dC dI cI cZ q hc1) (va_cwS 1 C.hts gX0_drift_X0_withoutSign rfl rfl rfl hd_X0_withoutSign ⟨Nat.le_of_ble_eq_true rfl, Nat.le_of_ble_eq_true rfl⟩) rfl rfl (Nat.le_of_ble_eq_true rfl) dX0_drift_1 ⟨Nat.zero_le _, Nat.zero_le _⟩ ?_
  refine tw_d2i C dX0_drift_4 ?_
  refine tw_istore_n (lv' := [(3, .int (FP.d2i y1.1)), (0, .ref (q 3)), (1, .double v1)]) C dX0_drift_5 rfl (by decide) rfl ?_
  refine tw_iconst (v := 0) C dX0_drift_6 (by decide) ?_
  refine tw_istore (lv' := [(4, .int 0), (3, .int (FP.d2i y1.1)), (0, .ref (q 3)), (1, .double v1)]) C dX0_drift_7 (by decide) rfl ?_
  refine tw_sub [2, 3, 1, 0] rfl ?_
  exact m_X0_drift_L9 C hE twN v1 (FP.d2i y1.1) 0 y1.2 hf
end
/-! X0_smokeIn: int smokeIn(int) -/
abbrev rm_X0_smokeIn : Room := { frames := 1, cells := 0, slots := 0, locals := 20 }
def f_X0_smokeIn (st : twS) (v1 : Int32) : Option (Int32 × twS) :=
  ((f_X7_isSegment st v1).bind fun y1 => (if y1.1 = 0 then
    some (0, y1.2)
  else
    (if twb v1 12 = true then some ((y1.2.2.1 13 v1.toNatClampNeg), y1.2) else none)))
section
variable {p : Program} {l : Launch} {e : Env} {s : State} {m : MethodId} {args : Array Value} {below : List Frame} {meth : Method} {c : Code} {Q : State → Prop} {dC : Nat → ClassId} {dI : Nat → Nat → Nat} {cI cZ : ClassId} {q : Nat → Nat} {A : Nat → Prop} {res : Int32 × twS}
set_option maxRecDepth 20000 in
theorem c_X0_smokeIn (l : Launch) (dC : Nat → ClassId) (dI : Nat → Nat → Nat) (cI cZ : ClassId) (q : Nat → Nat) {st : twS} {v1 : Int32} {res : Int32 × twS} (hf : f_X0_smokeIn st v1 = some res) : twMi l yX0_smokeIn wsX0_smokeIn rm_X0_smokeIn (dC, dI) (twY cI cZ) [.ref (q 3), .int v1] (twT cI cZ q st) res.1 (twT cI cZ q res.2) := by
  refine tw_enti (cc := cX0_smokeIn) (maxL := 2) (own := RX0) (by decide) rfl (Nat.le_of_ble_eq_true rfl) rfl ⟨rfl, rfl⟩ ?_
  intro p e s m below meth c A Q C hE
  generalize ([.ref (q 3), .int v1] : List Value).toArray = args at C hE ⊢
  refine tw_sub (lv' := [(0, .ref (q 3)), (1, .int v1)]) [0, 1] rfl ?_
  unfold f_X0_smokeIn at hf
  refine tw_iload_n C dX0_smokeIn_0 1 rfl rfl ?_
  obtain ⟨y1, hc1, hf⟩ := tw_bd hf
  refine tw_cNi (As := [.int v1]) (stk := []) C (c_X7_isSegment l dC dI cI cZ q hc1) ⟨va_cnB (host := RX7) 1 C.hts gX0_smokeIn_X7_isSegment_n25 rfl rfl rfl C.hN.2.1 (C.hts _ (List.mem_cons_of_mem _ (List.mem_append_left _ (List.mem_of_getElem? (i := 2) rfl)))) hd_X7_isSegment ⟨Nat.le_of_ble_eq_true rfl, Nat.le_of_ble_eq_true rfl⟩, C.hts _ (List.mem_cons_of_mem _ (List.mem_append_left _ (List.mem_of_getElem? (i := 1) rfl))), trivial⟩ rfl rfl (Nat.le_of_ble_eq_true rfl) dX0_smokeIn_1 ⟨Nat.zero_le _, Nat.zero_le _⟩ ?_
  refine tw_if_eq (tgt := 16) C dX0_smokeIn_4 (by decide) (fun c2 => ?_) (fun c2 => ?_)
  · have hf := tw_pos hf c2
    refine tw_iconst (v := 0) C dX0_smokeIn_16 (by decide) ?_
    exact tw_endi (Wf := twT cI cZ q) hE hf dX0_smokeIn_17 rfl
  · have hf := tw_neg hf c2
    refine tw_aload_n C dX0_smokeIn_7 0 rfl rfl ?_
    refine tw_get (K := RX0) (T := TX0) (N := 4) (v := .ref (q 13)) C 3 0 (fun _ h => List.mem_cons_of_mem _ (List.mem_append_right _ (h))) rfl rfl (by decide) (List.mem_cons_of_mem _ (List.mem_append_left _ (List.mem_of_getElem? (i := 0) rfl))) rfl rfl dX0_smokeIn_8 ?_
    refine tw_iload_n C dX0_smokeIn_11 1 rfl rfl ?_
    obtain ⟨hb3, hf⟩ := tw_ck hf
    refine tw_iald C 13 0 hb3 rfl rfl dX0_smokeIn_12 ?_
    refine tw_goto (tgt := 17) C dX0_smokeIn_13 (by decide) ?_
    exact tw_endi (Wf := twT cI cZ q) hE hf dX0_smokeIn_17 rfl
end
/-! X0_backUp: void backUp(int, double) -/
abbrev rm_X0_backUp : Room := { frames := 2, cells := 0, slots := 0, locals := 43 }
def f_X0_backUp (st : twS) (v1 : Int32) (v2 : UInt64) : Option (twS) :=
  ((f_X0_withoutSign st v2).bind fun y1 => (if 0 ≤ (Op.cmpValue (FP.dcmp y1.1 4629137466983448576) CmpOp.g) then
    some y1.2
  else
    ((f_X0_side y1.2 v2).bind fun y3 => ((f_X0_smokeIn y3.2 v1).bind fun y4 => ((f_X0_shift y4.2 v1 (v1 - y3.1) (y4.1 / 10)).bind fun y5 => some y5)))))
section
variable {p : Program} {l : Launch} {e : Env} {s : State} {m : MethodId} {args : Array Value} {below : List Frame} {meth : Method} {c : Code} {Q : State → Prop} {dC : Nat → ClassId} {dI : Nat → Nat → Nat} {cI cZ : ClassId} {q : Nat → Nat} {A : Nat → Prop} {res : twS}
set_option maxRecDepth 20000 in
theorem c_X0_backUp (l : Launch) (dC : Nat → ClassId) (dI : Nat → Nat → Nat) (cI cZ : ClassId) (q : Nat → Nat) {st : twS} {v1 : Int32} {v2 : UInt64} {res : twS} (hf : f_X0_backUp st v1 v2 = some res) : twMv l yX0_backUp wsX0_backUp rm_X0_backUp (dC, dI) (twY cI cZ) [.ref (q 3), .int v1, .double v2] (twT cI cZ q st) (twT cI cZ q res) := by
  refine tw_entv (cc := cX0_backUp) (maxL := 4) (own := RX0) (by decide) rfl (Nat.le_of_ble_eq_true rfl) rfl ⟨rfl, rfl⟩ ?_
  intro p e s m below meth c A Q C hE
  generalize ([.ref (q 3), .int v1, .double v2] : List Value).toArray = args at C hE ⊢
  refine tw_sub (lv' := [(0, .ref (q 3)), (1, .int v1), (2, .double v2)]) [0, 1, 2] rfl ?_
  unfold f_X0_backUp at hf
  refine tw_dload_n C dX0_backUp_0 2 rfl rfl ?_
  obtain ⟨y1, hc1, hf⟩ := tw_bd hf
  refine tw_cSd (As := [.double v2]) (stk := []) C (c_X0_withoutSign l dC dI cI cZ q hc1) (va_cwS 1 C.hts gX0_backUp_X0_withoutSign rfl rfl rfl hd_X0_withoutSign ⟨Nat.le_of_ble_eq_true rfl, Nat.le_of_ble_eq_true rfl⟩) rfl rfl (Nat.le_of_ble_eq_true rfl) dX0_backUp_1 ⟨Nat.zero_le _, Nat.zero_le _⟩ ?_
  refine tw_ldc2d C (List.mem_cons_of_mem _ (List.mem_append_left _ (List.mem_of_getElem? (i := 0) rfl))) dX0_backUp_4 ?_
  refine tw_dcmp C dX0_backUp_7 ?_
  refine tw_if_ge (tgt := 30) C dX0_backUp_8 (by decide) (fun c2 => ?_) (fun c2 => ?_)
  · have hf := tw_pos hf c2
    exact tw_endv (Wf := twT cI cZ q) hE hf dX0_backUp_30
  · have hf := tw_neg hf c2
    refine tw_aload_n C dX0_backUp_11 0 rfl rfl ?_
    refine tw_iload_n C dX0_backUp_12 1 rfl rfl ?_
    refine tw_iload_n C dX0_backUp_13 1 rfl rfl ?_
    refine tw_dload_n C dX0_backUp_14 2 rfl rfl ?_
    obtain ⟨y3, hc3, hf⟩ := tw_bd hf
    refine tw_cSi (As := [.double v2]) (stk := [.int v1, .int v1, .ref (q 3)]) C (c_X0_side l dC dI cI cZ q hc3) (va_cwS 1 C.hts gX0_backUp_X0_side rfl rfl rfl hd_X0_side ⟨Nat.le_of_ble_eq_true rfl, Nat.le_of_ble_eq_true rfl⟩) rfl rfl (Nat.le_of_ble_eq_true rfl) dX0_backUp_15 ⟨Nat.zero_le _, Nat.zero_le _⟩ ?_
    refine tw_isub C dX0_backUp_18 ?_
    refine tw_aload_n C dX0_backUp_19 0 rfl rfl ?_
    refine tw_iload_n C dX0_backUp_20 1 rfl rfl ?_
    obtain ⟨y4, hc4, hf⟩ := tw_bd hf
    refine tw_cVi (As := [.int v1]) (stk := [.int (v1 - y3.1), .int v1, .ref (q 3)]) C (c_X0_smokeIn l dC dI cI cZ q hc4) (cwV 1 C.hts gX0_backUp_X0_smokeIn rfl rfl rfl hd_X0_smokeIn ⟨Nat.le_of_ble_eq_true rfl, Nat.le_of_ble_eq_true rfl⟩) 3 (ci := 0) rfl rfl rfl rfl rfl (Nat.le_of_ble_eq_true rfl) dX0_backUp_21 ⟨Nat.zero_le _, Nat.zero_le _⟩ ?_
    refine tw_bipush (v := 10) C dX0_backUp_24 (by decide) ?_
    refine tw_idiv C dX0_backUp_26 (by decide) ?_
    obtain ⟨y5, hc5, hf⟩ := tw_bd hf
    refine tw_cVv (As := [.int v1, .int (v1 - y3.1), .int (y4.1 / 10)]) (stk := []) C (c_X0_shift l dC dI cI cZ q hc5) (cwV 3 C.hts gX0_backUp_X0_shift rfl rfl rfl hd_X0_shift ⟨Nat.le_of_ble_eq_true rfl, Nat.le_of_ble_eq_true rfl⟩) 3 (ci := 0) rfl rfl rfl rfl rfl (Nat.le_of_ble_eq_true rfl) dX0_backUp_27 ⟨Nat.zero_le _, Nat.zero_le _⟩ ?_
    exact tw_endv (Wf := twT cI cZ q) hE hf dX0_backUp_30
end
/-! X0_drawOff: void drawOff(int) -/
abbrev rm_X0_drawOff : Room := { frames := 2, cells := 0, slots := 0, locals := 43 }
def f_X0_drawOff (st : twS) (v1 : Int32) : Option (twS) :=
  ((f_X0_smokeIn st v1).bind fun y1 => ((f_X0_shift y1.2 v1 (-1) (y1.1 / 3)).bind fun y2 => some y2))
section
variable {p : Program} {l : Launch} {e : Env} {s : State} {m : MethodId} {args : Array Value} {below : List Frame} {meth : Method} {c : Code} {Q : State → Prop} {dC : Nat → ClassId} {dI : Nat → Nat → Nat} {cI cZ : ClassId} {q : Nat → Nat} {A : Nat → Prop} {res : twS}
set_option maxRecDepth 20000 in
theorem c_X0_drawOff (l : Launch) (dC : Nat → ClassId) (dI : Nat → Nat → Nat) (cI cZ : ClassId) (q : Nat → Nat) {st : twS} {v1 : Int32} {res : twS} (hf : f_X0_drawOff st v1 = some res) : twMv l yX0_drawOff wsX0_drawOff rm_X0_drawOff (dC, dI) (twY cI cZ) [.ref (q 3), .int v1] (twT cI cZ q st) (twT cI cZ q res) := by
  refine tw_entv (cc := cX0_drawOff) (maxL := 2) (own := RX0) (by decide) rfl (Nat.le_of_ble_eq_true rfl) rfl ⟨rfl, rfl⟩ ?_
  intro p e s m below meth c A Q C hE
  generalize ([.ref (q 3), .int v1] : List Value).toArray = args at C hE ⊢
  refine tw_sub (lv' := [(0, .ref (q 3)), (1, .int v1)]) [0, 1] rfl ?_
  unfold f_X0_drawOff at hf
  refine tw_aload_n C dX0_drawOff_0 0 rfl rfl ?_
  refine tw_iload_n C dX0_drawOff_1 1 rfl rfl ?_
  refine tw_iconst (v := (-1)) C dX0_drawOff_2 (by decide) ?_
  refine tw_aload_n C dX0_drawOff_3 0 rfl rfl ?_
  refine tw_iload_n C dX0_drawOff_4 1 rfl rfl ?_
  obtain ⟨y1, hc1, hf⟩ := tw_bd hf
  refine tw_cVi (As := [.int v1]) (stk := [.int (-1), .int v1, .ref (q 3)]) C (c_X0_smokeIn l dC dI cI cZ q hc1) (cwV 1 C.hts gX0_drawOff_X0_smokeIn rfl rfl rfl hd_X0_smokeIn ⟨Nat.le_of_ble_eq_true rfl, Nat.le_of_ble_eq_true rfl⟩) 3 (ci := 0) rfl rfl rfl rfl rfl (Nat.le_of_ble_eq_true rfl) dX0_drawOff_5 ⟨Nat.zero_le _, Nat.zero_le _⟩ ?_
  refine tw_iconst (v := 3) C dX0_drawOff_8 (by decide) ?_
  refine tw_idiv C dX0_drawOff_9 (by decide) ?_
  obtain ⟨y2, hc2, hf⟩ := tw_bd hf
  refine tw_cVv (As := [.int v1, .int (-1), .int (y1.1 / 3)]) (stk := []) C (c_X0_shift l dC dI cI cZ q hc2) (cwV 3 C.hts gX0_drawOff_X0_shift rfl rfl rfl hd_X0_shift ⟨Nat.le_of_ble_eq_true rfl, Nat.le_of_ble_eq_true rfl⟩) 3 (ci := 0) rfl rfl rfl rfl rfl (Nat.le_of_ble_eq_true rfl) dX0_drawOff_10 ⟨Nat.zero_le _, Nat.zero_le _⟩ ?_
  exact tw_endv (Wf := twT cI cZ q) hE hf dX0_drawOff_13
end
/-! X0_cool: void cool() -/
abbrev rm_X0_cool : Room := { frames := 0, cells := 0, slots := 0, locals := 0 }
def f_X0_cool_L2b (rec : Int32 → twS → Option (twS)) (v1 : Int32) (st : twS) : Option (twS) :=
  (if 12 ≤ v1 then
    some st
  else
    (if twb v1 12 = true then (if twb v1 12 = true then (if twb v1 12 = true then rec (v1 + 1) (twA st 14 v1 ((st.2.1 14 v1.toNatClampNeg) - (((st.2.1 14 v1.toNatClampNeg) + 3) / 4))) else none) else none) else none))
def f_X0_cool_L2 : Nat → Int32 → twS → Option (twS)
  | 0 => fun _ _ => none
  | n + 1 => fun v1 st => f_X0_cool_L2b (f_X0_cool_L2 n) v1 st
def f_X0_cool (st : twS) : Option (twS) :=
  f_X0_cool_L2 twN 0 st
section
variable {p : Program} {l : Launch} {e : Env} {s : State} {m : MethodId} {args : Array Value} {below : List Frame} {meth : Method} {c : Code} {Q : State → Prop} {dC : Nat → ClassId} {dI : Nat → Nat → Nat} {cI cZ : ClassId} {q : Nat → Nat} {A : Nat → Prop} {res : twS}
set_option maxRecDepth 20000 in
theorem m_X0_cool_L2b (C : twC p s m args meth c cX0_cool 2 RX0 wsX0_cool (dC, dI) (twY cI cZ) A) (hE : twEv p l e rm_X0_cool s m args below meth c 0 0 Q (dC, dI) A 2 cX0_cool (twT cI cZ q res)) {rec : Int32 → twS → Option (twS)} (hrec : ∀ (v1 : Int32) (st : twS), rec v1 st = some res → twG p l e rm_X0_cool s m args below meth c 0 0 Q (dC, dI) A 2 (twT cI cZ q st) 2 [(0, .ref (q 3)), (1, .int v1)] []) : ∀ (v1 : Int32) (st : twS), f_X0_cool_L2b rec v1 st = some res → twG p l e rm_X0_cool s m args below meth c 0 0 Q (dC, dI) A 2 (twT cI cZ q st) 2 [(0, .ref (q 3)), (1, .int v1)] [] := by
  intro v1 st hf
  unfold f_X0_cool_L2b at hf
  refine tw_iload_n C dX0_cool_2 1 rfl rfl ?_
  refine tw_bipush (v := 12) C dX0_cool_3 (by decide) ?_
  refine tw_icmp_ge (tgt := 33) C dX0_cool_5 (by decide) (fun c2001 => ?_) (fun c2001 => ?_)
  · have hf := tw_pos hf c2001
    exact tw_endv (Wf := twT cI cZ q) hE hf dX0_cool_33
  · have hf := tw_neg hf c2001
    refine tw_aload_n C dX0_cool_8 0 rfl rfl ?_
    refine tw_get (K := RX0) (T := TX0) (N := 4) (v := .ref (q 14)) C 3 1 (fun _ h => List.mem_cons_of_mem _ (List.mem_append_right _ (h))) rfl rfl (by decide) (List.mem_cons_of_mem _ (List.mem_append_left _ (List.mem_of_getElem? (i := 0) rfl))) rfl rfl dX0_cool_9 ?_
    refine tw_iload_n C dX0_cool_12 1 rfl rfl ?_
    refine tw_dup2 C dX0_cool_13 rfl rfl ?_
    obtain ⟨hb2002, hf⟩ := tw_ck hf
    refine tw_iald C 14 0 hb2002 rfl rfl dX0_cool_14 ?_
    refine tw_aload_n C dX0_cool_15 0 rfl rfl ?_
    refine tw_get (K := RX0) (T := TX0) (N := 4) (v := .ref (q 14)) C 3 1 (fun _ h => List.mem_cons_of_mem _ (List.mem_append_right _ (h))) rfl rfl (by decide) (List.mem_cons_of_mem _ (List.mem_append_left _ (List.mem_of_getElem? (i := 0) rfl))) rfl rfl dX0_cool_16 ?_
    refine tw_iload_n C dX0_cool_19 1 rfl rfl ?_
    obtain ⟨hb2003, hf⟩ := tw_ck hf
    refine tw_iald C 14 0 hb2003 rfl rfl dX0_cool_20 ?_
    refine tw_iconst (v := 3) C dX0_cool_21 (by decide) ?_
    refine tw_iadd C dX0_cool_22 ?_
    refine tw_iconst (v := 4) C dX0_cool_23 (by decide) ?_
    refine tw_idiv C dX0_cool_24 (by decide) ?_
    refine tw_isub C dX0_cool_25 ?_
    obtain ⟨hb2004, hf⟩ := tw_ck hf
    refine tw_iast C 14 0 hb2004 rfl rfl (tw_T_a14 cI cZ q st v1 ((st.2.1 14 v1.toNatClampNeg) - (((st.2.1 14 v1.toNatClampNeg) + 3) / 4))) dX0_cool_26 ?_
    refine tw_iinc (v := (v1 + 1)) (lv' := [(1, .int (v1 + 1)), (0, .ref (q 3))]) C dX0_cool_27 (k := 1) rfl rfl (by decide) rfl ?_
    refine tw_goto (tgt := 2) C dX0_cool_30 (by decide) ?_
    refine tw_sub [1, 0] rfl ?_
    exact hrec (v1 + 1) (twA st 14 v1 ((st.2.1 14 v1.toNatClampNeg) - (((st.2.1 14 v1.toNatClampNeg) + 3) / 4))) hf
theorem m_X0_cool_L2 (C : twC p s m args meth c cX0_cool 2 RX0 wsX0_cool (dC, dI) (twY cI cZ) A) (hE : twEv p l e rm_X0_cool s m args below meth c 0 0 Q (dC, dI) A 2 cX0_cool (twT cI cZ q res)) : ∀ (n : Nat) (v1 : Int32) (st : twS), f_X0_cool_L2 n v1 st = some res → twG p l e rm_X0_cool s m args below meth c 0 0 Q (dC, dI) A 2 (twT cI cZ q st) 2 [(0, .ref (q 3)), (1, .int v1)] [] := by
  intro n
  induction n with
  | zero =>
    intro v1 st hf
    have hf : none = some res := hf
    cases hf
  | succ n ih =>
    intro v1 st hf
    exact m_X0_cool_L2b C hE ih v1 st hf
set_option maxRecDepth 20000 in
theorem c_X0_cool (l : Launch) (dC : Nat → ClassId) (dI : Nat → Nat → Nat) (cI cZ : ClassId) (q : Nat → Nat) {st : twS} {res : twS} (hf : f_X0_cool st = some res) : twMv l yX0_cool wsX0_cool rm_X0_cool (dC, dI) (twY cI cZ) [.ref (q 3)] (twT cI cZ q st) (twT cI cZ q res) := by
  refine tw_entv (cc := cX0_cool) (maxL := 2) (own := RX0) (by decide) rfl (Nat.le_of_ble_eq_true rfl) rfl ⟨rfl, rfl⟩ ?_
  intro p e s m below meth c A Q C hE
  generalize ([.ref (q 3)] : List Value).toArray = args at C hE ⊢
  refine tw_sub (lv' := [(0, .ref (q 3))]) [0] rfl ?_
  unfold f_X0_cool at hf
  refine tw_iconst (v := 0) C dX0_cool_0 (by decide) ?_
  refine tw_istore_n (lv' := [(1, .int 0), (0, .ref (q 3))]) C dX0_cool_1 rfl (by decide) rfl ?_
  refine tw_sub [1, 0] rfl ?_
  exact m_X0_cool_L2 C hE twN 0 st hf
end
/-! X7_moveAir: private void moveAir() -/
abbrev rm_X7_moveAir : Room := { frames := 3, cells := 0, slots := 0, locals := 67 }
def f_X7_moveAir_L63 (st : twS) : Option (twS) :=
  ((f_X0_cool st).bind fun y63001 => some y63001)
def f_X7_moveAir_L45 (st : twS) : Option (twS) :=
  (if (st.1 1) = 0 then
    f_X7_moveAir_L63 st
  else
    ((f_X0_drawOff st (st.1 0)).bind fun y45002 => f_X7_moveAir_L63 y45002))
def f_X7_moveAir (st : twS) : Option (twS) :=
  ((f_X6_speed st).bind fun y1 => ((f_X0_drift y1.2 y1.1).bind fun y2 => ((f_X1_isBurning y2).bind fun y3 => (if y3.1 = 0 then
    f_X7_moveAir_L45 y3.2
  else
    ((f_X1_place y3.2).bind fun y5 => ((f_X6_speed y5.2).bind fun y6 => ((f_X0_backUp y6.2 y5.1 y6.1).bind fun y7 => f_X7_moveAir_L45 y7)))))))
section
variable {p : Program} {l : Launch} {e : Env} {s : State} {m : MethodId} {args : Array Value} {below : List Frame} {meth : Method} {c : Code} {Q : State → Prop} {dC : Nat → ClassId} {dI : Nat → Nat → Nat} {cI cZ : ClassId} {q : Nat → Nat} {A : Nat → Prop} {res : twS}
set_option maxRecDepth 20000 in
theorem m_X7_moveAir_L63 (C : twC p s m args meth c cX7_moveAir 1 RX7 wsX7_moveAir (dC, dI) (twY cI cZ) A) (hE : twEv p l e rm_X7_moveAir s m args below meth c 0 0 Q (dC, dI) A 1 cX7_moveAir (twT cI cZ q res)) : ∀ (st : twS), f_X7_moveAir_L63 st = some res → twG p l e rm_X7_moveAir s m args below meth c 0 0 Q (dC, dI) A 1 (twT cI cZ q st) 63 [(0, .ref (q 0))] [] := by
  intro st hf
  unfold f_X7_moveAir_L63 at hf
  refine tw_aload_n C dX7_moveAir_63 0 rfl rfl ?_
  refine tw_get (K := RX7) (T := TX7) (N := 14) (v := .ref (q 3)) C 0 2 (fun _ h => List.mem_cons_of_mem _ (List.mem_append_left _ (List.mem_append_left _ (List.mem_append_left _ (List.mem_append_right _ (h)))))) rfl rfl (by decide) (List.mem_cons_of_mem _ (List.mem_append_left _ (List.mem_append_left _ (List.mem_append_left _ (List.mem_append_left _ (List.mem_append_left _ (List.mem_of_getElem? (i := 0) rfl))))))) rfl rfl dX7_moveAir_64 ?_
  obtain ⟨y63001, hc63001, hf⟩ := tw_bd hf
  refine tw_cVv (As := []) (stk := []) C (c_X0_cool l dC dI cI cZ q hc63001) (cwV 0 C.hts gX7_moveAir_X0_cool rfl rfl rfl hd_X0_cool ⟨Nat.le_of_ble_eq_true rfl, Nat.le_of_ble_eq_true rfl⟩) 3 (ci := 0) rfl rfl rfl rfl rfl (Nat.le_of_ble_eq_true rfl) dX7_moveAir_67 ⟨Nat.zero_le _, Nat.zero_le _⟩ ?_
  exact tw_endv (Wf := twT cI cZ q) hE hf dX7_moveAir_70
set_option maxRecDepth 20000 in
theorem m_X7_moveAir_L45 (C : twC p s m args meth c cX7_moveAir 1 RX7 wsX7_moveAir (dC, dI) (twY cI cZ) A) (hE : twEv p l e rm_X7_moveAir s m args below meth c 0 0 Q (dC, dI) A 1 cX7_moveAir (twT cI cZ q res)) : ∀ (st : twS), f_X7_moveAir_L45 st = some res → twG p l e rm_X7_moveAir s m args below meth c 0 0 Q (dC, dI) A 1 (twT cI cZ q st) 45 [(0, .ref (q 0))] [] := by
  intro st hf
  unfold f_X7_moveAir_L45 at hf
  refine tw_aload_n C dX7_moveAir_45 0 rfl rfl ?_
  refine tw_get (K := RX7) (T := TX7) (N := 14) (v := .int (st.1 1)) C 0 10 (fun _ h => List.mem_cons_of_mem _ (List.mem_append_left _ (List.mem_append_left _ (List.mem_append_left _ (List.mem_append_right _ (h)))))) rfl rfl (by decide) (List.mem_cons_of_mem _ (List.mem_append_left _ (List.mem_append_left _ (List.mem_append_left _ (List.mem_append_left _ (List.mem_append_left _ (List.mem_of_getElem? (i := 3) rfl))))))) rfl rfl dX7_moveAir_46 ?_
  refine tw_if_eq (tgt := 63) C dX7_moveAir_49 (by decide) (fun c45001 => ?_) (fun c45001 => ?_)
  · have hf := tw_pos hf c45001
    exact m_X7_moveAir_L63 C hE st hf
  · have hf := tw_neg hf c45001
    refine tw_aload_n C dX7_moveAir_52 0 rfl rfl ?_
    refine tw_get (K := RX7) (T := TX7) (N := 14) (v := .ref (q 3)) C 0 2 (fun _ h => List.mem_cons_of_mem _ (List.mem_append_left _ (List.mem_append_left _ (List.mem_append_left _ (List.mem_append_right _ (h)))))) rfl rfl (by decide) (List.mem_cons_of_mem _ (List.mem_append_left _ (List.mem_append_left _ (List.mem_append_left _ (List.mem_append_left _ (List.mem_append_left _ (List.mem_of_getElem? (i := 0) rfl))))))) rfl rfl dX7_moveAir_53 ?_
    refine tw_aload_n C dX7_moveAir_56 0 rfl rfl ?_
    refine tw_get (K := RX7) (T := TX7) (N := 14) (v := .int (st.1 0)) C 0 9 (fun _ h => List.mem_cons_of_mem _ (List.mem_append_left _ (List.mem_append_left _ (List.mem_append_left _ (List.mem_append_right _ (h)))))) rfl rfl (by decide) (List.mem_cons_of_mem _ (List.mem_append_left _ (List.mem_append_left _ (List.mem_append_left _ (List.mem_append_left _ (List.mem_append_left _ (List.mem_of_getElem? (i := 4) rfl))))))) rfl rfl dX7_moveAir_57 ?_
    obtain ⟨y45002, hc45002, hf⟩ := tw_bd hf
    refine tw_cVv (As := [.int (st.1 0)]) (stk := []) C (c_X0_drawOff l dC dI cI cZ q hc45002) (cwV 1 C.hts gX7_moveAir_X0_drawOff rfl rfl rfl hd_X0_drawOff ⟨Nat.le_of_ble_eq_true rfl, Nat.le_of_ble_eq_true rfl⟩) 3 (ci := 0) rfl rfl rfl rfl rfl (Nat.le_of_ble_eq_true rfl) dX7_moveAir_60 ⟨Nat.zero_le _, Nat.zero_le _⟩ ?_
    exact m_X7_moveAir_L63 C hE y45002 hf
set_option maxRecDepth 20000 in
theorem c_X7_moveAir (l : Launch) (dC : Nat → ClassId) (dI : Nat → Nat → Nat) (cI cZ : ClassId) (q : Nat → Nat) {st : twS} {res : twS} (hf : f_X7_moveAir st = some res) : twMv l yX7_moveAir wsX7_moveAir rm_X7_moveAir (dC, dI) (twY cI cZ) [.ref (q 0)] (twT cI cZ q st) (twT cI cZ q res) := by
  refine tw_entv (cc := cX7_moveAir) (maxL := 1) (own := RX7) (by decide) rfl (Nat.le_of_ble_eq_true rfl) rfl ⟨rfl, rfl⟩ ?_
  intro p e s m below meth c A Q C hE
  generalize ([.ref (q 0)] : List Value).toArray = args at C hE ⊢
  refine tw_sub (lv' := [(0, .ref (q 0))]) [0] rfl ?_
  unfold f_X7_moveAir at hf
  refine tw_aload_n C dX7_moveAir_0 0 rfl rfl ?_
  refine tw_get (K := RX7) (T := TX7) (N := 14) (v := .ref (q 3)) C 0 2 (fun _ h => List.mem_cons_of_mem _ (List.mem_append_left _ (List.mem_append_left _ (List.mem_append_left _ (List.mem_append_right _ (h)))))) rfl rfl (by decide) (List.mem_cons_of_mem _ (List.mem_append_left _ (List.mem_append_left _ (List.mem_append_left _ (List.mem_append_left _ (List.mem_append_left _ (List.mem_of_getElem? (i := 0) rfl))))))) rfl rfl dX7_moveAir_1 ?_
  refine tw_aload_n C dX7_moveAir_4 0 rfl rfl ?_
  refine tw_get (K := RX7) (T := TX7) (N := 14) (v := .ref (q 2)) C 0 1 (fun _ h => List.mem_cons_of_mem _ (List.mem_append_left _ (List.mem_append_left _ (List.mem_append_left _ (List.mem_append_right _ (h)))))) rfl rfl (by decide) (List.mem_cons_of_mem _ (List.mem_append_left _ (List.mem_append_left _ (List.mem_append_left _ (List.mem_append_left _ (List.mem_append_left _ (List.mem_of_getElem? (i := 1) rfl))))))) rfl rfl dX7_moveAir_5 ?_
  obtain ⟨y1, hc1, hf⟩ := tw_bd hf
  refine tw_cVd (As := []) (stk := [.ref (q 3)]) C (c_X6_speed l dC dI cI cZ q hc1) (cwV 0 C.hts gX7_moveAir_X6_speed rfl rfl rfl hd_X6_speed ⟨Nat.le_of_ble_eq_true rfl, Nat.le_of_ble_eq_true rfl⟩) 2 (ci := 6) rfl rfl rfl rfl rfl (Nat.le_of_ble_eq_true rfl) dX7_moveAir_8 ⟨Nat.zero_le _, Nat.zero_le _⟩ ?_
  obtain ⟨y2, hc2, hf⟩ := tw_bd hf
  refine tw_cVv (As := [.double y1.1]) (stk := []) C (c_X0_drift l dC dI cI cZ q hc2) (cwV 1 C.hts gX7_moveAir_X0_drift rfl rfl rfl hd_X0_drift ⟨Nat.le_of_ble_eq_true rfl, Nat.le_of_ble_eq_true rfl⟩) 3 (ci := 0) rfl rfl rfl rfl rfl (Nat.le_of_ble_eq_true rfl) dX7_moveAir_11 ⟨Nat.zero_le _, Nat.zero_le _⟩ ?_
  refine tw_aload_n C dX7_moveAir_14 0 rfl rfl ?_
  refine tw_get (K := RX7) (T := TX7) (N := 14) (v := .ref (q 4)) C 0 3 (fun _ h => List.mem_cons_of_mem _ (List.mem_append_left _ (List.mem_append_left _ (List.mem_append_left _ (List.mem_append_right _ (h)))))) rfl rfl (by decide) (List.mem_cons_of_mem _ (List.mem_append_left _ (List.mem_append_left _ (List.mem_append_left _ (List.mem_append_left _ (List.mem_append_left _ (List.mem_of_getElem? (i := 2) rfl))))))) rfl rfl dX7_moveAir_15 ?_
  obtain ⟨y3, hc3, hf⟩ := tw_bd hf
  refine tw_cVi (As := []) (stk := []) C (c_X1_isBurning l dC dI cI cZ q hc3) (cwV 0 C.hts gX7_moveAir_X1_isBurning rfl rfl rfl hd_X1_isBurning ⟨Nat.le_of_ble_eq_true rfl, Nat.le_of_ble_eq_true rfl⟩) 4 (ci := 1) rfl rfl rfl rfl rfl (Nat.le_of_ble_eq_true rfl) dX7_moveAir_18 ⟨Nat.zero_le _, Nat.zero_le _⟩ ?_
  refine tw_if_eq (tgt := 45) C dX7_moveAir_21 (by decide) (fun c4 => ?_) (fun c4 => ?_)
  · have hf := tw_pos hf c4
    exact m_X7_moveAir_L45 C hE y3.2 hf
  · have hf := tw_neg hf c4
    refine tw_aload_n C dX7_moveAir_24 0 rfl rfl ?_
    refine tw_get (K := RX7) (T := TX7) (N := 14) (v := .ref (q 3)) C 0 2 (fun _ h => List.mem_cons_of_mem _ (List.mem_append_left _ (List.mem_append_left _ (List.mem_append_left _ (List.mem_append_right _ (h)))))) rfl rfl (by decide) (List.mem_cons_of_mem _ (List.mem_append_left _ (List.mem_append_left _ (List.mem_append_left _ (List.mem_append_left _ (List.mem_append_left _ (List.mem_of_getElem? (i := 0) rfl))))))) rfl rfl dX7_moveAir_25 ?_
    refine tw_aload_n C dX7_moveAir_28 0 rfl rfl ?_
    refine tw_get (K := RX7) (T := TX7) (N := 14) (v := .ref (q 4)) C 0 3 (fun _ h => List.mem_cons_of_mem _ (List.mem_append_left _ (List.mem_append_left _ (List.mem_append_left _ (List.mem_append_right _ (h)))))) rfl rfl (by decide) (List.mem_cons_of_mem _ (List.mem_append_left _ (List.mem_append_left _ (List.mem_append_left _ (List.mem_append_left _ (List.mem_append_left _ (List.mem_of_getElem? (i := 2) rfl))))))) rfl rfl dX7_moveAir_29 ?_
    obtain ⟨y5, hc5, hf⟩ := tw_bd hf
    refine tw_cVi (As := []) (stk := [.ref (q 3)]) C (c_X1_place l dC dI cI cZ q hc5) (cwV 0 C.hts gX7_moveAir_X1_place rfl rfl rfl hd_X1_place ⟨Nat.le_of_ble_eq_true rfl, Nat.le_of_ble_eq_true rfl⟩) 4 (ci := 1) rfl rfl rfl rfl rfl (Nat.le_of_ble_eq_true rfl) dX7_moveAir_32 ⟨Nat.zero_le _, Nat.zero_le _⟩ ?_
    refine tw_aload_n C dX7_moveAir_35 0 rfl rfl ?_
    refine tw_get (K := RX7) (T := TX7) (N := 14) (v := .ref (q 2)) C 0 1 (fun _ h => List.mem_cons_of_mem _ (List.mem_append_left _ (List.mem_append_left _ (List.mem_append_left _ (List.mem_append_right _ (h)))))) rfl rfl (by decide) (List.mem_cons_of_mem _ (List.mem_append_left _ (List.mem_append_left _ (List.mem_append_left _ (List.mem_append_left _ (List.mem_append_left _ (List.mem_of_getElem? (i := 1) rfl))))))) rfl rfl dX7_moveAir_36 ?_
    obtain ⟨y6, hc6, hf⟩ := tw_bd hf
    refine tw_cVd (As := []) (stk := [.int y5.1, .ref (q 3)]) C (c_X6_speed l dC dI cI cZ q hc6) (cwV 0 C.hts gX7_moveAir_X6_speed rfl rfl rfl hd_X6_speed ⟨Nat.le_of_ble_eq_true rfl, Nat.le_of_ble_eq_true rfl⟩) 2 (ci := 6) rfl rfl rfl rfl rfl (Nat.le_of_ble_eq_true rfl) dX7_moveAir_39 ⟨Nat.zero_le _, Nat.zero_le _⟩ ?_
    obtain ⟨y7, hc7, hf⟩ := tw_bd hf
    refine tw_cVv (As := [.int y5.1, .double y6.1]) (stk := []) C (c_X0_backUp l dC dI cI cZ q hc7) (cwV 2 C.hts gX7_moveAir_X0_backUp rfl rfl rfl hd_X0_backUp ⟨Nat.le_of_ble_eq_true rfl, Nat.le_of_ble_eq_true rfl⟩) 3 (ci := 0) rfl rfl rfl rfl rfl (Nat.le_of_ble_eq_true rfl) dX7_moveAir_42 ⟨Nat.zero_le _, Nat.zero_le _⟩ ?_
    exact m_X7_moveAir_L45 C hE y7 hf
end
/-! X0_heatIn: int heatIn(int) -/
abbrev rm_X0_heatIn : Room := { frames := 1, cells := 0, slots := 0, locals := 20 }
def f_X0_heatIn (st : twS) (v1 : Int32) : Option (Int32 × twS) :=
  ((f_X7_isSegment st v1).bind fun y1 => (if y1.1 = 0 then
    some (0, y1.2)
  else
    (if twb v1 12 = true then some ((y1.2.2.1 14 v1.toNatClampNeg), y1.2) else none)))
section
variable {p : Program} {l : Launch} {e : Env} {s : State} {m : MethodId} {args : Array Value} {below : List Frame} {meth : Method} {c : Code} {Q : State → Prop} {dC : Nat → ClassId} {dI : Nat → Nat → Nat} {cI cZ : ClassId} {q : Nat → Nat} {A : Nat → Prop} {res : Int32 × twS}
set_option maxRecDepth 20000 in
theorem c_X0_heatIn (l : Launch) (dC : Nat → ClassId) (dI : Nat → Nat → Nat) (cI cZ : ClassId) (q : Nat → Nat) {st : twS} {v1 : Int32} {res : Int32 × twS} (hf : f_X0_heatIn st v1 = some res) : twMi l yX0_heatIn wsX0_heatIn rm_X0_heatIn (dC, dI) (twY cI cZ) [.ref (q 3), .int v1] (twT cI cZ q st) res.1 (twT cI cZ q res.2) := by
  refine tw_enti (cc := cX0_heatIn) (maxL := 2) (own := RX0) (by decide) rfl (Nat.le_of_ble_eq_true rfl) rfl ⟨rfl, rfl⟩ ?_
  intro p e s m below meth c A Q C hE
  generalize ([.ref (q 3), .int v1] : List Value).toArray = args at C hE ⊢
  refine tw_sub (lv' := [(0, .ref (q 3)), (1, .int v1)]) [0, 1] rfl ?_
  unfold f_X0_heatIn at hf
  refine tw_iload_n C dX0_heatIn_0 1 rfl rfl ?_
  obtain ⟨y1, hc1, hf⟩ := tw_bd hf
  refine tw_cNi (As := [.int v1]) (stk := []) C (c_X7_isSegment l dC dI cI cZ q hc1) ⟨va_cnB (host := RX7) 1 C.hts gX0_heatIn_X7_isSegment_n25 rfl rfl rfl C.hN.2.1 (C.hts _ (List.mem_cons_of_mem _ (List.mem_append_left _ (List.mem_of_getElem? (i := 2) rfl)))) hd_X7_isSegment ⟨Nat.le_of_ble_eq_true rfl, Nat.le_of_ble_eq_true rfl⟩, C.hts _ (List.mem_cons_of_mem _ (List.mem_append_left _ (List.mem_of_getElem? (i := 1) rfl))), trivial⟩ rfl rfl (Nat.le_of_ble_eq_true rfl) dX0_heatIn_1 ⟨Nat.zero_le _, Nat.zero_le _⟩ ?_
  refine tw_if_eq (tgt := 16) C dX0_heatIn_4 (by decide) (fun c2 => ?_) (fun c2 => ?_)
  · have hf := tw_pos hf c2
    refine tw_iconst (v := 0) C dX0_heatIn_16 (by decide) ?_
    exact tw_endi (Wf := twT cI cZ q) hE hf dX0_heatIn_17 rfl
  · have hf := tw_neg hf c2
    refine tw_aload_n C dX0_heatIn_7 0 rfl rfl ?_
    refine tw_get (K := RX0) (T := TX0) (N := 4) (v := .ref (q 14)) C 3 1 (fun _ h => List.mem_cons_of_mem _ (List.mem_append_right _ (h))) rfl rfl (by decide) (List.mem_cons_of_mem _ (List.mem_append_left _ (List.mem_of_getElem? (i := 0) rfl))) rfl rfl dX0_heatIn_8 ?_
    refine tw_iload_n C dX0_heatIn_11 1 rfl rfl ?_
    obtain ⟨hb3, hf⟩ := tw_ck hf
    refine tw_iald C 14 0 hb3 rfl rfl dX0_heatIn_12 ?_
    refine tw_goto (tgt := 17) C dX0_heatIn_13 (by decide) ?_
    exact tw_endi (Wf := twT cI cZ q) hE hf dX0_heatIn_17 rfl
end
/-! X7_detectorWorks: private boolean detectorWorks(int, int) -/
abbrev rm_X7_detectorWorks : Room := { frames := 0, cells := 0, slots := 0, locals := 0 }
def f_X7_detectorWorks (st : twS) (v1 : Int32) (v2 : Int32) : Option (Int32 × twS) :=
  (if ((v1 * 3) + v2) < 0 then
    some (0, st)
  else
    (if 36 ≤ ((v1 * 3) + v2) then
    some (0, st)
  else
    (if twb ((v1 * 3) + v2) 36 = true then (if (st.2.1 9 ((v1 * 3) + v2).toNatClampNeg) = 0 then
    some (1, st)
  else
    some (0, st)) else none)))
section
variable {p : Program} {l : Launch} {e : Env} {s : State} {m : MethodId} {args : Array Value} {below : List Frame} {meth : Method} {c : Code} {Q : State → Prop} {dC : Nat → ClassId} {dI : Nat → Nat → Nat} {cI cZ : ClassId} {q : Nat → Nat} {A : Nat → Prop} {res : Int32 × twS}
set_option maxRecDepth 20000 in
theorem c_X7_detectorWorks (l : Launch) (dC : Nat → ClassId) (dI : Nat → Nat → Nat) (cI cZ : ClassId) (q : Nat → Nat) {st : twS} {v1 : Int32} {v2 : Int32} {res : Int32 × twS} (hf : f_X7_detectorWorks st v1 v2 = some res) : twMi l yX7_detectorWorks wsX7_detectorWorks rm_X7_detectorWorks (dC, dI) (twY cI cZ) [.ref (q 0), .int v1, .int v2] (twT cI cZ q st) res.1 (twT cI cZ q res.2) := by
  refine tw_enti (cc := cX7_detectorWorks) (maxL := 4) (own := RX7) (by decide) rfl (Nat.le_of_ble_eq_true rfl) rfl ⟨rfl, rfl⟩ ?_
  intro p e s m below meth c A Q C hE
  generalize ([.ref (q 0), .int v1, .int v2] : List Value).toArray = args at C hE ⊢
  refine tw_sub (lv' := [(0, .ref (q 0)), (1, .int v1), (2, .int v2)]) [0, 1, 2] rfl ?_
  unfold f_X7_detectorWorks at hf
  refine tw_iload_n C dX7_detectorWorks_0 1 rfl rfl ?_
  refine tw_iconst (v := 3) C dX7_detectorWorks_1 (by decide) ?_
  refine tw_imul C dX7_detectorWorks_2 ?_
  refine tw_iload_n C dX7_detectorWorks_3 2 rfl rfl ?_
  refine tw_iadd C dX7_detectorWorks_4 ?_
  refine tw_istore_n (lv' := [(3, .int ((v1 * 3) + v2)), (0, .ref (q 0)), (1, .int v1), (2, .int v2)]) C dX7_detectorWorks_5 rfl (by decide) rfl ?_
  refine tw_iload_n C dX7_detectorWorks_6 0 rfl rfl ?_
  refine tw_if_lt (tgt := 32) C dX7_detectorWorks_7 (by decide) (fun c1 => ?_) (fun c1 => ?_)
  · have hf := tw_pos hf c1
    refine tw_iconst (v := 0) C dX7_detectorWorks_32 (by decide) ?_
    exact tw_endi (Wf := twT cI cZ q) hE hf dX7_detectorWorks_33 rfl
  · have hf := tw_neg hf c1
    refine tw_iload_n C dX7_detectorWorks_10 0 rfl rfl ?_
    refine tw_aload_n C dX7_detectorWorks_11 1 rfl rfl ?_
    refine tw_get (K := RX7) (T := TX7) (N := 14) (v := .ref (q 9)) C 0 8 (fun _ h => List.mem_cons_of_mem _ (List.mem_append_right _ (h))) rfl rfl (by decide) (List.mem_cons_of_mem _ (List.mem_append_left _ (List.mem_of_getElem? (i := 0) rfl))) rfl rfl dX7_detectorWorks_12 ?_
    refine tw_alen (v := 36) C 9 1 rfl rfl rfl dX7_detectorWorks_15 ?_
    refine tw_icmp_ge (tgt := 32) C dX7_detectorWorks_16 (by decide) (fun c2 => ?_) (fun c2 => ?_)
    · have hf := tw_pos hf c2
      refine tw_iconst (v := 0) C dX7_detectorWorks_32 (by decide) ?_
      exact tw_endi (Wf := twT cI cZ q) hE hf dX7_detectorWorks_33 rfl
    · have hf := tw_neg hf c2
      refine tw_aload_n C dX7_detectorWorks_19 1 rfl rfl ?_
      refine tw_get (K := RX7) (T := TX7) (N := 14) (v := .ref (q 9)) C 0 8 (fun _ h => List.mem_cons_of_mem _ (List.mem_append_right _ (h))) rfl rfl (by decide) (List.mem_cons_of_mem _ (List.mem_append_left _ (List.mem_of_getElem? (i := 0) rfl))) rfl rfl dX7_detectorWorks_20 ?_
      refine tw_iload_n C dX7_detectorWorks_23 0 rfl rfl ?_
      obtain ⟨hb3, hf⟩ := tw_ck hf
      refine tw_zald C 9 1 hb3 rfl rfl dX7_detectorWorks_24 ?_
      refine tw_if_ne (tgt := 32) C dX7_detectorWorks_25 (by decide) (fun c4 => ?_) (fun c4 => ?_)
      · have hf := tw_neg hf c4
        refine tw_iconst (v := 0) C dX7_detectorWorks_32 (by decide) ?_
        exact tw_endi (Wf := twT cI cZ q) hE hf dX7_detectorWorks_33 rfl
      · have hf := tw_pos hf c4
        refine tw_iconst (v := 1) C dX7_detectorWorks_28 (by decide) ?_
        refine tw_goto (tgt := 33) C dX7_detectorWorks_29 (by decide) ?_
        exact tw_endi (Wf := twT cI cZ q) hE hf dX7_detectorWorks_33 rfl
end
/-! X3_insideOf: int insideOf(int) -/
abbrev rm_X3_insideOf : Room := { frames := 0, cells := 0, slots := 0, locals := 0 }
def f_X3_insideOf_L4b (rec : Int32 → Int32 → Int32 → twS → Option (Int32 × twS)) (v1 : Int32) (v2 : Int32) (v3 : Int32) (st : twS) : Option (Int32 × twS) :=
  (if (st.1 16) ≤ v3 then
    some (v2, st)
  else
    (if 30 ≤ v3 then
    some (v2, st)
  else
    (if twb v3 30 = true then (if (st.2.1 23 v3.toNatClampNeg) = v1 then
    rec v1 (v2 + 1) (v3 + 1) st
  else
    rec v1 v2 (v3 + 1) st) else none)))
def f_X3_insideOf_L4 : Nat → Int32 → Int32 → Int32 → twS → Option (Int32 × twS)
  | 0 => fun _ _ _ _ => none
  | n + 1 => fun v1 v2 v3 st => f_X3_insideOf_L4b (f_X3_insideOf_L4 n) v1 v2 v3 st
def f_X3_insideOf (st : twS) (v1 : Int32) : Option (Int32 × twS) :=
  f_X3_insideOf_L4 twN v1 0 0 st
section
variable {p : Program} {l : Launch} {e : Env} {s : State} {m : MethodId} {args : Array Value} {below : List Frame} {meth : Method} {c : Code} {Q : State → Prop} {dC : Nat → ClassId} {dI : Nat → Nat → Nat} {cI cZ : ClassId} {q : Nat → Nat} {A : Nat → Prop} {res : Int32 × twS}
set_option maxRecDepth 20000 in
theorem m_X3_insideOf_L4b (C : twC p s m args meth c cX3_insideOf 4 RX3 wsX3_insideOf (dC, dI) (twY cI cZ) A) (hE : twEi p l e rm_X3_insideOf s m args below meth c 0 0 Q (dC, dI) A 4 cX3_insideOf .int res.1 (twT cI cZ q res.2)) {rec : Int32 → Int32 → Int32 → twS → Option (Int32 × twS)} (hrec : ∀ (v1 : Int32) (v2 : Int32) (v3 : Int32) (st : twS), rec v1 v2 v3 st = some res → twG p l e rm_X3_insideOf s m args below meth c 0 0 Q (dC, dI) A 4 (twT cI cZ q st) 4 [(0, .ref (q 7)), (1, .int v1), (2, .int v2), (3, .int v3)] []) : ∀ (v1 : Int32) (v2 : Int32) (v3 : Int32) (st : twS), f_X3_insideOf_L4b rec v1 v2 v3 st = some res → twG p l e rm_X3_insideOf s m args below meth c 0 0 Q (dC, dI) A 4 (twT cI cZ q st) 4 [(0, .ref (q 7)), (1, .int v1), (2, .int v2), (3, .int v3)] [] := by
  intro v1 v2 v3 st hf
  unfold f_X3_insideOf_L4b at hf
  refine tw_iload_n C dX3_insideOf_4 3 rfl rfl ?_
  refine tw_aload_n C dX3_insideOf_5 0 rfl rfl ?_
  refine tw_get (K := RX3) (T := TX3) (N := 5) (v := .int (st.1 16)) C 7 4 (fun _ h => List.mem_cons_of_mem _ (List.mem_append_right _ (h))) rfl rfl (by decide) (List.mem_cons_of_mem _ (List.mem_append_left _ (List.mem_of_getElem? (i := 0) rfl))) rfl rfl dX3_insideOf_6 ?_
  refine tw_icmp_ge (tgt := 37) C dX3_insideOf_9 (by decide) (fun c4001 => ?_) (fun c4001 => ?_)
  · have hf := tw_pos hf c4001
    refine tw_iload_n C dX3_insideOf_37 2 rfl rfl ?_
    exact tw_endi (Wf := twT cI cZ q) hE hf dX3_insideOf_38 rfl
  · have hf := tw_neg hf c4001
    refine tw_iload_n C dX3_insideOf_12 3 rfl rfl ?_
    refine tw_bipush (v := 30) C dX3_insideOf_13 (by decide) ?_
    refine tw_icmp_ge (tgt := 37) C dX3_insideOf_15 (by decide) (fun c4002 => ?_) (fun c4002 => ?_)
    · have hf := tw_pos hf c4002
      refine tw_iload_n C dX3_insideOf_37 2 rfl rfl ?_
      exact tw_endi (Wf := twT cI cZ q) hE hf dX3_insideOf_38 rfl
    · have hf := tw_neg hf c4002
      refine tw_aload_n C dX3_insideOf_18 0 rfl rfl ?_
      refine tw_get (K := RX3) (T := TX3) (N := 5) (v := .ref (q 23)) C 7 1 (fun _ h => List.mem_cons_of_mem _ (List.mem_append_right _ (h))) rfl rfl (by decide) (List.mem_cons_of_mem _ (List.mem_append_left _ (List.mem_of_getElem? (i := 1) rfl))) rfl rfl dX3_insideOf_19 ?_
      refine tw_iload_n C dX3_insideOf_22 3 rfl rfl ?_
      obtain ⟨hb4003, hf⟩ := tw_ck hf
      refine tw_iald C 23 0 hb4003 rfl rfl dX3_insideOf_23 ?_
      refine tw_iload_n C dX3_insideOf_24 1 rfl rfl ?_
      refine tw_icmp_ne (tgt := 31) C dX3_insideOf_25 (by decide) (fun c4004 => ?_) (fun c4004 => ?_)
      · have hf := tw_neg hf c4004
        refine tw_iinc (v := (v3 + 1)) (lv' := [(3, .int (v3 + 1)), (0, .ref (q 7)), (1, .int v1), (2, .int v2)]) C dX3_insideOf_31 (k := 3) rfl rfl (by decide) rfl ?_
        refine tw_goto (tgt := 4) C dX3_insideOf_34 (by decide) ?_
        refine tw_sub [1, 2, 3, 0] rfl ?_
        exact hrec v1 v2 (v3 + 1) st hf
      · have hf := tw_pos hf c4004
        refine tw_iinc (v := (v2 + 1)) (lv' := [(2, .int (v2 + 1)), (0, .ref (q 7)), (1, .int v1), (3, .int v3)]) C dX3_insideOf_28 (k := 2) rfl rfl (by decide) rfl ?_
        refine tw_iinc (v := (v3 + 1)) (lv' := [(3, .int (v3 + 1)), (2, .int (v2 + 1)), (0, .ref (q 7)), (1, .int v1)]) C dX3_insideOf_31 (k := 3) rfl rfl (by decide) rfl ?_
        refine tw_goto (tgt := 4) C dX3_insideOf_34 (by decide) ?_
        refine tw_sub [2, 3, 1, 0] rfl ?_
        exact hrec v1 (v2 + 1) (v3 + 1) st hf
theorem m_X3_insideOf_L4 (C : twC p s m args meth c cX3_insideOf 4 RX3 wsX3_insideOf (dC, dI) (twY cI cZ) A) (hE : twEi p l e rm_X3_insideOf s m args below meth c 0 0 Q (dC, dI) A 4 cX3_insideOf .int res.1 (twT cI cZ q res.2)) : ∀ (n : Nat) (v1 : Int32) (v2 : Int32) (v3 : Int32) (st : twS), f_X3_insideOf_L4 n v1 v2 v3 st = some res → twG p l e rm_X3_insideOf s m args below meth c 0 0 Q (dC, dI) A 4 (twT cI cZ q st) 4 [(0, .ref (q 7)), (1, .int v1), (2, .int v2), (3, .int v3)] [] := by
  intro n
  induction n with
  | zero =>
    intro v1 v2 v3 st hf
    have hf : none = some res := hf
    cases hf
  | succ n ih =>
    intro v1 v2 v3 st hf
    exact m_X3_insideOf_L4b C hE ih v1 v2 v3 st hf
set_option maxRecDepth 20000 in
theorem c_X3_insideOf (l : Launch) (dC : Nat → ClassId) (dI : Nat → Nat → Nat) (cI cZ : ClassId) (q : Nat → Nat) {st : twS} {v1 : Int32} {res : Int32 × twS} (hf : f_X3_insideOf st v1 = some res) : twMi l yX3_insideOf wsX3_insideOf rm_X3_insideOf (dC, dI) (twY cI cZ) [.ref (q 7), .int v1] (twT cI cZ q st) res.1 (twT cI cZ q res.2) := by
  refine tw_enti (cc := cX3_insideOf) (maxL := 4) (own := RX3) (by decide) rfl (Nat.le_of_ble_eq_true rfl) rfl ⟨rfl, rfl⟩ ?_
  intro p e s m below meth c A Q C hE
  generalize ([.ref (q 7), .int v1] : List Value).toArray = args at C hE ⊢
  refine tw_sub (lv' := [(0, .ref (q 7)), (1, .int v1)]) [0, 1] rfl ?_
  unfold f_X3_insideOf at hf
  refine tw_iconst (v := 0) C dX3_insideOf_0 (by decide) ?_
  refine tw_istore_n (lv' := [(2, .int 0), (0, .ref (q 7)), (1, .int v1)]) C dX3_insideOf_1 rfl (by decide) rfl ?_
  refine tw_iconst (v := 0) C dX3_insideOf_2 (by decide) ?_
  refine tw_istore_n (lv' := [(3, .int 0), (2, .int 0), (0, .ref (q 7)), (1, .int v1)]) C dX3_insideOf_3 rfl (by decide) rfl ?_
  refine tw_sub [2, 3, 1, 0] rfl ?_
  exact m_X3_insideOf_L4 C hE twN v1 0 0 st hf
end
/-! X7_tellingIn: private int tellingIn(int) -/
abbrev rm_X7_tellingIn : Room := { frames := 2, cells := 0, slots := 0, locals := 41 }
def f_X7_tellingIn_L54 (v1 : Int32) (v2 : Int32) (v3 : Int32) (st : twS) : Option (Int32 × twS) :=
  (if v2 < 10 then
    some (v3, st)
  else
    ((f_X7_detectorWorks st v1 2).bind fun y54002 => (if y54002.1 = 0 then
    some (v3, y54002.2)
  else
    ((f_X3_insideOf y54002.2 v1).bind fun y54004 => (if y54004.1 ≤ 0 then
    some (v3, y54004.2)
  else
    some ((v3 + 1), y54004.2))))))
def f_X7_tellingIn_L36 (v1 : Int32) (v2 : Int32) (v3 : Int32) (st : twS) : Option (Int32 × twS) :=
  (if v2 < 15 then
    f_X7_tellingIn_L54 v1 v2 v3 st
  else
    ((f_X7_detectorWorks st v1 1).bind fun y36002 => (if y36002.1 = 0 then
    f_X7_tellingIn_L54 v1 v2 v3 y36002.2
  else
    f_X7_tellingIn_L54 v1 v2 (v3 + 1) y36002.2)))
def f_X7_tellingIn (st : twS) (v1 : Int32) : Option (Int32 × twS) :=
  ((f_X0_smokeIn st v1).bind fun y1 => ((f_X0_heatIn y1.2 v1).bind fun y2 => (if y2.1 < 20 then
    f_X7_tellingIn_L36 v1 y1.1 0 y2.2
  else
    ((f_X7_detectorWorks y2.2 v1 0).bind fun y4 => (if y4.1 = 0 then
    f_X7_tellingIn_L36 v1 y1.1 0 y4.2
  else
    f_X7_tellingIn_L36 v1 y1.1 (0 + 1) y4.2)))))
section
variable {p : Program} {l : Launch} {e : Env} {s : State} {m : MethodId} {args : Array Value} {below : List Frame} {meth : Method} {c : Code} {Q : State → Prop} {dC : Nat → ClassId} {dI : Nat → Nat → Nat} {cI cZ : ClassId} {q : Nat → Nat} {A : Nat → Prop} {res : Int32 × twS}
set_option maxRecDepth 20000 in
theorem m_X7_tellingIn_L54 (C : twC p s m args meth c cX7_tellingIn 4 RX7 wsX7_tellingIn (dC, dI) (twY cI cZ) A) (hE : twEi p l e rm_X7_tellingIn s m args below meth c 0 0 Q (dC, dI) A 4 cX7_tellingIn .int res.1 (twT cI cZ q res.2)) : ∀ (v1 : Int32) (v2 : Int32) (v3 : Int32) (st : twS), f_X7_tellingIn_L54 v1 v2 v3 st = some res → twG p l e rm_X7_tellingIn s m args below meth c 0 0 Q (dC, dI) A 4 (twT cI cZ q st) 54 [(0, .ref (q 0)), (1, .int v1), (2, .int v2), (3, .int v3)] [] := by
  intro v1 v2 v3 st hf
  unfold f_X7_tellingIn_L54 at hf
  refine tw_iload_n C dX7_tellingIn_54 2 rfl rfl ?_
  refine tw_bipush (v := 10) C dX7_tellingIn_55 (by decide) ?_
  refine tw_icmp_lt (tgt := 83) C dX7_tellingIn_57 (by decide) (fun c54001 => ?_) (fun c54001 => ?_)
  · have hf := tw_pos hf c54001
    refine tw_iload_n C dX7_tellingIn_83 3 rfl rfl ?_
    exact tw_endi (Wf := twT cI cZ q) hE hf dX7_tellingIn_84 rfl
  · have hf := tw_neg hf c54001
    refine tw_aload_n C dX7_tellingIn_60 0 rfl rfl ?_
    refine tw_iload_n C dX7_tellingIn_61 1 rfl rfl ?_
    refine tw_iconst (v := 2) C dX7_tellingIn_62 (by decide) ?_
    obtain ⟨y54002, hc54002, hf⟩ := tw_bd hf
    refine tw_cVi (As := [.int v1, .int 2]) (stk := []) C (c_X7_detectorWorks l dC dI cI cZ q hc54002) (cwV 2 C.hts gX7_tellingIn_X7_detectorWorks rfl rfl rfl hd_X7_detectorWorks ⟨Nat.le_of_ble_eq_true rfl, Nat.le_of_ble_eq_true rfl⟩) 0 (ci := 7) rfl rfl rfl rfl rfl (Nat.le_of_ble_eq_true rfl) dX7_tellingIn_63 ⟨Nat.zero_le _, Nat.zero_le _⟩ ?_
    refine tw_if_eq (tgt := 83) C dX7_tellingIn_66 (by decide) (fun c54003 => ?_) (fun c54003 => ?_)
    · have hf := tw_pos hf c54003
      refine tw_iload_n C dX7_tellingIn_83 3 rfl rfl ?_
      exact tw_endi (Wf := twT cI cZ q) hE hf dX7_tellingIn_84 rfl
    · have hf := tw_neg hf c54003
      refine tw_aload_n C dX7_tellingIn_69 0 rfl rfl ?_
      refine tw_get (K := RX7) (T := TX7) (N := 14) (v := .ref (q 7)) C 0 6 (fun _ h => List.mem_cons_of_mem _ (List.mem_append_left _ (List.mem_append_left _ (List.mem_append_right _ (h))))) rfl rfl (by decide) (List.mem_cons_of_mem _ (List.mem_append_left _ (List.mem_append_left _ (List.mem_append_left _ (List.mem_append_left _ (List.mem_of_getElem? (i := 1) rfl)))))) rfl rfl dX7_tellingIn_70 ?_
      refine tw_iload_n C dX7_tellingIn_73 1 rfl rfl ?_
      obtain ⟨y54004, hc54004, hf⟩ := tw_bd hf
      refine tw_cVi (As := [.int v1]) (stk := []) C (c_X3_insideOf l dC dI cI cZ q hc54004) (cwV 1 C.hts gX7_tellingIn_X3_insideOf rfl rfl rfl hd_X3_insideOf ⟨Nat.le_of_ble_eq_true rfl, Nat.le_of_ble_eq_true rfl⟩) 7 (ci := 3) rfl rfl rfl rfl rfl (Nat.le_of_ble_eq_true rfl) dX7_tellingIn_74 ⟨Nat.zero_le _, Nat.zero_le _⟩ ?_
      refine tw_if_le (tgt := 83) C dX7_tellingIn_77 (by decide) (fun c54005 => ?_) (fun c54005 => ?_)
      · have hf := tw_pos hf c54005
        refine tw_iload_n C dX7_tellingIn_83 3 rfl rfl ?_
        exact tw_endi (Wf := twT cI cZ q) hE hf dX7_tellingIn_84 rfl
      · have hf := tw_neg hf c54005
        refine tw_iinc (v := (v3 + 1)) (lv' := [(3, .int (v3 + 1)), (0, .ref (q 0)), (1, .int v1), (2, .int v2)]) C dX7_tellingIn_80 (k := 3) rfl rfl (by decide) rfl ?_
        refine tw_iload_n C dX7_tellingIn_83 0 rfl rfl ?_
        exact tw_endi (Wf := twT cI cZ q) hE hf dX7_tellingIn_84 rfl
set_option maxRecDepth 20000 in
theorem m_X7_tellingIn_L36 (C : twC p s m args meth c cX7_tellingIn 4 RX7 wsX7_tellingIn (dC, dI) (twY cI cZ) A) (hE : twEi p l e rm_X7_tellingIn s m args below meth c 0 0 Q (dC, dI) A 4 cX7_tellingIn .int res.1 (twT cI cZ q res.2)) : ∀ (v1 : Int32) (v2 : Int32) (v3 : Int32) (st : twS), f_X7_tellingIn_L36 v1 v2 v3 st = some res → twG p l e rm_X7_tellingIn s m args below meth c 0 0 Q (dC, dI) A 4 (twT cI cZ q st) 36 [(0, .ref (q 0)), (1, .int v1), (2, .int v2), (3, .int v3)] [] := by
  intro v1 v2 v3 st hf
  unfold f_X7_tellingIn_L36 at hf
  refine tw_iload_n C dX7_tellingIn_36 2 rfl rfl ?_
  refine tw_bipush (v := 15) C dX7_tellingIn_37 (by decide) ?_
  refine tw_icmp_lt (tgt := 54) C dX7_tellingIn_39 (by decide) (fun c36001 => ?_) (fun c36001 => ?_)
  · have hf := tw_pos hf c36001
    exact m_X7_tellingIn_L54 C hE v1 v2 v3 st hf
  · have hf := tw_neg hf c36001
    refine tw_aload_n C dX7_tellingIn_42 0 rfl rfl ?_
    refine tw_iload_n C dX7_tellingIn_43 1 rfl rfl ?_
    refine tw_iconst (v := 1) C dX7_tellingIn_44 (by decide) ?_
    obtain ⟨y36002, hc36002, hf⟩ := tw_bd hf
    refine tw_cVi (As := [.int v1, .int 1]) (stk := []) C (c_X7_detectorWorks l dC dI cI cZ q hc36002) (cwV 2 C.hts gX7_tellingIn_X7_detectorWorks rfl rfl rfl hd_X7_detectorWorks ⟨Nat.le_of_ble_eq_true rfl, Nat.le_of_ble_eq_true rfl⟩) 0 (ci := 7) rfl rfl rfl rfl rfl (Nat.le_of_ble_eq_true rfl) dX7_tellingIn_45 ⟨Nat.zero_le _, Nat.zero_le _⟩ ?_
    refine tw_if_eq (tgt := 54) C dX7_tellingIn_48 (by decide) (fun c36003 => ?_) (fun c36003 => ?_)
    · have hf := tw_pos hf c36003
      exact m_X7_tellingIn_L54 C hE v1 v2 v3 y36002.2 hf
    · have hf := tw_neg hf c36003
      refine tw_iinc (v := (v3 + 1)) (lv' := [(3, .int (v3 + 1)), (0, .ref (q 0)), (1, .int v1), (2, .int v2)]) C dX7_tellingIn_51 (k := 3) rfl rfl (by decide) rfl ?_
      refine tw_sub [1, 2, 3, 0] rfl ?_
      exact m_X7_tellingIn_L54 C hE v1 v2 (v3 + 1) y36002.2 hf
set_option maxRecDepth 20000 in
theorem c_X7_tellingIn (l : Launch) (dC : Nat → ClassId) (dI : Nat → Nat → Nat) (cI cZ : ClassId) (q : Nat → Nat) {st : twS} {v1 : Int32} {res : Int32 × twS} (hf : f_X7_tellingIn st v1 = some res) : twMi l yX7_tellingIn wsX7_tellingIn rm_X7_tellingIn (dC, dI) (twY cI cZ) [.ref (q 0), .int v1] (twT cI cZ q st) res.1 (twT cI cZ q res.2) := by
  refine tw_enti (cc := cX7_tellingIn) (maxL := 4) (own := RX7) (by decide) rfl (Nat.le_of_ble_eq_true rfl) rfl ⟨rfl, rfl⟩ ?_
  intro p e s m below meth c A Q C hE
  generalize ([.ref (q 0), .int v1] : List Value).toArray = args at C hE ⊢
  refine tw_sub (lv' := [(0, .ref (q 0)), (1, .int v1)]) [0, 1] rfl ?_
  unfold f_X7_tellingIn at hf
  refine tw_aload_n C dX7_tellingIn_0 0 rfl rfl ?_
  refine tw_get (K := RX7) (T := TX7) (N := 14) (v := .ref (q 3)) C 0 2 (fun _ h => List.mem_cons_of_mem _ (List.mem_append_left _ (List.mem_append_left _ (List.mem_append_right _ (h))))) rfl rfl (by decide) (List.mem_cons_of_mem _ (List.mem_append_left _ (List.mem_append_left _ (List.mem_append_left _ (List.mem_append_left _ (List.mem_of_getElem? (i := 0) rfl)))))) rfl rfl dX7_tellingIn_1 ?_
  refine tw_iload_n C dX7_tellingIn_4 1 rfl rfl ?_
  obtain ⟨y1, hc1, hf⟩ := tw_bd hf
  refine tw_cVi (As := [.int v1]) (stk := []) C (c_X0_smokeIn l dC dI cI cZ q hc1) (cwV 1 C.hts gX7_tellingIn_X0_smokeIn rfl rfl rfl hd_X0_smokeIn ⟨Nat.le_of_ble_eq_true rfl, Nat.le_of_ble_eq_true rfl⟩) 3 (ci := 0) rfl rfl rfl rfl rfl (Nat.le_of_ble_eq_true rfl) dX7_tellingIn_5 ⟨Nat.zero_le _, Nat.zero_le _⟩ ?_
  refine tw_istore_n (lv' := [(2, .int y1.1), (0, .ref (q 0)), (1, .int v1)]) C dX7_tellingIn_8 rfl (by decide) rfl ?_
  refine tw_iconst (v := 0) C dX7_tellingIn_9 (by decide) ?_
  refine tw_istore_n (lv' := [(3, .int 0), (2, .int y1.1), (0, .ref (q 0)), (1, .int v1)]) C dX7_tellingIn_10 rfl (by decide) rfl ?_
  refine tw_aload_n C dX7_tellingIn_11 2 rfl rfl ?_
  refine tw_get (K := RX7) (T := TX7) (N := 14) (v := .ref (q 3)) C 0 2 (fun _ h => List.mem_cons_of_mem _ (List.mem_append_left _ (List.mem_append_left _ (List.mem_append_right _ (h))))) rfl rfl (by decide) (List.mem_cons_of_mem _ (List.mem_append_left _ (List.mem_append_left _ (List.mem_append_left _ (List.mem_append_left _ (List.mem_of_getElem? (i := 0) rfl)))))) rfl rfl dX7_tellingIn_12 ?_
  refine tw_iload_n C dX7_tellingIn_15 3 rfl rfl ?_
  obtain ⟨y2, hc2, hf⟩ := tw_bd hf
  refine tw_cVi (As := [.int v1]) (stk := []) C (c_X0_heatIn l dC dI cI cZ q hc2) (cwV 1 C.hts gX7_tellingIn_X0_heatIn rfl rfl rfl hd_X0_heatIn ⟨Nat.le_of_ble_eq_true rfl, Nat.le_of_ble_eq_true rfl⟩) 3 (ci := 0) rfl rfl rfl rfl rfl (Nat.le_of_ble_eq_true rfl) dX7_tellingIn_16 ⟨Nat.zero_le _, Nat.zero_le _⟩ ?_
  refine tw_bipush (v := 20) C dX7_tellingIn_19 (by decide) ?_
  refine tw_icmp_lt (tgt := 36) C dX7_tellingIn_21 (by decide) (fun c3 => ?_) (fun c3 => ?_)
  · have hf := tw_pos hf c3
    refine tw_sub [2, 3, 1, 0] rfl ?_
    exact m_X7_tellingIn_L36 C hE v1 y1.1 0 y2.2 hf
  · have hf := tw_neg hf c3
    refine tw_aload_n C dX7_tellingIn_24 2 rfl rfl ?_
    refine tw_iload_n C dX7_tellingIn_25 3 rfl rfl ?_
    refine tw_iconst (v := 0) C dX7_tellingIn_26 (by decide) ?_
    obtain ⟨y4, hc4, hf⟩ := tw_bd hf
    refine tw_cVi (As := [.int v1, .int 0]) (stk := []) C (c_X7_detectorWorks l dC dI cI cZ q hc4) (cwV 2 C.hts gX7_tellingIn_X7_detectorWorks rfl rfl rfl hd_X7_detectorWorks ⟨Nat.le_of_ble_eq_true rfl, Nat.le_of_ble_eq_true rfl⟩) 0 (ci := 7) rfl rfl rfl rfl rfl (Nat.le_of_ble_eq_true rfl) dX7_tellingIn_27 ⟨Nat.zero_le _, Nat.zero_le _⟩ ?_
    refine tw_if_eq (tgt := 36) C dX7_tellingIn_30 (by decide) (fun c5 => ?_) (fun c5 => ?_)
    · have hf := tw_pos hf c5
      refine tw_sub [2, 3, 1, 0] rfl ?_
      exact m_X7_tellingIn_L36 C hE v1 y1.1 0 y4.2 hf
    · have hf := tw_neg hf c5
      refine tw_iinc (v := (0 + 1)) (lv' := [(3, .int (0 + 1)), (2, .int y1.1), (0, .ref (q 0)), (1, .int v1)]) C dX7_tellingIn_33 (k := 0) rfl rfl (by decide) rfl ?_
      refine tw_sub [2, 3, 1, 0] rfl ?_
      exact m_X7_tellingIn_L36 C hE v1 y1.1 (0 + 1) y4.2 hf
end
/-! X2_start: void start(int) -/
abbrev rm_X2_start : Room := { frames := 0, cells := 0, slots := 0, locals := 0 }
def f_X2_start (st : twS) (v1 : Int32) : Option (twS) :=
  some (twI st 15 v1)
section
variable {p : Program} {l : Launch} {e : Env} {s : State} {m : MethodId} {args : Array Value} {below : List Frame} {meth : Method} {c : Code} {Q : State → Prop} {dC : Nat → ClassId} {dI : Nat → Nat → Nat} {cI cZ : ClassId} {q : Nat → Nat} {A : Nat → Prop} {res : twS}
set_option maxRecDepth 20000 in
theorem c_X2_start (l : Launch) (dC : Nat → ClassId) (dI : Nat → Nat → Nat) (cI cZ : ClassId) (q : Nat → Nat) {st : twS} {v1 : Int32} {res : twS} (hf : f_X2_start st v1 = some res) : twMv l yX2_start wsX2_start rm_X2_start (dC, dI) (twY cI cZ) [.ref (q 6), .int v1] (twT cI cZ q st) (twT cI cZ q res) := by
  refine tw_entv (cc := cX2_start) (maxL := 2) (own := RX2) (by decide) rfl (Nat.le_of_ble_eq_true rfl) rfl ⟨rfl, rfl⟩ ?_
  intro p e s m below meth c A Q C hE
  generalize ([.ref (q 6), .int v1] : List Value).toArray = args at C hE ⊢
  refine tw_sub (lv' := [(0, .ref (q 6)), (1, .int v1)]) [0, 1] rfl ?_
  unfold f_X2_start at hf
  refine tw_aload_n C dX2_start_0 0 rfl rfl ?_
  refine tw_iload_n C dX2_start_1 1 rfl rfl ?_
  refine tw_put (K := RX2) (T := TX2) (N := 6) C 6 5 tyX2 tyX2_ok nmX2 (fun _ h => List.mem_cons_of_mem _ (List.mem_append_right _ (h))) rfl rfl (by decide) (List.mem_cons_of_mem _ (List.mem_append_left _ (List.mem_of_getElem? (i := 0) rfl))) rfl rfl rfl rfl (Nat.le_of_ble_eq_true rfl) (tw_T_si15 cI cZ q st v1) dX2_start_2 ?_
  exact tw_endv (Wf := twT cI cZ q) hE hf dX2_start_5
end
/-! X7_watch: private void watch() -/
abbrev rm_X7_watch : Room := { frames := 3, cells := 0, slots := 0, locals := 64 }
def f_X7_watch_L2b (rec : Int32 → twS → Option (twS)) (v1 : Int32) (st : twS) : Option (twS) :=
  (if 12 ≤ v1 then
    some st
  else
    (if (st.1 3) = (-1) then
    ((f_X7_tellingIn st v1).bind fun y2003 => (if y2003.1 < 2 then
    rec (v1 + 1) y2003.2
  else
    ((f_X2_start (twI y2003.2 3 v1) ((twI y2003.2 3 v1).1 4)).bind fun y2005 => rec (v1 + 1) y2005)))
  else
    some st))
def f_X7_watch_L2 : Nat → Int32 → twS → Option (twS)
  | 0 => fun _ _ => none
  | n + 1 => fun v1 st => f_X7_watch_L2b (f_X7_watch_L2 n) v1 st
def f_X7_watch (st : twS) : Option (twS) :=
  f_X7_watch_L2 twN 0 st
section
variable {p : Program} {l : Launch} {e : Env} {s : State} {m : MethodId} {args : Array Value} {below : List Frame} {meth : Method} {c : Code} {Q : State → Prop} {dC : Nat → ClassId} {dI : Nat → Nat → Nat} {cI cZ : ClassId} {q : Nat → Nat} {A : Nat → Prop} {res : twS}
set_option maxRecDepth 20000 in
theorem m_X7_watch_L2b (C : twC p s m args meth c cX7_watch 2 RX7 wsX7_watch (dC, dI) (twY cI cZ) A) (hE : twEv p l e rm_X7_watch s m args below meth c 0 0 Q (dC, dI) A 2 cX7_watch (twT cI cZ q res)) {rec : Int32 → twS → Option (twS)} (hrec : ∀ (v1 : Int32) (st : twS), rec v1 st = some res → twG p l e rm_X7_watch s m args below meth c 0 0 Q (dC, dI) A 2 (twT cI cZ q st) 2 [(0, .ref (q 0)), (1, .int v1)] []) : ∀ (v1 : Int32) (st : twS), f_X7_watch_L2b rec v1 st = some res → twG p l e rm_X7_watch s m args below meth c 0 0 Q (dC, dI) A 2 (twT cI cZ q st) 2 [(0, .ref (q 0)), (1, .int v1)] [] := by
  intro v1 st hf
  unfold f_X7_watch_L2b at hf
  refine tw_iload_n C dX7_watch_2 1 rfl rfl ?_
  refine tw_bipush (v := 12) C dX7_watch_3 (by decide) ?_
  refine tw_icmp_ge (tgt := 47) C dX7_watch_5 (by decide) (fun c2001 => ?_) (fun c2001 => ?_)
  · have hf := tw_pos hf c2001
    exact tw_endv (Wf := twT cI cZ q) hE hf dX7_watch_47
  · have hf := tw_neg hf c2001
    refine tw_aload_n C dX7_watch_8 0 rfl rfl ?_
    refine tw_get (K := RX7) (T := TX7) (N := 14) (v := .int (st.1 3)) C 0 12 (fun _ h => List.mem_cons_of_mem _ (List.mem_append_left _ (List.mem_append_left _ (List.mem_append_left _ (List.mem_append_right _ (h)))))) rfl rfl (by decide) (List.mem_cons_of_mem _ (List.mem_append_left _ (List.mem_append_left _ (List.mem_append_left _ (List.mem_append_left _ (List.mem_append_left _ (List.mem_of_getElem? (i := 0) rfl))))))) rfl rfl dX7_watch_9 ?_
    refine tw_iconst (v := (-1)) C dX7_watch_12 (by decide) ?_
    refine tw_icmp_ne (tgt := 47) C dX7_watch_13 (by decide) (fun c2002 => ?_) (fun c2002 => ?_)
    · have hf := tw_neg hf c2002
      exact tw_endv (Wf := twT cI cZ q) hE hf dX7_watch_47
    · have hf := tw_pos hf c2002
      refine tw_aload_n C dX7_watch_16 0 rfl rfl ?_
      refine tw_iload_n C dX7_watch_17 1 rfl rfl ?_
      obtain ⟨y2003, hc2003, hf⟩ := tw_bd hf
      refine tw_cVi (As := [.int v1]) (stk := []) C (c_X7_tellingIn l dC dI cI cZ q hc2003) (cwV 1 C.hts gX7_watch_X7_tellingIn rfl rfl rfl hd_X7_tellingIn ⟨Nat.le_of_ble_eq_true rfl, Nat.le_of_ble_eq_true rfl⟩) 0 (ci := 7) rfl rfl rfl rfl rfl (Nat.le_of_ble_eq_true rfl) dX7_watch_18 ⟨Nat.zero_le _, Nat.zero_le _⟩ ?_
      refine tw_iconst (v := 2) C dX7_watch_21 (by decide) ?_
      refine tw_icmp_lt (tgt := 41) C dX7_watch_22 (by decide) (fun c2004 => ?_) (fun c2004 => ?_)
      · have hf := tw_pos hf c2004
        refine tw_iinc (v := (v1 + 1)) (lv' := [(1, .int (v1 + 1)), (0, .ref (q 0))]) C dX7_watch_41 (k := 1) rfl rfl (by decide) rfl ?_
        refine tw_goto (tgt := 2) C dX7_watch_44 (by decide) ?_
        refine tw_sub [1, 0] rfl ?_
        exact hrec (v1 + 1) y2003.2 hf
      · have hf := tw_neg hf c2004
        refine tw_aload_n C dX7_watch_25 0 rfl rfl ?_
        refine tw_iload_n C dX7_watch_26 1 rfl rfl ?_
        refine tw_put (K := RX7) (T := TX7) (N := 14) C 0 12 tyX7 tyX7_ok nmX7 (fun _ h => List.mem_cons_of_mem _ (List.mem_append_left _ (List.mem_append_left _ (List.mem_append_left _ (List.mem_append_right _ (h)))))) rfl rfl (by decide) (List.mem_cons_of_mem _ (List.mem_append_left _ (List.mem_append_left _ (List.mem_append_left _ (List.mem_append_left _ (List.mem_append_left _ (List.mem_of_getElem? (i := 0) rfl))))))) rfl rfl rfl rfl (Nat.le_of_ble_eq_true rfl) (tw_T_si3 cI cZ q y2003.2 v1) dX7_watch_27 ?_
        refine tw_aload_n C dX7_watch_30 0 rfl rfl ?_
        refine tw_get (K := RX7) (T := TX7) (N := 14) (v := .ref (q 6)) C 0 5 (fun _ h => List.mem_cons_of_mem _ (List.mem_append_left _ (List.mem_append_left _ (List.mem_append_left _ (List.mem_append_right _ (h)))))) rfl rfl (by decide) (List.mem_cons_of_mem _ (List.mem_append_left _ (List.mem_append_left _ (List.mem_append_left _ (List.mem_append_left _ (List.mem_append_left _ (List.mem_of_getElem? (i := 1) rfl))))))) rfl rfl dX7_watch_31 ?_
        refine tw_aload_n C dX7_watch_34 0 rfl rfl ?_
        refine tw_get (K := RX7) (T := TX7) (N := 14) (v := .int ((twI y2003.2 3 v1).1 4)) C 0 13 (fun _ h => List.mem_cons_of_mem _ (List.mem_append_left _ (List.mem_append_left _ (List.mem_append_left _ (List.mem_append_right _ (h)))))) rfl rfl (by decide) (List.mem_cons_of_mem _ (List.mem_append_left _ (List.mem_append_left _ (List.mem_append_left _ (List.mem_append_left _ (List.mem_append_left _ (List.mem_of_getElem? (i := 2) rfl))))))) rfl rfl dX7_watch_35 ?_
        obtain ⟨y2005, hc2005, hf⟩ := tw_bd hf
        refine tw_cVv (As := [.int ((twI y2003.2 3 v1).1 4)]) (stk := []) C (c_X2_start l dC dI cI cZ q hc2005) (cwV 1 C.hts gX7_watch_X2_start rfl rfl rfl hd_X2_start ⟨Nat.le_of_ble_eq_true rfl, Nat.le_of_ble_eq_true rfl⟩) 6 (ci := 2) rfl rfl rfl rfl rfl (Nat.le_of_ble_eq_true rfl) dX7_watch_38 ⟨Nat.zero_le _, Nat.zero_le _⟩ ?_
        refine tw_iinc (v := (v1 + 1)) (lv' := [(1, .int (v1 + 1)), (0, .ref (q 0))]) C dX7_watch_41 (k := 1) rfl rfl (by decide) rfl ?_
        refine tw_goto (tgt := 2) C dX7_watch_44 (by decide) ?_
        refine tw_sub [1, 0] rfl ?_
        exact hrec (v1 + 1) y2005 hf
theorem m_X7_watch_L2 (C : twC p s m args meth c cX7_watch 2 RX7 wsX7_watch (dC, dI) (twY cI cZ) A) (hE : twEv p l e rm_X7_watch s m args below meth c 0 0 Q (dC, dI) A 2 cX7_watch (twT cI cZ q res)) : ∀ (n : Nat) (v1 : Int32) (st : twS), f_X7_watch_L2 n v1 st = some res → twG p l e rm_X7_watch s m args below meth c 0 0 Q (dC, dI) A 2 (twT cI cZ q st) 2 [(0, .ref (q 0)), (1, .int v1)] [] := by
  intro n
  induction n with
  | zero =>
    intro v1 st hf
    have hf : none = some res := hf
    cases hf
  | succ n ih =>
    intro v1 st hf
    exact m_X7_watch_L2b C hE ih v1 st hf
set_option maxRecDepth 20000 in
theorem c_X7_watch (l : Launch) (dC : Nat → ClassId) (dI : Nat → Nat → Nat) (cI cZ : ClassId) (q : Nat → Nat) {st : twS} {res : twS} (hf : f_X7_watch st = some res) : twMv l yX7_watch wsX7_watch rm_X7_watch (dC, dI) (twY cI cZ) [.ref (q 0)] (twT cI cZ q st) (twT cI cZ q res) := by
  refine tw_entv (cc := cX7_watch) (maxL := 2) (own := RX7) (by decide) rfl (Nat.le_of_ble_eq_true rfl) rfl ⟨rfl, rfl⟩ ?_
  intro p e s m below meth c A Q C hE
  generalize ([.ref (q 0)] : List Value).toArray = args at C hE ⊢
  refine tw_sub (lv' := [(0, .ref (q 0))]) [0] rfl ?_
  unfold f_X7_watch at hf
  refine tw_iconst (v := 0) C dX7_watch_0 (by decide) ?_
  refine tw_istore_n (lv' := [(1, .int 0), (0, .ref (q 0))]) C dX7_watch_1 rfl (by decide) rfl ?_
  refine tw_sub [1, 0] rfl ?_
  exact m_X7_watch_L2 C hE twN 0 st hf
end
/-! X2_isAct: private boolean isAct(int) -/
abbrev rm_X2_isAct : Room := { frames := 0, cells := 0, slots := 0, locals := 0 }
def f_X2_isAct (st : twS) (v1 : Int32) : Option (Int32 × twS) :=
  (if v1 < 0 then
    some (0, st)
  else
    (if (st.1 13) ≤ v1 then
    some (0, st)
  else
    (if 10 ≤ v1 then
    some (0, st)
  else
    some (1, st))))
section
variable {p : Program} {l : Launch} {e : Env} {s : State} {m : MethodId} {args : Array Value} {below : List Frame} {meth : Method} {c : Code} {Q : State → Prop} {dC : Nat → ClassId} {dI : Nat → Nat → Nat} {cI cZ : ClassId} {q : Nat → Nat} {A : Nat → Prop} {res : Int32 × twS}
set_option maxRecDepth 20000 in
theorem c_X2_isAct (l : Launch) (dC : Nat → ClassId) (dI : Nat → Nat → Nat) (cI cZ : ClassId) (q : Nat → Nat) {st : twS} {v1 : Int32} {res : Int32 × twS} (hf : f_X2_isAct st v1 = some res) : twMi l yX2_isAct wsX2_isAct rm_X2_isAct (dC, dI) (twY cI cZ) [.ref (q 6), .int v1] (twT cI cZ q st) res.1 (twT cI cZ q res.2) := by
  refine tw_enti (cc := cX2_isAct) (maxL := 2) (own := RX2) (by decide) rfl (Nat.le_of_ble_eq_true rfl) rfl ⟨rfl, rfl⟩ ?_
  intro p e s m below meth c A Q C hE
  generalize ([.ref (q 6), .int v1] : List Value).toArray = args at C hE ⊢
  refine tw_sub (lv' := [(0, .ref (q 6)), (1, .int v1)]) [0, 1] rfl ?_
  unfold f_X2_isAct at hf
  refine tw_iload_n C dX2_isAct_0 1 rfl rfl ?_
  refine tw_if_lt (tgt := 22) C dX2_isAct_1 (by decide) (fun c1 => ?_) (fun c1 => ?_)
  · have hf := tw_pos hf c1
    refine tw_iconst (v := 0) C dX2_isAct_22 (by decide) ?_
    exact tw_endi (Wf := twT cI cZ q) hE hf dX2_isAct_23 rfl
  · have hf := tw_neg hf c1
    refine tw_iload_n C dX2_isAct_4 1 rfl rfl ?_
    refine tw_aload_n C dX2_isAct_5 0 rfl rfl ?_
    refine tw_get (K := RX2) (T := TX2) (N := 6) (v := .int (st.1 13)) C 6 3 (fun _ h => List.mem_cons_of_mem _ (List.mem_append_right _ (h))) rfl rfl (by decide) (List.mem_cons_of_mem _ (List.mem_append_left _ (List.mem_of_getElem? (i := 0) rfl))) rfl rfl dX2_isAct_6 ?_
    refine tw_icmp_ge (tgt := 22) C dX2_isAct_9 (by decide) (fun c2 => ?_) (fun c2 => ?_)
    · have hf := tw_pos hf c2
      refine tw_iconst (v := 0) C dX2_isAct_22 (by decide) ?_
      exact tw_endi (Wf := twT cI cZ q) hE hf dX2_isAct_23 rfl
    · have hf := tw_neg hf c2
      refine tw_iload_n C dX2_isAct_12 1 rfl rfl ?_
      refine tw_bipush (v := 10) C dX2_isAct_13 (by decide) ?_
      refine tw_icmp_ge (tgt := 22) C dX2_isAct_15 (by decide) (fun c3 => ?_) (fun c3 => ?_)
      · have hf := tw_pos hf c3
        refine tw_iconst (v := 0) C dX2_isAct_22 (by decide) ?_
        exact tw_endi (Wf := twT cI cZ q) hE hf dX2_isAct_23 rfl
      · have hf := tw_neg hf c3
        refine tw_iconst (v := 1) C dX2_isAct_18 (by decide) ?_
        refine tw_goto (tgt := 23) C dX2_isAct_19 (by decide) ?_
        exact tw_endi (Wf := twT cI cZ q) hE hf dX2_isAct_23 rfl
end
/-! X2_isDue: boolean isDue(int) -/
abbrev rm_X2_isDue : Room := { frames := 1, cells := 0, slots := 0, locals := 21 }
def f_X2_isDue (st : twS) (v1 : Int32) : Option (Int32 × twS) :=
  ((f_X2_isAct st (st.1 14)).bind fun y1 => (if y1.1 = 0 then
    some (0, y1.2)
  else
    (if twb (y1.2.1 14) 10 = true then (if (v1 - (y1.2.1 15)) < (y1.2.2.1 20 (y1.2.1 14).toNatClampNeg) then
    some (0, y1.2)
  else
    some (1, y1.2)) else none)))
section
variable {p : Program} {l : Launch} {e : Env} {s : State} {m : MethodId} {args : Array Value} {below : List Frame} {meth : Method} {c : Code} {Q : State → Prop} {dC : Nat → ClassId} {dI : Nat → Nat → Nat} {cI cZ : ClassId} {q : Nat → Nat} {A : Nat → Prop} {res : Int32 × twS}
set_option maxRecDepth 20000 in
theorem c_X2_isDue (l : Launch) (dC : Nat → ClassId) (dI : Nat → Nat → Nat) (cI cZ : ClassId) (q : Nat → Nat) {st : twS} {v1 : Int32} {res : Int32 × twS} (hf : f_X2_isDue st v1 = some res) : twMi l yX2_isDue wsX2_isDue rm_X2_isDue (dC, dI) (twY cI cZ) [.ref (q 6), .int v1] (twT cI cZ q st) res.1 (twT cI cZ q res.2) := by
  refine tw_enti (cc := cX2_isDue) (maxL := 2) (own := RX2) (by decide) rfl (Nat.le_of_ble_eq_true rfl) rfl ⟨rfl, rfl⟩ ?_
  intro p e s m below meth c A Q C hE
  generalize ([.ref (q 6), .int v1] : List Value).toArray = args at C hE ⊢
  refine tw_sub (lv' := [(0, .ref (q 6)), (1, .int v1)]) [0, 1] rfl ?_
  unfold f_X2_isDue at hf
  refine tw_aload_n C dX2_isDue_0 0 rfl rfl ?_
  refine tw_aload_n C dX2_isDue_1 0 rfl rfl ?_
  refine tw_get (K := RX2) (T := TX2) (N := 6) (v := .int (st.1 14)) C 6 4 (fun _ h => List.mem_cons_of_mem _ (List.mem_append_right _ (h))) rfl rfl (by decide) (List.mem_cons_of_mem _ (List.mem_append_left _ (List.mem_of_getElem? (i := 0) rfl))) rfl rfl dX2_isDue_2 ?_
  obtain ⟨y1, hc1, hf⟩ := tw_bd hf
  refine tw_cVi (As := [.int (st.1 14)]) (stk := []) C (c_X2_isAct l dC dI cI cZ q hc1) (cwV 1 C.hts gX2_isDue_X2_isAct rfl rfl rfl hd_X2_isAct ⟨Nat.le_of_ble_eq_true rfl, Nat.le_of_ble_eq_true rfl⟩) 6 (ci := 2) rfl rfl rfl rfl rfl (Nat.le_of_ble_eq_true rfl) dX2_isDue_5 ⟨Nat.zero_le _, Nat.zero_le _⟩ ?_
  refine tw_if_eq (tgt := 33) C dX2_isDue_8 (by decide) (fun c2 => ?_) (fun c2 => ?_)
  · have hf := tw_pos hf c2
    refine tw_iconst (v := 0) C dX2_isDue_33 (by decide) ?_
    exact tw_endi (Wf := twT cI cZ q) hE hf dX2_isDue_34 rfl
  · have hf := tw_neg hf c2
    refine tw_iload_n C dX2_isDue_11 1 rfl rfl ?_
    refine tw_aload_n C dX2_isDue_12 0 rfl rfl ?_
    refine tw_get (K := RX2) (T := TX2) (N := 6) (v := .int (y1.2.1 15)) C 6 5 (fun _ h => List.mem_cons_of_mem _ (List.mem_append_right _ (h))) rfl rfl (by decide) (List.mem_cons_of_mem _ (List.mem_append_left _ (List.mem_of_getElem? (i := 1) rfl))) rfl rfl dX2_isDue_13 ?_
    refine tw_isub C dX2_isDue_16 ?_
    refine tw_aload_n C dX2_isDue_17 0 rfl rfl ?_
    refine tw_get (K := RX2) (T := TX2) (N := 6) (v := .ref (q 20)) C 6 1 (fun _ h => List.mem_cons_of_mem _ (List.mem_append_right _ (h))) rfl rfl (by decide) (List.mem_cons_of_mem _ (List.mem_append_left _ (List.mem_of_getElem? (i := 2) rfl))) rfl rfl dX2_isDue_18 ?_
    refine tw_aload_n C dX2_isDue_21 0 rfl rfl ?_
    refine tw_get (K := RX2) (T := TX2) (N := 6) (v := .int (y1.2.1 14)) C 6 4 (fun _ h => List.mem_cons_of_mem _ (List.mem_append_right _ (h))) rfl rfl (by decide) (List.mem_cons_of_mem _ (List.mem_append_left _ (List.mem_of_getElem? (i := 0) rfl))) rfl rfl dX2_isDue_22 ?_
    obtain ⟨hb3, hf⟩ := tw_ck hf
    refine tw_iald C 20 0 hb3 rfl rfl dX2_isDue_25 ?_
    refine tw_icmp_lt (tgt := 33) C dX2_isDue_26 (by decide) (fun c4 => ?_) (fun c4 => ?_)
    · have hf := tw_pos hf c4
      refine tw_iconst (v := 0) C dX2_isDue_33 (by decide) ?_
      exact tw_endi (Wf := twT cI cZ q) hE hf dX2_isDue_34 rfl
    · have hf := tw_neg hf c4
      refine tw_iconst (v := 1) C dX2_isDue_29 (by decide) ?_
      refine tw_goto (tgt := 34) C dX2_isDue_30 (by decide) ?_
      exact tw_endi (Wf := twT cI cZ q) hE hf dX2_isDue_34 rfl
end
/-! X2_finishNext: int finishNext(int) -/
abbrev rm_X2_finishNext : Room := { frames := 1, cells := 0, slots := 0, locals := 21 }
def f_X2_finishNext (st : twS) (v1 : Int32) : Option (Int32 × twS) :=
  ((f_X2_isAct st (st.1 14)).bind fun y1 => (if y1.1 = 0 then
    some ((-1), y1.2)
  else
    (if twb (y1.2.1 14) 10 = true then (if twb (y1.2.1 14) 10 = true then some ((y1.2.2.1 19 (y1.2.1 14).toNatClampNeg), (twI (twI (twA y1.2 21 (y1.2.1 14) v1) 15 v1) 14 (((twI (twA y1.2 21 (y1.2.1 14) v1) 15 v1).1 14) + 1))) else none) else none)))
section
variable {p : Program} {l : Launch} {e : Env} {s : State} {m : MethodId} {args : Array Value} {below : List Frame} {meth : Method} {c : Code} {Q : State → Prop} {dC : Nat → ClassId} {dI : Nat → Nat → Nat} {cI cZ : ClassId} {q : Nat → Nat} {A : Nat → Prop} {res : Int32 × twS}
set_option maxRecDepth 20000 in
theorem c_X2_finishNext (l : Launch) (dC : Nat → ClassId) (dI : Nat → Nat → Nat) (cI cZ : ClassId) (q : Nat → Nat) {st : twS} {v1 : Int32} {res : Int32 × twS} (hf : f_X2_finishNext st v1 = some res) : twMi l yX2_finishNext wsX2_finishNext rm_X2_finishNext (dC, dI) (twY cI cZ) [.ref (q 6), .int v1] (twT cI cZ q st) res.1 (twT cI cZ q res.2) := by
  refine tw_enti (cc := cX2_finishNext) (maxL := 3) (own := RX2) (by decide) rfl (Nat.le_of_ble_eq_true rfl) rfl ⟨rfl, rfl⟩ ?_
  intro p e s m below meth c A Q C hE
  generalize ([.ref (q 6), .int v1] : List Value).toArray = args at C hE ⊢
  refine tw_sub (lv' := [(0, .ref (q 6)), (1, .int v1)]) [0, 1] rfl ?_
  unfold f_X2_finishNext at hf
  refine tw_aload_n C dX2_finishNext_0 0 rfl rfl ?_
  refine tw_aload_n C dX2_finishNext_1 0 rfl rfl ?_
  refine tw_get (K := RX2) (T := TX2) (N := 6) (v := .int (st.1 14)) C 6 4 (fun _ h => List.mem_cons_of_mem _ (List.mem_append_right _ (h))) rfl rfl (by decide) (List.mem_cons_of_mem _ (List.mem_append_left _ (List.mem_of_getElem? (i := 0) rfl))) rfl rfl dX2_finishNext_2 ?_
  obtain ⟨y1, hc1, hf⟩ := tw_bd hf
  refine tw_cVi (As := [.int (st.1 14)]) (stk := []) C (c_X2_isAct l dC dI cI cZ q hc1) (cwV 1 C.hts gX2_finishNext_X2_isAct rfl rfl rfl hd_X2_isAct ⟨Nat.le_of_ble_eq_true rfl, Nat.le_of_ble_eq_true rfl⟩) 6 (ci := 2) rfl rfl rfl rfl rfl (Nat.le_of_ble_eq_true rfl) dX2_finishNext_5 ⟨Nat.zero_le _, Nat.zero_le _⟩ ?_
  refine tw_if_ne (tgt := 13) C dX2_finishNext_8 (by decide) (fun c2 => ?_) (fun c2 => ?_)
  · have hf := tw_neg hf c2
    refine tw_aload_n C dX2_finishNext_13 0 rfl rfl ?_
    refine tw_get (K := RX2) (T := TX2) (N := 6) (v := .ref (q 19)) C 6 0 (fun _ h => List.mem_cons_of_mem _ (List.mem_append_right _ (h))) rfl rfl (by decide) (List.mem_cons_of_mem _ (List.mem_append_left _ (List.mem_of_getElem? (i := 1) rfl))) rfl rfl dX2_finishNext_14 ?_
    refine tw_aload_n C dX2_finishNext_17 0 rfl rfl ?_
    refine tw_get (K := RX2) (T := TX2) (N := 6) (v := .int (y1.2.1 14)) C 6 4 (fun _ h => List.mem_cons_of_mem _ (List.mem_append_right _ (h))) rfl rfl (by decide) (List.mem_cons_of_mem _ (List.mem_append_left _ (List.mem_of_getElem? (i := 0) rfl))) rfl rfl dX2_finishNext_18 ?_
    obtain ⟨hb3, hf⟩ := tw_ck hf
    refine tw_iald C 19 0 hb3 rfl rfl dX2_finishNext_21 ?_
    refine tw_istore_n (lv' := [(2, .int (y1.2.2.1 19 (y1.2.1 14).toNatClampNeg)), (0, .ref (q 6)), (1, .int v1)]) C dX2_finishNext_22 rfl (by decide) rfl ?_
    refine tw_aload_n C dX2_finishNext_23 1 rfl rfl ?_
    refine tw_get (K := RX2) (T := TX2) (N := 6) (v := .ref (q 21)) C 6 2 (fun _ h => List.mem_cons_of_mem _ (List.mem_append_right _ (h))) rfl rfl (by decide) (List.mem_cons_of_mem _ (List.mem_append_left _ (List.mem_of_getElem? (i := 2) rfl))) rfl rfl dX2_finishNext_24 ?_
    refine tw_aload_n C dX2_finishNext_27 1 rfl rfl ?_
    refine tw_get (K := RX2) (T := TX2) (N := 6) (v := .int (y1.2.1 14)) C 6 4 (fun _ h => List.mem_cons_of_mem _ (List.mem_append_right _ (h))) rfl rfl (by decide) (List.mem_cons_of_mem _ (List.mem_append_left _ (List.mem_of_getElem? (i := 0) rfl))) rfl rfl dX2_finishNext_28 ?_
    refine tw_iload_n C dX2_finishNext_31 2 rfl rfl ?_
    obtain ⟨hb4, hf⟩ := tw_ck hf
    refine tw_iast C 21 0 hb4 rfl rfl (tw_T_a21 cI cZ q y1.2 (y1.2.1 14) v1) dX2_finishNext_32 ?_
    refine tw_aload_n C dX2_finishNext_33 1 rfl rfl ?_
    refine tw_iload_n C dX2_finishNext_34 2 rfl rfl ?_
    refine tw_put (K := RX2) (T := TX2) (N := 6) C 6 5 tyX2 tyX2_ok nmX2 (fun _ h => List.mem_cons_of_mem _ (List.mem_append_right _ (h))) rfl rfl (by decide) (List.mem_cons_of_mem _ (List.mem_append_left _ (List.mem_of_getElem? (i := 3) rfl))) rfl rfl rfl rfl (Nat.le_of_ble_eq_true rfl) (tw_T_si15 cI cZ q (twA y1.2 21 (y1.2.1 14) v1) v1) dX2_finishNext_35 ?_
    refine tw_aload_n C dX2_finishNext_38 1 rfl rfl ?_
    refine tw_dup C dX2_finishNext_39 rfl ?_
    refine tw_get (K := RX2) (T := TX2) (N := 6) (v := .int ((twI (twA y1.2 21 (y1.2.1 14) v1) 15 v1).1 14)) C 6 4 (fun _ h => List.mem_cons_of_mem _ (List.mem_append_right _ (h))) rfl rfl (by decide) (List.mem_cons_of_mem _ (List.mem_append_left _ (List.mem_of_getElem? (i := 0) rfl))) rfl rfl dX2_finishNext_40 ?_
    refine tw_iconst (v := 1) C dX2_finishNext_43 (by decide) ?_
    refine tw_iadd C dX2_finishNext_44 ?_
    refine tw_put (K := RX2) (T := TX2) (N := 6) C 6 4 tyX2 tyX2_ok nmX2 (fun _ h => List.mem_cons_of_mem _ (List.mem_append_right _ (h))) rfl rfl (by decide) (List.mem_cons_of_mem _ (List.mem_append_left _ (List.mem_of_getElem? (i := 0) rfl))) rfl rfl rfl rfl (Nat.le_of_ble_eq_true rfl) (tw_T_si14 cI cZ q (twI (twA y1.2 21 (y1.2.1 14) v1) 15 v1) (((twI (twA y1.2 21 (y1.2.1 14) v1) 15 v1).1 14) + 1)) dX2_finishNext_45 ?_
    refine tw_iload_n C dX2_finishNext_48 0 rfl rfl ?_
    exact tw_endi (Wf := twT cI cZ q) hE hf dX2_finishNext_49 rfl
  · have hf := tw_pos hf c2
    refine tw_iconst (v := (-1)) C dX2_finishNext_11 (by decide) ?_
    exact tw_endi (Wf := twT cI cZ q) hE hf dX2_finishNext_12 rfl
end
/-! X6_stopTraffic: void stopTraffic() -/
abbrev rm_X6_stopTraffic : Room := { frames := 0, cells := 0, slots := 0, locals := 0 }
def f_X6_stopTraffic (st : twS) : Option (twS) :=
  some (twI st 6 1)
section
variable {p : Program} {l : Launch} {e : Env} {s : State} {m : MethodId} {args : Array Value} {below : List Frame} {meth : Method} {c : Code} {Q : State → Prop} {dC : Nat → ClassId} {dI : Nat → Nat → Nat} {cI cZ : ClassId} {q : Nat → Nat} {A : Nat → Prop} {res : twS}
set_option maxRecDepth 20000 in
theorem c_X6_stopTraffic (l : Launch) (dC : Nat → ClassId) (dI : Nat → Nat → Nat) (cI cZ : ClassId) (q : Nat → Nat) {st : twS} {res : twS} (hf : f_X6_stopTraffic st = some res) : twMv l yX6_stopTraffic wsX6_stopTraffic rm_X6_stopTraffic (dC, dI) (twY cI cZ) [.ref (q 2)] (twT cI cZ q st) (twT cI cZ q res) := by
  refine tw_entv (cc := cX6_stopTraffic) (maxL := 1) (own := RX6) (by decide) rfl (Nat.le_of_ble_eq_true rfl) rfl ⟨rfl, rfl⟩ ?_
  intro p e s m below meth c A Q C hE
  generalize ([.ref (q 2)] : List Value).toArray = args at C hE ⊢
  refine tw_sub (lv' := [(0, .ref (q 2))]) [0] rfl ?_
  unfold f_X6_stopTraffic at hf
  refine tw_aload_n C dX6_stopTraffic_0 0 rfl rfl ?_
  refine tw_iconst (v := 1) C dX6_stopTraffic_1 (by decide) ?_
  refine tw_put (K := RX6) (T := TX6) (N := 3) C 2 2 tyX6 tyX6_ok nmX6 (fun _ h => List.mem_cons_of_mem _ (List.mem_append_right _ (h))) rfl rfl (by decide) (List.mem_cons_of_mem _ (List.mem_append_left _ (List.mem_of_getElem? (i := 0) rfl))) rfl rfl rfl rfl (Nat.le_of_ble_eq_true rfl) (tw_T_si6 cI cZ q st 1) dX6_stopTraffic_2 ?_
  exact tw_endv (Wf := twT cI cZ q) hE hf dX6_stopTraffic_5
end
/-! X4_openAll: void openAll() -/
abbrev rm_X4_openAll : Room := { frames := 0, cells := 0, slots := 0, locals := 0 }
def f_X4_openAll_L2b (rec : Int32 → twS → Option (twS)) (v1 : Int32) (st : twS) : Option (twS) :=
  (if 12 ≤ v1 then
    some st
  else
    (if twb v1 12 = true then (if (st.2.1 16 v1.toNatClampNeg) = 0 then
    rec (v1 + 1) st
  else
    (if twb v1 12 = true then (if (st.2.1 18 v1.toNatClampNeg) = 0 then
    (if twb v1 12 = true then rec (v1 + 1) (twA st 17 v1 (vp_nar .boolean 1)) else none)
  else
    rec (v1 + 1) st) else none)) else none))
def f_X4_openAll_L2 : Nat → Int32 → twS → Option (twS)
  | 0 => fun _ _ => none
  | n + 1 => fun v1 st => f_X4_openAll_L2b (f_X4_openAll_L2 n) v1 st
def f_X4_openAll (st : twS) : Option (twS) :=
  f_X4_openAll_L2 twN 0 st
section
variable {p : Program} {l : Launch} {e : Env} {s : State} {m : MethodId} {args : Array Value} {below : List Frame} {meth : Method} {c : Code} {Q : State → Prop} {dC : Nat → ClassId} {dI : Nat → Nat → Nat} {cI cZ : ClassId} {q : Nat → Nat} {A : Nat → Prop} {res : twS}
set_option maxRecDepth 20000 in
theorem m_X4_openAll_L2b (C : twC p s m args meth c cX4_openAll 2 RX4 wsX4_openAll (dC, dI) (twY cI cZ) A) (hE : twEv p l e rm_X4_openAll s m args below meth c 0 0 Q (dC, dI) A 2 cX4_openAll (twT cI cZ q res)) {rec : Int32 → twS → Option (twS)} (hrec : ∀ (v1 : Int32) (st : twS), rec v1 st = some res → twG p l e rm_X4_openAll s m args below meth c 0 0 Q (dC, dI) A 2 (twT cI cZ q st) 2 [(0, .ref (q 5)), (1, .int v1)] []) : ∀ (v1 : Int32) (st : twS), f_X4_openAll_L2b rec v1 st = some res → twG p l e rm_X4_openAll s m args below meth c 0 0 Q (dC, dI) A 2 (twT cI cZ q st) 2 [(0, .ref (q 5)), (1, .int v1)] [] := by
  intro v1 st hf
  unfold f_X4_openAll_L2b at hf
  refine tw_iload_n C dX4_openAll_2 1 rfl rfl ?_
  refine tw_bipush (v := 12) C dX4_openAll_3 (by decide) ?_
  refine tw_icmp_ge (tgt := 39) C dX4_openAll_5 (by decide) (fun c2001 => ?_) (fun c2001 => ?_)
  · have hf := tw_pos hf c2001
    exact tw_endv (Wf := twT cI cZ q) hE hf dX4_openAll_39
  · have hf := tw_neg hf c2001
    refine tw_aload_n C dX4_openAll_8 0 rfl rfl ?_
    refine tw_get (K := RX4) (T := TX4) (N := 3) (v := .ref (q 16)) C 5 0 (fun _ h => List.mem_cons_of_mem _ (List.mem_append_right _ (h))) rfl rfl (by decide) (List.mem_cons_of_mem _ (List.mem_append_left _ (List.mem_of_getElem? (i := 0) rfl))) rfl rfl dX4_openAll_9 ?_
    refine tw_iload_n C dX4_openAll_12 1 rfl rfl ?_
    obtain ⟨hb2002, hf⟩ := tw_ck hf
    refine tw_zald C 16 1 hb2002 rfl rfl dX4_openAll_13 ?_
    refine tw_if_eq (tgt := 33) C dX4_openAll_14 (by decide) (fun c2003 => ?_) (fun c2003 => ?_)
    · have hf := tw_pos hf c2003
      refine tw_iinc (v := (v1 + 1)) (lv' := [(1, .int (v1 + 1)), (0, .ref (q 5))]) C dX4_openAll_33 (k := 1) rfl rfl (by decide) rfl ?_
      refine tw_goto (tgt := 2) C dX4_openAll_36 (by decide) ?_
      refine tw_sub [1, 0] rfl ?_
      exact hrec (v1 + 1) st hf
    · have hf := tw_neg hf c2003
      refine tw_aload_n C dX4_openAll_17 0 rfl rfl ?_
      refine tw_get (K := RX4) (T := TX4) (N := 3) (v := .ref (q 18)) C 5 2 (fun _ h => List.mem_cons_of_mem _ (List.mem_append_right _ (h))) rfl rfl (by decide) (List.mem_cons_of_mem _ (List.mem_append_left _ (List.mem_of_getElem? (i := 1) rfl))) rfl rfl dX4_openAll_18 ?_
      refine tw_iload_n C dX4_openAll_21 1 rfl rfl ?_
      obtain ⟨hb2004, hf⟩ := tw_ck hf
      refine tw_zald C 18 1 hb2004 rfl rfl dX4_openAll_22 ?_
      refine tw_if_ne (tgt := 33) C dX4_openAll_23 (by decide) (fun c2005 => ?_) (fun c2005 => ?_)
      · have hf := tw_neg hf c2005
        refine tw_iinc (v := (v1 + 1)) (lv' := [(1, .int (v1 + 1)), (0, .ref (q 5))]) C dX4_openAll_33 (k := 1) rfl rfl (by decide) rfl ?_
        refine tw_goto (tgt := 2) C dX4_openAll_36 (by decide) ?_
        refine tw_sub [1, 0] rfl ?_
        exact hrec (v1 + 1) st hf
      · have hf := tw_pos hf c2005
        refine tw_aload_n C dX4_openAll_26 0 rfl rfl ?_
        refine tw_get (K := RX4) (T := TX4) (N := 3) (v := .ref (q 17)) C 5 1 (fun _ h => List.mem_cons_of_mem _ (List.mem_append_right _ (h))) rfl rfl (by decide) (List.mem_cons_of_mem _ (List.mem_append_left _ (List.mem_of_getElem? (i := 2) rfl))) rfl rfl dX4_openAll_27 ?_
        refine tw_iload_n C dX4_openAll_30 1 rfl rfl ?_
        refine tw_iconst (v := 1) C dX4_openAll_31 (by decide) ?_
        obtain ⟨hb2006, hf⟩ := tw_ck hf
        refine tw_zast C 17 1 hb2006 rfl rfl (tw_T_a17 cI cZ q st v1 (vp_nar .boolean 1)) dX4_openAll_32 ?_
        refine tw_iinc (v := (v1 + 1)) (lv' := [(1, .int (v1 + 1)), (0, .ref (q 5))]) C dX4_openAll_33 (k := 1) rfl rfl (by decide) rfl ?_
        refine tw_goto (tgt := 2) C dX4_openAll_36 (by decide) ?_
        refine tw_sub [1, 0] rfl ?_
        exact hrec (v1 + 1) (twA st 17 v1 (vp_nar .boolean 1)) hf
theorem m_X4_openAll_L2 (C : twC p s m args meth c cX4_openAll 2 RX4 wsX4_openAll (dC, dI) (twY cI cZ) A) (hE : twEv p l e rm_X4_openAll s m args below meth c 0 0 Q (dC, dI) A 2 cX4_openAll (twT cI cZ q res)) : ∀ (n : Nat) (v1 : Int32) (st : twS), f_X4_openAll_L2 n v1 st = some res → twG p l e rm_X4_openAll s m args below meth c 0 0 Q (dC, dI) A 2 (twT cI cZ q st) 2 [(0, .ref (q 5)), (1, .int v1)] [] := by
  intro n
  induction n with
  | zero =>
    intro v1 st hf
    have hf : none = some res := hf
    cases hf
  | succ n ih =>
    intro v1 st hf
    exact m_X4_openAll_L2b C hE ih v1 st hf
set_option maxRecDepth 20000 in
theorem c_X4_openAll (l : Launch) (dC : Nat → ClassId) (dI : Nat → Nat → Nat) (cI cZ : ClassId) (q : Nat → Nat) {st : twS} {res : twS} (hf : f_X4_openAll st = some res) : twMv l yX4_openAll wsX4_openAll rm_X4_openAll (dC, dI) (twY cI cZ) [.ref (q 5)] (twT cI cZ q st) (twT cI cZ q res) := by
  refine tw_entv (cc := cX4_openAll) (maxL := 2) (own := RX4) (by decide) rfl (Nat.le_of_ble_eq_true rfl) rfl ⟨rfl, rfl⟩ ?_
  intro p e s m below meth c A Q C hE
  generalize ([.ref (q 5)] : List Value).toArray = args at C hE ⊢
  refine tw_sub (lv' := [(0, .ref (q 5))]) [0] rfl ?_
  unfold f_X4_openAll at hf
  refine tw_iconst (v := 0) C dX4_openAll_0 (by decide) ?_
  refine tw_istore_n (lv' := [(1, .int 0), (0, .ref (q 5))]) C dX4_openAll_1 rfl (by decide) rfl ?_
  refine tw_sub [1, 0] rfl ?_
  exact m_X4_openAll_L2 C hE twN 0 st hf
end
/-! X5_orderAll: void orderAll(int) -/
abbrev rm_X5_orderAll : Room := { frames := 0, cells := 0, slots := 0, locals := 0 }
def f_X5_orderAll_L2b (rec : Int32 → Int32 → twS → Option (twS)) (v1 : Int32) (v2 : Int32) (st : twS) : Option (twS) :=
  (if 3 ≤ v2 then
    some st
  else
    (if twb v2 3 = true then rec v1 (v2 + 1) (twA st 10 v2 v1) else none))
def f_X5_orderAll_L2 : Nat → Int32 → Int32 → twS → Option (twS)
  | 0 => fun _ _ _ => none
  | n + 1 => fun v1 v2 st => f_X5_orderAll_L2b (f_X5_orderAll_L2 n) v1 v2 st
def f_X5_orderAll (st : twS) (v1 : Int32) : Option (twS) :=
  f_X5_orderAll_L2 twN v1 0 st
section
variable {p : Program} {l : Launch} {e : Env} {s : State} {m : MethodId} {args : Array Value} {below : List Frame} {meth : Method} {c : Code} {Q : State → Prop} {dC : Nat → ClassId} {dI : Nat → Nat → Nat} {cI cZ : ClassId} {q : Nat → Nat} {A : Nat → Prop} {res : twS}
set_option maxRecDepth 20000 in
theorem m_X5_orderAll_L2b (C : twC p s m args meth c cX5_orderAll 3 RX5 wsX5_orderAll (dC, dI) (twY cI cZ) A) (hE : twEv p l e rm_X5_orderAll s m args below meth c 0 0 Q (dC, dI) A 3 cX5_orderAll (twT cI cZ q res)) {rec : Int32 → Int32 → twS → Option (twS)} (hrec : ∀ (v1 : Int32) (v2 : Int32) (st : twS), rec v1 v2 st = some res → twG p l e rm_X5_orderAll s m args below meth c 0 0 Q (dC, dI) A 3 (twT cI cZ q st) 2 [(0, .ref (q 1)), (1, .int v1), (2, .int v2)] []) : ∀ (v1 : Int32) (v2 : Int32) (st : twS), f_X5_orderAll_L2b rec v1 v2 st = some res → twG p l e rm_X5_orderAll s m args below meth c 0 0 Q (dC, dI) A 3 (twT cI cZ q st) 2 [(0, .ref (q 1)), (1, .int v1), (2, .int v2)] [] := by
  intro v1 v2 st hf
  unfold f_X5_orderAll_L2b at hf
  refine tw_iload_n C dX5_orderAll_2 2 rfl rfl ?_
  refine tw_iconst (v := 3) C dX5_orderAll_3 (by decide) ?_
  refine tw_icmp_ge (tgt := 20) C dX5_orderAll_4 (by decide) (fun c2001 => ?_) (fun c2001 => ?_)
  · have hf := tw_pos hf c2001
    exact tw_endv (Wf := twT cI cZ q) hE hf dX5_orderAll_20
  · have hf := tw_neg hf c2001
    refine tw_aload_n C dX5_orderAll_7 0 rfl rfl ?_
    refine tw_get (K := RX5) (T := TX5) (N := 3) (v := .ref (q 10)) C 1 0 (fun _ h => List.mem_cons_of_mem _ (List.mem_append_right _ (h))) rfl rfl (by decide) (List.mem_cons_of_mem _ (List.mem_append_left _ (List.mem_of_getElem? (i := 0) rfl))) rfl rfl dX5_orderAll_8 ?_
    refine tw_iload_n C dX5_orderAll_11 2 rfl rfl ?_
    refine tw_iload_n C dX5_orderAll_12 1 rfl rfl ?_
    obtain ⟨hb2002, hf⟩ := tw_ck hf
    refine tw_iast C 10 0 hb2002 rfl rfl (tw_T_a10 cI cZ q st v2 v1) dX5_orderAll_13 ?_
    refine tw_iinc (v := (v2 + 1)) (lv' := [(2, .int (v2 + 1)), (0, .ref (q 1)), (1, .int v1)]) C dX5_orderAll_14 (k := 2) rfl rfl (by decide) rfl ?_
    refine tw_goto (tgt := 2) C dX5_orderAll_17 (by decide) ?_
    refine tw_sub [1, 2, 0] rfl ?_
    exact hrec v1 (v2 + 1) (twA st 10 v2 v1) hf
theorem m_X5_orderAll_L2 (C : twC p s m args meth c cX5_orderAll 3 RX5 wsX5_orderAll (dC, dI) (twY cI cZ) A) (hE : twEv p l e rm_X5_orderAll s m args below meth c 0 0 Q (dC, dI) A 3 cX5_orderAll (twT cI cZ q res)) : ∀ (n : Nat) (v1 : Int32) (v2 : Int32) (st : twS), f_X5_orderAll_L2 n v1 v2 st = some res → twG p l e rm_X5_orderAll s m args below meth c 0 0 Q (dC, dI) A 3 (twT cI cZ q st) 2 [(0, .ref (q 1)), (1, .int v1), (2, .int v2)] [] := by
  intro n
  induction n with
  | zero =>
    intro v1 v2 st hf
    have hf : none = some res := hf
    cases hf
  | succ n ih =>
    intro v1 v2 st hf
    exact m_X5_orderAll_L2b C hE ih v1 v2 st hf
set_option maxRecDepth 20000 in
theorem c_X5_orderAll (l : Launch) (dC : Nat → ClassId) (dI : Nat → Nat → Nat) (cI cZ : ClassId) (q : Nat → Nat) {st : twS} {v1 : Int32} {res : twS} (hf : f_X5_orderAll st v1 = some res) : twMv l yX5_orderAll wsX5_orderAll rm_X5_orderAll (dC, dI) (twY cI cZ) [.ref (q 1), .int v1] (twT cI cZ q st) (twT cI cZ q res) := by
  refine tw_entv (cc := cX5_orderAll) (maxL := 3) (own := RX5) (by decide) rfl (Nat.le_of_ble_eq_true rfl) rfl ⟨rfl, rfl⟩ ?_
  intro p e s m below meth c A Q C hE
  generalize ([.ref (q 1), .int v1] : List Value).toArray = args at C hE ⊢
  refine tw_sub (lv' := [(0, .ref (q 1)), (1, .int v1)]) [0, 1] rfl ?_
  unfold f_X5_orderAll at hf
  refine tw_iconst (v := 0) C dX5_orderAll_0 (by decide) ?_
  refine tw_istore_n (lv' := [(2, .int 0), (0, .ref (q 1)), (1, .int v1)]) C dX5_orderAll_1 rfl (by decide) rfl ?_
  refine tw_sub [1, 2, 0] rfl ?_
  exact m_X5_orderAll_L2 C hE twN v1 0 st hf
end
/-! X1_turnFoamOn: void turnFoamOn() -/
abbrev rm_X1_turnFoamOn : Room := { frames := 0, cells := 0, slots := 0, locals := 0 }
def f_X1_turnFoamOn (st : twS) : Option (twS) :=
  some (twI st 11 1)
section
variable {p : Program} {l : Launch} {e : Env} {s : State} {m : MethodId} {args : Array Value} {below : List Frame} {meth : Method} {c : Code} {Q : State → Prop} {dC : Nat → ClassId} {dI : Nat → Nat → Nat} {cI cZ : ClassId} {q : Nat → Nat} {A : Nat → Prop} {res : twS}
set_option maxRecDepth 20000 in
theorem c_X1_turnFoamOn (l : Launch) (dC : Nat → ClassId) (dI : Nat → Nat → Nat) (cI cZ : ClassId) (q : Nat → Nat) {st : twS} {res : twS} (hf : f_X1_turnFoamOn st = some res) : twMv l yX1_turnFoamOn wsX1_turnFoamOn rm_X1_turnFoamOn (dC, dI) (twY cI cZ) [.ref (q 4)] (twT cI cZ q st) (twT cI cZ q res) := by
  refine tw_entv (cc := cX1_turnFoamOn) (maxL := 1) (own := RX1) (by decide) rfl (Nat.le_of_ble_eq_true rfl) rfl ⟨rfl, rfl⟩ ?_
  intro p e s m below meth c A Q C hE
  generalize ([.ref (q 4)] : List Value).toArray = args at C hE ⊢
  refine tw_sub (lv' := [(0, .ref (q 4))]) [0] rfl ?_
  unfold f_X1_turnFoamOn at hf
  refine tw_aload_n C dX1_turnFoamOn_0 0 rfl rfl ?_
  refine tw_iconst (v := 1) C dX1_turnFoamOn_1 (by decide) ?_
  refine tw_put (K := RX1) (T := TX1) (N := 6) C 4 4 tyX1 tyX1_ok nmX1 (fun _ h => List.mem_cons_of_mem _ (List.mem_append_right _ (h))) rfl rfl (by decide) (List.mem_cons_of_mem _ (List.mem_append_left _ (List.mem_of_getElem? (i := 0) rfl))) rfl rfl rfl rfl (Nat.le_of_ble_eq_true rfl) (tw_T_si11 cI cZ q st 1) dX1_turnFoamOn_2 ?_
  exact tw_endv (Wf := twT cI cZ q) hE hf dX1_turnFoamOn_5
end
/-! X7_perform: private void perform(int) -/
abbrev rm_X7_perform : Room := { frames := 1, cells := 0, slots := 0, locals := 22 }
def f_X7_perform (st : twS) (v1 : Int32) : Option (twS) :=
  (if v1 = 0 then
    ((f_X6_stopTraffic st).bind fun y10 => some y10)
  else
    (if v1 = 1 then
    some (twI st 2 1)
  else
    (if v1 = 2 then
    ((f_X4_openAll st).bind fun y11 => some y11)
  else
    (if v1 = 3 then
    ((f_X5_orderAll st (-1)).bind fun y12 => some y12)
  else
    (if v1 = 4 then
    ((f_X5_orderAll st 1).bind fun y13 => some y13)
  else
    (if v1 = 5 then
    ((f_X5_orderAll st 0).bind fun y14 => some y14)
  else
    (if v1 = 6 then
    some (twI st 1 1)
  else
    (if v1 = 7 then
    ((f_X1_turnFoamOn st).bind fun y15 => some y15)
  else
    some st))))))))
section
variable {p : Program} {l : Launch} {e : Env} {s : State} {m : MethodId} {args : Array Value} {below : List Frame} {meth : Method} {c : Code} {Q : State → Prop} {dC : Nat → ClassId} {dI : Nat → Nat → Nat} {cI cZ : ClassId} {q : Nat → Nat} {A : Nat → Prop} {res : twS}
set_option maxRecDepth 20000 in
theorem c_X7_perform (l : Launch) (dC : Nat → ClassId) (dI : Nat → Nat → Nat) (cI cZ : ClassId) (q : Nat → Nat) {st : twS} {v1 : Int32} {res : twS} (hf : f_X7_perform st v1 = some res) : twMv l yX7_perform wsX7_perform rm_X7_perform (dC, dI) (twY cI cZ) [.ref (q 0), .int v1] (twT cI cZ q st) (twT cI cZ q res) := by
  refine tw_entv (cc := cX7_perform) (maxL := 2) (own := RX7) (by decide) rfl (Nat.le_of_ble_eq_true rfl) rfl ⟨rfl, rfl⟩ ?_
  intro p e s m below meth c A Q C hE
  generalize ([.ref (q 0), .int v1] : List Value).toArray = args at C hE ⊢
  refine tw_sub (lv' := [(0, .ref (q 0)), (1, .int v1)]) [0, 1] rfl ?_
  unfold f_X7_perform at hf
  refine tw_iload_n C dX7_perform_0 1 rfl rfl ?_
  by_cases c1 : v1 = 0
  · have hf := tw_pos hf c1
    refine tw_tableIn (tgt := 48) C dX7_perform_1 (by rw [c1]; decide) (by rw [c1]; decide) (by rw [c1]; rfl) (by decide) ?_
    refine tw_aload_n C dX7_perform_48 0 rfl rfl ?_
    refine tw_get (K := RX7) (T := TX7) (N := 14) (v := .ref (q 2)) C 0 1 (fun _ h => List.mem_cons_of_mem _ (List.mem_append_left _ (List.mem_append_left _ (List.mem_append_left _ (List.mem_append_left _ (List.mem_append_right _ (h))))))) rfl rfl (by decide) (List.mem_cons_of_mem _ (List.mem_append_left _ (List.mem_append_left _ (List.mem_append_left _ (List.mem_append_left _ (List.mem_append_left _ (List.mem_append_left _ (List.mem_of_getElem? (i := 0) rfl)))))))) rfl rfl dX7_perform_49 ?_
    obtain ⟨y10, hc10, hf⟩ := tw_bd hf
    refine tw_cVv (As := []) (stk := []) C (c_X6_stopTraffic l dC dI cI cZ q hc10) (cwV 0 C.hts gX7_perform_X6_stopTraffic rfl rfl rfl hd_X6_stopTraffic ⟨Nat.le_of_ble_eq_true rfl, Nat.le_of_ble_eq_true rfl⟩) 2 (ci := 6) rfl rfl rfl rfl rfl (Nat.le_of_ble_eq_true rfl) dX7_perform_52 ⟨Nat.zero_le _, Nat.zero_le _⟩ ?_
    refine tw_goto (tgt := 127) C dX7_perform_55 (by decide) ?_
    exact tw_endv (Wf := twT cI cZ q) hE hf dX7_perform_127
  have hf := tw_neg hf c1
  by_cases c2 : v1 = 1
  · have hf := tw_pos hf c2
    refine tw_tableIn (tgt := 58) C dX7_perform_1 (by rw [c2]; decide) (by rw [c2]; decide) (by rw [c2]; rfl) (by decide) ?_
    refine tw_aload_n C dX7_perform_58 0 rfl rfl ?_
    refine tw_iconst (v := 1) C dX7_perform_59 (by decide) ?_
    refine tw_put (K := RX7) (T := TX7) (N := 14) C 0 11 tyX7 tyX7_ok nmX7 (fun _ h => List.mem_cons_of_mem _ (List.mem_append_left _ (List.mem_append_left _ (List.mem_append_left _ (List.mem_append_left _ (List.mem_append_right _ (h))))))) rfl rfl (by decide) (List.mem_cons_of_mem _ (List.mem_append_left _ (List.mem_append_left _ (List.mem_append_left _ (List.mem_append_left _ (List.mem_append_left _ (List.mem_append_left _ (List.mem_of_getElem? (i := 1) rfl)))))))) rfl rfl rfl rfl (Nat.le_of_ble_eq_true rfl) (tw_T_si2 cI cZ q st 1) dX7_perform_60 ?_
    refine tw_goto (tgt := 127) C dX7_perform_63 (by decide) ?_
    exact tw_endv (Wf := twT cI cZ q) hE hf dX7_perform_127
  have hf := tw_neg hf c2
  by_cases c3 : v1 = 2
  · have hf := tw_pos hf c3
    refine tw_tableIn (tgt := 66) C dX7_perform_1 (by rw [c3]; decide) (by rw [c3]; decide) (by rw [c3]; rfl) (by decide) ?_
    refine tw_aload_n C dX7_perform_66 0 rfl rfl ?_
    refine tw_get (K := RX7) (T := TX7) (N := 14) (v := .ref (q 5)) C 0 4 (fun _ h => List.mem_cons_of_mem _ (List.mem_append_left _ (List.mem_append_left _ (List.mem_append_left _ (List.mem_append_left _ (List.mem_append_right _ (h))))))) rfl rfl (by decide) (List.mem_cons_of_mem _ (List.mem_append_left _ (List.mem_append_left _ (List.mem_append_left _ (List.mem_append_left _ (List.mem_append_left _ (List.mem_append_left _ (List.mem_of_getElem? (i := 2) rfl)))))))) rfl rfl dX7_perform_67 ?_
    obtain ⟨y11, hc11, hf⟩ := tw_bd hf
    refine tw_cVv (As := []) (stk := []) C (c_X4_openAll l dC dI cI cZ q hc11) (cwV 0 C.hts gX7_perform_X4_openAll rfl rfl rfl hd_X4_openAll ⟨Nat.le_of_ble_eq_true rfl, Nat.le_of_ble_eq_true rfl⟩) 5 (ci := 4) rfl rfl rfl rfl rfl (Nat.le_of_ble_eq_true rfl) dX7_perform_70 ⟨Nat.zero_le _, Nat.zero_le _⟩ ?_
    refine tw_goto (tgt := 127) C dX7_perform_73 (by decide) ?_
    exact tw_endv (Wf := twT cI cZ q) hE hf dX7_perform_127
  have hf := tw_neg hf c3
  by_cases c4 : v1 = 3
  · have hf := tw_pos hf c4
    refine tw_tableIn (tgt := 76) C dX7_perform_1 (by rw [c4]; decide) (by rw [c4]; decide) (by rw [c4]; rfl) (by decide) ?_
    refine tw_aload_n C dX7_perform_76 0 rfl rfl ?_
    refine tw_get (K := RX7) (T := TX7) (N := 14) (v := .ref (q 1)) C 0 0 (fun _ h => List.mem_cons_of_mem _ (List.mem_append_left _ (List.mem_append_left _ (List.mem_append_left _ (List.mem_append_left _ (List.mem_append_right _ (h))))))) rfl rfl (by decide) (List.mem_cons_of_mem _ (List.mem_append_left _ (List.mem_append_left _ (List.mem_append_left _ (List.mem_append_left _ (List.mem_append_left _ (List.mem_append_left _ (List.mem_of_getElem? (i := 3) rfl)))))))) rfl rfl dX7_perform_77 ?_
    refine tw_iconst (v := (-1)) C dX7_perform_80 (by decide) ?_
    obtain ⟨y12, hc12, hf⟩ := tw_bd hf
    refine tw_cVv (As := [.int (-1)]) (stk := []) C (c_X5_orderAll l dC dI cI cZ q hc12) (cwV 1 C.hts gX7_perform_X5_orderAll rfl rfl rfl hd_X5_orderAll ⟨Nat.le_of_ble_eq_true rfl, Nat.le_of_ble_eq_true rfl⟩) 1 (ci := 5) rfl rfl rfl rfl rfl (Nat.le_of_ble_eq_true rfl) dX7_perform_81 ⟨Nat.zero_le _, Nat.zero_le _⟩ ?_
    refine tw_goto (tgt := 127) C dX7_perform_84 (by decide) ?_
    exact tw_endv (Wf := twT cI cZ q) hE hf dX7_perform_127
  have hf := tw_neg hf c4
  by_cases c5 : v1 = 4
  · have hf := tw_pos hf c5
    refine tw_tableIn (tgt := 87) C dX7_perform_1 (by rw [c5]; decide) (by rw [c5]; decide) (by rw [c5]; rfl) (by decide) ?_
    refine tw_aload_n C dX7_perform_87 0 rfl rfl ?_
    refine tw_get (K := RX7) (T := TX7) (N := 14) (v := .ref (q 1)) C 0 0 (fun _ h => List.mem_cons_of_mem _ (List.mem_append_left _ (List.mem_append_left _ (List.mem_append_left _ (List.mem_append_left _ (List.mem_append_right _ (h))))))) rfl rfl (by decide) (List.mem_cons_of_mem _ (List.mem_append_left _ (List.mem_append_left _ (List.mem_append_left _ (List.mem_append_left _ (List.mem_append_left _ (List.mem_append_left _ (List.mem_of_getElem? (i := 3) rfl)))))))) rfl rfl dX7_perform_88 ?_
    refine tw_iconst (v := 1) C dX7_perform_91 (by decide) ?_
    obtain ⟨y13, hc13, hf⟩ := tw_bd hf
    refine tw_cVv (As := [.int 1]) (stk := []) C (c_X5_orderAll l dC dI cI cZ q hc13) (cwV 1 C.hts gX7_perform_X5_orderAll rfl rfl rfl hd_X5_orderAll ⟨Nat.le_of_ble_eq_true rfl, Nat.le_of_ble_eq_true rfl⟩) 1 (ci := 5) rfl rfl rfl rfl rfl (Nat.le_of_ble_eq_true rfl) dX7_perform_92 ⟨Nat.zero_le _, Nat.zero_le _⟩ ?_
    refine tw_goto (tgt := 127) C dX7_perform_95 (by decide) ?_
    exact tw_endv (Wf := twT cI cZ q) hE hf dX7_perform_127
  have hf := tw_neg hf c5
  by_cases c6 : v1 = 5
  · have hf := tw_pos hf c6
    refine tw_tableIn (tgt := 98) C dX7_perform_1 (by rw [c6]; decide) (by rw [c6]; decide) (by rw [c6]; rfl) (by decide) ?_
    refine tw_aload_n C dX7_perform_98 0 rfl rfl ?_
    refine tw_get (K := RX7) (T := TX7) (N := 14) (v := .ref (q 1)) C 0 0 (fun _ h => List.mem_cons_of_mem _ (List.mem_append_left _ (List.mem_append_left _ (List.mem_append_left _ (List.mem_append_left _ (List.mem_append_right _ (h))))))) rfl rfl (by decide) (List.mem_cons_of_mem _ (List.mem_append_left _ (List.mem_append_left _ (List.mem_append_left _ (List.mem_append_left _ (List.mem_append_left _ (List.mem_append_left _ (List.mem_of_getElem? (i := 3) rfl)))))))) rfl rfl dX7_perform_99 ?_
    refine tw_iconst (v := 0) C dX7_perform_102 (by decide) ?_
    obtain ⟨y14, hc14, hf⟩ := tw_bd hf
    refine tw_cVv (As := [.int 0]) (stk := []) C (c_X5_orderAll l dC dI cI cZ q hc14) (cwV 1 C.hts gX7_perform_X5_orderAll rfl rfl rfl hd_X5_orderAll ⟨Nat.le_of_ble_eq_true rfl, Nat.le_of_ble_eq_true rfl⟩) 1 (ci := 5) rfl rfl rfl rfl rfl (Nat.le_of_ble_eq_true rfl) dX7_perform_103 ⟨Nat.zero_le _, Nat.zero_le _⟩ ?_
    refine tw_goto (tgt := 127) C dX7_perform_106 (by decide) ?_
    exact tw_endv (Wf := twT cI cZ q) hE hf dX7_perform_127
  have hf := tw_neg hf c6
  by_cases c7 : v1 = 6
  · have hf := tw_pos hf c7
    refine tw_tableIn (tgt := 109) C dX7_perform_1 (by rw [c7]; decide) (by rw [c7]; decide) (by rw [c7]; rfl) (by decide) ?_
    refine tw_aload_n C dX7_perform_109 0 rfl rfl ?_
    refine tw_iconst (v := 1) C dX7_perform_110 (by decide) ?_
    refine tw_put (K := RX7) (T := TX7) (N := 14) C 0 10 tyX7 tyX7_ok nmX7 (fun _ h => List.mem_cons_of_mem _ (List.mem_append_left _ (List.mem_append_left _ (List.mem_append_left _ (List.mem_append_left _ (List.mem_append_right _ (h))))))) rfl rfl (by decide) (List.mem_cons_of_mem _ (List.mem_append_left _ (List.mem_append_left _ (List.mem_append_left _ (List.mem_append_left _ (List.mem_append_left _ (List.mem_append_left _ (List.mem_of_getElem? (i := 4) rfl)))))))) rfl rfl rfl rfl (Nat.le_of_ble_eq_true rfl) (tw_T_si1 cI cZ q st 1) dX7_perform_111 ?_
    refine tw_goto (tgt := 127) C dX7_perform_114 (by decide) ?_
    exact tw_endv (Wf := twT cI cZ q) hE hf dX7_perform_127
  have hf := tw_neg hf c7
  by_cases c8 : v1 = 7
  · have hf := tw_pos hf c8
    refine tw_tableIn (tgt := 117) C dX7_perform_1 (by rw [c8]; decide) (by rw [c8]; decide) (by rw [c8]; rfl) (by decide) ?_
    refine tw_aload_n C dX7_perform_117 0 rfl rfl ?_
    refine tw_get (K := RX7) (T := TX7) (N := 14) (v := .ref (q 4)) C 0 3 (fun _ h => List.mem_cons_of_mem _ (List.mem_append_left _ (List.mem_append_left _ (List.mem_append_left _ (List.mem_append_left _ (List.mem_append_right _ (h))))))) rfl rfl (by decide) (List.mem_cons_of_mem _ (List.mem_append_left _ (List.mem_append_left _ (List.mem_append_left _ (List.mem_append_left _ (List.mem_append_left _ (List.mem_append_left _ (List.mem_of_getElem? (i := 5) rfl)))))))) rfl rfl dX7_perform_118 ?_
    obtain ⟨y15, hc15, hf⟩ := tw_bd hf
    refine tw_cVv (As := []) (stk := []) C (c_X1_turnFoamOn l dC dI cI cZ q hc15) (cwV 0 C.hts gX7_perform_X1_turnFoamOn rfl rfl rfl hd_X1_turnFoamOn ⟨Nat.le_of_ble_eq_true rfl, Nat.le_of_ble_eq_true rfl⟩) 4 (ci := 1) rfl rfl rfl rfl rfl (Nat.le_of_ble_eq_true rfl) dX7_perform_121 ⟨Nat.zero_le _, Nat.zero_le _⟩ ?_
    refine tw_goto (tgt := 127) C dX7_perform_124 (by decide) ?_
    exact tw_endv (Wf := twT cI cZ q) hE hf dX7_perform_127
  have hf := tw_neg hf c8
  have K : twG p l e rm_X7_perform s m args below meth c 0 0 Q (dC, dI) A 2 (twT cI cZ q st) 127 [(0, .ref (q 0)), (1, .int v1)] [] := by
    exact tw_endv (Wf := twT cI cZ q) hE hf dX7_perform_127
  exact tw_tableOut (tgt := 127) C dX7_perform_1 (tw_tout 7 (by decide) (fun k hk => by rcases (show k = 0 ∨ k = 1 ∨ k = 2 ∨ k = 3 ∨ k = 4 ∨ k = 5 ∨ k = 6 ∨ k = 7 by omega) with rfl | rfl | rfl | rfl | rfl | rfl | rfl | rfl <;> assumption)) (by decide) K
end
