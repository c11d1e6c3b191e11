theorem hd_X8_personsIn : yX8_personsIn.cls = RX8 ∧ yX8_personsIn.cls ≠ "java/lang/invoke/MethodHandle" ∧ yX8_personsIn.cls ≠ "java/lang/invoke/VarHandle" ∧ (parseMethodDescriptor yX8_personsIn.desc).map (fun d => d.parameters.length) = some 1 := by decide +kernel
theorem hd_X8_tells : yX8_tells.cls = RX8 ∧ yX8_tells.cls ≠ "java/lang/invoke/MethodHandle" ∧ yX8_tells.cls ≠ "java/lang/invoke/VarHandle" ∧ (parseMethodDescriptor yX8_tells.desc).map (fun d => d.parameters.length) = some 1 := by decide +kernel
theorem hd_X8_detects : yX8_detects.cls = RX8 ∧ yX8_detects.cls ≠ "java/lang/invoke/MethodHandle" ∧ yX8_detects.cls ≠ "java/lang/invoke/VarHandle" ∧ (parseMethodDescriptor yX8_detects.desc).map (fun d => d.parameters.length) = some 0 := by decide +kernel
theorem hd_X8_charts : yX8_charts.cls = RX8 ∧ yX8_charts.cls ≠ "java/lang/invoke/MethodHandle" ∧ yX8_charts.cls ≠ "java/lang/invoke/VarHandle" ∧ (parseMethodDescriptor yX8_charts.desc).map (fun d => d.parameters.length) = some 0 := by decide +kernel
theorem hd_X8_aim : yX8_aim.cls = RX8 ∧ yX8_aim.cls ≠ "java/lang/invoke/MethodHandle" ∧ yX8_aim.cls ≠ "java/lang/invoke/VarHandle" ∧ (parseMethodDescriptor yX8_aim.desc).map (fun d => d.parameters.length) = some 1 := by decide +kernel
theorem hd_X8_ends : yX8_ends.cls = RX8 ∧ yX8_ends.cls ≠ "java/lang/invoke/MethodHandle" ∧ yX8_ends.cls ≠ "java/lang/invoke/VarHandle" ∧ (parseMethodDescriptor yX8_ends.desc).map (fun d => d.parameters.length) = some 2 := by decide +kernel
theorem hd_X8_walks : yX8_walks.cls = RX8 ∧ yX8_walks.cls ≠ "java/lang/invoke/MethodHandle" ∧ yX8_walks.cls ≠ "java/lang/invoke/VarHandle" ∧ (parseMethodDescriptor yX8_walks.desc).map (fun d => d.parameters.length) = some 1 := by decide +kernel
theorem hd_X8_lives : yX8_lives.cls = RX8 ∧ yX8_lives.cls ≠ "java/lang/invoke/MethodHandle" ∧ yX8_lives.cls ≠ "java/lang/invoke/VarHandle" ∧ (parseMethodDescriptor yX8_lives.desc).map (fun d => d.parameters.length) = some 1 := by decide +kernel
theorem hd_X8_doesStep : yX8_doesStep.cls = RX8 ∧ yX8_doesStep.cls ≠ "java/lang/invoke/MethodHandle" ∧ yX8_doesStep.cls ≠ "java/lang/invoke/VarHandle" ∧ (parseMethodDescriptor yX8_doesStep.desc).map (fun d => d.parameters.length) = some 0 := by decide +kernel
/-! X8_personsIn: private int personsIn(int) -/
abbrev rm_X8_personsIn : Room := { frames := 0, cells := 0, slots := 0, locals := 0 }
def f_X8_personsIn_L37 (rec : Int32 → Int32 → Int32 → twS → Option (Int32 × twS)) (v1 : Int32) (v3 : Int32) (k0 : Int32) (st : twS) : Option (Int32 × twS) :=
  rec v1 (k0 + 0) (v3 + 1) st
def f_X8_personsIn_L4b (rec : Int32 → Int32 → Int32 → twS → Option (Int32 × twS)) (v1 : Int32) (v2 : Int32) (v3 : Int32) (st : twS) : Option (Int32 × twS) :=
  (if (st.1 31) ≤ v3 then
    some (v2, st)
  else
    (if twb v3 30 = true then (if (st.2.1 11 v3.toNatClampNeg) = 3 then
    f_X8_personsIn_L37 rec v1 v3 v2 st
  else
    (if twb v3 30 = true then (if (st.2.1 12 v3.toNatClampNeg) = v1 then
    rec v1 (v2 + 1) (v3 + 1) st
  else
    f_X8_personsIn_L37 rec v1 v3 v2 st) else none)) else none))
def f_X8_personsIn_L4 : Nat → Int32 → Int32 → Int32 → twS → Option (Int32 × twS)
  | 0 => fun _ _ _ _ => none
  | n + 1 => fun v1 v2 v3 st => f_X8_personsIn_L4b (f_X8_personsIn_L4 n) v1 v2 v3 st
def f_X8_personsIn (st : twS) (v1 : Int32) : Option (Int32 × twS) :=
  f_X8_personsIn_L4 twN v1 0 0 st
section
variable {p : Program} {l : Launch} {e : Env} {s : State} {m : MethodId} {args : Array Value} {below : List Frame} {meth : Method} {c : Code} {Q : State → Prop} {dC : Nat → ClassId} {dI : Nat → Nat → Nat} {cI cZ : ClassId} {q : Nat → Nat} {A : Nat → Prop} {res : Int32 × twS}
set_option maxRecDepth 20000 in
theorem m_X8_personsIn_L37 (C : twC p s m args meth c cX8_personsIn 4 RX8 wsX8_personsIn (dC, dI) (twY cI cZ) A) (hE : twEi p l e rm_X8_personsIn s m args below meth c 0 0 Q (dC, dI) A 4 cX8_personsIn .int res.1 (twM cI cZ q res.2)) {rec : Int32 → Int32 → Int32 → twS → Option (Int32 × twS)} (hrec : ∀ (v1 : Int32) (v2 : Int32) (v3 : Int32) (st : twS), rec v1 v2 v3 st = some res → twG p l e rm_X8_personsIn s m args below meth c 0 0 Q (dC, dI) A 4 (twM cI cZ q st) 4 [(0, .ref (q 0)), (1, .int v1), (2, .int v2), (3, .int v3)] []) : ∀ (v1 : Int32) (v3 : Int32) (k0 : Int32) (st : twS), f_X8_personsIn_L37 rec v1 v3 k0 st = some res → twG p l e rm_X8_personsIn s m args below meth c 0 0 Q (dC, dI) A 4 (twM cI cZ q st) 37 [(0, .ref (q 0)), (1, .int v1), (3, .int v3)] [.int k0] := by
  intro v1 v3 k0 st hf
  unfold f_X8_personsIn_L37 at hf
  refine tw_iconst (v := 0) C dX8_personsIn_37 (by decide) ?_
  refine tw_iadd C dX8_personsIn_38 ?_
  refine tw_istore_n (lv' := [(2, .int (k0 + 0)), (0, .ref (q 0)), (1, .int v1), (3, .int v3)]) C dX8_personsIn_39 rfl (by decide) rfl ?_
  refine tw_iinc (v := (v3 + 1)) (lv' := [(3, .int (v3 + 1)), (2, .int (k0 + 0)), (0, .ref (q 0)), (1, .int v1)]) C dX8_personsIn_40 (k := 3) rfl rfl (by decide) rfl ?_
  refine tw_goto (tgt := 4) C dX8_personsIn_43 (by decide) ?_
  refine tw_sub [2, 3, 1, 0] rfl ?_
  exact hrec v1 (k0 + 0) (v3 + 1) st hf
set_option maxRecDepth 20000 in
theorem m_X8_personsIn_L4b (C : twC p s m args meth c cX8_personsIn 4 RX8 wsX8_personsIn (dC, dI) (twY cI cZ) A) (hE : twEi p l e rm_X8_personsIn s m args below meth c 0 0 Q (dC, dI) A 4 cX8_personsIn .int res.1 (twM cI cZ q res.2)) {rec : Int32 → Int32 → Int32 → twS → Option (Int32 × twS)} (hrec : ∀ (v1 : Int32) (v2 : Int32) (v3 : Int32) (st : twS), rec v1 v2 v3 st = some res → twG p l e rm_X8_personsIn s m args below meth c 0 0 Q (dC, dI) A 4 (twM cI cZ q st) 4 [(0, .ref (q 0)), (1, .int v1), (2, .int v2), (3, .int v3)] []) : ∀ (v1 : Int32) (v2 : Int32) (v3 : Int32) (st : twS), f_X8_personsIn_L4b rec v1 v2 v3 st = some res → twG p l e rm_X8_personsIn s m args below meth c 0 0 Q (dC, dI) A 4 (twM cI cZ q st) 4 [(0, .ref (q 0)), (1, .int v1), (2, .int v2), (3, .int v3)] [] := by
  intro v1 v2 v3 st hf
  unfold f_X8_personsIn_L4b at hf
  refine tw_iload_n C dX8_personsIn_4 3 rfl rfl ?_
  refine tw_aload_n C dX8_personsIn_5 0 rfl rfl ?_
  refine tw_get (K := RX8) (T := TX8) (N := 37) (v := .int (st.1 31)) C 0 31 (fun _ h => List.mem_cons_of_mem _ (List.mem_append_right _ (h))) rfl rfl (by decide) (List.mem_cons_of_mem _ (List.mem_append_left _ (List.mem_of_getElem? (i := 0) rfl))) rfl rfl dX8_personsIn_6 ?_
  refine tw_icmp_ge (tgt := 46) C dX8_personsIn_9 (by decide) (fun c4001 => ?_) (fun c4001 => ?_)
  · have hf := tw_pos hf c4001
    refine tw_iload_n C dX8_personsIn_46 2 rfl rfl ?_
    exact tw_endi (Wf := twM cI cZ q) hE hf dX8_personsIn_47 rfl
  · have hf := tw_neg hf c4001
    refine tw_iload_n C dX8_personsIn_12 2 rfl rfl ?_
    refine tw_aload_n C dX8_personsIn_13 0 rfl rfl ?_
    refine tw_get (K := RX8) (T := TX8) (N := 37) (v := .ref (q 11)) C 0 32 (fun _ h => List.mem_cons_of_mem _ (List.mem_append_right _ (h))) rfl rfl (by decide) (List.mem_cons_of_mem _ (List.mem_append_left _ (List.mem_of_getElem? (i := 1) rfl))) rfl rfl dX8_personsIn_14 ?_
    refine tw_iload_n C dX8_personsIn_17 3 rfl rfl ?_
    obtain ⟨hb4002, hf⟩ := tw_ck hf
    refine tw_iald C 11 0 hb4002 rfl rfl dX8_personsIn_18 ?_
    refine tw_iconst (v := 3) C dX8_personsIn_19 (by decide) ?_
    refine tw_icmp_eq (tgt := 37) C dX8_personsIn_20 (by decide) (fun c4003 => ?_) (fun c4003 => ?_)
    · have hf := tw_pos hf c4003
      refine tw_sub [0, 1, 3] rfl ?_
      exact m_X8_personsIn_L37 C hE hrec v1 v3 v2 st hf
    · have hf := tw_neg hf c4003
      refine tw_aload_n C dX8_personsIn_23 0 rfl rfl ?_
      refine tw_get (K := RX8) (T := TX8) (N := 37) (v := .ref (q 12)) C 0 33 (fun _ h => List.mem_cons_of_mem _ (List.mem_append_right _ (h))) rfl rfl (by decide) (List.mem_cons_of_mem _ (List.mem_append_left _ (List.mem_of_getElem? (i := 2) rfl))) rfl rfl dX8_personsIn_24 ?_
      refine tw_iload_n C dX8_personsIn_27 3 rfl rfl ?_
      obtain ⟨hb4004, hf⟩ := tw_ck hf
      refine tw_iald C 12 0 hb4004 rfl rfl dX8_personsIn_28 ?_
      refine tw_iload_n C dX8_personsIn_29 1 rfl rfl ?_
      refine tw_icmp_ne (tgt := 37) C dX8_personsIn_30 (by decide) (fun c4005 => ?_) (fun c4005 => ?_)
      · have hf := tw_neg hf c4005
        refine tw_sub [0, 1, 3] rfl ?_
        exact m_X8_personsIn_L37 C hE hrec v1 v3 v2 st hf
      · have hf := tw_pos hf c4005
        refine tw_iconst (v := 1) C dX8_personsIn_33 (by decide) ?_
        refine tw_goto (tgt := 38) C dX8_personsIn_34 (by decide) ?_
        refine tw_iadd C dX8_personsIn_38 ?_
        refine tw_istore_n (lv' := [(2, .int (v2 + 1)), (0, .ref (q 0)), (1, .int v1), (3, .int v3)]) C dX8_personsIn_39 rfl (by decide) rfl ?_
        refine tw_iinc (v := (v3 + 1)) (lv' := [(3, .int (v3 + 1)), (2, .int (v2 + 1)), (0, .ref (q 0)), (1, .int v1)]) C dX8_personsIn_40 (k := 3) rfl rfl (by decide) rfl ?_
        refine tw_goto (tgt := 4) C dX8_personsIn_43 (by decide) ?_
        refine tw_sub [2, 3, 1, 0] rfl ?_
        exact hrec v1 (v2 + 1) (v3 + 1) st hf
theorem m_X8_personsIn_L4 (C : twC p s m args meth c cX8_personsIn 4 RX8 wsX8_personsIn (dC, dI) (twY cI cZ) A) (hE : twEi p l e rm_X8_personsIn s m args below meth c 0 0 Q (dC, dI) A 4 cX8_personsIn .int res.1 (twM cI cZ q res.2)) : ∀ (n : Nat) (v1 : Int32) (v2 : Int32) (v3 : Int32) (st : twS), f_X8_personsIn_L4 n v1 v2 v3 st = some res → twG p l e rm_X8_personsIn s m args below meth c 0 0 Q (dC, dI) A 4 (twM cI cZ q st) 4 [(0, .ref (q 0)), (1, .int v1), (2, .int v2), (3, .int v3)] [] := by
  intro n
  induction n with
  | zero =>
    intro v1 v2 v3 st hf
    have hf : none = some res := hf
    cases hf
  | succ n ih =>
    intro v1 v2 v3 st hf
    exact m_X8_personsIn_L4b C hE ih v1 v2 v3 st hf
set_option maxRecDepth 20000 in
theorem c_X8_personsIn (l : Launch) (dC : Nat → ClassId) (dI : Nat → Nat → Nat) (cI cZ : ClassId) (q : Nat → Nat) {st : twS} {v1 : Int32} {res : Int32 × twS} (hf : f_X8_personsIn st v1 = some res) : twMi l yX8_personsIn wsX8_personsIn rm_X8_personsIn (dC, dI) (twY cI cZ) [.ref (q 0), .int v1] (twM cI cZ q st) res.1 (twM cI cZ q res.2) := by
  refine tw_enti (cc := cX8_personsIn) (maxL := 4) (own := RX8) (by decide) rfl (Nat.le_of_ble_eq_true rfl) rfl ⟨rfl, rfl⟩ ?_
  intro p e s m below meth c A Q C hE
  generalize ([.ref (q 0), .int v1] : List Value).toArray = args at C hE ⊢
  refine tw_sub (lv' := [(0, .ref (q 0)), (1, .int v1)]) [0, 1] rfl ?_
  unfold f_X8_personsIn at hf
  refine tw_iconst (v := 0) C dX8_personsIn_0 (by decide) ?_
  refine tw_istore_n (lv' := [(2, .int 0), (0, .ref (q 0)), (1, .int v1)]) C dX8_personsIn_1 rfl (by decide) rfl ?_
  refine tw_iconst (v := 0) C dX8_personsIn_2 (by decide) ?_
  refine tw_istore_n (lv' := [(3, .int 0), (2, .int 0), (0, .ref (q 0)), (1, .int v1)]) C dX8_personsIn_3 rfl (by decide) rfl ?_
  refine tw_sub [2, 3, 1, 0] rfl ?_
  exact m_X8_personsIn_L4 C hE twN v1 0 0 st hf
end
/-! X8_tells: private int tells(int) -/
abbrev rm_X8_tells : Room := { frames := 1, cells := 0, slots := 0, locals := 23 }
def f_X8_tells_L58 (v1 : Int32) (k0 : Int32) (k1 : Int32) (st : twS) : Option (Int32 × twS) :=
  (if twb v1 12 = true then (if (st.2.1 1 v1.toNatClampNeg) < 10 then
    some (((k1 + k0) + 0), st)
  else
    ((f_X8_personsIn st v1).bind fun y58003 => (if y58003.1 ≤ 0 then
    some (((k1 + k0) + 0), y58003.2)
  else
    (if twb ((3 * v1) + 2) 36 = true then (if (y58003.2.2.1 7 ((3 * v1) + 2).toNatClampNeg) = 0 then
    some (((k1 + k0) + 1), y58003.2)
  else
    some (((k1 + k0) + 0), y58003.2)) else none)))) else none)
def f_X8_tells_L57 (v1 : Int32) (k0 : Int32) (st : twS) : Option (Int32 × twS) :=
  f_X8_tells_L58 v1 0 k0 st
def f_X8_tells_L27 (v1 : Int32) (k0 : Int32) (st : twS) : Option (Int32 × twS) :=
  (if twb v1 12 = true then (if (st.2.1 1 v1.toNatClampNeg) < 15 then
    f_X8_tells_L57 v1 k0 st
  else
    (if twb ((3 * v1) + 1) 36 = true then (if (st.2.1 7 ((3 * v1) + 1).toNatClampNeg) = 0 then
    f_X8_tells_L58 v1 1 k0 st
  else
    f_X8_tells_L57 v1 k0 st) else none)) else none)
def f_X8_tells_L26 (v1 : Int32) (st : twS) : Option (Int32 × twS) :=
  f_X8_tells_L27 v1 0 st
def f_X8_tells (st : twS) (v1 : Int32) : Option (Int32 × twS) :=
  (if twb v1 12 = true then (if (st.2.1 2 v1.toNatClampNeg) < 20 then
    f_X8_tells_L26 v1 st
  else
    (if twb (3 * v1) 36 = true then (if (st.2.1 7 (3 * v1).toNatClampNeg) = 0 then
    f_X8_tells_L27 v1 1 st
  else
    f_X8_tells_L26 v1 st) else none)) else none)
section
variable {p : Program} {l : Launch} {e : Env} {s : State} {m : MethodId} {args : Array Value} {below : List Frame} {meth : Method} {c : Code} {Q : State → Prop} {dC : Nat → ClassId} {dI : Nat → Nat → Nat} {cI cZ : ClassId} {q : Nat → Nat} {A : Nat → Prop} {res : Int32 × twS}
set_option maxRecDepth 20000 in
theorem m_X8_tells_L58 (C : twC p s m args meth c cX8_tells 3 RX8 wsX8_tells (dC, dI) (twY cI cZ) A) (hE : twEi p l e rm_X8_tells s m args below meth c 0 0 Q (dC, dI) A 3 cX8_tells .int res.1 (twM cI cZ q res.2)) : ∀ (v1 : Int32) (k0 : Int32) (k1 : Int32) (st : twS), f_X8_tells_L58 v1 k0 k1 st = some res → twG p l e rm_X8_tells s m args below meth c 0 0 Q (dC, dI) A 3 (twM cI cZ q st) 58 [(0, .ref (q 0)), (1, .int v1)] [.int k0, .int k1] := by
  intro v1 k0 k1 st hf
  unfold f_X8_tells_L58 at hf
  refine tw_iadd C dX8_tells_58 ?_
  refine tw_istore_n (lv' := [(2, .int (k1 + k0)), (0, .ref (q 0)), (1, .int v1)]) C dX8_tells_59 rfl (by decide) rfl ?_
  refine tw_iload_n C dX8_tells_60 0 rfl rfl ?_
  refine tw_aload_n C dX8_tells_61 1 rfl rfl ?_
  refine tw_get (K := RX8) (T := TX8) (N := 37) (v := .ref (q 1)) C 0 1 (fun _ h => List.mem_cons_of_mem _ (List.mem_append_right _ (h))) rfl rfl (by decide) (List.mem_cons_of_mem _ (List.mem_append_left _ (List.mem_of_getElem? (i := 2) rfl))) rfl rfl dX8_tells_62 ?_
  refine tw_iload_n C dX8_tells_65 2 rfl rfl ?_
  obtain ⟨hb58001, hf⟩ := tw_ck hf
  refine tw_iald C 1 0 hb58001 rfl rfl dX8_tells_66 ?_
  refine tw_bipush (v := 10) C dX8_tells_67 (by decide) ?_
  refine tw_icmp_lt (tgt := 97) C dX8_tells_69 (by decide) (fun c58002 => ?_) (fun c58002 => ?_)
  · have hf := tw_pos hf c58002
    refine tw_iconst (v := 0) C dX8_tells_97 (by decide) ?_
    refine tw_iadd C dX8_tells_98 ?_
    refine tw_istore_n (lv' := [(2, .int ((k1 + k0) + 0)), (0, .ref (q 0)), (1, .int v1)]) C dX8_tells_99 rfl (by decide) rfl ?_
    refine tw_iload_n C dX8_tells_100 0 rfl rfl ?_
    exact tw_endi (Wf := twM cI cZ q) hE hf dX8_tells_101 rfl
  · have hf := tw_neg hf c58002
    refine tw_aload_n C dX8_tells_72 1 rfl rfl ?_
    refine tw_iload_n C dX8_tells_73 2 rfl rfl ?_
    obtain ⟨y58003, hc58003, hf⟩ := tw_bd hf
    refine tw_cVi (As := [.int v1]) (stk := [.int (k1 + k0)]) C (c_X8_personsIn l dC dI cI cZ q hc58003) (cwV 1 C.hts gX8_tells_X8_personsIn rfl rfl rfl hd_X8_personsIn ⟨Nat.le_of_ble_eq_true rfl, Nat.le_of_ble_eq_true rfl⟩) 0 (ci := 8) rfl rfl rfl rfl rfl (Nat.le_of_ble_eq_true rfl) dX8_tells_74 ⟨Nat.zero_le _, Nat.zero_le _⟩ ?_
    refine tw_if_le (tgt := 97) C dX8_tells_77 (by decide) (fun c58004 => ?_) (fun c58004 => ?_)
    · have hf := tw_pos hf c58004
      refine tw_iconst (v := 0) C dX8_tells_97 (by decide) ?_
      refine tw_iadd C dX8_tells_98 ?_
      refine tw_istore_n (lv' := [(2, .int ((k1 + k0) + 0)), (0, .ref (q 0)), (1, .int v1)]) C dX8_tells_99 rfl (by decide) rfl ?_
      refine tw_iload_n C dX8_tells_100 0 rfl rfl ?_
      exact tw_endi (Wf := twM cI cZ q) hE hf dX8_tells_101 rfl
    · have hf := tw_neg hf c58004
      refine tw_aload_n C dX8_tells_80 1 rfl rfl ?_
      refine tw_get (K := RX8) (T := TX8) (N := 37) (v := .ref (q 7)) C 0 23 (fun _ h => List.mem_cons_of_mem _ (List.mem_append_right _ (h))) rfl rfl (by decide) (List.mem_cons_of_mem _ (List.mem_append_left _ (List.mem_of_getElem? (i := 1) rfl))) rfl rfl dX8_tells_81 ?_
      refine tw_iconst (v := 3) C dX8_tells_84 (by decide) ?_
      refine tw_iload_n C dX8_tells_85 2 rfl rfl ?_
      refine tw_imul C dX8_tells_86 ?_
      refine tw_iconst (v := 2) C dX8_tells_87 (by decide) ?_
      refine tw_iadd C dX8_tells_88 ?_
      obtain ⟨hb58005, hf⟩ := tw_ck hf
      refine tw_zald C 7 1 hb58005 rfl rfl dX8_tells_89 ?_
      refine tw_if_ne (tgt := 97) C dX8_tells_90 (by decide) (fun c58006 => ?_) (fun c58006 => ?_)
      · have hf := tw_neg hf c58006
        refine tw_iconst (v := 0) C dX8_tells_97 (by decide) ?_
        refine tw_iadd C dX8_tells_98 ?_
        refine tw_istore_n (lv' := [(2, .int ((k1 + k0) + 0)), (0, .ref (q 0)), (1, .int v1)]) C dX8_tells_99 rfl (by decide) rfl ?_
        refine tw_iload_n C dX8_tells_100 0 rfl rfl ?_
        exact tw_endi (Wf := twM cI cZ q) hE hf dX8_tells_101 rfl
      · have hf := tw_pos hf c58006
        refine tw_iconst (v := 1) C dX8_tells_93 (by decide) ?_
        refine tw_goto (tgt := 98) C dX8_tells_94 (by decide) ?_
        refine tw_iadd C dX8_tells_98 ?_
        refine tw_istore_n (lv' := [(2, .int ((k1 + k0) + 1)), (0, .ref (q 0)), (1, .int v1)]) C dX8_tells_99 rfl (by decide) rfl ?_
        refine tw_iload_n C dX8_tells_100 0 rfl rfl ?_
        exact tw_endi (Wf := twM cI cZ q) hE hf dX8_tells_101 rfl
set_option maxRecDepth 20000 in
theorem m_X8_tells_L57 (C : twC p s m args meth c cX8_tells 3 RX8 wsX8_tells (dC, dI) (twY cI cZ) A) (hE : twEi p l e rm_X8_tells s m args below meth c 0 0 Q (dC, dI) A 3 cX8_tells .int res.1 (twM cI cZ q res.2)) : ∀ (v1 : Int32) (k0 : Int32) (st : twS), f_X8_tells_L57 v1 k0 st = some res → twG p l e rm_X8_tells s m args below meth c 0 0 Q (dC, dI) A 3 (twM cI cZ q st) 57 [(0, .ref (q 0)), (1, .int v1)] [.int k0] := by
  intro v1 k0 st hf
  unfold f_X8_tells_L57 at hf
  refine tw_iconst (v := 0) C dX8_tells_57 (by decide) ?_
  exact m_X8_tells_L58 C hE v1 0 k0 st hf
set_option maxRecDepth 20000 in
theorem m_X8_tells_L27 (C : twC p s m args meth c cX8_tells 3 RX8 wsX8_tells (dC, dI) (twY cI cZ) A) (hE : twEi p l e rm_X8_tells s m args below meth c 0 0 Q (dC, dI) A 3 cX8_tells .int res.1 (twM cI cZ q res.2)) : ∀ (v1 : Int32) (k0 : Int32) (st : twS), f_X8_tells_L27 v1 k0 st = some res → twG p l e rm_X8_tells s m args below meth c 0 0 Q (dC, dI) A 3 (twM cI cZ q st) 27 [(0, .ref (q 0)), (1, .int v1)] [.int k0] := by
  intro v1 k0 st hf
  unfold f_X8_tells_L27 at hf
  refine tw_istore_n (lv' := [(2, .int k0), (0, .ref (q 0)), (1, .int v1)]) C dX8_tells_27 rfl (by decide) rfl ?_
  refine tw_iload_n C dX8_tells_28 0 rfl rfl ?_
  refine tw_aload_n C dX8_tells_29 1 rfl rfl ?_
  refine tw_get (K := RX8) (T := TX8) (N := 37) (v := .ref (q 1)) C 0 1 (fun _ h => List.mem_cons_of_mem _ (List.mem_append_right _ (h))) rfl rfl (by decide) (List.mem_cons_of_mem _ (List.mem_append_left _ (List.mem_of_getElem? (i := 2) rfl))) rfl rfl dX8_tells_30 ?_
  refine tw_iload_n C dX8_tells_33 2 rfl rfl ?_
  obtain ⟨hb27001, hf⟩ := tw_ck hf
  refine tw_iald C 1 0 hb27001 rfl rfl dX8_tells_34 ?_
  refine tw_bipush (v := 15) C dX8_tells_35 (by decide) ?_
  refine tw_icmp_lt (tgt := 57) C dX8_tells_37 (by decide) (fun c27002 => ?_) (fun c27002 => ?_)
  · have hf := tw_pos hf c27002
    refine tw_sub [1, 2] rfl ?_
    exact m_X8_tells_L57 C hE v1 k0 st hf
  · have hf := tw_neg hf c27002
    refine tw_aload_n C dX8_tells_40 1 rfl rfl ?_
    refine tw_get (K := RX8) (T := TX8) (N := 37) (v := .ref (q 7)) C 0 23 (fun _ h => List.mem_cons_of_mem _ (List.mem_append_right _ (h))) rfl rfl (by decide) (List.mem_cons_of_mem _ (List.mem_append_left _ (List.mem_of_getElem? (i := 1) rfl))) rfl rfl dX8_tells_41 ?_
    refine tw_iconst (v := 3) C dX8_tells_44 (by decide) ?_
    refine tw_iload_n C dX8_tells_45 2 rfl rfl ?_
    refine tw_imul C dX8_tells_46 ?_
    refine tw_iconst (v := 1) C dX8_tells_47 (by decide) ?_
    refine tw_iadd C dX8_tells_48 ?_
    obtain ⟨hb27003, hf⟩ := tw_ck hf
    refine tw_zald C 7 1 hb27003 rfl rfl dX8_tells_49 ?_
    refine tw_if_ne (tgt := 57) C dX8_tells_50 (by decide) (fun c27004 => ?_) (fun c27004 => ?_)
    · have hf := tw_neg hf c27004
      refine tw_sub [1, 2] rfl ?_
      exact m_X8_tells_L57 C hE v1 k0 st hf
    · have hf := tw_pos hf c27004
      refine tw_iconst (v := 1) C dX8_tells_53 (by decide) ?_
      refine tw_goto (tgt := 58) C dX8_tells_54 (by decide) ?_
      refine tw_sub [1, 2] rfl ?_
      exact m_X8_tells_L58 C hE v1 1 k0 st hf
set_option maxRecDepth 20000 in
theorem m_X8_tells_L26 (C : twC p s m args meth c cX8_tells 3 RX8 wsX8_tells (dC, dI) (twY cI cZ) A) (hE : twEi p l e rm_X8_tells s m args below meth c 0 0 Q (dC, dI) A 3 cX8_tells .int res.1 (twM cI cZ q res.2)) : ∀ (v1 : Int32) (st : twS), f_X8_tells_L26 v1 st = some res → twG p l e rm_X8_tells s m args below meth c 0 0 Q (dC, dI) A 3 (twM cI cZ q st) 26 [(0, .ref (q 0)), (1, .int v1)] [] := by
  intro v1 st hf
  unfold f_X8_tells_L26 at hf
  refine tw_iconst (v := 0) C dX8_tells_26 (by decide) ?_
  exact m_X8_tells_L27 C hE v1 0 st hf
set_option maxRecDepth 20000 in
theorem c_X8_tells (l : Launch) (dC : Nat → ClassId) (dI : Nat → Nat → Nat) (cI cZ : ClassId) (q : Nat → Nat) {st : twS} {v1 : Int32} {res : Int32 × twS} (hf : f_X8_tells st v1 = some res) : twMi l yX8_tells wsX8_tells rm_X8_tells (dC, dI) (twY cI cZ) [.ref (q 0), .int v1] (twM cI cZ q st) res.1 (twM cI cZ q res.2) := by
  refine tw_enti (cc := cX8_tells) (maxL := 3) (own := RX8) (by decide) rfl (Nat.le_of_ble_eq_true rfl) rfl ⟨rfl, rfl⟩ ?_
  intro p e s m below meth c A Q C hE
  generalize ([.ref (q 0), .int v1] : List Value).toArray = args at C hE ⊢
  refine tw_sub (lv' := [(0, .ref (q 0)), (1, .int v1)]) [0, 1] rfl ?_
  unfold f_X8_tells at hf
  refine tw_aload_n C dX8_tells_0 0 rfl rfl ?_
  refine tw_get (K := RX8) (T := TX8) (N := 37) (v := .ref (q 2)) C 0 2 (fun _ h => List.mem_cons_of_mem _ (List.mem_append_right _ (h))) rfl rfl (by decide) (List.mem_cons_of_mem _ (List.mem_append_left _ (List.mem_of_getElem? (i := 0) rfl))) rfl rfl dX8_tells_1 ?_
  refine tw_iload_n C dX8_tells_4 1 rfl rfl ?_
  obtain ⟨hb1, hf⟩ := tw_ck hf
  refine tw_iald C 2 0 hb1 rfl rfl dX8_tells_5 ?_
  refine tw_bipush (v := 20) C dX8_tells_6 (by decide) ?_
  refine tw_icmp_lt (tgt := 26) C dX8_tells_8 (by decide) (fun c2 => ?_) (fun c2 => ?_)
  · have hf := tw_pos hf c2
    exact m_X8_tells_L26 C hE v1 st hf
  · have hf := tw_neg hf c2
    refine tw_aload_n C dX8_tells_11 0 rfl rfl ?_
    refine tw_get (K := RX8) (T := TX8) (N := 37) (v := .ref (q 7)) C 0 23 (fun _ h => List.mem_cons_of_mem _ (List.mem_append_right _ (h))) rfl rfl (by decide) (List.mem_cons_of_mem _ (List.mem_append_left _ (List.mem_of_getElem? (i := 1) rfl))) rfl rfl dX8_tells_12 ?_
    refine tw_iconst (v := 3) C dX8_tells_15 (by decide) ?_
    refine tw_iload_n C dX8_tells_16 1 rfl rfl ?_
    refine tw_imul C dX8_tells_17 ?_
    obtain ⟨hb3, hf⟩ := tw_ck hf
    refine tw_zald C 7 1 hb3 rfl rfl dX8_tells_18 ?_
    refine tw_if_ne (tgt := 26) C dX8_tells_19 (by decide) (fun c4 => ?_) (fun c4 => ?_)
    · have hf := tw_neg hf c4
      exact m_X8_tells_L26 C hE v1 st hf
    · have hf := tw_pos hf c4
      refine tw_iconst (v := 1) C dX8_tells_22 (by decide) ?_
      refine tw_goto (tgt := 27) C dX8_tells_23 (by decide) ?_
      exact m_X8_tells_L27 C hE v1 1 st hf
end
/-! X8_detects: private void detects() -/
abbrev rm_X8_detects : Room := { frames := 2, cells := 0, slots := 0, locals := 45 }
def f_X8_detects_L2b (rec : Int32 → twS → Option (twS)) (v1 : Int32) (st : twS) : Option (twS) :=
  (if 12 ≤ v1 then
    some st
  else
    (if (st.1 24) = (-1) then
    ((f_X8_tells st v1).bind fun y2003 => (if y2003.1 < 2 then
    rec (v1 + 1) y2003.2
  else
    (if twb 0 10 = true then rec (v1 + 1) (twI (twI y2003.2 24 v1) 30 (((twI y2003.2 24 v1).1 0) + ((twI y2003.2 24 v1).2.1 9 (0 : Int32).toNatClampNeg))) else none)))
  else
    some st))
def f_X8_detects_L2 : Nat → Int32 → twS → Option (twS)
  | 0 => fun _ _ => none
  | n + 1 => fun v1 st => f_X8_detects_L2b (f_X8_detects_L2 n) v1 st
def f_X8_detects (st : twS) : Option (twS) :=
  f_X8_detects_L2 twN 0 st
section
variable {p : Program} {l : Launch} {e : Env} {s : State} {m : MethodId} {args : Array Value} {below : List Frame} {meth : Method} {c : Code} {Q : State → Prop} {dC : Nat → ClassId} {dI : Nat → Nat → Nat} {cI cZ : ClassId} {q : Nat → Nat} {A : Nat → Prop} {res : twS}
set_option maxRecDepth 20000 in
theorem m_X8_detects_L2b (C : twC p s m args meth c cX8_detects 2 RX8 wsX8_detects (dC, dI) (twY cI cZ) A) (hE : twEv p l e rm_X8_detects s m args below meth c 0 0 Q (dC, dI) A 2 cX8_detects (twM cI cZ q res)) {rec : Int32 → twS → Option (twS)} (hrec : ∀ (v1 : Int32) (st : twS), rec v1 st = some res → twG p l e rm_X8_detects s m args below meth c 0 0 Q (dC, dI) A 2 (twM cI cZ q st) 2 [(0, .ref (q 0)), (1, .int v1)] []) : ∀ (v1 : Int32) (st : twS), f_X8_detects_L2b rec v1 st = some res → twG p l e rm_X8_detects s m args below meth c 0 0 Q (dC, dI) A 2 (twM cI cZ q st) 2 [(0, .ref (q 0)), (1, .int v1)] [] := by
  intro v1 st hf
  unfold f_X8_detects_L2b at hf
  refine tw_iload_n C dX8_detects_2 1 rfl rfl ?_
  refine tw_bipush (v := 12) C dX8_detects_3 (by decide) ?_
  refine tw_icmp_ge (tgt := 51) C dX8_detects_5 (by decide) (fun c2001 => ?_) (fun c2001 => ?_)
  · have hf := tw_pos hf c2001
    exact tw_endv (Wf := twM cI cZ q) hE hf dX8_detects_51
  · have hf := tw_neg hf c2001
    refine tw_aload_n C dX8_detects_8 0 rfl rfl ?_
    refine tw_get (K := RX8) (T := TX8) (N := 37) (v := .int (st.1 24)) C 0 24 (fun _ h => List.mem_cons_of_mem _ (List.mem_append_right _ (h))) rfl rfl (by decide) (List.mem_cons_of_mem _ (List.mem_append_left _ (List.mem_of_getElem? (i := 0) rfl))) rfl rfl dX8_detects_9 ?_
    refine tw_iconst (v := (-1)) C dX8_detects_12 (by decide) ?_
    refine tw_icmp_ne (tgt := 51) C dX8_detects_13 (by decide) (fun c2002 => ?_) (fun c2002 => ?_)
    · have hf := tw_neg hf c2002
      exact tw_endv (Wf := twM cI cZ q) hE hf dX8_detects_51
    · have hf := tw_pos hf c2002
      refine tw_aload_n C dX8_detects_16 0 rfl rfl ?_
      refine tw_iload_n C dX8_detects_17 1 rfl rfl ?_
      obtain ⟨y2003, hc2003, hf⟩ := tw_bd hf
      refine tw_cVi (As := [.int v1]) (stk := []) C (c_X8_tells l dC dI cI cZ q hc2003) (cwV 1 C.hts gX8_detects_X8_tells rfl rfl rfl hd_X8_tells ⟨Nat.le_of_ble_eq_true rfl, Nat.le_of_ble_eq_true rfl⟩) 0 (ci := 8) rfl rfl rfl rfl rfl (Nat.le_of_ble_eq_true rfl) dX8_detects_18 ⟨Nat.zero_le _, Nat.zero_le _⟩ ?_
      refine tw_iconst (v := 2) C dX8_detects_21 (by decide) ?_
      refine tw_icmp_lt (tgt := 45) C dX8_detects_22 (by decide) (fun c2004 => ?_) (fun c2004 => ?_)
      · have hf := tw_pos hf c2004
        refine tw_iinc (v := (v1 + 1)) (lv' := [(1, .int (v1 + 1)), (0, .ref (q 0))]) C dX8_detects_45 (k := 1) rfl rfl (by decide) rfl ?_
        refine tw_goto (tgt := 2) C dX8_detects_48 (by decide) ?_
        refine tw_sub [1, 0] rfl ?_
        exact hrec (v1 + 1) y2003.2 hf
      · have hf := tw_neg hf c2004
        refine tw_aload_n C dX8_detects_25 0 rfl rfl ?_
        refine tw_iload_n C dX8_detects_26 1 rfl rfl ?_
        refine tw_put (K := RX8) (T := TX8) (N := 37) C 0 24 tyX8 tyX8_ok nmX8 (fun _ h => List.mem_cons_of_mem _ (List.mem_append_right _ (h))) rfl rfl (by decide) (List.mem_cons_of_mem _ (List.mem_append_left _ (List.mem_of_getElem? (i := 0) rfl))) rfl rfl rfl rfl (Nat.le_of_ble_eq_true rfl) (tw_M_si24 cI cZ q y2003.2 v1) dX8_detects_27 ?_
        refine tw_aload_n C dX8_detects_30 0 rfl rfl ?_
        refine tw_aload_n C dX8_detects_31 0 rfl rfl ?_
        refine tw_get (K := RX8) (T := TX8) (N := 37) (v := .int ((twI y2003.2 24 v1).1 0)) C 0 0 (fun _ h => List.mem_cons_of_mem _ (List.mem_append_right _ (h))) rfl rfl (by decide) (List.mem_cons_of_mem _ (List.mem_append_left _ (List.mem_of_getElem? (i := 1) rfl))) rfl rfl dX8_detects_32 ?_
        refine tw_aload_n C dX8_detects_35 0 rfl rfl ?_
        refine tw_get (K := RX8) (T := TX8) (N := 37) (v := .ref (q 9)) C 0 27 (fun _ h => List.mem_cons_of_mem _ (List.mem_append_right _ (h))) rfl rfl (by decide) (List.mem_cons_of_mem _ (List.mem_append_left _ (List.mem_of_getElem? (i := 2) rfl))) rfl rfl dX8_detects_36 ?_
        refine tw_iconst (v := 0) C dX8_detects_39 (by decide) ?_
        obtain ⟨hb2005, hf⟩ := tw_ck hf
        refine tw_iald C 9 0 hb2005 rfl rfl dX8_detects_40 ?_
        refine tw_iadd C dX8_detects_41 ?_
        refine tw_put (K := RX8) (T := TX8) (N := 37) C 0 30 tyX8 tyX8_ok nmX8 (fun _ h => List.mem_cons_of_mem _ (List.mem_append_right _ (h))) rfl rfl (by decide) (List.mem_cons_of_mem _ (List.mem_append_left _ (List.mem_of_getElem? (i := 3) rfl))) rfl rfl rfl rfl (Nat.le_of_ble_eq_true rfl) (tw_M_si30 cI cZ q (twI y2003.2 24 v1) (((twI y2003.2 24 v1).1 0) + ((twI y2003.2 24 v1).2.1 9 (0 : Int32).toNatClampNeg))) dX8_detects_42 ?_
        refine tw_iinc (v := (v1 + 1)) (lv' := [(1, .int (v1 + 1)), (0, .ref (q 0))]) C dX8_detects_45 (k := 1) rfl rfl (by decide) rfl ?_
        refine tw_goto (tgt := 2) C dX8_detects_48 (by decide) ?_
        refine tw_sub [1, 0] rfl ?_
        exact hrec (v1 + 1) (twI (twI y2003.2 24 v1) 30 (((twI y2003.2 24 v1).1 0) + ((twI y2003.2 24 v1).2.1 9 (0 : Int32).toNatClampNeg))) hf
theorem m_X8_detects_L2 (C : twC p s m args meth c cX8_detects 2 RX8 wsX8_detects (dC, dI) (twY cI cZ) A) (hE : twEv p l e rm_X8_detects s m args below meth c 0 0 Q (dC, dI) A 2 cX8_detects (twM cI cZ q res)) : ∀ (n : Nat) (v1 : Int32) (st : twS), f_X8_detects_L2 n v1 st = some res → twG p l e rm_X8_detects s m args below meth c 0 0 Q (dC, dI) A 2 (twM cI cZ q st) 2 [(0, .ref (q 0)), (1, .int v1)] [] := by
  intro n
  induction n with
  | zero =>
    intro v1 st hf
    have hf : none = some res := hf
    cases hf
  | succ n ih =>
    intro v1 st hf
    exact m_X8_detects_L2b C hE ih v1 st hf
set_option maxRecDepth 20000 in
theorem c_X8_detects (l : Launch) (dC : Nat → ClassId) (dI : Nat → Nat → Nat) (cI cZ : ClassId) (q : Nat → Nat) {st : twS} {res : twS} (hf : f_X8_detects st = some res) : twMv l yX8_detects wsX8_detects rm_X8_detects (dC, dI) (twY cI cZ) [.ref (q 0)] (twM cI cZ q st) (twM cI cZ q res) := by
  refine tw_entv (cc := cX8_detects) (maxL := 2) (own := RX8) (by decide) rfl (Nat.le_of_ble_eq_true rfl) rfl ⟨rfl, rfl⟩ ?_
  intro p e s m below meth c A Q C hE
  generalize ([.ref (q 0)] : List Value).toArray = args at C hE ⊢
  refine tw_sub (lv' := [(0, .ref (q 0))]) [0] rfl ?_
  unfold f_X8_detects at hf
  refine tw_iconst (v := 0) C dX8_detects_0 (by decide) ?_
  refine tw_istore_n (lv' := [(1, .int 0), (0, .ref (q 0))]) C dX8_detects_1 rfl (by decide) rfl ?_
  refine tw_sub [1, 0] rfl ?_
  exact m_X8_detects_L2 C hE twN 0 st hf
end
/-! X8_charts: private void charts() -/
abbrev rm_X8_charts : Room := { frames := 1, cells := 0, slots := 0, locals := 22 }
def f_X8_charts_L0b (rec : twS → Option (twS)) (st : twS) : Option (twS) :=
  (if (st.1 24) = (-1) then
    some st
  else
    (if (st.1 25) ≤ (st.1 29) then
    some st
  else
    (if (st.1 0) < (st.1 30) then
    some st
  else
    (if twb (st.1 29) 10 = true then ((f_X8_doesAct st (st.2.1 8 (st.1 29).toNatClampNeg)).bind fun y5 => (if twb (y5.1 29) 10 = true then (if ((twI (twA y5 10 (y5.1 29) (y5.1 0)) 29 (((twA y5 10 (y5.1 29) (y5.1 0)).1 29) + 1)).1 25) ≤ ((twI (twA y5 10 (y5.1 29) (y5.1 0)) 29 (((twA y5 10 (y5.1 29) (y5.1 0)).1 29) + 1)).1 29) then
    rec (twI (twI (twA y5 10 (y5.1 29) (y5.1 0)) 29 (((twA y5 10 (y5.1 29) (y5.1 0)).1 29) + 1)) 30 (((twI (twA y5 10 (y5.1 29) (y5.1 0)) 29 (((twA y5 10 (y5.1 29) (y5.1 0)).1 29) + 1)).1 30) + 0))
  else
    (if twb ((twI (twA y5 10 (y5.1 29) (y5.1 0)) 29 (((twA y5 10 (y5.1 29) (y5.1 0)).1 29) + 1)).1 29) 10 = true then rec (twI (twI (twA y5 10 (y5.1 29) (y5.1 0)) 29 (((twA y5 10 (y5.1 29) (y5.1 0)).1 29) + 1)) 30 (((twI (twA y5 10 (y5.1 29) (y5.1 0)) 29 (((twA y5 10 (y5.1 29) (y5.1 0)).1 29) + 1)).1 30) + ((twI (twA y5 10 (y5.1 29) (y5.1 0)) 29 (((twA y5 10 (y5.1 29) (y5.1 0)).1 29) + 1)).2.1 9 ((twI (twA y5 10 (y5.1 29) (y5.1 0)) 29 (((twA y5 10 (y5.1 29) (y5.1 0)).1 29) + 1)).1 29).toNatClampNeg))) else none)) else none)) else none))))
def f_X8_charts_L0 : Nat → twS → Option (twS)
  | 0 => fun  _ => none
  | n + 1 => fun st => f_X8_charts_L0b (f_X8_charts_L0 n) st
def f_X8_charts (st : twS) : Option (twS) :=
  f_X8_charts_L0 twN st
section
variable {p : Program} {l : Launch} {e : Env} {s : State} {m : MethodId} {args : Array Value} {below : List Frame} {meth : Method} {c : Code} {Q : State → Prop} {dC : Nat → ClassId} {dI : Nat → Nat → Nat} {cI cZ : ClassId} {q : Nat → Nat} {A : Nat → Prop} {res : twS}
set_option maxRecDepth 20000 in
theorem m_X8_charts_L0b (C : twC p s m args meth c cX8_charts 1 RX8 wsX8_charts (dC, dI) (twY cI cZ) A) (hE : twEv p l e rm_X8_charts s m args below meth c 0 0 Q (dC, dI) A 1 cX8_charts (twM cI cZ q res)) {rec : twS → Option (twS)} (hrec : ∀ (st : twS), rec st = some res → twG p l e rm_X8_charts s m args below meth c 0 0 Q (dC, dI) A 1 (twM cI cZ q st) 0 [(0, .ref (q 0))] []) : ∀ (st : twS), f_X8_charts_L0b rec st = some res → twG p l e rm_X8_charts s m args below meth c 0 0 Q (dC, dI) A 1 (twM cI cZ q st) 0 [(0, .ref (q 0))] [] := by
  intro st hf
  unfold f_X8_charts_L0b at hf
  refine tw_aload_n C dX8_charts_0 0 rfl rfl ?_
  refine tw_get (K := RX8) (T := TX8) (N := 37) (v := .int (st.1 24)) C 0 24 (fun _ h => List.mem_cons_of_mem _ (List.mem_append_right _ (h))) rfl rfl (by decide) (List.mem_cons_of_mem _ (List.mem_append_left _ (List.mem_of_getElem? (i := 0) rfl))) rfl rfl dX8_charts_1 ?_
  refine tw_iconst (v := (-1)) C dX8_charts_4 (by decide) ?_
  refine tw_icmp_eq (tgt := 102) C dX8_charts_5 (by decide) (fun c1 => ?_) (fun c1 => ?_)
  · have hf := tw_pos hf c1
    exact tw_endv (Wf := twM cI cZ q) hE hf dX8_charts_102
  · have hf := tw_neg hf c1
    refine tw_aload_n C dX8_charts_8 0 rfl rfl ?_
    refine tw_get (K := RX8) (T := TX8) (N := 37) (v := .int (st.1 29)) C 0 29 (fun _ h => List.mem_cons_of_mem _ (List.mem_append_right _ (h))) rfl rfl (by decide) (List.mem_cons_of_mem _ (List.mem_append_left _ (List.mem_of_getElem? (i := 1) rfl))) rfl rfl dX8_charts_9 ?_
    refine tw_aload_n C dX8_charts_12 0 rfl rfl ?_
    refine tw_get (K := RX8) (T := TX8) (N := 37) (v := .int (st.1 25)) C 0 25 (fun _ h => List.mem_cons_of_mem _ (List.mem_append_right _ (h))) rfl rfl (by decide) (List.mem_cons_of_mem _ (List.mem_append_left _ (List.mem_of_getElem? (i := 2) rfl))) rfl rfl dX8_charts_13 ?_
    refine tw_icmp_ge (tgt := 102) C dX8_charts_16 (by decide) (fun c2 => ?_) (fun c2 => ?_)
    · have hf := tw_pos hf c2
      exact tw_endv (Wf := twM cI cZ q) hE hf dX8_charts_102
    · have hf := tw_neg hf c2
      refine tw_aload_n C dX8_charts_19 0 rfl rfl ?_
      refine tw_get (K := RX8) (T := TX8) (N := 37) (v := .int (st.1 30)) C 0 30 (fun _ h => List.mem_cons_of_mem _ (List.mem_append_right _ (h))) rfl rfl (by decide) (List.mem_cons_of_mem _ (List.mem_append_left _ (List.mem_of_getElem? (i := 3) rfl))) rfl rfl dX8_charts_20 ?_
      refine tw_aload_n C dX8_charts_23 0 rfl rfl ?_
      refine tw_get (K := RX8) (T := TX8) (N := 37) (v := .int (st.1 0)) C 0 0 (fun _ h => List.mem_cons_of_mem _ (List.mem_append_right _ (h))) rfl rfl (by decide) (List.mem_cons_of_mem _ (List.mem_append_left _ (List.mem_of_getElem? (i := 4) rfl))) rfl rfl dX8_charts_24 ?_
      refine tw_icmp_gt (tgt := 102) C dX8_charts_27 (by decide) (fun c3 => ?_) (fun c3 => ?_)
      · have hf := tw_pos hf c3
        exact tw_endv (Wf := twM cI cZ q) hE hf dX8_charts_102
      · have hf := tw_neg hf c3
        refine tw_aload_n C dX8_charts_30 0 rfl rfl ?_
        refine tw_aload_n C dX8_charts_31 0 rfl rfl ?_
        refine tw_get (K := RX8) (T := TX8) (N := 37) (v := .ref (q 8)) C 0 26 (fun _ h => List.mem_cons_of_mem _ (List.mem_append_right _ (h))) rfl rfl (by decide) (List.mem_cons_of_mem _ (List.mem_append_left _ (List.mem_of_getElem? (i := 5) rfl))) rfl rfl dX8_charts_32 ?_
        refine tw_aload_n C dX8_charts_35 0 rfl rfl ?_
        refine tw_get (K := RX8) (T := TX8) (N := 37) (v := .int (st.1 29)) C 0 29 (fun _ h => List.mem_cons_of_mem _ (List.mem_append_right _ (h))) rfl rfl (by decide) (List.mem_cons_of_mem _ (List.mem_append_left _ (List.mem_of_getElem? (i := 1) rfl))) rfl rfl dX8_charts_36 ?_
        obtain ⟨hb4, hf⟩ := tw_ck hf
        refine tw_iald C 8 0 hb4 rfl rfl dX8_charts_39 ?_
        obtain ⟨y5, hc5, hf⟩ := tw_bd hf
        refine tw_cVv (As := [.int (st.2.1 8 (st.1 29).toNatClampNeg)]) (stk := []) C (c_X8_doesAct l dC dI cI cZ q hc5) (cwV 1 C.hts gX8_charts_X8_doesAct rfl rfl rfl hd_X8_doesAct ⟨Nat.le_of_ble_eq_true rfl, Nat.le_of_ble_eq_true rfl⟩) 0 (ci := 8) rfl rfl rfl rfl rfl (Nat.le_of_ble_eq_true rfl) dX8_charts_40 ⟨Nat.zero_le _, Nat.zero_le _⟩ ?_
        refine tw_aload_n C dX8_charts_43 0 rfl rfl ?_
        refine tw_get (K := RX8) (T := TX8) (N := 37) (v := .ref (q 10)) C 0 28 (fun _ h => List.mem_cons_of_mem _ (List.mem_append_right _ (h))) rfl rfl (by decide) (List.mem_cons_of_mem _ (List.mem_append_left _ (List.mem_of_getElem? (i := 6) rfl))) rfl rfl dX8_charts_44 ?_
        refine tw_aload_n C dX8_charts_47 0 rfl rfl ?_
        refine tw_get (K := RX8) (T := TX8) (N := 37) (v := .int (y5.1 29)) C 0 29 (fun _ h => List.mem_cons_of_mem _ (List.mem_append_right _ (h))) rfl rfl (by decide) (List.mem_cons_of_mem _ (List.mem_append_left _ (List.mem_of_getElem? (i := 1) rfl))) rfl rfl dX8_charts_48 ?_
        refine tw_aload_n C dX8_charts_51 0 rfl rfl ?_
        refine tw_get (K := RX8) (T := TX8) (N := 37) (v := .int (y5.1 0)) C 0 0 (fun _ h => List.mem_cons_of_mem _ (List.mem_append_right _ (h))) rfl rfl (by decide) (List.mem_cons_of_mem _ (List.mem_append_left _ (List.mem_of_getElem? (i := 4) rfl))) rfl rfl dX8_charts_52 ?_
        obtain ⟨hb6, hf⟩ := tw_ck hf
        refine tw_iast C 10 0 hb6 rfl rfl (tw_M_a10 cI cZ q y5 (y5.1 29) (y5.1 0)) dX8_charts_55 ?_
        refine tw_aload_n C dX8_charts_56 0 rfl rfl ?_
        refine tw_dup C dX8_charts_57 rfl ?_
        refine tw_get (K := RX8) (T := TX8) (N := 37) (v := .int ((twA y5 10 (y5.1 29) (y5.1 0)).1 29)) C 0 29 (fun _ h => List.mem_cons_of_mem _ (List.mem_append_right _ (h))) rfl rfl (by decide) (List.mem_cons_of_mem _ (List.mem_append_left _ (List.mem_of_getElem? (i := 1) rfl))) rfl rfl dX8_charts_58 ?_
        refine tw_iconst (v := 1) C dX8_charts_61 (by decide) ?_
        refine tw_iadd C dX8_charts_62 ?_
        refine tw_put (K := RX8) (T := TX8) (N := 37) C 0 29 tyX8 tyX8_ok nmX8 (fun _ h => List.mem_cons_of_mem _ (List.mem_append_right _ (h))) rfl rfl (by decide) (List.mem_cons_of_mem _ (List.mem_append_left _ (List.mem_of_getElem? (i := 1) rfl))) rfl rfl rfl rfl (Nat.le_of_ble_eq_true rfl) (tw_M_si29 cI cZ q (twA y5 10 (y5.1 29) (y5.1 0)) (((twA y5 10 (y5.1 29) (y5.1 0)).1 29) + 1)) dX8_charts_63 ?_
        refine tw_aload_n C dX8_charts_66 0 rfl rfl ?_
        refine tw_dup C dX8_charts_67 rfl ?_
        refine tw_get (K := RX8) (T := TX8) (N := 37) (v := .int ((twI (twA y5 10 (y5.1 29) (y5.1 0)) 29 (((twA y5 10 (y5.1 29) (y5.1 0)).1 29) + 1)).1 30)) C 0 30 (fun _ h => List.mem_cons_of_mem _ (List.mem_append_right _ (h))) rfl rfl (by decide) (List.mem_cons_of_mem _ (List.mem_append_left _ (List.mem_of_getElem? (i := 3) rfl))) rfl rfl dX8_charts_68 ?_
        refine tw_aload_n C dX8_charts_71 0 rfl rfl ?_
        refine tw_get (K := RX8) (T := TX8) (N := 37) (v := .int ((twI (twA y5 10 (y5.1 29) (y5.1 0)) 29 (((twA y5 10 (y5.1 29) (y5.1 0)).1 29) + 1)).1 29)) C 0 29 (fun _ h => List.mem_cons_of_mem _ (List.mem_append_right _ (h))) rfl rfl (by decide) (List.mem_cons_of_mem _ (List.mem_append_left _ (List.mem_of_getElem? (i := 1) rfl))) rfl rfl dX8_charts_72 ?_
        refine tw_aload_n C dX8_charts_75 0 rfl rfl ?_
        refine tw_get (K := RX8) (T := TX8) (N := 37) (v := .int ((twI (twA y5 10 (y5.1 29) (y5.1 0)) 29 (((twA y5 10 (y5.1 29) (y5.1 0)).1 29) + 1)).1 25)) C 0 25 (fun _ h => List.mem_cons_of_mem _ (List.mem_append_right _ (h))) rfl rfl (by decide) (List.mem_cons_of_mem _ (List.mem_append_left _ (List.mem_of_getElem? (i := 2) rfl))) rfl rfl dX8_charts_76 ?_
        refine tw_icmp_ge (tgt := 94) C dX8_charts_79 (by decide) (fun c7 => ?_) (fun c7 => ?_)
        · have hf := tw_pos hf c7
          refine tw_iconst (v := 0) C dX8_charts_94 (by decide) ?_
          refine tw_iadd C dX8_charts_95 ?_
          refine tw_put (K := RX8) (T := TX8) (N := 37) C 0 30 tyX8 tyX8_ok nmX8 (fun _ h => List.mem_cons_of_mem _ (List.mem_append_right _ (h))) rfl rfl (by decide) (List.mem_cons_of_mem _ (List.mem_append_left _ (List.mem_of_getElem? (i := 3) rfl))) rfl rfl rfl rfl (Nat.le_of_ble_eq_true rfl) (tw_M_si30 cI cZ q (twI (twA y5 10 (y5.1 29) (y5.1 0)) 29 (((twA y5 10 (y5.1 29) (y5.1 0)).1 29) + 1)) (((twI (twA y5 10 (y5.1 29) (y5.1 0)) 29 (((twA y5 10 (y5.1 29) (y5.1 0)).1 29) + 1)).1 30) + 0)) dX8_charts_96 ?_
          refine tw_goto (tgt := 0) C dX8_charts_99 (by decide) ?_
          exact hrec (twI (twI (twA y5 10 (y5.1 29) (y5.1 0)) 29 (((twA y5 10 (y5.1 29) (y5.1 0)).1 29) + 1)) 30 (((twI (twA y5 10 (y5.1 29) (y5.1 0)) 29 (((twA y5 10 (y5.1 29) (y5.1 0)).1 29) + 1)).1 30) + 0)) hf
        · have hf := tw_neg hf c7
          refine tw_aload_n C dX8_charts_82 0 rfl rfl ?_
          refine tw_get (K := RX8) (T := TX8) (N := 37) (v := .ref (q 9)) C 0 27 (fun _ h => List.mem_cons_of_mem _ (List.mem_append_right _ (h))) rfl rfl (by decide) (List.mem_cons_of_mem _ (List.mem_append_left _ (List.mem_of_getElem? (i := 7) rfl))) rfl rfl dX8_charts_83 ?_
          refine tw_aload_n C dX8_charts_86 0 rfl rfl ?_
          refine tw_get (K := RX8) (T := TX8) (N := 37) (v := .int ((twI (twA y5 10 (y5.1 29) (y5.1 0)) 29 (((twA y5 10 (y5.1 29) (y5.1 0)).1 29) + 1)).1 29)) C 0 29 (fun _ h => List.mem_cons_of_mem _ (List.mem_append_right _ (h))) rfl rfl (by decide) (List.mem_cons_of_mem _ (List.mem_append_left _ (List.mem_of_getElem? (i := 1) rfl))) rfl rfl dX8_charts_87 ?_
          obtain ⟨hb8, hf⟩ := tw_ck hf
          refine tw_iald C 9 0 hb8 rfl rfl dX8_charts_90 ?_
          refine tw_goto (tgt := 95) C dX8_charts_91 (by decide) ?_
          refine tw_iadd C dX8_charts_95 ?_
          refine tw_put (K := RX8) (T := TX8) (N := 37) C 0 30 tyX8 tyX8_ok nmX8 (fun _ h => List.mem_cons_of_mem _ (List.mem_append_right _ (h))) rfl rfl (by decide) (List.mem_cons_of_mem _ (List.mem_append_left _ (List.mem_of_getElem? (i := 3) rfl))) rfl rfl rfl rfl (Nat.le_of_ble_eq_true rfl) (tw_M_si30 cI cZ q (twI (twA y5 10 (y5.1 29) (y5.1 0)) 29 (((twA y5 10 (y5.1 29) (y5.1 0)).1 29) + 1)) (((twI (twA y5 10 (y5.1 29) (y5.1 0)) 29 (((twA y5 10 (y5.1 29) (y5.1 0)).1 29) + 1)).1 30) + ((twI (twA y5 10 (y5.1 29) (y5.1 0)) 29 (((twA y5 10 (y5.1 29) (y5.1 0)).1 29) + 1)).2.1 9 ((twI (twA y5 10 (y5.1 29) (y5.1 0)) 29 (((twA y5 10 (y5.1 29) (y5.1 0)).1 29) + 1)).1 29).toNatClampNeg))) dX8_charts_96 ?_
          refine tw_goto (tgt := 0) C dX8_charts_99 (by decide) ?_
          exact hrec (twI (twI (twA y5 10 (y5.1 29) (y5.1 0)) 29 (((twA y5 10 (y5.1 29) (y5.1 0)).1 29) + 1)) 30 (((twI (twA y5 10 (y5.1 29) (y5.1 0)) 29 (((twA y5 10 (y5.1 29) (y5.1 0)).1 29) + 1)).1 30) + ((twI (twA y5 10 (y5.1 29) (y5.1 0)) 29 (((twA y5 10 (y5.1 29) (y5.1 0)).1 29) + 1)).2.1 9 ((twI (twA y5 10 (y5.1 29) (y5.1 0)) 29 (((twA y5 10 (y5.1 29) (y5.1 0)).1 29) + 1)).1 29).toNatClampNeg))) hf
theorem m_X8_charts_L0 (C : twC p s m args meth c cX8_charts 1 RX8 wsX8_charts (dC, dI) (twY cI cZ) A) (hE : twEv p l e rm_X8_charts s m args below meth c 0 0 Q (dC, dI) A 1 cX8_charts (twM cI cZ q res)) : ∀ (n : Nat) (st : twS), f_X8_charts_L0 n st = some res → twG p l e rm_X8_charts s m args below meth c 0 0 Q (dC, dI) A 1 (twM cI cZ q st) 0 [(0, .ref (q 0))] [] := by
  intro n
  induction n with
  | zero =>
    intro st hf
    have hf : none = some res := hf
    cases hf
  | succ n ih =>
    intro st hf
    exact m_X8_charts_L0b C hE ih st hf
set_option maxRecDepth 20000 in
theorem c_X8_charts (l : Launch) (dC : Nat → ClassId) (dI : Nat → Nat → Nat) (cI cZ : ClassId) (q : Nat → Nat) {st : twS} {res : twS} (hf : f_X8_charts st = some res) : twMv l yX8_charts wsX8_charts rm_X8_charts (dC, dI) (twY cI cZ) [.ref (q 0)] (twM cI cZ q st) (twM cI cZ q res) := by
  refine tw_entv (cc := cX8_charts) (maxL := 1) (own := RX8) (by decide) rfl (Nat.le_of_ble_eq_true rfl) rfl ⟨rfl, rfl⟩ ?_
  intro p e s m below meth c A Q C hE
  generalize ([.ref (q 0)] : List Value).toArray = args at C hE ⊢
  refine tw_sub (lv' := [(0, .ref (q 0))]) [0] rfl ?_
  unfold f_X8_charts at hf
  exact m_X8_charts_L0 C hE twN st hf
end
/-! X8_aim: private int aim(int) -/
abbrev rm_X8_aim : Room := { frames := 1, cells := 0, slots := 0, locals := 21 }
def f_X8_aim_L91 (rec : Int32 → Int32 → Int32 → Int32 → Int32 → twS → Option (Int32 × twS)) (v1 : Int32) (v5 : Int32) (v6 : Int32) (st : twS) : Option (Int32 × twS) :=
  rec v1 v5 v6 1 (v5 + 1) st
def f_X8_aim_L60 (rec : Int32 → Int32 → Int32 → Int32 → Int32 → twS → Option (Int32 × twS)) (v1 : Int32) (v2 : Int32) (v3 : Int32) (v4 : Int32) (v5 : Int32) (k0 : Int32) (st : twS) : Option (Int32 × twS) :=
  ((f_X8_isIn st v5 (st.1 7)).bind fun y60001 => (if y60001.1 = 0 then
    rec v1 v2 v3 v4 (v5 + 1) y60001.2
  else
    (if k0 < v3 then
    f_X8_aim_L91 rec v1 v5 k0 y60001.2
  else
    (if k0 = v3 then
    (if v4 = 0 then
    f_X8_aim_L91 rec v1 v5 k0 y60001.2
  else
    rec v1 v2 v3 v4 (v5 + 1) y60001.2)
  else
    rec v1 v2 v3 v4 (v5 + 1) y60001.2))))
def f_X8_aim_L36b (rec : Int32 → Int32 → Int32 → Int32 → Int32 → twS → Option (Int32 × twS)) (v1 : Int32) (v2 : Int32) (v3 : Int32) (v4 : Int32) (v5 : Int32) (st : twS) : Option (Int32 × twS) :=
  (if 12 ≤ v5 then
    some (v2, st)
  else
    (if v1 ≤ v5 then
    f_X8_aim_L60 rec v1 v2 v3 v4 v5 (v5 - v1) st
  else
    f_X8_aim_L60 rec v1 v2 v3 v4 v5 (v1 - v5) st))
def f_X8_aim_L36 : Nat → Int32 → Int32 → Int32 → Int32 → Int32 → twS → Option (Int32 × twS)
  | 0 => fun _ _ _ _ _ _ => none
  | n + 1 => fun v1 v2 v3 v4 v5 st => f_X8_aim_L36b (f_X8_aim_L36 n) v1 v2 v3 v4 v5 st
def f_X8_aim_L29 (v1 : Int32) (v2 : Int32) (k0 : Int32) (st : twS) : Option (Int32 × twS) :=
  f_X8_aim_L36 twN v1 v2 k0 0 0 st
def f_X8_aim_L12 (v1 : Int32) (k0 : Int32) (st : twS) : Option (Int32 × twS) :=
  (if 6 ≤ v1 then
    f_X8_aim_L29 v1 k0 (12 - v1) st
  else
    f_X8_aim_L29 v1 k0 (v1 + 1) st)
def f_X8_aim (st : twS) (v1 : Int32) : Option (Int32 × twS) :=
  (if 6 ≤ v1 then
    f_X8_aim_L12 v1 12 st
  else
    f_X8_aim_L12 v1 (-1) st)
section
variable {p : Program} {l : Launch} {e : Env} {s : State} {m : MethodId} {args : Array Value} {below : List Frame} {meth : Method} {c : Code} {Q : State → Prop} {dC : Nat → ClassId} {dI : Nat → Nat → Nat} {cI cZ : ClassId} {q : Nat → Nat} {A : Nat → Prop} {res : Int32 × twS}
set_option maxRecDepth 20000 in
theorem m_X8_aim_L91 (C : twC p s m args meth c cX8_aim 7 RX8 wsX8_aim (dC, dI) (twY cI cZ) A) (hE : twEi p l e rm_X8_aim s m args below meth c 0 0 Q (dC, dI) A 7 cX8_aim .int res.1 (twM cI cZ q res.2)) {rec : Int32 → Int32 → Int32 → Int32 → Int32 → twS → Option (Int32 × twS)} (hrec : ∀ (v1 : Int32) (v2 : Int32) (v3 : Int32) (v4 : Int32) (v5 : Int32) (st : twS), rec v1 v2 v3 v4 v5 st = some res → twG p l e rm_X8_aim s m args below meth c 0 0 Q (dC, dI) A 7 (twM cI cZ q st) 36 [(0, .ref (q 0)), (1, .int v1), (2, .int v2), (3, .int v3), (4, .int v4), (5, .int v5)] []) : ∀ (v1 : Int32) (v5 : Int32) (v6 : Int32) (st : twS), f_X8_aim_L91 rec v1 v5 v6 st = some res → twG p l e rm_X8_aim s m args below meth c 0 0 Q (dC, dI) A 7 (twM cI cZ q st) 91 [(0, .ref (q 0)), (1, .int v1), (5, .int v5), (6, .int v6)] [] := by
  intro v1 v5 v6 st hf
  unfold f_X8_aim_L91 at hf
  refine tw_iload C dX8_aim_91 2 rfl ?_
  refine tw_istore_n (lv' := [(2, .int v5), (0, .ref (q 0)), (1, .int v1), (5, .int v5), (6, .int v6)]) C dX8_aim_93 rfl (by decide) rfl ?_
  refine tw_iload C dX8_aim_94 4 rfl ?_
  refine tw_istore_n (lv' := [(3, .int v6), (2, .int v5), (0, .ref (q 0)), (1, .int v1), (5, .int v5), (6, .int v6)]) C dX8_aim_96 rfl (by decide) rfl ?_
  refine tw_iconst (v := 1) C dX8_aim_97 (by decide) ?_
  refine tw_istore (lv' := [(4, .int 1), (3, .int v6), (2, .int v5), (0, .ref (q 0)), (1, .int v1), (5, .int v5), (6, .int v6)]) C dX8_aim_98 (by decide) rfl ?_
  refine tw_iinc (v := (v5 + 1)) (lv' := [(5, .int (v5 + 1)), (4, .int 1), (3, .int v6), (2, .int v5), (0, .ref (q 0)), (1, .int v1), (6, .int v6)]) C dX8_aim_100 (k := 5) rfl rfl (by decide) rfl ?_
  refine tw_goto (tgt := 36) C dX8_aim_103 (by decide) ?_
  refine tw_sub [4, 5, 3, 2, 1, 0] rfl ?_
  exact hrec v1 v5 v6 1 (v5 + 1) st hf
set_option maxRecDepth 20000 in
theorem m_X8_aim_L60 (C : twC p s m args meth c cX8_aim 7 RX8 wsX8_aim (dC, dI) (twY cI cZ) A) (hE : twEi p l e rm_X8_aim s m args below meth c 0 0 Q (dC, dI) A 7 cX8_aim .int res.1 (twM cI cZ q res.2)) {rec : Int32 → Int32 → Int32 → Int32 → Int32 → twS → Option (Int32 × twS)} (hrec : ∀ (v1 : Int32) (v2 : Int32) (v3 : Int32) (v4 : Int32) (v5 : Int32) (st : twS), rec v1 v2 v3 v4 v5 st = some res → twG p l e rm_X8_aim s m args below meth c 0 0 Q (dC, dI) A 7 (twM cI cZ q st) 36 [(0, .ref (q 0)), (1, .int v1), (2, .int v2), (3, .int v3), (4, .int v4), (5, .int v5)] []) : ∀ (v1 : Int32) (v2 : Int32) (v3 : Int32) (v4 : Int32) (v5 : Int32) (k0 : Int32) (st : twS), f_X8_aim_L60 rec v1 v2 v3 v4 v5 k0 st = some res → twG p l e rm_X8_aim s m args below meth c 0 0 Q (dC, dI) A 7 (twM cI cZ q st) 60 [(0, .ref (q 0)), (1, .int v1), (2, .int v2), (3, .int v3), (4, .int v4), (5, .int v5)] [.int k0] := by
  intro v1 v2 v3 v4 v5 k0 st hf
  unfold f_X8_aim_L60 at hf
  refine tw_istore (lv' := [(6, .int k0), (0, .ref (q 0)), (1, .int v1), (2, .int v2), (3, .int v3), (4, .int v4), (5, .int v5)]) C dX8_aim_60 (by decide) rfl ?_
  refine tw_iload C dX8_aim_62 6 rfl ?_
  refine tw_aload_n C dX8_aim_64 1 rfl rfl ?_
  refine tw_get (K := RX8) (T := TX8) (N := 37) (v := .int (st.1 7)) C 0 7 (fun _ h => List.mem_cons_of_mem _ (List.mem_append_right _ (h))) rfl rfl (by decide) (List.mem_cons_of_mem _ (List.mem_append_left _ (List.mem_of_getElem? (i := 0) rfl))) rfl rfl dX8_aim_65 ?_
  obtain ⟨y60001, hc60001, hf⟩ := tw_bd hf
  refine tw_cSi (As := [.int v5, .int (st.1 7)]) (stk := []) C (c_X8_isIn l dC dI cI cZ q hc60001) (va_cwS 2 C.hts gX8_aim_X8_isIn rfl rfl rfl hd_X8_isIn ⟨Nat.le_of_ble_eq_true rfl, Nat.le_of_ble_eq_true rfl⟩) rfl rfl (Nat.le_of_ble_eq_true rfl) dX8_aim_68 ⟨Nat.zero_le _, Nat.zero_le _⟩ ?_
  refine tw_if_eq (tgt := 100) C dX8_aim_71 (by decide) (fun c60002 => ?_) (fun c60002 => ?_)
  · have hf := tw_pos hf c60002
    refine tw_iinc (v := (v5 + 1)) (lv' := [(5, .int (v5 + 1)), (6, .int k0), (0, .ref (q 0)), (1, .int v1), (2, .int v2), (3, .int v3), (4, .int v4)]) C dX8_aim_100 (k := 6) rfl rfl (by decide) rfl ?_
    refine tw_goto (tgt := 36) C dX8_aim_103 (by decide) ?_
    refine tw_sub [2, 3, 4, 5, 6, 0] rfl ?_
    exact hrec v1 v2 v3 v4 (v5 + 1) y60001.2 hf
  · have hf := tw_neg hf c60002
    refine tw_iload C dX8_aim_74 0 rfl ?_
    refine tw_iload_n C dX8_aim_76 4 rfl rfl ?_
    refine tw_icmp_lt (tgt := 91) C dX8_aim_77 (by decide) (fun c60003 => ?_) (fun c60003 => ?_)
    · have hf := tw_pos hf c60003
      refine tw_sub [1, 2, 6, 0] rfl ?_
      exact m_X8_aim_L91 C hE hrec v1 v5 k0 y60001.2 hf
    · have hf := tw_neg hf c60003
      refine tw_iload C dX8_aim_80 0 rfl ?_
      refine tw_iload_n C dX8_aim_82 4 rfl rfl ?_
      refine tw_icmp_ne (tgt := 100) C dX8_aim_83 (by decide) (fun c60004 => ?_) (fun c60004 => ?_)
      · have hf := tw_neg hf c60004
        refine tw_iinc (v := (v5 + 1)) (lv' := [(5, .int (v5 + 1)), (6, .int k0), (0, .ref (q 0)), (1, .int v1), (2, .int v2), (3, .int v3), (4, .int v4)]) C dX8_aim_100 (k := 6) rfl rfl (by decide) rfl ?_
        refine tw_goto (tgt := 36) C dX8_aim_103 (by decide) ?_
        refine tw_sub [2, 3, 4, 5, 6, 0] rfl ?_
        exact hrec v1 v2 v3 v4 (v5 + 1) y60001.2 hf
      · have hf := tw_pos hf c60004
        refine tw_iload C dX8_aim_86 5 rfl ?_
        refine tw_if_ne (tgt := 100) C dX8_aim_88 (by decide) (fun c60005 => ?_) (fun c60005 => ?_)
        · have hf := tw_neg hf c60005
          refine tw_iinc (v := (v5 + 1)) (lv' := [(5, .int (v5 + 1)), (6, .int k0), (0, .ref (q 0)), (1, .int v1), (2, .int v2), (3, .int v3), (4, .int v4)]) C dX8_aim_100 (k := 6) rfl rfl (by decide) rfl ?_
          refine tw_goto (tgt := 36) C dX8_aim_103 (by decide) ?_
          refine tw_sub [2, 3, 4, 5, 6, 0] rfl ?_
          exact hrec v1 v2 v3 v4 (v5 + 1) y60001.2 hf
        · have hf := tw_pos hf c60005
          refine tw_sub [1, 2, 6, 0] rfl ?_
          exact m_X8_aim_L91 C hE hrec v1 v5 k0 y60001.2 hf
set_option maxRecDepth 20000 in
theorem m_X8_aim_L36b (C : twC p s m args meth c cX8_aim 7 RX8 wsX8_aim (dC, dI) (twY cI cZ) A) (hE : twEi p l e rm_X8_aim s m args below meth c 0 0 Q (dC, dI) A 7 cX8_aim .int res.1 (twM cI cZ q res.2)) {rec : Int32 → Int32 → Int32 → Int32 → Int32 → twS → Option (Int32 × twS)} (hrec : ∀ (v1 : Int32) (v2 : Int32) (v3 : Int32) (v4 : Int32) (v5 : Int32) (st : twS), rec v1 v2 v3 v4 v5 st = some res → twG p l e rm_X8_aim s m args below meth c 0 0 Q (dC, dI) A 7 (twM cI cZ q st) 36 [(0, .ref (q 0)), (1, .int v1), (2, .int v2), (3, .int v3), (4, .int v4), (5, .int v5)] []) : ∀ (v1 : Int32) (v2 : Int32) (v3 : Int32) (v4 : Int32) (v5 : Int32) (st : twS), f_X8_aim_L36b rec v1 v2 v3 v4 v5 st = some res → twG p l e rm_X8_aim s m args below meth c 0 0 Q (dC, dI) A 7 (twM cI cZ q st) 36 [(0, .ref (q 0)), (1, .int v1), (2, .int v2), (3, .int v3), (4, .int v4), (5, .int v5)] [] := by
  intro v1 v2 v3 v4 v5 st hf
  unfold f_X8_aim_L36b at hf
  refine tw_iload C dX8_aim_36 5 rfl ?_
  refine tw_bipush (v := 12) C dX8_aim_38 (by decide) ?_
  refine tw_icmp_ge (tgt := 106) C dX8_aim_40 (by decide) (fun c36001 => ?_) (fun c36001 => ?_)
  · have hf := tw_pos hf c36001
    refine tw_iload_n C dX8_aim_106 2 rfl rfl ?_
    exact tw_endi (Wf := twM cI cZ q) hE hf dX8_aim_107 rfl
  · have hf := tw_neg hf c36001
    refine tw_iload C dX8_aim_43 5 rfl ?_
    refine tw_iload_n C dX8_aim_45 1 rfl rfl ?_
    refine tw_icmp_ge (tgt := 56) C dX8_aim_46 (by decide) (fun c36002 => ?_) (fun c36002 => ?_)
    · have hf := tw_pos hf c36002
      refine tw_iload C dX8_aim_56 5 rfl ?_
      refine tw_iload_n C dX8_aim_58 1 rfl rfl ?_
      refine tw_isub C dX8_aim_59 ?_
      exact m_X8_aim_L60 C hE hrec v1 v2 v3 v4 v5 (v5 - v1) st hf
    · have hf := tw_neg hf c36002
      refine tw_iload_n C dX8_aim_49 1 rfl rfl ?_
      refine tw_iload C dX8_aim_50 5 rfl ?_
      refine tw_isub C dX8_aim_52 ?_
      refine tw_goto (tgt := 60) C dX8_aim_53 (by decide) ?_
      exact m_X8_aim_L60 C hE hrec v1 v2 v3 v4 v5 (v1 - v5) st hf
theorem m_X8_aim_L36 (C : twC p s m args meth c cX8_aim 7 RX8 wsX8_aim (dC, dI) (twY cI cZ) A) (hE : twEi p l e rm_X8_aim s m args below meth c 0 0 Q (dC, dI) A 7 cX8_aim .int res.1 (twM cI cZ q res.2)) : ∀ (n : Nat) (v1 : Int32) (v2 : Int32) (v3 : Int32) (v4 : Int32) (v5 : Int32) (st : twS), f_X8_aim_L36 n v1 v2 v3 v4 v5 st = some res → twG p l e rm_X8_aim s m args below meth c 0 0 Q (dC, dI) A 7 (twM cI cZ q st) 36 [(0, .ref (q 0)), (1, .int v1), (2, .int v2), (3, .int v3), (4, .int v4), (5, .int v5)] [] := by
  intro n
  induction n with
  | zero =>
    intro v1 v2 v3 v4 v5 st hf
    have hf : none = some res := hf
    cases hf
  | succ n ih =>
    intro v1 v2 v3 v4 v5 st hf
    exact m_X8_aim_L36b C hE ih v1 v2 v3 v4 v5 st hf
set_option maxRecDepth 20000 in
theorem m_X8_aim_L29 (C : twC p s m args meth c cX8_aim 7 RX8 wsX8_aim (dC, dI) (twY cI cZ) A) (hE : twEi p l e rm_X8_aim s m args below meth c 0 0 Q (dC, dI) A 7 cX8_aim .int res.1 (twM cI cZ q res.2)) : ∀ (v1 : Int32) (v2 : Int32) (k0 : Int32) (st : twS), f_X8_aim_L29 v1 v2 k0 st = some res → twG p l e rm_X8_aim s m args below meth c 0 0 Q (dC, dI) A 7 (twM cI cZ q st) 29 [(0, .ref (q 0)), (1, .int v1), (2, .int v2)] [.int k0] := by
  intro v1 v2 k0 st hf
  unfold f_X8_aim_L29 at hf
  refine tw_istore_n (lv' := [(3, .int k0), (0, .ref (q 0)), (1, .int v1), (2, .int v2)]) C dX8_aim_29 rfl (by decide) rfl ?_
  refine tw_iconst (v := 0) C dX8_aim_30 (by decide) ?_
  refine tw_istore (lv' := [(4, .int 0), (3, .int k0), (0, .ref (q 0)), (1, .int v1), (2, .int v2)]) C dX8_aim_31 (by decide) rfl ?_
  refine tw_iconst (v := 0) C dX8_aim_33 (by decide) ?_
  refine tw_istore (lv' := [(5, .int 0), (4, .int 0), (3, .int k0), (0, .ref (q 0)), (1, .int v1), (2, .int v2)]) C dX8_aim_34 (by decide) rfl ?_
  refine tw_sub [3, 4, 5, 2, 1, 0] rfl ?_
  exact m_X8_aim_L36 C hE twN v1 v2 k0 0 0 st hf
set_option maxRecDepth 20000 in
theorem m_X8_aim_L12 (C : twC p s m args meth c cX8_aim 7 RX8 wsX8_aim (dC, dI) (twY cI cZ) A) (hE : twEi p l e rm_X8_aim s m args below meth c 0 0 Q (dC, dI) A 7 cX8_aim .int res.1 (twM cI cZ q res.2)) : ∀ (v1 : Int32) (k0 : Int32) (st : twS), f_X8_aim_L12 v1 k0 st = some res → twG p l e rm_X8_aim s m args below meth c 0 0 Q (dC, dI) A 7 (twM cI cZ q st) 12 [(0, .ref (q 0)), (1, .int v1)] [.int k0] := by
  intro v1 k0 st hf
  unfold f_X8_aim_L12 at hf
  refine tw_istore_n (lv' := [(2, .int k0), (0, .ref (q 0)), (1, .int v1)]) C dX8_aim_12 rfl (by decide) rfl ?_
  refine tw_iload_n C dX8_aim_13 2 rfl rfl ?_
  refine tw_bipush (v := 6) C dX8_aim_14 (by decide) ?_
  refine tw_icmp_ge (tgt := 25) C dX8_aim_16 (by decide) (fun c12001 => ?_) (fun c12001 => ?_)
  · have hf := tw_pos hf c12001
    refine tw_bipush (v := 12) C dX8_aim_25 (by decide) ?_
    refine tw_iload_n C dX8_aim_27 2 rfl rfl ?_
    refine tw_isub C dX8_aim_28 ?_
    refine tw_sub [1, 2, 0] rfl ?_
    exact m_X8_aim_L29 C hE v1 k0 (12 - v1) st hf
  · have hf := tw_neg hf c12001
    refine tw_iload_n C dX8_aim_19 2 rfl rfl ?_
    refine tw_iconst (v := 1) C dX8_aim_20 (by decide) ?_
    refine tw_iadd C dX8_aim_21 ?_
    refine tw_goto (tgt := 29) C dX8_aim_22 (by decide) ?_
    refine tw_sub [1, 2, 0] rfl ?_
    exact m_X8_aim_L29 C hE v1 k0 (v1 + 1) st hf
set_option maxRecDepth 20000 in
theorem c_X8_aim (l : Launch) (dC : Nat → ClassId) (dI : Nat → Nat → Nat) (cI cZ : ClassId) (q : Nat → Nat) {st : twS} {v1 : Int32} {res : Int32 × twS} (hf : f_X8_aim st v1 = some res) : twMi l yX8_aim wsX8_aim rm_X8_aim (dC, dI) (twY cI cZ) [.ref (q 0), .int v1] (twM cI cZ q st) res.1 (twM cI cZ q res.2) := by
  refine tw_enti (cc := cX8_aim) (maxL := 7) (own := RX8) (by decide) rfl (Nat.le_of_ble_eq_true rfl) rfl ⟨rfl, rfl⟩ ?_
  intro p e s m below meth c A Q C hE
  generalize ([.ref (q 0), .int v1] : List Value).toArray = args at C hE ⊢
  refine tw_sub (lv' := [(0, .ref (q 0)), (1, .int v1)]) [0, 1] rfl ?_
  unfold f_X8_aim at hf
  refine tw_iload_n C dX8_aim_0 1 rfl rfl ?_
  refine tw_bipush (v := 6) C dX8_aim_1 (by decide) ?_
  refine tw_icmp_ge (tgt := 10) C dX8_aim_3 (by decide) (fun c1 => ?_) (fun c1 => ?_)
  · have hf := tw_pos hf c1
    refine tw_bipush (v := 12) C dX8_aim_10 (by decide) ?_
    exact m_X8_aim_L12 C hE v1 12 st hf
  · have hf := tw_neg hf c1
    refine tw_iconst (v := (-1)) C dX8_aim_6 (by decide) ?_
    refine tw_goto (tgt := 12) C dX8_aim_7 (by decide) ?_
    exact m_X8_aim_L12 C hE v1 (-1) st hf
end
/-! X8_ends: private void ends(int, int) -/
abbrev rm_X8_ends : Room := { frames := 0, cells := 0, slots := 0, locals := 0 }
def f_X8_ends (st : twS) (v1 : Int32) (v2 : Int32) : Option (twS) :=
  (if twb v1 30 = true then (if twb v1 30 = true then some (twA (twA st 11 v1 v2) 14 v1 ((twA st 11 v1 v2).1 0)) else none) else none)
section
variable {p : Program} {l : Launch} {e : Env} {s : State} {m : MethodId} {args : Array Value} {below : List Frame} {meth : Method} {c : Code} {Q : State → Prop} {dC : Nat → ClassId} {dI : Nat → Nat → Nat} {cI cZ : ClassId} {q : Nat → Nat} {A : Nat → Prop} {res : twS}
set_option maxRecDepth 20000 in
theorem c_X8_ends (l : Launch) (dC : Nat → ClassId) (dI : Nat → Nat → Nat) (cI cZ : ClassId) (q : Nat → Nat) {st : twS} {v1 : Int32} {v2 : Int32} {res : twS} (hf : f_X8_ends st v1 v2 = some res) : twMv l yX8_ends wsX8_ends rm_X8_ends (dC, dI) (twY cI cZ) [.ref (q 0), .int v1, .int v2] (twM cI cZ q st) (twM cI cZ q res) := by
  refine tw_entv (cc := cX8_ends) (maxL := 3) (own := RX8) (by decide) rfl (Nat.le_of_ble_eq_true rfl) rfl ⟨rfl, rfl⟩ ?_
  intro p e s m below meth c A Q C hE
  generalize ([.ref (q 0), .int v1, .int v2] : List Value).toArray = args at C hE ⊢
  refine tw_sub (lv' := [(0, .ref (q 0)), (1, .int v1), (2, .int v2)]) [0, 1, 2] rfl ?_
  unfold f_X8_ends at hf
  refine tw_aload_n C dX8_ends_0 0 rfl rfl ?_
  refine tw_get (K := RX8) (T := TX8) (N := 37) (v := .ref (q 11)) C 0 32 (fun _ h => List.mem_cons_of_mem _ (List.mem_append_right _ (h))) rfl rfl (by decide) (List.mem_cons_of_mem _ (List.mem_append_left _ (List.mem_of_getElem? (i := 0) rfl))) rfl rfl dX8_ends_1 ?_
  refine tw_iload_n C dX8_ends_4 1 rfl rfl ?_
  refine tw_iload_n C dX8_ends_5 2 rfl rfl ?_
  obtain ⟨hb1, hf⟩ := tw_ck hf
  refine tw_iast C 11 0 hb1 rfl rfl (tw_M_a11 cI cZ q st v1 v2) dX8_ends_6 ?_
  refine tw_aload_n C dX8_ends_7 0 rfl rfl ?_
  refine tw_get (K := RX8) (T := TX8) (N := 37) (v := .ref (q 14)) C 0 35 (fun _ h => List.mem_cons_of_mem _ (List.mem_append_right _ (h))) rfl rfl (by decide) (List.mem_cons_of_mem _ (List.mem_append_left _ (List.mem_of_getElem? (i := 1) rfl))) rfl rfl dX8_ends_8 ?_
  refine tw_iload_n C dX8_ends_11 1 rfl rfl ?_
  refine tw_aload_n C dX8_ends_12 0 rfl rfl ?_
  refine tw_get (K := RX8) (T := TX8) (N := 37) (v := .int ((twA st 11 v1 v2).1 0)) C 0 0 (fun _ h => List.mem_cons_of_mem _ (List.mem_append_right _ (h))) rfl rfl (by decide) (List.mem_cons_of_mem _ (List.mem_append_left _ (List.mem_of_getElem? (i := 2) rfl))) rfl rfl dX8_ends_13 ?_
  obtain ⟨hb2, hf⟩ := tw_ck hf
  refine tw_iast C 14 0 hb2 rfl rfl (tw_M_a14 cI cZ q (twA st 11 v1 v2) v1 ((twA st 11 v1 v2).1 0)) dX8_ends_16 ?_
  exact tw_endv (Wf := twM cI cZ q) hE hf dX8_ends_17
end
/-! X8_walks: private void walks(int) -/
abbrev rm_X8_walks : Room := { frames := 2, cells := 0, slots := 0, locals := 47 }
def f_X8_walks_L64 (v1 : Int32) (st : twS) : Option (twS) :=
  ((f_X8_ends st v1 3).bind fun y64001 => some y64001)
def f_X8_walks_L49 (v1 : Int32) (v2 : Int32) (v3 : Int32) (k0 : Int32) (st : twS) : Option (twS) :=
  (if v3 = v2 then
    f_X8_walks_L64 v1 st
  else
    ((f_X8_isSegment st k0).bind fun y49002 => (if y49002.1 = 0 then
    f_X8_walks_L64 v1 y49002.2
  else
    (if twb v1 30 = true then some (twA y49002.2 12 v1 k0) else none))))
def f_X8_walks_L29 (v1 : Int32) (v2 : Int32) (st : twS) : Option (twS) :=
  ((f_X8_aim st v2).bind fun y29001 => (if v2 ≤ y29001.1 then
    f_X8_walks_L49 v1 v2 y29001.1 (v2 + 1) y29001.2
  else
    f_X8_walks_L49 v1 v2 y29001.1 (v2 - 1) y29001.2))
def f_X8_walks (st : twS) (v1 : Int32) : Option (twS) :=
  (if twb v1 30 = true then (if twb (st.2.1 12 v1.toNatClampNeg) 12 = true then (if (st.2.1 1 (st.2.1 12 v1.toNatClampNeg).toNatClampNeg) < 40 then
    f_X8_walks_L29 v1 (st.2.1 12 v1.toNatClampNeg) st
  else
    (if ((st.1 0) - (st.1 0) / 2 * 2) = 1 then
    some st
  else
    f_X8_walks_L29 v1 (st.2.1 12 v1.toNatClampNeg) st)) else none) else none)
section
variable {p : Program} {l : Launch} {e : Env} {s : State} {m : MethodId} {args : Array Value} {below : List Frame} {meth : Method} {c : Code} {Q : State → Prop} {dC : Nat → ClassId} {dI : Nat → Nat → Nat} {cI cZ : ClassId} {q : Nat → Nat} {A : Nat → Prop} {res : twS}
set_option maxRecDepth 20000 in
theorem m_X8_walks_L64 (C : twC p s m args meth c cX8_walks 5 RX8 wsX8_walks (dC, dI) (twY cI cZ) A) (hE : twEv p l e rm_X8_walks s m args below meth c 0 0 Q (dC, dI) A 5 cX8_walks (twM cI cZ q res)) : ∀ (v1 : Int32) (st : twS), f_X8_walks_L64 v1 st = some res → twG p l e rm_X8_walks s m args below meth c 0 0 Q (dC, dI) A 5 (twM cI cZ q st) 64 [(0, .ref (q 0)), (1, .int v1)] [] := by
  intro v1 st hf
  unfold f_X8_walks_L64 at hf
  refine tw_aload_n C dX8_walks_64 0 rfl rfl ?_
  refine tw_iload_n C dX8_walks_65 1 rfl rfl ?_
  refine tw_iconst (v := 3) C dX8_walks_66 (by decide) ?_
  obtain ⟨y64001, hc64001, hf⟩ := tw_bd hf
  refine tw_cVv (As := [.int v1, .int 3]) (stk := []) C (c_X8_ends l dC dI cI cZ q hc64001) (cwV 2 C.hts gX8_walks_X8_ends rfl rfl rfl hd_X8_ends ⟨Nat.le_of_ble_eq_true rfl, Nat.le_of_ble_eq_true rfl⟩) 0 (ci := 8) rfl rfl rfl rfl rfl (Nat.le_of_ble_eq_true rfl) dX8_walks_67 ⟨Nat.zero_le _, Nat.zero_le _⟩ ?_
  refine tw_goto (tgt := 81) C dX8_walks_70 (by decide) ?_
  exact tw_endv (Wf := twM cI cZ q) hE hf dX8_walks_81
set_option maxRecDepth 20000 in
theorem m_X8_walks_L49 (C : twC p s m args meth c cX8_walks 5 RX8 wsX8_walks (dC, dI) (twY cI cZ) A) (hE : twEv p l e rm_X8_walks s m args below meth c 0 0 Q (dC, dI) A 5 cX8_walks (twM cI cZ q res)) : ∀ (v1 : Int32) (v2 : Int32) (v3 : Int32) (k0 : Int32) (st : twS), f_X8_walks_L49 v1 v2 v3 k0 st = some res → twG p l e rm_X8_walks s m args below meth c 0 0 Q (dC, dI) A 5 (twM cI cZ q st) 49 [(0, .ref (q 0)), (1, .int v1), (2, .int v2), (3, .int v3)] [.int k0] := by
  intro v1 v2 v3 k0 st hf
  unfold f_X8_walks_L49 at hf
  refine tw_istore (lv' := [(4, .int k0), (0, .ref (q 0)), (1, .int v1), (2, .int v2), (3, .int v3)]) C dX8_walks_49 (by decide) rfl ?_
  refine tw_iload_n C dX8_walks_51 4 rfl rfl ?_
  refine tw_iload_n C dX8_walks_52 3 rfl rfl ?_
  refine tw_icmp_eq (tgt := 64) C dX8_walks_53 (by decide) (fun c49001 => ?_) (fun c49001 => ?_)
  · have hf := tw_pos hf c49001
    refine tw_sub [1, 2] rfl ?_
    exact m_X8_walks_L64 C hE v1 st hf
  · have hf := tw_neg hf c49001
    refine tw_iload C dX8_walks_56 0 rfl ?_
    obtain ⟨y49002, hc49002, hf⟩ := tw_bd hf
    refine tw_cSi (As := [.int k0]) (stk := []) C (c_X8_isSegment l dC dI cI cZ q hc49002) (va_cwS 1 C.hts gX8_walks_X8_isSegment rfl rfl rfl hd_X8_isSegment ⟨Nat.le_of_ble_eq_true rfl, Nat.le_of_ble_eq_true rfl⟩) rfl rfl (Nat.le_of_ble_eq_true rfl) dX8_walks_58 ⟨Nat.zero_le _, Nat.zero_le _⟩ ?_
    refine tw_if_ne (tgt := 73) C dX8_walks_61 (by decide) (fun c49003 => ?_) (fun c49003 => ?_)
    · have hf := tw_neg hf c49003
      refine tw_aload_n C dX8_walks_73 1 rfl rfl ?_
      refine tw_get (K := RX8) (T := TX8) (N := 37) (v := .ref (q 12)) C 0 33 (fun _ h => List.mem_cons_of_mem _ (List.mem_append_right _ (h))) rfl rfl (by decide) (List.mem_cons_of_mem _ (List.mem_append_left _ (List.mem_of_getElem? (i := 0) rfl))) rfl rfl dX8_walks_74 ?_
      refine tw_iload_n C dX8_walks_77 2 rfl rfl ?_
      refine tw_iload C dX8_walks_78 0 rfl ?_
      obtain ⟨hb49004, hf⟩ := tw_ck hf
      refine tw_iast C 12 0 hb49004 rfl rfl (tw_M_a12 cI cZ q y49002.2 v1 k0) dX8_walks_80 ?_
      exact tw_endv (Wf := twM cI cZ q) hE hf dX8_walks_81
    · have hf := tw_pos hf c49003
      refine tw_sub [1, 2] rfl ?_
      exact m_X8_walks_L64 C hE v1 y49002.2 hf
set_option maxRecDepth 20000 in
theorem m_X8_walks_L29 (C : twC p s m args meth c cX8_walks 5 RX8 wsX8_walks (dC, dI) (twY cI cZ) A) (hE : twEv p l e rm_X8_walks s m args below meth c 0 0 Q (dC, dI) A 5 cX8_walks (twM cI cZ q res)) : ∀ (v1 : Int32) (v2 : Int32) (st : twS), f_X8_walks_L29 v1 v2 st = some res → twG p l e rm_X8_walks s m args below meth c 0 0 Q (dC, dI) A 5 (twM cI cZ q st) 29 [(0, .ref (q 0)), (1, .int v1), (2, .int v2)] [] := by
  intro v1 v2 st hf
  unfold f_X8_walks_L29 at hf
  refine tw_aload_n C dX8_walks_29 0 rfl rfl ?_
  refine tw_iload_n C dX8_walks_30 2 rfl rfl ?_
  obtain ⟨y29001, hc29001, hf⟩ := tw_bd hf
  refine tw_cVi (As := [.int v2]) (stk := []) C (c_X8_aim l dC dI cI cZ q hc29001) (cwV 1 C.hts gX8_walks_X8_aim rfl rfl rfl hd_X8_aim ⟨Nat.le_of_ble_eq_true rfl, Nat.le_of_ble_eq_true rfl⟩) 0 (ci := 8) rfl rfl rfl rfl rfl (Nat.le_of_ble_eq_true rfl) dX8_walks_31 ⟨Nat.zero_le _, Nat.zero_le _⟩ ?_
  refine tw_istore_n (lv' := [(3, .int y29001.1), (0, .ref (q 0)), (1, .int v1), (2, .int v2)]) C dX8_walks_34 rfl (by decide) rfl ?_
  refine tw_iload_n C dX8_walks_35 0 rfl rfl ?_
  refine tw_iload_n C dX8_walks_36 3 rfl rfl ?_
  refine tw_icmp_ge (tgt := 46) C dX8_walks_37 (by decide) (fun c29002 => ?_) (fun c29002 => ?_)
  · have hf := tw_pos hf c29002
    refine tw_iload_n C dX8_walks_46 3 rfl rfl ?_
    refine tw_iconst (v := 1) C dX8_walks_47 (by decide) ?_
    refine tw_iadd C dX8_walks_48 ?_
    refine tw_sub [1, 2, 3, 0] rfl ?_
    exact m_X8_walks_L49 C hE v1 v2 y29001.1 (v2 + 1) y29001.2 hf
  · have hf := tw_neg hf c29002
    refine tw_iload_n C dX8_walks_40 3 rfl rfl ?_
    refine tw_iconst (v := 1) C dX8_walks_41 (by decide) ?_
    refine tw_isub C dX8_walks_42 ?_
    refine tw_goto (tgt := 49) C dX8_walks_43 (by decide) ?_
    refine tw_sub [1, 2, 3, 0] rfl ?_
    exact m_X8_walks_L49 C hE v1 v2 y29001.1 (v2 - 1) y29001.2 hf
set_option maxRecDepth 20000 in
theorem c_X8_walks (l : Launch) (dC : Nat → ClassId) (dI : Nat → Nat → Nat) (cI cZ : ClassId) (q : Nat → Nat) {st : twS} {v1 : Int32} {res : twS} (hf : f_X8_walks st v1 = some res) : twMv l yX8_walks wsX8_walks rm_X8_walks (dC, dI) (twY cI cZ) [.ref (q 0), .int v1] (twM cI cZ q st) (twM cI cZ q res) := by
  refine tw_entv (cc := cX8_walks) (maxL := 5) (own := RX8) (by decide) rfl (Nat.le_of_ble_eq_true rfl) rfl ⟨rfl, rfl⟩ ?_
  intro p e s m below meth c A Q C hE
  generalize ([.ref (q 0), .int v1] : List Value).toArray = args at C hE ⊢
  refine tw_sub (lv' := [(0, .ref (q 0)), (1, .int v1)]) [0, 1] rfl ?_
  unfold f_X8_walks at hf
  refine tw_aload_n C dX8_walks_0 0 rfl rfl ?_
  refine tw_get (K := RX8) (T := TX8) (N := 37) (v := .ref (q 12)) C 0 33 (fun _ h => List.mem_cons_of_mem _ (List.mem_append_right _ (h))) rfl rfl (by decide) (List.mem_cons_of_mem _ (List.mem_append_left _ (List.mem_of_getElem? (i := 0) rfl))) rfl rfl dX8_walks_1 ?_
  refine tw_iload_n C dX8_walks_4 1 rfl rfl ?_
  obtain ⟨hb1, hf⟩ := tw_ck hf
  refine tw_iald C 12 0 hb1 rfl rfl dX8_walks_5 ?_
  refine tw_istore_n (lv' := [(2, .int (st.2.1 12 v1.toNatClampNeg)), (0, .ref (q 0)), (1, .int v1)]) C dX8_walks_6 rfl (by decide) rfl ?_
  refine tw_aload_n C dX8_walks_7 1 rfl rfl ?_
  refine tw_get (K := RX8) (T := TX8) (N := 37) (v := .ref (q 1)) C 0 1 (fun _ h => List.mem_cons_of_mem _ (List.mem_append_right _ (h))) rfl rfl (by decide) (List.mem_cons_of_mem _ (List.mem_append_left _ (List.mem_of_getElem? (i := 1) rfl))) rfl rfl dX8_walks_8 ?_
  refine tw_iload_n C dX8_walks_11 0 rfl rfl ?_
  obtain ⟨hb2, hf⟩ := tw_ck hf
  refine tw_iald C 1 0 hb2 rfl rfl dX8_walks_12 ?_
  refine tw_bipush (v := 40) C dX8_walks_13 (by decide) ?_
  refine tw_icmp_lt (tgt := 29) C dX8_walks_15 (by decide) (fun c3 => ?_) (fun c3 => ?_)
  · have hf := tw_pos hf c3
    refine tw_sub [1, 2, 0] rfl ?_
    exact m_X8_walks_L29 C hE v1 (st.2.1 12 v1.toNatClampNeg) st hf
  · have hf := tw_neg hf c3
    refine tw_aload_n C dX8_walks_18 1 rfl rfl ?_
    refine tw_get (K := RX8) (T := TX8) (N := 37) (v := .int (st.1 0)) C 0 0 (fun _ h => List.mem_cons_of_mem _ (List.mem_append_right _ (h))) rfl rfl (by decide) (List.mem_cons_of_mem _ (List.mem_append_left _ (List.mem_of_getElem? (i := 2) rfl))) rfl rfl dX8_walks_19 ?_
    refine tw_iconst (v := 2) C dX8_walks_22 (by decide) ?_
    refine tw_irem C dX8_walks_23 (by decide) ?_
    refine tw_iconst (v := 1) C dX8_walks_24 (by decide) ?_
    refine tw_icmp_ne (tgt := 29) C dX8_walks_25 (by decide) (fun c4 => ?_) (fun c4 => ?_)
    · have hf := tw_neg hf c4
      refine tw_sub [1, 2, 0] rfl ?_
      exact m_X8_walks_L29 C hE v1 (st.2.1 12 v1.toNatClampNeg) st hf
    · have hf := tw_pos hf c4
      exact tw_endv (Wf := twM cI cZ q) hE hf dX8_walks_28
end
/-! X8_lives: private void lives(int) -/
abbrev rm_X8_lives : Room := { frames := 3, cells := 0, slots := 0, locals := 71 }
def f_X8_lives_L117 (v1 : Int32) (st : twS) : Option (twS) :=
  (if twb v1 30 = true then (if (st.2.1 11 v1.toNatClampNeg) = 2 then
    ((f_X8_walks st v1).bind fun y117003 => some y117003)
  else
    some st) else none)
def f_X8_lives_L116 (v1 : Int32) (k0 : Int32) (k1 : Int32) (st : twS) : Option (twS) :=
  (if twb k1 30 = true then f_X8_lives_L117 v1 (twA st 11 k1 k0) else none)
def f_X8_lives_L67 (v1 : Int32) (k0 : Int32) (k1 : Int32) (st : twS) : Option (twS) :=
  (if twb k1 30 = true then (if twb v1 30 = true then f_X8_lives_L117 v1 (twA (twA st 11 k1 k0) 13 v1 ((twA st 11 k1 k0).1 0)) else none) else none)
def f_X8_lives_L52 (v1 : Int32) (k0 : Int32) (st : twS) : Option (twS) :=
  (if k0 = 0 then
    f_X8_lives_L67 v1 0 v1 st
  else
    f_X8_lives_L67 v1 1 v1 st)
def f_X8_lives_L47 (v1 : Int32) (st : twS) : Option (twS) :=
  f_X8_lives_L52 v1 1 st
def f_X8_lives (st : twS) (v1 : Int32) : Option (twS) :=
  (if twb v1 30 = true then (if twb (st.2.1 12 v1.toNatClampNeg) 12 = true then (if (st.2.1 1 (st.2.1 12 v1.toNatClampNeg).toNatClampNeg) < 100 then
    (if twb v1 30 = true then (if (st.2.1 11 v1.toNatClampNeg) = 0 then
    (if (st.1 13) = 0 then
    (if (st.2.1 1 (st.2.1 12 v1.toNatClampNeg).toNatClampNeg) < 10 then
    f_X8_lives_L52 v1 0 st
  else
    f_X8_lives_L47 v1 st)
  else
    f_X8_lives_L47 v1 st)
  else
    (if twb v1 30 = true then (if (st.2.1 11 v1.toNatClampNeg) = 1 then
    (if twb v1 30 = true then (if (st.1 0) < ((st.2.1 13 v1.toNatClampNeg) + 3) then
    f_X8_lives_L116 v1 1 v1 st
  else
    f_X8_lives_L116 v1 2 v1 st) else none)
  else
    f_X8_lives_L117 v1 st) else none)) else none)
  else
    ((f_X8_ends st v1 4).bind fun y12 => some y12)) else none) else none)
section
variable {p : Program} {l : Launch} {e : Env} {s : State} {m : MethodId} {args : Array Value} {below : List Frame} {meth : Method} {c : Code} {Q : State → Prop} {dC : Nat → ClassId} {dI : Nat → Nat → Nat} {cI cZ : ClassId} {q : Nat → Nat} {A : Nat → Prop} {res : twS}
set_option maxRecDepth 20000 in
theorem m_X8_lives_L117 (C : twC p s m args meth c cX8_lives 4 RX8 wsX8_lives (dC, dI) (twY cI cZ) A) (hE : twEv p l e rm_X8_lives s m args below meth c 0 0 Q (dC, dI) A 4 cX8_lives (twM cI cZ q res)) : ∀ (v1 : Int32) (st : twS), f_X8_lives_L117 v1 st = some res → twG p l e rm_X8_lives s m args below meth c 0 0 Q (dC, dI) A 4 (twM cI cZ q st) 117 [(0, .ref (q 0)), (1, .int v1)] [] := by
  intro v1 st hf
  unfold f_X8_lives_L117 at hf
  refine tw_aload_n C dX8_lives_117 0 rfl rfl ?_
  refine tw_get (K := RX8) (T := TX8) (N := 37) (v := .ref (q 11)) C 0 32 (fun _ h => List.mem_cons_of_mem _ (List.mem_append_right _ (h))) rfl rfl (by decide) (List.mem_cons_of_mem _ (List.mem_append_left _ (List.mem_append_left _ (List.mem_of_getElem? (i := 2) rfl)))) rfl rfl dX8_lives_118 ?_
  refine tw_iload_n C dX8_lives_121 1 rfl rfl ?_
  obtain ⟨hb117001, hf⟩ := tw_ck hf
  refine tw_iald C 11 0 hb117001 rfl rfl dX8_lives_122 ?_
  refine tw_iconst (v := 2) C dX8_lives_123 (by decide) ?_
  refine tw_icmp_ne (tgt := 132) C dX8_lives_124 (by decide) (fun c117002 => ?_) (fun c117002 => ?_)
  · have hf := tw_neg hf c117002
    exact tw_endv (Wf := twM cI cZ q) hE hf dX8_lives_132
  · have hf := tw_pos hf c117002
    refine tw_aload_n C dX8_lives_127 0 rfl rfl ?_
    refine tw_iload_n C dX8_lives_128 1 rfl rfl ?_
    obtain ⟨y117003, hc117003, hf⟩ := tw_bd hf
    refine tw_cVv (As := [.int v1]) (stk := []) C (c_X8_walks l dC dI cI cZ q hc117003) (cwV 1 C.hts gX8_lives_X8_walks rfl rfl rfl hd_X8_walks ⟨Nat.le_of_ble_eq_true rfl, Nat.le_of_ble_eq_true rfl⟩) 0 (ci := 8) rfl rfl rfl rfl rfl (Nat.le_of_ble_eq_true rfl) dX8_lives_129 ⟨Nat.zero_le _, Nat.zero_le _⟩ ?_
    exact tw_endv (Wf := twM cI cZ q) hE hf dX8_lives_132
set_option maxRecDepth 20000 in
theorem m_X8_lives_L116 (C : twC p s m args meth c cX8_lives 4 RX8 wsX8_lives (dC, dI) (twY cI cZ) A) (hE : twEv p l e rm_X8_lives s m args below meth c 0 0 Q (dC, dI) A 4 cX8_lives (twM cI cZ q res)) : ∀ (v1 : Int32) (k0 : Int32) (k1 : Int32) (st : twS), f_X8_lives_L116 v1 k0 k1 st = some res → twG p l e rm_X8_lives s m args below meth c 0 0 Q (dC, dI) A 4 (twM cI cZ q st) 116 [(0, .ref (q 0)), (1, .int v1)] [.int k0, .int k1, .ref (q 11)] := by
  intro v1 k0 k1 st hf
  unfold f_X8_lives_L116 at hf
  obtain ⟨hb116001, hf⟩ := tw_ck hf
  refine tw_iast C 11 0 hb116001 rfl rfl (tw_M_a11 cI cZ q st k1 k0) dX8_lives_116 ?_
  exact m_X8_lives_L117 C hE v1 (twA st 11 k1 k0) hf
set_option maxRecDepth 20000 in
theorem m_X8_lives_L67 (C : twC p s m args meth c cX8_lives 4 RX8 wsX8_lives (dC, dI) (twY cI cZ) A) (hE : twEv p l e rm_X8_lives s m args below meth c 0 0 Q (dC, dI) A 4 cX8_lives (twM cI cZ q res)) : ∀ (v1 : Int32) (k0 : Int32) (k1 : Int32) (st : twS), f_X8_lives_L67 v1 k0 k1 st = some res → twG p l e rm_X8_lives s m args below meth c 0 0 Q (dC, dI) A 4 (twM cI cZ q st) 67 [(0, .ref (q 0)), (1, .int v1)] [.int k0, .int k1, .ref (q 11)] := by
  intro v1 k0 k1 st hf
  unfold f_X8_lives_L67 at hf
  obtain ⟨hb67001, hf⟩ := tw_ck hf
  refine tw_iast C 11 0 hb67001 rfl rfl (tw_M_a11 cI cZ q st k1 k0) dX8_lives_67 ?_
  refine tw_aload_n C dX8_lives_68 0 rfl rfl ?_
  refine tw_get (K := RX8) (T := TX8) (N := 37) (v := .ref (q 13)) C 0 34 (fun _ h => List.mem_cons_of_mem _ (List.mem_append_right _ (h))) rfl rfl (by decide) (List.mem_cons_of_mem _ (List.mem_append_left _ (List.mem_append_left _ (List.mem_of_getElem? (i := 4) rfl)))) rfl rfl dX8_lives_69 ?_
  refine tw_iload_n C dX8_lives_72 1 rfl rfl ?_
  refine tw_aload_n C dX8_lives_73 0 rfl rfl ?_
  refine tw_get (K := RX8) (T := TX8) (N := 37) (v := .int ((twA st 11 k1 k0).1 0)) C 0 0 (fun _ h => List.mem_cons_of_mem _ (List.mem_append_right _ (h))) rfl rfl (by decide) (List.mem_cons_of_mem _ (List.mem_append_left _ (List.mem_append_left _ (List.mem_of_getElem? (i := 5) rfl)))) rfl rfl dX8_lives_74 ?_
  obtain ⟨hb67002, hf⟩ := tw_ck hf
  refine tw_iast C 13 0 hb67002 rfl rfl (tw_M_a13 cI cZ q (twA st 11 k1 k0) v1 ((twA st 11 k1 k0).1 0)) dX8_lives_77 ?_
  refine tw_goto (tgt := 117) C dX8_lives_78 (by decide) ?_
  exact m_X8_lives_L117 C hE v1 (twA (twA st 11 k1 k0) 13 v1 ((twA st 11 k1 k0).1 0)) hf
set_option maxRecDepth 20000 in
theorem m_X8_lives_L52 (C : twC p s m args meth c cX8_lives 4 RX8 wsX8_lives (dC, dI) (twY cI cZ) A) (hE : twEv p l e rm_X8_lives s m args below meth c 0 0 Q (dC, dI) A 4 cX8_lives (twM cI cZ q res)) : ∀ (v1 : Int32) (k0 : Int32) (st : twS), f_X8_lives_L52 v1 k0 st = some res → twG p l e rm_X8_lives s m args below meth c 0 0 Q (dC, dI) A 4 (twM cI cZ q st) 52 [(0, .ref (q 0)), (1, .int v1)] [.int k0] := by
  intro v1 k0 st hf
  unfold f_X8_lives_L52 at hf
  refine tw_istore_n (lv' := [(3, .int k0), (0, .ref (q 0)), (1, .int v1)]) C dX8_lives_52 rfl (by decide) rfl ?_
  refine tw_aload_n C dX8_lives_53 1 rfl rfl ?_
  refine tw_get (K := RX8) (T := TX8) (N := 37) (v := .ref (q 11)) C 0 32 (fun _ h => List.mem_cons_of_mem _ (List.mem_append_right _ (h))) rfl rfl (by decide) (List.mem_cons_of_mem _ (List.mem_append_left _ (List.mem_append_left _ (List.mem_of_getElem? (i := 2) rfl)))) rfl rfl dX8_lives_54 ?_
  refine tw_iload_n C dX8_lives_57 2 rfl rfl ?_
  refine tw_iload_n C dX8_lives_58 0 rfl rfl ?_
  refine tw_if_eq (tgt := 66) C dX8_lives_59 (by decide) (fun c52001 => ?_) (fun c52001 => ?_)
  · have hf := tw_pos hf c52001
    refine tw_iconst (v := 0) C dX8_lives_66 (by decide) ?_
    refine tw_sub [1, 2] rfl ?_
    exact m_X8_lives_L67 C hE v1 0 v1 st hf
  · have hf := tw_neg hf c52001
    refine tw_iconst (v := 1) C dX8_lives_62 (by decide) ?_
    refine tw_goto (tgt := 67) C dX8_lives_63 (by decide) ?_
    refine tw_sub [1, 2] rfl ?_
    exact m_X8_lives_L67 C hE v1 1 v1 st hf
set_option maxRecDepth 20000 in
theorem m_X8_lives_L47 (C : twC p s m args meth c cX8_lives 4 RX8 wsX8_lives (dC, dI) (twY cI cZ) A) (hE : twEv p l e rm_X8_lives s m args below meth c 0 0 Q (dC, dI) A 4 cX8_lives (twM cI cZ q res)) : ∀ (v1 : Int32) (st : twS), f_X8_lives_L47 v1 st = some res → twG p l e rm_X8_lives s m args below meth c 0 0 Q (dC, dI) A 4 (twM cI cZ q st) 47 [(0, .ref (q 0)), (1, .int v1)] [] := by
  intro v1 st hf
  unfold f_X8_lives_L47 at hf
  refine tw_iconst (v := 1) C dX8_lives_47 (by decide) ?_
  refine tw_goto (tgt := 52) C dX8_lives_48 (by decide) ?_
  exact m_X8_lives_L52 C hE v1 1 st hf
set_option maxRecDepth 20000 in
theorem c_X8_lives (l : Launch) (dC : Nat → ClassId) (dI : Nat → Nat → Nat) (cI cZ : ClassId) (q : Nat → Nat) {st : twS} {v1 : Int32} {res : twS} (hf : f_X8_lives st v1 = some res) : twMv l yX8_lives wsX8_lives rm_X8_lives (dC, dI) (twY cI cZ) [.ref (q 0), .int v1] (twM cI cZ q st) (twM cI cZ q res) := by
  refine tw_entv (cc := cX8_lives) (maxL := 4) (own := RX8) (by decide) rfl (Nat.le_of_ble_eq_true rfl) rfl ⟨rfl, rfl⟩ ?_
  intro p e s m below meth c A Q C hE
  generalize ([.ref (q 0), .int v1] : List Value).toArray = args at C hE ⊢
  refine tw_sub (lv' := [(0, .ref (q 0)), (1, .int v1)]) [0, 1] rfl ?_
  unfold f_X8_lives at hf
  refine tw_aload_n C dX8_lives_0 0 rfl rfl ?_
  refine tw_get (K := RX8) (T := TX8) (N := 37) (v := .ref (q 1)) C 0 1 (fun _ h => List.mem_cons_of_mem _ (List.mem_append_right _ (h))) rfl rfl (by decide) (List.mem_cons_of_mem _ (List.mem_append_left _ (List.mem_append_left _ (List.mem_of_getElem? (i := 0) rfl)))) rfl rfl dX8_lives_1 ?_
  refine tw_aload_n C dX8_lives_4 0 rfl rfl ?_
  refine tw_get (K := RX8) (T := TX8) (N := 37) (v := .ref (q 12)) C 0 33 (fun _ h => List.mem_cons_of_mem _ (List.mem_append_right _ (h))) rfl rfl (by decide) (List.mem_cons_of_mem _ (List.mem_append_left _ (List.mem_append_left _ (List.mem_of_getElem? (i := 1) rfl)))) rfl rfl dX8_lives_5 ?_
  refine tw_iload_n C dX8_lives_8 1 rfl rfl ?_
  obtain ⟨hb1, hf⟩ := tw_ck hf
  refine tw_iald C 12 0 hb1 rfl rfl dX8_lives_9 ?_
  obtain ⟨hb2, hf⟩ := tw_ck hf
  refine tw_iald C 1 0 hb2 rfl rfl dX8_lives_10 ?_
  refine tw_istore_n (lv' := [(2, .int (st.2.1 1 (st.2.1 12 v1.toNatClampNeg).toNatClampNeg)), (0, .ref (q 0)), (1, .int v1)]) C dX8_lives_11 rfl (by decide) rfl ?_
  refine tw_iload_n C dX8_lives_12 0 rfl rfl ?_
  refine tw_bipush (v := 100) C dX8_lives_13 (by decide) ?_
  refine tw_icmp_lt (tgt := 25) C dX8_lives_15 (by decide) (fun c3 => ?_) (fun c3 => ?_)
  · have hf := tw_pos hf c3
    refine tw_aload_n C dX8_lives_25 1 rfl rfl ?_
    refine tw_get (K := RX8) (T := TX8) (N := 37) (v := .ref (q 11)) C 0 32 (fun _ h => List.mem_cons_of_mem _ (List.mem_append_right _ (h))) rfl rfl (by decide) (List.mem_cons_of_mem _ (List.mem_append_left _ (List.mem_append_left _ (List.mem_of_getElem? (i := 2) rfl)))) rfl rfl dX8_lives_26 ?_
    refine tw_iload_n C dX8_lives_29 2 rfl rfl ?_
    obtain ⟨hb4, hf⟩ := tw_ck hf
    refine tw_iald C 11 0 hb4 rfl rfl dX8_lives_30 ?_
    refine tw_if_ne (tgt := 81) C dX8_lives_31 (by decide) (fun c5 => ?_) (fun c5 => ?_)
    · have hf := tw_neg hf c5
      refine tw_aload_n C dX8_lives_81 1 rfl rfl ?_
      refine tw_get (K := RX8) (T := TX8) (N := 37) (v := .ref (q 11)) C 0 32 (fun _ h => List.mem_cons_of_mem _ (List.mem_append_right _ (h))) rfl rfl (by decide) (List.mem_cons_of_mem _ (List.mem_append_left _ (List.mem_append_left _ (List.mem_of_getElem? (i := 2) rfl)))) rfl rfl dX8_lives_82 ?_
      refine tw_iload_n C dX8_lives_85 2 rfl rfl ?_
      obtain ⟨hb6, hf⟩ := tw_ck hf
      refine tw_iald C 11 0 hb6 rfl rfl dX8_lives_86 ?_
      refine tw_iconst (v := 1) C dX8_lives_87 (by decide) ?_
      refine tw_icmp_ne (tgt := 117) C dX8_lives_88 (by decide) (fun c7 => ?_) (fun c7 => ?_)
      · have hf := tw_neg hf c7
        refine tw_sub [1, 2] rfl ?_
        exact m_X8_lives_L117 C hE v1 st hf
      · have hf := tw_pos hf c7
        refine tw_aload_n C dX8_lives_91 1 rfl rfl ?_
        refine tw_get (K := RX8) (T := TX8) (N := 37) (v := .ref (q 11)) C 0 32 (fun _ h => List.mem_cons_of_mem _ (List.mem_append_right _ (h))) rfl rfl (by decide) (List.mem_cons_of_mem _ (List.mem_append_left _ (List.mem_append_left _ (List.mem_of_getElem? (i := 2) rfl)))) rfl rfl dX8_lives_92 ?_
        refine tw_iload_n C dX8_lives_95 2 rfl rfl ?_
        refine tw_aload_n C dX8_lives_96 1 rfl rfl ?_
        refine tw_get (K := RX8) (T := TX8) (N := 37) (v := .int (st.1 0)) C 0 0 (fun _ h => List.mem_cons_of_mem _ (List.mem_append_right _ (h))) rfl rfl (by decide) (List.mem_cons_of_mem _ (List.mem_append_left _ (List.mem_append_left _ (List.mem_of_getElem? (i := 5) rfl)))) rfl rfl dX8_lives_97 ?_
        refine tw_aload_n C dX8_lives_100 1 rfl rfl ?_
        refine tw_get (K := RX8) (T := TX8) (N := 37) (v := .ref (q 13)) C 0 34 (fun _ h => List.mem_cons_of_mem _ (List.mem_append_right _ (h))) rfl rfl (by decide) (List.mem_cons_of_mem _ (List.mem_append_left _ (List.mem_append_left _ (List.mem_of_getElem? (i := 4) rfl)))) rfl rfl dX8_lives_101 ?_
        refine tw_iload_n C dX8_lives_104 2 rfl rfl ?_
        obtain ⟨hb8, hf⟩ := tw_ck hf
        refine tw_iald C 13 0 hb8 rfl rfl dX8_lives_105 ?_
        refine tw_iconst (v := 3) C dX8_lives_106 (by decide) ?_
        refine tw_iadd C dX8_lives_107 ?_
        refine tw_icmp_lt (tgt := 115) C dX8_lives_108 (by decide) (fun c9 => ?_) (fun c9 => ?_)
        · have hf := tw_pos hf c9
          refine tw_iconst (v := 1) C dX8_lives_115 (by decide) ?_
          refine tw_sub [1, 2] rfl ?_
          exact m_X8_lives_L116 C hE v1 1 v1 st hf
        · have hf := tw_neg hf c9
          refine tw_iconst (v := 2) C dX8_lives_111 (by decide) ?_
          refine tw_goto (tgt := 116) C dX8_lives_112 (by decide) ?_
          refine tw_sub [1, 2] rfl ?_
          exact m_X8_lives_L116 C hE v1 2 v1 st hf
    · have hf := tw_pos hf c5
      refine tw_aload_n C dX8_lives_34 1 rfl rfl ?_
      refine tw_get (K := RX8) (T := TX8) (N := 37) (v := .int (st.1 13)) C 0 13 (fun _ h => List.mem_cons_of_mem _ (List.mem_append_right _ (h))) rfl rfl (by decide) (List.mem_cons_of_mem _ (List.mem_append_left _ (List.mem_append_left _ (List.mem_of_getElem? (i := 3) rfl)))) rfl rfl dX8_lives_35 ?_
      refine tw_if_ne (tgt := 47) C dX8_lives_38 (by decide) (fun c10 => ?_) (fun c10 => ?_)
      · have hf := tw_neg hf c10
        refine tw_sub [1, 2] rfl ?_
        exact m_X8_lives_L47 C hE v1 st hf
      · have hf := tw_pos hf c10
        refine tw_iload_n C dX8_lives_41 0 rfl rfl ?_
        refine tw_bipush (v := 10) C dX8_lives_42 (by decide) ?_
        refine tw_icmp_lt (tgt := 51) C dX8_lives_44 (by decide) (fun c11 => ?_) (fun c11 => ?_)
        · have hf := tw_pos hf c11
          refine tw_iconst (v := 0) C dX8_lives_51 (by decide) ?_
          refine tw_sub [1, 2] rfl ?_
          exact m_X8_lives_L52 C hE v1 0 st hf
        · have hf := tw_neg hf c11
          refine tw_sub [1, 2] rfl ?_
          exact m_X8_lives_L47 C hE v1 st hf
  · have hf := tw_neg hf c3
    refine tw_aload_n C dX8_lives_18 1 rfl rfl ?_
    refine tw_iload_n C dX8_lives_19 2 rfl rfl ?_
    refine tw_iconst (v := 4) C dX8_lives_20 (by decide) ?_
    obtain ⟨y12, hc12, hf⟩ := tw_bd hf
    refine tw_cVv (As := [.int v1, .int 4]) (stk := []) C (c_X8_ends l dC dI cI cZ q hc12) (cwV 2 C.hts gX8_lives_X8_ends rfl rfl rfl hd_X8_ends ⟨Nat.le_of_ble_eq_true rfl, Nat.le_of_ble_eq_true rfl⟩) 0 (ci := 8) rfl rfl rfl rfl rfl (Nat.le_of_ble_eq_true rfl) dX8_lives_21 ⟨Nat.zero_le _, Nat.zero_le _⟩ ?_
    exact tw_endv (Wf := twM cI cZ q) hE hf dX8_lives_24
end
/-! X8_doesStep: private void doesStep() -/
abbrev rm_X8_doesStep : Room := { frames := 4, cells := 0, slots := 0, locals := 94 }
def f_X8_doesStep_L26b (rec : Int32 → twS → Option (twS)) (v1 : Int32) (st : twS) : Option (twS) :=
  (if (st.1 31) ≤ v1 then
    some (twI st 0 ((st.1 0) + 1))
  else
    (if twb v1 30 = true then (if 2 < (st.2.1 11 v1.toNatClampNeg) then
    rec (v1 + 1) st
  else
    ((f_X8_lives st v1).bind fun y26004 => rec (v1 + 1) y26004)) else none))
def f_X8_doesStep_L26 : Nat → Int32 → twS → Option (twS)
  | 0 => fun _ _ => none
  | n + 1 => fun v1 st => f_X8_doesStep_L26b (f_X8_doesStep_L26 n) v1 st
def f_X8_doesStep (st : twS) : Option (twS) :=
  ((f_X8_fans st).bind fun y1 => ((f_X8_flows y1).bind fun y2 => ((f_X8_burns y2).bind fun y3 => ((f_X8_moves y3).bind fun y4 => ((f_X8_detects y4).bind fun y5 => ((f_X8_charts y5).bind fun y6 => f_X8_doesStep_L26 twN 0 y6))))))
section
variable {p : Program} {l : Launch} {e : Env} {s : State} {m : MethodId} {args : Array Value} {below : List Frame} {meth : Method} {c : Code} {Q : State → Prop} {dC : Nat → ClassId} {dI : Nat → Nat → Nat} {cI cZ : ClassId} {q : Nat → Nat} {A : Nat → Prop} {res : twS}
set_option maxRecDepth 20000 in
theorem m_X8_doesStep_L26b (C : twC p s m args meth c cX8_doesStep 2 RX8 wsX8_doesStep (dC, dI) (twY cI cZ) A) (hE : twEv p l e rm_X8_doesStep s m args below meth c 0 0 Q (dC, dI) A 2 cX8_doesStep (twM cI cZ q res)) {rec : Int32 → twS → Option (twS)} (hrec : ∀ (v1 : Int32) (st : twS), rec v1 st = some res → twG p l e rm_X8_doesStep s m args below meth c 0 0 Q (dC, dI) A 2 (twM cI cZ q st) 26 [(0, .ref (q 0)), (1, .int v1)] []) : ∀ (v1 : Int32) (st : twS), f_X8_doesStep_L26b rec v1 st = some res → twG p l e rm_X8_doesStep s m args below meth c 0 0 Q (dC, dI) A 2 (twM cI cZ q st) 26 [(0, .ref (q 0)), (1, .int v1)] [] := by
  intro v1 st hf
  unfold f_X8_doesStep_L26b at hf
  refine tw_iload_n C dX8_doesStep_26 1 rfl rfl ?_
  refine tw_aload_n C dX8_doesStep_27 0 rfl rfl ?_
  refine tw_get (K := RX8) (T := TX8) (N := 37) (v := .int (st.1 31)) C 0 31 (fun _ h => List.mem_cons_of_mem _ (List.mem_append_right _ (h))) rfl rfl (by decide) (List.mem_cons_of_mem _ (List.mem_append_left _ (List.mem_append_left _ (List.mem_of_getElem? (i := 0) rfl)))) rfl rfl dX8_doesStep_28 ?_
  refine tw_icmp_ge (tgt := 55) C dX8_doesStep_31 (by decide) (fun c26001 => ?_) (fun c26001 => ?_)
  · have hf := tw_pos hf c26001
    refine tw_aload_n C dX8_doesStep_55 0 rfl rfl ?_
    refine tw_dup C dX8_doesStep_56 rfl ?_
    refine tw_get (K := RX8) (T := TX8) (N := 37) (v := .int (st.1 0)) C 0 0 (fun _ h => List.mem_cons_of_mem _ (List.mem_append_right _ (h))) rfl rfl (by decide) (List.mem_cons_of_mem _ (List.mem_append_left _ (List.mem_append_left _ (List.mem_of_getElem? (i := 2) rfl)))) rfl rfl dX8_doesStep_57 ?_
    refine tw_iconst (v := 1) C dX8_doesStep_60 (by decide) ?_
    refine tw_iadd C dX8_doesStep_61 ?_
    refine tw_put (K := RX8) (T := TX8) (N := 37) C 0 0 tyX8 tyX8_ok nmX8 (fun _ h => List.mem_cons_of_mem _ (List.mem_append_right _ (h))) rfl rfl (by decide) (List.mem_cons_of_mem _ (List.mem_append_left _ (List.mem_append_left _ (List.mem_of_getElem? (i := 2) rfl)))) rfl rfl rfl rfl (Nat.le_of_ble_eq_true rfl) (tw_M_si0 cI cZ q st ((st.1 0) + 1)) dX8_doesStep_62 ?_
    exact tw_endv (Wf := twM cI cZ q) hE hf dX8_doesStep_65
  · have hf := tw_neg hf c26001
    refine tw_aload_n C dX8_doesStep_34 0 rfl rfl ?_
    refine tw_get (K := RX8) (T := TX8) (N := 37) (v := .ref (q 11)) C 0 32 (fun _ h => List.mem_cons_of_mem _ (List.mem_append_right _ (h))) rfl rfl (by decide) (List.mem_cons_of_mem _ (List.mem_append_left _ (List.mem_append_left _ (List.mem_of_getElem? (i := 1) rfl)))) rfl rfl dX8_doesStep_35 ?_
    refine tw_iload_n C dX8_doesStep_38 1 rfl rfl ?_
    obtain ⟨hb26002, hf⟩ := tw_ck hf
    refine tw_iald C 11 0 hb26002 rfl rfl dX8_doesStep_39 ?_
    refine tw_iconst (v := 2) C dX8_doesStep_40 (by decide) ?_
    refine tw_icmp_gt (tgt := 49) C dX8_doesStep_41 (by decide) (fun c26003 => ?_) (fun c26003 => ?_)
    · have hf := tw_pos hf c26003
      refine tw_iinc (v := (v1 + 1)) (lv' := [(1, .int (v1 + 1)), (0, .ref (q 0))]) C dX8_doesStep_49 (k := 1) rfl rfl (by decide) rfl ?_
      refine tw_goto (tgt := 26) C dX8_doesStep_52 (by decide) ?_
      refine tw_sub [1, 0] rfl ?_
      exact hrec (v1 + 1) st hf
    · have hf := tw_neg hf c26003
      refine tw_aload_n C dX8_doesStep_44 0 rfl rfl ?_
      refine tw_iload_n C dX8_doesStep_45 1 rfl rfl ?_
      obtain ⟨y26004, hc26004, hf⟩ := tw_bd hf
      refine tw_cVv (As := [.int v1]) (stk := []) C (c_X8_lives l dC dI cI cZ q hc26004) (cwV 1 C.hts gX8_doesStep_X8_lives rfl rfl rfl hd_X8_lives ⟨Nat.le_of_ble_eq_true rfl, Nat.le_of_ble_eq_true rfl⟩) 0 (ci := 8) rfl rfl rfl rfl rfl (Nat.le_of_ble_eq_true rfl) dX8_doesStep_46 ⟨Nat.zero_le _, Nat.zero_le _⟩ ?_
      refine tw_iinc (v := (v1 + 1)) (lv' := [(1, .int (v1 + 1)), (0, .ref (q 0))]) C dX8_doesStep_49 (k := 1) rfl rfl (by decide) rfl ?_
      refine tw_goto (tgt := 26) C dX8_doesStep_52 (by decide) ?_
      refine tw_sub [1, 0] rfl ?_
      exact hrec (v1 + 1) y26004 hf
theorem m_X8_doesStep_L26 (C : twC p s m args meth c cX8_doesStep 2 RX8 wsX8_doesStep (dC, dI) (twY cI cZ) A) (hE : twEv p l e rm_X8_doesStep s m args below meth c 0 0 Q (dC, dI) A 2 cX8_doesStep (twM cI cZ q res)) : ∀ (n : Nat) (v1 : Int32) (st : twS), f_X8_doesStep_L26 n v1 st = some res → twG p l e rm_X8_doesStep s m args below meth c 0 0 Q (dC, dI) A 2 (twM cI cZ q st) 26 [(0, .ref (q 0)), (1, .int v1)] [] := by
  intro n
  induction n with
  | zero =>
    intro v1 st hf
    have hf : none = some res := hf
    cases hf
  | succ n ih =>
    intro v1 st hf
    exact m_X8_doesStep_L26b C hE ih v1 st hf
set_option maxRecDepth 20000 in
theorem c_X8_doesStep (l : Launch) (dC : Nat → ClassId) (dI : Nat → Nat → Nat) (cI cZ : ClassId) (q : Nat → Nat) {st : twS} {res : twS} (hf : f_X8_doesStep st = some res) : twMv l yX8_doesStep wsX8_doesStep rm_X8_doesStep (dC, dI) (twY cI cZ) [.ref (q 0)] (twM cI cZ q st) (twM cI cZ q res) := by
  refine tw_entv (cc := cX8_doesStep) (maxL := 2) (own := RX8) (by decide) rfl (Nat.le_of_ble_eq_true rfl) rfl ⟨rfl, rfl⟩ ?_
  intro p e s m below meth c A Q C hE
  generalize ([.ref (q 0)] : List Value).toArray = args at C hE ⊢
  refine tw_sub (lv' := [(0, .ref (q 0))]) [0] rfl ?_
  unfold f_X8_doesStep at hf
  refine tw_aload_n C dX8_doesStep_0 0 rfl rfl ?_
  obtain ⟨y1, hc1, hf⟩ := tw_bd hf
  refine tw_cVv (As := []) (stk := []) C (c_X8_fans l dC dI cI cZ q hc1) (cwV 0 C.hts gX8_doesStep_X8_fans rfl rfl rfl hd_X8_fans ⟨Nat.le_of_ble_eq_true rfl, Nat.le_of_ble_eq_true rfl⟩) 0 (ci := 8) rfl rfl rfl rfl rfl (Nat.le_of_ble_eq_true rfl) dX8_doesStep_1 ⟨Nat.zero_le _, Nat.zero_le _⟩ ?_
  refine tw_aload_n C dX8_doesStep_4 0 rfl rfl ?_
  obtain ⟨y2, hc2, hf⟩ := tw_bd hf
  refine tw_cVv (As := []) (stk := []) C (c_X8_flows l dC dI cI cZ q hc2) (cwV 0 C.hts gX8_doesStep_X8_flows rfl rfl rfl hd_X8_flows ⟨Nat.le_of_ble_eq_true rfl, Nat.le_of_ble_eq_true rfl⟩) 0 (ci := 8) rfl rfl rfl rfl rfl (Nat.le_of_ble_eq_true rfl) dX8_doesStep_5 ⟨Nat.zero_le _, Nat.zero_le _⟩ ?_
  refine tw_aload_n C dX8_doesStep_8 0 rfl rfl ?_
  obtain ⟨y3, hc3, hf⟩ := tw_bd hf
  refine tw_cVv (As := []) (stk := []) C (c_X8_burns l dC dI cI cZ q hc3) (cwV 0 C.hts gX8_doesStep_X8_burns rfl rfl rfl hd_X8_burns ⟨Nat.le_of_ble_eq_true rfl, Nat.le_of_ble_eq_true rfl⟩) 0 (ci := 8) rfl rfl rfl rfl rfl (Nat.le_of_ble_eq_true rfl) dX8_doesStep_9 ⟨Nat.zero_le _, Nat.zero_le _⟩ ?_
  refine tw_aload_n C dX8_doesStep_12 0 rfl rfl ?_
  obtain ⟨y4, hc4, hf⟩ := tw_bd hf
  refine tw_cVv (As := []) (stk := []) C (c_X8_moves l dC dI cI cZ q hc4) (cwV 0 C.hts gX8_doesStep_X8_moves rfl rfl rfl hd_X8_moves ⟨Nat.le_of_ble_eq_true rfl, Nat.le_of_ble_eq_true rfl⟩) 0 (ci := 8) rfl rfl rfl rfl rfl (Nat.le_of_ble_eq_true rfl) dX8_doesStep_13 ⟨Nat.zero_le _, Nat.zero_le _⟩ ?_
  refine tw_aload_n C dX8_doesStep_16 0 rfl rfl ?_
  obtain ⟨y5, hc5, hf⟩ := tw_bd hf
  refine tw_cVv (As := []) (stk := []) C (c_X8_detects l dC dI cI cZ q hc5) (cwV 0 C.hts gX8_doesStep_X8_detects rfl rfl rfl hd_X8_detects ⟨Nat.le_of_ble_eq_true rfl, Nat.le_of_ble_eq_true rfl⟩) 0 (ci := 8) rfl rfl rfl rfl rfl (Nat.le_of_ble_eq_true rfl) dX8_doesStep_17 ⟨Nat.zero_le _, Nat.zero_le _⟩ ?_
  refine tw_aload_n C dX8_doesStep_20 0 rfl rfl ?_
  obtain ⟨y6, hc6, hf⟩ := tw_bd hf
  refine tw_cVv (As := []) (stk := []) C (c_X8_charts l dC dI cI cZ q hc6) (cwV 0 C.hts gX8_doesStep_X8_charts rfl rfl rfl hd_X8_charts ⟨Nat.le_of_ble_eq_true rfl, Nat.le_of_ble_eq_true rfl⟩) 0 (ci := 8) rfl rfl rfl rfl rfl (Nat.le_of_ble_eq_true rfl) dX8_doesStep_21 ⟨Nat.zero_le _, Nat.zero_le _⟩ ?_
  refine tw_iconst (v := 0) C dX8_doesStep_24 (by decide) ?_
  refine tw_istore_n (lv' := [(1, .int 0), (0, .ref (q 0))]) C dX8_doesStep_25 rfl (by decide) rfl ?_
  refine tw_sub [1, 0] rfl ?_
  exact m_X8_doesStep_L26 C hE twN 0 y6 hf
end
