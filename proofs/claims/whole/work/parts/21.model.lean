theorem hd_X8_doesAct : yX8_doesAct.cls = RX8 ∧ yX8_doesAct.cls ≠ "java/lang/invoke/MethodHandle" ∧ yX8_doesAct.cls ≠ "java/lang/invoke/VarHandle" ∧ (parseMethodDescriptor yX8_doesAct.desc).map (fun d => d.parameters.length) = some 1 := by decide +kernel
theorem hd_X8_fans : yX8_fans.cls = RX8 ∧ yX8_fans.cls ≠ "java/lang/invoke/MethodHandle" ∧ yX8_fans.cls ≠ "java/lang/invoke/VarHandle" ∧ (parseMethodDescriptor yX8_fans.desc).map (fun d => d.parameters.length) = some 0 := by decide +kernel
theorem hd_X8_flows : yX8_flows.cls = RX8 ∧ yX8_flows.cls ≠ "java/lang/invoke/MethodHandle" ∧ yX8_flows.cls ≠ "java/lang/invoke/VarHandle" ∧ (parseMethodDescriptor yX8_flows.desc).map (fun d => d.parameters.length) = some 0 := by decide +kernel
theorem hd_X8_burns : yX8_burns.cls = RX8 ∧ yX8_burns.cls ≠ "java/lang/invoke/MethodHandle" ∧ yX8_burns.cls ≠ "java/lang/invoke/VarHandle" ∧ (parseMethodDescriptor yX8_burns.desc).map (fun d => d.parameters.length) = some 0 := by decide +kernel
theorem hd_X8_strength : yX8_strength.cls = RX8 ∧ yX8_strength.cls ≠ "java/lang/invoke/MethodHandle" ∧ yX8_strength.cls ≠ "java/lang/invoke/VarHandle" ∧ (parseMethodDescriptor yX8_strength.desc).map (fun d => d.parameters.length) = some 0 := by decide +kernel
theorem hd_X8_comes : yX8_comes.cls = RX8 ∧ yX8_comes.cls ≠ "java/lang/invoke/MethodHandle" ∧ yX8_comes.cls ≠ "java/lang/invoke/VarHandle" ∧ (parseMethodDescriptor yX8_comes.desc).map (fun d => d.parameters.length) = some 2 := by decide +kernel
theorem hd_X8_moves : yX8_moves.cls = RX8 ∧ yX8_moves.cls ≠ "java/lang/invoke/MethodHandle" ∧ yX8_moves.cls ≠ "java/lang/invoke/VarHandle" ∧ (parseMethodDescriptor yX8_moves.desc).map (fun d => d.parameters.length) = some 0 := by decide +kernel
/-! X8_doesAct: private void doesAct(int) -/
abbrev rm_X8_doesAct : Room := { frames := 0, cells := 0, slots := 0, locals := 0 }
def f_X8_doesAct_L105b (rec : Int32 → Int32 → twS → Option (twS)) (v1 : Int32) (v2 : Int32) (st : twS) : Option (twS) :=
  (if 3 ≤ v2 then
    some st
  else
    (if v1 = 3 then
    (if twb v2 3 = true then rec v1 (v2 + 1) (twA st 3 v2 (-1)) else none)
  else
    (if v1 = 4 then
    (if twb v2 3 = true then rec v1 (v2 + 1) (twA st 3 v2 1) else none)
  else
    (if twb v2 3 = true then rec v1 (v2 + 1) (twA st 3 v2 0) else none))))
def f_X8_doesAct_L105 : Nat → Int32 → Int32 → twS → Option (twS)
  | 0 => fun _ _ _ => none
  | n + 1 => fun v1 v2 st => f_X8_doesAct_L105b (f_X8_doesAct_L105 n) v1 v2 st
def f_X8_doesAct (st : twS) (v1 : Int32) : Option (twS) :=
  (if v1 = 0 then
    some (twI st 12 1)
  else
    (if v1 = 1 then
    some (twI st 13 1)
  else
    (if v1 = 2 then
    some (twI st 7 ((st.1 7) ||| ((st.1 6) &&& ((st.1 8) ^^^ (-1)))))
  else
    (if v1 = 6 then
    some (twI st 10 1)
  else
    (if v1 = 7 then
    some (twI st 11 1)
  else
    f_X8_doesAct_L105 twN v1 0 st)))))
section
variable {p : Program} {l : Launch} {e : Env} {s : State} {m : MethodId} {args : Array Value} {below : List Frame} {meth : Method} {c : Code} {Q : State → Prop} {dC : Nat → ClassId} {dI : Nat → Nat → Nat} {cI cZ : ClassId} {q : Nat → Nat} {A : Nat → Prop} {res : twS}
set_option maxRecDepth 20000 in
theorem m_X8_doesAct_L105b (C : twC p s m args meth c cX8_doesAct 3 RX8 wsX8_doesAct (dC, dI) (twY cI cZ) A) (hE : twEv p l e rm_X8_doesAct s m args below meth c 0 0 Q (dC, dI) A 3 cX8_doesAct (twM cI cZ q res)) {rec : Int32 → Int32 → twS → Option (twS)} (hrec : ∀ (v1 : Int32) (v2 : Int32) (st : twS), rec v1 v2 st = some res → twG p l e rm_X8_doesAct s m args below meth c 0 0 Q (dC, dI) A 3 (twM cI cZ q st) 105 [(0, .ref (q 0)), (1, .int v1), (2, .int v2)] []) : ∀ (v1 : Int32) (v2 : Int32) (st : twS), f_X8_doesAct_L105b rec v1 v2 st = some res → twG p l e rm_X8_doesAct s m args below meth c 0 0 Q (dC, dI) A 3 (twM cI cZ q st) 105 [(0, .ref (q 0)), (1, .int v1), (2, .int v2)] [] := by
  intro v1 v2 st hf
  unfold f_X8_doesAct_L105b at hf
  refine tw_iload_n C dX8_doesAct_105 2 rfl rfl ?_
  refine tw_iconst (v := 3) C dX8_doesAct_106 (by decide) ?_
  refine tw_icmp_ge (tgt := 141) C dX8_doesAct_107 (by decide) (fun c105001 => ?_) (fun c105001 => ?_)
  · have hf := tw_pos hf c105001
    exact tw_endv (Wf := twM cI cZ q) hE hf dX8_doesAct_141
  · have hf := tw_neg hf c105001
    refine tw_aload_n C dX8_doesAct_110 0 rfl rfl ?_
    refine tw_get (K := RX8) (T := TX8) (N := 37) (v := .ref (q 3)) C 0 3 (fun _ h => List.mem_cons_of_mem _ (List.mem_append_right _ (h))) rfl rfl (by decide) (List.mem_cons_of_mem _ (List.mem_append_left _ (List.mem_of_getElem? (i := 7) rfl))) rfl rfl dX8_doesAct_111 ?_
    refine tw_iload_n C dX8_doesAct_114 2 rfl rfl ?_
    refine tw_iload_n C dX8_doesAct_115 1 rfl rfl ?_
    refine tw_iconst (v := 3) C dX8_doesAct_116 (by decide) ?_
    refine tw_icmp_ne (tgt := 124) C dX8_doesAct_117 (by decide) (fun c105002 => ?_) (fun c105002 => ?_)
    · have hf := tw_neg hf c105002
      refine tw_iload_n C dX8_doesAct_124 1 rfl rfl ?_
      refine tw_iconst (v := 4) C dX8_doesAct_125 (by decide) ?_
      refine tw_icmp_ne (tgt := 133) C dX8_doesAct_126 (by decide) (fun c105003 => ?_) (fun c105003 => ?_)
      · have hf := tw_neg hf c105003
        refine tw_iconst (v := 0) C dX8_doesAct_133 (by decide) ?_
        obtain ⟨hb105004, hf⟩ := tw_ck hf
        refine tw_iast C 3 0 hb105004 rfl rfl (tw_M_a3 cI cZ q st v2 0) dX8_doesAct_134 ?_
        refine tw_iinc (v := (v2 + 1)) (lv' := [(2, .int (v2 + 1)), (0, .ref (q 0)), (1, .int v1)]) C dX8_doesAct_135 (k := 2) rfl rfl (by decide) rfl ?_
        refine tw_goto (tgt := 105) C dX8_doesAct_138 (by decide) ?_
        refine tw_sub [1, 2, 0] rfl ?_
        exact hrec v1 (v2 + 1) (twA st 3 v2 0) hf
      · have hf := tw_pos hf c105003
        refine tw_iconst (v := 1) C dX8_doesAct_129 (by decide) ?_
        refine tw_goto (tgt := 134) C dX8_doesAct_130 (by decide) ?_
        obtain ⟨hb105005, hf⟩ := tw_ck hf
        refine tw_iast C 3 0 hb105005 rfl rfl (tw_M_a3 cI cZ q st v2 1) dX8_doesAct_134 ?_
        refine tw_iinc (v := (v2 + 1)) (lv' := [(2, .int (v2 + 1)), (0, .ref (q 0)), (1, .int v1)]) C dX8_doesAct_135 (k := 2) rfl rfl (by decide) rfl ?_
        refine tw_goto (tgt := 105) C dX8_doesAct_138 (by decide) ?_
        refine tw_sub [1, 2, 0] rfl ?_
        exact hrec v1 (v2 + 1) (twA st 3 v2 1) hf
    · have hf := tw_pos hf c105002
      refine tw_iconst (v := (-1)) C dX8_doesAct_120 (by decide) ?_
      refine tw_goto (tgt := 134) C dX8_doesAct_121 (by decide) ?_
      obtain ⟨hb105006, hf⟩ := tw_ck hf
      refine tw_iast C 3 0 hb105006 rfl rfl (tw_M_a3 cI cZ q st v2 (-1)) dX8_doesAct_134 ?_
      refine tw_iinc (v := (v2 + 1)) (lv' := [(2, .int (v2 + 1)), (0, .ref (q 0)), (1, .int v1)]) C dX8_doesAct_135 (k := 2) rfl rfl (by decide) rfl ?_
      refine tw_goto (tgt := 105) C dX8_doesAct_138 (by decide) ?_
      refine tw_sub [1, 2, 0] rfl ?_
      exact hrec v1 (v2 + 1) (twA st 3 v2 (-1)) hf
theorem m_X8_doesAct_L105 (C : twC p s m args meth c cX8_doesAct 3 RX8 wsX8_doesAct (dC, dI) (twY cI cZ) A) (hE : twEv p l e rm_X8_doesAct s m args below meth c 0 0 Q (dC, dI) A 3 cX8_doesAct (twM cI cZ q res)) : ∀ (n : Nat) (v1 : Int32) (v2 : Int32) (st : twS), f_X8_doesAct_L105 n v1 v2 st = some res → twG p l e rm_X8_doesAct s m args below meth c 0 0 Q (dC, dI) A 3 (twM cI cZ q st) 105 [(0, .ref (q 0)), (1, .int v1), (2, .int v2)] [] := by
  intro n
  induction n with
  | zero =>
    intro v1 v2 st hf
    have hf : none = some res := hf
    cases hf
  | succ n ih =>
    intro v1 v2 st hf
    exact m_X8_doesAct_L105b C hE ih v1 v2 st hf
set_option maxRecDepth 20000 in
theorem c_X8_doesAct (l : Launch) (dC : Nat → ClassId) (dI : Nat → Nat → Nat) (cI cZ : ClassId) (q : Nat → Nat) {st : twS} {v1 : Int32} {res : twS} (hf : f_X8_doesAct st v1 = some res) : twMv l yX8_doesAct wsX8_doesAct rm_X8_doesAct (dC, dI) (twY cI cZ) [.ref (q 0), .int v1] (twM cI cZ q st) (twM cI cZ q res) := by
  refine tw_entv (cc := cX8_doesAct) (maxL := 3) (own := RX8) (by decide) rfl (Nat.le_of_ble_eq_true rfl) rfl ⟨rfl, rfl⟩ ?_
  intro p e s m below meth c A Q C hE
  generalize ([.ref (q 0), .int v1] : List Value).toArray = args at C hE ⊢
  refine tw_sub (lv' := [(0, .ref (q 0)), (1, .int v1)]) [0, 1] rfl ?_
  unfold f_X8_doesAct at hf
  refine tw_iload_n C dX8_doesAct_0 1 rfl rfl ?_
  by_cases c1 : v1 = 0
  · have hf := tw_pos hf c1
    refine tw_tableIn (tgt := 48) C dX8_doesAct_1 (by rw [c1]; decide) (by rw [c1]; decide) (by rw [c1]; rfl) (by decide) ?_
    refine tw_aload_n C dX8_doesAct_48 0 rfl rfl ?_
    refine tw_iconst (v := 1) C dX8_doesAct_49 (by decide) ?_
    refine tw_put (K := RX8) (T := TX8) (N := 37) C 0 12 tyX8 tyX8_ok nmX8 (fun _ h => List.mem_cons_of_mem _ (List.mem_append_right _ (h))) rfl rfl (by decide) (List.mem_cons_of_mem _ (List.mem_append_left _ (List.mem_of_getElem? (i := 0) rfl))) rfl rfl rfl rfl (Nat.le_of_ble_eq_true rfl) (tw_M_si12 cI cZ q st 1) dX8_doesAct_50 ?_
    refine tw_goto (tgt := 141) C dX8_doesAct_53 (by decide) ?_
    exact tw_endv (Wf := twM cI cZ q) hE hf dX8_doesAct_141
  have hf := tw_neg hf c1
  by_cases c2 : v1 = 1
  · have hf := tw_pos hf c2
    refine tw_tableIn (tgt := 56) C dX8_doesAct_1 (by rw [c2]; decide) (by rw [c2]; decide) (by rw [c2]; rfl) (by decide) ?_
    refine tw_aload_n C dX8_doesAct_56 0 rfl rfl ?_
    refine tw_iconst (v := 1) C dX8_doesAct_57 (by decide) ?_
    refine tw_put (K := RX8) (T := TX8) (N := 37) C 0 13 tyX8 tyX8_ok nmX8 (fun _ h => List.mem_cons_of_mem _ (List.mem_append_right _ (h))) rfl rfl (by decide) (List.mem_cons_of_mem _ (List.mem_append_left _ (List.mem_of_getElem? (i := 1) rfl))) rfl rfl rfl rfl (Nat.le_of_ble_eq_true rfl) (tw_M_si13 cI cZ q st 1) dX8_doesAct_58 ?_
    refine tw_goto (tgt := 141) C dX8_doesAct_61 (by decide) ?_
    exact tw_endv (Wf := twM cI cZ q) hE hf dX8_doesAct_141
  have hf := tw_neg hf c2
  by_cases c3 : v1 = 2
  · have hf := tw_pos hf c3
    refine tw_tableIn (tgt := 64) C dX8_doesAct_1 (by rw [c3]; decide) (by rw [c3]; decide) (by rw [c3]; rfl) (by decide) ?_
    refine tw_aload_n C dX8_doesAct_64 0 rfl rfl ?_
    refine tw_aload_n C dX8_doesAct_65 0 rfl rfl ?_
    refine tw_get (K := RX8) (T := TX8) (N := 37) (v := .int (st.1 7)) C 0 7 (fun _ h => List.mem_cons_of_mem _ (List.mem_append_right _ (h))) rfl rfl (by decide) (List.mem_cons_of_mem _ (List.mem_append_left _ (List.mem_of_getElem? (i := 2) rfl))) rfl rfl dX8_doesAct_66 ?_
    refine tw_aload_n C dX8_doesAct_69 0 rfl rfl ?_
    refine tw_get (K := RX8) (T := TX8) (N := 37) (v := .int (st.1 6)) C 0 6 (fun _ h => List.mem_cons_of_mem _ (List.mem_append_right _ (h))) rfl rfl (by decide) (List.mem_cons_of_mem _ (List.mem_append_left _ (List.mem_of_getElem? (i := 3) rfl))) rfl rfl dX8_doesAct_70 ?_
    refine tw_aload_n C dX8_doesAct_73 0 rfl rfl ?_
    refine tw_get (K := RX8) (T := TX8) (N := 37) (v := .int (st.1 8)) C 0 8 (fun _ h => List.mem_cons_of_mem _ (List.mem_append_right _ (h))) rfl rfl (by decide) (List.mem_cons_of_mem _ (List.mem_append_left _ (List.mem_of_getElem? (i := 4) rfl))) rfl rfl dX8_doesAct_74 ?_
    refine tw_iconst (v := (-1)) C dX8_doesAct_77 (by decide) ?_
    refine tw_ixor C dX8_doesAct_78 ?_
    refine tw_iand C dX8_doesAct_79 ?_
    refine tw_ior C dX8_doesAct_80 ?_
    refine tw_put (K := RX8) (T := TX8) (N := 37) C 0 7 tyX8 tyX8_ok nmX8 (fun _ h => List.mem_cons_of_mem _ (List.mem_append_right _ (h))) rfl rfl (by decide) (List.mem_cons_of_mem _ (List.mem_append_left _ (List.mem_of_getElem? (i := 2) rfl))) rfl rfl rfl rfl (Nat.le_of_ble_eq_true rfl) (tw_M_si7 cI cZ q st ((st.1 7) ||| ((st.1 6) &&& ((st.1 8) ^^^ (-1))))) dX8_doesAct_81 ?_
    refine tw_goto (tgt := 141) C dX8_doesAct_84 (by decide) ?_
    exact tw_endv (Wf := twM cI cZ q) hE hf dX8_doesAct_141
  have hf := tw_neg hf c3
  by_cases c4 : v1 = 6
  · have hf := tw_pos hf c4
    refine tw_tableIn (tgt := 87) C dX8_doesAct_1 (by rw [c4]; decide) (by rw [c4]; decide) (by rw [c4]; rfl) (by decide) ?_
    refine tw_aload_n C dX8_doesAct_87 0 rfl rfl ?_
    refine tw_iconst (v := 1) C dX8_doesAct_88 (by decide) ?_
    refine tw_put (K := RX8) (T := TX8) (N := 37) C 0 10 tyX8 tyX8_ok nmX8 (fun _ h => List.mem_cons_of_mem _ (List.mem_append_right _ (h))) rfl rfl (by decide) (List.mem_cons_of_mem _ (List.mem_append_left _ (List.mem_of_getElem? (i := 5) rfl))) rfl rfl rfl rfl (Nat.le_of_ble_eq_true rfl) (tw_M_si10 cI cZ q st 1) dX8_doesAct_89 ?_
    refine tw_goto (tgt := 141) C dX8_doesAct_92 (by decide) ?_
    exact tw_endv (Wf := twM cI cZ q) hE hf dX8_doesAct_141
  have hf := tw_neg hf c4
  by_cases c5 : v1 = 7
  · have hf := tw_pos hf c5
    refine tw_tableIn (tgt := 95) C dX8_doesAct_1 (by rw [c5]; decide) (by rw [c5]; decide) (by rw [c5]; rfl) (by decide) ?_
    refine tw_aload_n C dX8_doesAct_95 0 rfl rfl ?_
    refine tw_iconst (v := 1) C dX8_doesAct_96 (by decide) ?_
    refine tw_put (K := RX8) (T := TX8) (N := 37) C 0 11 tyX8 tyX8_ok nmX8 (fun _ h => List.mem_cons_of_mem _ (List.mem_append_right _ (h))) rfl rfl (by decide) (List.mem_cons_of_mem _ (List.mem_append_left _ (List.mem_of_getElem? (i := 6) rfl))) rfl rfl rfl rfl (Nat.le_of_ble_eq_true rfl) (tw_M_si11 cI cZ q st 1) dX8_doesAct_97 ?_
    refine tw_goto (tgt := 141) C dX8_doesAct_100 (by decide) ?_
    exact tw_endv (Wf := twM cI cZ q) hE hf dX8_doesAct_141
  have hf := tw_neg hf c5
  have K : twG p l e rm_X8_doesAct s m args below meth c 0 0 Q (dC, dI) A 3 (twM cI cZ q st) 103 [(0, .ref (q 0)), (1, .int v1)] [] := by
    refine tw_iconst (v := 0) C dX8_doesAct_103 (by decide) ?_
    refine tw_istore_n (lv' := [(2, .int 0), (0, .ref (q 0)), (1, .int v1)]) C dX8_doesAct_104 rfl (by decide) rfl ?_
    refine tw_sub [1, 2, 0] rfl ?_
    exact m_X8_doesAct_L105 C hE twN v1 0 st hf
  by_cases e1 : v1 = 3
  · exact tw_tableIn (tgt := 103) C dX8_doesAct_1 (by rw [e1]; decide) (by rw [e1]; decide) (by rw [e1]; rfl) (by decide) K
  by_cases e2 : v1 = 4
  · exact tw_tableIn (tgt := 103) C dX8_doesAct_1 (by rw [e2]; decide) (by rw [e2]; decide) (by rw [e2]; rfl) (by decide) K
  by_cases e3 : v1 = 5
  · exact tw_tableIn (tgt := 103) C dX8_doesAct_1 (by rw [e3]; decide) (by rw [e3]; decide) (by rw [e3]; rfl) (by decide) K
  exact tw_tableOut (tgt := 103) C dX8_doesAct_1 (tw_tout 7 (by decide) (fun k hk => by rcases (show k = 0 ∨ k = 1 ∨ k = 2 ∨ k = 3 ∨ k = 4 ∨ k = 5 ∨ k = 6 ∨ k = 7 by omega) with rfl | rfl | rfl | rfl | rfl | rfl | rfl | rfl <;> assumption)) (by decide) K
end
/-! X8_fans: private void fans() -/
abbrev rm_X8_fans : Room := { frames := 1, cells := 0, slots := 0, locals := 20 }
def f_X8_fans_L24 (rec : Int32 → twS → Option (twS)) (v1 : Int32) (k0 : Int32) (st : twS) : Option (twS) :=
  (if twb v1 3 = true then (if (st.2.1 5 v1.toNatClampNeg) = 0 then
    (if twb v1 3 = true then (if twb v1 3 = true then (if k0 ≤ (st.2.1 4 v1.toNatClampNeg) then
    (if twb v1 3 = true then (if (st.2.1 4 v1.toNatClampNeg) ≤ k0 then
    (if twb v1 3 = true then rec (v1 + 1) (twA st 4 v1 ((st.2.1 4 v1.toNatClampNeg) + 0)) else none)
  else
    (if twb v1 3 = true then rec (v1 + 1) (twA st 4 v1 ((st.2.1 4 v1.toNatClampNeg) + (-1))) else none)) else none)
  else
    (if twb v1 3 = true then rec (v1 + 1) (twA st 4 v1 ((st.2.1 4 v1.toNatClampNeg) + 1)) else none)) else none) else none)
  else
    rec (v1 + 1) st) else none)
def f_X8_fans_L2b (rec : Int32 → twS → Option (twS)) (v1 : Int32) (st : twS) : Option (twS) :=
  (if 3 ≤ v1 then
    some st
  else
    ((f_X8_hasPower st).bind fun y2002 => (if y2002.1 = 0 then
    f_X8_fans_L24 rec v1 0 y2002.2
  else
    (if twb v1 3 = true then f_X8_fans_L24 rec v1 (y2002.2.2.1 3 v1.toNatClampNeg) y2002.2 else none))))
def f_X8_fans_L2 : Nat → Int32 → twS → Option (twS)
  | 0 => fun _ _ => none
  | n + 1 => fun v1 st => f_X8_fans_L2b (f_X8_fans_L2 n) v1 st
def f_X8_fans (st : twS) : Option (twS) :=
  f_X8_fans_L2 twN 0 st
section
variable {p : Program} {l : Launch} {e : Env} {s : State} {m : MethodId} {args : Array Value} {below : List Frame} {meth : Method} {c : Code} {Q : State → Prop} {dC : Nat → ClassId} {dI : Nat → Nat → Nat} {cI cZ : ClassId} {q : Nat → Nat} {A : Nat → Prop} {res : twS}
set_option maxRecDepth 20000 in
theorem m_X8_fans_L24 (C : twC p s m args meth c cX8_fans 3 RX8 wsX8_fans (dC, dI) (twY cI cZ) A) (hE : twEv p l e rm_X8_fans s m args below meth c 0 0 Q (dC, dI) A 3 cX8_fans (twM cI cZ q res)) {rec : Int32 → twS → Option (twS)} (hrec : ∀ (v1 : Int32) (st : twS), rec v1 st = some res → twG p l e rm_X8_fans s m args below meth c 0 0 Q (dC, dI) A 3 (twM cI cZ q st) 2 [(0, .ref (q 0)), (1, .int v1)] []) : ∀ (v1 : Int32) (k0 : Int32) (st : twS), f_X8_fans_L24 rec v1 k0 st = some res → twG p l e rm_X8_fans s m args below meth c 0 0 Q (dC, dI) A 3 (twM cI cZ q st) 24 [(0, .ref (q 0)), (1, .int v1)] [.int k0] := by
  intro v1 k0 st hf
  unfold f_X8_fans_L24 at hf
  refine tw_istore_n (lv' := [(2, .int k0), (0, .ref (q 0)), (1, .int v1)]) C dX8_fans_24 rfl (by decide) rfl ?_
  refine tw_aload_n C dX8_fans_25 1 rfl rfl ?_
  refine tw_get (K := RX8) (T := TX8) (N := 37) (v := .ref (q 5)) C 0 5 (fun _ h => List.mem_cons_of_mem _ (List.mem_append_right _ (h))) rfl rfl (by decide) (List.mem_cons_of_mem _ (List.mem_append_left _ (List.mem_of_getElem? (i := 1) rfl))) rfl rfl dX8_fans_26 ?_
  refine tw_iload_n C dX8_fans_29 2 rfl rfl ?_
  obtain ⟨hb24001, hf⟩ := tw_ck hf
  refine tw_zald C 5 1 hb24001 rfl rfl dX8_fans_30 ?_
  refine tw_if_ne (tgt := 72) C dX8_fans_31 (by decide) (fun c24002 => ?_) (fun c24002 => ?_)
  · have hf := tw_neg hf c24002
    refine tw_iinc (v := (v1 + 1)) (lv' := [(1, .int (v1 + 1)), (2, .int k0), (0, .ref (q 0))]) C dX8_fans_72 (k := 2) rfl rfl (by decide) rfl ?_
    refine tw_goto (tgt := 2) C dX8_fans_75 (by decide) ?_
    refine tw_sub [2, 0] rfl ?_
    exact hrec (v1 + 1) st hf
  · have hf := tw_pos hf c24002
    refine tw_aload_n C dX8_fans_34 1 rfl rfl ?_
    refine tw_get (K := RX8) (T := TX8) (N := 37) (v := .ref (q 4)) C 0 4 (fun _ h => List.mem_cons_of_mem _ (List.mem_append_right _ (h))) rfl rfl (by decide) (List.mem_cons_of_mem _ (List.mem_append_left _ (List.mem_of_getElem? (i := 2) rfl))) rfl rfl dX8_fans_35 ?_
    refine tw_iload_n C dX8_fans_38 2 rfl rfl ?_
    refine tw_dup2 C dX8_fans_39 rfl rfl ?_
    obtain ⟨hb24003, hf⟩ := tw_ck hf
    refine tw_iald C 4 0 hb24003 rfl rfl dX8_fans_40 ?_
    refine tw_iload_n C dX8_fans_41 0 rfl rfl ?_
    refine tw_aload_n C dX8_fans_42 1 rfl rfl ?_
    refine tw_get (K := RX8) (T := TX8) (N := 37) (v := .ref (q 4)) C 0 4 (fun _ h => List.mem_cons_of_mem _ (List.mem_append_right _ (h))) rfl rfl (by decide) (List.mem_cons_of_mem _ (List.mem_append_left _ (List.mem_of_getElem? (i := 2) rfl))) rfl rfl dX8_fans_43 ?_
    refine tw_iload_n C dX8_fans_46 2 rfl rfl ?_
    obtain ⟨hb24004, hf⟩ := tw_ck hf
    refine tw_iald C 4 0 hb24004 rfl rfl dX8_fans_47 ?_
    refine tw_icmp_le (tgt := 55) C dX8_fans_48 (by decide) (fun c24005 => ?_) (fun c24005 => ?_)
    · have hf := tw_pos hf c24005
      refine tw_iload_n C dX8_fans_55 0 rfl rfl ?_
      refine tw_aload_n C dX8_fans_56 1 rfl rfl ?_
      refine tw_get (K := RX8) (T := TX8) (N := 37) (v := .ref (q 4)) C 0 4 (fun _ h => List.mem_cons_of_mem _ (List.mem_append_right _ (h))) rfl rfl (by decide) (List.mem_cons_of_mem _ (List.mem_append_left _ (List.mem_of_getElem? (i := 2) rfl))) rfl rfl dX8_fans_57 ?_
      refine tw_iload_n C dX8_fans_60 2 rfl rfl ?_
      obtain ⟨hb24006, hf⟩ := tw_ck hf
      refine tw_iald C 4 0 hb24006 rfl rfl dX8_fans_61 ?_
      refine tw_icmp_ge (tgt := 69) C dX8_fans_62 (by decide) (fun c24007 => ?_) (fun c24007 => ?_)
      · have hf := tw_pos hf c24007
        refine tw_iconst (v := 0) C dX8_fans_69 (by decide) ?_
        refine tw_iadd C dX8_fans_70 ?_
        obtain ⟨hb24008, hf⟩ := tw_ck hf
        refine tw_iast C 4 0 hb24008 rfl rfl (tw_M_a4 cI cZ q st v1 ((st.2.1 4 v1.toNatClampNeg) + 0)) dX8_fans_71 ?_
        refine tw_iinc (v := (v1 + 1)) (lv' := [(1, .int (v1 + 1)), (2, .int k0), (0, .ref (q 0))]) C dX8_fans_72 (k := 2) rfl rfl (by decide) rfl ?_
        refine tw_goto (tgt := 2) C dX8_fans_75 (by decide) ?_
        refine tw_sub [2, 0] rfl ?_
        exact hrec (v1 + 1) (twA st 4 v1 ((st.2.1 4 v1.toNatClampNeg) + 0)) hf
      · have hf := tw_neg hf c24007
        refine tw_iconst (v := (-1)) C dX8_fans_65 (by decide) ?_
        refine tw_goto (tgt := 70) C dX8_fans_66 (by decide) ?_
        refine tw_iadd C dX8_fans_70 ?_
        obtain ⟨hb24009, hf⟩ := tw_ck hf
        refine tw_iast C 4 0 hb24009 rfl rfl (tw_M_a4 cI cZ q st v1 ((st.2.1 4 v1.toNatClampNeg) + (-1))) dX8_fans_71 ?_
        refine tw_iinc (v := (v1 + 1)) (lv' := [(1, .int (v1 + 1)), (2, .int k0), (0, .ref (q 0))]) C dX8_fans_72 (k := 2) rfl rfl (by decide) rfl ?_
        refine tw_goto (tgt := 2) C dX8_fans_75 (by decide) ?_
        refine tw_sub [2, 0] rfl ?_
        exact hrec (v1 + 1) (twA st 4 v1 ((st.2.1 4 v1.toNatClampNeg) + (-1))) hf
    · have hf := tw_neg hf c24005
      refine tw_iconst (v := 1) C dX8_fans_51 (by decide) ?_
      refine tw_goto (tgt := 70) C dX8_fans_52 (by decide) ?_
      refine tw_iadd C dX8_fans_70 ?_
      obtain ⟨hb24010, hf⟩ := tw_ck hf
      refine tw_iast C 4 0 hb24010 rfl rfl (tw_M_a4 cI cZ q st v1 ((st.2.1 4 v1.toNatClampNeg) + 1)) dX8_fans_71 ?_
      refine tw_iinc (v := (v1 + 1)) (lv' := [(1, .int (v1 + 1)), (2, .int k0), (0, .ref (q 0))]) C dX8_fans_72 (k := 2) rfl rfl (by decide) rfl ?_
      refine tw_goto (tgt := 2) C dX8_fans_75 (by decide) ?_
      refine tw_sub [2, 0] rfl ?_
      exact hrec (v1 + 1) (twA st 4 v1 ((st.2.1 4 v1.toNatClampNeg) + 1)) hf
set_option maxRecDepth 20000 in
theorem m_X8_fans_L2b (C : twC p s m args meth c cX8_fans 3 RX8 wsX8_fans (dC, dI) (twY cI cZ) A) (hE : twEv p l e rm_X8_fans s m args below meth c 0 0 Q (dC, dI) A 3 cX8_fans (twM cI cZ q res)) {rec : Int32 → twS → Option (twS)} (hrec : ∀ (v1 : Int32) (st : twS), rec v1 st = some res → twG p l e rm_X8_fans s m args below meth c 0 0 Q (dC, dI) A 3 (twM cI cZ q st) 2 [(0, .ref (q 0)), (1, .int v1)] []) : ∀ (v1 : Int32) (st : twS), f_X8_fans_L2b rec v1 st = some res → twG p l e rm_X8_fans s m args below meth c 0 0 Q (dC, dI) A 3 (twM cI cZ q st) 2 [(0, .ref (q 0)), (1, .int v1)] [] := by
  intro v1 st hf
  unfold f_X8_fans_L2b at hf
  refine tw_iload_n C dX8_fans_2 1 rfl rfl ?_
  refine tw_iconst (v := 3) C dX8_fans_3 (by decide) ?_
  refine tw_icmp_ge (tgt := 78) C dX8_fans_4 (by decide) (fun c2001 => ?_) (fun c2001 => ?_)
  · have hf := tw_pos hf c2001
    exact tw_endv (Wf := twM cI cZ q) hE hf dX8_fans_78
  · have hf := tw_neg hf c2001
    refine tw_aload_n C dX8_fans_7 0 rfl rfl ?_
    obtain ⟨y2002, hc2002, hf⟩ := tw_bd hf
    refine tw_cVi (As := []) (stk := []) C (c_X8_hasPower l dC dI cI cZ q hc2002) (cwV 0 C.hts gX8_fans_X8_hasPower rfl rfl rfl hd_X8_hasPower ⟨Nat.le_of_ble_eq_true rfl, Nat.le_of_ble_eq_true rfl⟩) 0 (ci := 8) rfl rfl rfl rfl rfl (Nat.le_of_ble_eq_true rfl) dX8_fans_8 ⟨Nat.zero_le _, Nat.zero_le _⟩ ?_
    refine tw_if_eq (tgt := 23) C dX8_fans_11 (by decide) (fun c2003 => ?_) (fun c2003 => ?_)
    · have hf := tw_pos hf c2003
      refine tw_iconst (v := 0) C dX8_fans_23 (by decide) ?_
      exact m_X8_fans_L24 C hE hrec v1 0 y2002.2 hf
    · have hf := tw_neg hf c2003
      refine tw_aload_n C dX8_fans_14 0 rfl rfl ?_
      refine tw_get (K := RX8) (T := TX8) (N := 37) (v := .ref (q 3)) C 0 3 (fun _ h => List.mem_cons_of_mem _ (List.mem_append_right _ (h))) rfl rfl (by decide) (List.mem_cons_of_mem _ (List.mem_append_left _ (List.mem_of_getElem? (i := 0) rfl))) rfl rfl dX8_fans_15 ?_
      refine tw_iload_n C dX8_fans_18 1 rfl rfl ?_
      obtain ⟨hb2004, hf⟩ := tw_ck hf
      refine tw_iald C 3 0 hb2004 rfl rfl dX8_fans_19 ?_
      refine tw_goto (tgt := 24) C dX8_fans_20 (by decide) ?_
      exact m_X8_fans_L24 C hE hrec v1 (y2002.2.2.1 3 v1.toNatClampNeg) y2002.2 hf
theorem m_X8_fans_L2 (C : twC p s m args meth c cX8_fans 3 RX8 wsX8_fans (dC, dI) (twY cI cZ) A) (hE : twEv p l e rm_X8_fans s m args below meth c 0 0 Q (dC, dI) A 3 cX8_fans (twM cI cZ q res)) : ∀ (n : Nat) (v1 : Int32) (st : twS), f_X8_fans_L2 n v1 st = some res → twG p l e rm_X8_fans s m args below meth c 0 0 Q (dC, dI) A 3 (twM cI cZ q st) 2 [(0, .ref (q 0)), (1, .int v1)] [] := by
  intro n
  induction n with
  | zero =>
    intro v1 st hf
    have hf : none = some res := hf
    cases hf
  | succ n ih =>
    intro v1 st hf
    exact m_X8_fans_L2b C hE ih v1 st hf
set_option maxRecDepth 20000 in
theorem c_X8_fans (l : Launch) (dC : Nat → ClassId) (dI : Nat → Nat → Nat) (cI cZ : ClassId) (q : Nat → Nat) {st : twS} {res : twS} (hf : f_X8_fans st = some res) : twMv l yX8_fans wsX8_fans rm_X8_fans (dC, dI) (twY cI cZ) [.ref (q 0)] (twM cI cZ q st) (twM cI cZ q res) := by
  refine tw_entv (cc := cX8_fans) (maxL := 3) (own := RX8) (by decide) rfl (Nat.le_of_ble_eq_true rfl) rfl ⟨rfl, rfl⟩ ?_
  intro p e s m below meth c A Q C hE
  generalize ([.ref (q 0)] : List Value).toArray = args at C hE ⊢
  refine tw_sub (lv' := [(0, .ref (q 0))]) [0] rfl ?_
  unfold f_X8_fans at hf
  refine tw_iconst (v := 0) C dX8_fans_0 (by decide) ?_
  refine tw_istore_n (lv' := [(1, .int 0), (0, .ref (q 0))]) C dX8_fans_1 rfl (by decide) rfl ?_
  refine tw_sub [1, 0] rfl ?_
  exact m_X8_fans_L2 C hE twN 0 st hf
end
/-! X8_flows: private void flows() -/
abbrev rm_X8_flows : Room := { frames := 0, cells := 0, slots := 0, locals := 0 }
def f_X8_flows_L65 (k0 : Int32) (st : twS) : Option (twS) :=
  (if twn (FP.dsub (FP.i2d k0) st.2.2.2) = true then (if twn (FP.ddiv (FP.dsub (FP.i2d k0) st.2.2.2) 4616189618054758400) = true then (if twn (FP.dadd st.2.2.2 (FP.ddiv (FP.dsub (FP.i2d k0) st.2.2.2) 4616189618054758400)) = true then some (twD st (FP.dadd st.2.2.2 (FP.ddiv (FP.dsub (FP.i2d k0) st.2.2.2) 4616189618054758400))) else none) else none) else none)
def f_X8_flows_L40 (k0 : Int32) (k1 : Int32) (st : twS) : Option (twS) :=
  (if (-90) ≤ (k1 + k0) then
    (if (k1 + k0) ≤ 90 then
    f_X8_flows_L65 (k1 + k0) st
  else
    f_X8_flows_L65 90 st)
  else
    f_X8_flows_L65 (-90) st)
def f_X8_flows (st : twS) : Option (twS) :=
  (if twb 0 3 = true then (if twb 1 3 = true then (if twb 2 3 = true then (if (st.1 12) = 0 then
    f_X8_flows_L40 5 ((15 * (((st.2.1 4 (0 : Int32).toNatClampNeg) + (st.2.1 4 (1 : Int32).toNatClampNeg)) + (st.2.1 4 (2 : Int32).toNatClampNeg))) + (st.1 15)) st
  else
    f_X8_flows_L40 0 ((15 * (((st.2.1 4 (0 : Int32).toNatClampNeg) + (st.2.1 4 (1 : Int32).toNatClampNeg)) + (st.2.1 4 (2 : Int32).toNatClampNeg))) + (st.1 15)) st) else none) else none) else none)
section
variable {p : Program} {l : Launch} {e : Env} {s : State} {m : MethodId} {args : Array Value} {below : List Frame} {meth : Method} {c : Code} {Q : State → Prop} {dC : Nat → ClassId} {dI : Nat → Nat → Nat} {cI cZ : ClassId} {q : Nat → Nat} {A : Nat → Prop} {res : twS}
set_option maxRecDepth 20000 in
theorem m_X8_flows_L65 (C : twC p s m args meth c cX8_flows 2 RX8 wsX8_flows (dC, dI) (twY cI cZ) A) (hE : twEv p l e rm_X8_flows s m args below meth c 0 0 Q (dC, dI) A 2 cX8_flows (twM cI cZ q res)) : ∀ (k0 : Int32) (st : twS), f_X8_flows_L65 k0 st = some res → twG p l e rm_X8_flows s m args below meth c 0 0 Q (dC, dI) A 2 (twM cI cZ q st) 65 [(0, .ref (q 0))] [.int k0] := by
  intro k0 st hf
  unfold f_X8_flows_L65 at hf
  refine tw_istore_n (lv' := [(1, .int k0), (0, .ref (q 0))]) C dX8_flows_65 rfl (by decide) rfl ?_
  refine tw_aload_n C dX8_flows_66 1 rfl rfl ?_
  refine tw_aload_n C dX8_flows_67 1 rfl rfl ?_
  refine tw_get (K := RX8) (T := TX8) (N := 37) (v := .double st.2.2.2) C 0 16 (fun _ h => List.mem_cons_of_mem _ (List.mem_append_right _ (h))) rfl rfl (by decide) (List.mem_cons_of_mem _ (List.mem_append_left _ (List.mem_of_getElem? (i := 3) rfl))) rfl rfl dX8_flows_68 ?_
  refine tw_iload_n C dX8_flows_71 0 rfl rfl ?_
  refine tw_i2d C dX8_flows_72 ?_
  refine tw_aload_n C dX8_flows_73 1 rfl rfl ?_
  refine tw_get (K := RX8) (T := TX8) (N := 37) (v := .double st.2.2.2) C 0 16 (fun _ h => List.mem_cons_of_mem _ (List.mem_append_right _ (h))) rfl rfl (by decide) (List.mem_cons_of_mem _ (List.mem_append_left _ (List.mem_of_getElem? (i := 3) rfl))) rfl rfl dX8_flows_74 ?_
  obtain ⟨hn65001, hf⟩ := tw_ck hf
  refine tw_dsub C dX8_flows_77 hn65001 ?_
  refine tw_ldc2d C (List.mem_cons_of_mem _ (List.mem_append_left _ (List.mem_of_getElem? (i := 4) rfl))) dX8_flows_78 ?_
  obtain ⟨hn65002, hf⟩ := tw_ck hf
  refine tw_ddiv C dX8_flows_81 hn65002 ?_
  obtain ⟨hn65003, hf⟩ := tw_ck hf
  refine tw_dadd C dX8_flows_82 hn65003 ?_
  refine tw_put (K := RX8) (T := TX8) (N := 37) C 0 16 tyX8 tyX8_ok nmX8 (fun _ h => List.mem_cons_of_mem _ (List.mem_append_right _ (h))) rfl rfl (by decide) (List.mem_cons_of_mem _ (List.mem_append_left _ (List.mem_of_getElem? (i := 3) rfl))) rfl rfl rfl rfl (Nat.le_of_ble_eq_true rfl) (tw_M_sd cI cZ q st (FP.dadd st.2.2.2 (FP.ddiv (FP.dsub (FP.i2d k0) st.2.2.2) 4616189618054758400))) dX8_flows_83 ?_
  exact tw_endv (Wf := twM cI cZ q) hE hf dX8_flows_86
set_option maxRecDepth 20000 in
theorem m_X8_flows_L40 (C : twC p s m args meth c cX8_flows 2 RX8 wsX8_flows (dC, dI) (twY cI cZ) A) (hE : twEv p l e rm_X8_flows s m args below meth c 0 0 Q (dC, dI) A 2 cX8_flows (twM cI cZ q res)) : ∀ (k0 : Int32) (k1 : Int32) (st : twS), f_X8_flows_L40 k0 k1 st = some res → twG p l e rm_X8_flows s m args below meth c 0 0 Q (dC, dI) A 2 (twM cI cZ q st) 40 [(0, .ref (q 0))] [.int k0, .int k1] := by
  intro k0 k1 st hf
  unfold f_X8_flows_L40 at hf
  refine tw_iadd C dX8_flows_40 ?_
  refine tw_istore_n (lv' := [(1, .int (k1 + k0)), (0, .ref (q 0))]) C dX8_flows_41 rfl (by decide) rfl ?_
  refine tw_iload_n C dX8_flows_42 0 rfl rfl ?_
  refine tw_bipush (v := (-90)) C dX8_flows_43 (by decide) ?_
  refine tw_icmp_ge (tgt := 53) C dX8_flows_45 (by decide) (fun c40001 => ?_) (fun c40001 => ?_)
  · have hf := tw_pos hf c40001
    refine tw_iload_n C dX8_flows_53 0 rfl rfl ?_
    refine tw_bipush (v := 90) C dX8_flows_54 (by decide) ?_
    refine tw_icmp_le (tgt := 64) C dX8_flows_56 (by decide) (fun c40002 => ?_) (fun c40002 => ?_)
    · have hf := tw_pos hf c40002
      refine tw_iload_n C dX8_flows_64 0 rfl rfl ?_
      refine tw_sub [1] rfl ?_
      exact m_X8_flows_L65 C hE (k1 + k0) st hf
    · have hf := tw_neg hf c40002
      refine tw_bipush (v := 90) C dX8_flows_59 (by decide) ?_
      refine tw_goto (tgt := 65) C dX8_flows_61 (by decide) ?_
      refine tw_sub [1] rfl ?_
      exact m_X8_flows_L65 C hE 90 st hf
  · have hf := tw_neg hf c40001
    refine tw_bipush (v := (-90)) C dX8_flows_48 (by decide) ?_
    refine tw_goto (tgt := 65) C dX8_flows_50 (by decide) ?_
    refine tw_sub [1] rfl ?_
    exact m_X8_flows_L65 C hE (-90) st hf
set_option maxRecDepth 20000 in
theorem c_X8_flows (l : Launch) (dC : Nat → ClassId) (dI : Nat → Nat → Nat) (cI cZ : ClassId) (q : Nat → Nat) {st : twS} {res : twS} (hf : f_X8_flows st = some res) : twMv l yX8_flows wsX8_flows rm_X8_flows (dC, dI) (twY cI cZ) [.ref (q 0)] (twM cI cZ q st) (twM cI cZ q res) := by
  refine tw_entv (cc := cX8_flows) (maxL := 2) (own := RX8) (by decide) rfl (Nat.le_of_ble_eq_true rfl) rfl ⟨rfl, rfl⟩ ?_
  intro p e s m below meth c A Q C hE
  generalize ([.ref (q 0)] : List Value).toArray = args at C hE ⊢
  refine tw_sub (lv' := [(0, .ref (q 0))]) [0] rfl ?_
  unfold f_X8_flows at hf
  refine tw_bipush (v := 15) C dX8_flows_0 (by decide) ?_
  refine tw_aload_n C dX8_flows_2 0 rfl rfl ?_
  refine tw_get (K := RX8) (T := TX8) (N := 37) (v := .ref (q 4)) C 0 4 (fun _ h => List.mem_cons_of_mem _ (List.mem_append_right _ (h))) rfl rfl (by decide) (List.mem_cons_of_mem _ (List.mem_append_left _ (List.mem_of_getElem? (i := 0) rfl))) rfl rfl dX8_flows_3 ?_
  refine tw_iconst (v := 0) C dX8_flows_6 (by decide) ?_
  obtain ⟨hb1, hf⟩ := tw_ck hf
  refine tw_iald C 4 0 hb1 rfl rfl dX8_flows_7 ?_
  refine tw_aload_n C dX8_flows_8 0 rfl rfl ?_
  refine tw_get (K := RX8) (T := TX8) (N := 37) (v := .ref (q 4)) C 0 4 (fun _ h => List.mem_cons_of_mem _ (List.mem_append_right _ (h))) rfl rfl (by decide) (List.mem_cons_of_mem _ (List.mem_append_left _ (List.mem_of_getElem? (i := 0) rfl))) rfl rfl dX8_flows_9 ?_
  refine tw_iconst (v := 1) C dX8_flows_12 (by decide) ?_
  obtain ⟨hb2, hf⟩ := tw_ck hf
  refine tw_iald C 4 0 hb2 rfl rfl dX8_flows_13 ?_
  refine tw_iadd C dX8_flows_14 ?_
  refine tw_aload_n C dX8_flows_15 0 rfl rfl ?_
  refine tw_get (K := RX8) (T := TX8) (N := 37) (v := .ref (q 4)) C 0 4 (fun _ h => List.mem_cons_of_mem _ (List.mem_append_right _ (h))) rfl rfl (by decide) (List.mem_cons_of_mem _ (List.mem_append_left _ (List.mem_of_getElem? (i := 0) rfl))) rfl rfl dX8_flows_16 ?_
  refine tw_iconst (v := 2) C dX8_flows_19 (by decide) ?_
  obtain ⟨hb3, hf⟩ := tw_ck hf
  refine tw_iald C 4 0 hb3 rfl rfl dX8_flows_20 ?_
  refine tw_iadd C dX8_flows_21 ?_
  refine tw_imul C dX8_flows_22 ?_
  refine tw_aload_n C dX8_flows_23 0 rfl rfl ?_
  refine tw_get (K := RX8) (T := TX8) (N := 37) (v := .int (st.1 15)) C 0 15 (fun _ h => List.mem_cons_of_mem _ (List.mem_append_right _ (h))) rfl rfl (by decide) (List.mem_cons_of_mem _ (List.mem_append_left _ (List.mem_of_getElem? (i := 1) rfl))) rfl rfl dX8_flows_24 ?_
  refine tw_iadd C dX8_flows_27 ?_
  refine tw_aload_n C dX8_flows_28 0 rfl rfl ?_
  refine tw_get (K := RX8) (T := TX8) (N := 37) (v := .int (st.1 12)) C 0 12 (fun _ h => List.mem_cons_of_mem _ (List.mem_append_right _ (h))) rfl rfl (by decide) (List.mem_cons_of_mem _ (List.mem_append_left _ (List.mem_of_getElem? (i := 2) rfl))) rfl rfl dX8_flows_29 ?_
  refine tw_if_eq (tgt := 39) C dX8_flows_32 (by decide) (fun c4 => ?_) (fun c4 => ?_)
  · have hf := tw_pos hf c4
    refine tw_iconst (v := 5) C dX8_flows_39 (by decide) ?_
    exact m_X8_flows_L40 C hE 5 ((15 * (((st.2.1 4 (0 : Int32).toNatClampNeg) + (st.2.1 4 (1 : Int32).toNatClampNeg)) + (st.2.1 4 (2 : Int32).toNatClampNeg))) + (st.1 15)) st hf
  · have hf := tw_neg hf c4
    refine tw_iconst (v := 0) C dX8_flows_35 (by decide) ?_
    refine tw_goto (tgt := 40) C dX8_flows_36 (by decide) ?_
    exact m_X8_flows_L40 C hE 0 ((15 * (((st.2.1 4 (0 : Int32).toNatClampNeg) + (st.2.1 4 (1 : Int32).toNatClampNeg)) + (st.2.1 4 (2 : Int32).toNatClampNeg))) + (st.1 15)) st hf
end
/-! X8_burns: private void burns() -/
abbrev rm_X8_burns : Room := { frames := 1, cells := 0, slots := 0, locals := 20 }
def f_X8_burns_L91 (v1 : Int32) (st : twS) : Option (twS) :=
  (if twb ((twI st 20 ((st.1 20) + 1)).1 18) 12 = true then (if twb ((twI st 20 ((st.1 20) + 1)).1 18) 12 = true then (if twb ((twA (twI st 20 ((st.1 20) + 1)) 1 ((twI st 20 ((st.1 20) + 1)).1 18) (((twI st 20 ((st.1 20) + 1)).2.1 1 ((twI st 20 ((st.1 20) + 1)).1 18).toNatClampNeg) + v1)).1 18) 12 = true then (if twb ((twA (twI st 20 ((st.1 20) + 1)) 1 ((twI st 20 ((st.1 20) + 1)).1 18) (((twI st 20 ((st.1 20) + 1)).2.1 1 ((twI st 20 ((st.1 20) + 1)).1 18).toNatClampNeg) + v1)).1 18) 12 = true then some (twI (twA (twA (twI st 20 ((st.1 20) + 1)) 1 ((twI st 20 ((st.1 20) + 1)).1 18) (((twI st 20 ((st.1 20) + 1)).2.1 1 ((twI st 20 ((st.1 20) + 1)).1 18).toNatClampNeg) + v1)) 2 ((twA (twI st 20 ((st.1 20) + 1)) 1 ((twI st 20 ((st.1 20) + 1)).1 18) (((twI st 20 ((st.1 20) + 1)).2.1 1 ((twI st 20 ((st.1 20) + 1)).1 18).toNatClampNeg) + v1)).1 18) (((twA (twI st 20 ((st.1 20) + 1)) 1 ((twI st 20 ((st.1 20) + 1)).1 18) (((twI st 20 ((st.1 20) + 1)).2.1 1 ((twI st 20 ((st.1 20) + 1)).1 18).toNatClampNeg) + v1)).2.1 2 ((twA (twI st 20 ((st.1 20) + 1)) 1 ((twI st 20 ((st.1 20) + 1)).1 18) (((twI st 20 ((st.1 20) + 1)).2.1 1 ((twI st 20 ((st.1 20) + 1)).1 18).toNatClampNeg) + v1)).1 18).toNatClampNeg) + v1)) 21 (((twA (twA (twI st 20 ((st.1 20) + 1)) 1 ((twI st 20 ((st.1 20) + 1)).1 18) (((twI st 20 ((st.1 20) + 1)).2.1 1 ((twI st 20 ((st.1 20) + 1)).1 18).toNatClampNeg) + v1)) 2 ((twA (twI st 20 ((st.1 20) + 1)) 1 ((twI st 20 ((st.1 20) + 1)).1 18) (((twI st 20 ((st.1 20) + 1)).2.1 1 ((twI st 20 ((st.1 20) + 1)).1 18).toNatClampNeg) + v1)).1 18) (((twA (twI st 20 ((st.1 20) + 1)) 1 ((twI st 20 ((st.1 20) + 1)).1 18) (((twI st 20 ((st.1 20) + 1)).2.1 1 ((twI st 20 ((st.1 20) + 1)).1 18).toNatClampNeg) + v1)).2.1 2 ((twA (twI st 20 ((st.1 20) + 1)) 1 ((twI st 20 ((st.1 20) + 1)).1 18) (((twI st 20 ((st.1 20) + 1)).2.1 1 ((twI st 20 ((st.1 20) + 1)).1 18).toNatClampNeg) + v1)).1 18).toNatClampNeg) + v1)).1 21) + v1)) else none) else none) else none) else none)
def f_X8_burns_L55 (k0 : Int32) (st : twS) : Option (twS) :=
  (if (st.1 11) = 0 then
    f_X8_burns_L91 k0 st
  else
    (if (st.1 14) ≤ 0 then
    f_X8_burns_L91 k0 st
  else
    ((f_X8_hasPower st).bind fun y55003 => (if y55003.1 = 0 then
    f_X8_burns_L91 k0 y55003.2
  else
    f_X8_burns_L91 (k0 / 2) (twI y55003.2 14 ((y55003.2.1 14) - 1))))))
def f_X8_burns_L38 (k0 : Int32) (st : twS) : Option (twS) :=
  (if (st.1 19) ≤ k0 then
    f_X8_burns_L55 (st.1 19) st
  else
    f_X8_burns_L55 k0 st)
def f_X8_burns (st : twS) : Option (twS) :=
  (if (st.1 18) = (-1) then
    some st
  else
    (if (st.1 20) ≤ 100 then
    f_X8_burns_L38 (1 + (((st.1 20) * (st.1 20)) / 4)) st
  else
    f_X8_burns_L38 (st.1 19) st))
section
variable {p : Program} {l : Launch} {e : Env} {s : State} {m : MethodId} {args : Array Value} {below : List Frame} {meth : Method} {c : Code} {Q : State → Prop} {dC : Nat → ClassId} {dI : Nat → Nat → Nat} {cI cZ : ClassId} {q : Nat → Nat} {A : Nat → Prop} {res : twS}
set_option maxRecDepth 20000 in
theorem m_X8_burns_L91 (C : twC p s m args meth c cX8_burns 2 RX8 wsX8_burns (dC, dI) (twY cI cZ) A) (hE : twEv p l e rm_X8_burns s m args below meth c 0 0 Q (dC, dI) A 2 cX8_burns (twM cI cZ q res)) : ∀ (v1 : Int32) (st : twS), f_X8_burns_L91 v1 st = some res → twG p l e rm_X8_burns s m args below meth c 0 0 Q (dC, dI) A 2 (twM cI cZ q st) 91 [(0, .ref (q 0)), (1, .int v1)] [] := by
  intro v1 st hf
  unfold f_X8_burns_L91 at hf
  refine tw_aload_n C dX8_burns_91 0 rfl rfl ?_
  refine tw_dup C dX8_burns_92 rfl ?_
  refine tw_get (K := RX8) (T := TX8) (N := 37) (v := .int (st.1 20)) C 0 20 (fun _ h => List.mem_cons_of_mem _ (List.mem_append_right _ (h))) rfl rfl (by decide) (List.mem_cons_of_mem _ (List.mem_append_left _ (List.mem_of_getElem? (i := 1) rfl))) rfl rfl dX8_burns_93 ?_
  refine tw_iconst (v := 1) C dX8_burns_96 (by decide) ?_
  refine tw_iadd C dX8_burns_97 ?_
  refine tw_put (K := RX8) (T := TX8) (N := 37) C 0 20 tyX8 tyX8_ok nmX8 (fun _ h => List.mem_cons_of_mem _ (List.mem_append_right _ (h))) rfl rfl (by decide) (List.mem_cons_of_mem _ (List.mem_append_left _ (List.mem_of_getElem? (i := 1) rfl))) rfl rfl rfl rfl (Nat.le_of_ble_eq_true rfl) (tw_M_si20 cI cZ q st ((st.1 20) + 1)) dX8_burns_98 ?_
  refine tw_aload_n C dX8_burns_101 0 rfl rfl ?_
  refine tw_get (K := RX8) (T := TX8) (N := 37) (v := .ref (q 1)) C 0 1 (fun _ h => List.mem_cons_of_mem _ (List.mem_append_right _ (h))) rfl rfl (by decide) (List.mem_cons_of_mem _ (List.mem_append_left _ (List.mem_of_getElem? (i := 5) rfl))) rfl rfl dX8_burns_102 ?_
  refine tw_aload_n C dX8_burns_105 0 rfl rfl ?_
  refine tw_get (K := RX8) (T := TX8) (N := 37) (v := .int ((twI st 20 ((st.1 20) + 1)).1 18)) C 0 18 (fun _ h => List.mem_cons_of_mem _ (List.mem_append_right _ (h))) rfl rfl (by decide) (List.mem_cons_of_mem _ (List.mem_append_left _ (List.mem_of_getElem? (i := 0) rfl))) rfl rfl dX8_burns_106 ?_
  refine tw_dup2 C dX8_burns_109 rfl rfl ?_
  obtain ⟨hb91001, hf⟩ := tw_ck hf
  refine tw_iald C 1 0 hb91001 rfl rfl dX8_burns_110 ?_
  refine tw_iload_n C dX8_burns_111 1 rfl rfl ?_
  refine tw_iadd C dX8_burns_112 ?_
  obtain ⟨hb91002, hf⟩ := tw_ck hf
  refine tw_iast C 1 0 hb91002 rfl rfl (tw_M_a1 cI cZ q (twI st 20 ((st.1 20) + 1)) ((twI st 20 ((st.1 20) + 1)).1 18) (((twI st 20 ((st.1 20) + 1)).2.1 1 ((twI st 20 ((st.1 20) + 1)).1 18).toNatClampNeg) + v1)) dX8_burns_113 ?_
  refine tw_aload_n C dX8_burns_114 0 rfl rfl ?_
  refine tw_get (K := RX8) (T := TX8) (N := 37) (v := .ref (q 2)) C 0 2 (fun _ h => List.mem_cons_of_mem _ (List.mem_append_right _ (h))) rfl rfl (by decide) (List.mem_cons_of_mem _ (List.mem_append_left _ (List.mem_of_getElem? (i := 6) rfl))) rfl rfl dX8_burns_115 ?_
  refine tw_aload_n C dX8_burns_118 0 rfl rfl ?_
  refine tw_get (K := RX8) (T := TX8) (N := 37) (v := .int ((twA (twI st 20 ((st.1 20) + 1)) 1 ((twI st 20 ((st.1 20) + 1)).1 18) (((twI st 20 ((st.1 20) + 1)).2.1 1 ((twI st 20 ((st.1 20) + 1)).1 18).toNatClampNeg) + v1)).1 18)) C 0 18 (fun _ h => List.mem_cons_of_mem _ (List.mem_append_right _ (h))) rfl rfl (by decide) (List.mem_cons_of_mem _ (List.mem_append_left _ (List.mem_of_getElem? (i := 0) rfl))) rfl rfl dX8_burns_119 ?_
  refine tw_dup2 C dX8_burns_122 rfl rfl ?_
  obtain ⟨hb91003, hf⟩ := tw_ck hf
  refine tw_iald C 2 0 hb91003 rfl rfl dX8_burns_123 ?_
  refine tw_iload_n C dX8_burns_124 1 rfl rfl ?_
  refine tw_iadd C dX8_burns_125 ?_
  obtain ⟨hb91004, hf⟩ := tw_ck hf
  refine tw_iast C 2 0 hb91004 rfl rfl (tw_M_a2 cI cZ q (twA (twI st 20 ((st.1 20) + 1)) 1 ((twI st 20 ((st.1 20) + 1)).1 18) (((twI st 20 ((st.1 20) + 1)).2.1 1 ((twI st 20 ((st.1 20) + 1)).1 18).toNatClampNeg) + v1)) ((twA (twI st 20 ((st.1 20) + 1)) 1 ((twI st 20 ((st.1 20) + 1)).1 18) (((twI st 20 ((st.1 20) + 1)).2.1 1 ((twI st 20 ((st.1 20) + 1)).1 18).toNatClampNeg) + v1)).1 18) (((twA (twI st 20 ((st.1 20) + 1)) 1 ((twI st 20 ((st.1 20) + 1)).1 18) (((twI st 20 ((st.1 20) + 1)).2.1 1 ((twI st 20 ((st.1 20) + 1)).1 18).toNatClampNeg) + v1)).2.1 2 ((twA (twI st 20 ((st.1 20) + 1)) 1 ((twI st 20 ((st.1 20) + 1)).1 18) (((twI st 20 ((st.1 20) + 1)).2.1 1 ((twI st 20 ((st.1 20) + 1)).1 18).toNatClampNeg) + v1)).1 18).toNatClampNeg) + v1)) dX8_burns_126 ?_
  refine tw_aload_n C dX8_burns_127 0 rfl rfl ?_
  refine tw_dup C dX8_burns_128 rfl ?_
  refine tw_get (K := RX8) (T := TX8) (N := 37) (v := .int ((twA (twA (twI st 20 ((st.1 20) + 1)) 1 ((twI st 20 ((st.1 20) + 1)).1 18) (((twI st 20 ((st.1 20) + 1)).2.1 1 ((twI st 20 ((st.1 20) + 1)).1 18).toNatClampNeg) + v1)) 2 ((twA (twI st 20 ((st.1 20) + 1)) 1 ((twI st 20 ((st.1 20) + 1)).1 18) (((twI st 20 ((st.1 20) + 1)).2.1 1 ((twI st 20 ((st.1 20) + 1)).1 18).toNatClampNeg) + v1)).1 18) (((twA (twI st 20 ((st.1 20) + 1)) 1 ((twI st 20 ((st.1 20) + 1)).1 18) (((twI st 20 ((st.1 20) + 1)).2.1 1 ((twI st 20 ((st.1 20) + 1)).1 18).toNatClampNeg) + v1)).2.1 2 ((twA (twI st 20 ((st.1 20) + 1)) 1 ((twI st 20 ((st.1 20) + 1)).1 18) (((twI st 20 ((st.1 20) + 1)).2.1 1 ((twI st 20 ((st.1 20) + 1)).1 18).toNatClampNeg) + v1)).1 18).toNatClampNeg) + v1)).1 21)) C 0 21 (fun _ h => List.mem_cons_of_mem _ (List.mem_append_right _ (h))) rfl rfl (by decide) (List.mem_cons_of_mem _ (List.mem_append_left _ (List.mem_of_getElem? (i := 7) rfl))) rfl rfl dX8_burns_129 ?_
  refine tw_iload_n C dX8_burns_132 1 rfl rfl ?_
  refine tw_iadd C dX8_burns_133 ?_
  refine tw_put (K := RX8) (T := TX8) (N := 37) C 0 21 tyX8 tyX8_ok nmX8 (fun _ h => List.mem_cons_of_mem _ (List.mem_append_right _ (h))) rfl rfl (by decide) (List.mem_cons_of_mem _ (List.mem_append_left _ (List.mem_of_getElem? (i := 7) rfl))) rfl rfl rfl rfl (Nat.le_of_ble_eq_true rfl) (tw_M_si21 cI cZ q (twA (twA (twI st 20 ((st.1 20) + 1)) 1 ((twI st 20 ((st.1 20) + 1)).1 18) (((twI st 20 ((st.1 20) + 1)).2.1 1 ((twI st 20 ((st.1 20) + 1)).1 18).toNatClampNeg) + v1)) 2 ((twA (twI st 20 ((st.1 20) + 1)) 1 ((twI st 20 ((st.1 20) + 1)).1 18) (((twI st 20 ((st.1 20) + 1)).2.1 1 ((twI st 20 ((st.1 20) + 1)).1 18).toNatClampNeg) + v1)).1 18) (((twA (twI st 20 ((st.1 20) + 1)) 1 ((twI st 20 ((st.1 20) + 1)).1 18) (((twI st 20 ((st.1 20) + 1)).2.1 1 ((twI st 20 ((st.1 20) + 1)).1 18).toNatClampNeg) + v1)).2.1 2 ((twA (twI st 20 ((st.1 20) + 1)) 1 ((twI st 20 ((st.1 20) + 1)).1 18) (((twI st 20 ((st.1 20) + 1)).2.1 1 ((twI st 20 ((st.1 20) + 1)).1 18).toNatClampNeg) + v1)).1 18).toNatClampNeg) + v1)) (((twA (twA (twI st 20 ((st.1 20) + 1)) 1 ((twI st 20 ((st.1 20) + 1)).1 18) (((twI st 20 ((st.1 20) + 1)).2.1 1 ((twI st 20 ((st.1 20) + 1)).1 18).toNatClampNeg) + v1)) 2 ((twA (twI st 20 ((st.1 20) + 1)) 1 ((twI st 20 ((st.1 20) + 1)).1 18) (((twI st 20 ((st.1 20) + 1)).2.1 1 ((twI st 20 ((st.1 20) + 1)).1 18).toNatClampNeg) + v1)).1 18) (((twA (twI st 20 ((st.1 20) + 1)) 1 ((twI st 20 ((st.1 20) + 1)).1 18) (((twI st 20 ((st.1 20) + 1)).2.1 1 ((twI st 20 ((st.1 20) + 1)).1 18).toNatClampNeg) + v1)).2.1 2 ((twA (twI st 20 ((st.1 20) + 1)) 1 ((twI st 20 ((st.1 20) + 1)).1 18) (((twI st 20 ((st.1 20) + 1)).2.1 1 ((twI st 20 ((st.1 20) + 1)).1 18).toNatClampNeg) + v1)).1 18).toNatClampNeg) + v1)).1 21) + v1)) dX8_burns_134 ?_
  exact tw_endv (Wf := twM cI cZ q) hE hf dX8_burns_137
set_option maxRecDepth 20000 in
theorem m_X8_burns_L55 (C : twC p s m args meth c cX8_burns 2 RX8 wsX8_burns (dC, dI) (twY cI cZ) A) (hE : twEv p l e rm_X8_burns s m args below meth c 0 0 Q (dC, dI) A 2 cX8_burns (twM cI cZ q res)) : ∀ (k0 : Int32) (st : twS), f_X8_burns_L55 k0 st = some res → twG p l e rm_X8_burns s m args below meth c 0 0 Q (dC, dI) A 2 (twM cI cZ q st) 55 [(0, .ref (q 0))] [.int k0] := by
  intro k0 st hf
  unfold f_X8_burns_L55 at hf
  refine tw_istore_n (lv' := [(1, .int k0), (0, .ref (q 0))]) C dX8_burns_55 rfl (by decide) rfl ?_
  refine tw_aload_n C dX8_burns_56 1 rfl rfl ?_
  refine tw_get (K := RX8) (T := TX8) (N := 37) (v := .int (st.1 11)) C 0 11 (fun _ h => List.mem_cons_of_mem _ (List.mem_append_right _ (h))) rfl rfl (by decide) (List.mem_cons_of_mem _ (List.mem_append_left _ (List.mem_of_getElem? (i := 3) rfl))) rfl rfl dX8_burns_57 ?_
  refine tw_if_eq (tgt := 91) C dX8_burns_60 (by decide) (fun c55001 => ?_) (fun c55001 => ?_)
  · have hf := tw_pos hf c55001
    refine tw_sub [1, 0] rfl ?_
    exact m_X8_burns_L91 C hE k0 st hf
  · have hf := tw_neg hf c55001
    refine tw_aload_n C dX8_burns_63 1 rfl rfl ?_
    refine tw_get (K := RX8) (T := TX8) (N := 37) (v := .int (st.1 14)) C 0 14 (fun _ h => List.mem_cons_of_mem _ (List.mem_append_right _ (h))) rfl rfl (by decide) (List.mem_cons_of_mem _ (List.mem_append_left _ (List.mem_of_getElem? (i := 4) rfl))) rfl rfl dX8_burns_64 ?_
    refine tw_if_le (tgt := 91) C dX8_burns_67 (by decide) (fun c55002 => ?_) (fun c55002 => ?_)
    · have hf := tw_pos hf c55002
      refine tw_sub [1, 0] rfl ?_
      exact m_X8_burns_L91 C hE k0 st hf
    · have hf := tw_neg hf c55002
      refine tw_aload_n C dX8_burns_70 1 rfl rfl ?_
      obtain ⟨y55003, hc55003, hf⟩ := tw_bd hf
      refine tw_cVi (As := []) (stk := []) C (c_X8_hasPower l dC dI cI cZ q hc55003) (cwV 0 C.hts gX8_burns_X8_hasPower rfl rfl rfl hd_X8_hasPower ⟨Nat.le_of_ble_eq_true rfl, Nat.le_of_ble_eq_true rfl⟩) 0 (ci := 8) rfl rfl rfl rfl rfl (Nat.le_of_ble_eq_true rfl) dX8_burns_71 ⟨Nat.zero_le _, Nat.zero_le _⟩ ?_
      refine tw_if_eq (tgt := 91) C dX8_burns_74 (by decide) (fun c55004 => ?_) (fun c55004 => ?_)
      · have hf := tw_pos hf c55004
        refine tw_sub [1, 0] rfl ?_
        exact m_X8_burns_L91 C hE k0 y55003.2 hf
      · have hf := tw_neg hf c55004
        refine tw_iload_n C dX8_burns_77 0 rfl rfl ?_
        refine tw_iconst (v := 2) C dX8_burns_78 (by decide) ?_
        refine tw_idiv C dX8_burns_79 (by decide) ?_
        refine tw_istore_n (lv' := [(1, .int (k0 / 2)), (0, .ref (q 0))]) C dX8_burns_80 rfl (by decide) rfl ?_
        refine tw_aload_n C dX8_burns_81 1 rfl rfl ?_
        refine tw_dup C dX8_burns_82 rfl ?_
        refine tw_get (K := RX8) (T := TX8) (N := 37) (v := .int (y55003.2.1 14)) C 0 14 (fun _ h => List.mem_cons_of_mem _ (List.mem_append_right _ (h))) rfl rfl (by decide) (List.mem_cons_of_mem _ (List.mem_append_left _ (List.mem_of_getElem? (i := 4) rfl))) rfl rfl dX8_burns_83 ?_
        refine tw_iconst (v := 1) C dX8_burns_86 (by decide) ?_
        refine tw_isub C dX8_burns_87 ?_
        refine tw_put (K := RX8) (T := TX8) (N := 37) C 0 14 tyX8 tyX8_ok nmX8 (fun _ h => List.mem_cons_of_mem _ (List.mem_append_right _ (h))) rfl rfl (by decide) (List.mem_cons_of_mem _ (List.mem_append_left _ (List.mem_of_getElem? (i := 4) rfl))) rfl rfl rfl rfl (Nat.le_of_ble_eq_true rfl) (tw_M_si14 cI cZ q y55003.2 ((y55003.2.1 14) - 1)) dX8_burns_88 ?_
        refine tw_sub [1, 0] rfl ?_
        exact m_X8_burns_L91 C hE (k0 / 2) (twI y55003.2 14 ((y55003.2.1 14) - 1)) hf
set_option maxRecDepth 20000 in
theorem m_X8_burns_L38 (C : twC p s m args meth c cX8_burns 2 RX8 wsX8_burns (dC, dI) (twY cI cZ) A) (hE : twEv p l e rm_X8_burns s m args below meth c 0 0 Q (dC, dI) A 2 cX8_burns (twM cI cZ q res)) : ∀ (k0 : Int32) (st : twS), f_X8_burns_L38 k0 st = some res → twG p l e rm_X8_burns s m args below meth c 0 0 Q (dC, dI) A 2 (twM cI cZ q st) 38 [(0, .ref (q 0))] [.int k0] := by
  intro k0 st hf
  unfold f_X8_burns_L38 at hf
  refine tw_istore_n (lv' := [(1, .int k0), (0, .ref (q 0))]) C dX8_burns_38 rfl (by decide) rfl ?_
  refine tw_iload_n C dX8_burns_39 0 rfl rfl ?_
  refine tw_aload_n C dX8_burns_40 1 rfl rfl ?_
  refine tw_get (K := RX8) (T := TX8) (N := 37) (v := .int (st.1 19)) C 0 19 (fun _ h => List.mem_cons_of_mem _ (List.mem_append_right _ (h))) rfl rfl (by decide) (List.mem_cons_of_mem _ (List.mem_append_left _ (List.mem_of_getElem? (i := 2) rfl))) rfl rfl dX8_burns_41 ?_
  refine tw_icmp_ge (tgt := 51) C dX8_burns_44 (by decide) (fun c38001 => ?_) (fun c38001 => ?_)
  · have hf := tw_pos hf c38001
    refine tw_aload_n C dX8_burns_51 1 rfl rfl ?_
    refine tw_get (K := RX8) (T := TX8) (N := 37) (v := .int (st.1 19)) C 0 19 (fun _ h => List.mem_cons_of_mem _ (List.mem_append_right _ (h))) rfl rfl (by decide) (List.mem_cons_of_mem _ (List.mem_append_left _ (List.mem_of_getElem? (i := 2) rfl))) rfl rfl dX8_burns_52 ?_
    refine tw_sub [1] rfl ?_
    exact m_X8_burns_L55 C hE (st.1 19) st hf
  · have hf := tw_neg hf c38001
    refine tw_iload_n C dX8_burns_47 0 rfl rfl ?_
    refine tw_goto (tgt := 55) C dX8_burns_48 (by decide) ?_
    refine tw_sub [1] rfl ?_
    exact m_X8_burns_L55 C hE k0 st hf
set_option maxRecDepth 20000 in
theorem c_X8_burns (l : Launch) (dC : Nat → ClassId) (dI : Nat → Nat → Nat) (cI cZ : ClassId) (q : Nat → Nat) {st : twS} {res : twS} (hf : f_X8_burns st = some res) : twMv l yX8_burns wsX8_burns rm_X8_burns (dC, dI) (twY cI cZ) [.ref (q 0)] (twM cI cZ q st) (twM cI cZ q res) := by
  refine tw_entv (cc := cX8_burns) (maxL := 2) (own := RX8) (by decide) rfl (Nat.le_of_ble_eq_true rfl) rfl ⟨rfl, rfl⟩ ?_
  intro p e s m below meth c A Q C hE
  generalize ([.ref (q 0)] : List Value).toArray = args at C hE ⊢
  refine tw_sub (lv' := [(0, .ref (q 0))]) [0] rfl ?_
  unfold f_X8_burns at hf
  refine tw_aload_n C dX8_burns_0 0 rfl rfl ?_
  refine tw_get (K := RX8) (T := TX8) (N := 37) (v := .int (st.1 18)) C 0 18 (fun _ h => List.mem_cons_of_mem _ (List.mem_append_right _ (h))) rfl rfl (by decide) (List.mem_cons_of_mem _ (List.mem_append_left _ (List.mem_of_getElem? (i := 0) rfl))) rfl rfl dX8_burns_1 ?_
  refine tw_iconst (v := (-1)) C dX8_burns_4 (by decide) ?_
  refine tw_icmp_ne (tgt := 9) C dX8_burns_5 (by decide) (fun c1 => ?_) (fun c1 => ?_)
  · have hf := tw_neg hf c1
    refine tw_aload_n C dX8_burns_9 0 rfl rfl ?_
    refine tw_get (K := RX8) (T := TX8) (N := 37) (v := .int (st.1 20)) C 0 20 (fun _ h => List.mem_cons_of_mem _ (List.mem_append_right _ (h))) rfl rfl (by decide) (List.mem_cons_of_mem _ (List.mem_append_left _ (List.mem_of_getElem? (i := 1) rfl))) rfl rfl dX8_burns_10 ?_
    refine tw_bipush (v := 100) C dX8_burns_13 (by decide) ?_
    refine tw_icmp_le (tgt := 25) C dX8_burns_15 (by decide) (fun c2 => ?_) (fun c2 => ?_)
    · have hf := tw_pos hf c2
      refine tw_iconst (v := 1) C dX8_burns_25 (by decide) ?_
      refine tw_aload_n C dX8_burns_26 0 rfl rfl ?_
      refine tw_get (K := RX8) (T := TX8) (N := 37) (v := .int (st.1 20)) C 0 20 (fun _ h => List.mem_cons_of_mem _ (List.mem_append_right _ (h))) rfl rfl (by decide) (List.mem_cons_of_mem _ (List.mem_append_left _ (List.mem_of_getElem? (i := 1) rfl))) rfl rfl dX8_burns_27 ?_
      refine tw_aload_n C dX8_burns_30 0 rfl rfl ?_
      refine tw_get (K := RX8) (T := TX8) (N := 37) (v := .int (st.1 20)) C 0 20 (fun _ h => List.mem_cons_of_mem _ (List.mem_append_right _ (h))) rfl rfl (by decide) (List.mem_cons_of_mem _ (List.mem_append_left _ (List.mem_of_getElem? (i := 1) rfl))) rfl rfl dX8_burns_31 ?_
      refine tw_imul C dX8_burns_34 ?_
      refine tw_iconst (v := 4) C dX8_burns_35 (by decide) ?_
      refine tw_idiv C dX8_burns_36 (by decide) ?_
      refine tw_iadd C dX8_burns_37 ?_
      exact m_X8_burns_L38 C hE (1 + (((st.1 20) * (st.1 20)) / 4)) st hf
    · have hf := tw_neg hf c2
      refine tw_aload_n C dX8_burns_18 0 rfl rfl ?_
      refine tw_get (K := RX8) (T := TX8) (N := 37) (v := .int (st.1 19)) C 0 19 (fun _ h => List.mem_cons_of_mem _ (List.mem_append_right _ (h))) rfl rfl (by decide) (List.mem_cons_of_mem _ (List.mem_append_left _ (List.mem_of_getElem? (i := 2) rfl))) rfl rfl dX8_burns_19 ?_
      refine tw_goto (tgt := 38) C dX8_burns_22 (by decide) ?_
      exact m_X8_burns_L38 C hE (st.1 19) st hf
  · have hf := tw_pos hf c1
    exact tw_endv (Wf := twM cI cZ q) hE hf dX8_burns_8
end
/-! X8_strength: private double strength() -/
abbrev rm_X8_strength : Room := { frames := 0, cells := 0, slots := 0, locals := 0 }
def f_X8_strength (st : twS) : Option (UInt64 × twS) :=
  (if 0 ≤ (Op.cmpValue (FP.dcmp st.2.2.2 FP.dconst0) CmpOp.g) then
    some (st.2.2.2, st)
  else
    some ((FP.dneg st.2.2.2), st))
section
variable {p : Program} {l : Launch} {e : Env} {s : State} {m : MethodId} {args : Array Value} {below : List Frame} {meth : Method} {c : Code} {Q : State → Prop} {dC : Nat → ClassId} {dI : Nat → Nat → Nat} {cI cZ : ClassId} {q : Nat → Nat} {A : Nat → Prop} {res : UInt64 × twS}
set_option maxRecDepth 20000 in
theorem c_X8_strength (l : Launch) (dC : Nat → ClassId) (dI : Nat → Nat → Nat) (cI cZ : ClassId) (q : Nat → Nat) {st : twS} {res : UInt64 × twS} (hf : f_X8_strength st = some res) : twMd l yX8_strength wsX8_strength rm_X8_strength (dC, dI) (twY cI cZ) [.ref (q 0)] (twM cI cZ q st) res.1 (twM cI cZ q res.2) := by
  refine tw_entd (cc := cX8_strength) (maxL := 1) (own := RX8) (by decide) rfl (Nat.le_of_ble_eq_true rfl) rfl ⟨rfl, rfl⟩ ?_
  intro p e s m below meth c A Q C hE
  generalize ([.ref (q 0)] : List Value).toArray = args at C hE ⊢
  refine tw_sub (lv' := [(0, .ref (q 0))]) [0] rfl ?_
  unfold f_X8_strength at hf
  refine tw_aload_n C dX8_strength_0 0 rfl rfl ?_
  refine tw_get (K := RX8) (T := TX8) (N := 37) (v := .double st.2.2.2) C 0 16 (fun _ h => List.mem_cons_of_mem _ (List.mem_append_right _ (h))) rfl rfl (by decide) (List.mem_cons_of_mem _ (List.mem_append_left _ (List.mem_of_getElem? (i := 0) rfl))) rfl rfl dX8_strength_1 ?_
  refine tw_dconst0 C dX8_strength_4 ?_
  refine tw_dcmp C dX8_strength_5 ?_
  refine tw_if_ge (tgt := 17) C dX8_strength_6 (by decide) (fun c1 => ?_) (fun c1 => ?_)
  · have hf := tw_pos hf c1
    refine tw_aload_n C dX8_strength_17 0 rfl rfl ?_
    refine tw_get (K := RX8) (T := TX8) (N := 37) (v := .double st.2.2.2) C 0 16 (fun _ h => List.mem_cons_of_mem _ (List.mem_append_right _ (h))) rfl rfl (by decide) (List.mem_cons_of_mem _ (List.mem_append_left _ (List.mem_of_getElem? (i := 0) rfl))) rfl rfl dX8_strength_18 ?_
    exact tw_endd (Wf := twM cI cZ q) hE hf dX8_strength_21
  · have hf := tw_neg hf c1
    refine tw_aload_n C dX8_strength_9 0 rfl rfl ?_
    refine tw_get (K := RX8) (T := TX8) (N := 37) (v := .double st.2.2.2) C 0 16 (fun _ h => List.mem_cons_of_mem _ (List.mem_append_right _ (h))) rfl rfl (by decide) (List.mem_cons_of_mem _ (List.mem_append_left _ (List.mem_of_getElem? (i := 0) rfl))) rfl rfl dX8_strength_10 ?_
    refine tw_dneg C dX8_strength_13 ?_
    refine tw_goto (tgt := 21) C dX8_strength_14 (by decide) ?_
    exact tw_endd (Wf := twM cI cZ q) hE hf dX8_strength_21
end
/-! X8_comes: private void comes(int, int) -/
abbrev rm_X8_comes : Room := { frames := 2, cells := 0, slots := 0, locals := 42 }
def f_X8_comes (st : twS) (v1 : Int32) (v2 : Int32) : Option (twS) :=
  ((f_X8_isSegment st v1).bind fun y1 => (if y1.1 = 0 then
    some (twI y1.2 22 ((y1.2.1 22) + v2))
  else
    (if twb v1 12 = true then (if twb v1 12 = true then some (twA y1.2 1 v1 ((y1.2.2.1 1 v1.toNatClampNeg) + v2)) else none) else none)))
section
variable {p : Program} {l : Launch} {e : Env} {s : State} {m : MethodId} {args : Array Value} {below : List Frame} {meth : Method} {c : Code} {Q : State → Prop} {dC : Nat → ClassId} {dI : Nat → Nat → Nat} {cI cZ : ClassId} {q : Nat → Nat} {A : Nat → Prop} {res : twS}
set_option maxRecDepth 20000 in
theorem c_X8_comes (l : Launch) (dC : Nat → ClassId) (dI : Nat → Nat → Nat) (cI cZ : ClassId) (q : Nat → Nat) {st : twS} {v1 : Int32} {v2 : Int32} {res : twS} (hf : f_X8_comes st v1 v2 = some res) : twMv l yX8_comes wsX8_comes rm_X8_comes (dC, dI) (twY cI cZ) [.ref (q 0), .int v1, .int v2] (twM cI cZ q st) (twM cI cZ q res) := by
  refine tw_entv (cc := cX8_comes) (maxL := 3) (own := RX8) (by decide) rfl (Nat.le_of_ble_eq_true rfl) rfl ⟨rfl, rfl⟩ ?_
  intro p e s m below meth c A Q C hE
  generalize ([.ref (q 0), .int v1, .int v2] : List Value).toArray = args at C hE ⊢
  refine tw_sub (lv' := [(0, .ref (q 0)), (1, .int v1), (2, .int v2)]) [0, 1, 2] rfl ?_
  unfold f_X8_comes at hf
  refine tw_iload_n C dX8_comes_0 1 rfl rfl ?_
  obtain ⟨y1, hc1, hf⟩ := tw_bd hf
  refine tw_cSi (As := [.int v1]) (stk := []) C (c_X8_isSegment l dC dI cI cZ q hc1) (va_cwS 1 C.hts gX8_comes_X8_isSegment rfl rfl rfl hd_X8_isSegment ⟨Nat.le_of_ble_eq_true rfl, Nat.le_of_ble_eq_true rfl⟩) rfl rfl (Nat.le_of_ble_eq_true rfl) dX8_comes_1 ⟨Nat.zero_le _, Nat.zero_le _⟩ ?_
  refine tw_if_eq (tgt := 20) C dX8_comes_4 (by decide) (fun c2 => ?_) (fun c2 => ?_)
  · have hf := tw_pos hf c2
    refine tw_aload_n C dX8_comes_20 0 rfl rfl ?_
    refine tw_dup C dX8_comes_21 rfl ?_
    refine tw_get (K := RX8) (T := TX8) (N := 37) (v := .int (y1.2.1 22)) C 0 22 (fun _ h => List.mem_cons_of_mem _ (List.mem_append_right _ (h))) rfl rfl (by decide) (List.mem_cons_of_mem _ (List.mem_append_left _ (List.mem_of_getElem? (i := 1) rfl))) rfl rfl dX8_comes_22 ?_
    refine tw_iload_n C dX8_comes_25 2 rfl rfl ?_
    refine tw_iadd C dX8_comes_26 ?_
    refine tw_put (K := RX8) (T := TX8) (N := 37) C 0 22 tyX8 tyX8_ok nmX8 (fun _ h => List.mem_cons_of_mem _ (List.mem_append_right _ (h))) rfl rfl (by decide) (List.mem_cons_of_mem _ (List.mem_append_left _ (List.mem_of_getElem? (i := 1) rfl))) rfl rfl rfl rfl (Nat.le_of_ble_eq_true rfl) (tw_M_si22 cI cZ q y1.2 ((y1.2.1 22) + v2)) dX8_comes_27 ?_
    exact tw_endv (Wf := twM cI cZ q) hE hf dX8_comes_30
  · have hf := tw_neg hf c2
    refine tw_aload_n C dX8_comes_7 0 rfl rfl ?_
    refine tw_get (K := RX8) (T := TX8) (N := 37) (v := .ref (q 1)) C 0 1 (fun _ h => List.mem_cons_of_mem _ (List.mem_append_right _ (h))) rfl rfl (by decide) (List.mem_cons_of_mem _ (List.mem_append_left _ (List.mem_of_getElem? (i := 0) rfl))) rfl rfl dX8_comes_8 ?_
    refine tw_iload_n C dX8_comes_11 1 rfl rfl ?_
    refine tw_dup2 C dX8_comes_12 rfl rfl ?_
    obtain ⟨hb3, hf⟩ := tw_ck hf
    refine tw_iald C 1 0 hb3 rfl rfl dX8_comes_13 ?_
    refine tw_iload_n C dX8_comes_14 2 rfl rfl ?_
    refine tw_iadd C dX8_comes_15 ?_
    obtain ⟨hb4, hf⟩ := tw_ck hf
    refine tw_iast C 1 0 hb4 rfl rfl (tw_M_a1 cI cZ q y1.2 v1 ((y1.2.2.1 1 v1.toNatClampNeg) + v2)) dX8_comes_16 ?_
    refine tw_goto (tgt := 30) C dX8_comes_17 (by decide) ?_
    exact tw_endv (Wf := twM cI cZ q) hE hf dX8_comes_30
end
/-! X8_moves: private void moves() -/
abbrev rm_X8_moves : Room := { frames := 3, cells := 0, slots := 0, locals := 64 }
def f_X8_moves_L200b (rec : Int32 → twS → Option (twS)) (v4 : Int32) (st : twS) : Option (twS) :=
  (if 12 ≤ v4 then
    some st
  else
    (if twb v4 12 = true then (if twb v4 12 = true then (if twb v4 12 = true then rec (v4 + 1) (twA st 2 v4 ((st.2.1 2 v4.toNatClampNeg) - (((st.2.1 2 v4.toNatClampNeg) + 3) / 4))) else none) else none) else none))
def f_X8_moves_L200 : Nat → Int32 → twS → Option (twS)
  | 0 => fun _ _ => none
  | n + 1 => fun v4 st => f_X8_moves_L200b (f_X8_moves_L200 n) v4 st
def f_X8_moves_L152 (st : twS) : Option (twS) :=
  (if (st.1 10) = 0 then
    f_X8_moves_L200 twN 0 st
  else
    (if twb (st.1 9) 12 = true then (if twb (st.1 9) 12 = true then (if twb (st.1 9) 12 = true then f_X8_moves_L200 twN 0 (twI (twA st 1 (st.1 9) ((st.2.1 1 (st.1 9).toNatClampNeg) - ((st.2.1 1 (st.1 9).toNatClampNeg) / 3))) 22 (((twA st 1 (st.1 9) ((st.2.1 1 (st.1 9).toNatClampNeg) - ((st.2.1 1 (st.1 9).toNatClampNeg) / 3))).1 22) + ((st.2.1 1 (st.1 9).toNatClampNeg) / 3))) else none) else none) else none))
def f_X8_moves_L36b (rec : Int32 → Int32 → Int32 → Int32 → twS → Option (twS)) (v1 : Int32) (v2 : Int32) (v3 : Int32) (v4 : Int32) (st : twS) : Option (twS) :=
  (if 12 ≤ v4 then
    (if (st.1 18) = (-1) then
    f_X8_moves_L152 st
  else
    ((f_X8_strength st).bind fun y36003 => (if 0 ≤ (Op.cmpValue (FP.dcmp y36003.1 4629137466983448576) CmpOp.g) then
    f_X8_moves_L152 y36003.2
  else
    (if twb (y36003.2.1 18) 12 = true then (if twb (y36003.2.1 18) 12 = true then (if twb (y36003.2.1 18) 12 = true then ((f_X8_comes (twA y36003.2 1 (y36003.2.1 18) ((y36003.2.2.1 1 (y36003.2.1 18).toNatClampNeg) - ((y36003.2.2.1 1 (y36003.2.1 18).toNatClampNeg) / 10))) (((twA y36003.2 1 (y36003.2.1 18) ((y36003.2.2.1 1 (y36003.2.1 18).toNatClampNeg) - ((y36003.2.2.1 1 (y36003.2.1 18).toNatClampNeg) / 10))).1 18) - v2) ((y36003.2.2.1 1 (y36003.2.1 18).toNatClampNeg) / 10)).bind fun y36008 => f_X8_moves_L152 y36008) else none) else none) else none))))
  else
    (if twb (v3 - (v2 * v4)) 12 = true then (if twb (v3 - (v2 * v4)) 12 = true then (if twb (v3 - (v2 * v4)) 12 = true then ((f_X8_comes (twA st 1 (v3 - (v2 * v4)) ((st.2.1 1 (v3 - (v2 * v4)).toNatClampNeg) - (((st.2.1 1 (v3 - (v2 * v4)).toNatClampNeg) * v1) / 100))) ((v3 - (v2 * v4)) + v2) (((st.2.1 1 (v3 - (v2 * v4)).toNatClampNeg) * v1) / 100)).bind fun y36012 => rec v1 v2 v3 (v4 + 1) y36012) else none) else none) else none))
def f_X8_moves_L36 : Nat → Int32 → Int32 → Int32 → Int32 → twS → Option (twS)
  | 0 => fun _ _ _ _ _ => none
  | n + 1 => fun v1 v2 v3 v4 st => f_X8_moves_L36b (f_X8_moves_L36 n) v1 v2 v3 v4 st
def f_X8_moves_L20 (v1 : Int32) (k0 : Int32) (st : twS) : Option (twS) :=
  (if k0 = 1 then
    f_X8_moves_L36 twN v1 k0 11 0 st
  else
    f_X8_moves_L36 twN v1 k0 0 0 st)
def f_X8_moves (st : twS) : Option (twS) :=
  ((f_X8_strength st).bind fun y1 => (if 0 ≤ (Op.cmpValue (FP.dcmp y1.2.2.2.2 FP.dconst0) CmpOp.g) then
    f_X8_moves_L20 (FP.d2i y1.1) 1 y1.2
  else
    f_X8_moves_L20 (FP.d2i y1.1) (-1) y1.2))
section
variable {p : Program} {l : Launch} {e : Env} {s : State} {m : MethodId} {args : Array Value} {below : List Frame} {meth : Method} {c : Code} {Q : State → Prop} {dC : Nat → ClassId} {dI : Nat → Nat → Nat} {cI cZ : ClassId} {q : Nat → Nat} {A : Nat → Prop} {res : twS}
set_option maxRecDepth 20000 in
theorem m_X8_moves_L200b (C : twC p s m args meth c cX8_moves 7 RX8 wsX8_moves (dC, dI) (twY cI cZ) A) (hE : twEv p l e rm_X8_moves s m args below meth c 0 0 Q (dC, dI) A 7 cX8_moves (twM cI cZ q res)) {rec : Int32 → twS → Option (twS)} (hrec : ∀ (v4 : Int32) (st : twS), rec v4 st = some res → twG p l e rm_X8_moves s m args below meth c 0 0 Q (dC, dI) A 7 (twM cI cZ q st) 200 [(0, .ref (q 0)), (4, .int v4)] []) : ∀ (v4 : Int32) (st : twS), f_X8_moves_L200b rec v4 st = some res → twG p l e rm_X8_moves s m args below meth c 0 0 Q (dC, dI) A 7 (twM cI cZ q st) 200 [(0, .ref (q 0)), (4, .int v4)] [] := by
  intro v4 st hf
  unfold f_X8_moves_L200b at hf
  refine tw_iload C dX8_moves_200 1 rfl ?_
  refine tw_bipush (v := 12) C dX8_moves_202 (by decide) ?_
  refine tw_icmp_ge (tgt := 234) C dX8_moves_204 (by decide) (fun c200001 => ?_) (fun c200001 => ?_)
  · have hf := tw_pos hf c200001
    exact tw_endv (Wf := twM cI cZ q) hE hf dX8_moves_234
  · have hf := tw_neg hf c200001
    refine tw_aload_n C dX8_moves_207 0 rfl rfl ?_
    refine tw_get (K := RX8) (T := TX8) (N := 37) (v := .ref (q 2)) C 0 2 (fun _ h => List.mem_cons_of_mem _ (List.mem_append_right _ (h))) rfl rfl (by decide) (List.mem_cons_of_mem _ (List.mem_append_left _ (List.mem_of_getElem? (i := 7) rfl))) rfl rfl dX8_moves_208 ?_
    refine tw_iload C dX8_moves_211 1 rfl ?_
    refine tw_dup2 C dX8_moves_213 rfl rfl ?_
    obtain ⟨hb200002, hf⟩ := tw_ck hf
    refine tw_iald C 2 0 hb200002 rfl rfl dX8_moves_214 ?_
    refine tw_aload_n C dX8_moves_215 0 rfl rfl ?_
    refine tw_get (K := RX8) (T := TX8) (N := 37) (v := .ref (q 2)) C 0 2 (fun _ h => List.mem_cons_of_mem _ (List.mem_append_right _ (h))) rfl rfl (by decide) (List.mem_cons_of_mem _ (List.mem_append_left _ (List.mem_of_getElem? (i := 7) rfl))) rfl rfl dX8_moves_216 ?_
    refine tw_iload C dX8_moves_219 1 rfl ?_
    obtain ⟨hb200003, hf⟩ := tw_ck hf
    refine tw_iald C 2 0 hb200003 rfl rfl dX8_moves_221 ?_
    refine tw_iconst (v := 3) C dX8_moves_222 (by decide) ?_
    refine tw_iadd C dX8_moves_223 ?_
    refine tw_iconst (v := 4) C dX8_moves_224 (by decide) ?_
    refine tw_idiv C dX8_moves_225 (by decide) ?_
    refine tw_isub C dX8_moves_226 ?_
    obtain ⟨hb200004, hf⟩ := tw_ck hf
    refine tw_iast C 2 0 hb200004 rfl rfl (tw_M_a2 cI cZ q st v4 ((st.2.1 2 v4.toNatClampNeg) - (((st.2.1 2 v4.toNatClampNeg) + 3) / 4))) dX8_moves_227 ?_
    refine tw_iinc (v := (v4 + 1)) (lv' := [(4, .int (v4 + 1)), (0, .ref (q 0))]) C dX8_moves_228 (k := 1) rfl rfl (by decide) rfl ?_
    refine tw_goto (tgt := 200) C dX8_moves_231 (by decide) ?_
    refine tw_sub [1, 0] rfl ?_
    exact hrec (v4 + 1) (twA st 2 v4 ((st.2.1 2 v4.toNatClampNeg) - (((st.2.1 2 v4.toNatClampNeg) + 3) / 4))) hf
theorem m_X8_moves_L200 (C : twC p s m args meth c cX8_moves 7 RX8 wsX8_moves (dC, dI) (twY cI cZ) A) (hE : twEv p l e rm_X8_moves s m args below meth c 0 0 Q (dC, dI) A 7 cX8_moves (twM cI cZ q res)) : ∀ (n : Nat) (v4 : Int32) (st : twS), f_X8_moves_L200 n v4 st = some res → twG p l e rm_X8_moves s m args below meth c 0 0 Q (dC, dI) A 7 (twM cI cZ q st) 200 [(0, .ref (q 0)), (4, .int v4)] [] := by
  intro n
  induction n with
  | zero =>
    intro v4 st hf
    have hf : none = some res := hf
    cases hf
  | succ n ih =>
    intro v4 st hf
    exact m_X8_moves_L200b C hE ih v4 st hf
set_option maxRecDepth 20000 in
theorem m_X8_moves_L152 (C : twC p s m args meth c cX8_moves 7 RX8 wsX8_moves (dC, dI) (twY cI cZ) A) (hE : twEv p l e rm_X8_moves s m args below meth c 0 0 Q (dC, dI) A 7 cX8_moves (twM cI cZ q res)) : ∀ (st : twS), f_X8_moves_L152 st = some res → twG p l e rm_X8_moves s m args below meth c 0 0 Q (dC, dI) A 7 (twM cI cZ q st) 152 [(0, .ref (q 0))] [] := by
  intro st hf
  unfold f_X8_moves_L152 at hf
  refine tw_aload_n C dX8_moves_152 0 rfl rfl ?_
  refine tw_get (K := RX8) (T := TX8) (N := 37) (v := .int (st.1 10)) C 0 10 (fun _ h => List.mem_cons_of_mem _ (List.mem_append_right _ (h))) rfl rfl (by decide) (List.mem_cons_of_mem _ (List.mem_append_left _ (List.mem_of_getElem? (i := 4) rfl))) rfl rfl dX8_moves_153 ?_
  refine tw_if_eq (tgt := 197) C dX8_moves_156 (by decide) (fun c152001 => ?_) (fun c152001 => ?_)
  · have hf := tw_pos hf c152001
    refine tw_iconst (v := 0) C dX8_moves_197 (by decide) ?_
    refine tw_istore (lv' := [(4, .int 0), (0, .ref (q 0))]) C dX8_moves_198 (by decide) rfl ?_
    refine tw_sub [1, 0] rfl ?_
    exact m_X8_moves_L200 C hE twN 0 st hf
  · have hf := tw_neg hf c152001
    refine tw_aload_n C dX8_moves_159 0 rfl rfl ?_
    refine tw_get (K := RX8) (T := TX8) (N := 37) (v := .ref (q 1)) C 0 1 (fun _ h => List.mem_cons_of_mem _ (List.mem_append_right _ (h))) rfl rfl (by decide) (List.mem_cons_of_mem _ (List.mem_append_left _ (List.mem_of_getElem? (i := 1) rfl))) rfl rfl dX8_moves_160 ?_
    refine tw_aload_n C dX8_moves_163 0 rfl rfl ?_
    refine tw_get (K := RX8) (T := TX8) (N := 37) (v := .int (st.1 9)) C 0 9 (fun _ h => List.mem_cons_of_mem _ (List.mem_append_right _ (h))) rfl rfl (by decide) (List.mem_cons_of_mem _ (List.mem_append_left _ (List.mem_of_getElem? (i := 5) rfl))) rfl rfl dX8_moves_164 ?_
    obtain ⟨hb152002, hf⟩ := tw_ck hf
    refine tw_iald C 1 0 hb152002 rfl rfl dX8_moves_167 ?_
    refine tw_iconst (v := 3) C dX8_moves_168 (by decide) ?_
    refine tw_idiv C dX8_moves_169 (by decide) ?_
    refine tw_istore (lv' := [(4, .int ((st.2.1 1 (st.1 9).toNatClampNeg) / 3)), (0, .ref (q 0))]) C dX8_moves_170 (by decide) rfl ?_
    refine tw_aload_n C dX8_moves_172 1 rfl rfl ?_
    refine tw_get (K := RX8) (T := TX8) (N := 37) (v := .ref (q 1)) C 0 1 (fun _ h => List.mem_cons_of_mem _ (List.mem_append_right _ (h))) rfl rfl (by decide) (List.mem_cons_of_mem _ (List.mem_append_left _ (List.mem_of_getElem? (i := 1) rfl))) rfl rfl dX8_moves_173 ?_
    refine tw_aload_n C dX8_moves_176 1 rfl rfl ?_
    refine tw_get (K := RX8) (T := TX8) (N := 37) (v := .int (st.1 9)) C 0 9 (fun _ h => List.mem_cons_of_mem _ (List.mem_append_right _ (h))) rfl rfl (by decide) (List.mem_cons_of_mem _ (List.mem_append_left _ (List.mem_of_getElem? (i := 5) rfl))) rfl rfl dX8_moves_177 ?_
    refine tw_dup2 C dX8_moves_180 rfl rfl ?_
    obtain ⟨hb152003, hf⟩ := tw_ck hf
    refine tw_iald C 1 0 hb152003 rfl rfl dX8_moves_181 ?_
    refine tw_iload C dX8_moves_182 0 rfl ?_
    refine tw_isub C dX8_moves_184 ?_
    obtain ⟨hb152004, hf⟩ := tw_ck hf
    refine tw_iast C 1 0 hb152004 rfl rfl (tw_M_a1 cI cZ q st (st.1 9) ((st.2.1 1 (st.1 9).toNatClampNeg) - ((st.2.1 1 (st.1 9).toNatClampNeg) / 3))) dX8_moves_185 ?_
    refine tw_aload_n C dX8_moves_186 1 rfl rfl ?_
    refine tw_dup C dX8_moves_187 rfl ?_
    refine tw_get (K := RX8) (T := TX8) (N := 37) (v := .int ((twA st 1 (st.1 9) ((st.2.1 1 (st.1 9).toNatClampNeg) - ((st.2.1 1 (st.1 9).toNatClampNeg) / 3))).1 22)) C 0 22 (fun _ h => List.mem_cons_of_mem _ (List.mem_append_right _ (h))) rfl rfl (by decide) (List.mem_cons_of_mem _ (List.mem_append_left _ (List.mem_of_getElem? (i := 6) rfl))) rfl rfl dX8_moves_188 ?_
    refine tw_iload C dX8_moves_191 0 rfl ?_
    refine tw_iadd C dX8_moves_193 ?_
    refine tw_put (K := RX8) (T := TX8) (N := 37) C 0 22 tyX8 tyX8_ok nmX8 (fun _ h => List.mem_cons_of_mem _ (List.mem_append_right _ (h))) rfl rfl (by decide) (List.mem_cons_of_mem _ (List.mem_append_left _ (List.mem_of_getElem? (i := 6) rfl))) rfl rfl rfl rfl (Nat.le_of_ble_eq_true rfl) (tw_M_si22 cI cZ q (twA st 1 (st.1 9) ((st.2.1 1 (st.1 9).toNatClampNeg) - ((st.2.1 1 (st.1 9).toNatClampNeg) / 3))) (((twA st 1 (st.1 9) ((st.2.1 1 (st.1 9).toNatClampNeg) - ((st.2.1 1 (st.1 9).toNatClampNeg) / 3))).1 22) + ((st.2.1 1 (st.1 9).toNatClampNeg) / 3))) dX8_moves_194 ?_
    refine tw_iconst (v := 0) C dX8_moves_197 (by decide) ?_
    refine tw_istore (lv' := [(4, .int 0), (0, .ref (q 0))]) C dX8_moves_198 (by decide) rfl ?_
    refine tw_sub [1, 0] rfl ?_
    exact m_X8_moves_L200 C hE twN 0 (twI (twA st 1 (st.1 9) ((st.2.1 1 (st.1 9).toNatClampNeg) - ((st.2.1 1 (st.1 9).toNatClampNeg) / 3))) 22 (((twA st 1 (st.1 9) ((st.2.1 1 (st.1 9).toNatClampNeg) - ((st.2.1 1 (st.1 9).toNatClampNeg) / 3))).1 22) + ((st.2.1 1 (st.1 9).toNatClampNeg) / 3))) hf
set_option maxRecDepth 20000 in
theorem m_X8_moves_L36b (C : twC p s m args meth c cX8_moves 7 RX8 wsX8_moves (dC, dI) (twY cI cZ) A) (hE : twEv p l e rm_X8_moves s m args below meth c 0 0 Q (dC, dI) A 7 cX8_moves (twM cI cZ q res)) {rec : Int32 → Int32 → Int32 → Int32 → twS → Option (twS)} (hrec : ∀ (v1 : Int32) (v2 : Int32) (v3 : Int32) (v4 : Int32) (st : twS), rec v1 v2 v3 v4 st = some res → twG p l e rm_X8_moves s m args below meth c 0 0 Q (dC, dI) A 7 (twM cI cZ q st) 36 [(0, .ref (q 0)), (1, .int v1), (2, .int v2), (3, .int v3), (4, .int v4)] []) : ∀ (v1 : Int32) (v2 : Int32) (v3 : Int32) (v4 : Int32) (st : twS), f_X8_moves_L36b rec v1 v2 v3 v4 st = some res → twG p l e rm_X8_moves s m args below meth c 0 0 Q (dC, dI) A 7 (twM cI cZ q st) 36 [(0, .ref (q 0)), (1, .int v1), (2, .int v2), (3, .int v3), (4, .int v4)] [] := by
  intro v1 v2 v3 v4 st hf
  unfold f_X8_moves_L36b at hf
  refine tw_iload C dX8_moves_36 4 rfl ?_
  refine tw_bipush (v := 12) C dX8_moves_38 (by decide) ?_
  refine tw_icmp_ge (tgt := 93) C dX8_moves_40 (by decide) (fun c36001 => ?_) (fun c36001 => ?_)
  · have hf := tw_pos hf c36001
    refine tw_aload_n C dX8_moves_93 0 rfl rfl ?_
    refine tw_get (K := RX8) (T := TX8) (N := 37) (v := .int (st.1 18)) C 0 18 (fun _ h => List.mem_cons_of_mem _ (List.mem_append_right _ (h))) rfl rfl (by decide) (List.mem_cons_of_mem _ (List.mem_append_left _ (List.mem_of_getElem? (i := 2) rfl))) rfl rfl dX8_moves_94 ?_
    refine tw_iconst (v := (-1)) C dX8_moves_97 (by decide) ?_
    refine tw_icmp_eq (tgt := 152) C dX8_moves_98 (by decide) (fun c36002 => ?_) (fun c36002 => ?_)
    · have hf := tw_pos hf c36002
      refine tw_sub [0] rfl ?_
      exact m_X8_moves_L152 C hE st hf
    · have hf := tw_neg hf c36002
      refine tw_aload_n C dX8_moves_101 0 rfl rfl ?_
      obtain ⟨y36003, hc36003, hf⟩ := tw_bd hf
      refine tw_cVd (As := []) (stk := []) C (c_X8_strength l dC dI cI cZ q hc36003) (cwV 0 C.hts gX8_moves_X8_strength rfl rfl rfl hd_X8_strength ⟨Nat.le_of_ble_eq_true rfl, Nat.le_of_ble_eq_true rfl⟩) 0 (ci := 8) rfl rfl rfl rfl rfl (Nat.le_of_ble_eq_true rfl) dX8_moves_102 ⟨Nat.zero_le _, Nat.zero_le _⟩ ?_
      refine tw_ldc2d C (List.mem_cons_of_mem _ (List.mem_append_left _ (List.mem_of_getElem? (i := 3) rfl))) dX8_moves_105 ?_
      refine tw_dcmp C dX8_moves_108 ?_
      refine tw_if_ge (tgt := 152) C dX8_moves_109 (by decide) (fun c36004 => ?_) (fun c36004 => ?_)
      · have hf := tw_pos hf c36004
        refine tw_sub [0] rfl ?_
        exact m_X8_moves_L152 C hE y36003.2 hf
      · have hf := tw_neg hf c36004
        refine tw_aload_n C dX8_moves_112 0 rfl rfl ?_
        refine tw_get (K := RX8) (T := TX8) (N := 37) (v := .ref (q 1)) C 0 1 (fun _ h => List.mem_cons_of_mem _ (List.mem_append_right _ (h))) rfl rfl (by decide) (List.mem_cons_of_mem _ (List.mem_append_left _ (List.mem_of_getElem? (i := 1) rfl))) rfl rfl dX8_moves_113 ?_
        refine tw_aload_n C dX8_moves_116 0 rfl rfl ?_
        refine tw_get (K := RX8) (T := TX8) (N := 37) (v := .int (y36003.2.1 18)) C 0 18 (fun _ h => List.mem_cons_of_mem _ (List.mem_append_right _ (h))) rfl rfl (by decide) (List.mem_cons_of_mem _ (List.mem_append_left _ (List.mem_of_getElem? (i := 2) rfl))) rfl rfl dX8_moves_117 ?_
        obtain ⟨hb36005, hf⟩ := tw_ck hf
        refine tw_iald C 1 0 hb36005 rfl rfl dX8_moves_120 ?_
        refine tw_bipush (v := 10) C dX8_moves_121 (by decide) ?_
        refine tw_idiv C dX8_moves_123 (by decide) ?_
        refine tw_istore (lv' := [(4, .int ((y36003.2.2.1 1 (y36003.2.1 18).toNatClampNeg) / 10)), (0, .ref (q 0)), (1, .int v1), (2, .int v2), (3, .int v3)]) C dX8_moves_124 (by decide) rfl ?_
        refine tw_aload_n C dX8_moves_126 1 rfl rfl ?_
        refine tw_get (K := RX8) (T := TX8) (N := 37) (v := .ref (q 1)) C 0 1 (fun _ h => List.mem_cons_of_mem _ (List.mem_append_right _ (h))) rfl rfl (by decide) (List.mem_cons_of_mem _ (List.mem_append_left _ (List.mem_of_getElem? (i := 1) rfl))) rfl rfl dX8_moves_127 ?_
        refine tw_aload_n C dX8_moves_130 1 rfl rfl ?_
        refine tw_get (K := RX8) (T := TX8) (N := 37) (v := .int (y36003.2.1 18)) C 0 18 (fun _ h => List.mem_cons_of_mem _ (List.mem_append_right _ (h))) rfl rfl (by decide) (List.mem_cons_of_mem _ (List.mem_append_left _ (List.mem_of_getElem? (i := 2) rfl))) rfl rfl dX8_moves_131 ?_
        refine tw_dup2 C dX8_moves_134 rfl rfl ?_
        obtain ⟨hb36006, hf⟩ := tw_ck hf
        refine tw_iald C 1 0 hb36006 rfl rfl dX8_moves_135 ?_
        refine tw_iload C dX8_moves_136 0 rfl ?_
        refine tw_isub C dX8_moves_138 ?_
        obtain ⟨hb36007, hf⟩ := tw_ck hf
        refine tw_iast C 1 0 hb36007 rfl rfl (tw_M_a1 cI cZ q y36003.2 (y36003.2.1 18) ((y36003.2.2.1 1 (y36003.2.1 18).toNatClampNeg) - ((y36003.2.2.1 1 (y36003.2.1 18).toNatClampNeg) / 10))) dX8_moves_139 ?_
        refine tw_aload_n C dX8_moves_140 1 rfl rfl ?_
        refine tw_aload_n C dX8_moves_141 1 rfl rfl ?_
        refine tw_get (K := RX8) (T := TX8) (N := 37) (v := .int ((twA y36003.2 1 (y36003.2.1 18) ((y36003.2.2.1 1 (y36003.2.1 18).toNatClampNeg) - ((y36003.2.2.1 1 (y36003.2.1 18).toNatClampNeg) / 10))).1 18)) C 0 18 (fun _ h => List.mem_cons_of_mem _ (List.mem_append_right _ (h))) rfl rfl (by decide) (List.mem_cons_of_mem _ (List.mem_append_left _ (List.mem_of_getElem? (i := 2) rfl))) rfl rfl dX8_moves_142 ?_
        refine tw_iload_n C dX8_moves_145 3 rfl rfl ?_
        refine tw_isub C dX8_moves_146 ?_
        refine tw_iload C dX8_moves_147 0 rfl ?_
        obtain ⟨y36008, hc36008, hf⟩ := tw_bd hf
        refine tw_cVv (As := [.int (((twA y36003.2 1 (y36003.2.1 18) ((y36003.2.2.1 1 (y36003.2.1 18).toNatClampNeg) - ((y36003.2.2.1 1 (y36003.2.1 18).toNatClampNeg) / 10))).1 18) - v2), .int ((y36003.2.2.1 1 (y36003.2.1 18).toNatClampNeg) / 10)]) (stk := []) C (c_X8_comes l dC dI cI cZ q hc36008) (cwV 2 C.hts gX8_moves_X8_comes rfl rfl rfl hd_X8_comes ⟨Nat.le_of_ble_eq_true rfl, Nat.le_of_ble_eq_true rfl⟩) 0 (ci := 8) rfl rfl rfl rfl rfl (Nat.le_of_ble_eq_true rfl) dX8_moves_149 ⟨Nat.zero_le _, Nat.zero_le _⟩ ?_
        refine tw_sub [1] rfl ?_
        exact m_X8_moves_L152 C hE y36008 hf
  · have hf := tw_neg hf c36001
    refine tw_iload_n C dX8_moves_43 3 rfl rfl ?_
    refine tw_iload_n C dX8_moves_44 2 rfl rfl ?_
    refine tw_iload C dX8_moves_45 4 rfl ?_
    refine tw_imul C dX8_moves_47 ?_
    refine tw_isub C dX8_moves_48 ?_
    refine tw_istore (lv' := [(5, .int (v3 - (v2 * v4))), (0, .ref (q 0)), (1, .int v1), (2, .int v2), (3, .int v3), (4, .int v4)]) C dX8_moves_49 (by decide) rfl ?_
    refine tw_aload_n C dX8_moves_51 1 rfl rfl ?_
    refine tw_get (K := RX8) (T := TX8) (N := 37) (v := .ref (q 1)) C 0 1 (fun _ h => List.mem_cons_of_mem _ (List.mem_append_right _ (h))) rfl rfl (by decide) (List.mem_cons_of_mem _ (List.mem_append_left _ (List.mem_of_getElem? (i := 1) rfl))) rfl rfl dX8_moves_52 ?_
    refine tw_iload C dX8_moves_55 0 rfl ?_
    obtain ⟨hb36009, hf⟩ := tw_ck hf
    refine tw_iald C 1 0 hb36009 rfl rfl dX8_moves_57 ?_
    refine tw_iload_n C dX8_moves_58 2 rfl rfl ?_
    refine tw_imul C dX8_moves_59 ?_
    refine tw_bipush (v := 100) C dX8_moves_60 (by decide) ?_
    refine tw_idiv C dX8_moves_62 (by decide) ?_
    refine tw_istore (lv' := [(6, .int (((st.2.1 1 (v3 - (v2 * v4)).toNatClampNeg) * v1) / 100)), (5, .int (v3 - (v2 * v4))), (0, .ref (q 0)), (1, .int v1), (2, .int v2), (3, .int v3), (4, .int v4)]) C dX8_moves_63 (by decide) rfl ?_
    refine tw_aload_n C dX8_moves_65 2 rfl rfl ?_
    refine tw_get (K := RX8) (T := TX8) (N := 37) (v := .ref (q 1)) C 0 1 (fun _ h => List.mem_cons_of_mem _ (List.mem_append_right _ (h))) rfl rfl (by decide) (List.mem_cons_of_mem _ (List.mem_append_left _ (List.mem_of_getElem? (i := 1) rfl))) rfl rfl dX8_moves_66 ?_
    refine tw_iload C dX8_moves_69 1 rfl ?_
    refine tw_dup2 C dX8_moves_71 rfl rfl ?_
    obtain ⟨hb36010, hf⟩ := tw_ck hf
    refine tw_iald C 1 0 hb36010 rfl rfl dX8_moves_72 ?_
    refine tw_iload C dX8_moves_73 0 rfl ?_
    refine tw_isub C dX8_moves_75 ?_
    obtain ⟨hb36011, hf⟩ := tw_ck hf
    refine tw_iast C 1 0 hb36011 rfl rfl (tw_M_a1 cI cZ q st (v3 - (v2 * v4)) ((st.2.1 1 (v3 - (v2 * v4)).toNatClampNeg) - (((st.2.1 1 (v3 - (v2 * v4)).toNatClampNeg) * v1) / 100))) dX8_moves_76 ?_
    refine tw_aload_n C dX8_moves_77 2 rfl rfl ?_
    refine tw_iload C dX8_moves_78 1 rfl ?_
    refine tw_iload_n C dX8_moves_80 4 rfl rfl ?_
    refine tw_iadd C dX8_moves_81 ?_
    refine tw_iload C dX8_moves_82 0 rfl ?_
    obtain ⟨y36012, hc36012, hf⟩ := tw_bd hf
    refine tw_cVv (As := [.int ((v3 - (v2 * v4)) + v2), .int (((st.2.1 1 (v3 - (v2 * v4)).toNatClampNeg) * v1) / 100)]) (stk := []) C (c_X8_comes l dC dI cI cZ q hc36012) (cwV 2 C.hts gX8_moves_X8_comes rfl rfl rfl hd_X8_comes ⟨Nat.le_of_ble_eq_true rfl, Nat.le_of_ble_eq_true rfl⟩) 0 (ci := 8) rfl rfl rfl rfl rfl (Nat.le_of_ble_eq_true rfl) dX8_moves_84 ⟨Nat.zero_le _, Nat.zero_le _⟩ ?_
    refine tw_iinc (v := (v4 + 1)) (lv' := [(4, .int (v4 + 1)), (6, .int (((st.2.1 1 (v3 - (v2 * v4)).toNatClampNeg) * v1) / 100)), (5, .int (v3 - (v2 * v4))), (0, .ref (q 0)), (1, .int v1), (2, .int v2), (3, .int v3)]) C dX8_moves_87 (k := 6) rfl rfl (by decide) rfl ?_
    refine tw_goto (tgt := 36) C dX8_moves_90 (by decide) ?_
    refine tw_sub [3, 4, 5, 6, 0] rfl ?_
    exact hrec v1 v2 v3 (v4 + 1) y36012 hf
theorem m_X8_moves_L36 (C : twC p s m args meth c cX8_moves 7 RX8 wsX8_moves (dC, dI) (twY cI cZ) A) (hE : twEv p l e rm_X8_moves s m args below meth c 0 0 Q (dC, dI) A 7 cX8_moves (twM cI cZ q res)) : ∀ (n : Nat) (v1 : Int32) (v2 : Int32) (v3 : Int32) (v4 : Int32) (st : twS), f_X8_moves_L36 n v1 v2 v3 v4 st = some res → twG p l e rm_X8_moves s m args below meth c 0 0 Q (dC, dI) A 7 (twM cI cZ q st) 36 [(0, .ref (q 0)), (1, .int v1), (2, .int v2), (3, .int v3), (4, .int v4)] [] := by
  intro n
  induction n with
  | zero =>
    intro v1 v2 v3 v4 st hf
    have hf : none = some res := hf
    cases hf
  | succ n ih =>
    intro v1 v2 v3 v4 st hf
    exact m_X8_moves_L36b C hE ih v1 v2 v3 v4 st hf
set_option maxRecDepth 20000 in
theorem m_X8_moves_L20 (C : twC p s m args meth c cX8_moves 7 RX8 wsX8_moves (dC, dI) (twY cI cZ) A) (hE : twEv p l e rm_X8_moves s m args below meth c 0 0 Q (dC, dI) A 7 cX8_moves (twM cI cZ q res)) : ∀ (v1 : Int32) (k0 : Int32) (st : twS), f_X8_moves_L20 v1 k0 st = some res → twG p l e rm_X8_moves s m args below meth c 0 0 Q (dC, dI) A 7 (twM cI cZ q st) 20 [(0, .ref (q 0)), (1, .int v1)] [.int k0] := by
  intro v1 k0 st hf
  unfold f_X8_moves_L20 at hf
  refine tw_istore_n (lv' := [(2, .int k0), (0, .ref (q 0)), (1, .int v1)]) C dX8_moves_20 rfl (by decide) rfl ?_
  refine tw_iload_n C dX8_moves_21 0 rfl rfl ?_
  refine tw_iconst (v := 1) C dX8_moves_22 (by decide) ?_
  refine tw_icmp_ne (tgt := 31) C dX8_moves_23 (by decide) (fun c20001 => ?_) (fun c20001 => ?_)
  · have hf := tw_neg hf c20001
    refine tw_iconst (v := 0) C dX8_moves_31 (by decide) ?_
    refine tw_istore_n (lv' := [(3, .int 0), (2, .int k0), (0, .ref (q 0)), (1, .int v1)]) C dX8_moves_32 rfl (by decide) rfl ?_
    refine tw_iconst (v := 0) C dX8_moves_33 (by decide) ?_
    refine tw_istore (lv' := [(4, .int 0), (3, .int 0), (2, .int k0), (0, .ref (q 0)), (1, .int v1)]) C dX8_moves_34 (by decide) rfl ?_
    refine tw_sub [3, 4, 2, 1, 0] rfl ?_
    exact m_X8_moves_L36 C hE twN v1 k0 0 0 st hf
  · have hf := tw_pos hf c20001
    refine tw_bipush (v := 11) C dX8_moves_26 (by decide) ?_
    refine tw_goto (tgt := 32) C dX8_moves_28 (by decide) ?_
    refine tw_istore_n (lv' := [(3, .int 11), (2, .int k0), (0, .ref (q 0)), (1, .int v1)]) C dX8_moves_32 rfl (by decide) rfl ?_
    refine tw_iconst (v := 0) C dX8_moves_33 (by decide) ?_
    refine tw_istore (lv' := [(4, .int 0), (3, .int 11), (2, .int k0), (0, .ref (q 0)), (1, .int v1)]) C dX8_moves_34 (by decide) rfl ?_
    refine tw_sub [3, 4, 2, 1, 0] rfl ?_
    exact m_X8_moves_L36 C hE twN v1 k0 11 0 st hf
set_option maxRecDepth 20000 in
theorem c_X8_moves (l : Launch) (dC : Nat → ClassId) (dI : Nat → Nat → Nat) (cI cZ : ClassId) (q : Nat → Nat) {st : twS} {res : twS} (hf : f_X8_moves st = some res) : twMv l yX8_moves wsX8_moves rm_X8_moves (dC, dI) (twY cI cZ) [.ref (q 0)] (twM cI cZ q st) (twM cI cZ q res) := by
  refine tw_entv (cc := cX8_moves) (maxL := 7) (own := RX8) (by decide) rfl (Nat.le_of_ble_eq_true rfl) rfl ⟨rfl, rfl⟩ ?_
  intro p e s m below meth c A Q C hE
  generalize ([.ref (q 0)] : List Value).toArray = args at C hE ⊢
  refine tw_sub (lv' := [(0, .ref (q 0))]) [0] rfl ?_
  unfold f_X8_moves at hf
  refine tw_aload_n C dX8_moves_0 0 rfl rfl ?_
  obtain ⟨y1, hc1, hf⟩ := tw_bd hf
  refine tw_cVd (As := []) (stk := []) C (c_X8_strength l dC dI cI cZ q hc1) (cwV 0 C.hts gX8_moves_X8_strength rfl rfl rfl hd_X8_strength ⟨Nat.le_of_ble_eq_true rfl, Nat.le_of_ble_eq_true rfl⟩) 0 (ci := 8) rfl rfl rfl rfl rfl (Nat.le_of_ble_eq_true rfl) dX8_moves_1 ⟨Nat.zero_le _, Nat.zero_le _⟩ ?_
  refine tw_d2i C dX8_moves_4 ?_
  refine tw_istore_n (lv' := [(1, .int (FP.d2i y1.1)), (0, .ref (q 0))]) C dX8_moves_5 rfl (by decide) rfl ?_
  refine tw_aload_n C dX8_moves_6 1 rfl rfl ?_
  refine tw_get (K := RX8) (T := TX8) (N := 37) (v := .double y1.2.2.2.2) C 0 16 (fun _ h => List.mem_cons_of_mem _ (List.mem_append_right _ (h))) rfl rfl (by decide) (List.mem_cons_of_mem _ (List.mem_append_left _ (List.mem_of_getElem? (i := 0) rfl))) rfl rfl dX8_moves_7 ?_
  refine tw_dconst0 C dX8_moves_10 ?_
  refine tw_dcmp C dX8_moves_11 ?_
  refine tw_if_ge (tgt := 19) C dX8_moves_12 (by decide) (fun c2 => ?_) (fun c2 => ?_)
  · have hf := tw_pos hf c2
    refine tw_iconst (v := 1) C dX8_moves_19 (by decide) ?_
    refine tw_sub [1, 0] rfl ?_
    exact m_X8_moves_L20 C hE (FP.d2i y1.1) 1 y1.2 hf
  · have hf := tw_neg hf c2
    refine tw_iconst (v := (-1)) C dX8_moves_15 (by decide) ?_
    refine tw_goto (tgt := 20) C dX8_moves_16 (by decide) ?_
    refine tw_sub [1, 0] rfl ?_
    exact m_X8_moves_L20 C hE (FP.d2i y1.1) (-1) y1.2 hf
end
