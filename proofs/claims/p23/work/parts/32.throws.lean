theorem hd_X7_segment : yX7_segment.cls = RX7 ∧ yX7_segment.cls ≠ "java/lang/invoke/MethodHandle" ∧ yX7_segment.cls ≠ "java/lang/invoke/VarHandle" ∧ (parseMethodDescriptor yX7_segment.desc).map (fun d => d.parameters.length) = some 2 := by decide +kernel
theorem hd_X7_fan : yX7_fan.cls = RX7 ∧ yX7_fan.cls ≠ "java/lang/invoke/MethodHandle" ∧ yX7_fan.cls ≠ "java/lang/invoke/VarHandle" ∧ (parseMethodDescriptor yX7_fan.desc).map (fun d => d.parameters.length) = some 1 := by decide +kernel
theorem hd_X7_done : yX7_done.cls = RX7 ∧ yX7_done.cls ≠ "java/lang/invoke/MethodHandle" ∧ yX7_done.cls ≠ "java/lang/invoke/VarHandle" ∧ (parseMethodDescriptor yX7_done.desc).map (fun d => d.parameters.length) = some 1 := by decide +kernel
theorem hd_X7_person : yX7_person.cls = RX7 ∧ yX7_person.cls ≠ "java/lang/invoke/MethodHandle" ∧ yX7_person.cls ≠ "java/lang/invoke/VarHandle" ∧ (parseMethodDescriptor yX7_person.desc).map (fun d => d.parameters.length) = some 2 := by decide +kernel
theorem hd_X7_count : yX7_count.cls = RX7 ∧ yX7_count.cls ≠ "java/lang/invoke/MethodHandle" ∧ yX7_count.cls ≠ "java/lang/invoke/VarHandle" ∧ (parseMethodDescriptor yX7_count.desc).map (fun d => d.parameters.length) = some 1 := by decide +kernel
/-! X7_segment: public int segment(int, int) throws java.lang.IndexOutOfBoundsException, java.lang.IllegalArgumentException -/
abbrev rm_X7_segment : Room := { frames := 3, cells := 0, slots := 0, locals := 64 }
def f_X7_segment (st : twS) (v1 : Int32) (v2 : Int32) : Option ((String × twS) ⊕ (Int32 × twS)) :=
  ((f_X7_requireSegment st v1).bind fun w1 => twTry w1 fun y1 => ((f_X7_requireRange y1 v2 0 4).bind fun w2 => twTry w2 fun y2 => (if v2 = 0 then
    ((f_X0_smokeIn y2 v1).bind fun y8 => some (.inr (y8.1, y8.2)))
  else
    (if v2 = 1 then
    ((f_X0_heatIn y2 v1).bind fun y9 => some (.inr (y9.1, y9.2)))
  else
    (if v2 = 2 then
    ((f_X7_tellingIn y2 v1).bind fun y10 => some (.inr (y10.1, y10.2)))
  else
    (if v2 = 3 then
    ((f_X3_insideOf y2 v1).bind fun y11 => some (.inr (y11.1, y11.2)))
  else
    ((f_X7_doorAnswer y2 v1).bind fun y12 => some (.inr (y12.1, y12.2)))))))))
section
variable {p : Program} {l : Launch} {e : Env} {s : State} {m : MethodId} {args : Array Value} {below : List Frame} {meth : Method} {c : Code} {Q : State → Prop} {dC : Nat → ClassId} {dI : Nat → Nat → Nat} {cI cZ : ClassId} {q : Nat → Nat} {A : Nat → Prop} {res : Int32 × twS}
set_option maxRecDepth 20000 in
theorem c_X7_segment (l : Launch) (dC : Nat → ClassId) (dI : Nat → Nat → Nat) (cI cZ : ClassId) (q : Nat → Nat) {st : twS} {v1 : Int32} {v2 : Int32} {res : Int32 × twS} (hf : f_X7_segment st v1 v2 = some (.inr res)) : twMi l yX7_segment wsX7_segment rm_X7_segment (dC, dI) (twY cI cZ) [.ref (q 0), .int v1, .int v2] (twT cI cZ q st) res.1 (twT cI cZ q res.2) := by
  refine tw_enti (cc := cX7_segment) (maxL := 3) (own := RX7) (by decide) rfl (Nat.le_of_ble_eq_true rfl) rfl ⟨rfl, rfl⟩ ?_
  intro p e s m below meth c A Q C hE
  generalize ([.ref (q 0), .int v1, .int v2] : List Value).toArray = args at C hE ⊢
  refine tw_sub (lv' := [(0, .ref (q 0)), (1, .int v1), (2, .int v2)]) [0, 1, 2] rfl ?_
  unfold f_X7_segment at hf
  refine tw_iload_n C dX7_segment_0 1 rfl rfl ?_
  obtain ⟨y1, hc1, hf⟩ := tw_tryN hf
  refine tw_cSv (As := [.int v1]) (stk := []) C (c_X7_requireSegment l dC dI cI cZ q hc1) (va_cwS 1 C.hts gX7_segment_X7_requireSegment rfl rfl rfl hd_X7_requireSegment ⟨Nat.le_of_ble_eq_true rfl, Nat.le_of_ble_eq_true rfl⟩) rfl rfl (Nat.le_of_ble_eq_true rfl) dX7_segment_1 ⟨Nat.zero_le _, Nat.zero_le _⟩ ?_
  refine tw_iload_n C dX7_segment_4 2 rfl rfl ?_
  refine tw_iconst (v := 0) C dX7_segment_5 (by decide) ?_
  refine tw_iconst (v := 4) C dX7_segment_6 (by decide) ?_
  obtain ⟨y2, hc2, hf⟩ := tw_tryN hf
  refine tw_cSv (As := [.int v2, .int 0, .int 4]) (stk := []) C (c_X7_requireRange l dC dI cI cZ q hc2) (va_cwS 3 C.hts gX7_segment_X7_requireRange rfl rfl rfl hd_X7_requireRange ⟨Nat.le_of_ble_eq_true rfl, Nat.le_of_ble_eq_true rfl⟩) rfl rfl (Nat.le_of_ble_eq_true rfl) dX7_segment_7 ⟨Nat.zero_le _, Nat.zero_le _⟩ ?_
  refine tw_iload_n C dX7_segment_10 2 rfl rfl ?_
  by_cases c3 : v2 = 0
  · have hf := tw_pos hf c3
    refine tw_tableIn (tgt := 40) C dX7_segment_11 (by rw [c3]; decide) (by rw [c3]; decide) (by rw [c3]; rfl) (by decide) ?_
    refine tw_aload_n C dX7_segment_40 0 rfl rfl ?_
    refine tw_get (K := RX7) (T := TX7) (N := 14) (v := .ref (q 3)) C 0 2 (fun _ h => List.mem_cons_of_mem _ (List.mem_append_left _ (List.mem_append_left _ (List.mem_append_left _ (List.mem_append_left _ (List.mem_append_left _ (List.mem_append_right _ (h)))))))) rfl rfl (by decide) (List.mem_cons_of_mem _ (List.mem_append_left _ (List.mem_append_left _ (List.mem_append_left _ (List.mem_append_left _ (List.mem_append_left _ (List.mem_append_left _ (List.mem_append_left _ (List.mem_of_getElem? (i := 0) rfl))))))))) rfl rfl dX7_segment_41 ?_
    refine tw_iload_n C dX7_segment_44 1 rfl rfl ?_
    obtain ⟨y8, hc8, hf⟩ := tw_bd hf
    refine tw_cVi (As := [.int v1]) (stk := []) C (c_X0_smokeIn l dC dI cI cZ q hc8) (cwV 1 C.hts gX7_segment_X0_smokeIn rfl rfl rfl hd_X0_smokeIn ⟨Nat.le_of_ble_eq_true rfl, Nat.le_of_ble_eq_true rfl⟩) 3 (ci := 0) rfl rfl rfl rfl rfl (Nat.le_of_ble_eq_true rfl) dX7_segment_45 ⟨Nat.zero_le _, Nat.zero_le _⟩ ?_
    exact tw_endi (Wf := twT cI cZ q) hE (tw_inr hf) dX7_segment_48 rfl
  have hf := tw_neg hf c3
  by_cases c4 : v2 = 1
  · have hf := tw_pos hf c4
    refine tw_tableIn (tgt := 49) C dX7_segment_11 (by rw [c4]; decide) (by rw [c4]; decide) (by rw [c4]; rfl) (by decide) ?_
    refine tw_aload_n C dX7_segment_49 0 rfl rfl ?_
    refine tw_get (K := RX7) (T := TX7) (N := 14) (v := .ref (q 3)) C 0 2 (fun _ h => List.mem_cons_of_mem _ (List.mem_append_left _ (List.mem_append_left _ (List.mem_append_left _ (List.mem_append_left _ (List.mem_append_left _ (List.mem_append_right _ (h)))))))) rfl rfl (by decide) (List.mem_cons_of_mem _ (List.mem_append_left _ (List.mem_append_left _ (List.mem_append_left _ (List.mem_append_left _ (List.mem_append_left _ (List.mem_append_left _ (List.mem_append_left _ (List.mem_of_getElem? (i := 0) rfl))))))))) rfl rfl dX7_segment_50 ?_
    refine tw_iload_n C dX7_segment_53 1 rfl rfl ?_
    obtain ⟨y9, hc9, hf⟩ := tw_bd hf
    refine tw_cVi (As := [.int v1]) (stk := []) C (c_X0_heatIn l dC dI cI cZ q hc9) (cwV 1 C.hts gX7_segment_X0_heatIn rfl rfl rfl hd_X0_heatIn ⟨Nat.le_of_ble_eq_true rfl, Nat.le_of_ble_eq_true rfl⟩) 3 (ci := 0) rfl rfl rfl rfl rfl (Nat.le_of_ble_eq_true rfl) dX7_segment_54 ⟨Nat.zero_le _, Nat.zero_le _⟩ ?_
    exact tw_endi (Wf := twT cI cZ q) hE (tw_inr hf) dX7_segment_57 rfl
  have hf := tw_neg hf c4
  by_cases c5 : v2 = 2
  · have hf := tw_pos hf c5
    refine tw_tableIn (tgt := 58) C dX7_segment_11 (by rw [c5]; decide) (by rw [c5]; decide) (by rw [c5]; rfl) (by decide) ?_
    refine tw_aload_n C dX7_segment_58 0 rfl rfl ?_
    refine tw_iload_n C dX7_segment_59 1 rfl rfl ?_
    obtain ⟨y10, hc10, hf⟩ := tw_bd hf
    refine tw_cVi (As := [.int v1]) (stk := []) C (c_X7_tellingIn l dC dI cI cZ q hc10) (cwV 1 C.hts gX7_segment_X7_tellingIn rfl rfl rfl hd_X7_tellingIn ⟨Nat.le_of_ble_eq_true rfl, Nat.le_of_ble_eq_true rfl⟩) 0 (ci := 7) rfl rfl rfl rfl rfl (Nat.le_of_ble_eq_true rfl) dX7_segment_60 ⟨Nat.zero_le _, Nat.zero_le _⟩ ?_
    exact tw_endi (Wf := twT cI cZ q) hE (tw_inr hf) dX7_segment_63 rfl
  have hf := tw_neg hf c5
  by_cases c6 : v2 = 3
  · have hf := tw_pos hf c6
    refine tw_tableIn (tgt := 64) C dX7_segment_11 (by rw [c6]; decide) (by rw [c6]; decide) (by rw [c6]; rfl) (by decide) ?_
    refine tw_aload_n C dX7_segment_64 0 rfl rfl ?_
    refine tw_get (K := RX7) (T := TX7) (N := 14) (v := .ref (q 7)) C 0 6 (fun _ h => List.mem_cons_of_mem _ (List.mem_append_left _ (List.mem_append_left _ (List.mem_append_left _ (List.mem_append_left _ (List.mem_append_left _ (List.mem_append_right _ (h)))))))) rfl rfl (by decide) (List.mem_cons_of_mem _ (List.mem_append_left _ (List.mem_append_left _ (List.mem_append_left _ (List.mem_append_left _ (List.mem_append_left _ (List.mem_append_left _ (List.mem_append_left _ (List.mem_of_getElem? (i := 1) rfl))))))))) rfl rfl dX7_segment_65 ?_
    refine tw_iload_n C dX7_segment_68 1 rfl rfl ?_
    obtain ⟨y11, hc11, hf⟩ := tw_bd hf
    refine tw_cVi (As := [.int v1]) (stk := []) C (c_X3_insideOf l dC dI cI cZ q hc11) (cwV 1 C.hts gX7_segment_X3_insideOf rfl rfl rfl hd_X3_insideOf ⟨Nat.le_of_ble_eq_true rfl, Nat.le_of_ble_eq_true rfl⟩) 7 (ci := 3) rfl rfl rfl rfl rfl (Nat.le_of_ble_eq_true rfl) dX7_segment_69 ⟨Nat.zero_le _, Nat.zero_le _⟩ ?_
    exact tw_endi (Wf := twT cI cZ q) hE (tw_inr hf) dX7_segment_72 rfl
  have hf := tw_neg hf c6
  have K : twG p l e rm_X7_segment s m args below meth c 0 0 Q (dC, dI) A 3 (twT cI cZ q y2) 73 [(0, .ref (q 0)), (1, .int v1), (2, .int v2)] [] := by
    refine tw_aload_n C dX7_segment_73 0 rfl rfl ?_
    refine tw_iload_n C dX7_segment_74 1 rfl rfl ?_
    obtain ⟨y12, hc12, hf⟩ := tw_bd hf
    refine tw_cVi (As := [.int v1]) (stk := []) C (c_X7_doorAnswer l dC dI cI cZ q hc12) (cwV 1 C.hts gX7_segment_X7_doorAnswer rfl rfl rfl hd_X7_doorAnswer ⟨Nat.le_of_ble_eq_true rfl, Nat.le_of_ble_eq_true rfl⟩) 0 (ci := 7) rfl rfl rfl rfl rfl (Nat.le_of_ble_eq_true rfl) dX7_segment_75 ⟨Nat.zero_le _, Nat.zero_le _⟩ ?_
    exact tw_endi (Wf := twT cI cZ q) hE (tw_inr hf) dX7_segment_78 rfl
  exact tw_tableOut (tgt := 73) C dX7_segment_11 (tw_tout 3 (by decide) (fun k hk => by rcases (show k = 0 ∨ k = 1 ∨ k = 2 ∨ k = 3 by omega) with rfl | rfl | rfl | rfl <;> assumption)) (by decide) K
end
abbrev rmx_X7_segment : Room := { frames := 8, cells := 1, slots := 6, locals := 123 }
section
variable {p : Program} {l : Launch} {e : Env} {s : State} {m : MethodId} {args : Array Value} {below : List Frame} {meth : Method} {c : Code} {Q : State → Prop} {dC : Nat → ClassId} {dI : Nat → Nat → Nat} {cI cZ : ClassId} {q : Nat → Nat} {A : Nat → Prop} {res : String × twS}
set_option maxRecDepth 20000 in
theorem x_X7_segment (l : Launch) (hl0 : l.stackTraces = false) (dC : Nat → ClassId) (dI : Nat → Nat → Nat) (cI cZ : ClassId) (q : Nat → Nat) {st : twS} {v1 : Int32} {v2 : Int32} {res : String × twS} (hf : f_X7_segment st v1 v2 = some (.inl res)) : twMx l yX7_segment wsX7_segment rmx_X7_segment (dC, dI) (twY cI cZ) [.ref (q 0), .int v1, .int v2] (twT cI cZ q st) res.1 (twT cI cZ q res.2) := by
  refine tw_entx (cc := cX7_segment) (maxL := 3) (own := RX7) (by decide) rfl (Nat.le_of_ble_eq_true rfl) rfl ?_
  intro p e s m below meth c A C X0 hnt
  generalize ([.ref (q 0), .int v1, .int v2] : List Value).toArray = args at C ⊢
  refine tw_sub (lv' := [(0, .ref (q 0)), (1, .int v1), (2, .int v2)]) [0, 1, 2] rfl ?_
  unfold f_X7_segment at hf
  refine tw_iload_n C dX7_segment_0 1 rfl rfl ?_
  rcases tw_tryX hf with hx1 | ⟨y1, hc1, hf⟩
  · exact tw_xS (As := [.int v1]) (stk := []) C X0 hnt (x_X7_requireSegment l hl0 dC dI cI cZ q hx1) (va_cwS 1 C.hts gX7_segment_X7_requireSegment rfl rfl rfl hd_X7_requireSegment ⟨Nat.le_of_ble_eq_true rfl, Nat.le_of_ble_eq_true rfl⟩) rfl rfl (Nat.le_of_ble_eq_true rfl) dX7_segment_1 ⟨Nat.le_of_ble_eq_true rfl, Nat.le_of_ble_eq_true rfl⟩
  refine tw_cSv (As := [.int v1]) (stk := []) C (c_X7_requireSegment l dC dI cI cZ q hc1) (va_cwS 1 C.hts gX7_segment_X7_requireSegment rfl rfl rfl hd_X7_requireSegment ⟨Nat.le_of_ble_eq_true rfl, Nat.le_of_ble_eq_true rfl⟩) rfl rfl (Nat.le_of_ble_eq_true rfl) dX7_segment_1 ⟨Nat.zero_le _, Nat.zero_le _⟩ ?_
  refine tw_iload_n C dX7_segment_4 2 rfl rfl ?_
  refine tw_iconst (v := 0) C dX7_segment_5 (by decide) ?_
  refine tw_iconst (v := 4) C dX7_segment_6 (by decide) ?_
  rcases tw_tryX hf with hx2 | ⟨y2, hc2, hf⟩
  · exact tw_xS (As := [.int v2, .int 0, .int 4]) (stk := []) C X0 hnt (x_X7_requireRange l hl0 dC dI cI cZ q hx2) (va_cwS 3 C.hts gX7_segment_X7_requireRange rfl rfl rfl hd_X7_requireRange ⟨Nat.le_of_ble_eq_true rfl, Nat.le_of_ble_eq_true rfl⟩) rfl rfl (Nat.le_of_ble_eq_true rfl) dX7_segment_7 ⟨Nat.le_of_ble_eq_true rfl, Nat.le_of_ble_eq_true rfl⟩
  refine tw_cSv (As := [.int v2, .int 0, .int 4]) (stk := []) C (c_X7_requireRange l dC dI cI cZ q hc2) (va_cwS 3 C.hts gX7_segment_X7_requireRange rfl rfl rfl hd_X7_requireRange ⟨Nat.le_of_ble_eq_true rfl, Nat.le_of_ble_eq_true rfl⟩) rfl rfl (Nat.le_of_ble_eq_true rfl) dX7_segment_7 ⟨Nat.zero_le _, Nat.zero_le _⟩ ?_
  refine tw_iload_n C dX7_segment_10 2 rfl rfl ?_
  by_cases c3 : v2 = 0
  · have hf := tw_pos hf c3
    refine tw_tableIn (tgt := 40) C dX7_segment_11 (by rw [c3]; decide) (by rw [c3]; decide) (by rw [c3]; rfl) (by decide) ?_
    refine tw_aload_n C dX7_segment_40 0 rfl rfl ?_
    refine tw_get (K := RX7) (T := TX7) (N := 14) (v := .ref (q 3)) C 0 2 (fun _ h => List.mem_cons_of_mem _ (List.mem_append_left _ (List.mem_append_left _ (List.mem_append_left _ (List.mem_append_left _ (List.mem_append_left _ (List.mem_append_right _ (h)))))))) rfl rfl (by decide) (List.mem_cons_of_mem _ (List.mem_append_left _ (List.mem_append_left _ (List.mem_append_left _ (List.mem_append_left _ (List.mem_append_left _ (List.mem_append_left _ (List.mem_append_left _ (List.mem_of_getElem? (i := 0) rfl))))))))) rfl rfl dX7_segment_41 ?_
    refine tw_iload_n C dX7_segment_44 1 rfl rfl ?_
    obtain ⟨y8, hc8, hf⟩ := tw_bd hf
    refine tw_cVi (As := [.int v1]) (stk := []) C (c_X0_smokeIn l dC dI cI cZ q hc8) (cwV 1 C.hts gX7_segment_X0_smokeIn rfl rfl rfl hd_X0_smokeIn ⟨Nat.le_of_ble_eq_true rfl, Nat.le_of_ble_eq_true rfl⟩) 3 (ci := 0) rfl rfl rfl rfl rfl (Nat.le_of_ble_eq_true rfl) dX7_segment_45 ⟨Nat.zero_le _, Nat.zero_le _⟩ ?_
    cases hf
  have hf := tw_neg hf c3
  by_cases c4 : v2 = 1
  · have hf := tw_pos hf c4
    refine tw_tableIn (tgt := 49) C dX7_segment_11 (by rw [c4]; decide) (by rw [c4]; decide) (by rw [c4]; rfl) (by decide) ?_
    refine tw_aload_n C dX7_segment_49 0 rfl rfl ?_
    refine tw_get (K := RX7) (T := TX7) (N := 14) (v := .ref (q 3)) C 0 2 (fun _ h => List.mem_cons_of_mem _ (List.mem_append_left _ (List.mem_append_left _ (List.mem_append_left _ (List.mem_append_left _ (List.mem_append_left _ (List.mem_append_right _ (h)))))))) rfl rfl (by decide) (List.mem_cons_of_mem _ (List.mem_append_left _ (List.mem_append_left _ (List.mem_append_left _ (List.mem_append_left _ (List.mem_append_left _ (List.mem_append_left _ (List.mem_append_left _ (List.mem_of_getElem? (i := 0) rfl))))))))) rfl rfl dX7_segment_50 ?_
    refine tw_iload_n C dX7_segment_53 1 rfl rfl ?_
    obtain ⟨y9, hc9, hf⟩ := tw_bd hf
    refine tw_cVi (As := [.int v1]) (stk := []) C (c_X0_heatIn l dC dI cI cZ q hc9) (cwV 1 C.hts gX7_segment_X0_heatIn rfl rfl rfl hd_X0_heatIn ⟨Nat.le_of_ble_eq_true rfl, Nat.le_of_ble_eq_true rfl⟩) 3 (ci := 0) rfl rfl rfl rfl rfl (Nat.le_of_ble_eq_true rfl) dX7_segment_54 ⟨Nat.zero_le _, Nat.zero_le _⟩ ?_
    cases hf
  have hf := tw_neg hf c4
  by_cases c5 : v2 = 2
  · have hf := tw_pos hf c5
    refine tw_tableIn (tgt := 58) C dX7_segment_11 (by rw [c5]; decide) (by rw [c5]; decide) (by rw [c5]; rfl) (by decide) ?_
    refine tw_aload_n C dX7_segment_58 0 rfl rfl ?_
    refine tw_iload_n C dX7_segment_59 1 rfl rfl ?_
    obtain ⟨y10, hc10, hf⟩ := tw_bd hf
    refine tw_cVi (As := [.int v1]) (stk := []) C (c_X7_tellingIn l dC dI cI cZ q hc10) (cwV 1 C.hts gX7_segment_X7_tellingIn rfl rfl rfl hd_X7_tellingIn ⟨Nat.le_of_ble_eq_true rfl, Nat.le_of_ble_eq_true rfl⟩) 0 (ci := 7) rfl rfl rfl rfl rfl (Nat.le_of_ble_eq_true rfl) dX7_segment_60 ⟨Nat.zero_le _, Nat.zero_le _⟩ ?_
    cases hf
  have hf := tw_neg hf c5
  by_cases c6 : v2 = 3
  · have hf := tw_pos hf c6
    refine tw_tableIn (tgt := 64) C dX7_segment_11 (by rw [c6]; decide) (by rw [c6]; decide) (by rw [c6]; rfl) (by decide) ?_
    refine tw_aload_n C dX7_segment_64 0 rfl rfl ?_
    refine tw_get (K := RX7) (T := TX7) (N := 14) (v := .ref (q 7)) C 0 6 (fun _ h => List.mem_cons_of_mem _ (List.mem_append_left _ (List.mem_append_left _ (List.mem_append_left _ (List.mem_append_left _ (List.mem_append_left _ (List.mem_append_right _ (h)))))))) rfl rfl (by decide) (List.mem_cons_of_mem _ (List.mem_append_left _ (List.mem_append_left _ (List.mem_append_left _ (List.mem_append_left _ (List.mem_append_left _ (List.mem_append_left _ (List.mem_append_left _ (List.mem_of_getElem? (i := 1) rfl))))))))) rfl rfl dX7_segment_65 ?_
    refine tw_iload_n C dX7_segment_68 1 rfl rfl ?_
    obtain ⟨y11, hc11, hf⟩ := tw_bd hf
    refine tw_cVi (As := [.int v1]) (stk := []) C (c_X3_insideOf l dC dI cI cZ q hc11) (cwV 1 C.hts gX7_segment_X3_insideOf rfl rfl rfl hd_X3_insideOf ⟨Nat.le_of_ble_eq_true rfl, Nat.le_of_ble_eq_true rfl⟩) 7 (ci := 3) rfl rfl rfl rfl rfl (Nat.le_of_ble_eq_true rfl) dX7_segment_69 ⟨Nat.zero_le _, Nat.zero_le _⟩ ?_
    cases hf
  have hf := tw_neg hf c6
  have K : twG p l e rmx_X7_segment s m args below meth c 0 0 (twQx below args s (dC, dI) (twY cI cZ) A res.1 (twT cI cZ q res.2)) (dC, dI) A 3 (twT cI cZ q y2) 73 [(0, .ref (q 0)), (1, .int v1), (2, .int v2)] [] := by
    refine tw_aload_n C dX7_segment_73 0 rfl rfl ?_
    refine tw_iload_n C dX7_segment_74 1 rfl rfl ?_
    obtain ⟨y12, hc12, hf⟩ := tw_bd hf
    refine tw_cVi (As := [.int v1]) (stk := []) C (c_X7_doorAnswer l dC dI cI cZ q hc12) (cwV 1 C.hts gX7_segment_X7_doorAnswer rfl rfl rfl hd_X7_doorAnswer ⟨Nat.le_of_ble_eq_true rfl, Nat.le_of_ble_eq_true rfl⟩) 0 (ci := 7) rfl rfl rfl rfl rfl (Nat.le_of_ble_eq_true rfl) dX7_segment_75 ⟨Nat.zero_le _, Nat.zero_le _⟩ ?_
    cases hf
  exact tw_tableOut (tgt := 73) C dX7_segment_11 (tw_tout 3 (by decide) (fun k hk => by rcases (show k = 0 ∨ k = 1 ∨ k = 2 ∨ k = 3 by omega) with rfl | rfl | rfl | rfl <;> assumption)) (by decide) K
end
/-! X7_fan: public int fan(int) throws java.lang.IndexOutOfBoundsException -/
abbrev rm_X7_fan : Room := { frames := 2, cells := 0, slots := 0, locals := 44 }
def f_X7_fan (st : twS) (v1 : Int32) : Option ((String × twS) ⊕ (Int32 × twS)) :=
  ((f_X7_requireIndex st v1 3).bind fun w1 => twTry w1 fun y1 => ((f_X5_stateOf y1 v1).bind fun y2 => some (.inr (y2.1, y2.2))))
section
variable {p : Program} {l : Launch} {e : Env} {s : State} {m : MethodId} {args : Array Value} {below : List Frame} {meth : Method} {c : Code} {Q : State → Prop} {dC : Nat → ClassId} {dI : Nat → Nat → Nat} {cI cZ : ClassId} {q : Nat → Nat} {A : Nat → Prop} {res : Int32 × twS}
set_option maxRecDepth 20000 in
theorem c_X7_fan (l : Launch) (dC : Nat → ClassId) (dI : Nat → Nat → Nat) (cI cZ : ClassId) (q : Nat → Nat) {st : twS} {v1 : Int32} {res : Int32 × twS} (hf : f_X7_fan st v1 = some (.inr res)) : twMi l yX7_fan wsX7_fan rm_X7_fan (dC, dI) (twY cI cZ) [.ref (q 0), .int v1] (twT cI cZ q st) res.1 (twT cI cZ q res.2) := by
  refine tw_enti (cc := cX7_fan) (maxL := 2) (own := RX7) (by decide) rfl (Nat.le_of_ble_eq_true rfl) rfl ⟨rfl, rfl⟩ ?_
  intro p e s m below meth c A Q C hE
  generalize ([.ref (q 0), .int v1] : List Value).toArray = args at C hE ⊢
  refine tw_sub (lv' := [(0, .ref (q 0)), (1, .int v1)]) [0, 1] rfl ?_
  unfold f_X7_fan at hf
  refine tw_iload_n C dX7_fan_0 1 rfl rfl ?_
  refine tw_iconst (v := 3) C dX7_fan_1 (by decide) ?_
  obtain ⟨y1, hc1, hf⟩ := tw_tryN hf
  refine tw_cSv (As := [.int v1, .int 3]) (stk := []) C (c_X7_requireIndex l dC dI cI cZ q hc1) (va_cwS 2 C.hts gX7_fan_X7_requireIndex rfl rfl rfl hd_X7_requireIndex ⟨Nat.le_of_ble_eq_true rfl, Nat.le_of_ble_eq_true rfl⟩) rfl rfl (Nat.le_of_ble_eq_true rfl) dX7_fan_2 ⟨Nat.zero_le _, Nat.zero_le _⟩ ?_
  refine tw_aload_n C dX7_fan_5 0 rfl rfl ?_
  refine tw_get (K := RX7) (T := TX7) (N := 14) (v := .ref (q 1)) C 0 0 (fun _ h => List.mem_cons_of_mem _ (List.mem_append_left _ (List.mem_append_left _ (List.mem_append_right _ (h))))) rfl rfl (by decide) (List.mem_cons_of_mem _ (List.mem_append_left _ (List.mem_append_left _ (List.mem_append_left _ (List.mem_of_getElem? (i := 0) rfl))))) rfl rfl dX7_fan_6 ?_
  refine tw_iload_n C dX7_fan_9 1 rfl rfl ?_
  obtain ⟨y2, hc2, hf⟩ := tw_bd hf
  refine tw_cVi (As := [.int v1]) (stk := []) C (c_X5_stateOf l dC dI cI cZ q hc2) (cwV 1 C.hts gX7_fan_X5_stateOf rfl rfl rfl hd_X5_stateOf ⟨Nat.le_of_ble_eq_true rfl, Nat.le_of_ble_eq_true rfl⟩) 1 (ci := 5) rfl rfl rfl rfl rfl (Nat.le_of_ble_eq_true rfl) dX7_fan_10 ⟨Nat.zero_le _, Nat.zero_le _⟩ ?_
  exact tw_endi (Wf := twT cI cZ q) hE (tw_inr hf) dX7_fan_13 rfl
end
abbrev rmx_X7_fan : Room := { frames := 7, cells := 1, slots := 6, locals := 103 }
section
variable {p : Program} {l : Launch} {e : Env} {s : State} {m : MethodId} {args : Array Value} {below : List Frame} {meth : Method} {c : Code} {Q : State → Prop} {dC : Nat → ClassId} {dI : Nat → Nat → Nat} {cI cZ : ClassId} {q : Nat → Nat} {A : Nat → Prop} {res : String × twS}
set_option maxRecDepth 20000 in
theorem x_X7_fan (l : Launch) (hl0 : l.stackTraces = false) (dC : Nat → ClassId) (dI : Nat → Nat → Nat) (cI cZ : ClassId) (q : Nat → Nat) {st : twS} {v1 : Int32} {res : String × twS} (hf : f_X7_fan st v1 = some (.inl res)) : twMx l yX7_fan wsX7_fan rmx_X7_fan (dC, dI) (twY cI cZ) [.ref (q 0), .int v1] (twT cI cZ q st) res.1 (twT cI cZ q res.2) := by
  refine tw_entx (cc := cX7_fan) (maxL := 2) (own := RX7) (by decide) rfl (Nat.le_of_ble_eq_true rfl) rfl ?_
  intro p e s m below meth c A C X0 hnt
  generalize ([.ref (q 0), .int v1] : List Value).toArray = args at C ⊢
  refine tw_sub (lv' := [(0, .ref (q 0)), (1, .int v1)]) [0, 1] rfl ?_
  unfold f_X7_fan at hf
  refine tw_iload_n C dX7_fan_0 1 rfl rfl ?_
  refine tw_iconst (v := 3) C dX7_fan_1 (by decide) ?_
  rcases tw_tryX hf with hx1 | ⟨y1, hc1, hf⟩
  · exact tw_xS (As := [.int v1, .int 3]) (stk := []) C X0 hnt (x_X7_requireIndex l hl0 dC dI cI cZ q hx1) (va_cwS 2 C.hts gX7_fan_X7_requireIndex rfl rfl rfl hd_X7_requireIndex ⟨Nat.le_of_ble_eq_true rfl, Nat.le_of_ble_eq_true rfl⟩) rfl rfl (Nat.le_of_ble_eq_true rfl) dX7_fan_2 ⟨Nat.le_of_ble_eq_true rfl, Nat.le_of_ble_eq_true rfl⟩
  refine tw_cSv (As := [.int v1, .int 3]) (stk := []) C (c_X7_requireIndex l dC dI cI cZ q hc1) (va_cwS 2 C.hts gX7_fan_X7_requireIndex rfl rfl rfl hd_X7_requireIndex ⟨Nat.le_of_ble_eq_true rfl, Nat.le_of_ble_eq_true rfl⟩) rfl rfl (Nat.le_of_ble_eq_true rfl) dX7_fan_2 ⟨Nat.zero_le _, Nat.zero_le _⟩ ?_
  refine tw_aload_n C dX7_fan_5 0 rfl rfl ?_
  refine tw_get (K := RX7) (T := TX7) (N := 14) (v := .ref (q 1)) C 0 0 (fun _ h => List.mem_cons_of_mem _ (List.mem_append_left _ (List.mem_append_left _ (List.mem_append_right _ (h))))) rfl rfl (by decide) (List.mem_cons_of_mem _ (List.mem_append_left _ (List.mem_append_left _ (List.mem_append_left _ (List.mem_of_getElem? (i := 0) rfl))))) rfl rfl dX7_fan_6 ?_
  refine tw_iload_n C dX7_fan_9 1 rfl rfl ?_
  obtain ⟨y2, hc2, hf⟩ := tw_bd hf
  refine tw_cVi (As := [.int v1]) (stk := []) C (c_X5_stateOf l dC dI cI cZ q hc2) (cwV 1 C.hts gX7_fan_X5_stateOf rfl rfl rfl hd_X5_stateOf ⟨Nat.le_of_ble_eq_true rfl, Nat.le_of_ble_eq_true rfl⟩) 1 (ci := 5) rfl rfl rfl rfl rfl (Nat.le_of_ble_eq_true rfl) dX7_fan_10 ⟨Nat.zero_le _, Nat.zero_le _⟩ ?_
  cases hf
end
/-! X7_done: public int done(int) throws java.lang.IndexOutOfBoundsException -/
abbrev rm_X7_done : Room := { frames := 2, cells := 0, slots := 0, locals := 44 }
def f_X7_done (st : twS) (v1 : Int32) : Option ((String × twS) ⊕ (Int32 × twS)) :=
  ((f_X2_size st).bind fun y1 => ((f_X7_requireIndex y1.2 v1 y1.1).bind fun w2 => twTry w2 fun y2 => ((f_X2_stepOf y2 v1).bind fun y3 => some (.inr (y3.1, y3.2)))))
section
variable {p : Program} {l : Launch} {e : Env} {s : State} {m : MethodId} {args : Array Value} {below : List Frame} {meth : Method} {c : Code} {Q : State → Prop} {dC : Nat → ClassId} {dI : Nat → Nat → Nat} {cI cZ : ClassId} {q : Nat → Nat} {A : Nat → Prop} {res : Int32 × twS}
set_option maxRecDepth 20000 in
theorem c_X7_done (l : Launch) (dC : Nat → ClassId) (dI : Nat → Nat → Nat) (cI cZ : ClassId) (q : Nat → Nat) {st : twS} {v1 : Int32} {res : Int32 × twS} (hf : f_X7_done st v1 = some (.inr res)) : twMi l yX7_done wsX7_done rm_X7_done (dC, dI) (twY cI cZ) [.ref (q 0), .int v1] (twT cI cZ q st) res.1 (twT cI cZ q res.2) := by
  refine tw_enti (cc := cX7_done) (maxL := 2) (own := RX7) (by decide) rfl (Nat.le_of_ble_eq_true rfl) rfl ⟨rfl, rfl⟩ ?_
  intro p e s m below meth c A Q C hE
  generalize ([.ref (q 0), .int v1] : List Value).toArray = args at C hE ⊢
  refine tw_sub (lv' := [(0, .ref (q 0)), (1, .int v1)]) [0, 1] rfl ?_
  unfold f_X7_done at hf
  refine tw_iload_n C dX7_done_0 1 rfl rfl ?_
  refine tw_aload_n C dX7_done_1 0 rfl rfl ?_
  refine tw_get (K := RX7) (T := TX7) (N := 14) (v := .ref (q 6)) C 0 5 (fun _ h => List.mem_cons_of_mem _ (List.mem_append_left _ (List.mem_append_left _ (List.mem_append_right _ (h))))) rfl rfl (by decide) (List.mem_cons_of_mem _ (List.mem_append_left _ (List.mem_append_left _ (List.mem_append_left _ (List.mem_of_getElem? (i := 0) rfl))))) rfl rfl dX7_done_2 ?_
  obtain ⟨y1, hc1, hf⟩ := tw_bd hf
  refine tw_cVi (As := []) (stk := [.int v1]) C (c_X2_size l dC dI cI cZ q hc1) (cwV 0 C.hts gX7_done_X2_size rfl rfl rfl hd_X2_size ⟨Nat.le_of_ble_eq_true rfl, Nat.le_of_ble_eq_true rfl⟩) 6 (ci := 2) rfl rfl rfl rfl rfl (Nat.le_of_ble_eq_true rfl) dX7_done_5 ⟨Nat.zero_le _, Nat.zero_le _⟩ ?_
  obtain ⟨y2, hc2, hf⟩ := tw_tryN hf
  refine tw_cSv (As := [.int v1, .int y1.1]) (stk := []) C (c_X7_requireIndex l dC dI cI cZ q hc2) (va_cwS 2 C.hts gX7_done_X7_requireIndex rfl rfl rfl hd_X7_requireIndex ⟨Nat.le_of_ble_eq_true rfl, Nat.le_of_ble_eq_true rfl⟩) rfl rfl (Nat.le_of_ble_eq_true rfl) dX7_done_8 ⟨Nat.zero_le _, Nat.zero_le _⟩ ?_
  refine tw_aload_n C dX7_done_11 0 rfl rfl ?_
  refine tw_get (K := RX7) (T := TX7) (N := 14) (v := .ref (q 6)) C 0 5 (fun _ h => List.mem_cons_of_mem _ (List.mem_append_left _ (List.mem_append_left _ (List.mem_append_right _ (h))))) rfl rfl (by decide) (List.mem_cons_of_mem _ (List.mem_append_left _ (List.mem_append_left _ (List.mem_append_left _ (List.mem_of_getElem? (i := 0) rfl))))) rfl rfl dX7_done_12 ?_
  refine tw_iload_n C dX7_done_15 1 rfl rfl ?_
  obtain ⟨y3, hc3, hf⟩ := tw_bd hf
  refine tw_cVi (As := [.int v1]) (stk := []) C (c_X2_stepOf l dC dI cI cZ q hc3) (cwV 1 C.hts gX7_done_X2_stepOf rfl rfl rfl hd_X2_stepOf ⟨Nat.le_of_ble_eq_true rfl, Nat.le_of_ble_eq_true rfl⟩) 6 (ci := 2) rfl rfl rfl rfl rfl (Nat.le_of_ble_eq_true rfl) dX7_done_16 ⟨Nat.zero_le _, Nat.zero_le _⟩ ?_
  exact tw_endi (Wf := twT cI cZ q) hE (tw_inr hf) dX7_done_19 rfl
end
abbrev rmx_X7_done : Room := { frames := 7, cells := 1, slots := 6, locals := 103 }
section
variable {p : Program} {l : Launch} {e : Env} {s : State} {m : MethodId} {args : Array Value} {below : List Frame} {meth : Method} {c : Code} {Q : State → Prop} {dC : Nat → ClassId} {dI : Nat → Nat → Nat} {cI cZ : ClassId} {q : Nat → Nat} {A : Nat → Prop} {res : String × twS}
set_option maxRecDepth 20000 in
theorem x_X7_done (l : Launch) (hl0 : l.stackTraces = false) (dC : Nat → ClassId) (dI : Nat → Nat → Nat) (cI cZ : ClassId) (q : Nat → Nat) {st : twS} {v1 : Int32} {res : String × twS} (hf : f_X7_done st v1 = some (.inl res)) : twMx l yX7_done wsX7_done rmx_X7_done (dC, dI) (twY cI cZ) [.ref (q 0), .int v1] (twT cI cZ q st) res.1 (twT cI cZ q res.2) := by
  refine tw_entx (cc := cX7_done) (maxL := 2) (own := RX7) (by decide) rfl (Nat.le_of_ble_eq_true rfl) rfl ?_
  intro p e s m below meth c A C X0 hnt
  generalize ([.ref (q 0), .int v1] : List Value).toArray = args at C ⊢
  refine tw_sub (lv' := [(0, .ref (q 0)), (1, .int v1)]) [0, 1] rfl ?_
  unfold f_X7_done at hf
  refine tw_iload_n C dX7_done_0 1 rfl rfl ?_
  refine tw_aload_n C dX7_done_1 0 rfl rfl ?_
  refine tw_get (K := RX7) (T := TX7) (N := 14) (v := .ref (q 6)) C 0 5 (fun _ h => List.mem_cons_of_mem _ (List.mem_append_left _ (List.mem_append_left _ (List.mem_append_right _ (h))))) rfl rfl (by decide) (List.mem_cons_of_mem _ (List.mem_append_left _ (List.mem_append_left _ (List.mem_append_left _ (List.mem_of_getElem? (i := 0) rfl))))) rfl rfl dX7_done_2 ?_
  obtain ⟨y1, hc1, hf⟩ := tw_bd hf
  refine tw_cVi (As := []) (stk := [.int v1]) C (c_X2_size l dC dI cI cZ q hc1) (cwV 0 C.hts gX7_done_X2_size rfl rfl rfl hd_X2_size ⟨Nat.le_of_ble_eq_true rfl, Nat.le_of_ble_eq_true rfl⟩) 6 (ci := 2) rfl rfl rfl rfl rfl (Nat.le_of_ble_eq_true rfl) dX7_done_5 ⟨Nat.zero_le _, Nat.zero_le _⟩ ?_
  rcases tw_tryX hf with hx2 | ⟨y2, hc2, hf⟩
  · exact tw_xS (As := [.int v1, .int y1.1]) (stk := []) C X0 hnt (x_X7_requireIndex l hl0 dC dI cI cZ q hx2) (va_cwS 2 C.hts gX7_done_X7_requireIndex rfl rfl rfl hd_X7_requireIndex ⟨Nat.le_of_ble_eq_true rfl, Nat.le_of_ble_eq_true rfl⟩) rfl rfl (Nat.le_of_ble_eq_true rfl) dX7_done_8 ⟨Nat.le_of_ble_eq_true rfl, Nat.le_of_ble_eq_true rfl⟩
  refine tw_cSv (As := [.int v1, .int y1.1]) (stk := []) C (c_X7_requireIndex l dC dI cI cZ q hc2) (va_cwS 2 C.hts gX7_done_X7_requireIndex rfl rfl rfl hd_X7_requireIndex ⟨Nat.le_of_ble_eq_true rfl, Nat.le_of_ble_eq_true rfl⟩) rfl rfl (Nat.le_of_ble_eq_true rfl) dX7_done_8 ⟨Nat.zero_le _, Nat.zero_le _⟩ ?_
  refine tw_aload_n C dX7_done_11 0 rfl rfl ?_
  refine tw_get (K := RX7) (T := TX7) (N := 14) (v := .ref (q 6)) C 0 5 (fun _ h => List.mem_cons_of_mem _ (List.mem_append_left _ (List.mem_append_left _ (List.mem_append_right _ (h))))) rfl rfl (by decide) (List.mem_cons_of_mem _ (List.mem_append_left _ (List.mem_append_left _ (List.mem_append_left _ (List.mem_of_getElem? (i := 0) rfl))))) rfl rfl dX7_done_12 ?_
  refine tw_iload_n C dX7_done_15 1 rfl rfl ?_
  obtain ⟨y3, hc3, hf⟩ := tw_bd hf
  refine tw_cVi (As := [.int v1]) (stk := []) C (c_X2_stepOf l dC dI cI cZ q hc3) (cwV 1 C.hts gX7_done_X2_stepOf rfl rfl rfl hd_X2_stepOf ⟨Nat.le_of_ble_eq_true rfl, Nat.le_of_ble_eq_true rfl⟩) 6 (ci := 2) rfl rfl rfl rfl rfl (Nat.le_of_ble_eq_true rfl) dX7_done_16 ⟨Nat.zero_le _, Nat.zero_le _⟩ ?_
  cases hf
end
/-! X7_person: public int person(int, int) throws java.lang.IndexOutOfBoundsException, java.lang.IllegalArgumentException -/
abbrev rm_X7_person : Room := { frames := 2, cells := 0, slots := 0, locals := 45 }
def f_X7_person (st : twS) (v1 : Int32) (v2 : Int32) : Option ((String × twS) ⊕ (Int32 × twS)) :=
  ((f_X3_size st).bind fun y1 => ((f_X7_requireIndex y1.2 v1 y1.1).bind fun w2 => twTry w2 fun y2 => ((f_X7_requireRange y2 v2 0 2).bind fun w3 => twTry w3 fun y3 => (if v2 = 0 then
    ((f_X3_stateOf y3 v1).bind fun y7 => some (.inr (y7.1, y7.2)))
  else
    (if v2 = 1 then
    ((f_X3_segmentOf y3 v1).bind fun y8 => some (.inr (y8.1, y8.2)))
  else
    ((f_X3_endOf y3 v1).bind fun y9 => some (.inr (y9.1, y9.2))))))))
section
variable {p : Program} {l : Launch} {e : Env} {s : State} {m : MethodId} {args : Array Value} {below : List Frame} {meth : Method} {c : Code} {Q : State → Prop} {dC : Nat → ClassId} {dI : Nat → Nat → Nat} {cI cZ : ClassId} {q : Nat → Nat} {A : Nat → Prop} {res : Int32 × twS}
set_option maxRecDepth 20000 in
theorem c_X7_person (l : Launch) (dC : Nat → ClassId) (dI : Nat → Nat → Nat) (cI cZ : ClassId) (q : Nat → Nat) {st : twS} {v1 : Int32} {v2 : Int32} {res : Int32 × twS} (hf : f_X7_person st v1 v2 = some (.inr res)) : twMi l yX7_person wsX7_person rm_X7_person (dC, dI) (twY cI cZ) [.ref (q 0), .int v1, .int v2] (twT cI cZ q st) res.1 (twT cI cZ q res.2) := by
  refine tw_enti (cc := cX7_person) (maxL := 3) (own := RX7) (by decide) rfl (Nat.le_of_ble_eq_true rfl) rfl ⟨rfl, rfl⟩ ?_
  intro p e s m below meth c A Q C hE
  generalize ([.ref (q 0), .int v1, .int v2] : List Value).toArray = args at C hE ⊢
  refine tw_sub (lv' := [(0, .ref (q 0)), (1, .int v1), (2, .int v2)]) [0, 1, 2] rfl ?_
  unfold f_X7_person at hf
  refine tw_iload_n C dX7_person_0 1 rfl rfl ?_
  refine tw_aload_n C dX7_person_1 0 rfl rfl ?_
  refine tw_get (K := RX7) (T := TX7) (N := 14) (v := .ref (q 7)) C 0 6 (fun _ h => List.mem_cons_of_mem _ (List.mem_append_left _ (List.mem_append_left _ (List.mem_append_left _ (List.mem_append_right _ (h)))))) rfl rfl (by decide) (List.mem_cons_of_mem _ (List.mem_append_left _ (List.mem_append_left _ (List.mem_append_left _ (List.mem_append_left _ (List.mem_append_left _ (List.mem_of_getElem? (i := 0) rfl))))))) rfl rfl dX7_person_2 ?_
  obtain ⟨y1, hc1, hf⟩ := tw_bd hf
  refine tw_cVi (As := []) (stk := [.int v1]) C (c_X3_size l dC dI cI cZ q hc1) (cwV 0 C.hts gX7_person_X3_size rfl rfl rfl hd_X3_size ⟨Nat.le_of_ble_eq_true rfl, Nat.le_of_ble_eq_true rfl⟩) 7 (ci := 3) rfl rfl rfl rfl rfl (Nat.le_of_ble_eq_true rfl) dX7_person_5 ⟨Nat.zero_le _, Nat.zero_le _⟩ ?_
  obtain ⟨y2, hc2, hf⟩ := tw_tryN hf
  refine tw_cSv (As := [.int v1, .int y1.1]) (stk := []) C (c_X7_requireIndex l dC dI cI cZ q hc2) (va_cwS 2 C.hts gX7_person_X7_requireIndex rfl rfl rfl hd_X7_requireIndex ⟨Nat.le_of_ble_eq_true rfl, Nat.le_of_ble_eq_true rfl⟩) rfl rfl (Nat.le_of_ble_eq_true rfl) dX7_person_8 ⟨Nat.zero_le _, Nat.zero_le _⟩ ?_
  refine tw_iload_n C dX7_person_11 2 rfl rfl ?_
  refine tw_iconst (v := 0) C dX7_person_12 (by decide) ?_
  refine tw_iconst (v := 2) C dX7_person_13 (by decide) ?_
  obtain ⟨y3, hc3, hf⟩ := tw_tryN hf
  refine tw_cSv (As := [.int v2, .int 0, .int 2]) (stk := []) C (c_X7_requireRange l dC dI cI cZ q hc3) (va_cwS 3 C.hts gX7_person_X7_requireRange rfl rfl rfl hd_X7_requireRange ⟨Nat.le_of_ble_eq_true rfl, Nat.le_of_ble_eq_true rfl⟩) rfl rfl (Nat.le_of_ble_eq_true rfl) dX7_person_14 ⟨Nat.zero_le _, Nat.zero_le _⟩ ?_
  refine tw_iload_n C dX7_person_17 2 rfl rfl ?_
  by_cases c4 : v2 = 0
  · have hf := tw_pos hf c4
    refine tw_lookup (tgt := 44) C dX7_person_18 (by decide) (by rw [c4] <;> rfl) (by decide) ?_
    refine tw_aload_n C dX7_person_44 0 rfl rfl ?_
    refine tw_get (K := RX7) (T := TX7) (N := 14) (v := .ref (q 7)) C 0 6 (fun _ h => List.mem_cons_of_mem _ (List.mem_append_left _ (List.mem_append_left _ (List.mem_append_left _ (List.mem_append_right _ (h)))))) rfl rfl (by decide) (List.mem_cons_of_mem _ (List.mem_append_left _ (List.mem_append_left _ (List.mem_append_left _ (List.mem_append_left _ (List.mem_append_left _ (List.mem_of_getElem? (i := 0) rfl))))))) rfl rfl dX7_person_45 ?_
    refine tw_iload_n C dX7_person_48 1 rfl rfl ?_
    obtain ⟨y7, hc7, hf⟩ := tw_bd hf
    refine tw_cVi (As := [.int v1]) (stk := []) C (c_X3_stateOf l dC dI cI cZ q hc7) (cwV 1 C.hts gX7_person_X3_stateOf rfl rfl rfl hd_X3_stateOf ⟨Nat.le_of_ble_eq_true rfl, Nat.le_of_ble_eq_true rfl⟩) 7 (ci := 3) rfl rfl rfl rfl rfl (Nat.le_of_ble_eq_true rfl) dX7_person_49 ⟨Nat.zero_le _, Nat.zero_le _⟩ ?_
    exact tw_endi (Wf := twT cI cZ q) hE (tw_inr hf) dX7_person_52 rfl
  have hf := tw_neg hf c4
  by_cases c5 : v2 = 1
  · have hf := tw_pos hf c5
    refine tw_lookup (tgt := 53) C dX7_person_18 (by decide) (by rw [c5] <;> rfl) (by decide) ?_
    refine tw_aload_n C dX7_person_53 0 rfl rfl ?_
    refine tw_get (K := RX7) (T := TX7) (N := 14) (v := .ref (q 7)) C 0 6 (fun _ h => List.mem_cons_of_mem _ (List.mem_append_left _ (List.mem_append_left _ (List.mem_append_left _ (List.mem_append_right _ (h)))))) rfl rfl (by decide) (List.mem_cons_of_mem _ (List.mem_append_left _ (List.mem_append_left _ (List.mem_append_left _ (List.mem_append_left _ (List.mem_append_left _ (List.mem_of_getElem? (i := 0) rfl))))))) rfl rfl dX7_person_54 ?_
    refine tw_iload_n C dX7_person_57 1 rfl rfl ?_
    obtain ⟨y8, hc8, hf⟩ := tw_bd hf
    refine tw_cVi (As := [.int v1]) (stk := []) C (c_X3_segmentOf l dC dI cI cZ q hc8) (cwV 1 C.hts gX7_person_X3_segmentOf rfl rfl rfl hd_X3_segmentOf ⟨Nat.le_of_ble_eq_true rfl, Nat.le_of_ble_eq_true rfl⟩) 7 (ci := 3) rfl rfl rfl rfl rfl (Nat.le_of_ble_eq_true rfl) dX7_person_58 ⟨Nat.zero_le _, Nat.zero_le _⟩ ?_
    exact tw_endi (Wf := twT cI cZ q) hE (tw_inr hf) dX7_person_61 rfl
  have hf := tw_neg hf c5
  have K : twG p l e rm_X7_person s m args below meth c 0 0 Q (dC, dI) A 3 (twT cI cZ q y3) 62 [(0, .ref (q 0)), (1, .int v1), (2, .int v2)] [] := by
    refine tw_aload_n C dX7_person_62 0 rfl rfl ?_
    refine tw_get (K := RX7) (T := TX7) (N := 14) (v := .ref (q 7)) C 0 6 (fun _ h => List.mem_cons_of_mem _ (List.mem_append_left _ (List.mem_append_left _ (List.mem_append_left _ (List.mem_append_right _ (h)))))) rfl rfl (by decide) (List.mem_cons_of_mem _ (List.mem_append_left _ (List.mem_append_left _ (List.mem_append_left _ (List.mem_append_left _ (List.mem_append_left _ (List.mem_of_getElem? (i := 0) rfl))))))) rfl rfl dX7_person_63 ?_
    refine tw_iload_n C dX7_person_66 1 rfl rfl ?_
    obtain ⟨y9, hc9, hf⟩ := tw_bd hf
    refine tw_cVi (As := [.int v1]) (stk := []) C (c_X3_endOf l dC dI cI cZ q hc9) (cwV 1 C.hts gX7_person_X3_endOf rfl rfl rfl hd_X3_endOf ⟨Nat.le_of_ble_eq_true rfl, Nat.le_of_ble_eq_true rfl⟩) 7 (ci := 3) rfl rfl rfl rfl rfl (Nat.le_of_ble_eq_true rfl) dX7_person_67 ⟨Nat.zero_le _, Nat.zero_le _⟩ ?_
    exact tw_endi (Wf := twT cI cZ q) hE (tw_inr hf) dX7_person_70 rfl
  exact tw_lookup (tgt := 62) C dX7_person_18 (by decide) (tw_look2 c4 c5) (by decide) K
end
abbrev rmx_X7_person : Room := { frames := 7, cells := 1, slots := 6, locals := 104 }
section
variable {p : Program} {l : Launch} {e : Env} {s : State} {m : MethodId} {args : Array Value} {below : List Frame} {meth : Method} {c : Code} {Q : State → Prop} {dC : Nat → ClassId} {dI : Nat → Nat → Nat} {cI cZ : ClassId} {q : Nat → Nat} {A : Nat → Prop} {res : String × twS}
set_option maxRecDepth 20000 in
theorem x_X7_person (l : Launch) (hl0 : l.stackTraces = false) (dC : Nat → ClassId) (dI : Nat → Nat → Nat) (cI cZ : ClassId) (q : Nat → Nat) {st : twS} {v1 : Int32} {v2 : Int32} {res : String × twS} (hf : f_X7_person st v1 v2 = some (.inl res)) : twMx l yX7_person wsX7_person rmx_X7_person (dC, dI) (twY cI cZ) [.ref (q 0), .int v1, .int v2] (twT cI cZ q st) res.1 (twT cI cZ q res.2) := by
  refine tw_entx (cc := cX7_person) (maxL := 3) (own := RX7) (by decide) rfl (Nat.le_of_ble_eq_true rfl) rfl ?_
  intro p e s m below meth c A C X0 hnt
  generalize ([.ref (q 0), .int v1, .int v2] : List Value).toArray = args at C ⊢
  refine tw_sub (lv' := [(0, .ref (q 0)), (1, .int v1), (2, .int v2)]) [0, 1, 2] rfl ?_
  unfold f_X7_person at hf
  refine tw_iload_n C dX7_person_0 1 rfl rfl ?_
  refine tw_aload_n C dX7_person_1 0 rfl rfl ?_
  refine tw_get (K := RX7) (T := TX7) (N := 14) (v := .ref (q 7)) C 0 6 (fun _ h => List.mem_cons_of_mem _ (List.mem_append_left _ (List.mem_append_left _ (List.mem_append_left _ (List.mem_append_right _ (h)))))) rfl rfl (by decide) (List.mem_cons_of_mem _ (List.mem_append_left _ (List.mem_append_left _ (List.mem_append_left _ (List.mem_append_left _ (List.mem_append_left _ (List.mem_of_getElem? (i := 0) rfl))))))) rfl rfl dX7_person_2 ?_
  obtain ⟨y1, hc1, hf⟩ := tw_bd hf
  refine tw_cVi (As := []) (stk := [.int v1]) C (c_X3_size l dC dI cI cZ q hc1) (cwV 0 C.hts gX7_person_X3_size rfl rfl rfl hd_X3_size ⟨Nat.le_of_ble_eq_true rfl, Nat.le_of_ble_eq_true rfl⟩) 7 (ci := 3) rfl rfl rfl rfl rfl (Nat.le_of_ble_eq_true rfl) dX7_person_5 ⟨Nat.zero_le _, Nat.zero_le _⟩ ?_
  rcases tw_tryX hf with hx2 | ⟨y2, hc2, hf⟩
  · exact tw_xS (As := [.int v1, .int y1.1]) (stk := []) C X0 hnt (x_X7_requireIndex l hl0 dC dI cI cZ q hx2) (va_cwS 2 C.hts gX7_person_X7_requireIndex rfl rfl rfl hd_X7_requireIndex ⟨Nat.le_of_ble_eq_true rfl, Nat.le_of_ble_eq_true rfl⟩) rfl rfl (Nat.le_of_ble_eq_true rfl) dX7_person_8 ⟨Nat.le_of_ble_eq_true rfl, Nat.le_of_ble_eq_true rfl⟩
  refine tw_cSv (As := [.int v1, .int y1.1]) (stk := []) C (c_X7_requireIndex l dC dI cI cZ q hc2) (va_cwS 2 C.hts gX7_person_X7_requireIndex rfl rfl rfl hd_X7_requireIndex ⟨Nat.le_of_ble_eq_true rfl, Nat.le_of_ble_eq_true rfl⟩) rfl rfl (Nat.le_of_ble_eq_true rfl) dX7_person_8 ⟨Nat.zero_le _, Nat.zero_le _⟩ ?_
  refine tw_iload_n C dX7_person_11 2 rfl rfl ?_
  refine tw_iconst (v := 0) C dX7_person_12 (by decide) ?_
  refine tw_iconst (v := 2) C dX7_person_13 (by decide) ?_
  rcases tw_tryX hf with hx3 | ⟨y3, hc3, hf⟩
  · exact tw_xS (As := [.int v2, .int 0, .int 2]) (stk := []) C X0 hnt (x_X7_requireRange l hl0 dC dI cI cZ q hx3) (va_cwS 3 C.hts gX7_person_X7_requireRange rfl rfl rfl hd_X7_requireRange ⟨Nat.le_of_ble_eq_true rfl, Nat.le_of_ble_eq_true rfl⟩) rfl rfl (Nat.le_of_ble_eq_true rfl) dX7_person_14 ⟨Nat.le_of_ble_eq_true rfl, Nat.le_of_ble_eq_true rfl⟩
  refine tw_cSv (As := [.int v2, .int 0, .int 2]) (stk := []) C (c_X7_requireRange l dC dI cI cZ q hc3) (va_cwS 3 C.hts gX7_person_X7_requireRange rfl rfl rfl hd_X7_requireRange ⟨Nat.le_of_ble_eq_true rfl, Nat.le_of_ble_eq_true rfl⟩) rfl rfl (Nat.le_of_ble_eq_true rfl) dX7_person_14 ⟨Nat.zero_le _, Nat.zero_le _⟩ ?_
  refine tw_iload_n C dX7_person_17 2 rfl rfl ?_
  by_cases c4 : v2 = 0
  · have hf := tw_pos hf c4
    refine tw_lookup (tgt := 44) C dX7_person_18 (by decide) (by rw [c4] <;> rfl) (by decide) ?_
    refine tw_aload_n C dX7_person_44 0 rfl rfl ?_
    refine tw_get (K := RX7) (T := TX7) (N := 14) (v := .ref (q 7)) C 0 6 (fun _ h => List.mem_cons_of_mem _ (List.mem_append_left _ (List.mem_append_left _ (List.mem_append_left _ (List.mem_append_right _ (h)))))) rfl rfl (by decide) (List.mem_cons_of_mem _ (List.mem_append_left _ (List.mem_append_left _ (List.mem_append_left _ (List.mem_append_left _ (List.mem_append_left _ (List.mem_of_getElem? (i := 0) rfl))))))) rfl rfl dX7_person_45 ?_
    refine tw_iload_n C dX7_person_48 1 rfl rfl ?_
    obtain ⟨y7, hc7, hf⟩ := tw_bd hf
    refine tw_cVi (As := [.int v1]) (stk := []) C (c_X3_stateOf l dC dI cI cZ q hc7) (cwV 1 C.hts gX7_person_X3_stateOf rfl rfl rfl hd_X3_stateOf ⟨Nat.le_of_ble_eq_true rfl, Nat.le_of_ble_eq_true rfl⟩) 7 (ci := 3) rfl rfl rfl rfl rfl (Nat.le_of_ble_eq_true rfl) dX7_person_49 ⟨Nat.zero_le _, Nat.zero_le _⟩ ?_
    cases hf
  have hf := tw_neg hf c4
  by_cases c5 : v2 = 1
  · have hf := tw_pos hf c5
    refine tw_lookup (tgt := 53) C dX7_person_18 (by decide) (by rw [c5] <;> rfl) (by decide) ?_
    refine tw_aload_n C dX7_person_53 0 rfl rfl ?_
    refine tw_get (K := RX7) (T := TX7) (N := 14) (v := .ref (q 7)) C 0 6 (fun _ h => List.mem_cons_of_mem _ (List.mem_append_left _ (List.mem_append_left _ (List.mem_append_left _ (List.mem_append_right _ (h)))))) rfl rfl (by decide) (List.mem_cons_of_mem _ (List.mem_append_left _ (List.mem_append_left _ (List.mem_append_left _ (List.mem_append_left _ (List.mem_append_left _ (List.mem_of_getElem? (i := 0) rfl))))))) rfl rfl dX7_person_54 ?_
    refine tw_iload_n C dX7_person_57 1 rfl rfl ?_
    obtain ⟨y8, hc8, hf⟩ := tw_bd hf
    refine tw_cVi (As := [.int v1]) (stk := []) C (c_X3_segmentOf l dC dI cI cZ q hc8) (cwV 1 C.hts gX7_person_X3_segmentOf rfl rfl rfl hd_X3_segmentOf ⟨Nat.le_of_ble_eq_true rfl, Nat.le_of_ble_eq_true rfl⟩) 7 (ci := 3) rfl rfl rfl rfl rfl (Nat.le_of_ble_eq_true rfl) dX7_person_58 ⟨Nat.zero_le _, Nat.zero_le _⟩ ?_
    cases hf
  have hf := tw_neg hf c5
  have K : twG p l e rmx_X7_person s m args below meth c 0 0 (twQx below args s (dC, dI) (twY cI cZ) A res.1 (twT cI cZ q res.2)) (dC, dI) A 3 (twT cI cZ q y3) 62 [(0, .ref (q 0)), (1, .int v1), (2, .int v2)] [] := by
    refine tw_aload_n C dX7_person_62 0 rfl rfl ?_
    refine tw_get (K := RX7) (T := TX7) (N := 14) (v := .ref (q 7)) C 0 6 (fun _ h => List.mem_cons_of_mem _ (List.mem_append_left _ (List.mem_append_left _ (List.mem_append_left _ (List.mem_append_right _ (h)))))) rfl rfl (by decide) (List.mem_cons_of_mem _ (List.mem_append_left _ (List.mem_append_left _ (List.mem_append_left _ (List.mem_append_left _ (List.mem_append_left _ (List.mem_of_getElem? (i := 0) rfl))))))) rfl rfl dX7_person_63 ?_
    refine tw_iload_n C dX7_person_66 1 rfl rfl ?_
    obtain ⟨y9, hc9, hf⟩ := tw_bd hf
    refine tw_cVi (As := [.int v1]) (stk := []) C (c_X3_endOf l dC dI cI cZ q hc9) (cwV 1 C.hts gX7_person_X3_endOf rfl rfl rfl hd_X3_endOf ⟨Nat.le_of_ble_eq_true rfl, Nat.le_of_ble_eq_true rfl⟩) 7 (ci := 3) rfl rfl rfl rfl rfl (Nat.le_of_ble_eq_true rfl) dX7_person_67 ⟨Nat.zero_le _, Nat.zero_le _⟩ ?_
    cases hf
  exact tw_lookup (tgt := 62) C dX7_person_18 (by decide) (tw_look2 c4 c5) (by decide) K
end
/-! X7_count: public int count(int) throws java.lang.IllegalArgumentException -/
abbrev rm_X7_count : Room := { frames := 2, cells := 0, slots := 0, locals := 45 }
def f_X7_count (st : twS) (v1 : Int32) : Option ((String × twS) ⊕ (Int32 × twS)) :=
  ((f_X7_requireRange st v1 0 4).bind fun w1 => twTry w1 fun y1 => ((f_X3_howMany y1 v1).bind fun y2 => some (.inr (y2.1, y2.2))))
section
variable {p : Program} {l : Launch} {e : Env} {s : State} {m : MethodId} {args : Array Value} {below : List Frame} {meth : Method} {c : Code} {Q : State → Prop} {dC : Nat → ClassId} {dI : Nat → Nat → Nat} {cI cZ : ClassId} {q : Nat → Nat} {A : Nat → Prop} {res : Int32 × twS}
set_option maxRecDepth 20000 in
theorem c_X7_count (l : Launch) (dC : Nat → ClassId) (dI : Nat → Nat → Nat) (cI cZ : ClassId) (q : Nat → Nat) {st : twS} {v1 : Int32} {res : Int32 × twS} (hf : f_X7_count st v1 = some (.inr res)) : twMi l yX7_count wsX7_count rm_X7_count (dC, dI) (twY cI cZ) [.ref (q 0), .int v1] (twT cI cZ q st) res.1 (twT cI cZ q res.2) := by
  refine tw_enti (cc := cX7_count) (maxL := 2) (own := RX7) (by decide) rfl (Nat.le_of_ble_eq_true rfl) rfl ⟨rfl, rfl⟩ ?_
  intro p e s m below meth c A Q C hE
  generalize ([.ref (q 0), .int v1] : List Value).toArray = args at C hE ⊢
  refine tw_sub (lv' := [(0, .ref (q 0)), (1, .int v1)]) [0, 1] rfl ?_
  unfold f_X7_count at hf
  refine tw_iload_n C dX7_count_0 1 rfl rfl ?_
  refine tw_iconst (v := 0) C dX7_count_1 (by decide) ?_
  refine tw_iconst (v := 4) C dX7_count_2 (by decide) ?_
  obtain ⟨y1, hc1, hf⟩ := tw_tryN hf
  refine tw_cSv (As := [.int v1, .int 0, .int 4]) (stk := []) C (c_X7_requireRange l dC dI cI cZ q hc1) (va_cwS 3 C.hts gX7_count_X7_requireRange rfl rfl rfl hd_X7_requireRange ⟨Nat.le_of_ble_eq_true rfl, Nat.le_of_ble_eq_true rfl⟩) rfl rfl (Nat.le_of_ble_eq_true rfl) dX7_count_3 ⟨Nat.zero_le _, Nat.zero_le _⟩ ?_
  refine tw_aload_n C dX7_count_6 0 rfl rfl ?_
  refine tw_get (K := RX7) (T := TX7) (N := 14) (v := .ref (q 7)) C 0 6 (fun _ h => List.mem_cons_of_mem _ (List.mem_append_left _ (List.mem_append_left _ (List.mem_append_right _ (h))))) rfl rfl (by decide) (List.mem_cons_of_mem _ (List.mem_append_left _ (List.mem_append_left _ (List.mem_append_left _ (List.mem_of_getElem? (i := 0) rfl))))) rfl rfl dX7_count_7 ?_
  refine tw_iload_n C dX7_count_10 1 rfl rfl ?_
  obtain ⟨y2, hc2, hf⟩ := tw_bd hf
  refine tw_cVi (As := [.int v1]) (stk := []) C (c_X3_howMany l dC dI cI cZ q hc2) (cwV 1 C.hts gX7_count_X3_howMany rfl rfl rfl hd_X3_howMany ⟨Nat.le_of_ble_eq_true rfl, Nat.le_of_ble_eq_true rfl⟩) 7 (ci := 3) rfl rfl rfl rfl rfl (Nat.le_of_ble_eq_true rfl) dX7_count_11 ⟨Nat.zero_le _, Nat.zero_le _⟩ ?_
  exact tw_endi (Wf := twT cI cZ q) hE (tw_inr hf) dX7_count_14 rfl
end
abbrev rmx_X7_count : Room := { frames := 7, cells := 1, slots := 6, locals := 104 }
section
variable {p : Program} {l : Launch} {e : Env} {s : State} {m : MethodId} {args : Array Value} {below : List Frame} {meth : Method} {c : Code} {Q : State → Prop} {dC : Nat → ClassId} {dI : Nat → Nat → Nat} {cI cZ : ClassId} {q : Nat → Nat} {A : Nat → Prop} {res : String × twS}
set_option maxRecDepth 20000 in
theorem x_X7_count (l : Launch) (hl0 : l.stackTraces = false) (dC : Nat → ClassId) (dI : Nat → Nat → Nat) (cI cZ : ClassId) (q : Nat → Nat) {st : twS} {v1 : Int32} {res : String × twS} (hf : f_X7_count st v1 = some (.inl res)) : twMx l yX7_count wsX7_count rmx_X7_count (dC, dI) (twY cI cZ) [.ref (q 0), .int v1] (twT cI cZ q st) res.1 (twT cI cZ q res.2) := by
  refine tw_entx (cc := cX7_count) (maxL := 2) (own := RX7) (by decide) rfl (Nat.le_of_ble_eq_true rfl) rfl ?_
  intro p e s m below meth c A C X0 hnt
  generalize ([.ref (q 0), .int v1] : List Value).toArray = args at C ⊢
  refine tw_sub (lv' := [(0, .ref (q 0)), (1, .int v1)]) [0, 1] rfl ?_
  unfold f_X7_count at hf
  refine tw_iload_n C dX7_count_0 1 rfl rfl ?_
  refine tw_iconst (v := 0) C dX7_count_1 (by decide) ?_
  refine tw_iconst (v := 4) C dX7_count_2 (by decide) ?_
  rcases tw_tryX hf with hx1 | ⟨y1, hc1, hf⟩
  · exact tw_xS (As := [.int v1, .int 0, .int 4]) (stk := []) C X0 hnt (x_X7_requireRange l hl0 dC dI cI cZ q hx1) (va_cwS 3 C.hts gX7_count_X7_requireRange rfl rfl rfl hd_X7_requireRange ⟨Nat.le_of_ble_eq_true rfl, Nat.le_of_ble_eq_true rfl⟩) rfl rfl (Nat.le_of_ble_eq_true rfl) dX7_count_3 ⟨Nat.le_of_ble_eq_true rfl, Nat.le_of_ble_eq_true rfl⟩
  refine tw_cSv (As := [.int v1, .int 0, .int 4]) (stk := []) C (c_X7_requireRange l dC dI cI cZ q hc1) (va_cwS 3 C.hts gX7_count_X7_requireRange rfl rfl rfl hd_X7_requireRange ⟨Nat.le_of_ble_eq_true rfl, Nat.le_of_ble_eq_true rfl⟩) rfl rfl (Nat.le_of_ble_eq_true rfl) dX7_count_3 ⟨Nat.zero_le _, Nat.zero_le _⟩ ?_
  refine tw_aload_n C dX7_count_6 0 rfl rfl ?_
  refine tw_get (K := RX7) (T := TX7) (N := 14) (v := .ref (q 7)) C 0 6 (fun _ h => List.mem_cons_of_mem _ (List.mem_append_left _ (List.mem_append_left _ (List.mem_append_right _ (h))))) rfl rfl (by decide) (List.mem_cons_of_mem _ (List.mem_append_left _ (List.mem_append_left _ (List.mem_append_left _ (List.mem_of_getElem? (i := 0) rfl))))) rfl rfl dX7_count_7 ?_
  refine tw_iload_n C dX7_count_10 1 rfl rfl ?_
  obtain ⟨y2, hc2, hf⟩ := tw_bd hf
  refine tw_cVi (As := [.int v1]) (stk := []) C (c_X3_howMany l dC dI cI cZ q hc2) (cwV 1 C.hts gX7_count_X3_howMany rfl rfl rfl hd_X3_howMany ⟨Nat.le_of_ble_eq_true rfl, Nat.le_of_ble_eq_true rfl⟩) 7 (ci := 3) rfl rfl rfl rfl rfl (Nat.le_of_ble_eq_true rfl) dX7_count_11 ⟨Nat.zero_le _, Nat.zero_le _⟩ ?_
  cases hf
end
