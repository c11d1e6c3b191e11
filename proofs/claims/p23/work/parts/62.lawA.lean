section
variable {p : Program} {l : Launch} {e : Env} {s : State} {m : MethodId} {args : Array Value} {below : List Frame} {meth : Method} {c : Code} {Q : State → Prop} {dC : Nat → ClassId} {dI : Nat → Nat → Nat} {cI cZ : ClassId} {q : Nat → Nat} {A : Nat → Prop} {res : Int32 × twS} {b L nc ns : Nat} {xs : Nat → Int32}
set_option maxRecDepth 20000 in
theorem k_L_law_L671 (C : twC p s m args meth c cL_law 14 RL wsL_law (dC, dI) (twY cI cZ) A) (hE : ∀ (pc k n : Nat) (lv : List (Nat × Value)) (ws : va_W), decode cL_law pc = .ok (.ireturn, 1) → k ≤ 160 → n ≤ 1377 → twG p l e room_1 s m args below meth c k n Q (dC, dI) A 14 ws pc lv [.int 1]) (hr1 : res.1 = 1) (hX : va_X b L xs s s.heap) (hbl : b < s.heap.size) (hbA : ¬ A b) (X0 : twXf A s s.heap) (hNc : twNcs s) (hl0 : l.stackTraces = false) (hc1 : nc + 1 ≤ 160) (hc2 : ns + 6 ≤ 1377) {rec : Int32 → Int32 → Int32 → Int32 → Int32 → Int32 → Int32 → twS → Option (Int32 × twS)} (hrec : ∀ (v2 : Int32) (v3 : Int32) (v4 : Int32) (v5 : Int32) (v6 : Int32) (v7 : Int32) (v8 : Int32) (st : twS), rec v2 v3 v4 v5 v6 v7 v8 st = some res → twG p l e room_1 s m args below meth c (nc + 1) (ns + 6) Q (dC, dI) A 14 (twT cI cZ q st) 55 [(0, .ref b), (1, .ref (q 0)), (2, .int v2), (3, .int v3), (4, .int v4), (5, .int v5), (6, .int v6), (7, .int v7), (8, .int v8)] []) : ∀ (v2 : Int32) (v3 : Int32) (v4 : Int32) (v8 : Int32) (k0 : Int32) (st : twS), f_L_law_L671 L xs rec v2 v3 v4 v8 k0 st = some res → twG p l e room_1 s m args below meth c (nc + 1) (ns + 6) Q (dC, dI) A 14 (twT cI cZ q st) 671 [(0, .ref b), (1, .ref (q 0)), (2, .int v2), (3, .int v3), (4, .int v4), (8, .int v8)] [.int k0] := by
  intro v2 v3 v4 v8 k0 st hf
  unfold f_L_law_L671 at hf
  refine tw_istore (lv' := [(7, .int k0), (0, .ref b), (1, .ref (q 0)), (2, .int v2), (3, .int v3), (4, .int v4), (8, .int v8)]) C dL_law_671 (by decide) rfl ?_
  refine tw_aload_n C dL_law_673 2 rfl rfl ?_
  obtain ⟨y671001, hc671001, hf⟩ := tw_bd hf
  refine tw_cVi (As := []) (stk := []) C (c_X7_gone l dC dI cI cZ q hc671001) (cwV 0 C.hts gL_law_X7_gone rfl rfl rfl hd_X7_gone ⟨Nat.le_of_ble_eq_true rfl, Nat.le_of_ble_eq_true rfl⟩) 0 (ci := 7) rfl rfl rfl rfl rfl (Nat.le_of_ble_eq_true rfl) dL_law_674 ⟨Nat.le_trans hc1 (Nat.le_of_ble_eq_true rfl), Nat.le_trans hc2 (Nat.le_of_ble_eq_true rfl)⟩ ?_
  refine tw_istore (lv' := [(5, .int y671001.1), (7, .int k0), (0, .ref b), (1, .ref (q 0)), (2, .int v2), (3, .int v3), (4, .int v4), (8, .int v8)]) C dL_law_677 (by decide) rfl ?_
  refine tw_aload_n C dL_law_679 3 rfl rfl ?_
  obtain ⟨y671002, hc671002, hf⟩ := tw_bd hf
  refine tw_cVi (As := []) (stk := []) C (c_X7_alarm l dC dI cI cZ q hc671002) (cwV 0 C.hts gL_law_X7_alarm rfl rfl rfl hd_X7_alarm ⟨Nat.le_of_ble_eq_true rfl, Nat.le_of_ble_eq_true rfl⟩) 0 (ci := 7) rfl rfl rfl rfl rfl (Nat.le_of_ble_eq_true rfl) dL_law_680 ⟨Nat.le_trans hc1 (Nat.le_of_ble_eq_true rfl), Nat.le_trans hc2 (Nat.le_of_ble_eq_true rfl)⟩ ?_
  refine tw_istore (lv' := [(6, .int y671002.1), (5, .int y671001.1), (7, .int k0), (0, .ref b), (1, .ref (q 0)), (2, .int v2), (3, .int v3), (4, .int v4), (8, .int v8)]) C dL_law_683 (by decide) rfl ?_
  refine tw_iinc (v := (v8 + 1)) (lv' := [(8, .int (v8 + 1)), (6, .int y671002.1), (5, .int y671001.1), (7, .int k0), (0, .ref b), (1, .ref (q 0)), (2, .int v2), (3, .int v3), (4, .int v4)]) C dL_law_685 (k := 8) rfl rfl (by decide) rfl ?_
  refine tw_goto (tgt := 55) C dL_law_688 (by decide) ?_
  refine tw_sub [4, 5, 6, 7, 8, 2, 1, 3, 0] rfl ?_
  exact hrec v2 v3 v4 y671001.1 y671002.1 k0 (v8 + 1) y671002.2 hf
set_option maxRecDepth 20000 in
theorem k_L_law_L670 (C : twC p s m args meth c cL_law 14 RL wsL_law (dC, dI) (twY cI cZ) A) (hE : ∀ (pc k n : Nat) (lv : List (Nat × Value)) (ws : va_W), decode cL_law pc = .ok (.ireturn, 1) → k ≤ 160 → n ≤ 1377 → twG p l e room_1 s m args below meth c k n Q (dC, dI) A 14 ws pc lv [.int 1]) (hr1 : res.1 = 1) (hX : va_X b L xs s s.heap) (hbl : b < s.heap.size) (hbA : ¬ A b) (X0 : twXf A s s.heap) (hNc : twNcs s) (hl0 : l.stackTraces = false) (hc1 : nc + 1 ≤ 160) (hc2 : ns + 6 ≤ 1377) {rec : Int32 → Int32 → Int32 → Int32 → Int32 → Int32 → Int32 → twS → Option (Int32 × twS)} (hrec : ∀ (v2 : Int32) (v3 : Int32) (v4 : Int32) (v5 : Int32) (v6 : Int32) (v7 : Int32) (v8 : Int32) (st : twS), rec v2 v3 v4 v5 v6 v7 v8 st = some res → twG p l e room_1 s m args below meth c (nc + 1) (ns + 6) Q (dC, dI) A 14 (twT cI cZ q st) 55 [(0, .ref b), (1, .ref (q 0)), (2, .int v2), (3, .int v3), (4, .int v4), (5, .int v5), (6, .int v6), (7, .int v7), (8, .int v8)] []) : ∀ (v2 : Int32) (v3 : Int32) (v4 : Int32) (v8 : Int32) (st : twS), f_L_law_L670 L xs rec v2 v3 v4 v8 st = some res → twG p l e room_1 s m args below meth c (nc + 1) (ns + 6) Q (dC, dI) A 14 (twT cI cZ q st) 670 [(0, .ref b), (1, .ref (q 0)), (2, .int v2), (3, .int v3), (4, .int v4), (8, .int v8)] [] := by
  intro v2 v3 v4 v8 st hf
  unfold f_L_law_L670 at hf
  refine tw_iconst (v := 0) C dL_law_670 (by decide) ?_
  exact k_L_law_L671 C hE hr1 hX hbl hbA X0 hNc hl0 hc1 hc2 hrec v2 v3 v4 v8 0 st hf
set_option maxRecDepth 20000 in
theorem k_L_law_L666 (C : twC p s m args meth c cL_law 14 RL wsL_law (dC, dI) (twY cI cZ) A) (hE : ∀ (pc k n : Nat) (lv : List (Nat × Value)) (ws : va_W), decode cL_law pc = .ok (.ireturn, 1) → k ≤ 160 → n ≤ 1377 → twG p l e room_1 s m args below meth c k n Q (dC, dI) A 14 ws pc lv [.int 1]) (hr1 : res.1 = 1) (hX : va_X b L xs s s.heap) (hbl : b < s.heap.size) (hbA : ¬ A b) (X0 : twXf A s s.heap) (hNc : twNcs s) (hl0 : l.stackTraces = false) (hc1 : nc + 1 ≤ 160) (hc2 : ns + 6 ≤ 1377) {rec : Int32 → Int32 → Int32 → Int32 → Int32 → Int32 → Int32 → twS → Option (Int32 × twS)} (hrec : ∀ (v2 : Int32) (v3 : Int32) (v4 : Int32) (v5 : Int32) (v6 : Int32) (v7 : Int32) (v8 : Int32) (st : twS), rec v2 v3 v4 v5 v6 v7 v8 st = some res → twG p l e room_1 s m args below meth c (nc + 1) (ns + 6) Q (dC, dI) A 14 (twT cI cZ q st) 55 [(0, .ref b), (1, .ref (q 0)), (2, .int v2), (3, .int v3), (4, .int v4), (5, .int v5), (6, .int v6), (7, .int v7), (8, .int v8)] []) : ∀ (v2 : Int32) (v3 : Int32) (v4 : Int32) (v8 : Int32) (st : twS), f_L_law_L666 L xs rec v2 v3 v4 v8 st = some res → twG p l e room_1 s m args below meth c (nc + 1) (ns + 6) Q (dC, dI) A 14 (twT cI cZ q st) 666 [(0, .ref b), (1, .ref (q 0)), (2, .int v2), (3, .int v3), (4, .int v4), (8, .int v8)] [] := by
  intro v2 v3 v4 v8 st hf
  unfold f_L_law_L666 at hf
  refine tw_iconst (v := 1) C dL_law_666 (by decide) ?_
  refine tw_goto (tgt := 671) C dL_law_667 (by decide) ?_
  exact k_L_law_L671 C hE hr1 hX hbl hbA X0 hNc hl0 hc1 hc2 hrec v2 v3 v4 v8 1 st hf
set_option maxRecDepth 20000 in
theorem k_L_law_L629 (C : twC p s m args meth c cL_law 14 RL wsL_law (dC, dI) (twY cI cZ) A) (hE : ∀ (pc k n : Nat) (lv : List (Nat × Value)) (ws : va_W), decode cL_law pc = .ok (.ireturn, 1) → k ≤ 160 → n ≤ 1377 → twG p l e room_1 s m args below meth c k n Q (dC, dI) A 14 ws pc lv [.int 1]) (hr1 : res.1 = 1) (hX : va_X b L xs s s.heap) (hbl : b < s.heap.size) (hbA : ¬ A b) (X0 : twXf A s s.heap) (hNc : twNcs s) (hl0 : l.stackTraces = false) (hc1 : nc + 1 ≤ 160) (hc2 : ns + 6 ≤ 1377) {rec : Int32 → Int32 → Int32 → Int32 → Int32 → Int32 → Int32 → twS → Option (Int32 × twS)} (hrec : ∀ (v2 : Int32) (v3 : Int32) (v4 : Int32) (v5 : Int32) (v6 : Int32) (v7 : Int32) (v8 : Int32) (st : twS), rec v2 v3 v4 v5 v6 v7 v8 st = some res → twG p l e room_1 s m args below meth c (nc + 1) (ns + 6) Q (dC, dI) A 14 (twT cI cZ q st) 55 [(0, .ref b), (1, .ref (q 0)), (2, .int v2), (3, .int v3), (4, .int v4), (5, .int v5), (6, .int v6), (7, .int v7), (8, .int v8)] []) : ∀ (v2 : Int32) (v3 : Int32) (v4 : Int32) (v5 : Int32) (v6 : Int32) (v7 : Int32) (v8 : Int32) (st : twS), f_L_law_L629 L xs rec v2 v3 v4 v5 v6 v7 v8 st = some res → twG p l e room_1 s m args below meth c (nc + 1) (ns + 6) Q (dC, dI) A 14 (twT cI cZ q st) 629 [(0, .ref b), (1, .ref (q 0)), (2, .int v2), (3, .int v3), (4, .int v4), (5, .int v5), (6, .int v6), (7, .int v7), (8, .int v8)] [] := by
  intro v2 v3 v4 v5 v6 v7 v8 st hf
  unfold f_L_law_L629 at hf
  refine tw_iload C dL_law_629 7 rfl ?_
  refine tw_if_eq (tgt := 670) C dL_law_631 (by decide) (fun c629001 => ?_) (fun c629001 => ?_)
  · have hf := tw_pos hf c629001
    refine tw_sub [0, 1, 2, 3, 4, 8] rfl ?_
    exact k_L_law_L670 C hE hr1 hX hbl hbA X0 hNc hl0 hc1 hc2 hrec v2 v3 v4 v8 st hf
  · have hf := tw_neg hf c629001
    refine tw_aload_n C dL_law_634 1 rfl rfl ?_
    refine tw_iload_n C dL_law_635 2 rfl rfl ?_
    refine tw_iload_n C dL_law_636 3 rfl rfl ?_
    obtain ⟨y629002, hc629002, hf⟩ := tw_bd hf
    refine tw_cSi (As := [.ref (q 0), .int v2, .int v3]) (stk := []) C (c_L_fits l dC dI cI cZ q hc629002) (va_cwS 3 C.hts gL_law_L_fits rfl rfl rfl hd_L_fits ⟨Nat.le_of_ble_eq_true rfl, Nat.le_of_ble_eq_true rfl⟩) rfl rfl (Nat.le_of_ble_eq_true rfl) dL_law_637 ⟨Nat.le_trans hc1 (Nat.le_of_ble_eq_true rfl), Nat.le_trans hc2 (Nat.le_of_ble_eq_true rfl)⟩ ?_
    refine tw_if_eq (tgt := 670) C dL_law_640 (by decide) (fun c629003 => ?_) (fun c629003 => ?_)
    · have hf := tw_pos hf c629003
      refine tw_sub [0, 1, 2, 3, 4, 8] rfl ?_
      exact k_L_law_L670 C hE hr1 hX hbl hbA X0 hNc hl0 hc1 hc2 hrec v2 v3 v4 v8 y629002.2 hf
    · have hf := tw_neg hf c629003
      refine tw_aload_n C dL_law_643 1 rfl rfl ?_
      obtain ⟨y629004, hc629004, hf⟩ := tw_bd hf
      refine tw_cVi (As := []) (stk := []) C (c_X7_gone l dC dI cI cZ q hc629004) (cwV 0 C.hts gL_law_X7_gone rfl rfl rfl hd_X7_gone ⟨Nat.le_of_ble_eq_true rfl, Nat.le_of_ble_eq_true rfl⟩) 0 (ci := 7) rfl rfl rfl rfl rfl (Nat.le_of_ble_eq_true rfl) dL_law_644 ⟨Nat.le_trans hc1 (Nat.le_of_ble_eq_true rfl), Nat.le_trans hc2 (Nat.le_of_ble_eq_true rfl)⟩ ?_
      refine tw_iload C dL_law_647 5 rfl ?_
      refine tw_icmp_lt (tgt := 670) C dL_law_649 (by decide) (fun c629005 => ?_) (fun c629005 => ?_)
      · have hf := tw_pos hf c629005
        refine tw_sub [0, 1, 2, 3, 4, 8] rfl ?_
        exact k_L_law_L670 C hE hr1 hX hbl hbA X0 hNc hl0 hc1 hc2 hrec v2 v3 v4 v8 y629004.2 hf
      · have hf := tw_neg hf c629005
        refine tw_iload C dL_law_652 6 rfl ?_
        refine tw_if_lt (tgt := 666) C dL_law_654 (by decide) (fun c629006 => ?_) (fun c629006 => ?_)
        · have hf := tw_pos hf c629006
          refine tw_sub [0, 1, 2, 3, 4, 8] rfl ?_
          exact k_L_law_L666 C hE hr1 hX hbl hbA X0 hNc hl0 hc1 hc2 hrec v2 v3 v4 v8 y629004.2 hf
        · have hf := tw_neg hf c629006
          refine tw_aload_n C dL_law_657 1 rfl rfl ?_
          obtain ⟨y629007, hc629007, hf⟩ := tw_bd hf
          refine tw_cVi (As := []) (stk := []) C (c_X7_alarm l dC dI cI cZ q hc629007) (cwV 0 C.hts gL_law_X7_alarm rfl rfl rfl hd_X7_alarm ⟨Nat.le_of_ble_eq_true rfl, Nat.le_of_ble_eq_true rfl⟩) 0 (ci := 7) rfl rfl rfl rfl rfl (Nat.le_of_ble_eq_true rfl) dL_law_658 ⟨Nat.le_trans hc1 (Nat.le_of_ble_eq_true rfl), Nat.le_trans hc2 (Nat.le_of_ble_eq_true rfl)⟩ ?_
          refine tw_iload C dL_law_661 6 rfl ?_
          refine tw_icmp_ne (tgt := 670) C dL_law_663 (by decide) (fun c629008 => ?_) (fun c629008 => ?_)
          · have hf := tw_neg hf c629008
            refine tw_sub [0, 1, 2, 3, 4, 8] rfl ?_
            exact k_L_law_L670 C hE hr1 hX hbl hbA X0 hNc hl0 hc1 hc2 hrec v2 v3 v4 v8 y629007.2 hf
          · have hf := tw_pos hf c629008
            refine tw_sub [0, 1, 2, 3, 4, 8] rfl ?_
            exact k_L_law_L666 C hE hr1 hX hbl hbA X0 hNc hl0 hc1 hc2 hrec v2 v3 v4 v8 y629007.2 hf
set_option maxRecDepth 20000 in
theorem k_L_law_L627 (C : twC p s m args meth c cL_law 14 RL wsL_law (dC, dI) (twY cI cZ) A) (hE : ∀ (pc k n : Nat) (lv : List (Nat × Value)) (ws : va_W), decode cL_law pc = .ok (.ireturn, 1) → k ≤ 160 → n ≤ 1377 → twG p l e room_1 s m args below meth c k n Q (dC, dI) A 14 ws pc lv [.int 1]) (hr1 : res.1 = 1) (hX : va_X b L xs s s.heap) (hbl : b < s.heap.size) (hbA : ¬ A b) (X0 : twXf A s s.heap) (hNc : twNcs s) (hl0 : l.stackTraces = false) (hc1 : nc + 1 ≤ 160) (hc2 : ns + 6 ≤ 1377) {rec : Int32 → Int32 → Int32 → Int32 → Int32 → Int32 → Int32 → twS → Option (Int32 × twS)} (hrec : ∀ (v2 : Int32) (v3 : Int32) (v4 : Int32) (v5 : Int32) (v6 : Int32) (v7 : Int32) (v8 : Int32) (st : twS), rec v2 v3 v4 v5 v6 v7 v8 st = some res → twG p l e room_1 s m args below meth c (nc + 1) (ns + 6) Q (dC, dI) A 14 (twT cI cZ q st) 55 [(0, .ref b), (1, .ref (q 0)), (2, .int v2), (3, .int v3), (4, .int v4), (5, .int v5), (6, .int v6), (7, .int v7), (8, .int v8)] []) : ∀ (v2 : Int32) (v3 : Int32) (v4 : Int32) (v5 : Int32) (v6 : Int32) (v8 : Int32) (k0 : Int32) (st : twS), f_L_law_L627 L xs rec v2 v3 v4 v5 v6 v8 k0 st = some res → twG p l e room_1 s m args below meth c nc ns Q (dC, dI) A 14 (twT cI cZ q st) 627 [(0, .ref b), (1, .ref (q 0)), (2, .int v2), (3, .int v3), (4, .int v4), (5, .int v5), (6, .int v6), (8, .int v8)] [.int k0] := by
  intro v2 v3 v4 v5 v6 v8 k0 st hf
  unfold f_L_law_L627 at hf
  refine tw_istore (lv' := [(7, .int k0), (0, .ref b), (1, .ref (q 0)), (2, .int v2), (3, .int v3), (4, .int v4), (5, .int v5), (6, .int v6), (8, .int v8)]) C dL_law_627 (by decide) rfl ?_
  refine tw_sub [1, 2, 3, 4, 5, 6, 7, 0, 8] rfl ?_
  refine tw_widen (Nat.le_add_right _ 1) (Nat.le_add_right _ 6) ?_
  exact k_L_law_L629 C hE hr1 hX hbl hbA X0 hNc hl0 hc1 hc2 hrec v2 v3 v4 v5 v6 k0 v8 st hf
set_option maxRecDepth 20000 in
theorem k_L_law_L626 (C : twC p s m args meth c cL_law 14 RL wsL_law (dC, dI) (twY cI cZ) A) (hE : ∀ (pc k n : Nat) (lv : List (Nat × Value)) (ws : va_W), decode cL_law pc = .ok (.ireturn, 1) → k ≤ 160 → n ≤ 1377 → twG p l e room_1 s m args below meth c k n Q (dC, dI) A 14 ws pc lv [.int 1]) (hr1 : res.1 = 1) (hX : va_X b L xs s s.heap) (hbl : b < s.heap.size) (hbA : ¬ A b) (X0 : twXf A s s.heap) (hNc : twNcs s) (hl0 : l.stackTraces = false) (hc1 : nc + 1 ≤ 160) (hc2 : ns + 6 ≤ 1377) {rec : Int32 → Int32 → Int32 → Int32 → Int32 → Int32 → Int32 → twS → Option (Int32 × twS)} (hrec : ∀ (v2 : Int32) (v3 : Int32) (v4 : Int32) (v5 : Int32) (v6 : Int32) (v7 : Int32) (v8 : Int32) (st : twS), rec v2 v3 v4 v5 v6 v7 v8 st = some res → twG p l e room_1 s m args below meth c (nc + 1) (ns + 6) Q (dC, dI) A 14 (twT cI cZ q st) 55 [(0, .ref b), (1, .ref (q 0)), (2, .int v2), (3, .int v3), (4, .int v4), (5, .int v5), (6, .int v6), (7, .int v7), (8, .int v8)] []) : ∀ (v2 : Int32) (v3 : Int32) (v4 : Int32) (v5 : Int32) (v6 : Int32) (v8 : Int32) (st : twS), f_L_law_L626 L xs rec v2 v3 v4 v5 v6 v8 st = some res → twG p l e room_1 s m args below meth c nc ns Q (dC, dI) A 14 (twT cI cZ q st) 626 [(0, .ref b), (1, .ref (q 0)), (2, .int v2), (3, .int v3), (4, .int v4), (5, .int v5), (6, .int v6), (8, .int v8)] [] := by
  intro v2 v3 v4 v5 v6 v8 st hf
  unfold f_L_law_L626 at hf
  refine tw_iconst (v := 0) C dL_law_626 (by decide) ?_
  exact k_L_law_L627 C hE hr1 hX hbl hbA X0 hNc hl0 hc1 hc2 hrec v2 v3 v4 v5 v6 v8 0 st hf
set_option maxRecDepth 20000 in
theorem k_L_law_L622 (C : twC p s m args meth c cL_law 14 RL wsL_law (dC, dI) (twY cI cZ) A) (hE : ∀ (pc k n : Nat) (lv : List (Nat × Value)) (ws : va_W), decode cL_law pc = .ok (.ireturn, 1) → k ≤ 160 → n ≤ 1377 → twG p l e room_1 s m args below meth c k n Q (dC, dI) A 14 ws pc lv [.int 1]) (hr1 : res.1 = 1) (hX : va_X b L xs s s.heap) (hbl : b < s.heap.size) (hbA : ¬ A b) (X0 : twXf A s s.heap) (hNc : twNcs s) (hl0 : l.stackTraces = false) (hc1 : nc + 1 ≤ 160) (hc2 : ns + 6 ≤ 1377) {rec : Int32 → Int32 → Int32 → Int32 → Int32 → Int32 → Int32 → twS → Option (Int32 × twS)} (hrec : ∀ (v2 : Int32) (v3 : Int32) (v4 : Int32) (v5 : Int32) (v6 : Int32) (v7 : Int32) (v8 : Int32) (st : twS), rec v2 v3 v4 v5 v6 v7 v8 st = some res → twG p l e room_1 s m args below meth c (nc + 1) (ns + 6) Q (dC, dI) A 14 (twT cI cZ q st) 55 [(0, .ref b), (1, .ref (q 0)), (2, .int v2), (3, .int v3), (4, .int v4), (5, .int v5), (6, .int v6), (7, .int v7), (8, .int v8)] []) : ∀ (v2 : Int32) (v3 : Int32) (v4 : Int32) (v5 : Int32) (v6 : Int32) (v8 : Int32) (st : twS), f_L_law_L622 L xs rec v2 v3 v4 v5 v6 v8 st = some res → twG p l e room_1 s m args below meth c nc ns Q (dC, dI) A 14 (twT cI cZ q st) 622 [(0, .ref b), (1, .ref (q 0)), (2, .int v2), (3, .int v3), (4, .int v4), (5, .int v5), (6, .int v6), (8, .int v8)] [] := by
  intro v2 v3 v4 v5 v6 v8 st hf
  unfold f_L_law_L622 at hf
  refine tw_iconst (v := 1) C dL_law_622 (by decide) ?_
  refine tw_goto (tgt := 627) C dL_law_623 (by decide) ?_
  exact k_L_law_L627 C hE hr1 hX hbl hbA X0 hNc hl0 hc1 hc2 hrec v2 v3 v4 v5 v6 v8 1 st hf
set_option maxRecDepth 20000 in
theorem k_L_law_L566 (C : twC p s m args meth c cL_law 14 RL wsL_law (dC, dI) (twY cI cZ) A) (hE : ∀ (pc k n : Nat) (lv : List (Nat × Value)) (ws : va_W), decode cL_law pc = .ok (.ireturn, 1) → k ≤ 160 → n ≤ 1377 → twG p l e room_1 s m args below meth c k n Q (dC, dI) A 14 ws pc lv [.int 1]) (hr1 : res.1 = 1) (hX : va_X b L xs s s.heap) (hbl : b < s.heap.size) (hbA : ¬ A b) (X0 : twXf A s s.heap) (hNc : twNcs s) (hl0 : l.stackTraces = false) (hc1 : nc + 1 ≤ 160) (hc2 : ns + 6 ≤ 1377) {rec : Int32 → Int32 → Int32 → Int32 → Int32 → Int32 → Int32 → twS → Option (Int32 × twS)} (hrec : ∀ (v2 : Int32) (v3 : Int32) (v4 : Int32) (v5 : Int32) (v6 : Int32) (v7 : Int32) (v8 : Int32) (st : twS), rec v2 v3 v4 v5 v6 v7 v8 st = some res → twG p l e room_1 s m args below meth c (nc + 1) (ns + 6) Q (dC, dI) A 14 (twT cI cZ q st) 55 [(0, .ref b), (1, .ref (q 0)), (2, .int v2), (3, .int v3), (4, .int v4), (5, .int v5), (6, .int v6), (7, .int v7), (8, .int v8)] []) : ∀ (v2 : Int32) (v3 : Int32) (v4 : Int32) (v5 : Int32) (v6 : Int32) (v8 : Int32) (v10 : Int32) (v12 : Int32) (k0 : Int32) (st : twS), f_L_law_L566 L xs rec v2 v3 v4 v5 v6 v8 v10 v12 k0 st = some res → twG p l e room_1 s m args below meth c nc ns Q (dC, dI) A 14 (twT cI cZ q st) 566 [(0, .ref b), (1, .ref (q 0)), (2, .int v2), (3, .int v3), (4, .int v4), (5, .int v5), (6, .int v6), (8, .int v8), (10, .int v10), (12, .int v12)] [.int k0] := by
  intro v2 v3 v4 v5 v6 v8 v10 v12 k0 st hf
  unfold f_L_law_L566 at hf
  refine tw_istore (lv' := [(13, .int k0), (0, .ref b), (1, .ref (q 0)), (2, .int v2), (3, .int v3), (4, .int v4), (5, .int v5), (6, .int v6), (8, .int v8), (10, .int v10), (12, .int v12)]) C dL_law_566 (by decide) rfl ?_
  refine tw_iload C dL_law_568 5 rfl ?_
  refine tw_iload C dL_law_570 0 rfl ?_
  refine tw_iadd C dL_law_572 ?_
  refine tw_istore (lv' := [(4, .int (v4 + k0)), (13, .int k0), (0, .ref b), (1, .ref (q 0)), (2, .int v2), (3, .int v3), (5, .int v5), (6, .int v6), (8, .int v8), (10, .int v10), (12, .int v12)]) C dL_law_573 (by decide) rfl ?_
  refine tw_aload_n C dL_law_575 3 rfl rfl ?_
  refine tw_iload C dL_law_576 1 rfl ?_
  obtain ⟨y566001, hc566001, hf⟩ := tw_bd hf
  refine tw_cWi (As := [.ref (q 0), .int k0]) (stk := []) C (c_L_step l dC dI cI cZ q hc566001) (vx_cwSW 2 C.hts gL_law_L_step rfl rfl rfl hd_L_step ⟨Nat.le_of_ble_eq_true rfl, Nat.le_of_ble_eq_true rfl⟩) rfl rfl (Nat.le_of_ble_eq_true rfl) dL_law_578 ⟨Nat.le_trans (Nat.le_of_succ_le hc1) (Nat.le_of_ble_eq_true rfl), Nat.le_trans (Nat.le_trans (Nat.le_add_right _ 6) hc2) (Nat.le_of_ble_eq_true rfl)⟩ ?_
  refine tw_iload C dL_law_581 0 rfl ?_
  refine tw_icmp_ne (tgt := 626) C dL_law_583 (by decide) (fun c566002 => ?_) (fun c566002 => ?_)
  · have hf := tw_neg hf c566002
    refine tw_sub [2, 3, 4, 5, 0, 6, 7, 8] rfl ?_
    exact k_L_law_L626 C hE hr1 hX hbl hbA X0 hNc hl0 hc1 hc2 hrec v2 v3 (v4 + k0) v5 v6 v8 y566001.2 hf
  · have hf := tw_pos hf c566002
    refine tw_iload C dL_law_586 1 rfl ?_
    refine tw_iconst (v := 1) C dL_law_588 (by decide) ?_
    refine tw_icmp_gt (tgt := 622) C dL_law_589 (by decide) (fun c566003 => ?_) (fun c566003 => ?_)
    · have hf := tw_pos hf c566003
      refine tw_sub [2, 3, 4, 5, 0, 6, 7, 8] rfl ?_
      exact k_L_law_L622 C hE hr1 hX hbl hbA X0 hNc hl0 hc1 hc2 hrec v2 v3 (v4 + k0) v5 v6 v8 y566001.2 hf
    · have hf := tw_neg hf c566003
      refine tw_aload_n C dL_law_592 3 rfl rfl ?_
      refine tw_iload C dL_law_593 9 rfl ?_
      refine tw_iconst (v := 3) C dL_law_595 (by decide) ?_
      refine tw_irem C dL_law_596 (by decide) ?_
      obtain ⟨y566004, hc566004, hf⟩ := tw_bd hf
      refine tw_cWi (As := [.ref (q 0), .int (v10 - v10 / 3 * 3)]) (stk := []) C (c_L_fan l dC dI cI cZ q hc566004) (vx_cwSW 2 C.hts gL_law_L_fan rfl rfl rfl hd_L_fan ⟨Nat.le_of_ble_eq_true rfl, Nat.le_of_ble_eq_true rfl⟩) rfl rfl (Nat.le_of_ble_eq_true rfl) dL_law_597 ⟨Nat.le_trans (Nat.le_of_succ_le hc1) (Nat.le_of_ble_eq_true rfl), Nat.le_trans (Nat.le_trans (Nat.le_add_right _ 6) hc2) (Nat.le_of_ble_eq_true rfl)⟩ ?_
      refine tw_iload C dL_law_600 10 rfl ?_
      refine tw_iconst (v := 1) C dL_law_602 (by decide) ?_
      refine tw_iadd C dL_law_603 ?_
      refine tw_icmp_gt (tgt := 626) C dL_law_604 (by decide) (fun c566005 => ?_) (fun c566005 => ?_)
      · have hf := tw_pos hf c566005
        refine tw_sub [2, 3, 4, 5, 0, 6, 7, 8] rfl ?_
        exact k_L_law_L626 C hE hr1 hX hbl hbA X0 hNc hl0 hc1 hc2 hrec v2 v3 (v4 + k0) v5 v6 v8 y566004.2 hf
      · have hf := tw_neg hf c566005
        refine tw_aload_n C dL_law_607 3 rfl rfl ?_
        refine tw_iload C dL_law_608 9 rfl ?_
        refine tw_iconst (v := 3) C dL_law_610 (by decide) ?_
        refine tw_irem C dL_law_611 (by decide) ?_
        obtain ⟨y566006, hc566006, hf⟩ := tw_bd hf
        refine tw_cWi (As := [.ref (q 0), .int (v10 - v10 / 3 * 3)]) (stk := []) C (c_L_fan l dC dI cI cZ q hc566006) (vx_cwSW 2 C.hts gL_law_L_fan rfl rfl rfl hd_L_fan ⟨Nat.le_of_ble_eq_true rfl, Nat.le_of_ble_eq_true rfl⟩) rfl rfl (Nat.le_of_ble_eq_true rfl) dL_law_612 ⟨Nat.le_trans (Nat.le_of_succ_le hc1) (Nat.le_of_ble_eq_true rfl), Nat.le_trans (Nat.le_trans (Nat.le_add_right _ 6) hc2) (Nat.le_of_ble_eq_true rfl)⟩ ?_
        refine tw_iload C dL_law_615 10 rfl ?_
        refine tw_iconst (v := 1) C dL_law_617 (by decide) ?_
        refine tw_isub C dL_law_618 ?_
        refine tw_icmp_lt (tgt := 626) C dL_law_619 (by decide) (fun c566007 => ?_) (fun c566007 => ?_)
        · have hf := tw_pos hf c566007
          refine tw_sub [2, 3, 4, 5, 0, 6, 7, 8] rfl ?_
          exact k_L_law_L626 C hE hr1 hX hbl hbA X0 hNc hl0 hc1 hc2 hrec v2 v3 (v4 + k0) v5 v6 v8 y566006.2 hf
        · have hf := tw_neg hf c566007
          refine tw_sub [2, 3, 4, 5, 0, 6, 7, 8] rfl ?_
          exact k_L_law_L622 C hE hr1 hX hbl hbA X0 hNc hl0 hc1 hc2 hrec v2 v3 (v4 + k0) v5 v6 v8 y566006.2 hf
set_option maxRecDepth 20000 in
theorem k_L_law_L528 (C : twC p s m args meth c cL_law 14 RL wsL_law (dC, dI) (twY cI cZ) A) (hE : ∀ (pc k n : Nat) (lv : List (Nat × Value)) (ws : va_W), decode cL_law pc = .ok (.ireturn, 1) → k ≤ 160 → n ≤ 1377 → twG p l e room_1 s m args below meth c k n Q (dC, dI) A 14 ws pc lv [.int 1]) (hr1 : res.1 = 1) (hX : va_X b L xs s s.heap) (hbl : b < s.heap.size) (hbA : ¬ A b) (X0 : twXf A s s.heap) (hNc : twNcs s) (hl0 : l.stackTraces = false) (hc1 : nc + 1 ≤ 160) (hc2 : ns + 6 ≤ 1377) {rec : Int32 → Int32 → Int32 → Int32 → Int32 → Int32 → Int32 → twS → Option (Int32 × twS)} (hrec : ∀ (v2 : Int32) (v3 : Int32) (v4 : Int32) (v5 : Int32) (v6 : Int32) (v7 : Int32) (v8 : Int32) (st : twS), rec v2 v3 v4 v5 v6 v7 v8 st = some res → twG p l e room_1 s m args below meth c (nc + 1) (ns + 6) Q (dC, dI) A 14 (twT cI cZ q st) 55 [(0, .ref b), (1, .ref (q 0)), (2, .int v2), (3, .int v3), (4, .int v4), (5, .int v5), (6, .int v6), (7, .int v7), (8, .int v8)] []) : ∀ (v2 : Int32) (v3 : Int32) (v4 : Int32) (v5 : Int32) (v6 : Int32) (v8 : Int32) (k0 : Int32) (st : twS), f_L_law_L528 L xs rec v2 v3 v4 v5 v6 v8 k0 st = some res → twG p l e room_1 s m args below meth c nc ns Q (dC, dI) A 14 (twT cI cZ q st) 528 [(0, .ref b), (1, .ref (q 0)), (2, .int v2), (3, .int v3), (4, .int v4), (5, .int v5), (6, .int v6), (8, .int v8)] [.int k0] := by
  intro v2 v3 v4 v5 v6 v8 k0 st hf
  unfold f_L_law_L528 at hf
  refine tw_istore (lv' := [(7, .int k0), (0, .ref b), (1, .ref (q 0)), (2, .int v2), (3, .int v3), (4, .int v4), (5, .int v5), (6, .int v6), (8, .int v8)]) C dL_law_528 (by decide) rfl ?_
  refine tw_goto (tgt := 629) C dL_law_530 (by decide) ?_
  refine tw_sub [1, 2, 3, 4, 5, 6, 7, 0, 8] rfl ?_
  refine tw_widen (Nat.le_add_right _ 1) (Nat.le_add_right _ 6) ?_
  exact k_L_law_L629 C hE hr1 hX hbl hbA X0 hNc hl0 hc1 hc2 hrec v2 v3 v4 v5 v6 k0 v8 st hf
set_option maxRecDepth 20000 in
theorem k_L_law_L491 (C : twC p s m args meth c cL_law 14 RL wsL_law (dC, dI) (twY cI cZ) A) (hE : ∀ (pc k n : Nat) (lv : List (Nat × Value)) (ws : va_W), decode cL_law pc = .ok (.ireturn, 1) → k ≤ 160 → n ≤ 1377 → twG p l e room_1 s m args below meth c k n Q (dC, dI) A 14 ws pc lv [.int 1]) (hr1 : res.1 = 1) (hX : va_X b L xs s s.heap) (hbl : b < s.heap.size) (hbA : ¬ A b) (X0 : twXf A s s.heap) (hNc : twNcs s) (hl0 : l.stackTraces = false) (hc1 : nc + 1 ≤ 160) (hc2 : ns + 6 ≤ 1377) {rec : Int32 → Int32 → Int32 → Int32 → Int32 → Int32 → Int32 → twS → Option (Int32 × twS)} (hrec : ∀ (v2 : Int32) (v3 : Int32) (v4 : Int32) (v5 : Int32) (v6 : Int32) (v7 : Int32) (v8 : Int32) (st : twS), rec v2 v3 v4 v5 v6 v7 v8 st = some res → twG p l e room_1 s m args below meth c (nc + 1) (ns + 6) Q (dC, dI) A 14 (twT cI cZ q st) 55 [(0, .ref b), (1, .ref (q 0)), (2, .int v2), (3, .int v3), (4, .int v4), (5, .int v5), (6, .int v6), (7, .int v7), (8, .int v8)] []) : ∀ (v2 : Int32) (v4 : Int32) (v5 : Int32) (v6 : Int32) (v7 : Int32) (v8 : Int32) (k0 : Int32) (k1 : Int32) (st : twS), f_L_law_L491 L xs rec v2 v4 v5 v6 v7 v8 k0 k1 st = some res → twG p l e room_1 s m args below meth c (nc + 1) (ns + 6) Q (dC, dI) A 14 (twT cI cZ q st) 491 [(0, .ref b), (1, .ref (q 0)), (2, .int v2), (4, .int v4), (5, .int v5), (6, .int v6), (7, .int v7), (8, .int v8)] [.int k0, .int k1] := by
  intro v2 v4 v5 v6 v7 v8 k0 k1 st hf
  unfold f_L_law_L491 at hf
  refine tw_iadd C dL_law_491 ?_
  refine tw_istore_n (lv' := [(3, .int (k1 + k0)), (0, .ref b), (1, .ref (q 0)), (2, .int v2), (4, .int v4), (5, .int v5), (6, .int v6), (7, .int v7), (8, .int v8)]) C dL_law_492 rfl (by decide) rfl ?_
  refine tw_goto (tgt := 629) C dL_law_493 (by decide) ?_
  refine tw_sub [1, 2, 3, 0, 4, 5, 6, 7, 8] rfl ?_
  exact k_L_law_L629 C hE hr1 hX hbl hbA X0 hNc hl0 hc1 hc2 hrec v2 (k1 + k0) v4 v5 v6 v7 v8 st hf
set_option maxRecDepth 20000 in
theorem k_L_law_L478 (C : twC p s m args meth c cL_law 14 RL wsL_law (dC, dI) (twY cI cZ) A) (hE : ∀ (pc k n : Nat) (lv : List (Nat × Value)) (ws : va_W), decode cL_law pc = .ok (.ireturn, 1) → k ≤ 160 → n ≤ 1377 → twG p l e room_1 s m args below meth c k n Q (dC, dI) A 14 ws pc lv [.int 1]) (hr1 : res.1 = 1) (hX : va_X b L xs s s.heap) (hbl : b < s.heap.size) (hbA : ¬ A b) (X0 : twXf A s s.heap) (hNc : twNcs s) (hl0 : l.stackTraces = false) (hc1 : nc + 1 ≤ 160) (hc2 : ns + 6 ≤ 1377) {rec : Int32 → Int32 → Int32 → Int32 → Int32 → Int32 → Int32 → twS → Option (Int32 × twS)} (hrec : ∀ (v2 : Int32) (v3 : Int32) (v4 : Int32) (v5 : Int32) (v6 : Int32) (v7 : Int32) (v8 : Int32) (st : twS), rec v2 v3 v4 v5 v6 v7 v8 st = some res → twG p l e room_1 s m args below meth c (nc + 1) (ns + 6) Q (dC, dI) A 14 (twT cI cZ q st) 55 [(0, .ref b), (1, .ref (q 0)), (2, .int v2), (3, .int v3), (4, .int v4), (5, .int v5), (6, .int v6), (7, .int v7), (8, .int v8)] []) : ∀ (v2 : Int32) (v3 : Int32) (v4 : Int32) (v5 : Int32) (v6 : Int32) (v8 : Int32) (v12 : Int32) (k0 : Int32) (st : twS), f_L_law_L478 L xs rec v2 v3 v4 v5 v6 v8 v12 k0 st = some res → twG p l e room_1 s m args below meth c (nc + 1) (ns + 6) Q (dC, dI) A 14 (twT cI cZ q st) 478 [(0, .ref b), (1, .ref (q 0)), (2, .int v2), (3, .int v3), (4, .int v4), (5, .int v5), (6, .int v6), (8, .int v8), (12, .int v12)] [.int k0] := by
  intro v2 v3 v4 v5 v6 v8 v12 k0 st hf
  unfold f_L_law_L478 at hf
  refine tw_istore (lv' := [(7, .int k0), (0, .ref b), (1, .ref (q 0)), (2, .int v2), (3, .int v3), (4, .int v4), (5, .int v5), (6, .int v6), (8, .int v8), (12, .int v12)]) C dL_law_478 (by decide) rfl ?_
  refine tw_iload_n C dL_law_480 4 rfl rfl ?_
  refine tw_iload C dL_law_481 9 rfl ?_
  refine tw_if_lt (tgt := 490) C dL_law_483 (by decide) (fun c478001 => ?_) (fun c478001 => ?_)
  · have hf := tw_pos hf c478001
    refine tw_iconst (v := 0) C dL_law_490 (by decide) ?_
    refine tw_sub [1, 2, 3, 5, 6, 7, 0, 8] rfl ?_
    exact k_L_law_L491 C hE hr1 hX hbl hbA X0 hNc hl0 hc1 hc2 hrec v2 v4 v5 v6 k0 v8 0 v3 st hf
  · have hf := tw_neg hf c478001
    refine tw_iconst (v := 1) C dL_law_486 (by decide) ?_
    refine tw_goto (tgt := 491) C dL_law_487 (by decide) ?_
    refine tw_sub [1, 2, 3, 5, 6, 7, 0, 8] rfl ?_
    exact k_L_law_L491 C hE hr1 hX hbl hbA X0 hNc hl0 hc1 hc2 hrec v2 v4 v5 v6 k0 v8 1 v3 st hf
set_option maxRecDepth 20000 in
theorem k_L_law_L473 (C : twC p s m args meth c cL_law 14 RL wsL_law (dC, dI) (twY cI cZ) A) (hE : ∀ (pc k n : Nat) (lv : List (Nat × Value)) (ws : va_W), decode cL_law pc = .ok (.ireturn, 1) → k ≤ 160 → n ≤ 1377 → twG p l e room_1 s m args below meth c k n Q (dC, dI) A 14 ws pc lv [.int 1]) (hr1 : res.1 = 1) (hX : va_X b L xs s s.heap) (hbl : b < s.heap.size) (hbA : ¬ A b) (X0 : twXf A s s.heap) (hNc : twNcs s) (hl0 : l.stackTraces = false) (hc1 : nc + 1 ≤ 160) (hc2 : ns + 6 ≤ 1377) {rec : Int32 → Int32 → Int32 → Int32 → Int32 → Int32 → Int32 → twS → Option (Int32 × twS)} (hrec : ∀ (v2 : Int32) (v3 : Int32) (v4 : Int32) (v5 : Int32) (v6 : Int32) (v7 : Int32) (v8 : Int32) (st : twS), rec v2 v3 v4 v5 v6 v7 v8 st = some res → twG p l e room_1 s m args below meth c (nc + 1) (ns + 6) Q (dC, dI) A 14 (twT cI cZ q st) 55 [(0, .ref b), (1, .ref (q 0)), (2, .int v2), (3, .int v3), (4, .int v4), (5, .int v5), (6, .int v6), (7, .int v7), (8, .int v8)] []) : ∀ (v2 : Int32) (v3 : Int32) (v4 : Int32) (v5 : Int32) (v6 : Int32) (v8 : Int32) (v12 : Int32) (st : twS), f_L_law_L473 L xs rec v2 v3 v4 v5 v6 v8 v12 st = some res → twG p l e room_1 s m args below meth c (nc + 1) (ns + 6) Q (dC, dI) A 14 (twT cI cZ q st) 473 [(0, .ref b), (1, .ref (q 0)), (2, .int v2), (3, .int v3), (4, .int v4), (5, .int v5), (6, .int v6), (8, .int v8), (12, .int v12)] [] := by
  intro v2 v3 v4 v5 v6 v8 v12 st hf
  unfold f_L_law_L473 at hf
  refine tw_iconst (v := 1) C dL_law_473 (by decide) ?_
  refine tw_goto (tgt := 478) C dL_law_474 (by decide) ?_
  exact k_L_law_L478 C hE hr1 hX hbl hbA X0 hNc hl0 hc1 hc2 hrec v2 v3 v4 v5 v6 v8 v12 1 st hf
set_option maxRecDepth 20000 in
theorem k_L_law_L455 (C : twC p s m args meth c cL_law 14 RL wsL_law (dC, dI) (twY cI cZ) A) (hE : ∀ (pc k n : Nat) (lv : List (Nat × Value)) (ws : va_W), decode cL_law pc = .ok (.ireturn, 1) → k ≤ 160 → n ≤ 1377 → twG p l e room_1 s m args below meth c k n Q (dC, dI) A 14 ws pc lv [.int 1]) (hr1 : res.1 = 1) (hX : va_X b L xs s s.heap) (hbl : b < s.heap.size) (hbA : ¬ A b) (X0 : twXf A s s.heap) (hNc : twNcs s) (hl0 : l.stackTraces = false) (hc1 : nc + 1 ≤ 160) (hc2 : ns + 6 ≤ 1377) {rec : Int32 → Int32 → Int32 → Int32 → Int32 → Int32 → Int32 → twS → Option (Int32 × twS)} (hrec : ∀ (v2 : Int32) (v3 : Int32) (v4 : Int32) (v5 : Int32) (v6 : Int32) (v7 : Int32) (v8 : Int32) (st : twS), rec v2 v3 v4 v5 v6 v7 v8 st = some res → twG p l e room_1 s m args below meth c (nc + 1) (ns + 6) Q (dC, dI) A 14 (twT cI cZ q st) 55 [(0, .ref b), (1, .ref (q 0)), (2, .int v2), (3, .int v3), (4, .int v4), (5, .int v5), (6, .int v6), (7, .int v7), (8, .int v8)] []) : ∀ (v2 : Int32) (v3 : Int32) (v4 : Int32) (v5 : Int32) (v6 : Int32) (v8 : Int32) (k0 : Int32) (k1 : Int32) (k2 : Int32) (st : twS), f_L_law_L455 L xs rec v2 v3 v4 v5 v6 v8 k0 k1 k2 st = some res → twG p l e room_1 s m args below meth c nc ns Q (dC, dI) A 14 (twT cI cZ q st) 455 [(0, .ref b), (1, .ref (q 0)), (2, .int v2), (3, .int v3), (4, .int v4), (5, .int v5), (6, .int v6), (8, .int v8)] [.int k0, .int k1, .int k2, .ref (q 0)] := by
  intro v2 v3 v4 v5 v6 v8 k0 k1 k2 st hf
  unfold f_L_law_L455 at hf
  obtain ⟨y455001, hc455001, hf⟩ := tw_bd hf
  refine tw_wS (As := [.ref (q 0), .int k2, .int k1, .int k0]) (stk := []) (Wc := twT cI cZ q st) (Wr := []) (ws' := twT cI cZ q y455001.2) C X0 hNc (isC := List.range 26) (isR := []) (ix := List.range 26) (ki := [0, 1]) ⟨rfl, rfl, rfl, rfl, by decide, rfl, rfl⟩ rfl (w_L_act l hl0 dC dI cI cZ q hc455001) (vx_cwSW 4 C.hts gL_law_L_act rfl rfl rfl hd_L_act ⟨Nat.le_of_ble_eq_true rfl, Nat.le_of_ble_eq_true rfl⟩) rfl rfl (Nat.le_of_ble_eq_true rfl) dL_law_455 ⟨Nat.le_trans hc1 (Nat.le_of_ble_eq_true rfl), Nat.le_trans hc2 (Nat.le_of_ble_eq_true rfl)⟩ ?_
  refine tw_istore (lv' := [(12, .int y455001.1), (0, .ref b), (1, .ref (q 0)), (2, .int v2), (3, .int v3), (4, .int v4), (5, .int v5), (6, .int v6), (8, .int v8)]) C dL_law_458 (by decide) rfl ?_
  refine tw_iload C dL_law_460 0 rfl ?_
  refine tw_iload_n C dL_law_462 4 rfl rfl ?_
  refine tw_icmp_eq (tgt := 473) C dL_law_463 (by decide) (fun c455002 => ?_) (fun c455002 => ?_)
  · have hf := tw_pos hf c455002
    refine tw_sub [1, 2, 3, 4, 5, 6, 7, 8, 0] rfl ?_
    exact k_L_law_L473 C hE hr1 hX hbl hbA X0 hNc hl0 hc1 hc2 hrec v2 v3 v4 v5 v6 v8 y455001.1 y455001.2 hf
  · have hf := tw_neg hf c455002
    refine tw_iload C dL_law_466 0 rfl ?_
    refine tw_bipush (v := (-103)) C dL_law_468 (by decide) ?_
    refine tw_icmp_ne (tgt := 477) C dL_law_470 (by decide) (fun c455003 => ?_) (fun c455003 => ?_)
    · have hf := tw_neg hf c455003
      refine tw_iconst (v := 0) C dL_law_477 (by decide) ?_
      refine tw_sub [1, 2, 3, 4, 5, 6, 7, 8, 0] rfl ?_
      exact k_L_law_L478 C hE hr1 hX hbl hbA X0 hNc hl0 hc1 hc2 hrec v2 v3 v4 v5 v6 v8 y455001.1 0 y455001.2 hf
    · have hf := tw_pos hf c455003
      refine tw_sub [1, 2, 3, 4, 5, 6, 7, 8, 0] rfl ?_
      exact k_L_law_L473 C hE hr1 hX hbl hbA X0 hNc hl0 hc1 hc2 hrec v2 v3 v4 v5 v6 v8 y455001.1 y455001.2 hf
set_option maxRecDepth 20000 in
theorem k_L_law_L414 (C : twC p s m args meth c cL_law 14 RL wsL_law (dC, dI) (twY cI cZ) A) (hE : ∀ (pc k n : Nat) (lv : List (Nat × Value)) (ws : va_W), decode cL_law pc = .ok (.ireturn, 1) → k ≤ 160 → n ≤ 1377 → twG p l e room_1 s m args below meth c k n Q (dC, dI) A 14 ws pc lv [.int 1]) (hr1 : res.1 = 1) (hX : va_X b L xs s s.heap) (hbl : b < s.heap.size) (hbA : ¬ A b) (X0 : twXf A s s.heap) (hNc : twNcs s) (hl0 : l.stackTraces = false) (hc1 : nc + 1 ≤ 160) (hc2 : ns + 6 ≤ 1377) {rec : Int32 → Int32 → Int32 → Int32 → Int32 → Int32 → Int32 → twS → Option (Int32 × twS)} (hrec : ∀ (v2 : Int32) (v3 : Int32) (v4 : Int32) (v5 : Int32) (v6 : Int32) (v7 : Int32) (v8 : Int32) (st : twS), rec v2 v3 v4 v5 v6 v7 v8 st = some res → twG p l e room_1 s m args below meth c (nc + 1) (ns + 6) Q (dC, dI) A 14 (twT cI cZ q st) 55 [(0, .ref b), (1, .ref (q 0)), (2, .int v2), (3, .int v3), (4, .int v4), (5, .int v5), (6, .int v6), (7, .int v7), (8, .int v8)] []) : ∀ (v2 : Int32) (v3 : Int32) (v4 : Int32) (v5 : Int32) (v6 : Int32) (v8 : Int32) (k0 : Int32) (st : twS), f_L_law_L414 L xs rec v2 v3 v4 v5 v6 v8 k0 st = some res → twG p l e room_1 s m args below meth c (nc + 1) (ns + 6) Q (dC, dI) A 14 (twT cI cZ q st) 414 [(0, .ref b), (1, .ref (q 0)), (2, .int v2), (3, .int v3), (4, .int v4), (5, .int v5), (6, .int v6), (8, .int v8)] [.int k0] := by
  intro v2 v3 v4 v5 v6 v8 k0 st hf
  unfold f_L_law_L414 at hf
  refine tw_istore (lv' := [(7, .int k0), (0, .ref b), (1, .ref (q 0)), (2, .int v2), (3, .int v3), (4, .int v4), (5, .int v5), (6, .int v6), (8, .int v8)]) C dL_law_414 (by decide) rfl ?_
  refine tw_goto (tgt := 629) C dL_law_416 (by decide) ?_
  refine tw_sub [1, 2, 3, 4, 5, 6, 7, 0, 8] rfl ?_
  exact k_L_law_L629 C hE hr1 hX hbl hbA X0 hNc hl0 hc1 hc2 hrec v2 v3 v4 v5 v6 k0 v8 st hf
set_option maxRecDepth 20000 in
theorem k_L_law_L413 (C : twC p s m args meth c cL_law 14 RL wsL_law (dC, dI) (twY cI cZ) A) (hE : ∀ (pc k n : Nat) (lv : List (Nat × Value)) (ws : va_W), decode cL_law pc = .ok (.ireturn, 1) → k ≤ 160 → n ≤ 1377 → twG p l e room_1 s m args below meth c k n Q (dC, dI) A 14 ws pc lv [.int 1]) (hr1 : res.1 = 1) (hX : va_X b L xs s s.heap) (hbl : b < s.heap.size) (hbA : ¬ A b) (X0 : twXf A s s.heap) (hNc : twNcs s) (hl0 : l.stackTraces = false) (hc1 : nc + 1 ≤ 160) (hc2 : ns + 6 ≤ 1377) {rec : Int32 → Int32 → Int32 → Int32 → Int32 → Int32 → Int32 → twS → Option (Int32 × twS)} (hrec : ∀ (v2 : Int32) (v3 : Int32) (v4 : Int32) (v5 : Int32) (v6 : Int32) (v7 : Int32) (v8 : Int32) (st : twS), rec v2 v3 v4 v5 v6 v7 v8 st = some res → twG p l e room_1 s m args below meth c (nc + 1) (ns + 6) Q (dC, dI) A 14 (twT cI cZ q st) 55 [(0, .ref b), (1, .ref (q 0)), (2, .int v2), (3, .int v3), (4, .int v4), (5, .int v5), (6, .int v6), (7, .int v7), (8, .int v8)] []) : ∀ (v2 : Int32) (v3 : Int32) (v4 : Int32) (v5 : Int32) (v6 : Int32) (v8 : Int32) (st : twS), f_L_law_L413 L xs rec v2 v3 v4 v5 v6 v8 st = some res → twG p l e room_1 s m args below meth c (nc + 1) (ns + 6) Q (dC, dI) A 14 (twT cI cZ q st) 413 [(0, .ref b), (1, .ref (q 0)), (2, .int v2), (3, .int v3), (4, .int v4), (5, .int v5), (6, .int v6), (8, .int v8)] [] := by
  intro v2 v3 v4 v5 v6 v8 st hf
  unfold f_L_law_L413 at hf
  refine tw_iconst (v := 0) C dL_law_413 (by decide) ?_
  exact k_L_law_L414 C hE hr1 hX hbl hbA X0 hNc hl0 hc1 hc2 hrec v2 v3 v4 v5 v6 v8 0 st hf
set_option maxRecDepth 20000 in
theorem k_L_law_L403 (C : twC p s m args meth c cL_law 14 RL wsL_law (dC, dI) (twY cI cZ) A) (hE : ∀ (pc k n : Nat) (lv : List (Nat × Value)) (ws : va_W), decode cL_law pc = .ok (.ireturn, 1) → k ≤ 160 → n ≤ 1377 → twG p l e room_1 s m args below meth c k n Q (dC, dI) A 14 ws pc lv [.int 1]) (hr1 : res.1 = 1) (hX : va_X b L xs s s.heap) (hbl : b < s.heap.size) (hbA : ¬ A b) (X0 : twXf A s s.heap) (hNc : twNcs s) (hl0 : l.stackTraces = false) (hc1 : nc + 1 ≤ 160) (hc2 : ns + 6 ≤ 1377) {rec : Int32 → Int32 → Int32 → Int32 → Int32 → Int32 → Int32 → twS → Option (Int32 × twS)} (hrec : ∀ (v2 : Int32) (v3 : Int32) (v4 : Int32) (v5 : Int32) (v6 : Int32) (v7 : Int32) (v8 : Int32) (st : twS), rec v2 v3 v4 v5 v6 v7 v8 st = some res → twG p l e room_1 s m args below meth c (nc + 1) (ns + 6) Q (dC, dI) A 14 (twT cI cZ q st) 55 [(0, .ref b), (1, .ref (q 0)), (2, .int v2), (3, .int v3), (4, .int v4), (5, .int v5), (6, .int v6), (7, .int v7), (8, .int v8)] []) : ∀ (v2 : Int32) (v3 : Int32) (v4 : Int32) (v5 : Int32) (v6 : Int32) (v8 : Int32) (k0 : Int32) (k1 : Int32) (k2 : Int32) (st : twS), f_L_law_L403 L xs rec v2 v3 v4 v5 v6 v8 k0 k1 k2 st = some res → twG p l e room_1 s m args below meth c (nc + 1) (ns + 6) Q (dC, dI) A 14 (twT cI cZ q st) 403 [(0, .ref b), (1, .ref (q 0)), (2, .int v2), (3, .int v3), (4, .int v4), (5, .int v5), (6, .int v6), (8, .int v8)] [.int k0, .int k1, .int k2, .ref (q 0)] := by
  intro v2 v3 v4 v5 v6 v8 k0 k1 k2 st hf
  unfold f_L_law_L403 at hf
  obtain ⟨y403001, hc403001, hf⟩ := tw_bd hf
  refine tw_cWi (As := [.ref (q 0), .int k2, .int k1, .int k0]) (stk := []) C (c_L_failDetector l dC dI cI cZ q hc403001) (vx_cwSW 4 C.hts gL_law_L_failDetector rfl rfl rfl hd_L_failDetector ⟨Nat.le_of_ble_eq_true rfl, Nat.le_of_ble_eq_true rfl⟩) rfl rfl (Nat.le_of_ble_eq_true rfl) dL_law_403 ⟨Nat.le_trans hc1 (Nat.le_of_ble_eq_true rfl), Nat.le_trans hc2 (Nat.le_of_ble_eq_true rfl)⟩ ?_
  refine tw_if_ne (tgt := 413) C dL_law_406 (by decide) (fun c403002 => ?_) (fun c403002 => ?_)
  · have hf := tw_neg hf c403002
    exact k_L_law_L413 C hE hr1 hX hbl hbA X0 hNc hl0 hc1 hc2 hrec v2 v3 v4 v5 v6 v8 y403001.2 hf
  · have hf := tw_pos hf c403002
    refine tw_iconst (v := 1) C dL_law_409 (by decide) ?_
    refine tw_goto (tgt := 414) C dL_law_410 (by decide) ?_
    exact k_L_law_L414 C hE hr1 hX hbl hbA X0 hNc hl0 hc1 hc2 hrec v2 v3 v4 v5 v6 v8 1 y403001.2 hf
set_option maxRecDepth 20000 in
theorem k_L_law_L372 (C : twC p s m args meth c cL_law 14 RL wsL_law (dC, dI) (twY cI cZ) A) (hE : ∀ (pc k n : Nat) (lv : List (Nat × Value)) (ws : va_W), decode cL_law pc = .ok (.ireturn, 1) → k ≤ 160 → n ≤ 1377 → twG p l e room_1 s m args below meth c k n Q (dC, dI) A 14 ws pc lv [.int 1]) (hr1 : res.1 = 1) (hX : va_X b L xs s s.heap) (hbl : b < s.heap.size) (hbA : ¬ A b) (X0 : twXf A s s.heap) (hNc : twNcs s) (hl0 : l.stackTraces = false) (hc1 : nc + 1 ≤ 160) (hc2 : ns + 6 ≤ 1377) {rec : Int32 → Int32 → Int32 → Int32 → Int32 → Int32 → Int32 → twS → Option (Int32 × twS)} (hrec : ∀ (v2 : Int32) (v3 : Int32) (v4 : Int32) (v5 : Int32) (v6 : Int32) (v7 : Int32) (v8 : Int32) (st : twS), rec v2 v3 v4 v5 v6 v7 v8 st = some res → twG p l e room_1 s m args below meth c (nc + 1) (ns + 6) Q (dC, dI) A 14 (twT cI cZ q st) 55 [(0, .ref b), (1, .ref (q 0)), (2, .int v2), (3, .int v3), (4, .int v4), (5, .int v5), (6, .int v6), (7, .int v7), (8, .int v8)] []) : ∀ (v2 : Int32) (v3 : Int32) (v4 : Int32) (v5 : Int32) (v6 : Int32) (v8 : Int32) (v10 : Int32) (k0 : Int32) (k1 : Int32) (st : twS), f_L_law_L372 L xs rec v2 v3 v4 v5 v6 v8 v10 k0 k1 st = some res → twG p l e room_1 s m args below meth c (nc + 1) (ns + 6) Q (dC, dI) A 14 (twT cI cZ q st) 372 [(0, .ref b), (1, .ref (q 0)), (2, .int v2), (3, .int v3), (4, .int v4), (5, .int v5), (6, .int v6), (8, .int v8), (10, .int v10)] [.int k0, .int k1] := by
  intro v2 v3 v4 v5 v6 v8 v10 k0 k1 st hf
  unfold f_L_law_L372 at hf
  refine tw_icmp_ne (tgt := 413) C dL_law_372 (by decide) (fun c372001 => ?_) (fun c372001 => ?_)
  · have hf := tw_neg hf c372001
    refine tw_sub [0, 1, 2, 3, 4, 5, 6, 7] rfl ?_
    exact k_L_law_L413 C hE hr1 hX hbl hbA X0 hNc hl0 hc1 hc2 hrec v2 v3 v4 v5 v6 v8 st hf
  · have hf := tw_pos hf c372001
    refine tw_aload_n C dL_law_375 1 rfl rfl ?_
    refine tw_iload C dL_law_376 8 rfl ?_
    refine tw_bipush (v := 12) C dL_law_378 (by decide) ?_
    refine tw_irem C dL_law_380 (by decide) ?_
    refine tw_iload C dL_law_381 8 rfl ?_
    refine tw_bipush (v := 24) C dL_law_383 (by decide) ?_
    refine tw_idiv C dL_law_385 (by decide) ?_
    refine tw_iconst (v := 3) C dL_law_386 (by decide) ?_
    refine tw_irem C dL_law_387 (by decide) ?_
    refine tw_iload C dL_law_388 8 rfl ?_
    refine tw_bipush (v := 72) C dL_law_390 (by decide) ?_
    refine tw_idiv C dL_law_392 (by decide) ?_
    refine tw_iconst (v := 2) C dL_law_393 (by decide) ?_
    refine tw_irem C dL_law_394 (by decide) ?_
    refine tw_if_ne (tgt := 402) C dL_law_395 (by decide) (fun c372002 => ?_) (fun c372002 => ?_)
    · have hf := tw_neg hf c372002
      refine tw_iconst (v := 0) C dL_law_402 (by decide) ?_
      refine tw_sub [0, 1, 2, 3, 4, 5, 6, 7] rfl ?_
      exact k_L_law_L403 C hE hr1 hX hbl hbA X0 hNc hl0 hc1 hc2 hrec v2 v3 v4 v5 v6 v8 0 ((v10 / 24) - (v10 / 24) / 3 * 3) (v10 - v10 / 12 * 12) st hf
    · have hf := tw_pos hf c372002
      refine tw_iconst (v := 1) C dL_law_398 (by decide) ?_
      refine tw_goto (tgt := 403) C dL_law_399 (by decide) ?_
      refine tw_sub [0, 1, 2, 3, 4, 5, 6, 7] rfl ?_
      exact k_L_law_L403 C hE hr1 hX hbl hbA X0 hNc hl0 hc1 hc2 hrec v2 v3 v4 v5 v6 v8 1 ((v10 / 24) - (v10 / 24) / 3 * 3) (v10 - v10 / 12 * 12) st hf
set_option maxRecDepth 20000 in
theorem k_L_law_L337 (C : twC p s m args meth c cL_law 14 RL wsL_law (dC, dI) (twY cI cZ) A) (hE : ∀ (pc k n : Nat) (lv : List (Nat × Value)) (ws : va_W), decode cL_law pc = .ok (.ireturn, 1) → k ≤ 160 → n ≤ 1377 → twG p l e room_1 s m args below meth c k n Q (dC, dI) A 14 ws pc lv [.int 1]) (hr1 : res.1 = 1) (hX : va_X b L xs s s.heap) (hbl : b < s.heap.size) (hbA : ¬ A b) (X0 : twXf A s s.heap) (hNc : twNcs s) (hl0 : l.stackTraces = false) (hc1 : nc + 1 ≤ 160) (hc2 : ns + 6 ≤ 1377) {rec : Int32 → Int32 → Int32 → Int32 → Int32 → Int32 → Int32 → twS → Option (Int32 × twS)} (hrec : ∀ (v2 : Int32) (v3 : Int32) (v4 : Int32) (v5 : Int32) (v6 : Int32) (v7 : Int32) (v8 : Int32) (st : twS), rec v2 v3 v4 v5 v6 v7 v8 st = some res → twG p l e room_1 s m args below meth c (nc + 1) (ns + 6) Q (dC, dI) A 14 (twT cI cZ q st) 55 [(0, .ref b), (1, .ref (q 0)), (2, .int v2), (3, .int v3), (4, .int v4), (5, .int v5), (6, .int v6), (7, .int v7), (8, .int v8)] []) : ∀ (v2 : Int32) (v3 : Int32) (v4 : Int32) (v5 : Int32) (v6 : Int32) (v8 : Int32) (v10 : Int32) (k0 : Int32) (k1 : Int32) (st : twS), f_L_law_L337 L xs rec v2 v3 v4 v5 v6 v8 v10 k0 k1 st = some res → twG p l e room_1 s m args below meth c nc ns Q (dC, dI) A 14 (twT cI cZ q st) 337 [(0, .ref b), (1, .ref (q 0)), (2, .int v2), (3, .int v3), (4, .int v4), (5, .int v5), (6, .int v6), (8, .int v8), (10, .int v10)] [.int k0, .int k1, .ref (q 0)] := by
  intro v2 v3 v4 v5 v6 v8 v10 k0 k1 st hf
  unfold f_L_law_L337 at hf
  obtain ⟨y337001, hc337001, hf⟩ := tw_bd hf
  refine tw_wS (As := [.ref (q 0), .int k1, .int k0]) (stk := []) (Wc := twT cI cZ q st) (Wr := []) (ws' := twT cI cZ q y337001.2) C X0 hNc (isC := List.range 26) (isR := []) (ix := List.range 26) (ki := [0, 1]) ⟨rfl, rfl, rfl, rfl, by decide, rfl, rfl⟩ rfl (w_L_failDoor l hl0 dC dI cI cZ q hc337001) (vx_cwSW 3 C.hts gL_law_L_failDoor rfl rfl rfl hd_L_failDoor ⟨Nat.le_of_ble_eq_true rfl, Nat.le_of_ble_eq_true rfl⟩) rfl rfl (Nat.le_of_ble_eq_true rfl) dL_law_337 ⟨Nat.le_trans hc1 (Nat.le_of_ble_eq_true rfl), Nat.le_trans hc2 (Nat.le_of_ble_eq_true rfl)⟩ ?_
  refine tw_istore (lv' := [(12, .int y337001.1), (0, .ref b), (1, .ref (q 0)), (2, .int v2), (3, .int v3), (4, .int v4), (5, .int v5), (6, .int v6), (8, .int v8), (10, .int v10)]) C dL_law_340 (by decide) rfl ?_
  refine tw_iload C dL_law_342 0 rfl ?_
  refine tw_aload_n C dL_law_344 2 rfl rfl ?_
  refine tw_iload C dL_law_345 9 rfl ?_
  refine tw_bipush (v := 12) C dL_law_347 (by decide) ?_
  refine tw_irem C dL_law_349 (by decide) ?_
  refine tw_iconst (v := 4) C dL_law_350 (by decide) ?_
  obtain ⟨y337002, hc337002, hf⟩ := tw_bd hf
  refine tw_cWi (As := [.ref (q 0), .int (v10 - v10 / 12 * 12), .int 4]) (stk := [.int y337001.1]) C (c_L_segment l dC dI cI cZ q hc337002) (vx_cwSW 3 C.hts gL_law_L_segment rfl rfl rfl hd_L_segment ⟨Nat.le_of_ble_eq_true rfl, Nat.le_of_ble_eq_true rfl⟩) rfl rfl (Nat.le_of_ble_eq_true rfl) dL_law_351 ⟨Nat.le_trans hc1 (Nat.le_of_ble_eq_true rfl), Nat.le_trans hc2 (Nat.le_of_ble_eq_true rfl)⟩ ?_
  refine tw_if_ge (tgt := 362) C dL_law_354 (by decide) (fun c337003 => ?_) (fun c337003 => ?_)
  · have hf := tw_pos hf c337003
    refine tw_aload_n C dL_law_362 2 rfl rfl ?_
    refine tw_iload C dL_law_363 9 rfl ?_
    refine tw_bipush (v := 12) C dL_law_365 (by decide) ?_
    refine tw_irem C dL_law_367 (by decide) ?_
    refine tw_iconst (v := 4) C dL_law_368 (by decide) ?_
    obtain ⟨y337004, hc337004, hf⟩ := tw_bd hf
    refine tw_cWi (As := [.ref (q 0), .int (v10 - v10 / 12 * 12), .int 4]) (stk := [.int y337001.1]) C (c_L_segment l dC dI cI cZ q hc337004) (vx_cwSW 3 C.hts gL_law_L_segment rfl rfl rfl hd_L_segment ⟨Nat.le_of_ble_eq_true rfl, Nat.le_of_ble_eq_true rfl⟩) rfl rfl (Nat.le_of_ble_eq_true rfl) dL_law_369 ⟨Nat.le_trans hc1 (Nat.le_of_ble_eq_true rfl), Nat.le_trans hc2 (Nat.le_of_ble_eq_true rfl)⟩ ?_
    refine tw_sub [1, 2, 3, 4, 5, 6, 7, 8, 9] rfl ?_
    exact k_L_law_L372 C hE hr1 hX hbl hbA X0 hNc hl0 hc1 hc2 hrec v2 v3 v4 v5 v6 v8 v10 y337004.1 y337001.1 y337004.2 hf
  · have hf := tw_neg hf c337003
    refine tw_bipush (v := (-101)) C dL_law_357 (by decide) ?_
    refine tw_goto (tgt := 372) C dL_law_359 (by decide) ?_
    refine tw_sub [1, 2, 3, 4, 5, 6, 7, 8, 9] rfl ?_
    exact k_L_law_L372 C hE hr1 hX hbl hbA X0 hNc hl0 hc1 hc2 hrec v2 v3 v4 v5 v6 v8 v10 (-101) y337001.1 y337002.2 hf
set_option maxRecDepth 20000 in
theorem k_L_law_L304 (C : twC p s m args meth c cL_law 14 RL wsL_law (dC, dI) (twY cI cZ) A) (hE : ∀ (pc k n : Nat) (lv : List (Nat × Value)) (ws : va_W), decode cL_law pc = .ok (.ireturn, 1) → k ≤ 160 → n ≤ 1377 → twG p l e room_1 s m args below meth c k n Q (dC, dI) A 14 ws pc lv [.int 1]) (hr1 : res.1 = 1) (hX : va_X b L xs s s.heap) (hbl : b < s.heap.size) (hbA : ¬ A b) (X0 : twXf A s s.heap) (hNc : twNcs s) (hl0 : l.stackTraces = false) (hc1 : nc + 1 ≤ 160) (hc2 : ns + 6 ≤ 1377) {rec : Int32 → Int32 → Int32 → Int32 → Int32 → Int32 → Int32 → twS → Option (Int32 × twS)} (hrec : ∀ (v2 : Int32) (v3 : Int32) (v4 : Int32) (v5 : Int32) (v6 : Int32) (v7 : Int32) (v8 : Int32) (st : twS), rec v2 v3 v4 v5 v6 v7 v8 st = some res → twG p l e room_1 s m args below meth c (nc + 1) (ns + 6) Q (dC, dI) A 14 (twT cI cZ q st) 55 [(0, .ref b), (1, .ref (q 0)), (2, .int v2), (3, .int v3), (4, .int v4), (5, .int v5), (6, .int v6), (7, .int v7), (8, .int v8)] []) : ∀ (v2 : Int32) (v3 : Int32) (v4 : Int32) (v5 : Int32) (v6 : Int32) (v8 : Int32) (k0 : Int32) (st : twS), f_L_law_L304 L xs rec v2 v3 v4 v5 v6 v8 k0 st = some res → twG p l e room_1 s m args below meth c nc ns Q (dC, dI) A 14 (twT cI cZ q st) 304 [(0, .ref b), (1, .ref (q 0)), (2, .int v2), (3, .int v3), (4, .int v4), (5, .int v5), (6, .int v6), (8, .int v8)] [.int k0] := by
  intro v2 v3 v4 v5 v6 v8 k0 st hf
  unfold f_L_law_L304 at hf
  refine tw_istore (lv' := [(7, .int k0), (0, .ref b), (1, .ref (q 0)), (2, .int v2), (3, .int v3), (4, .int v4), (5, .int v5), (6, .int v6), (8, .int v8)]) C dL_law_304 (by decide) rfl ?_
  refine tw_goto (tgt := 629) C dL_law_306 (by decide) ?_
  refine tw_sub [1, 2, 3, 4, 5, 6, 7, 0, 8] rfl ?_
  refine tw_widen (Nat.le_add_right _ 1) (Nat.le_add_right _ 6) ?_
  exact k_L_law_L629 C hE hr1 hX hbl hbA X0 hNc hl0 hc1 hc2 hrec v2 v3 v4 v5 v6 k0 v8 st hf
end
