set_option maxRecDepth 20000 in
theorem k_law_10 {p : Program} {l : Launch} {e : Env} {s : State} {m : MethodId} {args : Array Value} {below : List Frame} {meth : Method} {c : Code} {Q : State → Prop} {dC : Nat → ClassId} {dI : Nat → Nat → Nat} {cI cZ cJ : ClassId} {q r : Nat → Nat} {o b L nc ns : Nat} {xs : Nat → Int32} {A : Nat → Prop} {rec : Int32 → twS → twS → (Nat → Int64) → Option Int32} (C : twC p s m args meth c cL_law 7 RL wsL_law (dC, dI) (twY3 cI cZ cJ) A) (hE : ∀ (pc k n : Nat) (lv : List (Nat × Value)) (ws : va_W), decode cL_law pc = .ok (.ireturn, 1) → k ≤ 1070 → n ≤ 8788 → twG p l e room_1 s m args below meth c k n Q (dC, dI) A 7 ws pc lv [.int 1]) (hX : va_X b L xs s s.heap) (hbl : b < s.heap.size) (hbA : ¬ A b) (X0 : twXf A s s.heap) (hNc : twNcs s) (hl0 : l.stackTraces = false) (hc1 : nc + 1 ≤ 1070) (hc2 : ns + 6 ≤ 8788) (hrec : ∀ (v4 : Int32) (a b9 : twS) (w : Nat → Int64), rec v4 a b9 w = some 1 → twG p l e room_1 s m args below meth c (nc + 1) (ns + 6) Q (dC, dI) A 7 (twLW cI cZ cJ q r o a b9 w) 23 [(0, .ref b), (1, .ref (q 0)), (2, .ref (r 0)), (3, .ref o), (4, .int v4)] []) : ∀ (v4 : Int32) (a b9 : twS) (w : Nat → Int64), f_law_10 rec L xs v4 a b9 w = some 1 → twG p l e room_1 s m args below meth c nc ns Q (dC, dI) A 7 (twLW cI cZ cJ q r o a b9 w) 858 [(0, .ref b), (1, .ref (q 0)), (2, .ref (r 0)), (3, .ref o), (4, .int v4)] [] := by
  intro v4 a b9 w hf
  unfold f_law_10 at hf
  refine tw_aload_n C dL_law_858 1 rfl rfl ?_
  refine tw_aload_n C dL_law_859 0 rfl rfl ?_
  refine tw_iload C dL_law_860 4 rfl ?_
  refine tw_iconst (v := 1) C dL_law_862 (by decide) ?_
  refine tw_iadd C dL_law_863 ?_
  obtain ⟨hb237, hf⟩ := tw_ck hf
  refine tw_sld C hX hbl hbA hb237 dL_law_864 ?_
  refine tw_aload_n C dL_law_865 3 rfl rfl ?_
  obtain ⟨y238, hy238, hf⟩ := tw_bd hf
  refine tw_wS (As := [.ref (q 0), .int (xs (v4 + 1).toNatClampNeg), .ref o]) (stk := []) (Wc := twTO cI cZ cJ q o a w) (Wr := twM cI cZ r b9) (ws' := twLW cI cZ cJ q r o y238.2.1 b9 y238.2.2) C X0 hNc (isC := [0, 1, 2, 3, 4, 5, 6, 7, 8, 9, 10, 11, 12, 13, 14, 15, 16, 17, 18, 19, 20, 21, 22, 23, 24, 25, 41]) (isR := [26, 27, 28, 29, 30, 31, 32, 33, 34, 35, 36, 37, 38, 39, 40]) (ix := [15, 16, 17, 18, 19, 20, 21, 22, 23, 24, 25, 26, 27, 28, 29, 30, 31, 32, 33, 34, 35, 36, 37, 38, 39, 40, 0, 1, 2, 3, 4, 5, 6, 7, 8, 9, 10, 11, 12, 13, 14, 41]) (ki := [0, 1, 2]) ⟨rfl, rfl, rfl, rfl, by decide, rfl, rfl⟩ rfl (w_L_step l hl0 dC dI cI cZ cJ q o hy238) (vx_cwSW 3 C.hts gL_law_L_step rfl rfl rfl hd_L_step ⟨Nat.le_of_ble_eq_true rfl, Nat.le_of_ble_eq_true rfl⟩) rfl rfl (Nat.le_of_ble_eq_true rfl) dL_law_866 ⟨Nat.le_trans hc1 (Nat.le_of_ble_eq_true rfl), Nat.le_trans hc2 (Nat.le_of_ble_eq_true rfl)⟩ ?_
  refine tw_istore (lv' := [(5, .int y238.1), (0, .ref b), (1, .ref (q 0)), (2, .ref (r 0)), (3, .ref o), (4, .int v4)]) C dL_law_869 (by decide) rfl ?_
  refine tw_aload_n C dL_law_871 3 rfl rfl ?_
  refine tw_aload_n C dL_law_872 1 rfl rfl ?_
  refine tw_iload C dL_law_873 5 rfl ?_
  refine tw_iconst (v := 1) C dL_law_875 (by decide) ?_
  refine tw_iadd C dL_law_876 ?_
  obtain ⟨hb239, hf⟩ := tw_ck hf
  refine tw_sld C hX hbl hbA hb239 dL_law_877 ?_
  obtain ⟨y240, hy240, hf⟩ := tw_bd hf
  refine tw_fVi (As := [.int (xs (v4 + 1).toNatClampNeg)]) (stk := []) (Wc := twM cI cZ r b9) (Wr := twT cI cZ q y238.2.1 ++ [(o, .inl (cJ, 1, .inr (.inl y238.2.2)))]) (ws' := twLW cI cZ cJ q r o y238.2.1 y240.2 y238.2.2) C (isC := [26, 27, 28, 29, 30, 31, 32, 33, 34, 35, 36, 37, 38, 39, 40]) (isR := [0, 1, 2, 3, 4, 5, 6, 7, 8, 9, 10, 11, 12, 13, 14, 15, 16, 17, 18, 19, 20, 21, 22, 23, 24, 25, 41]) (ix := [0, 1, 2, 3, 4, 5, 6, 7, 8, 9, 10, 11, 12, 13, 14, 15, 16, 17, 18, 19, 20, 21, 22, 23, 24, 25, 27, 28, 29, 30, 31, 32, 33, 34, 35, 36, 37, 38, 39, 40, 41, 26]) (ki := [0, 1]) ⟨rfl, rfl, rfl, rfl, by decide, rfl, rfl⟩ rfl (c_X8_step l dC dI cI cZ r hy240) (cwV 1 C.hts gL_law_X8_step rfl rfl rfl hd_X8_step ⟨Nat.le_of_ble_eq_true rfl, Nat.le_of_ble_eq_true rfl⟩) 26 (ci := 8) rfl rfl rfl rfl rfl (Nat.le_of_ble_eq_true rfl) dL_law_878 ⟨Nat.le_trans hc1 (Nat.le_of_ble_eq_true rfl), Nat.le_trans hc2 (Nat.le_of_ble_eq_true rfl)⟩ ?_
  refine tw_istore (lv' := [(6, .int y240.1), (5, .int y238.1), (0, .ref b), (1, .ref (q 0)), (2, .ref (r 0)), (3, .ref o), (4, .int v4)]) C dL_law_881 (by decide) rfl ?_
  refine tw_aload_n C dL_law_883 4 rfl rfl ?_
  obtain ⟨y241, hy241, hf⟩ := tw_bd hf
  refine tw_fVi (As := []) (stk := []) (Wc := twM cI cZ r y240.2) (Wr := twT cI cZ q y238.2.1 ++ [(o, .inl (cJ, 1, .inr (.inl y238.2.2)))]) (ws' := twLW cI cZ cJ q r o y238.2.1 y241.2 y238.2.2) C (isC := [26, 27, 28, 29, 30, 31, 32, 33, 34, 35, 36, 37, 38, 39, 40]) (isR := [0, 1, 2, 3, 4, 5, 6, 7, 8, 9, 10, 11, 12, 13, 14, 15, 16, 17, 18, 19, 20, 21, 22, 23, 24, 25, 41]) (ix := [0, 1, 2, 3, 4, 5, 6, 7, 8, 9, 10, 11, 12, 13, 14, 15, 16, 17, 18, 19, 20, 21, 22, 23, 24, 25, 27, 28, 29, 30, 31, 32, 33, 34, 35, 36, 37, 38, 39, 40, 41, 26]) (ki := [0, 1]) ⟨rfl, rfl, rfl, rfl, by decide, rfl, rfl⟩ rfl (c_X8_thrown l dC dI cI cZ r hy241) (cwV 0 C.hts gL_law_X8_thrown rfl rfl rfl hd_X8_thrown ⟨Nat.le_of_ble_eq_true rfl, Nat.le_of_ble_eq_true rfl⟩) 26 (ci := 8) rfl rfl rfl rfl rfl (Nat.le_of_ble_eq_true rfl) dL_law_884 ⟨Nat.le_trans hc1 (Nat.le_of_ble_eq_true rfl), Nat.le_trans hc2 (Nat.le_of_ble_eq_true rfl)⟩ ?_
  refine tw_iload C dL_law_887 1 rfl ?_
  refine tw_icmp_eq (tgt := 894) C dL_law_889 (by decide) (fun c242 => ?_) (fun c242 => ?_)
  · have hf := tw_pos hf c242
    refine tw_iload C dL_law_894 1 rfl ?_
    refine tw_if_ne (tgt := 911) C dL_law_896 (by decide) (fun c243 => ?_) (fun c243 => ?_)
    · have hf := tw_neg hf c243
      refine tw_goto (tgt := 1270) C dL_law_911 (by decide) ?_
      refine tw_iinc (v := (v4 + 4)) (lv' := [(4, .int (v4 + 4)), (6, .int y240.1), (5, .int y238.1), (0, .ref b), (1, .ref (q 0)), (2, .ref (r 0)), (3, .ref o)]) C dL_law_1270 (k := 6) rfl rfl (by decide) rfl ?_
      refine tw_goto (tgt := 23) C dL_law_1273 (by decide) ?_
      refine tw_sub [3, 4, 5, 6, 0] rfl ?_
      exact hrec (v4 + 4) y238.2.1 y241.2 y238.2.2 hf
    · have hf := tw_pos hf c243
      refine tw_aload_n C dL_law_899 5 rfl rfl ?_
      refine tw_iconst (v := 0) C dL_law_900 (by decide) ?_
      refine tw_lald C 41 2 (tw_in (i := 0) (n := 1) (by decide)) rfl rfl dL_law_901 ?_
      refine tw_iload C dL_law_902 0 rfl ?_
      refine tw_i2l C dL_law_904 ?_
      refine tw_lcmp C dL_law_905 ?_
      refine tw_if_eq (tgt := 911) C dL_law_906 (by decide) (fun c244 => ?_) (fun c244 => ?_)
      · have hf := tw_pos hf c244
        refine tw_goto (tgt := 1270) C dL_law_911 (by decide) ?_
        refine tw_iinc (v := (v4 + 4)) (lv' := [(4, .int (v4 + 4)), (6, .int y240.1), (5, .int y238.1), (0, .ref b), (1, .ref (q 0)), (2, .ref (r 0)), (3, .ref o)]) C dL_law_1270 (k := 6) rfl rfl (by decide) rfl ?_
        refine tw_goto (tgt := 23) C dL_law_1273 (by decide) ?_
        refine tw_sub [3, 4, 5, 6, 0] rfl ?_
        exact hrec (v4 + 4) y238.2.1 y241.2 y238.2.2 hf
      · have hf := tw_neg hf c244
        refine tw_iconst (v := 0) C dL_law_909 (by decide) ?_
        cases hf
  · have hf := tw_neg hf c242
    refine tw_iconst (v := 0) C dL_law_892 (by decide) ?_
    cases hf
set_option maxRecDepth 20000 in
theorem k_law_11 {p : Program} {l : Launch} {e : Env} {s : State} {m : MethodId} {args : Array Value} {below : List Frame} {meth : Method} {c : Code} {Q : State → Prop} {dC : Nat → ClassId} {dI : Nat → Nat → Nat} {cI cZ cJ : ClassId} {q r : Nat → Nat} {o b L nc ns : Nat} {xs : Nat → Int32} {A : Nat → Prop} {rec : Int32 → twS → twS → (Nat → Int64) → Option Int32} (C : twC p s m args meth c cL_law 7 RL wsL_law (dC, dI) (twY3 cI cZ cJ) A) (hE : ∀ (pc k n : Nat) (lv : List (Nat × Value)) (ws : va_W), decode cL_law pc = .ok (.ireturn, 1) → k ≤ 1070 → n ≤ 8788 → twG p l e room_1 s m args below meth c k n Q (dC, dI) A 7 ws pc lv [.int 1]) (hX : va_X b L xs s s.heap) (hbl : b < s.heap.size) (hbA : ¬ A b) (X0 : twXf A s s.heap) (hNc : twNcs s) (hl0 : l.stackTraces = false) (hc1 : nc + 1 ≤ 1070) (hc2 : ns + 6 ≤ 8788) (hrec : ∀ (v4 : Int32) (a b9 : twS) (w : Nat → Int64), rec v4 a b9 w = some 1 → twG p l e room_1 s m args below meth c (nc + 1) (ns + 6) Q (dC, dI) A 7 (twLW cI cZ cJ q r o a b9 w) 23 [(0, .ref b), (1, .ref (q 0)), (2, .ref (r 0)), (3, .ref o), (4, .int v4)] []) : ∀ (v4 : Int32) (a b9 : twS) (w : Nat → Int64), f_law_11 rec L xs v4 a b9 w = some 1 → twG p l e room_1 s m args below meth c nc ns Q (dC, dI) A 7 (twLW cI cZ cJ q r o a b9 w) 914 [(0, .ref b), (1, .ref (q 0)), (2, .ref (r 0)), (3, .ref o), (4, .int v4)] [] := by
  intro v4 a b9 w hf
  unfold f_law_11 at hf
  refine tw_aload_n C dL_law_914 1 rfl rfl ?_
  refine tw_aload_n C dL_law_915 0 rfl rfl ?_
  refine tw_iload C dL_law_916 4 rfl ?_
  refine tw_iconst (v := 1) C dL_law_918 (by decide) ?_
  refine tw_iadd C dL_law_919 ?_
  obtain ⟨hb245, hf⟩ := tw_ck hf
  refine tw_sld C hX hbl hbA hb245 dL_law_920 ?_
  refine tw_aload_n C dL_law_921 0 rfl rfl ?_
  refine tw_iload C dL_law_922 4 rfl ?_
  refine tw_iconst (v := 2) C dL_law_924 (by decide) ?_
  refine tw_iadd C dL_law_925 ?_
  obtain ⟨hb246, hf⟩ := tw_ck hf
  refine tw_sld C hX hbl hbA hb246 dL_law_926 ?_
  refine tw_aload_n C dL_law_927 3 rfl rfl ?_
  obtain ⟨y247, hy247, hf⟩ := tw_bd hf
  refine tw_wS (As := [.ref (q 0), .int (xs (v4 + 1).toNatClampNeg), .int (xs (v4 + 2).toNatClampNeg), .ref o]) (stk := []) (Wc := twTO cI cZ cJ q o a w) (Wr := twM cI cZ r b9) (ws' := twLW cI cZ cJ q r o y247.2.1 b9 y247.2.2) C X0 hNc (isC := [0, 1, 2, 3, 4, 5, 6, 7, 8, 9, 10, 11, 12, 13, 14, 15, 16, 17, 18, 19, 20, 21, 22, 23, 24, 25, 41]) (isR := [26, 27, 28, 29, 30, 31, 32, 33, 34, 35, 36, 37, 38, 39, 40]) (ix := [15, 16, 17, 18, 19, 20, 21, 22, 23, 24, 25, 26, 27, 28, 29, 30, 31, 32, 33, 34, 35, 36, 37, 38, 39, 40, 0, 1, 2, 3, 4, 5, 6, 7, 8, 9, 10, 11, 12, 13, 14, 41]) (ki := [0, 1, 2]) ⟨rfl, rfl, rfl, rfl, by decide, rfl, rfl⟩ rfl (w_L_segment l hl0 dC dI cI cZ cJ q o hy247) (vx_cwSW 4 C.hts gL_law_L_segment rfl rfl rfl hd_L_segment ⟨Nat.le_of_ble_eq_true rfl, Nat.le_of_ble_eq_true rfl⟩) rfl rfl (Nat.le_of_ble_eq_true rfl) dL_law_928 ⟨Nat.le_trans hc1 (Nat.le_of_ble_eq_true rfl), Nat.le_trans hc2 (Nat.le_of_ble_eq_true rfl)⟩ ?_
  refine tw_istore (lv' := [(5, .int y247.1), (0, .ref b), (1, .ref (q 0)), (2, .ref (r 0)), (3, .ref o), (4, .int v4)]) C dL_law_931 (by decide) rfl ?_
  refine tw_aload_n C dL_law_933 3 rfl rfl ?_
  refine tw_aload_n C dL_law_934 1 rfl rfl ?_
  refine tw_iload C dL_law_935 5 rfl ?_
  refine tw_iconst (v := 1) C dL_law_937 (by decide) ?_
  refine tw_iadd C dL_law_938 ?_
  obtain ⟨hb248, hf⟩ := tw_ck hf
  refine tw_sld C hX hbl hbA hb248 dL_law_939 ?_
  refine tw_aload_n C dL_law_940 1 rfl rfl ?_
  refine tw_iload C dL_law_941 5 rfl ?_
  refine tw_iconst (v := 2) C dL_law_943 (by decide) ?_
  refine tw_iadd C dL_law_944 ?_
  obtain ⟨hb249, hf⟩ := tw_ck hf
  refine tw_sld C hX hbl hbA hb249 dL_law_945 ?_
  obtain ⟨y250, hy250, hf⟩ := tw_bd hf
  refine tw_fVi (As := [.int (xs (v4 + 1).toNatClampNeg), .int (xs (v4 + 2).toNatClampNeg)]) (stk := []) (Wc := twM cI cZ r b9) (Wr := twT cI cZ q y247.2.1 ++ [(o, .inl (cJ, 1, .inr (.inl y247.2.2)))]) (ws' := twLW cI cZ cJ q r o y247.2.1 y250.2 y247.2.2) C (isC := [26, 27, 28, 29, 30, 31, 32, 33, 34, 35, 36, 37, 38, 39, 40]) (isR := [0, 1, 2, 3, 4, 5, 6, 7, 8, 9, 10, 11, 12, 13, 14, 15, 16, 17, 18, 19, 20, 21, 22, 23, 24, 25, 41]) (ix := [0, 1, 2, 3, 4, 5, 6, 7, 8, 9, 10, 11, 12, 13, 14, 15, 16, 17, 18, 19, 20, 21, 22, 23, 24, 25, 27, 28, 29, 30, 31, 32, 33, 34, 35, 36, 37, 38, 39, 40, 41, 26]) (ki := [0, 1]) ⟨rfl, rfl, rfl, rfl, by decide, rfl, rfl⟩ rfl (c_X8_segment l dC dI cI cZ r hy250) (cwV 2 C.hts gL_law_X8_segment rfl rfl rfl hd_X8_segment ⟨Nat.le_of_ble_eq_true rfl, Nat.le_of_ble_eq_true rfl⟩) 26 (ci := 8) rfl rfl rfl rfl rfl (Nat.le_of_ble_eq_true rfl) dL_law_946 ⟨Nat.le_trans hc1 (Nat.le_of_ble_eq_true rfl), Nat.le_trans hc2 (Nat.le_of_ble_eq_true rfl)⟩ ?_
  refine tw_istore (lv' := [(6, .int y250.1), (5, .int y247.1), (0, .ref b), (1, .ref (q 0)), (2, .ref (r 0)), (3, .ref o), (4, .int v4)]) C dL_law_949 (by decide) rfl ?_
  refine tw_aload_n C dL_law_951 4 rfl rfl ?_
  obtain ⟨y251, hy251, hf⟩ := tw_bd hf
  refine tw_fVi (As := []) (stk := []) (Wc := twM cI cZ r y250.2) (Wr := twT cI cZ q y247.2.1 ++ [(o, .inl (cJ, 1, .inr (.inl y247.2.2)))]) (ws' := twLW cI cZ cJ q r o y247.2.1 y251.2 y247.2.2) C (isC := [26, 27, 28, 29, 30, 31, 32, 33, 34, 35, 36, 37, 38, 39, 40]) (isR := [0, 1, 2, 3, 4, 5, 6, 7, 8, 9, 10, 11, 12, 13, 14, 15, 16, 17, 18, 19, 20, 21, 22, 23, 24, 25, 41]) (ix := [0, 1, 2, 3, 4, 5, 6, 7, 8, 9, 10, 11, 12, 13, 14, 15, 16, 17, 18, 19, 20, 21, 22, 23, 24, 25, 27, 28, 29, 30, 31, 32, 33, 34, 35, 36, 37, 38, 39, 40, 41, 26]) (ki := [0, 1]) ⟨rfl, rfl, rfl, rfl, by decide, rfl, rfl⟩ rfl (c_X8_thrown l dC dI cI cZ r hy251) (cwV 0 C.hts gL_law_X8_thrown rfl rfl rfl hd_X8_thrown ⟨Nat.le_of_ble_eq_true rfl, Nat.le_of_ble_eq_true rfl⟩) 26 (ci := 8) rfl rfl rfl rfl rfl (Nat.le_of_ble_eq_true rfl) dL_law_952 ⟨Nat.le_trans hc1 (Nat.le_of_ble_eq_true rfl), Nat.le_trans hc2 (Nat.le_of_ble_eq_true rfl)⟩ ?_
  refine tw_iload C dL_law_955 1 rfl ?_
  refine tw_icmp_eq (tgt := 962) C dL_law_957 (by decide) (fun c252 => ?_) (fun c252 => ?_)
  · have hf := tw_pos hf c252
    refine tw_iload C dL_law_962 1 rfl ?_
    refine tw_if_ne (tgt := 979) C dL_law_964 (by decide) (fun c253 => ?_) (fun c253 => ?_)
    · have hf := tw_neg hf c253
      refine tw_goto (tgt := 1270) C dL_law_979 (by decide) ?_
      refine tw_iinc (v := (v4 + 4)) (lv' := [(4, .int (v4 + 4)), (6, .int y250.1), (5, .int y247.1), (0, .ref b), (1, .ref (q 0)), (2, .ref (r 0)), (3, .ref o)]) C dL_law_1270 (k := 6) rfl rfl (by decide) rfl ?_
      refine tw_goto (tgt := 23) C dL_law_1273 (by decide) ?_
      refine tw_sub [3, 4, 5, 6, 0] rfl ?_
      exact hrec (v4 + 4) y247.2.1 y251.2 y247.2.2 hf
    · have hf := tw_pos hf c253
      refine tw_aload_n C dL_law_967 5 rfl rfl ?_
      refine tw_iconst (v := 0) C dL_law_968 (by decide) ?_
      refine tw_lald C 41 2 (tw_in (i := 0) (n := 1) (by decide)) rfl rfl dL_law_969 ?_
      refine tw_iload C dL_law_970 0 rfl ?_
      refine tw_i2l C dL_law_972 ?_
      refine tw_lcmp C dL_law_973 ?_
      refine tw_if_eq (tgt := 979) C dL_law_974 (by decide) (fun c254 => ?_) (fun c254 => ?_)
      · have hf := tw_pos hf c254
        refine tw_goto (tgt := 1270) C dL_law_979 (by decide) ?_
        refine tw_iinc (v := (v4 + 4)) (lv' := [(4, .int (v4 + 4)), (6, .int y250.1), (5, .int y247.1), (0, .ref b), (1, .ref (q 0)), (2, .ref (r 0)), (3, .ref o)]) C dL_law_1270 (k := 6) rfl rfl (by decide) rfl ?_
        refine tw_goto (tgt := 23) C dL_law_1273 (by decide) ?_
        refine tw_sub [3, 4, 5, 6, 0] rfl ?_
        exact hrec (v4 + 4) y247.2.1 y251.2 y247.2.2 hf
      · have hf := tw_neg hf c254
        refine tw_iconst (v := 0) C dL_law_977 (by decide) ?_
        cases hf
  · have hf := tw_neg hf c252
    refine tw_iconst (v := 0) C dL_law_960 (by decide) ?_
    cases hf
set_option maxRecDepth 20000 in
theorem k_law_12 {p : Program} {l : Launch} {e : Env} {s : State} {m : MethodId} {args : Array Value} {below : List Frame} {meth : Method} {c : Code} {Q : State → Prop} {dC : Nat → ClassId} {dI : Nat → Nat → Nat} {cI cZ cJ : ClassId} {q r : Nat → Nat} {o b L nc ns : Nat} {xs : Nat → Int32} {A : Nat → Prop} {rec : Int32 → twS → twS → (Nat → Int64) → Option Int32} (C : twC p s m args meth c cL_law 7 RL wsL_law (dC, dI) (twY3 cI cZ cJ) A) (hE : ∀ (pc k n : Nat) (lv : List (Nat × Value)) (ws : va_W), decode cL_law pc = .ok (.ireturn, 1) → k ≤ 1070 → n ≤ 8788 → twG p l e room_1 s m args below meth c k n Q (dC, dI) A 7 ws pc lv [.int 1]) (hX : va_X b L xs s s.heap) (hbl : b < s.heap.size) (hbA : ¬ A b) (X0 : twXf A s s.heap) (hNc : twNcs s) (hl0 : l.stackTraces = false) (hc1 : nc + 1 ≤ 1070) (hc2 : ns + 6 ≤ 8788) (hrec : ∀ (v4 : Int32) (a b9 : twS) (w : Nat → Int64), rec v4 a b9 w = some 1 → twG p l e room_1 s m args below meth c (nc + 1) (ns + 6) Q (dC, dI) A 7 (twLW cI cZ cJ q r o a b9 w) 23 [(0, .ref b), (1, .ref (q 0)), (2, .ref (r 0)), (3, .ref o), (4, .int v4)] []) : ∀ (v4 : Int32) (a b9 : twS) (w : Nat → Int64), f_law_12 rec L xs v4 a b9 w = some 1 → twG p l e room_1 s m args below meth c nc ns Q (dC, dI) A 7 (twLW cI cZ cJ q r o a b9 w) 982 [(0, .ref b), (1, .ref (q 0)), (2, .ref (r 0)), (3, .ref o), (4, .int v4)] [] := by
  intro v4 a b9 w hf
  unfold f_law_12 at hf
  refine tw_aload_n C dL_law_982 1 rfl rfl ?_
  obtain ⟨y255, hy255, hf⟩ := tw_bd hf
  refine tw_fVi (As := []) (stk := []) (Wc := twT cI cZ q a) (Wr := twM cI cZ r b9 ++ [(o, .inl (cJ, 1, .inr (.inl w)))]) (ws' := twLW cI cZ cJ q r o y255.2 b9 w) C (isC := [0, 1, 2, 3, 4, 5, 6, 7, 8, 9, 10, 11, 12, 13, 14, 15, 16, 17, 18, 19, 20, 21, 22, 23, 24, 25]) (isR := [26, 27, 28, 29, 30, 31, 32, 33, 34, 35, 36, 37, 38, 39, 40, 41]) (ix := [16, 17, 18, 19, 20, 21, 22, 23, 24, 25, 26, 27, 28, 29, 30, 31, 32, 33, 34, 35, 36, 37, 38, 39, 40, 41, 0, 1, 2, 3, 4, 5, 6, 7, 8, 9, 10, 11, 12, 13, 14, 15]) (ki := [0, 1]) ⟨rfl, rfl, rfl, rfl, by decide, rfl, rfl⟩ rfl (c_X7_flow l dC dI cI cZ q hy255) (cwV 0 C.hts gL_law_X7_flow rfl rfl rfl hd_X7_flow ⟨Nat.le_of_ble_eq_true rfl, Nat.le_of_ble_eq_true rfl⟩) 0 (ci := 7) rfl rfl rfl rfl rfl (Nat.le_of_ble_eq_true rfl) dL_law_983 ⟨Nat.le_trans (Nat.le_of_succ_le hc1) (Nat.le_of_ble_eq_true rfl), Nat.le_trans (Nat.le_trans (Nat.le_add_right _ 6) hc2) (Nat.le_of_ble_eq_true rfl)⟩ ?_
  refine tw_aload_n C dL_law_986 2 rfl rfl ?_
  obtain ⟨y256, hy256, hf⟩ := tw_bd hf
  refine tw_fVi (As := []) (stk := [.int y255.1]) (Wc := twM cI cZ r b9) (Wr := twT cI cZ q y255.2 ++ [(o, .inl (cJ, 1, .inr (.inl w)))]) (ws' := twLW cI cZ cJ q r o y255.2 y256.2 w) C (isC := [26, 27, 28, 29, 30, 31, 32, 33, 34, 35, 36, 37, 38, 39, 40]) (isR := [0, 1, 2, 3, 4, 5, 6, 7, 8, 9, 10, 11, 12, 13, 14, 15, 16, 17, 18, 19, 20, 21, 22, 23, 24, 25, 41]) (ix := [0, 1, 2, 3, 4, 5, 6, 7, 8, 9, 10, 11, 12, 13, 14, 15, 16, 17, 18, 19, 20, 21, 22, 23, 24, 25, 27, 28, 29, 30, 31, 32, 33, 34, 35, 36, 37, 38, 39, 40, 41, 26]) (ki := [0, 1]) ⟨rfl, rfl, rfl, rfl, by decide, rfl, rfl⟩ rfl (c_X8_flow l dC dI cI cZ r hy256) (cwV 0 C.hts gL_law_X8_flow rfl rfl rfl hd_X8_flow ⟨Nat.le_of_ble_eq_true rfl, Nat.le_of_ble_eq_true rfl⟩) 26 (ci := 8) rfl rfl rfl rfl rfl (Nat.le_of_ble_eq_true rfl) dL_law_987 ⟨Nat.le_trans (Nat.le_of_succ_le hc1) (Nat.le_of_ble_eq_true rfl), Nat.le_trans (Nat.le_trans (Nat.le_add_right _ 6) hc2) (Nat.le_of_ble_eq_true rfl)⟩ ?_
  refine tw_icmp_eq (tgt := 1270) C dL_law_990 (by decide) (fun c257 => ?_) (fun c257 => ?_)
  · have hf := tw_pos hf c257
    refine tw_iinc (v := (v4 + 4)) (lv' := [(4, .int (v4 + 4)), (0, .ref b), (1, .ref (q 0)), (2, .ref (r 0)), (3, .ref o)]) C dL_law_1270 (k := 4) rfl rfl (by decide) rfl ?_
    refine tw_goto (tgt := 23) C dL_law_1273 (by decide) ?_
    refine tw_sub [1, 2, 3, 4, 0] rfl ?_
    refine tw_widen (Nat.le_add_right _ 1) (Nat.le_add_right _ 6) ?_
    exact hrec (v4 + 4) y255.2 y256.2 w hf
  · have hf := tw_neg hf c257
    refine tw_iconst (v := 0) C dL_law_993 (by decide) ?_
    cases hf
set_option maxRecDepth 20000 in
theorem k_law_13 {p : Program} {l : Launch} {e : Env} {s : State} {m : MethodId} {args : Array Value} {below : List Frame} {meth : Method} {c : Code} {Q : State → Prop} {dC : Nat → ClassId} {dI : Nat → Nat → Nat} {cI cZ cJ : ClassId} {q r : Nat → Nat} {o b L nc ns : Nat} {xs : Nat → Int32} {A : Nat → Prop} {rec : Int32 → twS → twS → (Nat → Int64) → Option Int32} (C : twC p s m args meth c cL_law 7 RL wsL_law (dC, dI) (twY3 cI cZ cJ) A) (hE : ∀ (pc k n : Nat) (lv : List (Nat × Value)) (ws : va_W), decode cL_law pc = .ok (.ireturn, 1) → k ≤ 1070 → n ≤ 8788 → twG p l e room_1 s m args below meth c k n Q (dC, dI) A 7 ws pc lv [.int 1]) (hX : va_X b L xs s s.heap) (hbl : b < s.heap.size) (hbA : ¬ A b) (X0 : twXf A s s.heap) (hNc : twNcs s) (hl0 : l.stackTraces = false) (hc1 : nc + 1 ≤ 1070) (hc2 : ns + 6 ≤ 8788) (hrec : ∀ (v4 : Int32) (a b9 : twS) (w : Nat → Int64), rec v4 a b9 w = some 1 → twG p l e room_1 s m args below meth c (nc + 1) (ns + 6) Q (dC, dI) A 7 (twLW cI cZ cJ q r o a b9 w) 23 [(0, .ref b), (1, .ref (q 0)), (2, .ref (r 0)), (3, .ref o), (4, .int v4)] []) : ∀ (v4 : Int32) (a b9 : twS) (w : Nat → Int64), f_law_13 rec L xs v4 a b9 w = some 1 → twG p l e room_1 s m args below meth c nc ns Q (dC, dI) A 7 (twLW cI cZ cJ q r o a b9 w) 995 [(0, .ref b), (1, .ref (q 0)), (2, .ref (r 0)), (3, .ref o), (4, .int v4)] [] := by
  intro v4 a b9 w hf
  unfold f_law_13 at hf
  refine tw_aload_n C dL_law_995 1 rfl rfl ?_
  refine tw_aload_n C dL_law_996 0 rfl rfl ?_
  refine tw_iload C dL_law_997 4 rfl ?_
  refine tw_iconst (v := 1) C dL_law_999 (by decide) ?_
  refine tw_iadd C dL_law_1000 ?_
  obtain ⟨hb258, hf⟩ := tw_ck hf
  refine tw_sld C hX hbl hbA hb258 dL_law_1001 ?_
  refine tw_aload_n C dL_law_1002 3 rfl rfl ?_
  obtain ⟨y259, hy259, hf⟩ := tw_bd hf
  refine tw_wS (As := [.ref (q 0), .int (xs (v4 + 1).toNatClampNeg), .ref o]) (stk := []) (Wc := twTO cI cZ cJ q o a w) (Wr := twM cI cZ r b9) (ws' := twLW cI cZ cJ q r o y259.2.1 b9 y259.2.2) C X0 hNc (isC := [0, 1, 2, 3, 4, 5, 6, 7, 8, 9, 10, 11, 12, 13, 14, 15, 16, 17, 18, 19, 20, 21, 22, 23, 24, 25, 41]) (isR := [26, 27, 28, 29, 30, 31, 32, 33, 34, 35, 36, 37, 38, 39, 40]) (ix := [15, 16, 17, 18, 19, 20, 21, 22, 23, 24, 25, 26, 27, 28, 29, 30, 31, 32, 33, 34, 35, 36, 37, 38, 39, 40, 0, 1, 2, 3, 4, 5, 6, 7, 8, 9, 10, 11, 12, 13, 14, 41]) (ki := [0, 1, 2]) ⟨rfl, rfl, rfl, rfl, by decide, rfl, rfl⟩ rfl (w_L_fan l hl0 dC dI cI cZ cJ q o hy259) (vx_cwSW 3 C.hts gL_law_L_fan rfl rfl rfl hd_L_fan ⟨Nat.le_of_ble_eq_true rfl, Nat.le_of_ble_eq_true rfl⟩) rfl rfl (Nat.le_of_ble_eq_true rfl) dL_law_1003 ⟨Nat.le_trans hc1 (Nat.le_of_ble_eq_true rfl), Nat.le_trans hc2 (Nat.le_of_ble_eq_true rfl)⟩ ?_
  refine tw_istore (lv' := [(5, .int y259.1), (0, .ref b), (1, .ref (q 0)), (2, .ref (r 0)), (3, .ref o), (4, .int v4)]) C dL_law_1006 (by decide) rfl ?_
  refine tw_aload_n C dL_law_1008 3 rfl rfl ?_
  refine tw_aload_n C dL_law_1009 1 rfl rfl ?_
  refine tw_iload C dL_law_1010 5 rfl ?_
  refine tw_iconst (v := 1) C dL_law_1012 (by decide) ?_
  refine tw_iadd C dL_law_1013 ?_
  obtain ⟨hb260, hf⟩ := tw_ck hf
  refine tw_sld C hX hbl hbA hb260 dL_law_1014 ?_
  obtain ⟨y261, hy261, hf⟩ := tw_bd hf
  refine tw_fVi (As := [.int (xs (v4 + 1).toNatClampNeg)]) (stk := []) (Wc := twM cI cZ r b9) (Wr := twT cI cZ q y259.2.1 ++ [(o, .inl (cJ, 1, .inr (.inl y259.2.2)))]) (ws' := twLW cI cZ cJ q r o y259.2.1 y261.2 y259.2.2) C (isC := [26, 27, 28, 29, 30, 31, 32, 33, 34, 35, 36, 37, 38, 39, 40]) (isR := [0, 1, 2, 3, 4, 5, 6, 7, 8, 9, 10, 11, 12, 13, 14, 15, 16, 17, 18, 19, 20, 21, 22, 23, 24, 25, 41]) (ix := [0, 1, 2, 3, 4, 5, 6, 7, 8, 9, 10, 11, 12, 13, 14, 15, 16, 17, 18, 19, 20, 21, 22, 23, 24, 25, 27, 28, 29, 30, 31, 32, 33, 34, 35, 36, 37, 38, 39, 40, 41, 26]) (ki := [0, 1]) ⟨rfl, rfl, rfl, rfl, by decide, rfl, rfl⟩ rfl (c_X8_fan l dC dI cI cZ r hy261) (cwV 1 C.hts gL_law_X8_fan rfl rfl rfl hd_X8_fan ⟨Nat.le_of_ble_eq_true rfl, Nat.le_of_ble_eq_true rfl⟩) 26 (ci := 8) rfl rfl rfl rfl rfl (Nat.le_of_ble_eq_true rfl) dL_law_1015 ⟨Nat.le_trans hc1 (Nat.le_of_ble_eq_true rfl), Nat.le_trans hc2 (Nat.le_of_ble_eq_true rfl)⟩ ?_
  refine tw_istore (lv' := [(6, .int y261.1), (5, .int y259.1), (0, .ref b), (1, .ref (q 0)), (2, .ref (r 0)), (3, .ref o), (4, .int v4)]) C dL_law_1018 (by decide) rfl ?_
  refine tw_aload_n C dL_law_1020 4 rfl rfl ?_
  obtain ⟨y262, hy262, hf⟩ := tw_bd hf
  refine tw_fVi (As := []) (stk := []) (Wc := twM cI cZ r y261.2) (Wr := twT cI cZ q y259.2.1 ++ [(o, .inl (cJ, 1, .inr (.inl y259.2.2)))]) (ws' := twLW cI cZ cJ q r o y259.2.1 y262.2 y259.2.2) C (isC := [26, 27, 28, 29, 30, 31, 32, 33, 34, 35, 36, 37, 38, 39, 40]) (isR := [0, 1, 2, 3, 4, 5, 6, 7, 8, 9, 10, 11, 12, 13, 14, 15, 16, 17, 18, 19, 20, 21, 22, 23, 24, 25, 41]) (ix := [0, 1, 2, 3, 4, 5, 6, 7, 8, 9, 10, 11, 12, 13, 14, 15, 16, 17, 18, 19, 20, 21, 22, 23, 24, 25, 27, 28, 29, 30, 31, 32, 33, 34, 35, 36, 37, 38, 39, 40, 41, 26]) (ki := [0, 1]) ⟨rfl, rfl, rfl, rfl, by decide, rfl, rfl⟩ rfl (c_X8_thrown l dC dI cI cZ r hy262) (cwV 0 C.hts gL_law_X8_thrown rfl rfl rfl hd_X8_thrown ⟨Nat.le_of_ble_eq_true rfl, Nat.le_of_ble_eq_true rfl⟩) 26 (ci := 8) rfl rfl rfl rfl rfl (Nat.le_of_ble_eq_true rfl) dL_law_1021 ⟨Nat.le_trans hc1 (Nat.le_of_ble_eq_true rfl), Nat.le_trans hc2 (Nat.le_of_ble_eq_true rfl)⟩ ?_
  refine tw_iload C dL_law_1024 1 rfl ?_
  refine tw_icmp_eq (tgt := 1031) C dL_law_1026 (by decide) (fun c263 => ?_) (fun c263 => ?_)
  · have hf := tw_pos hf c263
    refine tw_iload C dL_law_1031 1 rfl ?_
    refine tw_if_ne (tgt := 1048) C dL_law_1033 (by decide) (fun c264 => ?_) (fun c264 => ?_)
    · have hf := tw_neg hf c264
      refine tw_goto (tgt := 1270) C dL_law_1048 (by decide) ?_
      refine tw_iinc (v := (v4 + 4)) (lv' := [(4, .int (v4 + 4)), (6, .int y261.1), (5, .int y259.1), (0, .ref b), (1, .ref (q 0)), (2, .ref (r 0)), (3, .ref o)]) C dL_law_1270 (k := 6) rfl rfl (by decide) rfl ?_
      refine tw_goto (tgt := 23) C dL_law_1273 (by decide) ?_
      refine tw_sub [3, 4, 5, 6, 0] rfl ?_
      exact hrec (v4 + 4) y259.2.1 y262.2 y259.2.2 hf
    · have hf := tw_pos hf c264
      refine tw_aload_n C dL_law_1036 5 rfl rfl ?_
      refine tw_iconst (v := 0) C dL_law_1037 (by decide) ?_
      refine tw_lald C 41 2 (tw_in (i := 0) (n := 1) (by decide)) rfl rfl dL_law_1038 ?_
      refine tw_iload C dL_law_1039 0 rfl ?_
      refine tw_i2l C dL_law_1041 ?_
      refine tw_lcmp C dL_law_1042 ?_
      refine tw_if_eq (tgt := 1048) C dL_law_1043 (by decide) (fun c265 => ?_) (fun c265 => ?_)
      · have hf := tw_pos hf c265
        refine tw_goto (tgt := 1270) C dL_law_1048 (by decide) ?_
        refine tw_iinc (v := (v4 + 4)) (lv' := [(4, .int (v4 + 4)), (6, .int y261.1), (5, .int y259.1), (0, .ref b), (1, .ref (q 0)), (2, .ref (r 0)), (3, .ref o)]) C dL_law_1270 (k := 6) rfl rfl (by decide) rfl ?_
        refine tw_goto (tgt := 23) C dL_law_1273 (by decide) ?_
        refine tw_sub [3, 4, 5, 6, 0] rfl ?_
        exact hrec (v4 + 4) y259.2.1 y262.2 y259.2.2 hf
      · have hf := tw_neg hf c265
        refine tw_iconst (v := 0) C dL_law_1046 (by decide) ?_
        cases hf
  · have hf := tw_neg hf c263
    refine tw_iconst (v := 0) C dL_law_1029 (by decide) ?_
    cases hf
set_option maxRecDepth 20000 in
theorem k_law_14 {p : Program} {l : Launch} {e : Env} {s : State} {m : MethodId} {args : Array Value} {below : List Frame} {meth : Method} {c : Code} {Q : State → Prop} {dC : Nat → ClassId} {dI : Nat → Nat → Nat} {cI cZ cJ : ClassId} {q r : Nat → Nat} {o b L nc ns : Nat} {xs : Nat → Int32} {A : Nat → Prop} {rec : Int32 → twS → twS → (Nat → Int64) → Option Int32} (C : twC p s m args meth c cL_law 7 RL wsL_law (dC, dI) (twY3 cI cZ cJ) A) (hE : ∀ (pc k n : Nat) (lv : List (Nat × Value)) (ws : va_W), decode cL_law pc = .ok (.ireturn, 1) → k ≤ 1070 → n ≤ 8788 → twG p l e room_1 s m args below meth c k n Q (dC, dI) A 7 ws pc lv [.int 1]) (hX : va_X b L xs s s.heap) (hbl : b < s.heap.size) (hbA : ¬ A b) (X0 : twXf A s s.heap) (hNc : twNcs s) (hl0 : l.stackTraces = false) (hc1 : nc + 1 ≤ 1070) (hc2 : ns + 6 ≤ 8788) (hrec : ∀ (v4 : Int32) (a b9 : twS) (w : Nat → Int64), rec v4 a b9 w = some 1 → twG p l e room_1 s m args below meth c (nc + 1) (ns + 6) Q (dC, dI) A 7 (twLW cI cZ cJ q r o a b9 w) 23 [(0, .ref b), (1, .ref (q 0)), (2, .ref (r 0)), (3, .ref o), (4, .int v4)] []) : ∀ (v4 : Int32) (a b9 : twS) (w : Nat → Int64), f_law_14 rec L xs v4 a b9 w = some 1 → twG p l e room_1 s m args below meth c nc ns Q (dC, dI) A 7 (twLW cI cZ cJ q r o a b9 w) 1051 [(0, .ref b), (1, .ref (q 0)), (2, .ref (r 0)), (3, .ref o), (4, .int v4)] [] := by
  intro v4 a b9 w hf
  unfold f_law_14 at hf
  refine tw_aload_n C dL_law_1051 1 rfl rfl ?_
  obtain ⟨y266, hy266, hf⟩ := tw_bd hf
  refine tw_fVi (As := []) (stk := []) (Wc := twT cI cZ q a) (Wr := twM cI cZ r b9 ++ [(o, .inl (cJ, 1, .inr (.inl w)))]) (ws' := twLW cI cZ cJ q r o y266.2 b9 w) C (isC := [0, 1, 2, 3, 4, 5, 6, 7, 8, 9, 10, 11, 12, 13, 14, 15, 16, 17, 18, 19, 20, 21, 22, 23, 24, 25]) (isR := [26, 27, 28, 29, 30, 31, 32, 33, 34, 35, 36, 37, 38, 39, 40, 41]) (ix := [16, 17, 18, 19, 20, 21, 22, 23, 24, 25, 26, 27, 28, 29, 30, 31, 32, 33, 34, 35, 36, 37, 38, 39, 40, 41, 0, 1, 2, 3, 4, 5, 6, 7, 8, 9, 10, 11, 12, 13, 14, 15]) (ki := [0, 1]) ⟨rfl, rfl, rfl, rfl, by decide, rfl, rfl⟩ rfl (c_X7_alarm l dC dI cI cZ q hy266) (cwV 0 C.hts gL_law_X7_alarm rfl rfl rfl hd_X7_alarm ⟨Nat.le_of_ble_eq_true rfl, Nat.le_of_ble_eq_true rfl⟩) 0 (ci := 7) rfl rfl rfl rfl rfl (Nat.le_of_ble_eq_true rfl) dL_law_1052 ⟨Nat.le_trans (Nat.le_of_succ_le hc1) (Nat.le_of_ble_eq_true rfl), Nat.le_trans (Nat.le_trans (Nat.le_add_right _ 6) hc2) (Nat.le_of_ble_eq_true rfl)⟩ ?_
  refine tw_aload_n C dL_law_1055 2 rfl rfl ?_
  obtain ⟨y267, hy267, hf⟩ := tw_bd hf
  refine tw_fVi (As := []) (stk := [.int y266.1]) (Wc := twM cI cZ r b9) (Wr := twT cI cZ q y266.2 ++ [(o, .inl (cJ, 1, .inr (.inl w)))]) (ws' := twLW cI cZ cJ q r o y266.2 y267.2 w) C (isC := [26, 27, 28, 29, 30, 31, 32, 33, 34, 35, 36, 37, 38, 39, 40]) (isR := [0, 1, 2, 3, 4, 5, 6, 7, 8, 9, 10, 11, 12, 13, 14, 15, 16, 17, 18, 19, 20, 21, 22, 23, 24, 25, 41]) (ix := [0, 1, 2, 3, 4, 5, 6, 7, 8, 9, 10, 11, 12, 13, 14, 15, 16, 17, 18, 19, 20, 21, 22, 23, 24, 25, 27, 28, 29, 30, 31, 32, 33, 34, 35, 36, 37, 38, 39, 40, 41, 26]) (ki := [0, 1]) ⟨rfl, rfl, rfl, rfl, by decide, rfl, rfl⟩ rfl (c_X8_alarm l dC dI cI cZ r hy267) (cwV 0 C.hts gL_law_X8_alarm rfl rfl rfl hd_X8_alarm ⟨Nat.le_of_ble_eq_true rfl, Nat.le_of_ble_eq_true rfl⟩) 26 (ci := 8) rfl rfl rfl rfl rfl (Nat.le_of_ble_eq_true rfl) dL_law_1056 ⟨Nat.le_trans (Nat.le_of_succ_le hc1) (Nat.le_of_ble_eq_true rfl), Nat.le_trans (Nat.le_trans (Nat.le_add_right _ 6) hc2) (Nat.le_of_ble_eq_true rfl)⟩ ?_
  refine tw_icmp_eq (tgt := 1270) C dL_law_1059 (by decide) (fun c268 => ?_) (fun c268 => ?_)
  · have hf := tw_pos hf c268
    refine tw_iinc (v := (v4 + 4)) (lv' := [(4, .int (v4 + 4)), (0, .ref b), (1, .ref (q 0)), (2, .ref (r 0)), (3, .ref o)]) C dL_law_1270 (k := 4) rfl rfl (by decide) rfl ?_
    refine tw_goto (tgt := 23) C dL_law_1273 (by decide) ?_
    refine tw_sub [1, 2, 3, 4, 0] rfl ?_
    refine tw_widen (Nat.le_add_right _ 1) (Nat.le_add_right _ 6) ?_
    exact hrec (v4 + 4) y266.2 y267.2 w hf
  · have hf := tw_neg hf c268
    refine tw_iconst (v := 0) C dL_law_1062 (by decide) ?_
    cases hf
set_option maxRecDepth 20000 in
theorem k_law_15 {p : Program} {l : Launch} {e : Env} {s : State} {m : MethodId} {args : Array Value} {below : List Frame} {meth : Method} {c : Code} {Q : State → Prop} {dC : Nat → ClassId} {dI : Nat → Nat → Nat} {cI cZ cJ : ClassId} {q r : Nat → Nat} {o b L nc ns : Nat} {xs : Nat → Int32} {A : Nat → Prop} {rec : Int32 → twS → twS → (Nat → Int64) → Option Int32} (C : twC p s m args meth c cL_law 7 RL wsL_law (dC, dI) (twY3 cI cZ cJ) A) (hE : ∀ (pc k n : Nat) (lv : List (Nat × Value)) (ws : va_W), decode cL_law pc = .ok (.ireturn, 1) → k ≤ 1070 → n ≤ 8788 → twG p l e room_1 s m args below meth c k n Q (dC, dI) A 7 ws pc lv [.int 1]) (hX : va_X b L xs s s.heap) (hbl : b < s.heap.size) (hbA : ¬ A b) (X0 : twXf A s s.heap) (hNc : twNcs s) (hl0 : l.stackTraces = false) (hc1 : nc + 1 ≤ 1070) (hc2 : ns + 6 ≤ 8788) (hrec : ∀ (v4 : Int32) (a b9 : twS) (w : Nat → Int64), rec v4 a b9 w = some 1 → twG p l e room_1 s m args below meth c (nc + 1) (ns + 6) Q (dC, dI) A 7 (twLW cI cZ cJ q r o a b9 w) 23 [(0, .ref b), (1, .ref (q 0)), (2, .ref (r 0)), (3, .ref o), (4, .int v4)] []) : ∀ (v4 : Int32) (a b9 : twS) (w : Nat → Int64), f_law_15 rec L xs v4 a b9 w = some 1 → twG p l e room_1 s m args below meth c nc ns Q (dC, dI) A 7 (twLW cI cZ cJ q r o a b9 w) 1064 [(0, .ref b), (1, .ref (q 0)), (2, .ref (r 0)), (3, .ref o), (4, .int v4)] [] := by
  intro v4 a b9 w hf
  unfold f_law_15 at hf
  refine tw_aload_n C dL_law_1064 1 rfl rfl ?_
  refine tw_aload_n C dL_law_1065 0 rfl rfl ?_
  refine tw_iload C dL_law_1066 4 rfl ?_
  refine tw_iconst (v := 1) C dL_law_1068 (by decide) ?_
  refine tw_iadd C dL_law_1069 ?_
  obtain ⟨hb269, hf⟩ := tw_ck hf
  refine tw_sld C hX hbl hbA hb269 dL_law_1070 ?_
  refine tw_aload_n C dL_law_1071 3 rfl rfl ?_
  obtain ⟨y270, hy270, hf⟩ := tw_bd hf
  refine tw_wS (As := [.ref (q 0), .int (xs (v4 + 1).toNatClampNeg), .ref o]) (stk := []) (Wc := twTO cI cZ cJ q o a w) (Wr := twM cI cZ r b9) (ws' := twLW cI cZ cJ q r o y270.2.1 b9 y270.2.2) C X0 hNc (isC := [0, 1, 2, 3, 4, 5, 6, 7, 8, 9, 10, 11, 12, 13, 14, 15, 16, 17, 18, 19, 20, 21, 22, 23, 24, 25, 41]) (isR := [26, 27, 28, 29, 30, 31, 32, 33, 34, 35, 36, 37, 38, 39, 40]) (ix := [15, 16, 17, 18, 19, 20, 21, 22, 23, 24, 25, 26, 27, 28, 29, 30, 31, 32, 33, 34, 35, 36, 37, 38, 39, 40, 0, 1, 2, 3, 4, 5, 6, 7, 8, 9, 10, 11, 12, 13, 14, 41]) (ki := [0, 1, 2]) ⟨rfl, rfl, rfl, rfl, by decide, rfl, rfl⟩ rfl (w_L_done l hl0 dC dI cI cZ cJ q o hy270) (vx_cwSW 3 C.hts gL_law_L_done rfl rfl rfl hd_L_done ⟨Nat.le_of_ble_eq_true rfl, Nat.le_of_ble_eq_true rfl⟩) rfl rfl (Nat.le_of_ble_eq_true rfl) dL_law_1072 ⟨Nat.le_trans hc1 (Nat.le_of_ble_eq_true rfl), Nat.le_trans hc2 (Nat.le_of_ble_eq_true rfl)⟩ ?_
  refine tw_istore (lv' := [(5, .int y270.1), (0, .ref b), (1, .ref (q 0)), (2, .ref (r 0)), (3, .ref o), (4, .int v4)]) C dL_law_1075 (by decide) rfl ?_
  refine tw_aload_n C dL_law_1077 3 rfl rfl ?_
  refine tw_aload_n C dL_law_1078 1 rfl rfl ?_
  refine tw_iload C dL_law_1079 5 rfl ?_
  refine tw_iconst (v := 1) C dL_law_1081 (by decide) ?_
  refine tw_iadd C dL_law_1082 ?_
  obtain ⟨hb271, hf⟩ := tw_ck hf
  refine tw_sld C hX hbl hbA hb271 dL_law_1083 ?_
  obtain ⟨y272, hy272, hf⟩ := tw_bd hf
  refine tw_fVi (As := [.int (xs (v4 + 1).toNatClampNeg)]) (stk := []) (Wc := twM cI cZ r b9) (Wr := twT cI cZ q y270.2.1 ++ [(o, .inl (cJ, 1, .inr (.inl y270.2.2)))]) (ws' := twLW cI cZ cJ q r o y270.2.1 y272.2 y270.2.2) C (isC := [26, 27, 28, 29, 30, 31, 32, 33, 34, 35, 36, 37, 38, 39, 40]) (isR := [0, 1, 2, 3, 4, 5, 6, 7, 8, 9, 10, 11, 12, 13, 14, 15, 16, 17, 18, 19, 20, 21, 22, 23, 24, 25, 41]) (ix := [0, 1, 2, 3, 4, 5, 6, 7, 8, 9, 10, 11, 12, 13, 14, 15, 16, 17, 18, 19, 20, 21, 22, 23, 24, 25, 27, 28, 29, 30, 31, 32, 33, 34, 35, 36, 37, 38, 39, 40, 41, 26]) (ki := [0, 1]) ⟨rfl, rfl, rfl, rfl, by decide, rfl, rfl⟩ rfl (c_X8_done l dC dI cI cZ r hy272) (cwV 1 C.hts gL_law_X8_done rfl rfl rfl hd_X8_done ⟨Nat.le_of_ble_eq_true rfl, Nat.le_of_ble_eq_true rfl⟩) 26 (ci := 8) rfl rfl rfl rfl rfl (Nat.le_of_ble_eq_true rfl) dL_law_1084 ⟨Nat.le_trans hc1 (Nat.le_of_ble_eq_true rfl), Nat.le_trans hc2 (Nat.le_of_ble_eq_true rfl)⟩ ?_
  refine tw_istore (lv' := [(6, .int y272.1), (5, .int y270.1), (0, .ref b), (1, .ref (q 0)), (2, .ref (r 0)), (3, .ref o), (4, .int v4)]) C dL_law_1087 (by decide) rfl ?_
  refine tw_aload_n C dL_law_1089 4 rfl rfl ?_
  obtain ⟨y273, hy273, hf⟩ := tw_bd hf
  refine tw_fVi (As := []) (stk := []) (Wc := twM cI cZ r y272.2) (Wr := twT cI cZ q y270.2.1 ++ [(o, .inl (cJ, 1, .inr (.inl y270.2.2)))]) (ws' := twLW cI cZ cJ q r o y270.2.1 y273.2 y270.2.2) C (isC := [26, 27, 28, 29, 30, 31, 32, 33, 34, 35, 36, 37, 38, 39, 40]) (isR := [0, 1, 2, 3, 4, 5, 6, 7, 8, 9, 10, 11, 12, 13, 14, 15, 16, 17, 18, 19, 20, 21, 22, 23, 24, 25, 41]) (ix := [0, 1, 2, 3, 4, 5, 6, 7, 8, 9, 10, 11, 12, 13, 14, 15, 16, 17, 18, 19, 20, 21, 22, 23, 24, 25, 27, 28, 29, 30, 31, 32, 33, 34, 35, 36, 37, 38, 39, 40, 41, 26]) (ki := [0, 1]) ⟨rfl, rfl, rfl, rfl, by decide, rfl, rfl⟩ rfl (c_X8_thrown l dC dI cI cZ r hy273) (cwV 0 C.hts gL_law_X8_thrown rfl rfl rfl hd_X8_thrown ⟨Nat.le_of_ble_eq_true rfl, Nat.le_of_ble_eq_true rfl⟩) 26 (ci := 8) rfl rfl rfl rfl rfl (Nat.le_of_ble_eq_true rfl) dL_law_1090 ⟨Nat.le_trans hc1 (Nat.le_of_ble_eq_true rfl), Nat.le_trans hc2 (Nat.le_of_ble_eq_true rfl)⟩ ?_
  refine tw_iload C dL_law_1093 1 rfl ?_
  refine tw_icmp_eq (tgt := 1100) C dL_law_1095 (by decide) (fun c274 => ?_) (fun c274 => ?_)
  · have hf := tw_pos hf c274
    refine tw_iload C dL_law_1100 1 rfl ?_
    refine tw_if_ne (tgt := 1117) C dL_law_1102 (by decide) (fun c275 => ?_) (fun c275 => ?_)
    · have hf := tw_neg hf c275
      refine tw_goto (tgt := 1270) C dL_law_1117 (by decide) ?_
      refine tw_iinc (v := (v4 + 4)) (lv' := [(4, .int (v4 + 4)), (6, .int y272.1), (5, .int y270.1), (0, .ref b), (1, .ref (q 0)), (2, .ref (r 0)), (3, .ref o)]) C dL_law_1270 (k := 6) rfl rfl (by decide) rfl ?_
      refine tw_goto (tgt := 23) C dL_law_1273 (by decide) ?_
      refine tw_sub [3, 4, 5, 6, 0] rfl ?_
      exact hrec (v4 + 4) y270.2.1 y273.2 y270.2.2 hf
    · have hf := tw_pos hf c275
      refine tw_aload_n C dL_law_1105 5 rfl rfl ?_
      refine tw_iconst (v := 0) C dL_law_1106 (by decide) ?_
      refine tw_lald C 41 2 (tw_in (i := 0) (n := 1) (by decide)) rfl rfl dL_law_1107 ?_
      refine tw_iload C dL_law_1108 0 rfl ?_
      refine tw_i2l C dL_law_1110 ?_
      refine tw_lcmp C dL_law_1111 ?_
      refine tw_if_eq (tgt := 1117) C dL_law_1112 (by decide) (fun c276 => ?_) (fun c276 => ?_)
      · have hf := tw_pos hf c276
        refine tw_goto (tgt := 1270) C dL_law_1117 (by decide) ?_
        refine tw_iinc (v := (v4 + 4)) (lv' := [(4, .int (v4 + 4)), (6, .int y272.1), (5, .int y270.1), (0, .ref b), (1, .ref (q 0)), (2, .ref (r 0)), (3, .ref o)]) C dL_law_1270 (k := 6) rfl rfl (by decide) rfl ?_
        refine tw_goto (tgt := 23) C dL_law_1273 (by decide) ?_
        refine tw_sub [3, 4, 5, 6, 0] rfl ?_
        exact hrec (v4 + 4) y270.2.1 y273.2 y270.2.2 hf
      · have hf := tw_neg hf c276
        refine tw_iconst (v := 0) C dL_law_1115 (by decide) ?_
        cases hf
  · have hf := tw_neg hf c274
    refine tw_iconst (v := 0) C dL_law_1098 (by decide) ?_
    cases hf
set_option maxRecDepth 20000 in
theorem k_law_16 {p : Program} {l : Launch} {e : Env} {s : State} {m : MethodId} {args : Array Value} {below : List Frame} {meth : Method} {c : Code} {Q : State → Prop} {dC : Nat → ClassId} {dI : Nat → Nat → Nat} {cI cZ cJ : ClassId} {q r : Nat → Nat} {o b L nc ns : Nat} {xs : Nat → Int32} {A : Nat → Prop} {rec : Int32 → twS → twS → (Nat → Int64) → Option Int32} (C : twC p s m args meth c cL_law 7 RL wsL_law (dC, dI) (twY3 cI cZ cJ) A) (hE : ∀ (pc k n : Nat) (lv : List (Nat × Value)) (ws : va_W), decode cL_law pc = .ok (.ireturn, 1) → k ≤ 1070 → n ≤ 8788 → twG p l e room_1 s m args below meth c k n Q (dC, dI) A 7 ws pc lv [.int 1]) (hX : va_X b L xs s s.heap) (hbl : b < s.heap.size) (hbA : ¬ A b) (X0 : twXf A s s.heap) (hNc : twNcs s) (hl0 : l.stackTraces = false) (hc1 : nc + 1 ≤ 1070) (hc2 : ns + 6 ≤ 8788) (hrec : ∀ (v4 : Int32) (a b9 : twS) (w : Nat → Int64), rec v4 a b9 w = some 1 → twG p l e room_1 s m args below meth c (nc + 1) (ns + 6) Q (dC, dI) A 7 (twLW cI cZ cJ q r o a b9 w) 23 [(0, .ref b), (1, .ref (q 0)), (2, .ref (r 0)), (3, .ref o), (4, .int v4)] []) : ∀ (v4 : Int32) (a b9 : twS) (w : Nat → Int64), f_law_16 rec L xs v4 a b9 w = some 1 → twG p l e room_1 s m args below meth c nc ns Q (dC, dI) A 7 (twLW cI cZ cJ q r o a b9 w) 1120 [(0, .ref b), (1, .ref (q 0)), (2, .ref (r 0)), (3, .ref o), (4, .int v4)] [] := by
  intro v4 a b9 w hf
  unfold f_law_16 at hf
  refine tw_aload_n C dL_law_1120 1 rfl rfl ?_
  refine tw_aload_n C dL_law_1121 0 rfl rfl ?_
  refine tw_iload C dL_law_1122 4 rfl ?_
  refine tw_iconst (v := 1) C dL_law_1124 (by decide) ?_
  refine tw_iadd C dL_law_1125 ?_
  obtain ⟨hb277, hf⟩ := tw_ck hf
  refine tw_sld C hX hbl hbA hb277 dL_law_1126 ?_
  refine tw_aload_n C dL_law_1127 0 rfl rfl ?_
  refine tw_iload C dL_law_1128 4 rfl ?_
  refine tw_iconst (v := 2) C dL_law_1130 (by decide) ?_
  refine tw_iadd C dL_law_1131 ?_
  obtain ⟨hb278, hf⟩ := tw_ck hf
  refine tw_sld C hX hbl hbA hb278 dL_law_1132 ?_
  refine tw_aload_n C dL_law_1133 3 rfl rfl ?_
  obtain ⟨y279, hy279, hf⟩ := tw_bd hf
  refine tw_wS (As := [.ref (q 0), .int (xs (v4 + 1).toNatClampNeg), .int (xs (v4 + 2).toNatClampNeg), .ref o]) (stk := []) (Wc := twTO cI cZ cJ q o a w) (Wr := twM cI cZ r b9) (ws' := twLW cI cZ cJ q r o y279.2.1 b9 y279.2.2) C X0 hNc (isC := [0, 1, 2, 3, 4, 5, 6, 7, 8, 9, 10, 11, 12, 13, 14, 15, 16, 17, 18, 19, 20, 21, 22, 23, 24, 25, 41]) (isR := [26, 27, 28, 29, 30, 31, 32, 33, 34, 35, 36, 37, 38, 39, 40]) (ix := [15, 16, 17, 18, 19, 20, 21, 22, 23, 24, 25, 26, 27, 28, 29, 30, 31, 32, 33, 34, 35, 36, 37, 38, 39, 40, 0, 1, 2, 3, 4, 5, 6, 7, 8, 9, 10, 11, 12, 13, 14, 41]) (ki := [0, 1, 2]) ⟨rfl, rfl, rfl, rfl, by decide, rfl, rfl⟩ rfl (w_L_person l hl0 dC dI cI cZ cJ q o hy279) (vx_cwSW 4 C.hts gL_law_L_person rfl rfl rfl hd_L_person ⟨Nat.le_of_ble_eq_true rfl, Nat.le_of_ble_eq_true rfl⟩) rfl rfl (Nat.le_of_ble_eq_true rfl) dL_law_1134 ⟨Nat.le_trans hc1 (Nat.le_of_ble_eq_true rfl), Nat.le_trans hc2 (Nat.le_of_ble_eq_true rfl)⟩ ?_
  refine tw_istore (lv' := [(5, .int y279.1), (0, .ref b), (1, .ref (q 0)), (2, .ref (r 0)), (3, .ref o), (4, .int v4)]) C dL_law_1137 (by decide) rfl ?_
  refine tw_aload_n C dL_law_1139 3 rfl rfl ?_
  refine tw_aload_n C dL_law_1140 1 rfl rfl ?_
  refine tw_iload C dL_law_1141 5 rfl ?_
  refine tw_iconst (v := 1) C dL_law_1143 (by decide) ?_
  refine tw_iadd C dL_law_1144 ?_
  obtain ⟨hb280, hf⟩ := tw_ck hf
  refine tw_sld C hX hbl hbA hb280 dL_law_1145 ?_
  refine tw_aload_n C dL_law_1146 1 rfl rfl ?_
  refine tw_iload C dL_law_1147 5 rfl ?_
  refine tw_iconst (v := 2) C dL_law_1149 (by decide) ?_
  refine tw_iadd C dL_law_1150 ?_
  obtain ⟨hb281, hf⟩ := tw_ck hf
  refine tw_sld C hX hbl hbA hb281 dL_law_1151 ?_
  obtain ⟨y282, hy282, hf⟩ := tw_bd hf
  refine tw_fVi (As := [.int (xs (v4 + 1).toNatClampNeg), .int (xs (v4 + 2).toNatClampNeg)]) (stk := []) (Wc := twM cI cZ r b9) (Wr := twT cI cZ q y279.2.1 ++ [(o, .inl (cJ, 1, .inr (.inl y279.2.2)))]) (ws' := twLW cI cZ cJ q r o y279.2.1 y282.2 y279.2.2) C (isC := [26, 27, 28, 29, 30, 31, 32, 33, 34, 35, 36, 37, 38, 39, 40]) (isR := [0, 1, 2, 3, 4, 5, 6, 7, 8, 9, 10, 11, 12, 13, 14, 15, 16, 17, 18, 19, 20, 21, 22, 23, 24, 25, 41]) (ix := [0, 1, 2, 3, 4, 5, 6, 7, 8, 9, 10, 11, 12, 13, 14, 15, 16, 17, 18, 19, 20, 21, 22, 23, 24, 25, 27, 28, 29, 30, 31, 32, 33, 34, 35, 36, 37, 38, 39, 40, 41, 26]) (ki := [0, 1]) ⟨rfl, rfl, rfl, rfl, by decide, rfl, rfl⟩ rfl (c_X8_person l dC dI cI cZ r hy282) (cwV 2 C.hts gL_law_X8_person rfl rfl rfl hd_X8_person ⟨Nat.le_of_ble_eq_true rfl, Nat.le_of_ble_eq_true rfl⟩) 26 (ci := 8) rfl rfl rfl rfl rfl (Nat.le_of_ble_eq_true rfl) dL_law_1152 ⟨Nat.le_trans hc1 (Nat.le_of_ble_eq_true rfl), Nat.le_trans hc2 (Nat.le_of_ble_eq_true rfl)⟩ ?_
  refine tw_istore (lv' := [(6, .int y282.1), (5, .int y279.1), (0, .ref b), (1, .ref (q 0)), (2, .ref (r 0)), (3, .ref o), (4, .int v4)]) C dL_law_1155 (by decide) rfl ?_
  refine tw_aload_n C dL_law_1157 4 rfl rfl ?_
  obtain ⟨y283, hy283, hf⟩ := tw_bd hf
  refine tw_fVi (As := []) (stk := []) (Wc := twM cI cZ r y282.2) (Wr := twT cI cZ q y279.2.1 ++ [(o, .inl (cJ, 1, .inr (.inl y279.2.2)))]) (ws' := twLW cI cZ cJ q r o y279.2.1 y283.2 y279.2.2) C (isC := [26, 27, 28, 29, 30, 31, 32, 33, 34, 35, 36, 37, 38, 39, 40]) (isR := [0, 1, 2, 3, 4, 5, 6, 7, 8, 9, 10, 11, 12, 13, 14, 15, 16, 17, 18, 19, 20, 21, 22, 23, 24, 25, 41]) (ix := [0, 1, 2, 3, 4, 5, 6, 7, 8, 9, 10, 11, 12, 13, 14, 15, 16, 17, 18, 19, 20, 21, 22, 23, 24, 25, 27, 28, 29, 30, 31, 32, 33, 34, 35, 36, 37, 38, 39, 40, 41, 26]) (ki := [0, 1]) ⟨rfl, rfl, rfl, rfl, by decide, rfl, rfl⟩ rfl (c_X8_thrown l dC dI cI cZ r hy283) (cwV 0 C.hts gL_law_X8_thrown rfl rfl rfl hd_X8_thrown ⟨Nat.le_of_ble_eq_true rfl, Nat.le_of_ble_eq_true rfl⟩) 26 (ci := 8) rfl rfl rfl rfl rfl (Nat.le_of_ble_eq_true rfl) dL_law_1158 ⟨Nat.le_trans hc1 (Nat.le_of_ble_eq_true rfl), Nat.le_trans hc2 (Nat.le_of_ble_eq_true rfl)⟩ ?_
  refine tw_iload C dL_law_1161 1 rfl ?_
  refine tw_icmp_eq (tgt := 1168) C dL_law_1163 (by decide) (fun c284 => ?_) (fun c284 => ?_)
  · have hf := tw_pos hf c284
    refine tw_iload C dL_law_1168 1 rfl ?_
    refine tw_if_ne (tgt := 1185) C dL_law_1170 (by decide) (fun c285 => ?_) (fun c285 => ?_)
    · have hf := tw_neg hf c285
      refine tw_goto (tgt := 1270) C dL_law_1185 (by decide) ?_
      refine tw_iinc (v := (v4 + 4)) (lv' := [(4, .int (v4 + 4)), (6, .int y282.1), (5, .int y279.1), (0, .ref b), (1, .ref (q 0)), (2, .ref (r 0)), (3, .ref o)]) C dL_law_1270 (k := 6) rfl rfl (by decide) rfl ?_
      refine tw_goto (tgt := 23) C dL_law_1273 (by decide) ?_
      refine tw_sub [3, 4, 5, 6, 0] rfl ?_
      exact hrec (v4 + 4) y279.2.1 y283.2 y279.2.2 hf
    · have hf := tw_pos hf c285
      refine tw_aload_n C dL_law_1173 5 rfl rfl ?_
      refine tw_iconst (v := 0) C dL_law_1174 (by decide) ?_
      refine tw_lald C 41 2 (tw_in (i := 0) (n := 1) (by decide)) rfl rfl dL_law_1175 ?_
      refine tw_iload C dL_law_1176 0 rfl ?_
      refine tw_i2l C dL_law_1178 ?_
      refine tw_lcmp C dL_law_1179 ?_
      refine tw_if_eq (tgt := 1185) C dL_law_1180 (by decide) (fun c286 => ?_) (fun c286 => ?_)
      · have hf := tw_pos hf c286
        refine tw_goto (tgt := 1270) C dL_law_1185 (by decide) ?_
        refine tw_iinc (v := (v4 + 4)) (lv' := [(4, .int (v4 + 4)), (6, .int y282.1), (5, .int y279.1), (0, .ref b), (1, .ref (q 0)), (2, .ref (r 0)), (3, .ref o)]) C dL_law_1270 (k := 6) rfl rfl (by decide) rfl ?_
        refine tw_goto (tgt := 23) C dL_law_1273 (by decide) ?_
        refine tw_sub [3, 4, 5, 6, 0] rfl ?_
        exact hrec (v4 + 4) y279.2.1 y283.2 y279.2.2 hf
      · have hf := tw_neg hf c286
        refine tw_iconst (v := 0) C dL_law_1183 (by decide) ?_
        cases hf
  · have hf := tw_neg hf c284
    refine tw_iconst (v := 0) C dL_law_1166 (by decide) ?_
    cases hf
set_option maxRecDepth 20000 in
theorem k_law_17 {p : Program} {l : Launch} {e : Env} {s : State} {m : MethodId} {args : Array Value} {below : List Frame} {meth : Method} {c : Code} {Q : State → Prop} {dC : Nat → ClassId} {dI : Nat → Nat → Nat} {cI cZ cJ : ClassId} {q r : Nat → Nat} {o b L nc ns : Nat} {xs : Nat → Int32} {A : Nat → Prop} {rec : Int32 → twS → twS → (Nat → Int64) → Option Int32} (C : twC p s m args meth c cL_law 7 RL wsL_law (dC, dI) (twY3 cI cZ cJ) A) (hE : ∀ (pc k n : Nat) (lv : List (Nat × Value)) (ws : va_W), decode cL_law pc = .ok (.ireturn, 1) → k ≤ 1070 → n ≤ 8788 → twG p l e room_1 s m args below meth c k n Q (dC, dI) A 7 ws pc lv [.int 1]) (hX : va_X b L xs s s.heap) (hbl : b < s.heap.size) (hbA : ¬ A b) (X0 : twXf A s s.heap) (hNc : twNcs s) (hl0 : l.stackTraces = false) (hc1 : nc + 1 ≤ 1070) (hc2 : ns + 6 ≤ 8788) (hrec : ∀ (v4 : Int32) (a b9 : twS) (w : Nat → Int64), rec v4 a b9 w = some 1 → twG p l e room_1 s m args below meth c (nc + 1) (ns + 6) Q (dC, dI) A 7 (twLW cI cZ cJ q r o a b9 w) 23 [(0, .ref b), (1, .ref (q 0)), (2, .ref (r 0)), (3, .ref o), (4, .int v4)] []) : ∀ (v4 : Int32) (a b9 : twS) (w : Nat → Int64), f_law_17 rec L xs v4 a b9 w = some 1 → twG p l e room_1 s m args below meth c nc ns Q (dC, dI) A 7 (twLW cI cZ cJ q r o a b9 w) 1188 [(0, .ref b), (1, .ref (q 0)), (2, .ref (r 0)), (3, .ref o), (4, .int v4)] [] := by
  intro v4 a b9 w hf
  unfold f_law_17 at hf
  refine tw_aload_n C dL_law_1188 1 rfl rfl ?_
  refine tw_aload_n C dL_law_1189 0 rfl rfl ?_
  refine tw_iload C dL_law_1190 4 rfl ?_
  refine tw_iconst (v := 1) C dL_law_1192 (by decide) ?_
  refine tw_iadd C dL_law_1193 ?_
  obtain ⟨hb287, hf⟩ := tw_ck hf
  refine tw_sld C hX hbl hbA hb287 dL_law_1194 ?_
  refine tw_aload_n C dL_law_1195 3 rfl rfl ?_
  obtain ⟨y288, hy288, hf⟩ := tw_bd hf
  refine tw_wS (As := [.ref (q 0), .int (xs (v4 + 1).toNatClampNeg), .ref o]) (stk := []) (Wc := twTO cI cZ cJ q o a w) (Wr := twM cI cZ r b9) (ws' := twLW cI cZ cJ q r o y288.2.1 b9 y288.2.2) C X0 hNc (isC := [0, 1, 2, 3, 4, 5, 6, 7, 8, 9, 10, 11, 12, 13, 14, 15, 16, 17, 18, 19, 20, 21, 22, 23, 24, 25, 41]) (isR := [26, 27, 28, 29, 30, 31, 32, 33, 34, 35, 36, 37, 38, 39, 40]) (ix := [15, 16, 17, 18, 19, 20, 21, 22, 23, 24, 25, 26, 27, 28, 29, 30, 31, 32, 33, 34, 35, 36, 37, 38, 39, 40, 0, 1, 2, 3, 4, 5, 6, 7, 8, 9, 10, 11, 12, 13, 14, 41]) (ki := [0, 1, 2]) ⟨rfl, rfl, rfl, rfl, by decide, rfl, rfl⟩ rfl (w_L_count l hl0 dC dI cI cZ cJ q o hy288) (vx_cwSW 3 C.hts gL_law_L_count rfl rfl rfl hd_L_count ⟨Nat.le_of_ble_eq_true rfl, Nat.le_of_ble_eq_true rfl⟩) rfl rfl (Nat.le_of_ble_eq_true rfl) dL_law_1196 ⟨Nat.le_trans hc1 (Nat.le_of_ble_eq_true rfl), Nat.le_trans hc2 (Nat.le_of_ble_eq_true rfl)⟩ ?_
  refine tw_istore (lv' := [(5, .int y288.1), (0, .ref b), (1, .ref (q 0)), (2, .ref (r 0)), (3, .ref o), (4, .int v4)]) C dL_law_1199 (by decide) rfl ?_
  refine tw_aload_n C dL_law_1201 3 rfl rfl ?_
  refine tw_aload_n C dL_law_1202 1 rfl rfl ?_
  refine tw_iload C dL_law_1203 5 rfl ?_
  refine tw_iconst (v := 1) C dL_law_1205 (by decide) ?_
  refine tw_iadd C dL_law_1206 ?_
  obtain ⟨hb289, hf⟩ := tw_ck hf
  refine tw_sld C hX hbl hbA hb289 dL_law_1207 ?_
  obtain ⟨y290, hy290, hf⟩ := tw_bd hf
  refine tw_fVi (As := [.int (xs (v4 + 1).toNatClampNeg)]) (stk := []) (Wc := twM cI cZ r b9) (Wr := twT cI cZ q y288.2.1 ++ [(o, .inl (cJ, 1, .inr (.inl y288.2.2)))]) (ws' := twLW cI cZ cJ q r o y288.2.1 y290.2 y288.2.2) C (isC := [26, 27, 28, 29, 30, 31, 32, 33, 34, 35, 36, 37, 38, 39, 40]) (isR := [0, 1, 2, 3, 4, 5, 6, 7, 8, 9, 10, 11, 12, 13, 14, 15, 16, 17, 18, 19, 20, 21, 22, 23, 24, 25, 41]) (ix := [0, 1, 2, 3, 4, 5, 6, 7, 8, 9, 10, 11, 12, 13, 14, 15, 16, 17, 18, 19, 20, 21, 22, 23, 24, 25, 27, 28, 29, 30, 31, 32, 33, 34, 35, 36, 37, 38, 39, 40, 41, 26]) (ki := [0, 1]) ⟨rfl, rfl, rfl, rfl, by decide, rfl, rfl⟩ rfl (c_X8_count l dC dI cI cZ r hy290) (cwV 1 C.hts gL_law_X8_count rfl rfl rfl hd_X8_count ⟨Nat.le_of_ble_eq_true rfl, Nat.le_of_ble_eq_true rfl⟩) 26 (ci := 8) rfl rfl rfl rfl rfl (Nat.le_of_ble_eq_true rfl) dL_law_1208 ⟨Nat.le_trans hc1 (Nat.le_of_ble_eq_true rfl), Nat.le_trans hc2 (Nat.le_of_ble_eq_true rfl)⟩ ?_
  refine tw_istore (lv' := [(6, .int y290.1), (5, .int y288.1), (0, .ref b), (1, .ref (q 0)), (2, .ref (r 0)), (3, .ref o), (4, .int v4)]) C dL_law_1211 (by decide) rfl ?_
  refine tw_aload_n C dL_law_1213 4 rfl rfl ?_
  obtain ⟨y291, hy291, hf⟩ := tw_bd hf
  refine tw_fVi (As := []) (stk := []) (Wc := twM cI cZ r y290.2) (Wr := twT cI cZ q y288.2.1 ++ [(o, .inl (cJ, 1, .inr (.inl y288.2.2)))]) (ws' := twLW cI cZ cJ q r o y288.2.1 y291.2 y288.2.2) C (isC := [26, 27, 28, 29, 30, 31, 32, 33, 34, 35, 36, 37, 38, 39, 40]) (isR := [0, 1, 2, 3, 4, 5, 6, 7, 8, 9, 10, 11, 12, 13, 14, 15, 16, 17, 18, 19, 20, 21, 22, 23, 24, 25, 41]) (ix := [0, 1, 2, 3, 4, 5, 6, 7, 8, 9, 10, 11, 12, 13, 14, 15, 16, 17, 18, 19, 20, 21, 22, 23, 24, 25, 27, 28, 29, 30, 31, 32, 33, 34, 35, 36, 37, 38, 39, 40, 41, 26]) (ki := [0, 1]) ⟨rfl, rfl, rfl, rfl, by decide, rfl, rfl⟩ rfl (c_X8_thrown l dC dI cI cZ r hy291) (cwV 0 C.hts gL_law_X8_thrown rfl rfl rfl hd_X8_thrown ⟨Nat.le_of_ble_eq_true rfl, Nat.le_of_ble_eq_true rfl⟩) 26 (ci := 8) rfl rfl rfl rfl rfl (Nat.le_of_ble_eq_true rfl) dL_law_1214 ⟨Nat.le_trans hc1 (Nat.le_of_ble_eq_true rfl), Nat.le_trans hc2 (Nat.le_of_ble_eq_true rfl)⟩ ?_
  refine tw_iload C dL_law_1217 1 rfl ?_
  refine tw_icmp_eq (tgt := 1224) C dL_law_1219 (by decide) (fun c292 => ?_) (fun c292 => ?_)
  · have hf := tw_pos hf c292
    refine tw_iload C dL_law_1224 1 rfl ?_
    refine tw_if_ne (tgt := 1241) C dL_law_1226 (by decide) (fun c293 => ?_) (fun c293 => ?_)
    · have hf := tw_neg hf c293
      refine tw_goto (tgt := 1270) C dL_law_1241 (by decide) ?_
      refine tw_iinc (v := (v4 + 4)) (lv' := [(4, .int (v4 + 4)), (6, .int y290.1), (5, .int y288.1), (0, .ref b), (1, .ref (q 0)), (2, .ref (r 0)), (3, .ref o)]) C dL_law_1270 (k := 6) rfl rfl (by decide) rfl ?_
      refine tw_goto (tgt := 23) C dL_law_1273 (by decide) ?_
      refine tw_sub [3, 4, 5, 6, 0] rfl ?_
      exact hrec (v4 + 4) y288.2.1 y291.2 y288.2.2 hf
    · have hf := tw_pos hf c293
      refine tw_aload_n C dL_law_1229 5 rfl rfl ?_
      refine tw_iconst (v := 0) C dL_law_1230 (by decide) ?_
      refine tw_lald C 41 2 (tw_in (i := 0) (n := 1) (by decide)) rfl rfl dL_law_1231 ?_
      refine tw_iload C dL_law_1232 0 rfl ?_
      refine tw_i2l C dL_law_1234 ?_
      refine tw_lcmp C dL_law_1235 ?_
      refine tw_if_eq (tgt := 1241) C dL_law_1236 (by decide) (fun c294 => ?_) (fun c294 => ?_)
      · have hf := tw_pos hf c294
        refine tw_goto (tgt := 1270) C dL_law_1241 (by decide) ?_
        refine tw_iinc (v := (v4 + 4)) (lv' := [(4, .int (v4 + 4)), (6, .int y290.1), (5, .int y288.1), (0, .ref b), (1, .ref (q 0)), (2, .ref (r 0)), (3, .ref o)]) C dL_law_1270 (k := 6) rfl rfl (by decide) rfl ?_
        refine tw_goto (tgt := 23) C dL_law_1273 (by decide) ?_
        refine tw_sub [3, 4, 5, 6, 0] rfl ?_
        exact hrec (v4 + 4) y288.2.1 y291.2 y288.2.2 hf
      · have hf := tw_neg hf c294
        refine tw_iconst (v := 0) C dL_law_1239 (by decide) ?_
        cases hf
  · have hf := tw_neg hf c292
    refine tw_iconst (v := 0) C dL_law_1222 (by decide) ?_
    cases hf
set_option maxRecDepth 20000 in
theorem k_law_18 {p : Program} {l : Launch} {e : Env} {s : State} {m : MethodId} {args : Array Value} {below : List Frame} {meth : Method} {c : Code} {Q : State → Prop} {dC : Nat → ClassId} {dI : Nat → Nat → Nat} {cI cZ cJ : ClassId} {q r : Nat → Nat} {o b L nc ns : Nat} {xs : Nat → Int32} {A : Nat → Prop} {rec : Int32 → twS → twS → (Nat → Int64) → Option Int32} (C : twC p s m args meth c cL_law 7 RL wsL_law (dC, dI) (twY3 cI cZ cJ) A) (hE : ∀ (pc k n : Nat) (lv : List (Nat × Value)) (ws : va_W), decode cL_law pc = .ok (.ireturn, 1) → k ≤ 1070 → n ≤ 8788 → twG p l e room_1 s m args below meth c k n Q (dC, dI) A 7 ws pc lv [.int 1]) (hX : va_X b L xs s s.heap) (hbl : b < s.heap.size) (hbA : ¬ A b) (X0 : twXf A s s.heap) (hNc : twNcs s) (hl0 : l.stackTraces = false) (hc1 : nc + 1 ≤ 1070) (hc2 : ns + 6 ≤ 8788) (hrec : ∀ (v4 : Int32) (a b9 : twS) (w : Nat → Int64), rec v4 a b9 w = some 1 → twG p l e room_1 s m args below meth c (nc + 1) (ns + 6) Q (dC, dI) A 7 (twLW cI cZ cJ q r o a b9 w) 23 [(0, .ref b), (1, .ref (q 0)), (2, .ref (r 0)), (3, .ref o), (4, .int v4)] []) : ∀ (v4 : Int32) (a b9 : twS) (w : Nat → Int64), f_law_18 rec L xs v4 a b9 w = some 1 → twG p l e room_1 s m args below meth c nc ns Q (dC, dI) A 7 (twLW cI cZ cJ q r o a b9 w) 1244 [(0, .ref b), (1, .ref (q 0)), (2, .ref (r 0)), (3, .ref o), (4, .int v4)] [] := by
  intro v4 a b9 w hf
  unfold f_law_18 at hf
  refine tw_aload_n C dL_law_1244 1 rfl rfl ?_
  obtain ⟨y295, hy295, hf⟩ := tw_bd hf
  refine tw_fVi (As := []) (stk := []) (Wc := twT cI cZ q a) (Wr := twM cI cZ r b9 ++ [(o, .inl (cJ, 1, .inr (.inl w)))]) (ws' := twLW cI cZ cJ q r o y295.2 b9 w) C (isC := [0, 1, 2, 3, 4, 5, 6, 7, 8, 9, 10, 11, 12, 13, 14, 15, 16, 17, 18, 19, 20, 21, 22, 23, 24, 25]) (isR := [26, 27, 28, 29, 30, 31, 32, 33, 34, 35, 36, 37, 38, 39, 40, 41]) (ix := [16, 17, 18, 19, 20, 21, 22, 23, 24, 25, 26, 27, 28, 29, 30, 31, 32, 33, 34, 35, 36, 37, 38, 39, 40, 41, 0, 1, 2, 3, 4, 5, 6, 7, 8, 9, 10, 11, 12, 13, 14, 15]) (ki := [0, 1]) ⟨rfl, rfl, rfl, rfl, by decide, rfl, rfl⟩ rfl (c_X7_gone l dC dI cI cZ q hy295) (cwV 0 C.hts gL_law_X7_gone rfl rfl rfl hd_X7_gone ⟨Nat.le_of_ble_eq_true rfl, Nat.le_of_ble_eq_true rfl⟩) 0 (ci := 7) rfl rfl rfl rfl rfl (Nat.le_of_ble_eq_true rfl) dL_law_1245 ⟨Nat.le_trans (Nat.le_of_succ_le hc1) (Nat.le_of_ble_eq_true rfl), Nat.le_trans (Nat.le_trans (Nat.le_add_right _ 6) hc2) (Nat.le_of_ble_eq_true rfl)⟩ ?_
  refine tw_aload_n C dL_law_1248 2 rfl rfl ?_
  obtain ⟨y296, hy296, hf⟩ := tw_bd hf
  refine tw_fVi (As := []) (stk := [.int y295.1]) (Wc := twM cI cZ r b9) (Wr := twT cI cZ q y295.2 ++ [(o, .inl (cJ, 1, .inr (.inl w)))]) (ws' := twLW cI cZ cJ q r o y295.2 y296.2 w) C (isC := [26, 27, 28, 29, 30, 31, 32, 33, 34, 35, 36, 37, 38, 39, 40]) (isR := [0, 1, 2, 3, 4, 5, 6, 7, 8, 9, 10, 11, 12, 13, 14, 15, 16, 17, 18, 19, 20, 21, 22, 23, 24, 25, 41]) (ix := [0, 1, 2, 3, 4, 5, 6, 7, 8, 9, 10, 11, 12, 13, 14, 15, 16, 17, 18, 19, 20, 21, 22, 23, 24, 25, 27, 28, 29, 30, 31, 32, 33, 34, 35, 36, 37, 38, 39, 40, 41, 26]) (ki := [0, 1]) ⟨rfl, rfl, rfl, rfl, by decide, rfl, rfl⟩ rfl (c_X8_gone l dC dI cI cZ r hy296) (cwV 0 C.hts gL_law_X8_gone rfl rfl rfl hd_X8_gone ⟨Nat.le_of_ble_eq_true rfl, Nat.le_of_ble_eq_true rfl⟩) 26 (ci := 8) rfl rfl rfl rfl rfl (Nat.le_of_ble_eq_true rfl) dL_law_1249 ⟨Nat.le_trans (Nat.le_of_succ_le hc1) (Nat.le_of_ble_eq_true rfl), Nat.le_trans (Nat.le_trans (Nat.le_add_right _ 6) hc2) (Nat.le_of_ble_eq_true rfl)⟩ ?_
  refine tw_icmp_eq (tgt := 1270) C dL_law_1252 (by decide) (fun c297 => ?_) (fun c297 => ?_)
  · have hf := tw_pos hf c297
    refine tw_iinc (v := (v4 + 4)) (lv' := [(4, .int (v4 + 4)), (0, .ref b), (1, .ref (q 0)), (2, .ref (r 0)), (3, .ref o)]) C dL_law_1270 (k := 4) rfl rfl (by decide) rfl ?_
    refine tw_goto (tgt := 23) C dL_law_1273 (by decide) ?_
    refine tw_sub [1, 2, 3, 4, 0] rfl ?_
    refine tw_widen (Nat.le_add_right _ 1) (Nat.le_add_right _ 6) ?_
    exact hrec (v4 + 4) y295.2 y296.2 w hf
  · have hf := tw_neg hf c297
    refine tw_iconst (v := 0) C dL_law_1255 (by decide) ?_
    cases hf
set_option maxRecDepth 20000 in
theorem k_law_19 {p : Program} {l : Launch} {e : Env} {s : State} {m : MethodId} {args : Array Value} {below : List Frame} {meth : Method} {c : Code} {Q : State → Prop} {dC : Nat → ClassId} {dI : Nat → Nat → Nat} {cI cZ cJ : ClassId} {q r : Nat → Nat} {o b L nc ns : Nat} {xs : Nat → Int32} {A : Nat → Prop} {rec : Int32 → twS → twS → (Nat → Int64) → Option Int32} (C : twC p s m args meth c cL_law 7 RL wsL_law (dC, dI) (twY3 cI cZ cJ) A) (hE : ∀ (pc k n : Nat) (lv : List (Nat × Value)) (ws : va_W), decode cL_law pc = .ok (.ireturn, 1) → k ≤ 1070 → n ≤ 8788 → twG p l e room_1 s m args below meth c k n Q (dC, dI) A 7 ws pc lv [.int 1]) (hX : va_X b L xs s s.heap) (hbl : b < s.heap.size) (hbA : ¬ A b) (X0 : twXf A s s.heap) (hNc : twNcs s) (hl0 : l.stackTraces = false) (hc1 : nc + 1 ≤ 1070) (hc2 : ns + 6 ≤ 8788) (hrec : ∀ (v4 : Int32) (a b9 : twS) (w : Nat → Int64), rec v4 a b9 w = some 1 → twG p l e room_1 s m args below meth c (nc + 1) (ns + 6) Q (dC, dI) A 7 (twLW cI cZ cJ q r o a b9 w) 23 [(0, .ref b), (1, .ref (q 0)), (2, .ref (r 0)), (3, .ref o), (4, .int v4)] []) : ∀ (v4 : Int32) (a b9 : twS) (w : Nat → Int64), f_law_19 rec L xs v4 a b9 w = some 1 → twG p l e room_1 s m args below meth c nc ns Q (dC, dI) A 7 (twLW cI cZ cJ q r o a b9 w) 1257 [(0, .ref b), (1, .ref (q 0)), (2, .ref (r 0)), (3, .ref o), (4, .int v4)] [] := by
  intro v4 a b9 w hf
  unfold f_law_19 at hf
  refine tw_aload_n C dL_law_1257 1 rfl rfl ?_
  obtain ⟨y298, hy298, hf⟩ := tw_bd hf
  refine tw_fVi (As := []) (stk := []) (Wc := twT cI cZ q a) (Wr := twM cI cZ r b9 ++ [(o, .inl (cJ, 1, .inr (.inl w)))]) (ws' := twLW cI cZ cJ q r o y298.2 b9 w) C (isC := [0, 1, 2, 3, 4, 5, 6, 7, 8, 9, 10, 11, 12, 13, 14, 15, 16, 17, 18, 19, 20, 21, 22, 23, 24, 25]) (isR := [26, 27, 28, 29, 30, 31, 32, 33, 34, 35, 36, 37, 38, 39, 40, 41]) (ix := [16, 17, 18, 19, 20, 21, 22, 23, 24, 25, 26, 27, 28, 29, 30, 31, 32, 33, 34, 35, 36, 37, 38, 39, 40, 41, 0, 1, 2, 3, 4, 5, 6, 7, 8, 9, 10, 11, 12, 13, 14, 15]) (ki := [0, 1]) ⟨rfl, rfl, rfl, rfl, by decide, rfl, rfl⟩ rfl (c_X7_balances l dC dI cI cZ q hy298) (cwV 0 C.hts gL_law_X7_balances rfl rfl rfl hd_X7_balances ⟨Nat.le_of_ble_eq_true rfl, Nat.le_of_ble_eq_true rfl⟩) 0 (ci := 7) rfl rfl rfl rfl rfl (Nat.le_of_ble_eq_true rfl) dL_law_1258 ⟨Nat.le_trans (Nat.le_of_succ_le hc1) (Nat.le_of_ble_eq_true rfl), Nat.le_trans (Nat.le_trans (Nat.le_add_right _ 6) hc2) (Nat.le_of_ble_eq_true rfl)⟩ ?_
  refine tw_aload_n C dL_law_1261 2 rfl rfl ?_
  obtain ⟨y299, hy299, hf⟩ := tw_bd hf
  refine tw_fVi (As := []) (stk := [.int y298.1]) (Wc := twM cI cZ r b9) (Wr := twT cI cZ q y298.2 ++ [(o, .inl (cJ, 1, .inr (.inl w)))]) (ws' := twLW cI cZ cJ q r o y298.2 y299.2 w) C (isC := [26, 27, 28, 29, 30, 31, 32, 33, 34, 35, 36, 37, 38, 39, 40]) (isR := [0, 1, 2, 3, 4, 5, 6, 7, 8, 9, 10, 11, 12, 13, 14, 15, 16, 17, 18, 19, 20, 21, 22, 23, 24, 25, 41]) (ix := [0, 1, 2, 3, 4, 5, 6, 7, 8, 9, 10, 11, 12, 13, 14, 15, 16, 17, 18, 19, 20, 21, 22, 23, 24, 25, 27, 28, 29, 30, 31, 32, 33, 34, 35, 36, 37, 38, 39, 40, 41, 26]) (ki := [0, 1]) ⟨rfl, rfl, rfl, rfl, by decide, rfl, rfl⟩ rfl (c_X8_balances l dC dI cI cZ r hy299) (cwV 0 C.hts gL_law_X8_balances rfl rfl rfl hd_X8_balances ⟨Nat.le_of_ble_eq_true rfl, Nat.le_of_ble_eq_true rfl⟩) 26 (ci := 8) rfl rfl rfl rfl rfl (Nat.le_of_ble_eq_true rfl) dL_law_1262 ⟨Nat.le_trans (Nat.le_of_succ_le hc1) (Nat.le_of_ble_eq_true rfl), Nat.le_trans (Nat.le_trans (Nat.le_add_right _ 6) hc2) (Nat.le_of_ble_eq_true rfl)⟩ ?_
  refine tw_icmp_eq (tgt := 1270) C dL_law_1265 (by decide) (fun c300 => ?_) (fun c300 => ?_)
  · have hf := tw_pos hf c300
    refine tw_iinc (v := (v4 + 4)) (lv' := [(4, .int (v4 + 4)), (0, .ref b), (1, .ref (q 0)), (2, .ref (r 0)), (3, .ref o)]) C dL_law_1270 (k := 4) rfl rfl (by decide) rfl ?_
    refine tw_goto (tgt := 23) C dL_law_1273 (by decide) ?_
    refine tw_sub [1, 2, 3, 4, 0] rfl ?_
    refine tw_widen (Nat.le_add_right _ 1) (Nat.le_add_right _ 6) ?_
    exact hrec (v4 + 4) y298.2 y299.2 w hf
  · have hf := tw_neg hf c300
    refine tw_iconst (v := 0) C dL_law_1268 (by decide) ?_
    cases hf
set_option maxRecDepth 20000 in
theorem k_law_b {p : Program} {l : Launch} {e : Env} {s : State} {m : MethodId} {args : Array Value} {below : List Frame} {meth : Method} {c : Code} {Q : State → Prop} {dC : Nat → ClassId} {dI : Nat → Nat → Nat} {cI cZ cJ : ClassId} {q r : Nat → Nat} {o b L nc ns : Nat} {xs : Nat → Int32} {A : Nat → Prop} {rec : Int32 → twS → twS → (Nat → Int64) → Option Int32} (C : twC p s m args meth c cL_law 7 RL wsL_law (dC, dI) (twY3 cI cZ cJ) A) (hE : ∀ (pc k n : Nat) (lv : List (Nat × Value)) (ws : va_W), decode cL_law pc = .ok (.ireturn, 1) → k ≤ 1070 → n ≤ 8788 → twG p l e room_1 s m args below meth c k n Q (dC, dI) A 7 ws pc lv [.int 1]) (hX : va_X b L xs s s.heap) (hbl : b < s.heap.size) (hbA : ¬ A b) (X0 : twXf A s s.heap) (hNc : twNcs s) (hl0 : l.stackTraces = false) (hc1 : nc + 1 ≤ 1070) (hc2 : ns + 6 ≤ 8788) (hrec : ∀ (v4 : Int32) (a b9 : twS) (w : Nat → Int64), rec v4 a b9 w = some 1 → twG p l e room_1 s m args below meth c (nc + 1) (ns + 6) Q (dC, dI) A 7 (twLW cI cZ cJ q r o a b9 w) 23 [(0, .ref b), (1, .ref (q 0)), (2, .ref (r 0)), (3, .ref o), (4, .int v4)] []) : ∀ (v4 : Int32) (a b9 : twS) (w : Nat → Int64), f_law_b rec L xs v4 a b9 w = some 1 → twG p l e room_1 s m args below meth c nc ns Q (dC, dI) A 7 (twLW cI cZ cJ q r o a b9 w) 23 [(0, .ref b), (1, .ref (q 0)), (2, .ref (r 0)), (3, .ref o), (4, .int v4)] [] := by
  intro v4 a b9 w hf
  unfold f_law_b at hf
  refine tw_iload C dL_law_23 4 rfl ?_
  refine tw_aload_n C dL_law_25 0 rfl rfl ?_
  refine tw_slen C hX hbl hbA dL_law_26 ?_
  refine tw_iconst (v := 4) C dL_law_27 (by decide) ?_
  refine tw_isub C dL_law_28 ?_
  refine tw_icmp_gt (tgt := 1276) C dL_law_29 (by decide) (fun c1 => ?_) (fun c1 => ?_)
  · have hf := tw_pos hf c1
    refine tw_iconst (v := 1) C dL_law_1276 (by decide) ?_
    exact hE _ _ _ _ _ dL_law_1277 (Nat.le_of_succ_le hc1) (Nat.le_trans (Nat.le_add_right _ 6) hc2)
  · have hf := tw_neg hf c1
    refine tw_aload_n C dL_law_32 0 rfl rfl ?_
    refine tw_iload C dL_law_33 4 rfl ?_
    obtain ⟨hb2, hf⟩ := tw_ck hf
    refine tw_sld C hX hbl hbA hb2 dL_law_35 ?_
    refine tw_bipush (v := 31) C dL_law_36 (by decide) ?_
    refine tw_iand C dL_law_38 ?_
    by_cases c3 : ((xs v4.toNatClampNeg) &&& 31) = 0
    · have hf := tw_pos hf c3
      refine tw_tableIn (tgt := 132) C dL_law_39 (by rw [c3]; decide) (by rw [c3]; decide) (by rw [c3]; rfl) (by decide) ?_
      exact k_law_0 C hE hX hbl hbA X0 hNc hl0 hc1 hc2 hrec v4 a b9 w hf
    have hf := tw_neg hf c3
    by_cases c4 : ((xs v4.toNatClampNeg) &&& 31) = 1
    · have hf := tw_pos hf c4
      refine tw_tableIn (tgt := 180) C dL_law_39 (by rw [c4]; decide) (by rw [c4]; decide) (by rw [c4]; rfl) (by decide) ?_
      exact k_law_1 C hE hX hbl hbA X0 hNc hl0 hc1 hc2 hrec v4 a b9 w hf
    have hf := tw_neg hf c4
    by_cases c5 : ((xs v4.toNatClampNeg) &&& 31) = 2
    · have hf := tw_pos hf c5
      refine tw_tableIn (tgt := 248) C dL_law_39 (by rw [c5]; decide) (by rw [c5]; decide) (by rw [c5]; rfl) (by decide) ?_
      exact k_law_2 C hE hX hbl hbA X0 hNc hl0 hc1 hc2 hrec v4 a b9 w hf
    have hf := tw_neg hf c5
    by_cases c6 : ((xs v4.toNatClampNeg) &&& 31) = 3
    · have hf := tw_pos hf c6
      refine tw_tableIn (tgt := 304) C dL_law_39 (by rw [c6]; decide) (by rw [c6]; decide) (by rw [c6]; rfl) (by decide) ?_
      exact k_law_3 C hE hX hbl hbA X0 hNc hl0 hc1 hc2 hrec v4 a b9 w hf
    have hf := tw_neg hf c6
    by_cases c7 : ((xs v4.toNatClampNeg) &&& 31) = 4
    · have hf := tw_pos hf c7
      refine tw_tableIn (tgt := 352) C dL_law_39 (by rw [c7]; decide) (by rw [c7]; decide) (by rw [c7]; rfl) (by decide) ?_
      exact k_law_4 C hE hX hbl hbA X0 hNc hl0 hc1 hc2 hrec v4 a b9 w hf
    have hf := tw_neg hf c7
    by_cases c8 : ((xs v4.toNatClampNeg) &&& 31) = 5
    · have hf := tw_pos hf c8
      refine tw_tableIn (tgt := 443) C dL_law_39 (by rw [c8]; decide) (by rw [c8]; decide) (by rw [c8]; rfl) (by decide) ?_
      exact k_law_5 C hE hX hbl hbA X0 hNc hl0 hc1 hc2 hrec v4 a b9 w hf
    have hf := tw_neg hf c8
    by_cases c9 : ((xs v4.toNatClampNeg) &&& 31) = 6
    · have hf := tw_pos hf c9
      refine tw_tableIn (tgt := 527) C dL_law_39 (by rw [c9]; decide) (by rw [c9]; decide) (by rw [c9]; rfl) (by decide) ?_
      exact k_law_6 C hE hX hbl hbA X0 hNc hl0 hc1 hc2 hrec v4 a b9 w hf
    have hf := tw_neg hf c9
    by_cases c10 : ((xs v4.toNatClampNeg) &&& 31) = 7
    · have hf := tw_pos hf c10
      refine tw_tableIn (tgt := 618) C dL_law_39 (by rw [c10]; decide) (by rw [c10]; decide) (by rw [c10]; rfl) (by decide) ?_
      exact k_law_7 C hE hX hbl hbA X0 hNc hl0 hc1 hc2 hrec v4 a b9 w hf
    have hf := tw_neg hf c10
    by_cases c11 : ((xs v4.toNatClampNeg) &&& 31) = 8
    · have hf := tw_pos hf c11
      refine tw_tableIn (tgt := 694) C dL_law_39 (by rw [c11]; decide) (by rw [c11]; decide) (by rw [c11]; rfl) (by decide) ?_
      exact k_law_8 C hE hX hbl hbA X0 hNc hl0 hc1 hc2 hrec v4 a b9 w hf
    have hf := tw_neg hf c11
    by_cases c12 : ((xs v4.toNatClampNeg) &&& 31) = 9
    · have hf := tw_pos hf c12
      refine tw_tableIn (tgt := 790) C dL_law_39 (by rw [c12]; decide) (by rw [c12]; decide) (by rw [c12]; rfl) (by decide) ?_
      exact k_law_9 C hE hX hbl hbA X0 hNc hl0 hc1 hc2 hrec v4 a b9 w hf
    have hf := tw_neg hf c12
    by_cases c13 : ((xs v4.toNatClampNeg) &&& 31) = 10
    · have hf := tw_pos hf c13
      refine tw_tableIn (tgt := 858) C dL_law_39 (by rw [c13]; decide) (by rw [c13]; decide) (by rw [c13]; rfl) (by decide) ?_
      exact k_law_10 C hE hX hbl hbA X0 hNc hl0 hc1 hc2 hrec v4 a b9 w hf
    have hf := tw_neg hf c13
    by_cases c14 : ((xs v4.toNatClampNeg) &&& 31) = 11
    · have hf := tw_pos hf c14
      refine tw_tableIn (tgt := 914) C dL_law_39 (by rw [c14]; decide) (by rw [c14]; decide) (by rw [c14]; rfl) (by decide) ?_
      exact k_law_11 C hE hX hbl hbA X0 hNc hl0 hc1 hc2 hrec v4 a b9 w hf
    have hf := tw_neg hf c14
    by_cases c15 : ((xs v4.toNatClampNeg) &&& 31) = 12
    · have hf := tw_pos hf c15
      refine tw_tableIn (tgt := 982) C dL_law_39 (by rw [c15]; decide) (by rw [c15]; decide) (by rw [c15]; rfl) (by decide) ?_
      exact k_law_12 C hE hX hbl hbA X0 hNc hl0 hc1 hc2 hrec v4 a b9 w hf
    have hf := tw_neg hf c15
    by_cases c16 : ((xs v4.toNatClampNeg) &&& 31) = 13
    · have hf := tw_pos hf c16
      refine tw_tableIn (tgt := 995) C dL_law_39 (by rw [c16]; decide) (by rw [c16]; decide) (by rw [c16]; rfl) (by decide) ?_
      exact k_law_13 C hE hX hbl hbA X0 hNc hl0 hc1 hc2 hrec v4 a b9 w hf
    have hf := tw_neg hf c16
    by_cases c17 : ((xs v4.toNatClampNeg) &&& 31) = 14
    · have hf := tw_pos hf c17
      refine tw_tableIn (tgt := 1051) C dL_law_39 (by rw [c17]; decide) (by rw [c17]; decide) (by rw [c17]; rfl) (by decide) ?_
      exact k_law_14 C hE hX hbl hbA X0 hNc hl0 hc1 hc2 hrec v4 a b9 w hf
    have hf := tw_neg hf c17
    by_cases c18 : ((xs v4.toNatClampNeg) &&& 31) = 15
    · have hf := tw_pos hf c18
      refine tw_tableIn (tgt := 1064) C dL_law_39 (by rw [c18]; decide) (by rw [c18]; decide) (by rw [c18]; rfl) (by decide) ?_
      exact k_law_15 C hE hX hbl hbA X0 hNc hl0 hc1 hc2 hrec v4 a b9 w hf
    have hf := tw_neg hf c18
    by_cases c19 : ((xs v4.toNatClampNeg) &&& 31) = 16
    · have hf := tw_pos hf c19
      refine tw_tableIn (tgt := 1120) C dL_law_39 (by rw [c19]; decide) (by rw [c19]; decide) (by rw [c19]; rfl) (by decide) ?_
      exact k_law_16 C hE hX hbl hbA X0 hNc hl0 hc1 hc2 hrec v4 a b9 w hf
    have hf := tw_neg hf c19
    by_cases c20 : ((xs v4.toNatClampNeg) &&& 31) = 17
    · have hf := tw_pos hf c20
      refine tw_tableIn (tgt := 1188) C dL_law_39 (by rw [c20]; decide) (by rw [c20]; decide) (by rw [c20]; rfl) (by decide) ?_
      exact k_law_17 C hE hX hbl hbA X0 hNc hl0 hc1 hc2 hrec v4 a b9 w hf
    have hf := tw_neg hf c20
    by_cases c21 : ((xs v4.toNatClampNeg) &&& 31) = 18
    · have hf := tw_pos hf c21
      refine tw_tableIn (tgt := 1244) C dL_law_39 (by rw [c21]; decide) (by rw [c21]; decide) (by rw [c21]; rfl) (by decide) ?_
      exact k_law_18 C hE hX hbl hbA X0 hNc hl0 hc1 hc2 hrec v4 a b9 w hf
    have hf := tw_neg hf c21
    by_cases c22 : ((xs v4.toNatClampNeg) &&& 31) = 19
    · have hf := tw_pos hf c22
      refine tw_tableIn (tgt := 1257) C dL_law_39 (by rw [c22]; decide) (by rw [c22]; decide) (by rw [c22]; rfl) (by decide) ?_
      exact k_law_19 C hE hX hbl hbA X0 hNc hl0 hc1 hc2 hrec v4 a b9 w hf
    have hf := tw_neg hf c22
    refine tw_tableOut (tgt := 1270) C dL_law_39 (tw_tout 19 (by decide) (fun k hk => by rcases (show k = 0 ∨ k = 1 ∨ k = 2 ∨ k = 3 ∨ k = 4 ∨ k = 5 ∨ k = 6 ∨ k = 7 ∨ k = 8 ∨ k = 9 ∨ k = 10 ∨ k = 11 ∨ k = 12 ∨ k = 13 ∨ k = 14 ∨ k = 15 ∨ k = 16 ∨ k = 17 ∨ k = 18 ∨ k = 19 by omega) with rfl | rfl | rfl | rfl | rfl | rfl | rfl | rfl | rfl | rfl | rfl | rfl | rfl | rfl | rfl | rfl | rfl | rfl | rfl | rfl <;> assumption)) (by decide) ?_
    refine tw_iinc (v := (v4 + 4)) (lv' := [(4, .int (v4 + 4)), (0, .ref b), (1, .ref (q 0)), (2, .ref (r 0)), (3, .ref o)]) C dL_law_1270 (k := 4) rfl rfl (by decide) rfl ?_
    refine tw_goto (tgt := 23) C dL_law_1273 (by decide) ?_
    refine tw_sub [1, 2, 3, 4, 0] rfl ?_
    refine tw_widen (Nat.le_add_right _ 1) (Nat.le_add_right _ 6) ?_
    exact hrec (v4 + 4) a b9 w hf
