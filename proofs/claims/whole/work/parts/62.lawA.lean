set_option maxRecDepth 20000 in
theorem k_law_0 {p : Program} {l : Launch} {e : Env} {s : State} {m : MethodId} {args : Array Value} {below : List Frame} {meth : Method} {c : Code} {Q : State → Prop} {dC : Nat → ClassId} {dI : Nat → Nat → Nat} {cI cZ cJ : ClassId} {q r : Nat → Nat} {o b L nc ns : Nat} {xs : Nat → Int32} {A : Nat → Prop} {rec : Int32 → twS → twS → (Nat → Int64) → Option Int32} (C : twC p s m args meth c cL_law 7 RL wsL_law (dC, dI) (twY3 cI cZ cJ) A) (hE : ∀ (pc k n : Nat) (lv : List (Nat × Value)) (ws : va_W), decode cL_law pc = .ok (.ireturn, 1) → k ≤ 1070 → n ≤ 8788 → twG p l e room_1 s m args below meth c k n Q (dC, dI) A 7 ws pc lv [.int 1]) (hX : va_X b L xs s s.heap) (hbl : b < s.heap.size) (hbA : ¬ A b) (X0 : twXf A s s.heap) (hNc : twNcs s) (hl0 : l.stackTraces = false) (hc1 : nc + 1 ≤ 1070) (hc2 : ns + 6 ≤ 8788) (hrec : ∀ (v4 : Int32) (a b9 : twS) (w : Nat → Int64), rec v4 a b9 w = some 1 → twG p l e room_1 s m args below meth c (nc + 1) (ns + 6) Q (dC, dI) A 7 (twLW cI cZ cJ q r o a b9 w) 23 [(0, .ref b), (1, .ref (q 0)), (2, .ref (r 0)), (3, .ref o), (4, .int v4)] []) : ∀ (v4 : Int32) (a b9 : twS) (w : Nat → Int64), f_law_0 rec L xs v4 a b9 w = some 1 → twG p l e room_1 s m args below meth c nc ns Q (dC, dI) A 7 (twLW cI cZ cJ q r o a b9 w) 132 [(0, .ref b), (1, .ref (q 0)), (2, .ref (r 0)), (3, .ref o), (4, .int v4)] [] := by
  intro v4 a b9 w hf
  unfold f_law_0 at hf
  refine tw_aload_n C dL_law_132 1 rfl rfl ?_
  refine tw_aload_n C dL_law_133 0 rfl rfl ?_
  refine tw_iload C dL_law_134 4 rfl ?_
  refine tw_iconst (v := 1) C dL_law_136 (by decide) ?_
  refine tw_iadd C dL_law_137 ?_
  obtain ⟨hb24, hf⟩ := tw_ck hf
  refine tw_sld C hX hbl hbA hb24 dL_law_138 ?_
  refine tw_aload_n C dL_law_139 0 rfl rfl ?_
  refine tw_iload C dL_law_140 4 rfl ?_
  refine tw_iconst (v := 2) C dL_law_142 (by decide) ?_
  refine tw_iadd C dL_law_143 ?_
  obtain ⟨hb25, hf⟩ := tw_ck hf
  refine tw_sld C hX hbl hbA hb25 dL_law_144 ?_
  obtain ⟨y26, hy26, hf⟩ := tw_bd hf
  refine tw_wS (As := [.ref (q 0), .int (xs (v4 + 1).toNatClampNeg), .int (xs (v4 + 2).toNatClampNeg)]) (stk := []) (Wc := twTO cI cZ cJ q o a w) (Wr := twM cI cZ r b9) (ws' := twLW cI cZ cJ q r o y26.2.1 b9 y26.2.2) C X0 hNc (isC := [0, 1, 2, 3, 4, 5, 6, 7, 8, 9, 10, 11, 12, 13, 14, 15, 16, 17, 18, 19, 20, 21, 22, 23, 24, 25, 41]) (isR := [26, 27, 28, 29, 30, 31, 32, 33, 34, 35, 36, 37, 38, 39, 40]) (ix := [15, 16, 17, 18, 19, 20, 21, 22, 23, 24, 25, 26, 27, 28, 29, 30, 31, 32, 33, 34, 35, 36, 37, 38, 39, 40, 0, 1, 2, 3, 4, 5, 6, 7, 8, 9, 10, 11, 12, 13, 14, 41]) (ki := [0, 1, 2]) ⟨rfl, rfl, rfl, rfl, by decide, rfl, rfl⟩ rfl (w_L_build l hl0 dC dI cI cZ cJ q o hy26) (vx_cwSW 3 C.hts gL_law_L_build rfl rfl rfl hd_L_build ⟨Nat.le_of_ble_eq_true rfl, Nat.le_of_ble_eq_true rfl⟩) rfl rfl (Nat.le_of_ble_eq_true rfl) dL_law_145 ⟨Nat.le_trans hc1 (Nat.le_of_ble_eq_true rfl), Nat.le_trans hc2 (Nat.le_of_ble_eq_true rfl)⟩ ?_
  refine tw_istore (lv' := [(5, .int y26.1), (0, .ref b), (1, .ref (q 0)), (2, .ref (r 0)), (3, .ref o), (4, .int v4)]) C dL_law_148 (by decide) rfl ?_
  refine tw_aload_n C dL_law_150 3 rfl rfl ?_
  refine tw_aload_n C dL_law_151 1 rfl rfl ?_
  refine tw_iload C dL_law_152 5 rfl ?_
  refine tw_iconst (v := 1) C dL_law_154 (by decide) ?_
  refine tw_iadd C dL_law_155 ?_
  obtain ⟨hb27, hf⟩ := tw_ck hf
  refine tw_sld C hX hbl hbA hb27 dL_law_156 ?_
  refine tw_aload_n C dL_law_157 1 rfl rfl ?_
  refine tw_iload C dL_law_158 5 rfl ?_
  refine tw_iconst (v := 2) C dL_law_160 (by decide) ?_
  refine tw_iadd C dL_law_161 ?_
  obtain ⟨hb28, hf⟩ := tw_ck hf
  refine tw_sld C hX hbl hbA hb28 dL_law_162 ?_
  obtain ⟨y29, hy29, hf⟩ := tw_bd hf
  refine tw_fVv (As := [.int (xs (v4 + 1).toNatClampNeg), .int (xs (v4 + 2).toNatClampNeg)]) (stk := []) (Wc := twM cI cZ r b9) (Wr := twT cI cZ q y26.2.1 ++ [(o, .inl (cJ, 1, .inr (.inl y26.2.2)))]) (ws' := twLW cI cZ cJ q r o y26.2.1 y29 y26.2.2) C (isC := [26, 27, 28, 29, 30, 31, 32, 33, 34, 35, 36, 37, 38, 39, 40]) (isR := [0, 1, 2, 3, 4, 5, 6, 7, 8, 9, 10, 11, 12, 13, 14, 15, 16, 17, 18, 19, 20, 21, 22, 23, 24, 25, 41]) (ix := [0, 1, 2, 3, 4, 5, 6, 7, 8, 9, 10, 11, 12, 13, 14, 15, 16, 17, 18, 19, 20, 21, 22, 23, 24, 25, 27, 28, 29, 30, 31, 32, 33, 34, 35, 36, 37, 38, 39, 40, 41, 26]) (ki := [0, 1]) ⟨rfl, rfl, rfl, rfl, by decide, rfl, rfl⟩ rfl (c_X8_build l dC dI cI cZ r hy29) (cwV 2 C.hts gL_law_X8_build rfl rfl rfl hd_X8_build ⟨Nat.le_of_ble_eq_true rfl, Nat.le_of_ble_eq_true rfl⟩) 26 (ci := 8) rfl rfl rfl rfl rfl (Nat.le_of_ble_eq_true rfl) dL_law_163 ⟨Nat.le_trans hc1 (Nat.le_of_ble_eq_true rfl), Nat.le_trans hc2 (Nat.le_of_ble_eq_true rfl)⟩ ?_
  refine tw_aload_n C dL_law_166 3 rfl rfl ?_
  obtain ⟨y30, hy30, hf⟩ := tw_bd hf
  refine tw_fVi (As := []) (stk := []) (Wc := twM cI cZ r y29) (Wr := twT cI cZ q y26.2.1 ++ [(o, .inl (cJ, 1, .inr (.inl y26.2.2)))]) (ws' := twLW cI cZ cJ q r o y26.2.1 y30.2 y26.2.2) C (isC := [26, 27, 28, 29, 30, 31, 32, 33, 34, 35, 36, 37, 38, 39, 40]) (isR := [0, 1, 2, 3, 4, 5, 6, 7, 8, 9, 10, 11, 12, 13, 14, 15, 16, 17, 18, 19, 20, 21, 22, 23, 24, 25, 41]) (ix := [0, 1, 2, 3, 4, 5, 6, 7, 8, 9, 10, 11, 12, 13, 14, 15, 16, 17, 18, 19, 20, 21, 22, 23, 24, 25, 27, 28, 29, 30, 31, 32, 33, 34, 35, 36, 37, 38, 39, 40, 41, 26]) (ki := [0, 1]) ⟨rfl, rfl, rfl, rfl, by decide, rfl, rfl⟩ rfl (c_X8_thrown l dC dI cI cZ r hy30) (cwV 0 C.hts gL_law_X8_thrown rfl rfl rfl hd_X8_thrown ⟨Nat.le_of_ble_eq_true rfl, Nat.le_of_ble_eq_true rfl⟩) 26 (ci := 8) rfl rfl rfl rfl rfl (Nat.le_of_ble_eq_true rfl) dL_law_167 ⟨Nat.le_trans hc1 (Nat.le_of_ble_eq_true rfl), Nat.le_trans hc2 (Nat.le_of_ble_eq_true rfl)⟩ ?_
  refine tw_iload C dL_law_170 0 rfl ?_
  refine tw_icmp_eq (tgt := 177) C dL_law_172 (by decide) (fun c31 => ?_) (fun c31 => ?_)
  · have hf := tw_pos hf c31
    refine tw_goto (tgt := 1270) C dL_law_177 (by decide) ?_
    refine tw_iinc (v := (v4 + 4)) (lv' := [(4, .int (v4 + 4)), (5, .int y26.1), (0, .ref b), (1, .ref (q 0)), (2, .ref (r 0)), (3, .ref o)]) C dL_law_1270 (k := 5) rfl rfl (by decide) rfl ?_
    refine tw_goto (tgt := 23) C dL_law_1273 (by decide) ?_
    refine tw_sub [2, 3, 4, 5, 0] rfl ?_
    exact hrec (v4 + 4) y26.2.1 y30.2 y26.2.2 hf
  · have hf := tw_neg hf c31
    refine tw_iconst (v := 0) C dL_law_175 (by decide) ?_
    cases hf
set_option maxRecDepth 20000 in
theorem k_law_1 {p : Program} {l : Launch} {e : Env} {s : State} {m : MethodId} {args : Array Value} {below : List Frame} {meth : Method} {c : Code} {Q : State → Prop} {dC : Nat → ClassId} {dI : Nat → Nat → Nat} {cI cZ cJ : ClassId} {q r : Nat → Nat} {o b L nc ns : Nat} {xs : Nat → Int32} {A : Nat → Prop} {rec : Int32 → twS → twS → (Nat → Int64) → Option Int32} (C : twC p s m args meth c cL_law 7 RL wsL_law (dC, dI) (twY3 cI cZ cJ) A) (hE : ∀ (pc k n : Nat) (lv : List (Nat × Value)) (ws : va_W), decode cL_law pc = .ok (.ireturn, 1) → k ≤ 1070 → n ≤ 8788 → twG p l e room_1 s m args below meth c k n Q (dC, dI) A 7 ws pc lv [.int 1]) (hX : va_X b L xs s s.heap) (hbl : b < s.heap.size) (hbA : ¬ A b) (X0 : twXf A s s.heap) (hNc : twNcs s) (hl0 : l.stackTraces = false) (hc1 : nc + 1 ≤ 1070) (hc2 : ns + 6 ≤ 8788) (hrec : ∀ (v4 : Int32) (a b9 : twS) (w : Nat → Int64), rec v4 a b9 w = some 1 → twG p l e room_1 s m args below meth c (nc + 1) (ns + 6) Q (dC, dI) A 7 (twLW cI cZ cJ q r o a b9 w) 23 [(0, .ref b), (1, .ref (q 0)), (2, .ref (r 0)), (3, .ref o), (4, .int v4)] []) : ∀ (v4 : Int32) (a b9 : twS) (w : Nat → Int64), f_law_1 rec L xs v4 a b9 w = some 1 → twG p l e room_1 s m args below meth c nc ns Q (dC, dI) A 7 (twLW cI cZ cJ q r o a b9 w) 180 [(0, .ref b), (1, .ref (q 0)), (2, .ref (r 0)), (3, .ref o), (4, .int v4)] [] := by
  intro v4 a b9 w hf
  unfold f_law_1 at hf
  refine tw_aload_n C dL_law_180 1 rfl rfl ?_
  refine tw_aload_n C dL_law_181 0 rfl rfl ?_
  refine tw_iload C dL_law_182 4 rfl ?_
  refine tw_iconst (v := 1) C dL_law_184 (by decide) ?_
  refine tw_iadd C dL_law_185 ?_
  obtain ⟨hb32, hf⟩ := tw_ck hf
  refine tw_sld C hX hbl hbA hb32 dL_law_186 ?_
  refine tw_aload_n C dL_law_187 0 rfl rfl ?_
  refine tw_iload C dL_law_188 4 rfl ?_
  refine tw_iconst (v := 2) C dL_law_190 (by decide) ?_
  refine tw_iadd C dL_law_191 ?_
  obtain ⟨hb33, hf⟩ := tw_ck hf
  refine tw_sld C hX hbl hbA hb33 dL_law_192 ?_
  refine tw_aload_n C dL_law_193 3 rfl rfl ?_
  obtain ⟨y34, hy34, hf⟩ := tw_bd hf
  refine tw_wS (As := [.ref (q 0), .int (xs (v4 + 1).toNatClampNeg), .int (xs (v4 + 2).toNatClampNeg), .ref o]) (stk := []) (Wc := twTO cI cZ cJ q o a w) (Wr := twM cI cZ r b9) (ws' := twLW cI cZ cJ q r o y34.2.1 b9 y34.2.2) C X0 hNc (isC := [0, 1, 2, 3, 4, 5, 6, 7, 8, 9, 10, 11, 12, 13, 14, 15, 16, 17, 18, 19, 20, 21, 22, 23, 24, 25, 41]) (isR := [26, 27, 28, 29, 30, 31, 32, 33, 34, 35, 36, 37, 38, 39, 40]) (ix := [15, 16, 17, 18, 19, 20, 21, 22, 23, 24, 25, 26, 27, 28, 29, 30, 31, 32, 33, 34, 35, 36, 37, 38, 39, 40, 0, 1, 2, 3, 4, 5, 6, 7, 8, 9, 10, 11, 12, 13, 14, 41]) (ki := [0, 1, 2]) ⟨rfl, rfl, rfl, rfl, by decide, rfl, rfl⟩ rfl (w_L_people l hl0 dC dI cI cZ cJ q o hy34) (vx_cwSW 4 C.hts gL_law_L_people rfl rfl rfl hd_L_people ⟨Nat.le_of_ble_eq_true rfl, Nat.le_of_ble_eq_true rfl⟩) rfl rfl (Nat.le_of_ble_eq_true rfl) dL_law_194 ⟨Nat.le_trans hc1 (Nat.le_of_ble_eq_true rfl), Nat.le_trans hc2 (Nat.le_of_ble_eq_true rfl)⟩ ?_
  refine tw_istore (lv' := [(5, .int y34.1), (0, .ref b), (1, .ref (q 0)), (2, .ref (r 0)), (3, .ref o), (4, .int v4)]) C dL_law_197 (by decide) rfl ?_
  refine tw_aload_n C dL_law_199 3 rfl rfl ?_
  refine tw_aload_n C dL_law_200 1 rfl rfl ?_
  refine tw_iload C dL_law_201 5 rfl ?_
  refine tw_iconst (v := 1) C dL_law_203 (by decide) ?_
  refine tw_iadd C dL_law_204 ?_
  obtain ⟨hb35, hf⟩ := tw_ck hf
  refine tw_sld C hX hbl hbA hb35 dL_law_205 ?_
  refine tw_aload_n C dL_law_206 1 rfl rfl ?_
  refine tw_iload C dL_law_207 5 rfl ?_
  refine tw_iconst (v := 2) C dL_law_209 (by decide) ?_
  refine tw_iadd C dL_law_210 ?_
  obtain ⟨hb36, hf⟩ := tw_ck hf
  refine tw_sld C hX hbl hbA hb36 dL_law_211 ?_
  obtain ⟨y37, hy37, hf⟩ := tw_bd hf
  refine tw_fVi (As := [.int (xs (v4 + 1).toNatClampNeg), .int (xs (v4 + 2).toNatClampNeg)]) (stk := []) (Wc := twM cI cZ r b9) (Wr := twT cI cZ q y34.2.1 ++ [(o, .inl (cJ, 1, .inr (.inl y34.2.2)))]) (ws' := twLW cI cZ cJ q r o y34.2.1 y37.2 y34.2.2) C (isC := [26, 27, 28, 29, 30, 31, 32, 33, 34, 35, 36, 37, 38, 39, 40]) (isR := [0, 1, 2, 3, 4, 5, 6, 7, 8, 9, 10, 11, 12, 13, 14, 15, 16, 17, 18, 19, 20, 21, 22, 23, 24, 25, 41]) (ix := [0, 1, 2, 3, 4, 5, 6, 7, 8, 9, 10, 11, 12, 13, 14, 15, 16, 17, 18, 19, 20, 21, 22, 23, 24, 25, 27, 28, 29, 30, 31, 32, 33, 34, 35, 36, 37, 38, 39, 40, 41, 26]) (ki := [0, 1]) ⟨rfl, rfl, rfl, rfl, by decide, rfl, rfl⟩ rfl (c_X8_people l dC dI cI cZ r hy37) (cwV 2 C.hts gL_law_X8_people rfl rfl rfl hd_X8_people ⟨Nat.le_of_ble_eq_true rfl, Nat.le_of_ble_eq_true rfl⟩) 26 (ci := 8) rfl rfl rfl rfl rfl (Nat.le_of_ble_eq_true rfl) dL_law_212 ⟨Nat.le_trans hc1 (Nat.le_of_ble_eq_true rfl), Nat.le_trans hc2 (Nat.le_of_ble_eq_true rfl)⟩ ?_
  refine tw_istore (lv' := [(6, .int y37.1), (5, .int y34.1), (0, .ref b), (1, .ref (q 0)), (2, .ref (r 0)), (3, .ref o), (4, .int v4)]) C dL_law_215 (by decide) rfl ?_
  refine tw_aload_n C dL_law_217 4 rfl rfl ?_
  obtain ⟨y38, hy38, hf⟩ := tw_bd hf
  refine tw_fVi (As := []) (stk := []) (Wc := twM cI cZ r y37.2) (Wr := twT cI cZ q y34.2.1 ++ [(o, .inl (cJ, 1, .inr (.inl y34.2.2)))]) (ws' := twLW cI cZ cJ q r o y34.2.1 y38.2 y34.2.2) C (isC := [26, 27, 28, 29, 30, 31, 32, 33, 34, 35, 36, 37, 38, 39, 40]) (isR := [0, 1, 2, 3, 4, 5, 6, 7, 8, 9, 10, 11, 12, 13, 14, 15, 16, 17, 18, 19, 20, 21, 22, 23, 24, 25, 41]) (ix := [0, 1, 2, 3, 4, 5, 6, 7, 8, 9, 10, 11, 12, 13, 14, 15, 16, 17, 18, 19, 20, 21, 22, 23, 24, 25, 27, 28, 29, 30, 31, 32, 33, 34, 35, 36, 37, 38, 39, 40, 41, 26]) (ki := [0, 1]) ⟨rfl, rfl, rfl, rfl, by decide, rfl, rfl⟩ rfl (c_X8_thrown l dC dI cI cZ r hy38) (cwV 0 C.hts gL_law_X8_thrown rfl rfl rfl hd_X8_thrown ⟨Nat.le_of_ble_eq_true rfl, Nat.le_of_ble_eq_true rfl⟩) 26 (ci := 8) rfl rfl rfl rfl rfl (Nat.le_of_ble_eq_true rfl) dL_law_218 ⟨Nat.le_trans hc1 (Nat.le_of_ble_eq_true rfl), Nat.le_trans hc2 (Nat.le_of_ble_eq_true rfl)⟩ ?_
  refine tw_iload C dL_law_221 1 rfl ?_
  refine tw_icmp_eq (tgt := 228) C dL_law_223 (by decide) (fun c39 => ?_) (fun c39 => ?_)
  · have hf := tw_pos hf c39
    refine tw_iload C dL_law_228 1 rfl ?_
    refine tw_if_ne (tgt := 245) C dL_law_230 (by decide) (fun c40 => ?_) (fun c40 => ?_)
    · have hf := tw_neg hf c40
      refine tw_goto (tgt := 1270) C dL_law_245 (by decide) ?_
      refine tw_iinc (v := (v4 + 4)) (lv' := [(4, .int (v4 + 4)), (6, .int y37.1), (5, .int y34.1), (0, .ref b), (1, .ref (q 0)), (2, .ref (r 0)), (3, .ref o)]) C dL_law_1270 (k := 6) rfl rfl (by decide) rfl ?_
      refine tw_goto (tgt := 23) C dL_law_1273 (by decide) ?_
      refine tw_sub [3, 4, 5, 6, 0] rfl ?_
      exact hrec (v4 + 4) y34.2.1 y38.2 y34.2.2 hf
    · have hf := tw_pos hf c40
      refine tw_aload_n C dL_law_233 5 rfl rfl ?_
      refine tw_iconst (v := 0) C dL_law_234 (by decide) ?_
      refine tw_lald C 41 2 (tw_in (i := 0) (n := 1) (by decide)) rfl rfl dL_law_235 ?_
      refine tw_iload C dL_law_236 0 rfl ?_
      refine tw_i2l C dL_law_238 ?_
      refine tw_lcmp C dL_law_239 ?_
      refine tw_if_eq (tgt := 245) C dL_law_240 (by decide) (fun c41 => ?_) (fun c41 => ?_)
      · have hf := tw_pos hf c41
        refine tw_goto (tgt := 1270) C dL_law_245 (by decide) ?_
        refine tw_iinc (v := (v4 + 4)) (lv' := [(4, .int (v4 + 4)), (6, .int y37.1), (5, .int y34.1), (0, .ref b), (1, .ref (q 0)), (2, .ref (r 0)), (3, .ref o)]) C dL_law_1270 (k := 6) rfl rfl (by decide) rfl ?_
        refine tw_goto (tgt := 23) C dL_law_1273 (by decide) ?_
        refine tw_sub [3, 4, 5, 6, 0] rfl ?_
        exact hrec (v4 + 4) y34.2.1 y38.2 y34.2.2 hf
      · have hf := tw_neg hf c41
        refine tw_iconst (v := 0) C dL_law_243 (by decide) ?_
        cases hf
  · have hf := tw_neg hf c39
    refine tw_iconst (v := 0) C dL_law_226 (by decide) ?_
    cases hf
set_option maxRecDepth 20000 in
theorem k_law_2 {p : Program} {l : Launch} {e : Env} {s : State} {m : MethodId} {args : Array Value} {below : List Frame} {meth : Method} {c : Code} {Q : State → Prop} {dC : Nat → ClassId} {dI : Nat → Nat → Nat} {cI cZ cJ : ClassId} {q r : Nat → Nat} {o b L nc ns : Nat} {xs : Nat → Int32} {A : Nat → Prop} {rec : Int32 → twS → twS → (Nat → Int64) → Option Int32} (C : twC p s m args meth c cL_law 7 RL wsL_law (dC, dI) (twY3 cI cZ cJ) A) (hE : ∀ (pc k n : Nat) (lv : List (Nat × Value)) (ws : va_W), decode cL_law pc = .ok (.ireturn, 1) → k ≤ 1070 → n ≤ 8788 → twG p l e room_1 s m args below meth c k n Q (dC, dI) A 7 ws pc lv [.int 1]) (hX : va_X b L xs s s.heap) (hbl : b < s.heap.size) (hbA : ¬ A b) (X0 : twXf A s s.heap) (hNc : twNcs s) (hl0 : l.stackTraces = false) (hc1 : nc + 1 ≤ 1070) (hc2 : ns + 6 ≤ 8788) (hrec : ∀ (v4 : Int32) (a b9 : twS) (w : Nat → Int64), rec v4 a b9 w = some 1 → twG p l e room_1 s m args below meth c (nc + 1) (ns + 6) Q (dC, dI) A 7 (twLW cI cZ cJ q r o a b9 w) 23 [(0, .ref b), (1, .ref (q 0)), (2, .ref (r 0)), (3, .ref o), (4, .int v4)] []) : ∀ (v4 : Int32) (a b9 : twS) (w : Nat → Int64), f_law_2 rec L xs v4 a b9 w = some 1 → twG p l e room_1 s m args below meth c nc ns Q (dC, dI) A 7 (twLW cI cZ cJ q r o a b9 w) 248 [(0, .ref b), (1, .ref (q 0)), (2, .ref (r 0)), (3, .ref o), (4, .int v4)] [] := by
  intro v4 a b9 w hf
  unfold f_law_2 at hf
  refine tw_aload_n C dL_law_248 1 rfl rfl ?_
  refine tw_aload_n C dL_law_249 0 rfl rfl ?_
  refine tw_iload C dL_law_250 4 rfl ?_
  refine tw_iconst (v := 1) C dL_law_252 (by decide) ?_
  refine tw_iadd C dL_law_253 ?_
  obtain ⟨hb42, hf⟩ := tw_ck hf
  refine tw_sld C hX hbl hbA hb42 dL_law_254 ?_
  refine tw_aload_n C dL_law_255 3 rfl rfl ?_
  obtain ⟨y43, hy43, hf⟩ := tw_bd hf
  refine tw_wS (As := [.ref (q 0), .int (xs (v4 + 1).toNatClampNeg), .ref o]) (stk := []) (Wc := twTO cI cZ cJ q o a w) (Wr := twM cI cZ r b9) (ws' := twLW cI cZ cJ q r o y43.2.1 b9 y43.2.2) C X0 hNc (isC := [0, 1, 2, 3, 4, 5, 6, 7, 8, 9, 10, 11, 12, 13, 14, 15, 16, 17, 18, 19, 20, 21, 22, 23, 24, 25, 41]) (isR := [26, 27, 28, 29, 30, 31, 32, 33, 34, 35, 36, 37, 38, 39, 40]) (ix := [15, 16, 17, 18, 19, 20, 21, 22, 23, 24, 25, 26, 27, 28, 29, 30, 31, 32, 33, 34, 35, 36, 37, 38, 39, 40, 0, 1, 2, 3, 4, 5, 6, 7, 8, 9, 10, 11, 12, 13, 14, 41]) (ki := [0, 1, 2]) ⟨rfl, rfl, rfl, rfl, by decide, rfl, rfl⟩ rfl (w_L_wind l hl0 dC dI cI cZ cJ q o hy43) (vx_cwSW 3 C.hts gL_law_L_wind rfl rfl rfl hd_L_wind ⟨Nat.le_of_ble_eq_true rfl, Nat.le_of_ble_eq_true rfl⟩) rfl rfl (Nat.le_of_ble_eq_true rfl) dL_law_256 ⟨Nat.le_trans hc1 (Nat.le_of_ble_eq_true rfl), Nat.le_trans hc2 (Nat.le_of_ble_eq_true rfl)⟩ ?_
  refine tw_istore (lv' := [(5, .int y43.1), (0, .ref b), (1, .ref (q 0)), (2, .ref (r 0)), (3, .ref o), (4, .int v4)]) C dL_law_259 (by decide) rfl ?_
  refine tw_aload_n C dL_law_261 3 rfl rfl ?_
  refine tw_aload_n C dL_law_262 1 rfl rfl ?_
  refine tw_iload C dL_law_263 5 rfl ?_
  refine tw_iconst (v := 1) C dL_law_265 (by decide) ?_
  refine tw_iadd C dL_law_266 ?_
  obtain ⟨hb44, hf⟩ := tw_ck hf
  refine tw_sld C hX hbl hbA hb44 dL_law_267 ?_
  obtain ⟨y45, hy45, hf⟩ := tw_bd hf
  refine tw_fVi (As := [.int (xs (v4 + 1).toNatClampNeg)]) (stk := []) (Wc := twM cI cZ r b9) (Wr := twT cI cZ q y43.2.1 ++ [(o, .inl (cJ, 1, .inr (.inl y43.2.2)))]) (ws' := twLW cI cZ cJ q r o y43.2.1 y45.2 y43.2.2) C (isC := [26, 27, 28, 29, 30, 31, 32, 33, 34, 35, 36, 37, 38, 39, 40]) (isR := [0, 1, 2, 3, 4, 5, 6, 7, 8, 9, 10, 11, 12, 13, 14, 15, 16, 17, 18, 19, 20, 21, 22, 23, 24, 25, 41]) (ix := [0, 1, 2, 3, 4, 5, 6, 7, 8, 9, 10, 11, 12, 13, 14, 15, 16, 17, 18, 19, 20, 21, 22, 23, 24, 25, 27, 28, 29, 30, 31, 32, 33, 34, 35, 36, 37, 38, 39, 40, 41, 26]) (ki := [0, 1]) ⟨rfl, rfl, rfl, rfl, by decide, rfl, rfl⟩ rfl (c_X8_wind l dC dI cI cZ r hy45) (cwV 1 C.hts gL_law_X8_wind rfl rfl rfl hd_X8_wind ⟨Nat.le_of_ble_eq_true rfl, Nat.le_of_ble_eq_true rfl⟩) 26 (ci := 8) rfl rfl rfl rfl rfl (Nat.le_of_ble_eq_true rfl) dL_law_268 ⟨Nat.le_trans hc1 (Nat.le_of_ble_eq_true rfl), Nat.le_trans hc2 (Nat.le_of_ble_eq_true rfl)⟩ ?_
  refine tw_istore (lv' := [(6, .int y45.1), (5, .int y43.1), (0, .ref b), (1, .ref (q 0)), (2, .ref (r 0)), (3, .ref o), (4, .int v4)]) C dL_law_271 (by decide) rfl ?_
  refine tw_aload_n C dL_law_273 4 rfl rfl ?_
  obtain ⟨y46, hy46, hf⟩ := tw_bd hf
  refine tw_fVi (As := []) (stk := []) (Wc := twM cI cZ r y45.2) (Wr := twT cI cZ q y43.2.1 ++ [(o, .inl (cJ, 1, .inr (.inl y43.2.2)))]) (ws' := twLW cI cZ cJ q r o y43.2.1 y46.2 y43.2.2) C (isC := [26, 27, 28, 29, 30, 31, 32, 33, 34, 35, 36, 37, 38, 39, 40]) (isR := [0, 1, 2, 3, 4, 5, 6, 7, 8, 9, 10, 11, 12, 13, 14, 15, 16, 17, 18, 19, 20, 21, 22, 23, 24, 25, 41]) (ix := [0, 1, 2, 3, 4, 5, 6, 7, 8, 9, 10, 11, 12, 13, 14, 15, 16, 17, 18, 19, 20, 21, 22, 23, 24, 25, 27, 28, 29, 30, 31, 32, 33, 34, 35, 36, 37, 38, 39, 40, 41, 26]) (ki := [0, 1]) ⟨rfl, rfl, rfl, rfl, by decide, rfl, rfl⟩ rfl (c_X8_thrown l dC dI cI cZ r hy46) (cwV 0 C.hts gL_law_X8_thrown rfl rfl rfl hd_X8_thrown ⟨Nat.le_of_ble_eq_true rfl, Nat.le_of_ble_eq_true rfl⟩) 26 (ci := 8) rfl rfl rfl rfl rfl (Nat.le_of_ble_eq_true rfl) dL_law_274 ⟨Nat.le_trans hc1 (Nat.le_of_ble_eq_true rfl), Nat.le_trans hc2 (Nat.le_of_ble_eq_true rfl)⟩ ?_
  refine tw_iload C dL_law_277 1 rfl ?_
  refine tw_icmp_eq (tgt := 284) C dL_law_279 (by decide) (fun c47 => ?_) (fun c47 => ?_)
  · have hf := tw_pos hf c47
    refine tw_iload C dL_law_284 1 rfl ?_
    refine tw_if_ne (tgt := 301) C dL_law_286 (by decide) (fun c48 => ?_) (fun c48 => ?_)
    · have hf := tw_neg hf c48
      refine tw_goto (tgt := 1270) C dL_law_301 (by decide) ?_
      refine tw_iinc (v := (v4 + 4)) (lv' := [(4, .int (v4 + 4)), (6, .int y45.1), (5, .int y43.1), (0, .ref b), (1, .ref (q 0)), (2, .ref (r 0)), (3, .ref o)]) C dL_law_1270 (k := 6) rfl rfl (by decide) rfl ?_
      refine tw_goto (tgt := 23) C dL_law_1273 (by decide) ?_
      refine tw_sub [3, 4, 5, 6, 0] rfl ?_
      exact hrec (v4 + 4) y43.2.1 y46.2 y43.2.2 hf
    · have hf := tw_pos hf c48
      refine tw_aload_n C dL_law_289 5 rfl rfl ?_
      refine tw_iconst (v := 0) C dL_law_290 (by decide) ?_
      refine tw_lald C 41 2 (tw_in (i := 0) (n := 1) (by decide)) rfl rfl dL_law_291 ?_
      refine tw_iload C dL_law_292 0 rfl ?_
      refine tw_i2l C dL_law_294 ?_
      refine tw_lcmp C dL_law_295 ?_
      refine tw_if_eq (tgt := 301) C dL_law_296 (by decide) (fun c49 => ?_) (fun c49 => ?_)
      · have hf := tw_pos hf c49
        refine tw_goto (tgt := 1270) C dL_law_301 (by decide) ?_
        refine tw_iinc (v := (v4 + 4)) (lv' := [(4, .int (v4 + 4)), (6, .int y45.1), (5, .int y43.1), (0, .ref b), (1, .ref (q 0)), (2, .ref (r 0)), (3, .ref o)]) C dL_law_1270 (k := 6) rfl rfl (by decide) rfl ?_
        refine tw_goto (tgt := 23) C dL_law_1273 (by decide) ?_
        refine tw_sub [3, 4, 5, 6, 0] rfl ?_
        exact hrec (v4 + 4) y43.2.1 y46.2 y43.2.2 hf
      · have hf := tw_neg hf c49
        refine tw_iconst (v := 0) C dL_law_299 (by decide) ?_
        cases hf
  · have hf := tw_neg hf c47
    refine tw_iconst (v := 0) C dL_law_282 (by decide) ?_
    cases hf
set_option maxRecDepth 20000 in
theorem k_law_3 {p : Program} {l : Launch} {e : Env} {s : State} {m : MethodId} {args : Array Value} {below : List Frame} {meth : Method} {c : Code} {Q : State → Prop} {dC : Nat → ClassId} {dI : Nat → Nat → Nat} {cI cZ cJ : ClassId} {q r : Nat → Nat} {o b L nc ns : Nat} {xs : Nat → Int32} {A : Nat → Prop} {rec : Int32 → twS → twS → (Nat → Int64) → Option Int32} (C : twC p s m args meth c cL_law 7 RL wsL_law (dC, dI) (twY3 cI cZ cJ) A) (hE : ∀ (pc k n : Nat) (lv : List (Nat × Value)) (ws : va_W), decode cL_law pc = .ok (.ireturn, 1) → k ≤ 1070 → n ≤ 8788 → twG p l e room_1 s m args below meth c k n Q (dC, dI) A 7 ws pc lv [.int 1]) (hX : va_X b L xs s s.heap) (hbl : b < s.heap.size) (hbA : ¬ A b) (X0 : twXf A s s.heap) (hNc : twNcs s) (hl0 : l.stackTraces = false) (hc1 : nc + 1 ≤ 1070) (hc2 : ns + 6 ≤ 8788) (hrec : ∀ (v4 : Int32) (a b9 : twS) (w : Nat → Int64), rec v4 a b9 w = some 1 → twG p l e room_1 s m args below meth c (nc + 1) (ns + 6) Q (dC, dI) A 7 (twLW cI cZ cJ q r o a b9 w) 23 [(0, .ref b), (1, .ref (q 0)), (2, .ref (r 0)), (3, .ref o), (4, .int v4)] []) : ∀ (v4 : Int32) (a b9 : twS) (w : Nat → Int64), f_law_3 rec L xs v4 a b9 w = some 1 → twG p l e room_1 s m args below meth c nc ns Q (dC, dI) A 7 (twLW cI cZ cJ q r o a b9 w) 304 [(0, .ref b), (1, .ref (q 0)), (2, .ref (r 0)), (3, .ref o), (4, .int v4)] [] := by
  intro v4 a b9 w hf
  unfold f_law_3 at hf
  refine tw_aload_n C dL_law_304 1 rfl rfl ?_
  refine tw_aload_n C dL_law_305 0 rfl rfl ?_
  refine tw_iload C dL_law_306 4 rfl ?_
  refine tw_iconst (v := 1) C dL_law_308 (by decide) ?_
  refine tw_iadd C dL_law_309 ?_
  obtain ⟨hb50, hf⟩ := tw_ck hf
  refine tw_sld C hX hbl hbA hb50 dL_law_310 ?_
  refine tw_aload_n C dL_law_311 0 rfl rfl ?_
  refine tw_iload C dL_law_312 4 rfl ?_
  refine tw_iconst (v := 2) C dL_law_314 (by decide) ?_
  refine tw_iadd C dL_law_315 ?_
  obtain ⟨hb51, hf⟩ := tw_ck hf
  refine tw_sld C hX hbl hbA hb51 dL_law_316 ?_
  obtain ⟨y52, hy52, hf⟩ := tw_bd hf
  refine tw_wS (As := [.ref (q 0), .int (xs (v4 + 1).toNatClampNeg), .int (xs (v4 + 2).toNatClampNeg)]) (stk := []) (Wc := twTO cI cZ cJ q o a w) (Wr := twM cI cZ r b9) (ws' := twLW cI cZ cJ q r o y52.2.1 b9 y52.2.2) C X0 hNc (isC := [0, 1, 2, 3, 4, 5, 6, 7, 8, 9, 10, 11, 12, 13, 14, 15, 16, 17, 18, 19, 20, 21, 22, 23, 24, 25, 41]) (isR := [26, 27, 28, 29, 30, 31, 32, 33, 34, 35, 36, 37, 38, 39, 40]) (ix := [15, 16, 17, 18, 19, 20, 21, 22, 23, 24, 25, 26, 27, 28, 29, 30, 31, 32, 33, 34, 35, 36, 37, 38, 39, 40, 0, 1, 2, 3, 4, 5, 6, 7, 8, 9, 10, 11, 12, 13, 14, 41]) (ki := [0, 1, 2]) ⟨rfl, rfl, rfl, rfl, by decide, rfl, rfl⟩ rfl (w_L_fire l hl0 dC dI cI cZ cJ q o hy52) (vx_cwSW 3 C.hts gL_law_L_fire rfl rfl rfl hd_L_fire ⟨Nat.le_of_ble_eq_true rfl, Nat.le_of_ble_eq_true rfl⟩) rfl rfl (Nat.le_of_ble_eq_true rfl) dL_law_317 ⟨Nat.le_trans hc1 (Nat.le_of_ble_eq_true rfl), Nat.le_trans hc2 (Nat.le_of_ble_eq_true rfl)⟩ ?_
  refine tw_istore (lv' := [(5, .int y52.1), (0, .ref b), (1, .ref (q 0)), (2, .ref (r 0)), (3, .ref o), (4, .int v4)]) C dL_law_320 (by decide) rfl ?_
  refine tw_aload_n C dL_law_322 3 rfl rfl ?_
  refine tw_aload_n C dL_law_323 1 rfl rfl ?_
  refine tw_iload C dL_law_324 5 rfl ?_
  refine tw_iconst (v := 1) C dL_law_326 (by decide) ?_
  refine tw_iadd C dL_law_327 ?_
  obtain ⟨hb53, hf⟩ := tw_ck hf
  refine tw_sld C hX hbl hbA hb53 dL_law_328 ?_
  refine tw_aload_n C dL_law_329 1 rfl rfl ?_
  refine tw_iload C dL_law_330 5 rfl ?_
  refine tw_iconst (v := 2) C dL_law_332 (by decide) ?_
  refine tw_iadd C dL_law_333 ?_
  obtain ⟨hb54, hf⟩ := tw_ck hf
  refine tw_sld C hX hbl hbA hb54 dL_law_334 ?_
  obtain ⟨y55, hy55, hf⟩ := tw_bd hf
  refine tw_fVv (As := [.int (xs (v4 + 1).toNatClampNeg), .int (xs (v4 + 2).toNatClampNeg)]) (stk := []) (Wc := twM cI cZ r b9) (Wr := twT cI cZ q y52.2.1 ++ [(o, .inl (cJ, 1, .inr (.inl y52.2.2)))]) (ws' := twLW cI cZ cJ q r o y52.2.1 y55 y52.2.2) C (isC := [26, 27, 28, 29, 30, 31, 32, 33, 34, 35, 36, 37, 38, 39, 40]) (isR := [0, 1, 2, 3, 4, 5, 6, 7, 8, 9, 10, 11, 12, 13, 14, 15, 16, 17, 18, 19, 20, 21, 22, 23, 24, 25, 41]) (ix := [0, 1, 2, 3, 4, 5, 6, 7, 8, 9, 10, 11, 12, 13, 14, 15, 16, 17, 18, 19, 20, 21, 22, 23, 24, 25, 27, 28, 29, 30, 31, 32, 33, 34, 35, 36, 37, 38, 39, 40, 41, 26]) (ki := [0, 1]) ⟨rfl, rfl, rfl, rfl, by decide, rfl, rfl⟩ rfl (c_X8_fire l dC dI cI cZ r hy55) (cwV 2 C.hts gL_law_X8_fire rfl rfl rfl hd_X8_fire ⟨Nat.le_of_ble_eq_true rfl, Nat.le_of_ble_eq_true rfl⟩) 26 (ci := 8) rfl rfl rfl rfl rfl (Nat.le_of_ble_eq_true rfl) dL_law_335 ⟨Nat.le_trans hc1 (Nat.le_of_ble_eq_true rfl), Nat.le_trans hc2 (Nat.le_of_ble_eq_true rfl)⟩ ?_
  refine tw_aload_n C dL_law_338 3 rfl rfl ?_
  obtain ⟨y56, hy56, hf⟩ := tw_bd hf
  refine tw_fVi (As := []) (stk := []) (Wc := twM cI cZ r y55) (Wr := twT cI cZ q y52.2.1 ++ [(o, .inl (cJ, 1, .inr (.inl y52.2.2)))]) (ws' := twLW cI cZ cJ q r o y52.2.1 y56.2 y52.2.2) C (isC := [26, 27, 28, 29, 30, 31, 32, 33, 34, 35, 36, 37, 38, 39, 40]) (isR := [0, 1, 2, 3, 4, 5, 6, 7, 8, 9, 10, 11, 12, 13, 14, 15, 16, 17, 18, 19, 20, 21, 22, 23, 24, 25, 41]) (ix := [0, 1, 2, 3, 4, 5, 6, 7, 8, 9, 10, 11, 12, 13, 14, 15, 16, 17, 18, 19, 20, 21, 22, 23, 24, 25, 27, 28, 29, 30, 31, 32, 33, 34, 35, 36, 37, 38, 39, 40, 41, 26]) (ki := [0, 1]) ⟨rfl, rfl, rfl, rfl, by decide, rfl, rfl⟩ rfl (c_X8_thrown l dC dI cI cZ r hy56) (cwV 0 C.hts gL_law_X8_thrown rfl rfl rfl hd_X8_thrown ⟨Nat.le_of_ble_eq_true rfl, Nat.le_of_ble_eq_true rfl⟩) 26 (ci := 8) rfl rfl rfl rfl rfl (Nat.le_of_ble_eq_true rfl) dL_law_339 ⟨Nat.le_trans hc1 (Nat.le_of_ble_eq_true rfl), Nat.le_trans hc2 (Nat.le_of_ble_eq_true rfl)⟩ ?_
  refine tw_iload C dL_law_342 0 rfl ?_
  refine tw_icmp_eq (tgt := 349) C dL_law_344 (by decide) (fun c57 => ?_) (fun c57 => ?_)
  · have hf := tw_pos hf c57
    refine tw_goto (tgt := 1270) C dL_law_349 (by decide) ?_
    refine tw_iinc (v := (v4 + 4)) (lv' := [(4, .int (v4 + 4)), (5, .int y52.1), (0, .ref b), (1, .ref (q 0)), (2, .ref (r 0)), (3, .ref o)]) C dL_law_1270 (k := 5) rfl rfl (by decide) rfl ?_
    refine tw_goto (tgt := 23) C dL_law_1273 (by decide) ?_
    refine tw_sub [2, 3, 4, 5, 0] rfl ?_
    exact hrec (v4 + 4) y52.2.1 y56.2 y52.2.2 hf
  · have hf := tw_neg hf c57
    refine tw_iconst (v := 0) C dL_law_347 (by decide) ?_
    cases hf
set_option maxRecDepth 20000 in
theorem k_law_4 {p : Program} {l : Launch} {e : Env} {s : State} {m : MethodId} {args : Array Value} {below : List Frame} {meth : Method} {c : Code} {Q : State → Prop} {dC : Nat → ClassId} {dI : Nat → Nat → Nat} {cI cZ cJ : ClassId} {q r : Nat → Nat} {o b L nc ns : Nat} {xs : Nat → Int32} {A : Nat → Prop} {rec : Int32 → twS → twS → (Nat → Int64) → Option Int32} (C : twC p s m args meth c cL_law 7 RL wsL_law (dC, dI) (twY3 cI cZ cJ) A) (hE : ∀ (pc k n : Nat) (lv : List (Nat × Value)) (ws : va_W), decode cL_law pc = .ok (.ireturn, 1) → k ≤ 1070 → n ≤ 8788 → twG p l e room_1 s m args below meth c k n Q (dC, dI) A 7 ws pc lv [.int 1]) (hX : va_X b L xs s s.heap) (hbl : b < s.heap.size) (hbA : ¬ A b) (X0 : twXf A s s.heap) (hNc : twNcs s) (hl0 : l.stackTraces = false) (hc1 : nc + 1 ≤ 1070) (hc2 : ns + 6 ≤ 8788) (hrec : ∀ (v4 : Int32) (a b9 : twS) (w : Nat → Int64), rec v4 a b9 w = some 1 → twG p l e room_1 s m args below meth c (nc + 1) (ns + 6) Q (dC, dI) A 7 (twLW cI cZ cJ q r o a b9 w) 23 [(0, .ref b), (1, .ref (q 0)), (2, .ref (r 0)), (3, .ref o), (4, .int v4)] []) : ∀ (v4 : Int32) (a b9 : twS) (w : Nat → Int64), f_law_4 rec L xs v4 a b9 w = some 1 → twG p l e room_1 s m args below meth c nc ns Q (dC, dI) A 7 (twLW cI cZ cJ q r o a b9 w) 352 [(0, .ref b), (1, .ref (q 0)), (2, .ref (r 0)), (3, .ref o), (4, .int v4)] [] := by
  intro v4 a b9 w hf
  unfold f_law_4 at hf
  refine tw_aload_n C dL_law_352 1 rfl rfl ?_
  refine tw_aload_n C dL_law_353 0 rfl rfl ?_
  refine tw_iload C dL_law_354 4 rfl ?_
  refine tw_iconst (v := 1) C dL_law_356 (by decide) ?_
  refine tw_iadd C dL_law_357 ?_
  obtain ⟨hb58, hf⟩ := tw_ck hf
  refine tw_sld C hX hbl hbA hb58 dL_law_358 ?_
  refine tw_aload_n C dL_law_359 0 rfl rfl ?_
  refine tw_iload C dL_law_360 4 rfl ?_
  refine tw_iconst (v := 2) C dL_law_362 (by decide) ?_
  refine tw_iadd C dL_law_363 ?_
  obtain ⟨hb59, hf⟩ := tw_ck hf
  refine tw_sld C hX hbl hbA hb59 dL_law_364 ?_
  refine tw_if_eq (tgt := 372) C dL_law_365 (by decide) (fun c60 => ?_) (fun c60 => ?_)
  · have hf := tw_pos hf c60
    refine tw_iconst (v := 0) C dL_law_372 (by decide) ?_
    refine tw_aload_n C dL_law_373 3 rfl rfl ?_
    obtain ⟨y61, hy61, hf⟩ := tw_bd hf
    refine tw_wS (As := [.ref (q 0), .int (xs (v4 + 1).toNatClampNeg), .int 0, .ref o]) (stk := []) (Wc := twTO cI cZ cJ q o a w) (Wr := twM cI cZ r b9) (ws' := twLW cI cZ cJ q r o y61.2.1 b9 y61.2.2) C X0 hNc (isC := [0, 1, 2, 3, 4, 5, 6, 7, 8, 9, 10, 11, 12, 13, 14, 15, 16, 17, 18, 19, 20, 21, 22, 23, 24, 25, 41]) (isR := [26, 27, 28, 29, 30, 31, 32, 33, 34, 35, 36, 37, 38, 39, 40]) (ix := [15, 16, 17, 18, 19, 20, 21, 22, 23, 24, 25, 26, 27, 28, 29, 30, 31, 32, 33, 34, 35, 36, 37, 38, 39, 40, 0, 1, 2, 3, 4, 5, 6, 7, 8, 9, 10, 11, 12, 13, 14, 41]) (ki := [0, 1, 2]) ⟨rfl, rfl, rfl, rfl, by decide, rfl, rfl⟩ rfl (w_L_feed l hl0 dC dI cI cZ cJ q o hy61) (vx_cwSW 4 C.hts gL_law_L_feed rfl rfl rfl hd_L_feed ⟨Nat.le_of_ble_eq_true rfl, Nat.le_of_ble_eq_true rfl⟩) rfl rfl (Nat.le_of_ble_eq_true rfl) dL_law_374 ⟨Nat.le_trans hc1 (Nat.le_of_ble_eq_true rfl), Nat.le_trans hc2 (Nat.le_of_ble_eq_true rfl)⟩ ?_
    refine tw_istore (lv' := [(5, .int y61.1), (0, .ref b), (1, .ref (q 0)), (2, .ref (r 0)), (3, .ref o), (4, .int v4)]) C dL_law_377 (by decide) rfl ?_
    refine tw_aload_n C dL_law_379 3 rfl rfl ?_
    refine tw_aload_n C dL_law_380 1 rfl rfl ?_
    refine tw_iload C dL_law_381 5 rfl ?_
    refine tw_iconst (v := 1) C dL_law_383 (by decide) ?_
    refine tw_iadd C dL_law_384 ?_
    obtain ⟨hb62, hf⟩ := tw_ck hf
    refine tw_sld C hX hbl hbA hb62 dL_law_385 ?_
    refine tw_aload_n C dL_law_386 1 rfl rfl ?_
    refine tw_iload C dL_law_387 5 rfl ?_
    refine tw_iconst (v := 2) C dL_law_389 (by decide) ?_
    refine tw_iadd C dL_law_390 ?_
    obtain ⟨hb63, hf⟩ := tw_ck hf
    refine tw_sld C hX hbl hbA hb63 dL_law_391 ?_
    refine tw_if_eq (tgt := 399) C dL_law_392 (by decide) (fun c64 => ?_) (fun c64 => ?_)
    · have hf := tw_pos hf c64
      refine tw_iconst (v := 0) C dL_law_399 (by decide) ?_
      obtain ⟨y65, hy65, hf⟩ := tw_bd hf
      refine tw_fVi (As := [.int (xs (v4 + 1).toNatClampNeg), .int 0]) (stk := []) (Wc := twM cI cZ r b9) (Wr := twT cI cZ q y61.2.1 ++ [(o, .inl (cJ, 1, .inr (.inl y61.2.2)))]) (ws' := twLW cI cZ cJ q r o y61.2.1 y65.2 y61.2.2) C (isC := [26, 27, 28, 29, 30, 31, 32, 33, 34, 35, 36, 37, 38, 39, 40]) (isR := [0, 1, 2, 3, 4, 5, 6, 7, 8, 9, 10, 11, 12, 13, 14, 15, 16, 17, 18, 19, 20, 21, 22, 23, 24, 25, 41]) (ix := [0, 1, 2, 3, 4, 5, 6, 7, 8, 9, 10, 11, 12, 13, 14, 15, 16, 17, 18, 19, 20, 21, 22, 23, 24, 25, 27, 28, 29, 30, 31, 32, 33, 34, 35, 36, 37, 38, 39, 40, 41, 26]) (ki := [0, 1]) ⟨rfl, rfl, rfl, rfl, by decide, rfl, rfl⟩ rfl (c_X8_feed l dC dI cI cZ r hy65) (cwV 2 C.hts gL_law_X8_feed rfl rfl rfl hd_X8_feed ⟨Nat.le_of_ble_eq_true rfl, Nat.le_of_ble_eq_true rfl⟩) 26 (ci := 8) rfl rfl rfl rfl rfl (Nat.le_of_ble_eq_true rfl) dL_law_400 ⟨Nat.le_trans hc1 (Nat.le_of_ble_eq_true rfl), Nat.le_trans hc2 (Nat.le_of_ble_eq_true rfl)⟩ ?_
      refine tw_istore (lv' := [(6, .int y65.1), (5, .int y61.1), (0, .ref b), (1, .ref (q 0)), (2, .ref (r 0)), (3, .ref o), (4, .int v4)]) C dL_law_403 (by decide) rfl ?_
      refine tw_aload_n C dL_law_405 4 rfl rfl ?_
      obtain ⟨y66, hy66, hf⟩ := tw_bd hf
      refine tw_fVi (As := []) (stk := []) (Wc := twM cI cZ r y65.2) (Wr := twT cI cZ q y61.2.1 ++ [(o, .inl (cJ, 1, .inr (.inl y61.2.2)))]) (ws' := twLW cI cZ cJ q r o y61.2.1 y66.2 y61.2.2) C (isC := [26, 27, 28, 29, 30, 31, 32, 33, 34, 35, 36, 37, 38, 39, 40]) (isR := [0, 1, 2, 3, 4, 5, 6, 7, 8, 9, 10, 11, 12, 13, 14, 15, 16, 17, 18, 19, 20, 21, 22, 23, 24, 25, 41]) (ix := [0, 1, 2, 3, 4, 5, 6, 7, 8, 9, 10, 11, 12, 13, 14, 15, 16, 17, 18, 19, 20, 21, 22, 23, 24, 25, 27, 28, 29, 30, 31, 32, 33, 34, 35, 36, 37, 38, 39, 40, 41, 26]) (ki := [0, 1]) ⟨rfl, rfl, rfl, rfl, by decide, rfl, rfl⟩ rfl (c_X8_thrown l dC dI cI cZ r hy66) (cwV 0 C.hts gL_law_X8_thrown rfl rfl rfl hd_X8_thrown ⟨Nat.le_of_ble_eq_true rfl, Nat.le_of_ble_eq_true rfl⟩) 26 (ci := 8) rfl rfl rfl rfl rfl (Nat.le_of_ble_eq_true rfl) dL_law_406 ⟨Nat.le_trans hc1 (Nat.le_of_ble_eq_true rfl), Nat.le_trans hc2 (Nat.le_of_ble_eq_true rfl)⟩ ?_
      refine tw_iload C dL_law_409 1 rfl ?_
      refine tw_icmp_eq (tgt := 416) C dL_law_411 (by decide) (fun c67 => ?_) (fun c67 => ?_)
      · have hf := tw_pos hf c67
        refine tw_iload C dL_law_416 1 rfl ?_
        refine tw_if_ne (tgt := 440) C dL_law_418 (by decide) (fun c68 => ?_) (fun c68 => ?_)
        · have hf := tw_neg hf c68
          refine tw_goto (tgt := 1270) C dL_law_440 (by decide) ?_
          refine tw_iinc (v := (v4 + 4)) (lv' := [(4, .int (v4 + 4)), (6, .int y65.1), (5, .int y61.1), (0, .ref b), (1, .ref (q 0)), (2, .ref (r 0)), (3, .ref o)]) C dL_law_1270 (k := 6) rfl rfl (by decide) rfl ?_
          refine tw_goto (tgt := 23) C dL_law_1273 (by decide) ?_
          refine tw_sub [3, 4, 5, 6, 0] rfl ?_
          exact hrec (v4 + 4) y61.2.1 y66.2 y61.2.2 hf
        · have hf := tw_pos hf c68
          refine tw_aload_n C dL_law_421 5 rfl rfl ?_
          refine tw_iconst (v := 0) C dL_law_422 (by decide) ?_
          refine tw_lald C 41 2 (tw_in (i := 0) (n := 1) (by decide)) rfl rfl dL_law_423 ?_
          refine tw_iload C dL_law_424 0 rfl ?_
          refine tw_if_eq (tgt := 433) C dL_law_426 (by decide) (fun c69 => ?_) (fun c69 => ?_)
          · have hf := tw_pos hf c69
            refine tw_lconst (v := 0) C dL_law_433 (by decide) ?_
            refine tw_lcmp C dL_law_434 ?_
            refine tw_if_eq (tgt := 440) C dL_law_435 (by decide) (fun c70 => ?_) (fun c70 => ?_)
            · have hf := tw_pos hf c70
              refine tw_goto (tgt := 1270) C dL_law_440 (by decide) ?_
              refine tw_iinc (v := (v4 + 4)) (lv' := [(4, .int (v4 + 4)), (6, .int y65.1), (5, .int y61.1), (0, .ref b), (1, .ref (q 0)), (2, .ref (r 0)), (3, .ref o)]) C dL_law_1270 (k := 6) rfl rfl (by decide) rfl ?_
              refine tw_goto (tgt := 23) C dL_law_1273 (by decide) ?_
              refine tw_sub [3, 4, 5, 6, 0] rfl ?_
              exact hrec (v4 + 4) y61.2.1 y66.2 y61.2.2 hf
            · have hf := tw_neg hf c70
              refine tw_iconst (v := 0) C dL_law_438 (by decide) ?_
              cases hf
          · have hf := tw_neg hf c69
            refine tw_lconst (v := 1) C dL_law_429 (by decide) ?_
            refine tw_goto (tgt := 434) C dL_law_430 (by decide) ?_
            refine tw_lcmp C dL_law_434 ?_
            refine tw_if_eq (tgt := 440) C dL_law_435 (by decide) (fun c71 => ?_) (fun c71 => ?_)
            · have hf := tw_pos hf c71
              refine tw_goto (tgt := 1270) C dL_law_440 (by decide) ?_
              refine tw_iinc (v := (v4 + 4)) (lv' := [(4, .int (v4 + 4)), (6, .int y65.1), (5, .int y61.1), (0, .ref b), (1, .ref (q 0)), (2, .ref (r 0)), (3, .ref o)]) C dL_law_1270 (k := 6) rfl rfl (by decide) rfl ?_
              refine tw_goto (tgt := 23) C dL_law_1273 (by decide) ?_
              refine tw_sub [3, 4, 5, 6, 0] rfl ?_
              exact hrec (v4 + 4) y61.2.1 y66.2 y61.2.2 hf
            · have hf := tw_neg hf c71
              refine tw_iconst (v := 0) C dL_law_438 (by decide) ?_
              cases hf
      · have hf := tw_neg hf c67
        refine tw_iconst (v := 0) C dL_law_414 (by decide) ?_
        cases hf
    · have hf := tw_neg hf c64
      refine tw_iconst (v := 1) C dL_law_395 (by decide) ?_
      refine tw_goto (tgt := 400) C dL_law_396 (by decide) ?_
      obtain ⟨y72, hy72, hf⟩ := tw_bd hf
      refine tw_fVi (As := [.int (xs (v4 + 1).toNatClampNeg), .int 1]) (stk := []) (Wc := twM cI cZ r b9) (Wr := twT cI cZ q y61.2.1 ++ [(o, .inl (cJ, 1, .inr (.inl y61.2.2)))]) (ws' := twLW cI cZ cJ q r o y61.2.1 y72.2 y61.2.2) C (isC := [26, 27, 28, 29, 30, 31, 32, 33, 34, 35, 36, 37, 38, 39, 40]) (isR := [0, 1, 2, 3, 4, 5, 6, 7, 8, 9, 10, 11, 12, 13, 14, 15, 16, 17, 18, 19, 20, 21, 22, 23, 24, 25, 41]) (ix := [0, 1, 2, 3, 4, 5, 6, 7, 8, 9, 10, 11, 12, 13, 14, 15, 16, 17, 18, 19, 20, 21, 22, 23, 24, 25, 27, 28, 29, 30, 31, 32, 33, 34, 35, 36, 37, 38, 39, 40, 41, 26]) (ki := [0, 1]) ⟨rfl, rfl, rfl, rfl, by decide, rfl, rfl⟩ rfl (c_X8_feed l dC dI cI cZ r hy72) (cwV 2 C.hts gL_law_X8_feed rfl rfl rfl hd_X8_feed ⟨Nat.le_of_ble_eq_true rfl, Nat.le_of_ble_eq_true rfl⟩) 26 (ci := 8) rfl rfl rfl rfl rfl (Nat.le_of_ble_eq_true rfl) dL_law_400 ⟨Nat.le_trans hc1 (Nat.le_of_ble_eq_true rfl), Nat.le_trans hc2 (Nat.le_of_ble_eq_true rfl)⟩ ?_
      refine tw_istore (lv' := [(6, .int y72.1), (5, .int y61.1), (0, .ref b), (1, .ref (q 0)), (2, .ref (r 0)), (3, .ref o), (4, .int v4)]) C dL_law_403 (by decide) rfl ?_
      refine tw_aload_n C dL_law_405 4 rfl rfl ?_
      obtain ⟨y73, hy73, hf⟩ := tw_bd hf
      refine tw_fVi (As := []) (stk := []) (Wc := twM cI cZ r y72.2) (Wr := twT cI cZ q y61.2.1 ++ [(o, .inl (cJ, 1, .inr (.inl y61.2.2)))]) (ws' := twLW cI cZ cJ q r o y61.2.1 y73.2 y61.2.2) C (isC := [26, 27, 28, 29, 30, 31, 32, 33, 34, 35, 36, 37, 38, 39, 40]) (isR := [0, 1, 2, 3, 4, 5, 6, 7, 8, 9, 10, 11, 12, 13, 14, 15, 16, 17, 18, 19, 20, 21, 22, 23, 24, 25, 41]) (ix := [0, 1, 2, 3, 4, 5, 6, 7, 8, 9, 10, 11, 12, 13, 14, 15, 16, 17, 18, 19, 20, 21, 22, 23, 24, 25, 27, 28, 29, 30, 31, 32, 33, 34, 35, 36, 37, 38, 39, 40, 41, 26]) (ki := [0, 1]) ⟨rfl, rfl, rfl, rfl, by decide, rfl, rfl⟩ rfl (c_X8_thrown l dC dI cI cZ r hy73) (cwV 0 C.hts gL_law_X8_thrown rfl rfl rfl hd_X8_thrown ⟨Nat.le_of_ble_eq_true rfl, Nat.le_of_ble_eq_true rfl⟩) 26 (ci := 8) rfl rfl rfl rfl rfl (Nat.le_of_ble_eq_true rfl) dL_law_406 ⟨Nat.le_trans hc1 (Nat.le_of_ble_eq_true rfl), Nat.le_trans hc2 (Nat.le_of_ble_eq_true rfl)⟩ ?_
      refine tw_iload C dL_law_409 1 rfl ?_
      refine tw_icmp_eq (tgt := 416) C dL_law_411 (by decide) (fun c74 => ?_) (fun c74 => ?_)
      · have hf := tw_pos hf c74
        refine tw_iload C dL_law_416 1 rfl ?_
        refine tw_if_ne (tgt := 440) C dL_law_418 (by decide) (fun c75 => ?_) (fun c75 => ?_)
        · have hf := tw_neg hf c75
          refine tw_goto (tgt := 1270) C dL_law_440 (by decide) ?_
          refine tw_iinc (v := (v4 + 4)) (lv' := [(4, .int (v4 + 4)), (6, .int y72.1), (5, .int y61.1), (0, .ref b), (1, .ref (q 0)), (2, .ref (r 0)), (3, .ref o)]) C dL_law_1270 (k := 6) rfl rfl (by decide) rfl ?_
          refine tw_goto (tgt := 23) C dL_law_1273 (by decide) ?_
          refine tw_sub [3, 4, 5, 6, 0] rfl ?_
          exact hrec (v4 + 4) y61.2.1 y73.2 y61.2.2 hf
        · have hf := tw_pos hf c75
          refine tw_aload_n C dL_law_421 5 rfl rfl ?_
          refine tw_iconst (v := 0) C dL_law_422 (by decide) ?_
          refine tw_lald C 41 2 (tw_in (i := 0) (n := 1) (by decide)) rfl rfl dL_law_423 ?_
          refine tw_iload C dL_law_424 0 rfl ?_
          refine tw_if_eq (tgt := 433) C dL_law_426 (by decide) (fun c76 => ?_) (fun c76 => ?_)
          · have hf := tw_pos hf c76
            refine tw_lconst (v := 0) C dL_law_433 (by decide) ?_
            refine tw_lcmp C dL_law_434 ?_
            refine tw_if_eq (tgt := 440) C dL_law_435 (by decide) (fun c77 => ?_) (fun c77 => ?_)
            · have hf := tw_pos hf c77
              refine tw_goto (tgt := 1270) C dL_law_440 (by decide) ?_
              refine tw_iinc (v := (v4 + 4)) (lv' := [(4, .int (v4 + 4)), (6, .int y72.1), (5, .int y61.1), (0, .ref b), (1, .ref (q 0)), (2, .ref (r 0)), (3, .ref o)]) C dL_law_1270 (k := 6) rfl rfl (by decide) rfl ?_
              refine tw_goto (tgt := 23) C dL_law_1273 (by decide) ?_
              refine tw_sub [3, 4, 5, 6, 0] rfl ?_
              exact hrec (v4 + 4) y61.2.1 y73.2 y61.2.2 hf
            · have hf := tw_neg hf c77
              refine tw_iconst (v := 0) C dL_law_438 (by decide) ?_
              cases hf
          · have hf := tw_neg hf c76
            refine tw_lconst (v := 1) C dL_law_429 (by decide) ?_
            refine tw_goto (tgt := 434) C dL_law_430 (by decide) ?_
            refine tw_lcmp C dL_law_434 ?_
            refine tw_if_eq (tgt := 440) C dL_law_435 (by decide) (fun c78 => ?_) (fun c78 => ?_)
            · have hf := tw_pos hf c78
              refine tw_goto (tgt := 1270) C dL_law_440 (by decide) ?_
              refine tw_iinc (v := (v4 + 4)) (lv' := [(4, .int (v4 + 4)), (6, .int y72.1), (5, .int y61.1), (0, .ref b), (1, .ref (q 0)), (2, .ref (r 0)), (3, .ref o)]) C dL_law_1270 (k := 6) rfl rfl (by decide) rfl ?_
              refine tw_goto (tgt := 23) C dL_law_1273 (by decide) ?_
              refine tw_sub [3, 4, 5, 6, 0] rfl ?_
              exact hrec (v4 + 4) y61.2.1 y73.2 y61.2.2 hf
            · have hf := tw_neg hf c78
              refine tw_iconst (v := 0) C dL_law_438 (by decide) ?_
              cases hf
      · have hf := tw_neg hf c74
        refine tw_iconst (v := 0) C dL_law_414 (by decide) ?_
        cases hf
  · have hf := tw_neg hf c60
    refine tw_iconst (v := 1) C dL_law_368 (by decide) ?_
    refine tw_goto (tgt := 373) C dL_law_369 (by decide) ?_
    refine tw_aload_n C dL_law_373 3 rfl rfl ?_
    obtain ⟨y79, hy79, hf⟩ := tw_bd hf
    refine tw_wS (As := [.ref (q 0), .int (xs (v4 + 1).toNatClampNeg), .int 1, .ref o]) (stk := []) (Wc := twTO cI cZ cJ q o a w) (Wr := twM cI cZ r b9) (ws' := twLW cI cZ cJ q r o y79.2.1 b9 y79.2.2) C X0 hNc (isC := [0, 1, 2, 3, 4, 5, 6, 7, 8, 9, 10, 11, 12, 13, 14, 15, 16, 17, 18, 19, 20, 21, 22, 23, 24, 25, 41]) (isR := [26, 27, 28, 29, 30, 31, 32, 33, 34, 35, 36, 37, 38, 39, 40]) (ix := [15, 16, 17, 18, 19, 20, 21, 22, 23, 24, 25, 26, 27, 28, 29, 30, 31, 32, 33, 34, 35, 36, 37, 38, 39, 40, 0, 1, 2, 3, 4, 5, 6, 7, 8, 9, 10, 11, 12, 13, 14, 41]) (ki := [0, 1, 2]) ⟨rfl, rfl, rfl, rfl, by decide, rfl, rfl⟩ rfl (w_L_feed l hl0 dC dI cI cZ cJ q o hy79) (vx_cwSW 4 C.hts gL_law_L_feed rfl rfl rfl hd_L_feed ⟨Nat.le_of_ble_eq_true rfl, Nat.le_of_ble_eq_true rfl⟩) rfl rfl (Nat.le_of_ble_eq_true rfl) dL_law_374 ⟨Nat.le_trans hc1 (Nat.le_of_ble_eq_true rfl), Nat.le_trans hc2 (Nat.le_of_ble_eq_true rfl)⟩ ?_
    refine tw_istore (lv' := [(5, .int y79.1), (0, .ref b), (1, .ref (q 0)), (2, .ref (r 0)), (3, .ref o), (4, .int v4)]) C dL_law_377 (by decide) rfl ?_
    refine tw_aload_n C dL_law_379 3 rfl rfl ?_
    refine tw_aload_n C dL_law_380 1 rfl rfl ?_
    refine tw_iload C dL_law_381 5 rfl ?_
    refine tw_iconst (v := 1) C dL_law_383 (by decide) ?_
    refine tw_iadd C dL_law_384 ?_
    obtain ⟨hb80, hf⟩ := tw_ck hf
    refine tw_sld C hX hbl hbA hb80 dL_law_385 ?_
    refine tw_aload_n C dL_law_386 1 rfl rfl ?_
    refine tw_iload C dL_law_387 5 rfl ?_
    refine tw_iconst (v := 2) C dL_law_389 (by decide) ?_
    refine tw_iadd C dL_law_390 ?_
    obtain ⟨hb81, hf⟩ := tw_ck hf
    refine tw_sld C hX hbl hbA hb81 dL_law_391 ?_
    refine tw_if_eq (tgt := 399) C dL_law_392 (by decide) (fun c82 => ?_) (fun c82 => ?_)
    · have hf := tw_pos hf c82
      refine tw_iconst (v := 0) C dL_law_399 (by decide) ?_
      obtain ⟨y83, hy83, hf⟩ := tw_bd hf
      refine tw_fVi (As := [.int (xs (v4 + 1).toNatClampNeg), .int 0]) (stk := []) (Wc := twM cI cZ r b9) (Wr := twT cI cZ q y79.2.1 ++ [(o, .inl (cJ, 1, .inr (.inl y79.2.2)))]) (ws' := twLW cI cZ cJ q r o y79.2.1 y83.2 y79.2.2) C (isC := [26, 27, 28, 29, 30, 31, 32, 33, 34, 35, 36, 37, 38, 39, 40]) (isR := [0, 1, 2, 3, 4, 5, 6, 7, 8, 9, 10, 11, 12, 13, 14, 15, 16, 17, 18, 19, 20, 21, 22, 23, 24, 25, 41]) (ix := [0, 1, 2, 3, 4, 5, 6, 7, 8, 9, 10, 11, 12, 13, 14, 15, 16, 17, 18, 19, 20, 21, 22, 23, 24, 25, 27, 28, 29, 30, 31, 32, 33, 34, 35, 36, 37, 38, 39, 40, 41, 26]) (ki := [0, 1]) ⟨rfl, rfl, rfl, rfl, by decide, rfl, rfl⟩ rfl (c_X8_feed l dC dI cI cZ r hy83) (cwV 2 C.hts gL_law_X8_feed rfl rfl rfl hd_X8_feed ⟨Nat.le_of_ble_eq_true rfl, Nat.le_of_ble_eq_true rfl⟩) 26 (ci := 8) rfl rfl rfl rfl rfl (Nat.le_of_ble_eq_true rfl) dL_law_400 ⟨Nat.le_trans hc1 (Nat.le_of_ble_eq_true rfl), Nat.le_trans hc2 (Nat.le_of_ble_eq_true rfl)⟩ ?_
      refine tw_istore (lv' := [(6, .int y83.1), (5, .int y79.1), (0, .ref b), (1, .ref (q 0)), (2, .ref (r 0)), (3, .ref o), (4, .int v4)]) C dL_law_403 (by decide) rfl ?_
      refine tw_aload_n C dL_law_405 4 rfl rfl ?_
      obtain ⟨y84, hy84, hf⟩ := tw_bd hf
      refine tw_fVi (As := []) (stk := []) (Wc := twM cI cZ r y83.2) (Wr := twT cI cZ q y79.2.1 ++ [(o, .inl (cJ, 1, .inr (.inl y79.2.2)))]) (ws' := twLW cI cZ cJ q r o y79.2.1 y84.2 y79.2.2) C (isC := [26, 27, 28, 29, 30, 31, 32, 33, 34, 35, 36, 37, 38, 39, 40]) (isR := [0, 1, 2, 3, 4, 5, 6, 7, 8, 9, 10, 11, 12, 13, 14, 15, 16, 17, 18, 19, 20, 21, 22, 23, 24, 25, 41]) (ix := [0, 1, 2, 3, 4, 5, 6, 7, 8, 9, 10, 11, 12, 13, 14, 15, 16, 17, 18, 19, 20, 21, 22, 23, 24, 25, 27, 28, 29, 30, 31, 32, 33, 34, 35, 36, 37, 38, 39, 40, 41, 26]) (ki := [0, 1]) ⟨rfl, rfl, rfl, rfl, by decide, rfl, rfl⟩ rfl (c_X8_thrown l dC dI cI cZ r hy84) (cwV 0 C.hts gL_law_X8_thrown rfl rfl rfl hd_X8_thrown ⟨Nat.le_of_ble_eq_true rfl, Nat.le_of_ble_eq_true rfl⟩) 26 (ci := 8) rfl rfl rfl rfl rfl (Nat.le_of_ble_eq_true rfl) dL_law_406 ⟨Nat.le_trans hc1 (Nat.le_of_ble_eq_true rfl), Nat.le_trans hc2 (Nat.le_of_ble_eq_true rfl)⟩ ?_
      refine tw_iload C dL_law_409 1 rfl ?_
      refine tw_icmp_eq (tgt := 416) C dL_law_411 (by decide) (fun c85 => ?_) (fun c85 => ?_)
      · have hf := tw_pos hf c85
        refine tw_iload C dL_law_416 1 rfl ?_
        refine tw_if_ne (tgt := 440) C dL_law_418 (by decide) (fun c86 => ?_) (fun c86 => ?_)
        · have hf := tw_neg hf c86
          refine tw_goto (tgt := 1270) C dL_law_440 (by decide) ?_
          refine tw_iinc (v := (v4 + 4)) (lv' := [(4, .int (v4 + 4)), (6, .int y83.1), (5, .int y79.1), (0, .ref b), (1, .ref (q 0)), (2, .ref (r 0)), (3, .ref o)]) C dL_law_1270 (k := 6) rfl rfl (by decide) rfl ?_
          refine tw_goto (tgt := 23) C dL_law_1273 (by decide) ?_
          refine tw_sub [3, 4, 5, 6, 0] rfl ?_
          exact hrec (v4 + 4) y79.2.1 y84.2 y79.2.2 hf
        · have hf := tw_pos hf c86
          refine tw_aload_n C dL_law_421 5 rfl rfl ?_
          refine tw_iconst (v := 0) C dL_law_422 (by decide) ?_
          refine tw_lald C 41 2 (tw_in (i := 0) (n := 1) (by decide)) rfl rfl dL_law_423 ?_
          refine tw_iload C dL_law_424 0 rfl ?_
          refine tw_if_eq (tgt := 433) C dL_law_426 (by decide) (fun c87 => ?_) (fun c87 => ?_)
          · have hf := tw_pos hf c87
            refine tw_lconst (v := 0) C dL_law_433 (by decide) ?_
            refine tw_lcmp C dL_law_434 ?_
            refine tw_if_eq (tgt := 440) C dL_law_435 (by decide) (fun c88 => ?_) (fun c88 => ?_)
            · have hf := tw_pos hf c88
              refine tw_goto (tgt := 1270) C dL_law_440 (by decide) ?_
              refine tw_iinc (v := (v4 + 4)) (lv' := [(4, .int (v4 + 4)), (6, .int y83.1), (5, .int y79.1), (0, .ref b), (1, .ref (q 0)), (2, .ref (r 0)), (3, .ref o)]) C dL_law_1270 (k := 6) rfl rfl (by decide) rfl ?_
              refine tw_goto (tgt := 23) C dL_law_1273 (by decide) ?_
              refine tw_sub [3, 4, 5, 6, 0] rfl ?_
              exact hrec (v4 + 4) y79.2.1 y84.2 y79.2.2 hf
            · have hf := tw_neg hf c88
              refine tw_iconst (v := 0) C dL_law_438 (by decide) ?_
              cases hf
          · have hf := tw_neg hf c87
            refine tw_lconst (v := 1) C dL_law_429 (by decide) ?_
            refine tw_goto (tgt := 434) C dL_law_430 (by decide) ?_
            refine tw_lcmp C dL_law_434 ?_
            refine tw_if_eq (tgt := 440) C dL_law_435 (by decide) (fun c89 => ?_) (fun c89 => ?_)
            · have hf := tw_pos hf c89
              refine tw_goto (tgt := 1270) C dL_law_440 (by decide) ?_
              refine tw_iinc (v := (v4 + 4)) (lv' := [(4, .int (v4 + 4)), (6, .int y83.1), (5, .int y79.1), (0, .ref b), (1, .ref (q 0)), (2, .ref (r 0)), (3, .ref o)]) C dL_law_1270 (k := 6) rfl rfl (by decide) rfl ?_
              refine tw_goto (tgt := 23) C dL_law_1273 (by decide) ?_
              refine tw_sub [3, 4, 5, 6, 0] rfl ?_
              exact hrec (v4 + 4) y79.2.1 y84.2 y79.2.2 hf
            · have hf := tw_neg hf c89
              refine tw_iconst (v := 0) C dL_law_438 (by decide) ?_
              cases hf
      · have hf := tw_neg hf c85
        refine tw_iconst (v := 0) C dL_law_414 (by decide) ?_
        cases hf
    · have hf := tw_neg hf c82
      refine tw_iconst (v := 1) C dL_law_395 (by decide) ?_
      refine tw_goto (tgt := 400) C dL_law_396 (by decide) ?_
      obtain ⟨y90, hy90, hf⟩ := tw_bd hf
      refine tw_fVi (As := [.int (xs (v4 + 1).toNatClampNeg), .int 1]) (stk := []) (Wc := twM cI cZ r b9) (Wr := twT cI cZ q y79.2.1 ++ [(o, .inl (cJ, 1, .inr (.inl y79.2.2)))]) (ws' := twLW cI cZ cJ q r o y79.2.1 y90.2 y79.2.2) C (isC := [26, 27, 28, 29, 30, 31, 32, 33, 34, 35, 36, 37, 38, 39, 40]) (isR := [0, 1, 2, 3, 4, 5, 6, 7, 8, 9, 10, 11, 12, 13, 14, 15, 16, 17, 18, 19, 20, 21, 22, 23, 24, 25, 41]) (ix := [0, 1, 2, 3, 4, 5, 6, 7, 8, 9, 10, 11, 12, 13, 14, 15, 16, 17, 18, 19, 20, 21, 22, 23, 24, 25, 27, 28, 29, 30, 31, 32, 33, 34, 35, 36, 37, 38, 39, 40, 41, 26]) (ki := [0, 1]) ⟨rfl, rfl, rfl, rfl, by decide, rfl, rfl⟩ rfl (c_X8_feed l dC dI cI cZ r hy90) (cwV 2 C.hts gL_law_X8_feed rfl rfl rfl hd_X8_feed ⟨Nat.le_of_ble_eq_true rfl, Nat.le_of_ble_eq_true rfl⟩) 26 (ci := 8) rfl rfl rfl rfl rfl (Nat.le_of_ble_eq_true rfl) dL_law_400 ⟨Nat.le_trans hc1 (Nat.le_of_ble_eq_true rfl), Nat.le_trans hc2 (Nat.le_of_ble_eq_true rfl)⟩ ?_
      refine tw_istore (lv' := [(6, .int y90.1), (5, .int y79.1), (0, .ref b), (1, .ref (q 0)), (2, .ref (r 0)), (3, .ref o), (4, .int v4)]) C dL_law_403 (by decide) rfl ?_
      refine tw_aload_n C dL_law_405 4 rfl rfl ?_
      obtain ⟨y91, hy91, hf⟩ := tw_bd hf
      refine tw_fVi (As := []) (stk := []) (Wc := twM cI cZ r y90.2) (Wr := twT cI cZ q y79.2.1 ++ [(o, .inl (cJ, 1, .inr (.inl y79.2.2)))]) (ws' := twLW cI cZ cJ q r o y79.2.1 y91.2 y79.2.2) C (isC := [26, 27, 28, 29, 30, 31, 32, 33, 34, 35, 36, 37, 38, 39, 40]) (isR := [0, 1, 2, 3, 4, 5, 6, 7, 8, 9, 10, 11, 12, 13, 14, 15, 16, 17, 18, 19, 20, 21, 22, 23, 24, 25, 41]) (ix := [0, 1, 2, 3, 4, 5, 6, 7, 8, 9, 10, 11, 12, 13, 14, 15, 16, 17, 18, 19, 20, 21, 22, 23, 24, 25, 27, 28, 29, 30, 31, 32, 33, 34, 35, 36, 37, 38, 39, 40, 41, 26]) (ki := [0, 1]) ⟨rfl, rfl, rfl, rfl, by decide, rfl, rfl⟩ rfl (c_X8_thrown l dC dI cI cZ r hy91) (cwV 0 C.hts gL_law_X8_thrown rfl rfl rfl hd_X8_thrown ⟨Nat.le_of_ble_eq_true rfl, Nat.le_of_ble_eq_true rfl⟩) 26 (ci := 8) rfl rfl rfl rfl rfl (Nat.le_of_ble_eq_true rfl) dL_law_406 ⟨Nat.le_trans hc1 (Nat.le_of_ble_eq_true rfl), Nat.le_trans hc2 (Nat.le_of_ble_eq_true rfl)⟩ ?_
      refine tw_iload C dL_law_409 1 rfl ?_
      refine tw_icmp_eq (tgt := 416) C dL_law_411 (by decide) (fun c92 => ?_) (fun c92 => ?_)
      · have hf := tw_pos hf c92
        refine tw_iload C dL_law_416 1 rfl ?_
        refine tw_if_ne (tgt := 440) C dL_law_418 (by decide) (fun c93 => ?_) (fun c93 => ?_)
        · have hf := tw_neg hf c93
          refine tw_goto (tgt := 1270) C dL_law_440 (by decide) ?_
          refine tw_iinc (v := (v4 + 4)) (lv' := [(4, .int (v4 + 4)), (6, .int y90.1), (5, .int y79.1), (0, .ref b), (1, .ref (q 0)), (2, .ref (r 0)), (3, .ref o)]) C dL_law_1270 (k := 6) rfl rfl (by decide) rfl ?_
          refine tw_goto (tgt := 23) C dL_law_1273 (by decide) ?_
          refine tw_sub [3, 4, 5, 6, 0] rfl ?_
          exact hrec (v4 + 4) y79.2.1 y91.2 y79.2.2 hf
        · have hf := tw_pos hf c93
          refine tw_aload_n C dL_law_421 5 rfl rfl ?_
          refine tw_iconst (v := 0) C dL_law_422 (by decide) ?_
          refine tw_lald C 41 2 (tw_in (i := 0) (n := 1) (by decide)) rfl rfl dL_law_423 ?_
          refine tw_iload C dL_law_424 0 rfl ?_
          refine tw_if_eq (tgt := 433) C dL_law_426 (by decide) (fun c94 => ?_) (fun c94 => ?_)
          · have hf := tw_pos hf c94
            refine tw_lconst (v := 0) C dL_law_433 (by decide) ?_
            refine tw_lcmp C dL_law_434 ?_
            refine tw_if_eq (tgt := 440) C dL_law_435 (by decide) (fun c95 => ?_) (fun c95 => ?_)
            · have hf := tw_pos hf c95
              refine tw_goto (tgt := 1270) C dL_law_440 (by decide) ?_
              refine tw_iinc (v := (v4 + 4)) (lv' := [(4, .int (v4 + 4)), (6, .int y90.1), (5, .int y79.1), (0, .ref b), (1, .ref (q 0)), (2, .ref (r 0)), (3, .ref o)]) C dL_law_1270 (k := 6) rfl rfl (by decide) rfl ?_
              refine tw_goto (tgt := 23) C dL_law_1273 (by decide) ?_
              refine tw_sub [3, 4, 5, 6, 0] rfl ?_
              exact hrec (v4 + 4) y79.2.1 y91.2 y79.2.2 hf
            · have hf := tw_neg hf c95
              refine tw_iconst (v := 0) C dL_law_438 (by decide) ?_
              cases hf
          · have hf := tw_neg hf c94
            refine tw_lconst (v := 1) C dL_law_429 (by decide) ?_
            refine tw_goto (tgt := 434) C dL_law_430 (by decide) ?_
            refine tw_lcmp C dL_law_434 ?_
            refine tw_if_eq (tgt := 440) C dL_law_435 (by decide) (fun c96 => ?_) (fun c96 => ?_)
            · have hf := tw_pos hf c96
              refine tw_goto (tgt := 1270) C dL_law_440 (by decide) ?_
              refine tw_iinc (v := (v4 + 4)) (lv' := [(4, .int (v4 + 4)), (6, .int y90.1), (5, .int y79.1), (0, .ref b), (1, .ref (q 0)), (2, .ref (r 0)), (3, .ref o)]) C dL_law_1270 (k := 6) rfl rfl (by decide) rfl ?_
              refine tw_goto (tgt := 23) C dL_law_1273 (by decide) ?_
              refine tw_sub [3, 4, 5, 6, 0] rfl ?_
              exact hrec (v4 + 4) y79.2.1 y91.2 y79.2.2 hf
            · have hf := tw_neg hf c96
              refine tw_iconst (v := 0) C dL_law_438 (by decide) ?_
              cases hf
      · have hf := tw_neg hf c92
        refine tw_iconst (v := 0) C dL_law_414 (by decide) ?_
        cases hf
set_option maxRecDepth 20000 in
theorem k_law_5 {p : Program} {l : Launch} {e : Env} {s : State} {m : MethodId} {args : Array Value} {below : List Frame} {meth : Method} {c : Code} {Q : State → Prop} {dC : Nat → ClassId} {dI : Nat → Nat → Nat} {cI cZ cJ : ClassId} {q r : Nat → Nat} {o b L nc ns : Nat} {xs : Nat → Int32} {A : Nat → Prop} {rec : Int32 → twS → twS → (Nat → Int64) → Option Int32} (C : twC p s m args meth c cL_law 7 RL wsL_law (dC, dI) (twY3 cI cZ cJ) A) (hE : ∀ (pc k n : Nat) (lv : List (Nat × Value)) (ws : va_W), decode cL_law pc = .ok (.ireturn, 1) → k ≤ 1070 → n ≤ 8788 → twG p l e room_1 s m args below meth c k n Q (dC, dI) A 7 ws pc lv [.int 1]) (hX : va_X b L xs s s.heap) (hbl : b < s.heap.size) (hbA : ¬ A b) (X0 : twXf A s s.heap) (hNc : twNcs s) (hl0 : l.stackTraces = false) (hc1 : nc + 1 ≤ 1070) (hc2 : ns + 6 ≤ 8788) (hrec : ∀ (v4 : Int32) (a b9 : twS) (w : Nat → Int64), rec v4 a b9 w = some 1 → twG p l e room_1 s m args below meth c (nc + 1) (ns + 6) Q (dC, dI) A 7 (twLW cI cZ cJ q r o a b9 w) 23 [(0, .ref b), (1, .ref (q 0)), (2, .ref (r 0)), (3, .ref o), (4, .int v4)] []) : ∀ (v4 : Int32) (a b9 : twS) (w : Nat → Int64), f_law_5 rec L xs v4 a b9 w = some 1 → twG p l e room_1 s m args below meth c nc ns Q (dC, dI) A 7 (twLW cI cZ cJ q r o a b9 w) 443 [(0, .ref b), (1, .ref (q 0)), (2, .ref (r 0)), (3, .ref o), (4, .int v4)] [] := by
  intro v4 a b9 w hf
  unfold f_law_5 at hf
  refine tw_aload_n C dL_law_443 1 rfl rfl ?_
  refine tw_aload_n C dL_law_444 0 rfl rfl ?_
  refine tw_iload C dL_law_445 4 rfl ?_
  refine tw_iconst (v := 1) C dL_law_447 (by decide) ?_
  refine tw_iadd C dL_law_448 ?_
  obtain ⟨hb97, hf⟩ := tw_ck hf
  refine tw_sld C hX hbl hbA hb97 dL_law_449 ?_
  refine tw_aload_n C dL_law_450 0 rfl rfl ?_
  refine tw_iload C dL_law_451 4 rfl ?_
  refine tw_iconst (v := 2) C dL_law_453 (by decide) ?_
  refine tw_iadd C dL_law_454 ?_
  obtain ⟨hb98, hf⟩ := tw_ck hf
  refine tw_sld C hX hbl hbA hb98 dL_law_455 ?_
  refine tw_if_eq (tgt := 463) C dL_law_456 (by decide) (fun c99 => ?_) (fun c99 => ?_)
  · have hf := tw_pos hf c99
    refine tw_iconst (v := 0) C dL_law_463 (by decide) ?_
    refine tw_aload_n C dL_law_464 3 rfl rfl ?_
    obtain ⟨y100, hy100, hf⟩ := tw_bd hf
    refine tw_wS (As := [.ref (q 0), .int (xs (v4 + 1).toNatClampNeg), .int 0, .ref o]) (stk := []) (Wc := twTO cI cZ cJ q o a w) (Wr := twM cI cZ r b9) (ws' := twLW cI cZ cJ q r o y100.2.1 b9 y100.2.2) C X0 hNc (isC := [0, 1, 2, 3, 4, 5, 6, 7, 8, 9, 10, 11, 12, 13, 14, 15, 16, 17, 18, 19, 20, 21, 22, 23, 24, 25, 41]) (isR := [26, 27, 28, 29, 30, 31, 32, 33, 34, 35, 36, 37, 38, 39, 40]) (ix := [15, 16, 17, 18, 19, 20, 21, 22, 23, 24, 25, 26, 27, 28, 29, 30, 31, 32, 33, 34, 35, 36, 37, 38, 39, 40, 0, 1, 2, 3, 4, 5, 6, 7, 8, 9, 10, 11, 12, 13, 14, 41]) (ki := [0, 1, 2]) ⟨rfl, rfl, rfl, rfl, by decide, rfl, rfl⟩ rfl (w_L_failFan l hl0 dC dI cI cZ cJ q o hy100) (vx_cwSW 4 C.hts gL_law_L_failFan rfl rfl rfl hd_L_failFan ⟨Nat.le_of_ble_eq_true rfl, Nat.le_of_ble_eq_true rfl⟩) rfl rfl (Nat.le_of_ble_eq_true rfl) dL_law_465 ⟨Nat.le_trans hc1 (Nat.le_of_ble_eq_true rfl), Nat.le_trans hc2 (Nat.le_of_ble_eq_true rfl)⟩ ?_
    refine tw_istore (lv' := [(5, .int y100.1), (0, .ref b), (1, .ref (q 0)), (2, .ref (r 0)), (3, .ref o), (4, .int v4)]) C dL_law_468 (by decide) rfl ?_
    refine tw_aload_n C dL_law_470 3 rfl rfl ?_
    refine tw_aload_n C dL_law_471 1 rfl rfl ?_
    refine tw_iload C dL_law_472 5 rfl ?_
    refine tw_iconst (v := 1) C dL_law_474 (by decide) ?_
    refine tw_iadd C dL_law_475 ?_
    obtain ⟨hb101, hf⟩ := tw_ck hf
    refine tw_sld C hX hbl hbA hb101 dL_law_476 ?_
    refine tw_aload_n C dL_law_477 1 rfl rfl ?_
    refine tw_iload C dL_law_478 5 rfl ?_
    refine tw_iconst (v := 2) C dL_law_480 (by decide) ?_
    refine tw_iadd C dL_law_481 ?_
    obtain ⟨hb102, hf⟩ := tw_ck hf
    refine tw_sld C hX hbl hbA hb102 dL_law_482 ?_
    refine tw_if_eq (tgt := 490) C dL_law_483 (by decide) (fun c103 => ?_) (fun c103 => ?_)
    · have hf := tw_pos hf c103
      refine tw_iconst (v := 0) C dL_law_490 (by decide) ?_
      obtain ⟨y104, hy104, hf⟩ := tw_bd hf
      refine tw_fVi (As := [.int (xs (v4 + 1).toNatClampNeg), .int 0]) (stk := []) (Wc := twM cI cZ r b9) (Wr := twT cI cZ q y100.2.1 ++ [(o, .inl (cJ, 1, .inr (.inl y100.2.2)))]) (ws' := twLW cI cZ cJ q r o y100.2.1 y104.2 y100.2.2) C (isC := [26, 27, 28, 29, 30, 31, 32, 33, 34, 35, 36, 37, 38, 39, 40]) (isR := [0, 1, 2, 3, 4, 5, 6, 7, 8, 9, 10, 11, 12, 13, 14, 15, 16, 17, 18, 19, 20, 21, 22, 23, 24, 25, 41]) (ix := [0, 1, 2, 3, 4, 5, 6, 7, 8, 9, 10, 11, 12, 13, 14, 15, 16, 17, 18, 19, 20, 21, 22, 23, 24, 25, 27, 28, 29, 30, 31, 32, 33, 34, 35, 36, 37, 38, 39, 40, 41, 26]) (ki := [0, 1]) ⟨rfl, rfl, rfl, rfl, by decide, rfl, rfl⟩ rfl (c_X8_failFan l dC dI cI cZ r hy104) (cwV 2 C.hts gL_law_X8_failFan rfl rfl rfl hd_X8_failFan ⟨Nat.le_of_ble_eq_true rfl, Nat.le_of_ble_eq_true rfl⟩) 26 (ci := 8) rfl rfl rfl rfl rfl (Nat.le_of_ble_eq_true rfl) dL_law_491 ⟨Nat.le_trans hc1 (Nat.le_of_ble_eq_true rfl), Nat.le_trans hc2 (Nat.le_of_ble_eq_true rfl)⟩ ?_
      refine tw_istore (lv' := [(6, .int y104.1), (5, .int y100.1), (0, .ref b), (1, .ref (q 0)), (2, .ref (r 0)), (3, .ref o), (4, .int v4)]) C dL_law_494 (by decide) rfl ?_
      refine tw_aload_n C dL_law_496 4 rfl rfl ?_
      obtain ⟨y105, hy105, hf⟩ := tw_bd hf
      refine tw_fVi (As := []) (stk := []) (Wc := twM cI cZ r y104.2) (Wr := twT cI cZ q y100.2.1 ++ [(o, .inl (cJ, 1, .inr (.inl y100.2.2)))]) (ws' := twLW cI cZ cJ q r o y100.2.1 y105.2 y100.2.2) C (isC := [26, 27, 28, 29, 30, 31, 32, 33, 34, 35, 36, 37, 38, 39, 40]) (isR := [0, 1, 2, 3, 4, 5, 6, 7, 8, 9, 10, 11, 12, 13, 14, 15, 16, 17, 18, 19, 20, 21, 22, 23, 24, 25, 41]) (ix := [0, 1, 2, 3, 4, 5, 6, 7, 8, 9, 10, 11, 12, 13, 14, 15, 16, 17, 18, 19, 20, 21, 22, 23, 24, 25, 27, 28, 29, 30, 31, 32, 33, 34, 35, 36, 37, 38, 39, 40, 41, 26]) (ki := [0, 1]) ⟨rfl, rfl, rfl, rfl, by decide, rfl, rfl⟩ rfl (c_X8_thrown l dC dI cI cZ r hy105) (cwV 0 C.hts gL_law_X8_thrown rfl rfl rfl hd_X8_thrown ⟨Nat.le_of_ble_eq_true rfl, Nat.le_of_ble_eq_true rfl⟩) 26 (ci := 8) rfl rfl rfl rfl rfl (Nat.le_of_ble_eq_true rfl) dL_law_497 ⟨Nat.le_trans hc1 (Nat.le_of_ble_eq_true rfl), Nat.le_trans hc2 (Nat.le_of_ble_eq_true rfl)⟩ ?_
      refine tw_iload C dL_law_500 1 rfl ?_
      refine tw_icmp_eq (tgt := 507) C dL_law_502 (by decide) (fun c106 => ?_) (fun c106 => ?_)
      · have hf := tw_pos hf c106
        refine tw_iload C dL_law_507 1 rfl ?_
        refine tw_if_ne (tgt := 524) C dL_law_509 (by decide) (fun c107 => ?_) (fun c107 => ?_)
        · have hf := tw_neg hf c107
          refine tw_goto (tgt := 1270) C dL_law_524 (by decide) ?_
          refine tw_iinc (v := (v4 + 4)) (lv' := [(4, .int (v4 + 4)), (6, .int y104.1), (5, .int y100.1), (0, .ref b), (1, .ref (q 0)), (2, .ref (r 0)), (3, .ref o)]) C dL_law_1270 (k := 6) rfl rfl (by decide) rfl ?_
          refine tw_goto (tgt := 23) C dL_law_1273 (by decide) ?_
          refine tw_sub [3, 4, 5, 6, 0] rfl ?_
          exact hrec (v4 + 4) y100.2.1 y105.2 y100.2.2 hf
        · have hf := tw_pos hf c107
          refine tw_aload_n C dL_law_512 5 rfl rfl ?_
          refine tw_iconst (v := 0) C dL_law_513 (by decide) ?_
          refine tw_lald C 41 2 (tw_in (i := 0) (n := 1) (by decide)) rfl rfl dL_law_514 ?_
          refine tw_iload C dL_law_515 0 rfl ?_
          refine tw_i2l C dL_law_517 ?_
          refine tw_lcmp C dL_law_518 ?_
          refine tw_if_eq (tgt := 524) C dL_law_519 (by decide) (fun c108 => ?_) (fun c108 => ?_)
          · have hf := tw_pos hf c108
            refine tw_goto (tgt := 1270) C dL_law_524 (by decide) ?_
            refine tw_iinc (v := (v4 + 4)) (lv' := [(4, .int (v4 + 4)), (6, .int y104.1), (5, .int y100.1), (0, .ref b), (1, .ref (q 0)), (2, .ref (r 0)), (3, .ref o)]) C dL_law_1270 (k := 6) rfl rfl (by decide) rfl ?_
            refine tw_goto (tgt := 23) C dL_law_1273 (by decide) ?_
            refine tw_sub [3, 4, 5, 6, 0] rfl ?_
            exact hrec (v4 + 4) y100.2.1 y105.2 y100.2.2 hf
          · have hf := tw_neg hf c108
            refine tw_iconst (v := 0) C dL_law_522 (by decide) ?_
            cases hf
      · have hf := tw_neg hf c106
        refine tw_iconst (v := 0) C dL_law_505 (by decide) ?_
        cases hf
    · have hf := tw_neg hf c103
      refine tw_iconst (v := 1) C dL_law_486 (by decide) ?_
      refine tw_goto (tgt := 491) C dL_law_487 (by decide) ?_
      obtain ⟨y109, hy109, hf⟩ := tw_bd hf
      refine tw_fVi (As := [.int (xs (v4 + 1).toNatClampNeg), .int 1]) (stk := []) (Wc := twM cI cZ r b9) (Wr := twT cI cZ q y100.2.1 ++ [(o, .inl (cJ, 1, .inr (.inl y100.2.2)))]) (ws' := twLW cI cZ cJ q r o y100.2.1 y109.2 y100.2.2) C (isC := [26, 27, 28, 29, 30, 31, 32, 33, 34, 35, 36, 37, 38, 39, 40]) (isR := [0, 1, 2, 3, 4, 5, 6, 7, 8, 9, 10, 11, 12, 13, 14, 15, 16, 17, 18, 19, 20, 21, 22, 23, 24, 25, 41]) (ix := [0, 1, 2, 3, 4, 5, 6, 7, 8, 9, 10, 11, 12, 13, 14, 15, 16, 17, 18, 19, 20, 21, 22, 23, 24, 25, 27, 28, 29, 30, 31, 32, 33, 34, 35, 36, 37, 38, 39, 40, 41, 26]) (ki := [0, 1]) ⟨rfl, rfl, rfl, rfl, by decide, rfl, rfl⟩ rfl (c_X8_failFan l dC dI cI cZ r hy109) (cwV 2 C.hts gL_law_X8_failFan rfl rfl rfl hd_X8_failFan ⟨Nat.le_of_ble_eq_true rfl, Nat.le_of_ble_eq_true rfl⟩) 26 (ci := 8) rfl rfl rfl rfl rfl (Nat.le_of_ble_eq_true rfl) dL_law_491 ⟨Nat.le_trans hc1 (Nat.le_of_ble_eq_true rfl), Nat.le_trans hc2 (Nat.le_of_ble_eq_true rfl)⟩ ?_
      refine tw_istore (lv' := [(6, .int y109.1), (5, .int y100.1), (0, .ref b), (1, .ref (q 0)), (2, .ref (r 0)), (3, .ref o), (4, .int v4)]) C dL_law_494 (by decide) rfl ?_
      refine tw_aload_n C dL_law_496 4 rfl rfl ?_
      obtain ⟨y110, hy110, hf⟩ := tw_bd hf
      refine tw_fVi (As := []) (stk := []) (Wc := twM cI cZ r y109.2) (Wr := twT cI cZ q y100.2.1 ++ [(o, .inl (cJ, 1, .inr (.inl y100.2.2)))]) (ws' := twLW cI cZ cJ q r o y100.2.1 y110.2 y100.2.2) C (isC := [26, 27, 28, 29, 30, 31, 32, 33, 34, 35, 36, 37, 38, 39, 40]) (isR := [0, 1, 2, 3, 4, 5, 6, 7, 8, 9, 10, 11, 12, 13, 14, 15, 16, 17, 18, 19, 20, 21, 22, 23, 24, 25, 41]) (ix := [0, 1, 2, 3, 4, 5, 6, 7, 8, 9, 10, 11, 12, 13, 14, 15, 16, 17, 18, 19, 20, 21, 22, 23, 24, 25, 27, 28, 29, 30, 31, 32, 33, 34, 35, 36, 37, 38, 39, 40, 41, 26]) (ki := [0, 1]) ⟨rfl, rfl, rfl, rfl, by decide, rfl, rfl⟩ rfl (c_X8_thrown l dC dI cI cZ r hy110) (cwV 0 C.hts gL_law_X8_thrown rfl rfl rfl hd_X8_thrown ⟨Nat.le_of_ble_eq_true rfl, Nat.le_of_ble_eq_true rfl⟩) 26 (ci := 8) rfl rfl rfl rfl rfl (Nat.le_of_ble_eq_true rfl) dL_law_497 ⟨Nat.le_trans hc1 (Nat.le_of_ble_eq_true rfl), Nat.le_trans hc2 (Nat.le_of_ble_eq_true rfl)⟩ ?_
      refine tw_iload C dL_law_500 1 rfl ?_
      refine tw_icmp_eq (tgt := 507) C dL_law_502 (by decide) (fun c111 => ?_) (fun c111 => ?_)
      · have hf := tw_pos hf c111
        refine tw_iload C dL_law_507 1 rfl ?_
        refine tw_if_ne (tgt := 524) C dL_law_509 (by decide) (fun c112 => ?_) (fun c112 => ?_)
        · have hf := tw_neg hf c112
          refine tw_goto (tgt := 1270) C dL_law_524 (by decide) ?_
          refine tw_iinc (v := (v4 + 4)) (lv' := [(4, .int (v4 + 4)), (6, .int y109.1), (5, .int y100.1), (0, .ref b), (1, .ref (q 0)), (2, .ref (r 0)), (3, .ref o)]) C dL_law_1270 (k := 6) rfl rfl (by decide) rfl ?_
          refine tw_goto (tgt := 23) C dL_law_1273 (by decide) ?_
          refine tw_sub [3, 4, 5, 6, 0] rfl ?_
          exact hrec (v4 + 4) y100.2.1 y110.2 y100.2.2 hf
        · have hf := tw_pos hf c112
          refine tw_aload_n C dL_law_512 5 rfl rfl ?_
          refine tw_iconst (v := 0) C dL_law_513 (by decide) ?_
          refine tw_lald C 41 2 (tw_in (i := 0) (n := 1) (by decide)) rfl rfl dL_law_514 ?_
          refine tw_iload C dL_law_515 0 rfl ?_
          refine tw_i2l C dL_law_517 ?_
          refine tw_lcmp C dL_law_518 ?_
          refine tw_if_eq (tgt := 524) C dL_law_519 (by decide) (fun c113 => ?_) (fun c113 => ?_)
          · have hf := tw_pos hf c113
            refine tw_goto (tgt := 1270) C dL_law_524 (by decide) ?_
            refine tw_iinc (v := (v4 + 4)) (lv' := [(4, .int (v4 + 4)), (6, .int y109.1), (5, .int y100.1), (0, .ref b), (1, .ref (q 0)), (2, .ref (r 0)), (3, .ref o)]) C dL_law_1270 (k := 6) rfl rfl (by decide) rfl ?_
            refine tw_goto (tgt := 23) C dL_law_1273 (by decide) ?_
            refine tw_sub [3, 4, 5, 6, 0] rfl ?_
            exact hrec (v4 + 4) y100.2.1 y110.2 y100.2.2 hf
          · have hf := tw_neg hf c113
            refine tw_iconst (v := 0) C dL_law_522 (by decide) ?_
            cases hf
      · have hf := tw_neg hf c111
        refine tw_iconst (v := 0) C dL_law_505 (by decide) ?_
        cases hf
  · have hf := tw_neg hf c99
    refine tw_iconst (v := 1) C dL_law_459 (by decide) ?_
    refine tw_goto (tgt := 464) C dL_law_460 (by decide) ?_
    refine tw_aload_n C dL_law_464 3 rfl rfl ?_
    obtain ⟨y114, hy114, hf⟩ := tw_bd hf
    refine tw_wS (As := [.ref (q 0), .int (xs (v4 + 1).toNatClampNeg), .int 1, .ref o]) (stk := []) (Wc := twTO cI cZ cJ q o a w) (Wr := twM cI cZ r b9) (ws' := twLW cI cZ cJ q r o y114.2.1 b9 y114.2.2) C X0 hNc (isC := [0, 1, 2, 3, 4, 5, 6, 7, 8, 9, 10, 11, 12, 13, 14, 15, 16, 17, 18, 19, 20, 21, 22, 23, 24, 25, 41]) (isR := [26, 27, 28, 29, 30, 31, 32, 33, 34, 35, 36, 37, 38, 39, 40]) (ix := [15, 16, 17, 18, 19, 20, 21, 22, 23, 24, 25, 26, 27, 28, 29, 30, 31, 32, 33, 34, 35, 36, 37, 38, 39, 40, 0, 1, 2, 3, 4, 5, 6, 7, 8, 9, 10, 11, 12, 13, 14, 41]) (ki := [0, 1, 2]) ⟨rfl, rfl, rfl, rfl, by decide, rfl, rfl⟩ rfl (w_L_failFan l hl0 dC dI cI cZ cJ q o hy114) (vx_cwSW 4 C.hts gL_law_L_failFan rfl rfl rfl hd_L_failFan ⟨Nat.le_of_ble_eq_true rfl, Nat.le_of_ble_eq_true rfl⟩) rfl rfl (Nat.le_of_ble_eq_true rfl) dL_law_465 ⟨Nat.le_trans hc1 (Nat.le_of_ble_eq_true rfl), Nat.le_trans hc2 (Nat.le_of_ble_eq_true rfl)⟩ ?_
    refine tw_istore (lv' := [(5, .int y114.1), (0, .ref b), (1, .ref (q 0)), (2, .ref (r 0)), (3, .ref o), (4, .int v4)]) C dL_law_468 (by decide) rfl ?_
    refine tw_aload_n C dL_law_470 3 rfl rfl ?_
    refine tw_aload_n C dL_law_471 1 rfl rfl ?_
    refine tw_iload C dL_law_472 5 rfl ?_
    refine tw_iconst (v := 1) C dL_law_474 (by decide) ?_
    refine tw_iadd C dL_law_475 ?_
    obtain ⟨hb115, hf⟩ := tw_ck hf
    refine tw_sld C hX hbl hbA hb115 dL_law_476 ?_
    refine tw_aload_n C dL_law_477 1 rfl rfl ?_
    refine tw_iload C dL_law_478 5 rfl ?_
    refine tw_iconst (v := 2) C dL_law_480 (by decide) ?_
    refine tw_iadd C dL_law_481 ?_
    obtain ⟨hb116, hf⟩ := tw_ck hf
    refine tw_sld C hX hbl hbA hb116 dL_law_482 ?_
    refine tw_if_eq (tgt := 490) C dL_law_483 (by decide) (fun c117 => ?_) (fun c117 => ?_)
    · have hf := tw_pos hf c117
      refine tw_iconst (v := 0) C dL_law_490 (by decide) ?_
      obtain ⟨y118, hy118, hf⟩ := tw_bd hf
      refine tw_fVi (As := [.int (xs (v4 + 1).toNatClampNeg), .int 0]) (stk := []) (Wc := twM cI cZ r b9) (Wr := twT cI cZ q y114.2.1 ++ [(o, .inl (cJ, 1, .inr (.inl y114.2.2)))]) (ws' := twLW cI cZ cJ q r o y114.2.1 y118.2 y114.2.2) C (isC := [26, 27, 28, 29, 30, 31, 32, 33, 34, 35, 36, 37, 38, 39, 40]) (isR := [0, 1, 2, 3, 4, 5, 6, 7, 8, 9, 10, 11, 12, 13, 14, 15, 16, 17, 18, 19, 20, 21, 22, 23, 24, 25, 41]) (ix := [0, 1, 2, 3, 4, 5, 6, 7, 8, 9, 10, 11, 12, 13, 14, 15, 16, 17, 18, 19, 20, 21, 22, 23, 24, 25, 27, 28, 29, 30, 31, 32, 33, 34, 35, 36, 37, 38, 39, 40, 41, 26]) (ki := [0, 1]) ⟨rfl, rfl, rfl, rfl, by decide, rfl, rfl⟩ rfl (c_X8_failFan l dC dI cI cZ r hy118) (cwV 2 C.hts gL_law_X8_failFan rfl rfl rfl hd_X8_failFan ⟨Nat.le_of_ble_eq_true rfl, Nat.le_of_ble_eq_true rfl⟩) 26 (ci := 8) rfl rfl rfl rfl rfl (Nat.le_of_ble_eq_true rfl) dL_law_491 ⟨Nat.le_trans hc1 (Nat.le_of_ble_eq_true rfl), Nat.le_trans hc2 (Nat.le_of_ble_eq_true rfl)⟩ ?_
      refine tw_istore (lv' := [(6, .int y118.1), (5, .int y114.1), (0, .ref b), (1, .ref (q 0)), (2, .ref (r 0)), (3, .ref o), (4, .int v4)]) C dL_law_494 (by decide) rfl ?_
      refine tw_aload_n C dL_law_496 4 rfl rfl ?_
      obtain ⟨y119, hy119, hf⟩ := tw_bd hf
      refine tw_fVi (As := []) (stk := []) (Wc := twM cI cZ r y118.2) (Wr := twT cI cZ q y114.2.1 ++ [(o, .inl (cJ, 1, .inr (.inl y114.2.2)))]) (ws' := twLW cI cZ cJ q r o y114.2.1 y119.2 y114.2.2) C (isC := [26, 27, 28, 29, 30, 31, 32, 33, 34, 35, 36, 37, 38, 39, 40]) (isR := [0, 1, 2, 3, 4, 5, 6, 7, 8, 9, 10, 11, 12, 13, 14, 15, 16, 17, 18, 19, 20, 21, 22, 23, 24, 25, 41]) (ix := [0, 1, 2, 3, 4, 5, 6, 7, 8, 9, 10, 11, 12, 13, 14, 15, 16, 17, 18, 19, 20, 21, 22, 23, 24, 25, 27, 28, 29, 30, 31, 32, 33, 34, 35, 36, 37, 38, 39, 40, 41, 26]) (ki := [0, 1]) ⟨rfl, rfl, rfl, rfl, by decide, rfl, rfl⟩ rfl (c_X8_thrown l dC dI cI cZ r hy119) (cwV 0 C.hts gL_law_X8_thrown rfl rfl rfl hd_X8_thrown ⟨Nat.le_of_ble_eq_true rfl, Nat.le_of_ble_eq_true rfl⟩) 26 (ci := 8) rfl rfl rfl rfl rfl (Nat.le_of_ble_eq_true rfl) dL_law_497 ⟨Nat.le_trans hc1 (Nat.le_of_ble_eq_true rfl), Nat.le_trans hc2 (Nat.le_of_ble_eq_true rfl)⟩ ?_
      refine tw_iload C dL_law_500 1 rfl ?_
      refine tw_icmp_eq (tgt := 507) C dL_law_502 (by decide) (fun c120 => ?_) (fun c120 => ?_)
      · have hf := tw_pos hf c120
        refine tw_iload C dL_law_507 1 rfl ?_
        refine tw_if_ne (tgt := 524) C dL_law_509 (by decide) (fun c121 => ?_) (fun c121 => ?_)
        · have hf := tw_neg hf c121
          refine tw_goto (tgt := 1270) C dL_law_524 (by decide) ?_
          refine tw_iinc (v := (v4 + 4)) (lv' := [(4, .int (v4 + 4)), (6, .int y118.1), (5, .int y114.1), (0, .ref b), (1, .ref (q 0)), (2, .ref (r 0)), (3, .ref o)]) C dL_law_1270 (k := 6) rfl rfl (by decide) rfl ?_
          refine tw_goto (tgt := 23) C dL_law_1273 (by decide) ?_
          refine tw_sub [3, 4, 5, 6, 0] rfl ?_
          exact hrec (v4 + 4) y114.2.1 y119.2 y114.2.2 hf
        · have hf := tw_pos hf c121
          refine tw_aload_n C dL_law_512 5 rfl rfl ?_
          refine tw_iconst (v := 0) C dL_law_513 (by decide) ?_
          refine tw_lald C 41 2 (tw_in (i := 0) (n := 1) (by decide)) rfl rfl dL_law_514 ?_
          refine tw_iload C dL_law_515 0 rfl ?_
          refine tw_i2l C dL_law_517 ?_
          refine tw_lcmp C dL_law_518 ?_
          refine tw_if_eq (tgt := 524) C dL_law_519 (by decide) (fun c122 => ?_) (fun c122 => ?_)
          · have hf := tw_pos hf c122
            refine tw_goto (tgt := 1270) C dL_law_524 (by decide) ?_
            refine tw_iinc (v := (v4 + 4)) (lv' := [(4, .int (v4 + 4)), (6, .int y118.1), (5, .int y114.1), (0, .ref b), (1, .ref (q 0)), (2, .ref (r 0)), (3, .ref o)]) C dL_law_1270 (k := 6) rfl rfl (by decide) rfl ?_
            refine tw_goto (tgt := 23) C dL_law_1273 (by decide) ?_
            refine tw_sub [3, 4, 5, 6, 0] rfl ?_
            exact hrec (v4 + 4) y114.2.1 y119.2 y114.2.2 hf
          · have hf := tw_neg hf c122
            refine tw_iconst (v := 0) C dL_law_522 (by decide) ?_
            cases hf
      · have hf := tw_neg hf c120
        refine tw_iconst (v := 0) C dL_law_505 (by decide) ?_
        cases hf
    · have hf := tw_neg hf c117
      refine tw_iconst (v := 1) C dL_law_486 (by decide) ?_
      refine tw_goto (tgt := 491) C dL_law_487 (by decide) ?_
      obtain ⟨y123, hy123, hf⟩ := tw_bd hf
      refine tw_fVi (As := [.int (xs (v4 + 1).toNatClampNeg), .int 1]) (stk := []) (Wc := twM cI cZ r b9) (Wr := twT cI cZ q y114.2.1 ++ [(o, .inl (cJ, 1, .inr (.inl y114.2.2)))]) (ws' := twLW cI cZ cJ q r o y114.2.1 y123.2 y114.2.2) C (isC := [26, 27, 28, 29, 30, 31, 32, 33, 34, 35, 36, 37, 38, 39, 40]) (isR := [0, 1, 2, 3, 4, 5, 6, 7, 8, 9, 10, 11, 12, 13, 14, 15, 16, 17, 18, 19, 20, 21, 22, 23, 24, 25, 41]) (ix := [0, 1, 2, 3, 4, 5, 6, 7, 8, 9, 10, 11, 12, 13, 14, 15, 16, 17, 18, 19, 20, 21, 22, 23, 24, 25, 27, 28, 29, 30, 31, 32, 33, 34, 35, 36, 37, 38, 39, 40, 41, 26]) (ki := [0, 1]) ⟨rfl, rfl, rfl, rfl, by decide, rfl, rfl⟩ rfl (c_X8_failFan l dC dI cI cZ r hy123) (cwV 2 C.hts gL_law_X8_failFan rfl rfl rfl hd_X8_failFan ⟨Nat.le_of_ble_eq_true rfl, Nat.le_of_ble_eq_true rfl⟩) 26 (ci := 8) rfl rfl rfl rfl rfl (Nat.le_of_ble_eq_true rfl) dL_law_491 ⟨Nat.le_trans hc1 (Nat.le_of_ble_eq_true rfl), Nat.le_trans hc2 (Nat.le_of_ble_eq_true rfl)⟩ ?_
      refine tw_istore (lv' := [(6, .int y123.1), (5, .int y114.1), (0, .ref b), (1, .ref (q 0)), (2, .ref (r 0)), (3, .ref o), (4, .int v4)]) C dL_law_494 (by decide) rfl ?_
      refine tw_aload_n C dL_law_496 4 rfl rfl ?_
      obtain ⟨y124, hy124, hf⟩ := tw_bd hf
      refine tw_fVi (As := []) (stk := []) (Wc := twM cI cZ r y123.2) (Wr := twT cI cZ q y114.2.1 ++ [(o, .inl (cJ, 1, .inr (.inl y114.2.2)))]) (ws' := twLW cI cZ cJ q r o y114.2.1 y124.2 y114.2.2) C (isC := [26, 27, 28, 29, 30, 31, 32, 33, 34, 35, 36, 37, 38, 39, 40]) (isR := [0, 1, 2, 3, 4, 5, 6, 7, 8, 9, 10, 11, 12, 13, 14, 15, 16, 17, 18, 19, 20, 21, 22, 23, 24, 25, 41]) (ix := [0, 1, 2, 3, 4, 5, 6, 7, 8, 9, 10, 11, 12, 13, 14, 15, 16, 17, 18, 19, 20, 21, 22, 23, 24, 25, 27, 28, 29, 30, 31, 32, 33, 34, 35, 36, 37, 38, 39, 40, 41, 26]) (ki := [0, 1]) ⟨rfl, rfl, rfl, rfl, by decide, rfl, rfl⟩ rfl (c_X8_thrown l dC dI cI cZ r hy124) (cwV 0 C.hts gL_law_X8_thrown rfl rfl rfl hd_X8_thrown ⟨Nat.le_of_ble_eq_true rfl, Nat.le_of_ble_eq_true rfl⟩) 26 (ci := 8) rfl rfl rfl rfl rfl (Nat.le_of_ble_eq_true rfl) dL_law_497 ⟨Nat.le_trans hc1 (Nat.le_of_ble_eq_true rfl), Nat.le_trans hc2 (Nat.le_of_ble_eq_true rfl)⟩ ?_
      refine tw_iload C dL_law_500 1 rfl ?_
      refine tw_icmp_eq (tgt := 507) C dL_law_502 (by decide) (fun c125 => ?_) (fun c125 => ?_)
      · have hf := tw_pos hf c125
        refine tw_iload C dL_law_507 1 rfl ?_
        refine tw_if_ne (tgt := 524) C dL_law_509 (by decide) (fun c126 => ?_) (fun c126 => ?_)
        · have hf := tw_neg hf c126
          refine tw_goto (tgt := 1270) C dL_law_524 (by decide) ?_
          refine tw_iinc (v := (v4 + 4)) (lv' := [(4, .int (v4 + 4)), (6, .int y123.1), (5, .int y114.1), (0, .ref b), (1, .ref (q 0)), (2, .ref (r 0)), (3, .ref o)]) C dL_law_1270 (k := 6) rfl rfl (by decide) rfl ?_
          refine tw_goto (tgt := 23) C dL_law_1273 (by decide) ?_
          refine tw_sub [3, 4, 5, 6, 0] rfl ?_
          exact hrec (v4 + 4) y114.2.1 y124.2 y114.2.2 hf
        · have hf := tw_pos hf c126
          refine tw_aload_n C dL_law_512 5 rfl rfl ?_
          refine tw_iconst (v := 0) C dL_law_513 (by decide) ?_
          refine tw_lald C 41 2 (tw_in (i := 0) (n := 1) (by decide)) rfl rfl dL_law_514 ?_
          refine tw_iload C dL_law_515 0 rfl ?_
          refine tw_i2l C dL_law_517 ?_
          refine tw_lcmp C dL_law_518 ?_
          refine tw_if_eq (tgt := 524) C dL_law_519 (by decide) (fun c127 => ?_) (fun c127 => ?_)
          · have hf := tw_pos hf c127
            refine tw_goto (tgt := 1270) C dL_law_524 (by decide) ?_
            refine tw_iinc (v := (v4 + 4)) (lv' := [(4, .int (v4 + 4)), (6, .int y123.1), (5, .int y114.1), (0, .ref b), (1, .ref (q 0)), (2, .ref (r 0)), (3, .ref o)]) C dL_law_1270 (k := 6) rfl rfl (by decide) rfl ?_
            refine tw_goto (tgt := 23) C dL_law_1273 (by decide) ?_
            refine tw_sub [3, 4, 5, 6, 0] rfl ?_
            exact hrec (v4 + 4) y114.2.1 y124.2 y114.2.2 hf
          · have hf := tw_neg hf c127
            refine tw_iconst (v := 0) C dL_law_522 (by decide) ?_
            cases hf
      · have hf := tw_neg hf c125
        refine tw_iconst (v := 0) C dL_law_505 (by decide) ?_
        cases hf
set_option maxRecDepth 20000 in
theorem k_law_6 {p : Program} {l : Launch} {e : Env} {s : State} {m : MethodId} {args : Array Value} {below : List Frame} {meth : Method} {c : Code} {Q : State → Prop} {dC : Nat → ClassId} {dI : Nat → Nat → Nat} {cI cZ cJ : ClassId} {q r : Nat → Nat} {o b L nc ns : Nat} {xs : Nat → Int32} {A : Nat → Prop} {rec : Int32 → twS → twS → (Nat → Int64) → Option Int32} (C : twC p s m args meth c cL_law 7 RL wsL_law (dC, dI) (twY3 cI cZ cJ) A) (hE : ∀ (pc k n : Nat) (lv : List (Nat × Value)) (ws : va_W), decode cL_law pc = .ok (.ireturn, 1) → k ≤ 1070 → n ≤ 8788 → twG p l e room_1 s m args below meth c k n Q (dC, dI) A 7 ws pc lv [.int 1]) (hX : va_X b L xs s s.heap) (hbl : b < s.heap.size) (hbA : ¬ A b) (X0 : twXf A s s.heap) (hNc : twNcs s) (hl0 : l.stackTraces = false) (hc1 : nc + 1 ≤ 1070) (hc2 : ns + 6 ≤ 8788) (hrec : ∀ (v4 : Int32) (a b9 : twS) (w : Nat → Int64), rec v4 a b9 w = some 1 → twG p l e room_1 s m args below meth c (nc + 1) (ns + 6) Q (dC, dI) A 7 (twLW cI cZ cJ q r o a b9 w) 23 [(0, .ref b), (1, .ref (q 0)), (2, .ref (r 0)), (3, .ref o), (4, .int v4)] []) : ∀ (v4 : Int32) (a b9 : twS) (w : Nat → Int64), f_law_6 rec L xs v4 a b9 w = some 1 → twG p l e room_1 s m args below meth c nc ns Q (dC, dI) A 7 (twLW cI cZ cJ q r o a b9 w) 527 [(0, .ref b), (1, .ref (q 0)), (2, .ref (r 0)), (3, .ref o), (4, .int v4)] [] := by
  intro v4 a b9 w hf
  unfold f_law_6 at hf
  refine tw_aload_n C dL_law_527 1 rfl rfl ?_
  refine tw_aload_n C dL_law_528 0 rfl rfl ?_
  refine tw_iload C dL_law_529 4 rfl ?_
  refine tw_iconst (v := 1) C dL_law_531 (by decide) ?_
  refine tw_iadd C dL_law_532 ?_
  obtain ⟨hb128, hf⟩ := tw_ck hf
  refine tw_sld C hX hbl hbA hb128 dL_law_533 ?_
  refine tw_aload_n C dL_law_534 0 rfl rfl ?_
  refine tw_iload C dL_law_535 4 rfl ?_
  refine tw_iconst (v := 2) C dL_law_537 (by decide) ?_
  refine tw_iadd C dL_law_538 ?_
  obtain ⟨hb129, hf⟩ := tw_ck hf
  refine tw_sld C hX hbl hbA hb129 dL_law_539 ?_
  refine tw_if_eq (tgt := 547) C dL_law_540 (by decide) (fun c130 => ?_) (fun c130 => ?_)
  · have hf := tw_pos hf c130
    refine tw_iconst (v := 0) C dL_law_547 (by decide) ?_
    refine tw_aload_n C dL_law_548 3 rfl rfl ?_
    obtain ⟨y131, hy131, hf⟩ := tw_bd hf
    refine tw_wS (As := [.ref (q 0), .int (xs (v4 + 1).toNatClampNeg), .int 0, .ref o]) (stk := []) (Wc := twTO cI cZ cJ q o a w) (Wr := twM cI cZ r b9) (ws' := twLW cI cZ cJ q r o y131.2.1 b9 y131.2.2) C X0 hNc (isC := [0, 1, 2, 3, 4, 5, 6, 7, 8, 9, 10, 11, 12, 13, 14, 15, 16, 17, 18, 19, 20, 21, 22, 23, 24, 25, 41]) (isR := [26, 27, 28, 29, 30, 31, 32, 33, 34, 35, 36, 37, 38, 39, 40]) (ix := [15, 16, 17, 18, 19, 20, 21, 22, 23, 24, 25, 26, 27, 28, 29, 30, 31, 32, 33, 34, 35, 36, 37, 38, 39, 40, 0, 1, 2, 3, 4, 5, 6, 7, 8, 9, 10, 11, 12, 13, 14, 41]) (ki := [0, 1, 2]) ⟨rfl, rfl, rfl, rfl, by decide, rfl, rfl⟩ rfl (w_L_failDoor l hl0 dC dI cI cZ cJ q o hy131) (vx_cwSW 4 C.hts gL_law_L_failDoor rfl rfl rfl hd_L_failDoor ⟨Nat.le_of_ble_eq_true rfl, Nat.le_of_ble_eq_true rfl⟩) rfl rfl (Nat.le_of_ble_eq_true rfl) dL_law_549 ⟨Nat.le_trans hc1 (Nat.le_of_ble_eq_true rfl), Nat.le_trans hc2 (Nat.le_of_ble_eq_true rfl)⟩ ?_
    refine tw_istore (lv' := [(5, .int y131.1), (0, .ref b), (1, .ref (q 0)), (2, .ref (r 0)), (3, .ref o), (4, .int v4)]) C dL_law_552 (by decide) rfl ?_
    refine tw_aload_n C dL_law_554 3 rfl rfl ?_
    refine tw_aload_n C dL_law_555 1 rfl rfl ?_
    refine tw_iload C dL_law_556 5 rfl ?_
    refine tw_iconst (v := 1) C dL_law_558 (by decide) ?_
    refine tw_iadd C dL_law_559 ?_
    obtain ⟨hb132, hf⟩ := tw_ck hf
    refine tw_sld C hX hbl hbA hb132 dL_law_560 ?_
    refine tw_aload_n C dL_law_561 1 rfl rfl ?_
    refine tw_iload C dL_law_562 5 rfl ?_
    refine tw_iconst (v := 2) C dL_law_564 (by decide) ?_
    refine tw_iadd C dL_law_565 ?_
    obtain ⟨hb133, hf⟩ := tw_ck hf
    refine tw_sld C hX hbl hbA hb133 dL_law_566 ?_
    refine tw_if_eq (tgt := 574) C dL_law_567 (by decide) (fun c134 => ?_) (fun c134 => ?_)
    · have hf := tw_pos hf c134
      refine tw_iconst (v := 0) C dL_law_574 (by decide) ?_
      obtain ⟨y135, hy135, hf⟩ := tw_bd hf
      refine tw_fVi (As := [.int (xs (v4 + 1).toNatClampNeg), .int 0]) (stk := []) (Wc := twM cI cZ r b9) (Wr := twT cI cZ q y131.2.1 ++ [(o, .inl (cJ, 1, .inr (.inl y131.2.2)))]) (ws' := twLW cI cZ cJ q r o y131.2.1 y135.2 y131.2.2) C (isC := [26, 27, 28, 29, 30, 31, 32, 33, 34, 35, 36, 37, 38, 39, 40]) (isR := [0, 1, 2, 3, 4, 5, 6, 7, 8, 9, 10, 11, 12, 13, 14, 15, 16, 17, 18, 19, 20, 21, 22, 23, 24, 25, 41]) (ix := [0, 1, 2, 3, 4, 5, 6, 7, 8, 9, 10, 11, 12, 13, 14, 15, 16, 17, 18, 19, 20, 21, 22, 23, 24, 25, 27, 28, 29, 30, 31, 32, 33, 34, 35, 36, 37, 38, 39, 40, 41, 26]) (ki := [0, 1]) ⟨rfl, rfl, rfl, rfl, by decide, rfl, rfl⟩ rfl (c_X8_failDoor l dC dI cI cZ r hy135) (cwV 2 C.hts gL_law_X8_failDoor rfl rfl rfl hd_X8_failDoor ⟨Nat.le_of_ble_eq_true rfl, Nat.le_of_ble_eq_true rfl⟩) 26 (ci := 8) rfl rfl rfl rfl rfl (Nat.le_of_ble_eq_true rfl) dL_law_575 ⟨Nat.le_trans hc1 (Nat.le_of_ble_eq_true rfl), Nat.le_trans hc2 (Nat.le_of_ble_eq_true rfl)⟩ ?_
      refine tw_istore (lv' := [(6, .int y135.1), (5, .int y131.1), (0, .ref b), (1, .ref (q 0)), (2, .ref (r 0)), (3, .ref o), (4, .int v4)]) C dL_law_578 (by decide) rfl ?_
      refine tw_aload_n C dL_law_580 4 rfl rfl ?_
      obtain ⟨y136, hy136, hf⟩ := tw_bd hf
      refine tw_fVi (As := []) (stk := []) (Wc := twM cI cZ r y135.2) (Wr := twT cI cZ q y131.2.1 ++ [(o, .inl (cJ, 1, .inr (.inl y131.2.2)))]) (ws' := twLW cI cZ cJ q r o y131.2.1 y136.2 y131.2.2) C (isC := [26, 27, 28, 29, 30, 31, 32, 33, 34, 35, 36, 37, 38, 39, 40]) (isR := [0, 1, 2, 3, 4, 5, 6, 7, 8, 9, 10, 11, 12, 13, 14, 15, 16, 17, 18, 19, 20, 21, 22, 23, 24, 25, 41]) (ix := [0, 1, 2, 3, 4, 5, 6, 7, 8, 9, 10, 11, 12, 13, 14, 15, 16, 17, 18, 19, 20, 21, 22, 23, 24, 25, 27, 28, 29, 30, 31, 32, 33, 34, 35, 36, 37, 38, 39, 40, 41, 26]) (ki := [0, 1]) ⟨rfl, rfl, rfl, rfl, by decide, rfl, rfl⟩ rfl (c_X8_thrown l dC dI cI cZ r hy136) (cwV 0 C.hts gL_law_X8_thrown rfl rfl rfl hd_X8_thrown ⟨Nat.le_of_ble_eq_true rfl, Nat.le_of_ble_eq_true rfl⟩) 26 (ci := 8) rfl rfl rfl rfl rfl (Nat.le_of_ble_eq_true rfl) dL_law_581 ⟨Nat.le_trans hc1 (Nat.le_of_ble_eq_true rfl), Nat.le_trans hc2 (Nat.le_of_ble_eq_true rfl)⟩ ?_
      refine tw_iload C dL_law_584 1 rfl ?_
      refine tw_icmp_eq (tgt := 591) C dL_law_586 (by decide) (fun c137 => ?_) (fun c137 => ?_)
      · have hf := tw_pos hf c137
        refine tw_iload C dL_law_591 1 rfl ?_
        refine tw_if_ne (tgt := 615) C dL_law_593 (by decide) (fun c138 => ?_) (fun c138 => ?_)
        · have hf := tw_neg hf c138
          refine tw_goto (tgt := 1270) C dL_law_615 (by decide) ?_
          refine tw_iinc (v := (v4 + 4)) (lv' := [(4, .int (v4 + 4)), (6, .int y135.1), (5, .int y131.1), (0, .ref b), (1, .ref (q 0)), (2, .ref (r 0)), (3, .ref o)]) C dL_law_1270 (k := 6) rfl rfl (by decide) rfl ?_
          refine tw_goto (tgt := 23) C dL_law_1273 (by decide) ?_
          refine tw_sub [3, 4, 5, 6, 0] rfl ?_
          exact hrec (v4 + 4) y131.2.1 y136.2 y131.2.2 hf
        · have hf := tw_pos hf c138
          refine tw_aload_n C dL_law_596 5 rfl rfl ?_
          refine tw_iconst (v := 0) C dL_law_597 (by decide) ?_
          refine tw_lald C 41 2 (tw_in (i := 0) (n := 1) (by decide)) rfl rfl dL_law_598 ?_
          refine tw_iload C dL_law_599 0 rfl ?_
          refine tw_if_eq (tgt := 608) C dL_law_601 (by decide) (fun c139 => ?_) (fun c139 => ?_)
          · have hf := tw_pos hf c139
            refine tw_lconst (v := 0) C dL_law_608 (by decide) ?_
            refine tw_lcmp C dL_law_609 ?_
            refine tw_if_eq (tgt := 615) C dL_law_610 (by decide) (fun c140 => ?_) (fun c140 => ?_)
            · have hf := tw_pos hf c140
              refine tw_goto (tgt := 1270) C dL_law_615 (by decide) ?_
              refine tw_iinc (v := (v4 + 4)) (lv' := [(4, .int (v4 + 4)), (6, .int y135.1), (5, .int y131.1), (0, .ref b), (1, .ref (q 0)), (2, .ref (r 0)), (3, .ref o)]) C dL_law_1270 (k := 6) rfl rfl (by decide) rfl ?_
              refine tw_goto (tgt := 23) C dL_law_1273 (by decide) ?_
              refine tw_sub [3, 4, 5, 6, 0] rfl ?_
              exact hrec (v4 + 4) y131.2.1 y136.2 y131.2.2 hf
            · have hf := tw_neg hf c140
              refine tw_iconst (v := 0) C dL_law_613 (by decide) ?_
              cases hf
          · have hf := tw_neg hf c139
            refine tw_lconst (v := 1) C dL_law_604 (by decide) ?_
            refine tw_goto (tgt := 609) C dL_law_605 (by decide) ?_
            refine tw_lcmp C dL_law_609 ?_
            refine tw_if_eq (tgt := 615) C dL_law_610 (by decide) (fun c141 => ?_) (fun c141 => ?_)
            · have hf := tw_pos hf c141
              refine tw_goto (tgt := 1270) C dL_law_615 (by decide) ?_
              refine tw_iinc (v := (v4 + 4)) (lv' := [(4, .int (v4 + 4)), (6, .int y135.1), (5, .int y131.1), (0, .ref b), (1, .ref (q 0)), (2, .ref (r 0)), (3, .ref o)]) C dL_law_1270 (k := 6) rfl rfl (by decide) rfl ?_
              refine tw_goto (tgt := 23) C dL_law_1273 (by decide) ?_
              refine tw_sub [3, 4, 5, 6, 0] rfl ?_
              exact hrec (v4 + 4) y131.2.1 y136.2 y131.2.2 hf
            · have hf := tw_neg hf c141
              refine tw_iconst (v := 0) C dL_law_613 (by decide) ?_
              cases hf
      · have hf := tw_neg hf c137
        refine tw_iconst (v := 0) C dL_law_589 (by decide) ?_
        cases hf
    · have hf := tw_neg hf c134
      refine tw_iconst (v := 1) C dL_law_570 (by decide) ?_
      refine tw_goto (tgt := 575) C dL_law_571 (by decide) ?_
      obtain ⟨y142, hy142, hf⟩ := tw_bd hf
      refine tw_fVi (As := [.int (xs (v4 + 1).toNatClampNeg), .int 1]) (stk := []) (Wc := twM cI cZ r b9) (Wr := twT cI cZ q y131.2.1 ++ [(o, .inl (cJ, 1, .inr (.inl y131.2.2)))]) (ws' := twLW cI cZ cJ q r o y131.2.1 y142.2 y131.2.2) C (isC := [26, 27, 28, 29, 30, 31, 32, 33, 34, 35, 36, 37, 38, 39, 40]) (isR := [0, 1, 2, 3, 4, 5, 6, 7, 8, 9, 10, 11, 12, 13, 14, 15, 16, 17, 18, 19, 20, 21, 22, 23, 24, 25, 41]) (ix := [0, 1, 2, 3, 4, 5, 6, 7, 8, 9, 10, 11, 12, 13, 14, 15, 16, 17, 18, 19, 20, 21, 22, 23, 24, 25, 27, 28, 29, 30, 31, 32, 33, 34, 35, 36, 37, 38, 39, 40, 41, 26]) (ki := [0, 1]) ⟨rfl, rfl, rfl, rfl, by decide, rfl, rfl⟩ rfl (c_X8_failDoor l dC dI cI cZ r hy142) (cwV 2 C.hts gL_law_X8_failDoor rfl rfl rfl hd_X8_failDoor ⟨Nat.le_of_ble_eq_true rfl, Nat.le_of_ble_eq_true rfl⟩) 26 (ci := 8) rfl rfl rfl rfl rfl (Nat.le_of_ble_eq_true rfl) dL_law_575 ⟨Nat.le_trans hc1 (Nat.le_of_ble_eq_true rfl), Nat.le_trans hc2 (Nat.le_of_ble_eq_true rfl)⟩ ?_
      refine tw_istore (lv' := [(6, .int y142.1), (5, .int y131.1), (0, .ref b), (1, .ref (q 0)), (2, .ref (r 0)), (3, .ref o), (4, .int v4)]) C dL_law_578 (by decide) rfl ?_
      refine tw_aload_n C dL_law_580 4 rfl rfl ?_
      obtain ⟨y143, hy143, hf⟩ := tw_bd hf
      refine tw_fVi (As := []) (stk := []) (Wc := twM cI cZ r y142.2) (Wr := twT cI cZ q y131.2.1 ++ [(o, .inl (cJ, 1, .inr (.inl y131.2.2)))]) (ws' := twLW cI cZ cJ q r o y131.2.1 y143.2 y131.2.2) C (isC := [26, 27, 28, 29, 30, 31, 32, 33, 34, 35, 36, 37, 38, 39, 40]) (isR := [0, 1, 2, 3, 4, 5, 6, 7, 8, 9, 10, 11, 12, 13, 14, 15, 16, 17, 18, 19, 20, 21, 22, 23, 24, 25, 41]) (ix := [0, 1, 2, 3, 4, 5, 6, 7, 8, 9, 10, 11, 12, 13, 14, 15, 16, 17, 18, 19, 20, 21, 22, 23, 24, 25, 27, 28, 29, 30, 31, 32, 33, 34, 35, 36, 37, 38, 39, 40, 41, 26]) (ki := [0, 1]) ⟨rfl, rfl, rfl, rfl, by decide, rfl, rfl⟩ rfl (c_X8_thrown l dC dI cI cZ r hy143) (cwV 0 C.hts gL_law_X8_thrown rfl rfl rfl hd_X8_thrown ⟨Nat.le_of_ble_eq_true rfl, Nat.le_of_ble_eq_true rfl⟩) 26 (ci := 8) rfl rfl rfl rfl rfl (Nat.le_of_ble_eq_true rfl) dL_law_581 ⟨Nat.le_trans hc1 (Nat.le_of_ble_eq_true rfl), Nat.le_trans hc2 (Nat.le_of_ble_eq_true rfl)⟩ ?_
      refine tw_iload C dL_law_584 1 rfl ?_
      refine tw_icmp_eq (tgt := 591) C dL_law_586 (by decide) (fun c144 => ?_) (fun c144 => ?_)
      · have hf := tw_pos hf c144
        refine tw_iload C dL_law_591 1 rfl ?_
        refine tw_if_ne (tgt := 615) C dL_law_593 (by decide) (fun c145 => ?_) (fun c145 => ?_)
        · have hf := tw_neg hf c145
          refine tw_goto (tgt := 1270) C dL_law_615 (by decide) ?_
          refine tw_iinc (v := (v4 + 4)) (lv' := [(4, .int (v4 + 4)), (6, .int y142.1), (5, .int y131.1), (0, .ref b), (1, .ref (q 0)), (2, .ref (r 0)), (3, .ref o)]) C dL_law_1270 (k := 6) rfl rfl (by decide) rfl ?_
          refine tw_goto (tgt := 23) C dL_law_1273 (by decide) ?_
          refine tw_sub [3, 4, 5, 6, 0] rfl ?_
          exact hrec (v4 + 4) y131.2.1 y143.2 y131.2.2 hf
        · have hf := tw_pos hf c145
          refine tw_aload_n C dL_law_596 5 rfl rfl ?_
          refine tw_iconst (v := 0) C dL_law_597 (by decide) ?_
          refine tw_lald C 41 2 (tw_in (i := 0) (n := 1) (by decide)) rfl rfl dL_law_598 ?_
          refine tw_iload C dL_law_599 0 rfl ?_
          refine tw_if_eq (tgt := 608) C dL_law_601 (by decide) (fun c146 => ?_) (fun c146 => ?_)
          · have hf := tw_pos hf c146
            refine tw_lconst (v := 0) C dL_law_608 (by decide) ?_
            refine tw_lcmp C dL_law_609 ?_
            refine tw_if_eq (tgt := 615) C dL_law_610 (by decide) (fun c147 => ?_) (fun c147 => ?_)
            · have hf := tw_pos hf c147
              refine tw_goto (tgt := 1270) C dL_law_615 (by decide) ?_
              refine tw_iinc (v := (v4 + 4)) (lv' := [(4, .int (v4 + 4)), (6, .int y142.1), (5, .int y131.1), (0, .ref b), (1, .ref (q 0)), (2, .ref (r 0)), (3, .ref o)]) C dL_law_1270 (k := 6) rfl rfl (by decide) rfl ?_
              refine tw_goto (tgt := 23) C dL_law_1273 (by decide) ?_
              refine tw_sub [3, 4, 5, 6, 0] rfl ?_
              exact hrec (v4 + 4) y131.2.1 y143.2 y131.2.2 hf
            · have hf := tw_neg hf c147
              refine tw_iconst (v := 0) C dL_law_613 (by decide) ?_
              cases hf
          · have hf := tw_neg hf c146
            refine tw_lconst (v := 1) C dL_law_604 (by decide) ?_
            refine tw_goto (tgt := 609) C dL_law_605 (by decide) ?_
            refine tw_lcmp C dL_law_609 ?_
            refine tw_if_eq (tgt := 615) C dL_law_610 (by decide) (fun c148 => ?_) (fun c148 => ?_)
            · have hf := tw_pos hf c148
              refine tw_goto (tgt := 1270) C dL_law_615 (by decide) ?_
              refine tw_iinc (v := (v4 + 4)) (lv' := [(4, .int (v4 + 4)), (6, .int y142.1), (5, .int y131.1), (0, .ref b), (1, .ref (q 0)), (2, .ref (r 0)), (3, .ref o)]) C dL_law_1270 (k := 6) rfl rfl (by decide) rfl ?_
              refine tw_goto (tgt := 23) C dL_law_1273 (by decide) ?_
              refine tw_sub [3, 4, 5, 6, 0] rfl ?_
              exact hrec (v4 + 4) y131.2.1 y143.2 y131.2.2 hf
            · have hf := tw_neg hf c148
              refine tw_iconst (v := 0) C dL_law_613 (by decide) ?_
              cases hf
      · have hf := tw_neg hf c144
        refine tw_iconst (v := 0) C dL_law_589 (by decide) ?_
        cases hf
  · have hf := tw_neg hf c130
    refine tw_iconst (v := 1) C dL_law_543 (by decide) ?_
    refine tw_goto (tgt := 548) C dL_law_544 (by decide) ?_
    refine tw_aload_n C dL_law_548 3 rfl rfl ?_
    obtain ⟨y149, hy149, hf⟩ := tw_bd hf
    refine tw_wS (As := [.ref (q 0), .int (xs (v4 + 1).toNatClampNeg), .int 1, .ref o]) (stk := []) (Wc := twTO cI cZ cJ q o a w) (Wr := twM cI cZ r b9) (ws' := twLW cI cZ cJ q r o y149.2.1 b9 y149.2.2) C X0 hNc (isC := [0, 1, 2, 3, 4, 5, 6, 7, 8, 9, 10, 11, 12, 13, 14, 15, 16, 17, 18, 19, 20, 21, 22, 23, 24, 25, 41]) (isR := [26, 27, 28, 29, 30, 31, 32, 33, 34, 35, 36, 37, 38, 39, 40]) (ix := [15, 16, 17, 18, 19, 20, 21, 22, 23, 24, 25, 26, 27, 28, 29, 30, 31, 32, 33, 34, 35, 36, 37, 38, 39, 40, 0, 1, 2, 3, 4, 5, 6, 7, 8, 9, 10, 11, 12, 13, 14, 41]) (ki := [0, 1, 2]) ⟨rfl, rfl, rfl, rfl, by decide, rfl, rfl⟩ rfl (w_L_failDoor l hl0 dC dI cI cZ cJ q o hy149) (vx_cwSW 4 C.hts gL_law_L_failDoor rfl rfl rfl hd_L_failDoor ⟨Nat.le_of_ble_eq_true rfl, Nat.le_of_ble_eq_true rfl⟩) rfl rfl (Nat.le_of_ble_eq_true rfl) dL_law_549 ⟨Nat.le_trans hc1 (Nat.le_of_ble_eq_true rfl), Nat.le_trans hc2 (Nat.le_of_ble_eq_true rfl)⟩ ?_
    refine tw_istore (lv' := [(5, .int y149.1), (0, .ref b), (1, .ref (q 0)), (2, .ref (r 0)), (3, .ref o), (4, .int v4)]) C dL_law_552 (by decide) rfl ?_
    refine tw_aload_n C dL_law_554 3 rfl rfl ?_
    refine tw_aload_n C dL_law_555 1 rfl rfl ?_
    refine tw_iload C dL_law_556 5 rfl ?_
    refine tw_iconst (v := 1) C dL_law_558 (by decide) ?_
    refine tw_iadd C dL_law_559 ?_
    obtain ⟨hb150, hf⟩ := tw_ck hf
    refine tw_sld C hX hbl hbA hb150 dL_law_560 ?_
    refine tw_aload_n C dL_law_561 1 rfl rfl ?_
    refine tw_iload C dL_law_562 5 rfl ?_
    refine tw_iconst (v := 2) C dL_law_564 (by decide) ?_
    refine tw_iadd C dL_law_565 ?_
    obtain ⟨hb151, hf⟩ := tw_ck hf
    refine tw_sld C hX hbl hbA hb151 dL_law_566 ?_
    refine tw_if_eq (tgt := 574) C dL_law_567 (by decide) (fun c152 => ?_) (fun c152 => ?_)
    · have hf := tw_pos hf c152
      refine tw_iconst (v := 0) C dL_law_574 (by decide) ?_
      obtain ⟨y153, hy153, hf⟩ := tw_bd hf
      refine tw_fVi (As := [.int (xs (v4 + 1).toNatClampNeg), .int 0]) (stk := []) (Wc := twM cI cZ r b9) (Wr := twT cI cZ q y149.2.1 ++ [(o, .inl (cJ, 1, .inr (.inl y149.2.2)))]) (ws' := twLW cI cZ cJ q r o y149.2.1 y153.2 y149.2.2) C (isC := [26, 27, 28, 29, 30, 31, 32, 33, 34, 35, 36, 37, 38, 39, 40]) (isR := [0, 1, 2, 3, 4, 5, 6, 7, 8, 9, 10, 11, 12, 13, 14, 15, 16, 17, 18, 19, 20, 21, 22, 23, 24, 25, 41]) (ix := [0, 1, 2, 3, 4, 5, 6, 7, 8, 9, 10, 11, 12, 13, 14, 15, 16, 17, 18, 19, 20, 21, 22, 23, 24, 25, 27, 28, 29, 30, 31, 32, 33, 34, 35, 36, 37, 38, 39, 40, 41, 26]) (ki := [0, 1]) ⟨rfl, rfl, rfl, rfl, by decide, rfl, rfl⟩ rfl (c_X8_failDoor l dC dI cI cZ r hy153) (cwV 2 C.hts gL_law_X8_failDoor rfl rfl rfl hd_X8_failDoor ⟨Nat.le_of_ble_eq_true rfl, Nat.le_of_ble_eq_true rfl⟩) 26 (ci := 8) rfl rfl rfl rfl rfl (Nat.le_of_ble_eq_true rfl) dL_law_575 ⟨Nat.le_trans hc1 (Nat.le_of_ble_eq_true rfl), Nat.le_trans hc2 (Nat.le_of_ble_eq_true rfl)⟩ ?_
      refine tw_istore (lv' := [(6, .int y153.1), (5, .int y149.1), (0, .ref b), (1, .ref (q 0)), (2, .ref (r 0)), (3, .ref o), (4, .int v4)]) C dL_law_578 (by decide) rfl ?_
      refine tw_aload_n C dL_law_580 4 rfl rfl ?_
      obtain ⟨y154, hy154, hf⟩ := tw_bd hf
      refine tw_fVi (As := []) (stk := []) (Wc := twM cI cZ r y153.2) (Wr := twT cI cZ q y149.2.1 ++ [(o, .inl (cJ, 1, .inr (.inl y149.2.2)))]) (ws' := twLW cI cZ cJ q r o y149.2.1 y154.2 y149.2.2) C (isC := [26, 27, 28, 29, 30, 31, 32, 33, 34, 35, 36, 37, 38, 39, 40]) (isR := [0, 1, 2, 3, 4, 5, 6, 7, 8, 9, 10, 11, 12, 13, 14, 15, 16, 17, 18, 19, 20, 21, 22, 23, 24, 25, 41]) (ix := [0, 1, 2, 3, 4, 5, 6, 7, 8, 9, 10, 11, 12, 13, 14, 15, 16, 17, 18, 19, 20, 21, 22, 23, 24, 25, 27, 28, 29, 30, 31, 32, 33, 34, 35, 36, 37, 38, 39, 40, 41, 26]) (ki := [0, 1]) ⟨rfl, rfl, rfl, rfl, by decide, rfl, rfl⟩ rfl (c_X8_thrown l dC dI cI cZ r hy154) (cwV 0 C.hts gL_law_X8_thrown rfl rfl rfl hd_X8_thrown ⟨Nat.le_of_ble_eq_true rfl, Nat.le_of_ble_eq_true rfl⟩) 26 (ci := 8) rfl rfl rfl rfl rfl (Nat.le_of_ble_eq_true rfl) dL_law_581 ⟨Nat.le_trans hc1 (Nat.le_of_ble_eq_true rfl), Nat.le_trans hc2 (Nat.le_of_ble_eq_true rfl)⟩ ?_
      refine tw_iload C dL_law_584 1 rfl ?_
      refine tw_icmp_eq (tgt := 591) C dL_law_586 (by decide) (fun c155 => ?_) (fun c155 => ?_)
      · have hf := tw_pos hf c155
        refine tw_iload C dL_law_591 1 rfl ?_
        refine tw_if_ne (tgt := 615) C dL_law_593 (by decide) (fun c156 => ?_) (fun c156 => ?_)
        · have hf := tw_neg hf c156
          refine tw_goto (tgt := 1270) C dL_law_615 (by decide) ?_
          refine tw_iinc (v := (v4 + 4)) (lv' := [(4, .int (v4 + 4)), (6, .int y153.1), (5, .int y149.1), (0, .ref b), (1, .ref (q 0)), (2, .ref (r 0)), (3, .ref o)]) C dL_law_1270 (k := 6) rfl rfl (by decide) rfl ?_
          refine tw_goto (tgt := 23) C dL_law_1273 (by decide) ?_
          refine tw_sub [3, 4, 5, 6, 0] rfl ?_
          exact hrec (v4 + 4) y149.2.1 y154.2 y149.2.2 hf
        · have hf := tw_pos hf c156
          refine tw_aload_n C dL_law_596 5 rfl rfl ?_
          refine tw_iconst (v := 0) C dL_law_597 (by decide) ?_
          refine tw_lald C 41 2 (tw_in (i := 0) (n := 1) (by decide)) rfl rfl dL_law_598 ?_
          refine tw_iload C dL_law_599 0 rfl ?_
          refine tw_if_eq (tgt := 608) C dL_law_601 (by decide) (fun c157 => ?_) (fun c157 => ?_)
          · have hf := tw_pos hf c157
            refine tw_lconst (v := 0) C dL_law_608 (by decide) ?_
            refine tw_lcmp C dL_law_609 ?_
            refine tw_if_eq (tgt := 615) C dL_law_610 (by decide) (fun c158 => ?_) (fun c158 => ?_)
            · have hf := tw_pos hf c158
              refine tw_goto (tgt := 1270) C dL_law_615 (by decide) ?_
              refine tw_iinc (v := (v4 + 4)) (lv' := [(4, .int (v4 + 4)), (6, .int y153.1), (5, .int y149.1), (0, .ref b), (1, .ref (q 0)), (2, .ref (r 0)), (3, .ref o)]) C dL_law_1270 (k := 6) rfl rfl (by decide) rfl ?_
              refine tw_goto (tgt := 23) C dL_law_1273 (by decide) ?_
              refine tw_sub [3, 4, 5, 6, 0] rfl ?_
              exact hrec (v4 + 4) y149.2.1 y154.2 y149.2.2 hf
            · have hf := tw_neg hf c158
              refine tw_iconst (v := 0) C dL_law_613 (by decide) ?_
              cases hf
          · have hf := tw_neg hf c157
            refine tw_lconst (v := 1) C dL_law_604 (by decide) ?_
            refine tw_goto (tgt := 609) C dL_law_605 (by decide) ?_
            refine tw_lcmp C dL_law_609 ?_
            refine tw_if_eq (tgt := 615) C dL_law_610 (by decide) (fun c159 => ?_) (fun c159 => ?_)
            · have hf := tw_pos hf c159
              refine tw_goto (tgt := 1270) C dL_law_615 (by decide) ?_
              refine tw_iinc (v := (v4 + 4)) (lv' := [(4, .int (v4 + 4)), (6, .int y153.1), (5, .int y149.1), (0, .ref b), (1, .ref (q 0)), (2, .ref (r 0)), (3, .ref o)]) C dL_law_1270 (k := 6) rfl rfl (by decide) rfl ?_
              refine tw_goto (tgt := 23) C dL_law_1273 (by decide) ?_
              refine tw_sub [3, 4, 5, 6, 0] rfl ?_
              exact hrec (v4 + 4) y149.2.1 y154.2 y149.2.2 hf
            · have hf := tw_neg hf c159
              refine tw_iconst (v := 0) C dL_law_613 (by decide) ?_
              cases hf
      · have hf := tw_neg hf c155
        refine tw_iconst (v := 0) C dL_law_589 (by decide) ?_
        cases hf
    · have hf := tw_neg hf c152
      refine tw_iconst (v := 1) C dL_law_570 (by decide) ?_
      refine tw_goto (tgt := 575) C dL_law_571 (by decide) ?_
      obtain ⟨y160, hy160, hf⟩ := tw_bd hf
      refine tw_fVi (As := [.int (xs (v4 + 1).toNatClampNeg), .int 1]) (stk := []) (Wc := twM cI cZ r b9) (Wr := twT cI cZ q y149.2.1 ++ [(o, .inl (cJ, 1, .inr (.inl y149.2.2)))]) (ws' := twLW cI cZ cJ q r o y149.2.1 y160.2 y149.2.2) C (isC := [26, 27, 28, 29, 30, 31, 32, 33, 34, 35, 36, 37, 38, 39, 40]) (isR := [0, 1, 2, 3, 4, 5, 6, 7, 8, 9, 10, 11, 12, 13, 14, 15, 16, 17, 18, 19, 20, 21, 22, 23, 24, 25, 41]) (ix := [0, 1, 2, 3, 4, 5, 6, 7, 8, 9, 10, 11, 12, 13, 14, 15, 16, 17, 18, 19, 20, 21, 22, 23, 24, 25, 27, 28, 29, 30, 31, 32, 33, 34, 35, 36, 37, 38, 39, 40, 41, 26]) (ki := [0, 1]) ⟨rfl, rfl, rfl, rfl, by decide, rfl, rfl⟩ rfl (c_X8_failDoor l dC dI cI cZ r hy160) (cwV 2 C.hts gL_law_X8_failDoor rfl rfl rfl hd_X8_failDoor ⟨Nat.le_of_ble_eq_true rfl, Nat.le_of_ble_eq_true rfl⟩) 26 (ci := 8) rfl rfl rfl rfl rfl (Nat.le_of_ble_eq_true rfl) dL_law_575 ⟨Nat.le_trans hc1 (Nat.le_of_ble_eq_true rfl), Nat.le_trans hc2 (Nat.le_of_ble_eq_true rfl)⟩ ?_
      refine tw_istore (lv' := [(6, .int y160.1), (5, .int y149.1), (0, .ref b), (1, .ref (q 0)), (2, .ref (r 0)), (3, .ref o), (4, .int v4)]) C dL_law_578 (by decide) rfl ?_
      refine tw_aload_n C dL_law_580 4 rfl rfl ?_
      obtain ⟨y161, hy161, hf⟩ := tw_bd hf
      refine tw_fVi (As := []) (stk := []) (Wc := twM cI cZ r y160.2) (Wr := twT cI cZ q y149.2.1 ++ [(o, .inl (cJ, 1, .inr (.inl y149.2.2)))]) (ws' := twLW cI cZ cJ q r o y149.2.1 y161.2 y149.2.2) C (isC := [26, 27, 28, 29, 30, 31, 32, 33, 34, 35, 36, 37, 38, 39, 40]) (isR := [0, 1, 2, 3, 4, 5, 6, 7, 8, 9, 10, 11, 12, 13, 14, 15, 16, 17, 18, 19, 20, 21, 22, 23, 24, 25, 41]) (ix := [0, 1, 2, 3, 4, 5, 6, 7, 8, 9, 10, 11, 12, 13, 14, 15, 16, 17, 18, 19, 20, 21, 22, 23, 24, 25, 27, 28, 29, 30, 31, 32, 33, 34, 35, 36, 37, 38, 39, 40, 41, 26]) (ki := [0, 1]) ⟨rfl, rfl, rfl, rfl, by decide, rfl, rfl⟩ rfl (c_X8_thrown l dC dI cI cZ r hy161) (cwV 0 C.hts gL_law_X8_thrown rfl rfl rfl hd_X8_thrown ⟨Nat.le_of_ble_eq_true rfl, Nat.le_of_ble_eq_true rfl⟩) 26 (ci := 8) rfl rfl rfl rfl rfl (Nat.le_of_ble_eq_true rfl) dL_law_581 ⟨Nat.le_trans hc1 (Nat.le_of_ble_eq_true rfl), Nat.le_trans hc2 (Nat.le_of_ble_eq_true rfl)⟩ ?_
      refine tw_iload C dL_law_584 1 rfl ?_
      refine tw_icmp_eq (tgt := 591) C dL_law_586 (by decide) (fun c162 => ?_) (fun c162 => ?_)
      · have hf := tw_pos hf c162
        refine tw_iload C dL_law_591 1 rfl ?_
        refine tw_if_ne (tgt := 615) C dL_law_593 (by decide) (fun c163 => ?_) (fun c163 => ?_)
        · have hf := tw_neg hf c163
          refine tw_goto (tgt := 1270) C dL_law_615 (by decide) ?_
          refine tw_iinc (v := (v4 + 4)) (lv' := [(4, .int (v4 + 4)), (6, .int y160.1), (5, .int y149.1), (0, .ref b), (1, .ref (q 0)), (2, .ref (r 0)), (3, .ref o)]) C dL_law_1270 (k := 6) rfl rfl (by decide) rfl ?_
          refine tw_goto (tgt := 23) C dL_law_1273 (by decide) ?_
          refine tw_sub [3, 4, 5, 6, 0] rfl ?_
          exact hrec (v4 + 4) y149.2.1 y161.2 y149.2.2 hf
        · have hf := tw_pos hf c163
          refine tw_aload_n C dL_law_596 5 rfl rfl ?_
          refine tw_iconst (v := 0) C dL_law_597 (by decide) ?_
          refine tw_lald C 41 2 (tw_in (i := 0) (n := 1) (by decide)) rfl rfl dL_law_598 ?_
          refine tw_iload C dL_law_599 0 rfl ?_
          refine tw_if_eq (tgt := 608) C dL_law_601 (by decide) (fun c164 => ?_) (fun c164 => ?_)
          · have hf := tw_pos hf c164
            refine tw_lconst (v := 0) C dL_law_608 (by decide) ?_
            refine tw_lcmp C dL_law_609 ?_
            refine tw_if_eq (tgt := 615) C dL_law_610 (by decide) (fun c165 => ?_) (fun c165 => ?_)
            · have hf := tw_pos hf c165
              refine tw_goto (tgt := 1270) C dL_law_615 (by decide) ?_
              refine tw_iinc (v := (v4 + 4)) (lv' := [(4, .int (v4 + 4)), (6, .int y160.1), (5, .int y149.1), (0, .ref b), (1, .ref (q 0)), (2, .ref (r 0)), (3, .ref o)]) C dL_law_1270 (k := 6) rfl rfl (by decide) rfl ?_
              refine tw_goto (tgt := 23) C dL_law_1273 (by decide) ?_
              refine tw_sub [3, 4, 5, 6, 0] rfl ?_
              exact hrec (v4 + 4) y149.2.1 y161.2 y149.2.2 hf
            · have hf := tw_neg hf c165
              refine tw_iconst (v := 0) C dL_law_613 (by decide) ?_
              cases hf
          · have hf := tw_neg hf c164
            refine tw_lconst (v := 1) C dL_law_604 (by decide) ?_
            refine tw_goto (tgt := 609) C dL_law_605 (by decide) ?_
            refine tw_lcmp C dL_law_609 ?_
            refine tw_if_eq (tgt := 615) C dL_law_610 (by decide) (fun c166 => ?_) (fun c166 => ?_)
            · have hf := tw_pos hf c166
              refine tw_goto (tgt := 1270) C dL_law_615 (by decide) ?_
              refine tw_iinc (v := (v4 + 4)) (lv' := [(4, .int (v4 + 4)), (6, .int y160.1), (5, .int y149.1), (0, .ref b), (1, .ref (q 0)), (2, .ref (r 0)), (3, .ref o)]) C dL_law_1270 (k := 6) rfl rfl (by decide) rfl ?_
              refine tw_goto (tgt := 23) C dL_law_1273 (by decide) ?_
              refine tw_sub [3, 4, 5, 6, 0] rfl ?_
              exact hrec (v4 + 4) y149.2.1 y161.2 y149.2.2 hf
            · have hf := tw_neg hf c166
              refine tw_iconst (v := 0) C dL_law_613 (by decide) ?_
              cases hf
      · have hf := tw_neg hf c162
        refine tw_iconst (v := 0) C dL_law_589 (by decide) ?_
        cases hf
set_option maxRecDepth 20000 in
theorem k_law_7 {p : Program} {l : Launch} {e : Env} {s : State} {m : MethodId} {args : Array Value} {below : List Frame} {meth : Method} {c : Code} {Q : State → Prop} {dC : Nat → ClassId} {dI : Nat → Nat → Nat} {cI cZ cJ : ClassId} {q r : Nat → Nat} {o b L nc ns : Nat} {xs : Nat → Int32} {A : Nat → Prop} {rec : Int32 → twS → twS → (Nat → Int64) → Option Int32} (C : twC p s m args meth c cL_law 7 RL wsL_law (dC, dI) (twY3 cI cZ cJ) A) (hE : ∀ (pc k n : Nat) (lv : List (Nat × Value)) (ws : va_W), decode cL_law pc = .ok (.ireturn, 1) → k ≤ 1070 → n ≤ 8788 → twG p l e room_1 s m args below meth c k n Q (dC, dI) A 7 ws pc lv [.int 1]) (hX : va_X b L xs s s.heap) (hbl : b < s.heap.size) (hbA : ¬ A b) (X0 : twXf A s s.heap) (hNc : twNcs s) (hl0 : l.stackTraces = false) (hc1 : nc + 1 ≤ 1070) (hc2 : ns + 6 ≤ 8788) (hrec : ∀ (v4 : Int32) (a b9 : twS) (w : Nat → Int64), rec v4 a b9 w = some 1 → twG p l e room_1 s m args below meth c (nc + 1) (ns + 6) Q (dC, dI) A 7 (twLW cI cZ cJ q r o a b9 w) 23 [(0, .ref b), (1, .ref (q 0)), (2, .ref (r 0)), (3, .ref o), (4, .int v4)] []) : ∀ (v4 : Int32) (a b9 : twS) (w : Nat → Int64), f_law_7 rec L xs v4 a b9 w = some 1 → twG p l e room_1 s m args below meth c nc ns Q (dC, dI) A 7 (twLW cI cZ cJ q r o a b9 w) 618 [(0, .ref b), (1, .ref (q 0)), (2, .ref (r 0)), (3, .ref o), (4, .int v4)] [] := by
  intro v4 a b9 w hf
  unfold f_law_7 at hf
  refine tw_aload_n C dL_law_618 1 rfl rfl ?_
  refine tw_aload_n C dL_law_619 0 rfl rfl ?_
  refine tw_iload C dL_law_620 4 rfl ?_
  refine tw_iconst (v := 1) C dL_law_622 (by decide) ?_
  refine tw_iadd C dL_law_623 ?_
  obtain ⟨hb167, hf⟩ := tw_ck hf
  refine tw_sld C hX hbl hbA hb167 dL_law_624 ?_
  refine tw_aload_n C dL_law_625 0 rfl rfl ?_
  refine tw_iload C dL_law_626 4 rfl ?_
  refine tw_iconst (v := 2) C dL_law_628 (by decide) ?_
  refine tw_iadd C dL_law_629 ?_
  obtain ⟨hb168, hf⟩ := tw_ck hf
  refine tw_sld C hX hbl hbA hb168 dL_law_630 ?_
  refine tw_aload_n C dL_law_631 0 rfl rfl ?_
  refine tw_iload C dL_law_632 4 rfl ?_
  refine tw_iconst (v := 3) C dL_law_634 (by decide) ?_
  refine tw_iadd C dL_law_635 ?_
  obtain ⟨hb169, hf⟩ := tw_ck hf
  refine tw_sld C hX hbl hbA hb169 dL_law_636 ?_
  refine tw_if_eq (tgt := 644) C dL_law_637 (by decide) (fun c170 => ?_) (fun c170 => ?_)
  · have hf := tw_pos hf c170
    refine tw_iconst (v := 0) C dL_law_644 (by decide) ?_
    obtain ⟨y171, hy171, hf⟩ := tw_bd hf
    refine tw_wS (As := [.ref (q 0), .int (xs (v4 + 1).toNatClampNeg), .int (xs (v4 + 2).toNatClampNeg), .int 0]) (stk := []) (Wc := twTO cI cZ cJ q o a w) (Wr := twM cI cZ r b9) (ws' := twLW cI cZ cJ q r o y171.2.1 b9 y171.2.2) C X0 hNc (isC := [0, 1, 2, 3, 4, 5, 6, 7, 8, 9, 10, 11, 12, 13, 14, 15, 16, 17, 18, 19, 20, 21, 22, 23, 24, 25, 41]) (isR := [26, 27, 28, 29, 30, 31, 32, 33, 34, 35, 36, 37, 38, 39, 40]) (ix := [15, 16, 17, 18, 19, 20, 21, 22, 23, 24, 25, 26, 27, 28, 29, 30, 31, 32, 33, 34, 35, 36, 37, 38, 39, 40, 0, 1, 2, 3, 4, 5, 6, 7, 8, 9, 10, 11, 12, 13, 14, 41]) (ki := [0, 1, 2]) ⟨rfl, rfl, rfl, rfl, by decide, rfl, rfl⟩ rfl (w_L_failDetector l hl0 dC dI cI cZ cJ q o hy171) (vx_cwSW 4 C.hts gL_law_L_failDetector rfl rfl rfl hd_L_failDetector ⟨Nat.le_of_ble_eq_true rfl, Nat.le_of_ble_eq_true rfl⟩) rfl rfl (Nat.le_of_ble_eq_true rfl) dL_law_645 ⟨Nat.le_trans hc1 (Nat.le_of_ble_eq_true rfl), Nat.le_trans hc2 (Nat.le_of_ble_eq_true rfl)⟩ ?_
    refine tw_istore (lv' := [(5, .int y171.1), (0, .ref b), (1, .ref (q 0)), (2, .ref (r 0)), (3, .ref o), (4, .int v4)]) C dL_law_648 (by decide) rfl ?_
    refine tw_aload_n C dL_law_650 3 rfl rfl ?_
    refine tw_aload_n C dL_law_651 1 rfl rfl ?_
    refine tw_iload C dL_law_652 5 rfl ?_
    refine tw_iconst (v := 1) C dL_law_654 (by decide) ?_
    refine tw_iadd C dL_law_655 ?_
    obtain ⟨hb172, hf⟩ := tw_ck hf
    refine tw_sld C hX hbl hbA hb172 dL_law_656 ?_
    refine tw_aload_n C dL_law_657 1 rfl rfl ?_
    refine tw_iload C dL_law_658 5 rfl ?_
    refine tw_iconst (v := 2) C dL_law_660 (by decide) ?_
    refine tw_iadd C dL_law_661 ?_
    obtain ⟨hb173, hf⟩ := tw_ck hf
    refine tw_sld C hX hbl hbA hb173 dL_law_662 ?_
    refine tw_aload_n C dL_law_663 1 rfl rfl ?_
    refine tw_iload C dL_law_664 5 rfl ?_
    refine tw_iconst (v := 3) C dL_law_666 (by decide) ?_
    refine tw_iadd C dL_law_667 ?_
    obtain ⟨hb174, hf⟩ := tw_ck hf
    refine tw_sld C hX hbl hbA hb174 dL_law_668 ?_
    refine tw_if_eq (tgt := 676) C dL_law_669 (by decide) (fun c175 => ?_) (fun c175 => ?_)
    · have hf := tw_pos hf c175
      refine tw_iconst (v := 0) C dL_law_676 (by decide) ?_
      obtain ⟨y176, hy176, hf⟩ := tw_bd hf
      refine tw_fVv (As := [.int (xs (v4 + 1).toNatClampNeg), .int (xs (v4 + 2).toNatClampNeg), .int 0]) (stk := []) (Wc := twM cI cZ r b9) (Wr := twT cI cZ q y171.2.1 ++ [(o, .inl (cJ, 1, .inr (.inl y171.2.2)))]) (ws' := twLW cI cZ cJ q r o y171.2.1 y176 y171.2.2) C (isC := [26, 27, 28, 29, 30, 31, 32, 33, 34, 35, 36, 37, 38, 39, 40]) (isR := [0, 1, 2, 3, 4, 5, 6, 7, 8, 9, 10, 11, 12, 13, 14, 15, 16, 17, 18, 19, 20, 21, 22, 23, 24, 25, 41]) (ix := [0, 1, 2, 3, 4, 5, 6, 7, 8, 9, 10, 11, 12, 13, 14, 15, 16, 17, 18, 19, 20, 21, 22, 23, 24, 25, 27, 28, 29, 30, 31, 32, 33, 34, 35, 36, 37, 38, 39, 40, 41, 26]) (ki := [0, 1]) ⟨rfl, rfl, rfl, rfl, by decide, rfl, rfl⟩ rfl (c_X8_failDetector l dC dI cI cZ r hy176) (cwV 3 C.hts gL_law_X8_failDetector rfl rfl rfl hd_X8_failDetector ⟨Nat.le_of_ble_eq_true rfl, Nat.le_of_ble_eq_true rfl⟩) 26 (ci := 8) rfl rfl rfl rfl rfl (Nat.le_of_ble_eq_true rfl) dL_law_677 ⟨Nat.le_trans hc1 (Nat.le_of_ble_eq_true rfl), Nat.le_trans hc2 (Nat.le_of_ble_eq_true rfl)⟩ ?_
      refine tw_aload_n C dL_law_680 3 rfl rfl ?_
      obtain ⟨y177, hy177, hf⟩ := tw_bd hf
      refine tw_fVi (As := []) (stk := []) (Wc := twM cI cZ r y176) (Wr := twT cI cZ q y171.2.1 ++ [(o, .inl (cJ, 1, .inr (.inl y171.2.2)))]) (ws' := twLW cI cZ cJ q r o y171.2.1 y177.2 y171.2.2) C (isC := [26, 27, 28, 29, 30, 31, 32, 33, 34, 35, 36, 37, 38, 39, 40]) (isR := [0, 1, 2, 3, 4, 5, 6, 7, 8, 9, 10, 11, 12, 13, 14, 15, 16, 17, 18, 19, 20, 21, 22, 23, 24, 25, 41]) (ix := [0, 1, 2, 3, 4, 5, 6, 7, 8, 9, 10, 11, 12, 13, 14, 15, 16, 17, 18, 19, 20, 21, 22, 23, 24, 25, 27, 28, 29, 30, 31, 32, 33, 34, 35, 36, 37, 38, 39, 40, 41, 26]) (ki := [0, 1]) ⟨rfl, rfl, rfl, rfl, by decide, rfl, rfl⟩ rfl (c_X8_thrown l dC dI cI cZ r hy177) (cwV 0 C.hts gL_law_X8_thrown rfl rfl rfl hd_X8_thrown ⟨Nat.le_of_ble_eq_true rfl, Nat.le_of_ble_eq_true rfl⟩) 26 (ci := 8) rfl rfl rfl rfl rfl (Nat.le_of_ble_eq_true rfl) dL_law_681 ⟨Nat.le_trans hc1 (Nat.le_of_ble_eq_true rfl), Nat.le_trans hc2 (Nat.le_of_ble_eq_true rfl)⟩ ?_
      refine tw_iload C dL_law_684 0 rfl ?_
      refine tw_icmp_eq (tgt := 691) C dL_law_686 (by decide) (fun c178 => ?_) (fun c178 => ?_)
      · have hf := tw_pos hf c178
        refine tw_goto (tgt := 1270) C dL_law_691 (by decide) ?_
        refine tw_iinc (v := (v4 + 4)) (lv' := [(4, .int (v4 + 4)), (5, .int y171.1), (0, .ref b), (1, .ref (q 0)), (2, .ref (r 0)), (3, .ref o)]) C dL_law_1270 (k := 5) rfl rfl (by decide) rfl ?_
        refine tw_goto (tgt := 23) C dL_law_1273 (by decide) ?_
        refine tw_sub [2, 3, 4, 5, 0] rfl ?_
        exact hrec (v4 + 4) y171.2.1 y177.2 y171.2.2 hf
      · have hf := tw_neg hf c178
        refine tw_iconst (v := 0) C dL_law_689 (by decide) ?_
        cases hf
    · have hf := tw_neg hf c175
      refine tw_iconst (v := 1) C dL_law_672 (by decide) ?_
      refine tw_goto (tgt := 677) C dL_law_673 (by decide) ?_
      obtain ⟨y179, hy179, hf⟩ := tw_bd hf
      refine tw_fVv (As := [.int (xs (v4 + 1).toNatClampNeg), .int (xs (v4 + 2).toNatClampNeg), .int 1]) (stk := []) (Wc := twM cI cZ r b9) (Wr := twT cI cZ q y171.2.1 ++ [(o, .inl (cJ, 1, .inr (.inl y171.2.2)))]) (ws' := twLW cI cZ cJ q r o y171.2.1 y179 y171.2.2) C (isC := [26, 27, 28, 29, 30, 31, 32, 33, 34, 35, 36, 37, 38, 39, 40]) (isR := [0, 1, 2, 3, 4, 5, 6, 7, 8, 9, 10, 11, 12, 13, 14, 15, 16, 17, 18, 19, 20, 21, 22, 23, 24, 25, 41]) (ix := [0, 1, 2, 3, 4, 5, 6, 7, 8, 9, 10, 11, 12, 13, 14, 15, 16, 17, 18, 19, 20, 21, 22, 23, 24, 25, 27, 28, 29, 30, 31, 32, 33, 34, 35, 36, 37, 38, 39, 40, 41, 26]) (ki := [0, 1]) ⟨rfl, rfl, rfl, rfl, by decide, rfl, rfl⟩ rfl (c_X8_failDetector l dC dI cI cZ r hy179) (cwV 3 C.hts gL_law_X8_failDetector rfl rfl rfl hd_X8_failDetector ⟨Nat.le_of_ble_eq_true rfl, Nat.le_of_ble_eq_true rfl⟩) 26 (ci := 8) rfl rfl rfl rfl rfl (Nat.le_of_ble_eq_true rfl) dL_law_677 ⟨Nat.le_trans hc1 (Nat.le_of_ble_eq_true rfl), Nat.le_trans hc2 (Nat.le_of_ble_eq_true rfl)⟩ ?_
      refine tw_aload_n C dL_law_680 3 rfl rfl ?_
      obtain ⟨y180, hy180, hf⟩ := tw_bd hf
      refine tw_fVi (As := []) (stk := []) (Wc := twM cI cZ r y179) (Wr := twT cI cZ q y171.2.1 ++ [(o, .inl (cJ, 1, .inr (.inl y171.2.2)))]) (ws' := twLW cI cZ cJ q r o y171.2.1 y180.2 y171.2.2) C (isC := [26, 27, 28, 29, 30, 31, 32, 33, 34, 35, 36, 37, 38, 39, 40]) (isR := [0, 1, 2, 3, 4, 5, 6, 7, 8, 9, 10, 11, 12, 13, 14, 15, 16, 17, 18, 19, 20, 21, 22, 23, 24, 25, 41]) (ix := [0, 1, 2, 3, 4, 5, 6, 7, 8, 9, 10, 11, 12, 13, 14, 15, 16, 17, 18, 19, 20, 21, 22, 23, 24, 25, 27, 28, 29, 30, 31, 32, 33, 34, 35, 36, 37, 38, 39, 40, 41, 26]) (ki := [0, 1]) ⟨rfl, rfl, rfl, rfl, by decide, rfl, rfl⟩ rfl (c_X8_thrown l dC dI cI cZ r hy180) (cwV 0 C.hts gL_law_X8_thrown rfl rfl rfl hd_X8_thrown ⟨Nat.le_of_ble_eq_true rfl, Nat.le_of_ble_eq_true rfl⟩) 26 (ci := 8) rfl rfl rfl rfl rfl (Nat.le_of_ble_eq_true rfl) dL_law_681 ⟨Nat.le_trans hc1 (Nat.le_of_ble_eq_true rfl), Nat.le_trans hc2 (Nat.le_of_ble_eq_true rfl)⟩ ?_
      refine tw_iload C dL_law_684 0 rfl ?_
      refine tw_icmp_eq (tgt := 691) C dL_law_686 (by decide) (fun c181 => ?_) (fun c181 => ?_)
      · have hf := tw_pos hf c181
        refine tw_goto (tgt := 1270) C dL_law_691 (by decide) ?_
        refine tw_iinc (v := (v4 + 4)) (lv' := [(4, .int (v4 + 4)), (5, .int y171.1), (0, .ref b), (1, .ref (q 0)), (2, .ref (r 0)), (3, .ref o)]) C dL_law_1270 (k := 5) rfl rfl (by decide) rfl ?_
        refine tw_goto (tgt := 23) C dL_law_1273 (by decide) ?_
        refine tw_sub [2, 3, 4, 5, 0] rfl ?_
        exact hrec (v4 + 4) y171.2.1 y180.2 y171.2.2 hf
      · have hf := tw_neg hf c181
        refine tw_iconst (v := 0) C dL_law_689 (by decide) ?_
        cases hf
  · have hf := tw_neg hf c170
    refine tw_iconst (v := 1) C dL_law_640 (by decide) ?_
    refine tw_goto (tgt := 645) C dL_law_641 (by decide) ?_
    obtain ⟨y182, hy182, hf⟩ := tw_bd hf
    refine tw_wS (As := [.ref (q 0), .int (xs (v4 + 1).toNatClampNeg), .int (xs (v4 + 2).toNatClampNeg), .int 1]) (stk := []) (Wc := twTO cI cZ cJ q o a w) (Wr := twM cI cZ r b9) (ws' := twLW cI cZ cJ q r o y182.2.1 b9 y182.2.2) C X0 hNc (isC := [0, 1, 2, 3, 4, 5, 6, 7, 8, 9, 10, 11, 12, 13, 14, 15, 16, 17, 18, 19, 20, 21, 22, 23, 24, 25, 41]) (isR := [26, 27, 28, 29, 30, 31, 32, 33, 34, 35, 36, 37, 38, 39, 40]) (ix := [15, 16, 17, 18, 19, 20, 21, 22, 23, 24, 25, 26, 27, 28, 29, 30, 31, 32, 33, 34, 35, 36, 37, 38, 39, 40, 0, 1, 2, 3, 4, 5, 6, 7, 8, 9, 10, 11, 12, 13, 14, 41]) (ki := [0, 1, 2]) ⟨rfl, rfl, rfl, rfl, by decide, rfl, rfl⟩ rfl (w_L_failDetector l hl0 dC dI cI cZ cJ q o hy182) (vx_cwSW 4 C.hts gL_law_L_failDetector rfl rfl rfl hd_L_failDetector ⟨Nat.le_of_ble_eq_true rfl, Nat.le_of_ble_eq_true rfl⟩) rfl rfl (Nat.le_of_ble_eq_true rfl) dL_law_645 ⟨Nat.le_trans hc1 (Nat.le_of_ble_eq_true rfl), Nat.le_trans hc2 (Nat.le_of_ble_eq_true rfl)⟩ ?_
    refine tw_istore (lv' := [(5, .int y182.1), (0, .ref b), (1, .ref (q 0)), (2, .ref (r 0)), (3, .ref o), (4, .int v4)]) C dL_law_648 (by decide) rfl ?_
    refine tw_aload_n C dL_law_650 3 rfl rfl ?_
    refine tw_aload_n C dL_law_651 1 rfl rfl ?_
    refine tw_iload C dL_law_652 5 rfl ?_
    refine tw_iconst (v := 1) C dL_law_654 (by decide) ?_
    refine tw_iadd C dL_law_655 ?_
    obtain ⟨hb183, hf⟩ := tw_ck hf
    refine tw_sld C hX hbl hbA hb183 dL_law_656 ?_
    refine tw_aload_n C dL_law_657 1 rfl rfl ?_
    refine tw_iload C dL_law_658 5 rfl ?_
    refine tw_iconst (v := 2) C dL_law_660 (by decide) ?_
    refine tw_iadd C dL_law_661 ?_
    obtain ⟨hb184, hf⟩ := tw_ck hf
    refine tw_sld C hX hbl hbA hb184 dL_law_662 ?_
    refine tw_aload_n C dL_law_663 1 rfl rfl ?_
    refine tw_iload C dL_law_664 5 rfl ?_
    refine tw_iconst (v := 3) C dL_law_666 (by decide) ?_
    refine tw_iadd C dL_law_667 ?_
    obtain ⟨hb185, hf⟩ := tw_ck hf
    refine tw_sld C hX hbl hbA hb185 dL_law_668 ?_
    refine tw_if_eq (tgt := 676) C dL_law_669 (by decide) (fun c186 => ?_) (fun c186 => ?_)
    · have hf := tw_pos hf c186
      refine tw_iconst (v := 0) C dL_law_676 (by decide) ?_
      obtain ⟨y187, hy187, hf⟩ := tw_bd hf
      refine tw_fVv (As := [.int (xs (v4 + 1).toNatClampNeg), .int (xs (v4 + 2).toNatClampNeg), .int 0]) (stk := []) (Wc := twM cI cZ r b9) (Wr := twT cI cZ q y182.2.1 ++ [(o, .inl (cJ, 1, .inr (.inl y182.2.2)))]) (ws' := twLW cI cZ cJ q r o y182.2.1 y187 y182.2.2) C (isC := [26, 27, 28, 29, 30, 31, 32, 33, 34, 35, 36, 37, 38, 39, 40]) (isR := [0, 1, 2, 3, 4, 5, 6, 7, 8, 9, 10, 11, 12, 13, 14, 15, 16, 17, 18, 19, 20, 21, 22, 23, 24, 25, 41]) (ix := [0, 1, 2, 3, 4, 5, 6, 7, 8, 9, 10, 11, 12, 13, 14, 15, 16, 17, 18, 19, 20, 21, 22, 23, 24, 25, 27, 28, 29, 30, 31, 32, 33, 34, 35, 36, 37, 38, 39, 40, 41, 26]) (ki := [0, 1]) ⟨rfl, rfl, rfl, rfl, by decide, rfl, rfl⟩ rfl (c_X8_failDetector l dC dI cI cZ r hy187) (cwV 3 C.hts gL_law_X8_failDetector rfl rfl rfl hd_X8_failDetector ⟨Nat.le_of_ble_eq_true rfl, Nat.le_of_ble_eq_true rfl⟩) 26 (ci := 8) rfl rfl rfl rfl rfl (Nat.le_of_ble_eq_true rfl) dL_law_677 ⟨Nat.le_trans hc1 (Nat.le_of_ble_eq_true rfl), Nat.le_trans hc2 (Nat.le_of_ble_eq_true rfl)⟩ ?_
      refine tw_aload_n C dL_law_680 3 rfl rfl ?_
      obtain ⟨y188, hy188, hf⟩ := tw_bd hf
      refine tw_fVi (As := []) (stk := []) (Wc := twM cI cZ r y187) (Wr := twT cI cZ q y182.2.1 ++ [(o, .inl (cJ, 1, .inr (.inl y182.2.2)))]) (ws' := twLW cI cZ cJ q r o y182.2.1 y188.2 y182.2.2) C (isC := [26, 27, 28, 29, 30, 31, 32, 33, 34, 35, 36, 37, 38, 39, 40]) (isR := [0, 1, 2, 3, 4, 5, 6, 7, 8, 9, 10, 11, 12, 13, 14, 15, 16, 17, 18, 19, 20, 21, 22, 23, 24, 25, 41]) (ix := [0, 1, 2, 3, 4, 5, 6, 7, 8, 9, 10, 11, 12, 13, 14, 15, 16, 17, 18, 19, 20, 21, 22, 23, 24, 25, 27, 28, 29, 30, 31, 32, 33, 34, 35, 36, 37, 38, 39, 40, 41, 26]) (ki := [0, 1]) ⟨rfl, rfl, rfl, rfl, by decide, rfl, rfl⟩ rfl (c_X8_thrown l dC dI cI cZ r hy188) (cwV 0 C.hts gL_law_X8_thrown rfl rfl rfl hd_X8_thrown ⟨Nat.le_of_ble_eq_true rfl, Nat.le_of_ble_eq_true rfl⟩) 26 (ci := 8) rfl rfl rfl rfl rfl (Nat.le_of_ble_eq_true rfl) dL_law_681 ⟨Nat.le_trans hc1 (Nat.le_of_ble_eq_true rfl), Nat.le_trans hc2 (Nat.le_of_ble_eq_true rfl)⟩ ?_
      refine tw_iload C dL_law_684 0 rfl ?_
      refine tw_icmp_eq (tgt := 691) C dL_law_686 (by decide) (fun c189 => ?_) (fun c189 => ?_)
      · have hf := tw_pos hf c189
        refine tw_goto (tgt := 1270) C dL_law_691 (by decide) ?_
        refine tw_iinc (v := (v4 + 4)) (lv' := [(4, .int (v4 + 4)), (5, .int y182.1), (0, .ref b), (1, .ref (q 0)), (2, .ref (r 0)), (3, .ref o)]) C dL_law_1270 (k := 5) rfl rfl (by decide) rfl ?_
        refine tw_goto (tgt := 23) C dL_law_1273 (by decide) ?_
        refine tw_sub [2, 3, 4, 5, 0] rfl ?_
        exact hrec (v4 + 4) y182.2.1 y188.2 y182.2.2 hf
      · have hf := tw_neg hf c189
        refine tw_iconst (v := 0) C dL_law_689 (by decide) ?_
        cases hf
    · have hf := tw_neg hf c186
      refine tw_iconst (v := 1) C dL_law_672 (by decide) ?_
      refine tw_goto (tgt := 677) C dL_law_673 (by decide) ?_
      obtain ⟨y190, hy190, hf⟩ := tw_bd hf
      refine tw_fVv (As := [.int (xs (v4 + 1).toNatClampNeg), .int (xs (v4 + 2).toNatClampNeg), .int 1]) (stk := []) (Wc := twM cI cZ r b9) (Wr := twT cI cZ q y182.2.1 ++ [(o, .inl (cJ, 1, .inr (.inl y182.2.2)))]) (ws' := twLW cI cZ cJ q r o y182.2.1 y190 y182.2.2) C (isC := [26, 27, 28, 29, 30, 31, 32, 33, 34, 35, 36, 37, 38, 39, 40]) (isR := [0, 1, 2, 3, 4, 5, 6, 7, 8, 9, 10, 11, 12, 13, 14, 15, 16, 17, 18, 19, 20, 21, 22, 23, 24, 25, 41]) (ix := [0, 1, 2, 3, 4, 5, 6, 7, 8, 9, 10, 11, 12, 13, 14, 15, 16, 17, 18, 19, 20, 21, 22, 23, 24, 25, 27, 28, 29, 30, 31, 32, 33, 34, 35, 36, 37, 38, 39, 40, 41, 26]) (ki := [0, 1]) ⟨rfl, rfl, rfl, rfl, by decide, rfl, rfl⟩ rfl (c_X8_failDetector l dC dI cI cZ r hy190) (cwV 3 C.hts gL_law_X8_failDetector rfl rfl rfl hd_X8_failDetector ⟨Nat.le_of_ble_eq_true rfl, Nat.le_of_ble_eq_true rfl⟩) 26 (ci := 8) rfl rfl rfl rfl rfl (Nat.le_of_ble_eq_true rfl) dL_law_677 ⟨Nat.le_trans hc1 (Nat.le_of_ble_eq_true rfl), Nat.le_trans hc2 (Nat.le_of_ble_eq_true rfl)⟩ ?_
      refine tw_aload_n C dL_law_680 3 rfl rfl ?_
      obtain ⟨y191, hy191, hf⟩ := tw_bd hf
      refine tw_fVi (As := []) (stk := []) (Wc := twM cI cZ r y190) (Wr := twT cI cZ q y182.2.1 ++ [(o, .inl (cJ, 1, .inr (.inl y182.2.2)))]) (ws' := twLW cI cZ cJ q r o y182.2.1 y191.2 y182.2.2) C (isC := [26, 27, 28, 29, 30, 31, 32, 33, 34, 35, 36, 37, 38, 39, 40]) (isR := [0, 1, 2, 3, 4, 5, 6, 7, 8, 9, 10, 11, 12, 13, 14, 15, 16, 17, 18, 19, 20, 21, 22, 23, 24, 25, 41]) (ix := [0, 1, 2, 3, 4, 5, 6, 7, 8, 9, 10, 11, 12, 13, 14, 15, 16, 17, 18, 19, 20, 21, 22, 23, 24, 25, 27, 28, 29, 30, 31, 32, 33, 34, 35, 36, 37, 38, 39, 40, 41, 26]) (ki := [0, 1]) ⟨rfl, rfl, rfl, rfl, by decide, rfl, rfl⟩ rfl (c_X8_thrown l dC dI cI cZ r hy191) (cwV 0 C.hts gL_law_X8_thrown rfl rfl rfl hd_X8_thrown ⟨Nat.le_of_ble_eq_true rfl, Nat.le_of_ble_eq_true rfl⟩) 26 (ci := 8) rfl rfl rfl rfl rfl (Nat.le_of_ble_eq_true rfl) dL_law_681 ⟨Nat.le_trans hc1 (Nat.le_of_ble_eq_true rfl), Nat.le_trans hc2 (Nat.le_of_ble_eq_true rfl)⟩ ?_
      refine tw_iload C dL_law_684 0 rfl ?_
      refine tw_icmp_eq (tgt := 691) C dL_law_686 (by decide) (fun c192 => ?_) (fun c192 => ?_)
      · have hf := tw_pos hf c192
        refine tw_goto (tgt := 1270) C dL_law_691 (by decide) ?_
        refine tw_iinc (v := (v4 + 4)) (lv' := [(4, .int (v4 + 4)), (5, .int y182.1), (0, .ref b), (1, .ref (q 0)), (2, .ref (r 0)), (3, .ref o)]) C dL_law_1270 (k := 5) rfl rfl (by decide) rfl ?_
        refine tw_goto (tgt := 23) C dL_law_1273 (by decide) ?_
        refine tw_sub [2, 3, 4, 5, 0] rfl ?_
        exact hrec (v4 + 4) y182.2.1 y191.2 y182.2.2 hf
      · have hf := tw_neg hf c192
        refine tw_iconst (v := 0) C dL_law_689 (by decide) ?_
        cases hf
set_option maxRecDepth 20000 in
theorem k_law_8 {p : Program} {l : Launch} {e : Env} {s : State} {m : MethodId} {args : Array Value} {below : List Frame} {meth : Method} {c : Code} {Q : State → Prop} {dC : Nat → ClassId} {dI : Nat → Nat → Nat} {cI cZ cJ : ClassId} {q r : Nat → Nat} {o b L nc ns : Nat} {xs : Nat → Int32} {A : Nat → Prop} {rec : Int32 → twS → twS → (Nat → Int64) → Option Int32} (C : twC p s m args meth c cL_law 7 RL wsL_law (dC, dI) (twY3 cI cZ cJ) A) (hE : ∀ (pc k n : Nat) (lv : List (Nat × Value)) (ws : va_W), decode cL_law pc = .ok (.ireturn, 1) → k ≤ 1070 → n ≤ 8788 → twG p l e room_1 s m args below meth c k n Q (dC, dI) A 7 ws pc lv [.int 1]) (hX : va_X b L xs s s.heap) (hbl : b < s.heap.size) (hbA : ¬ A b) (X0 : twXf A s s.heap) (hNc : twNcs s) (hl0 : l.stackTraces = false) (hc1 : nc + 1 ≤ 1070) (hc2 : ns + 6 ≤ 8788) (hrec : ∀ (v4 : Int32) (a b9 : twS) (w : Nat → Int64), rec v4 a b9 w = some 1 → twG p l e room_1 s m args below meth c (nc + 1) (ns + 6) Q (dC, dI) A 7 (twLW cI cZ cJ q r o a b9 w) 23 [(0, .ref b), (1, .ref (q 0)), (2, .ref (r 0)), (3, .ref o), (4, .int v4)] []) : ∀ (v4 : Int32) (a b9 : twS) (w : Nat → Int64), f_law_8 rec L xs v4 a b9 w = some 1 → twG p l e room_1 s m args below meth c nc ns Q (dC, dI) A 7 (twLW cI cZ cJ q r o a b9 w) 694 [(0, .ref b), (1, .ref (q 0)), (2, .ref (r 0)), (3, .ref o), (4, .int v4)] [] := by
  intro v4 a b9 w hf
  unfold f_law_8 at hf
  refine tw_aload_n C dL_law_694 1 rfl rfl ?_
  refine tw_aload_n C dL_law_695 0 rfl rfl ?_
  refine tw_iload C dL_law_696 4 rfl ?_
  refine tw_iconst (v := 1) C dL_law_698 (by decide) ?_
  refine tw_iadd C dL_law_699 ?_
  obtain ⟨hb193, hf⟩ := tw_ck hf
  refine tw_sld C hX hbl hbA hb193 dL_law_700 ?_
  refine tw_aload_n C dL_law_701 0 rfl rfl ?_
  refine tw_iload C dL_law_702 4 rfl ?_
  refine tw_iconst (v := 2) C dL_law_704 (by decide) ?_
  refine tw_iadd C dL_law_705 ?_
  obtain ⟨hb194, hf⟩ := tw_ck hf
  refine tw_sld C hX hbl hbA hb194 dL_law_706 ?_
  refine tw_aload_n C dL_law_707 0 rfl rfl ?_
  refine tw_iload C dL_law_708 4 rfl ?_
  refine tw_iconst (v := 3) C dL_law_710 (by decide) ?_
  refine tw_iadd C dL_law_711 ?_
  obtain ⟨hb195, hf⟩ := tw_ck hf
  refine tw_sld C hX hbl hbA hb195 dL_law_712 ?_
  refine tw_if_eq (tgt := 720) C dL_law_713 (by decide) (fun c196 => ?_) (fun c196 => ?_)
  · have hf := tw_pos hf c196
    refine tw_iconst (v := 0) C dL_law_720 (by decide) ?_
    refine tw_aload_n C dL_law_721 3 rfl rfl ?_
    obtain ⟨y197, hy197, hf⟩ := tw_bd hf
    refine tw_wS (As := [.ref (q 0), .int (xs (v4 + 1).toNatClampNeg), .int (xs (v4 + 2).toNatClampNeg), .int 0, .ref o]) (stk := []) (Wc := twTO cI cZ cJ q o a w) (Wr := twM cI cZ r b9) (ws' := twLW cI cZ cJ q r o y197.2.1 b9 y197.2.2) C X0 hNc (isC := [0, 1, 2, 3, 4, 5, 6, 7, 8, 9, 10, 11, 12, 13, 14, 15, 16, 17, 18, 19, 20, 21, 22, 23, 24, 25, 41]) (isR := [26, 27, 28, 29, 30, 31, 32, 33, 34, 35, 36, 37, 38, 39, 40]) (ix := [15, 16, 17, 18, 19, 20, 21, 22, 23, 24, 25, 26, 27, 28, 29, 30, 31, 32, 33, 34, 35, 36, 37, 38, 39, 40, 0, 1, 2, 3, 4, 5, 6, 7, 8, 9, 10, 11, 12, 13, 14, 41]) (ki := [0, 1, 2]) ⟨rfl, rfl, rfl, rfl, by decide, rfl, rfl⟩ rfl (w_L_act l hl0 dC dI cI cZ cJ q o hy197) (vx_cwSW 5 C.hts gL_law_L_act rfl rfl rfl hd_L_act ⟨Nat.le_of_ble_eq_true rfl, Nat.le_of_ble_eq_true rfl⟩) rfl rfl (Nat.le_of_ble_eq_true rfl) dL_law_722 ⟨Nat.le_trans hc1 (Nat.le_of_ble_eq_true rfl), Nat.le_trans hc2 (Nat.le_of_ble_eq_true rfl)⟩ ?_
    refine tw_istore (lv' := [(5, .int y197.1), (0, .ref b), (1, .ref (q 0)), (2, .ref (r 0)), (3, .ref o), (4, .int v4)]) C dL_law_725 (by decide) rfl ?_
    refine tw_aload_n C dL_law_727 3 rfl rfl ?_
    refine tw_aload_n C dL_law_728 1 rfl rfl ?_
    refine tw_iload C dL_law_729 5 rfl ?_
    refine tw_iconst (v := 1) C dL_law_731 (by decide) ?_
    refine tw_iadd C dL_law_732 ?_
    obtain ⟨hb198, hf⟩ := tw_ck hf
    refine tw_sld C hX hbl hbA hb198 dL_law_733 ?_
    refine tw_aload_n C dL_law_734 1 rfl rfl ?_
    refine tw_iload C dL_law_735 5 rfl ?_
    refine tw_iconst (v := 2) C dL_law_737 (by decide) ?_
    refine tw_iadd C dL_law_738 ?_
    obtain ⟨hb199, hf⟩ := tw_ck hf
    refine tw_sld C hX hbl hbA hb199 dL_law_739 ?_
    refine tw_aload_n C dL_law_740 1 rfl rfl ?_
    refine tw_iload C dL_law_741 5 rfl ?_
    refine tw_iconst (v := 3) C dL_law_743 (by decide) ?_
    refine tw_iadd C dL_law_744 ?_
    obtain ⟨hb200, hf⟩ := tw_ck hf
    refine tw_sld C hX hbl hbA hb200 dL_law_745 ?_
    refine tw_if_eq (tgt := 753) C dL_law_746 (by decide) (fun c201 => ?_) (fun c201 => ?_)
    · have hf := tw_pos hf c201
      refine tw_iconst (v := 0) C dL_law_753 (by decide) ?_
      obtain ⟨y202, hy202, hf⟩ := tw_bd hf
      refine tw_fVi (As := [.int (xs (v4 + 1).toNatClampNeg), .int (xs (v4 + 2).toNatClampNeg), .int 0]) (stk := []) (Wc := twM cI cZ r b9) (Wr := twT cI cZ q y197.2.1 ++ [(o, .inl (cJ, 1, .inr (.inl y197.2.2)))]) (ws' := twLW cI cZ cJ q r o y197.2.1 y202.2 y197.2.2) C (isC := [26, 27, 28, 29, 30, 31, 32, 33, 34, 35, 36, 37, 38, 39, 40]) (isR := [0, 1, 2, 3, 4, 5, 6, 7, 8, 9, 10, 11, 12, 13, 14, 15, 16, 17, 18, 19, 20, 21, 22, 23, 24, 25, 41]) (ix := [0, 1, 2, 3, 4, 5, 6, 7, 8, 9, 10, 11, 12, 13, 14, 15, 16, 17, 18, 19, 20, 21, 22, 23, 24, 25, 27, 28, 29, 30, 31, 32, 33, 34, 35, 36, 37, 38, 39, 40, 41, 26]) (ki := [0, 1]) ⟨rfl, rfl, rfl, rfl, by decide, rfl, rfl⟩ rfl (c_X8_act l dC dI cI cZ r hy202) (cwV 3 C.hts gL_law_X8_act rfl rfl rfl hd_X8_act ⟨Nat.le_of_ble_eq_true rfl, Nat.le_of_ble_eq_true rfl⟩) 26 (ci := 8) rfl rfl rfl rfl rfl (Nat.le_of_ble_eq_true rfl) dL_law_754 ⟨Nat.le_trans hc1 (Nat.le_of_ble_eq_true rfl), Nat.le_trans hc2 (Nat.le_of_ble_eq_true rfl)⟩ ?_
      refine tw_istore (lv' := [(6, .int y202.1), (5, .int y197.1), (0, .ref b), (1, .ref (q 0)), (2, .ref (r 0)), (3, .ref o), (4, .int v4)]) C dL_law_757 (by decide) rfl ?_
      refine tw_aload_n C dL_law_759 4 rfl rfl ?_
      obtain ⟨y203, hy203, hf⟩ := tw_bd hf
      refine tw_fVi (As := []) (stk := []) (Wc := twM cI cZ r y202.2) (Wr := twT cI cZ q y197.2.1 ++ [(o, .inl (cJ, 1, .inr (.inl y197.2.2)))]) (ws' := twLW cI cZ cJ q r o y197.2.1 y203.2 y197.2.2) C (isC := [26, 27, 28, 29, 30, 31, 32, 33, 34, 35, 36, 37, 38, 39, 40]) (isR := [0, 1, 2, 3, 4, 5, 6, 7, 8, 9, 10, 11, 12, 13, 14, 15, 16, 17, 18, 19, 20, 21, 22, 23, 24, 25, 41]) (ix := [0, 1, 2, 3, 4, 5, 6, 7, 8, 9, 10, 11, 12, 13, 14, 15, 16, 17, 18, 19, 20, 21, 22, 23, 24, 25, 27, 28, 29, 30, 31, 32, 33, 34, 35, 36, 37, 38, 39, 40, 41, 26]) (ki := [0, 1]) ⟨rfl, rfl, rfl, rfl, by decide, rfl, rfl⟩ rfl (c_X8_thrown l dC dI cI cZ r hy203) (cwV 0 C.hts gL_law_X8_thrown rfl rfl rfl hd_X8_thrown ⟨Nat.le_of_ble_eq_true rfl, Nat.le_of_ble_eq_true rfl⟩) 26 (ci := 8) rfl rfl rfl rfl rfl (Nat.le_of_ble_eq_true rfl) dL_law_760 ⟨Nat.le_trans hc1 (Nat.le_of_ble_eq_true rfl), Nat.le_trans hc2 (Nat.le_of_ble_eq_true rfl)⟩ ?_
      refine tw_iload C dL_law_763 1 rfl ?_
      refine tw_icmp_eq (tgt := 770) C dL_law_765 (by decide) (fun c204 => ?_) (fun c204 => ?_)
      · have hf := tw_pos hf c204
        refine tw_iload C dL_law_770 1 rfl ?_
        refine tw_if_ne (tgt := 787) C dL_law_772 (by decide) (fun c205 => ?_) (fun c205 => ?_)
        · have hf := tw_neg hf c205
          refine tw_goto (tgt := 1270) C dL_law_787 (by decide) ?_
          refine tw_iinc (v := (v4 + 4)) (lv' := [(4, .int (v4 + 4)), (6, .int y202.1), (5, .int y197.1), (0, .ref b), (1, .ref (q 0)), (2, .ref (r 0)), (3, .ref o)]) C dL_law_1270 (k := 6) rfl rfl (by decide) rfl ?_
          refine tw_goto (tgt := 23) C dL_law_1273 (by decide) ?_
          refine tw_sub [3, 4, 5, 6, 0] rfl ?_
          exact hrec (v4 + 4) y197.2.1 y203.2 y197.2.2 hf
        · have hf := tw_pos hf c205
          refine tw_aload_n C dL_law_775 5 rfl rfl ?_
          refine tw_iconst (v := 0) C dL_law_776 (by decide) ?_
          refine tw_lald C 41 2 (tw_in (i := 0) (n := 1) (by decide)) rfl rfl dL_law_777 ?_
          refine tw_iload C dL_law_778 0 rfl ?_
          refine tw_i2l C dL_law_780 ?_
          refine tw_lcmp C dL_law_781 ?_
          refine tw_if_eq (tgt := 787) C dL_law_782 (by decide) (fun c206 => ?_) (fun c206 => ?_)
          · have hf := tw_pos hf c206
            refine tw_goto (tgt := 1270) C dL_law_787 (by decide) ?_
            refine tw_iinc (v := (v4 + 4)) (lv' := [(4, .int (v4 + 4)), (6, .int y202.1), (5, .int y197.1), (0, .ref b), (1, .ref (q 0)), (2, .ref (r 0)), (3, .ref o)]) C dL_law_1270 (k := 6) rfl rfl (by decide) rfl ?_
            refine tw_goto (tgt := 23) C dL_law_1273 (by decide) ?_
            refine tw_sub [3, 4, 5, 6, 0] rfl ?_
            exact hrec (v4 + 4) y197.2.1 y203.2 y197.2.2 hf
          · have hf := tw_neg hf c206
            refine tw_iconst (v := 0) C dL_law_785 (by decide) ?_
            cases hf
      · have hf := tw_neg hf c204
        refine tw_iconst (v := 0) C dL_law_768 (by decide) ?_
        cases hf
    · have hf := tw_neg hf c201
      refine tw_iconst (v := 1) C dL_law_749 (by decide) ?_
      refine tw_goto (tgt := 754) C dL_law_750 (by decide) ?_
      obtain ⟨y207, hy207, hf⟩ := tw_bd hf
      refine tw_fVi (As := [.int (xs (v4 + 1).toNatClampNeg), .int (xs (v4 + 2).toNatClampNeg), .int 1]) (stk := []) (Wc := twM cI cZ r b9) (Wr := twT cI cZ q y197.2.1 ++ [(o, .inl (cJ, 1, .inr (.inl y197.2.2)))]) (ws' := twLW cI cZ cJ q r o y197.2.1 y207.2 y197.2.2) C (isC := [26, 27, 28, 29, 30, 31, 32, 33, 34, 35, 36, 37, 38, 39, 40]) (isR := [0, 1, 2, 3, 4, 5, 6, 7, 8, 9, 10, 11, 12, 13, 14, 15, 16, 17, 18, 19, 20, 21, 22, 23, 24, 25, 41]) (ix := [0, 1, 2, 3, 4, 5, 6, 7, 8, 9, 10, 11, 12, 13, 14, 15, 16, 17, 18, 19, 20, 21, 22, 23, 24, 25, 27, 28, 29, 30, 31, 32, 33, 34, 35, 36, 37, 38, 39, 40, 41, 26]) (ki := [0, 1]) ⟨rfl, rfl, rfl, rfl, by decide, rfl, rfl⟩ rfl (c_X8_act l dC dI cI cZ r hy207) (cwV 3 C.hts gL_law_X8_act rfl rfl rfl hd_X8_act ⟨Nat.le_of_ble_eq_true rfl, Nat.le_of_ble_eq_true rfl⟩) 26 (ci := 8) rfl rfl rfl rfl rfl (Nat.le_of_ble_eq_true rfl) dL_law_754 ⟨Nat.le_trans hc1 (Nat.le_of_ble_eq_true rfl), Nat.le_trans hc2 (Nat.le_of_ble_eq_true rfl)⟩ ?_
      refine tw_istore (lv' := [(6, .int y207.1), (5, .int y197.1), (0, .ref b), (1, .ref (q 0)), (2, .ref (r 0)), (3, .ref o), (4, .int v4)]) C dL_law_757 (by decide) rfl ?_
      refine tw_aload_n C dL_law_759 4 rfl rfl ?_
      obtain ⟨y208, hy208, hf⟩ := tw_bd hf
      refine tw_fVi (As := []) (stk := []) (Wc := twM cI cZ r y207.2) (Wr := twT cI cZ q y197.2.1 ++ [(o, .inl (cJ, 1, .inr (.inl y197.2.2)))]) (ws' := twLW cI cZ cJ q r o y197.2.1 y208.2 y197.2.2) C (isC := [26, 27, 28, 29, 30, 31, 32, 33, 34, 35, 36, 37, 38, 39, 40]) (isR := [0, 1, 2, 3, 4, 5, 6, 7, 8, 9, 10, 11, 12, 13, 14, 15, 16, 17, 18, 19, 20, 21, 22, 23, 24, 25, 41]) (ix := [0, 1, 2, 3, 4, 5, 6, 7, 8, 9, 10, 11, 12, 13, 14, 15, 16, 17, 18, 19, 20, 21, 22, 23, 24, 25, 27, 28, 29, 30, 31, 32, 33, 34, 35, 36, 37, 38, 39, 40, 41, 26]) (ki := [0, 1]) ⟨rfl, rfl, rfl, rfl, by decide, rfl, rfl⟩ rfl (c_X8_thrown l dC dI cI cZ r hy208) (cwV 0 C.hts gL_law_X8_thrown rfl rfl rfl hd_X8_thrown ⟨Nat.le_of_ble_eq_true rfl, Nat.le_of_ble_eq_true rfl⟩) 26 (ci := 8) rfl rfl rfl rfl rfl (Nat.le_of_ble_eq_true rfl) dL_law_760 ⟨Nat.le_trans hc1 (Nat.le_of_ble_eq_true rfl), Nat.le_trans hc2 (Nat.le_of_ble_eq_true rfl)⟩ ?_
      refine tw_iload C dL_law_763 1 rfl ?_
      refine tw_icmp_eq (tgt := 770) C dL_law_765 (by decide) (fun c209 => ?_) (fun c209 => ?_)
      · have hf := tw_pos hf c209
        refine tw_iload C dL_law_770 1 rfl ?_
        refine tw_if_ne (tgt := 787) C dL_law_772 (by decide) (fun c210 => ?_) (fun c210 => ?_)
        · have hf := tw_neg hf c210
          refine tw_goto (tgt := 1270) C dL_law_787 (by decide) ?_
          refine tw_iinc (v := (v4 + 4)) (lv' := [(4, .int (v4 + 4)), (6, .int y207.1), (5, .int y197.1), (0, .ref b), (1, .ref (q 0)), (2, .ref (r 0)), (3, .ref o)]) C dL_law_1270 (k := 6) rfl rfl (by decide) rfl ?_
          refine tw_goto (tgt := 23) C dL_law_1273 (by decide) ?_
          refine tw_sub [3, 4, 5, 6, 0] rfl ?_
          exact hrec (v4 + 4) y197.2.1 y208.2 y197.2.2 hf
        · have hf := tw_pos hf c210
          refine tw_aload_n C dL_law_775 5 rfl rfl ?_
          refine tw_iconst (v := 0) C dL_law_776 (by decide) ?_
          refine tw_lald C 41 2 (tw_in (i := 0) (n := 1) (by decide)) rfl rfl dL_law_777 ?_
          refine tw_iload C dL_law_778 0 rfl ?_
          refine tw_i2l C dL_law_780 ?_
          refine tw_lcmp C dL_law_781 ?_
          refine tw_if_eq (tgt := 787) C dL_law_782 (by decide) (fun c211 => ?_) (fun c211 => ?_)
          · have hf := tw_pos hf c211
            refine tw_goto (tgt := 1270) C dL_law_787 (by decide) ?_
            refine tw_iinc (v := (v4 + 4)) (lv' := [(4, .int (v4 + 4)), (6, .int y207.1), (5, .int y197.1), (0, .ref b), (1, .ref (q 0)), (2, .ref (r 0)), (3, .ref o)]) C dL_law_1270 (k := 6) rfl rfl (by decide) rfl ?_
            refine tw_goto (tgt := 23) C dL_law_1273 (by decide) ?_
            refine tw_sub [3, 4, 5, 6, 0] rfl ?_
            exact hrec (v4 + 4) y197.2.1 y208.2 y197.2.2 hf
          · have hf := tw_neg hf c211
            refine tw_iconst (v := 0) C dL_law_785 (by decide) ?_
            cases hf
      · have hf := tw_neg hf c209
        refine tw_iconst (v := 0) C dL_law_768 (by decide) ?_
        cases hf
  · have hf := tw_neg hf c196
    refine tw_iconst (v := 1) C dL_law_716 (by decide) ?_
    refine tw_goto (tgt := 721) C dL_law_717 (by decide) ?_
    refine tw_aload_n C dL_law_721 3 rfl rfl ?_
    obtain ⟨y212, hy212, hf⟩ := tw_bd hf
    refine tw_wS (As := [.ref (q 0), .int (xs (v4 + 1).toNatClampNeg), .int (xs (v4 + 2).toNatClampNeg), .int 1, .ref o]) (stk := []) (Wc := twTO cI cZ cJ q o a w) (Wr := twM cI cZ r b9) (ws' := twLW cI cZ cJ q r o y212.2.1 b9 y212.2.2) C X0 hNc (isC := [0, 1, 2, 3, 4, 5, 6, 7, 8, 9, 10, 11, 12, 13, 14, 15, 16, 17, 18, 19, 20, 21, 22, 23, 24, 25, 41]) (isR := [26, 27, 28, 29, 30, 31, 32, 33, 34, 35, 36, 37, 38, 39, 40]) (ix := [15, 16, 17, 18, 19, 20, 21, 22, 23, 24, 25, 26, 27, 28, 29, 30, 31, 32, 33, 34, 35, 36, 37, 38, 39, 40, 0, 1, 2, 3, 4, 5, 6, 7, 8, 9, 10, 11, 12, 13, 14, 41]) (ki := [0, 1, 2]) ⟨rfl, rfl, rfl, rfl, by decide, rfl, rfl⟩ rfl (w_L_act l hl0 dC dI cI cZ cJ q o hy212) (vx_cwSW 5 C.hts gL_law_L_act rfl rfl rfl hd_L_act ⟨Nat.le_of_ble_eq_true rfl, Nat.le_of_ble_eq_true rfl⟩) rfl rfl (Nat.le_of_ble_eq_true rfl) dL_law_722 ⟨Nat.le_trans hc1 (Nat.le_of_ble_eq_true rfl), Nat.le_trans hc2 (Nat.le_of_ble_eq_true rfl)⟩ ?_
    refine tw_istore (lv' := [(5, .int y212.1), (0, .ref b), (1, .ref (q 0)), (2, .ref (r 0)), (3, .ref o), (4, .int v4)]) C dL_law_725 (by decide) rfl ?_
    refine tw_aload_n C dL_law_727 3 rfl rfl ?_
    refine tw_aload_n C dL_law_728 1 rfl rfl ?_
    refine tw_iload C dL_law_729 5 rfl ?_
    refine tw_iconst (v := 1) C dL_law_731 (by decide) ?_
    refine tw_iadd C dL_law_732 ?_
    obtain ⟨hb213, hf⟩ := tw_ck hf
    refine tw_sld C hX hbl hbA hb213 dL_law_733 ?_
    refine tw_aload_n C dL_law_734 1 rfl rfl ?_
    refine tw_iload C dL_law_735 5 rfl ?_
    refine tw_iconst (v := 2) C dL_law_737 (by decide) ?_
    refine tw_iadd C dL_law_738 ?_
    obtain ⟨hb214, hf⟩ := tw_ck hf
    refine tw_sld C hX hbl hbA hb214 dL_law_739 ?_
    refine tw_aload_n C dL_law_740 1 rfl rfl ?_
    refine tw_iload C dL_law_741 5 rfl ?_
    refine tw_iconst (v := 3) C dL_law_743 (by decide) ?_
    refine tw_iadd C dL_law_744 ?_
    obtain ⟨hb215, hf⟩ := tw_ck hf
    refine tw_sld C hX hbl hbA hb215 dL_law_745 ?_
    refine tw_if_eq (tgt := 753) C dL_law_746 (by decide) (fun c216 => ?_) (fun c216 => ?_)
    · have hf := tw_pos hf c216
      refine tw_iconst (v := 0) C dL_law_753 (by decide) ?_
      obtain ⟨y217, hy217, hf⟩ := tw_bd hf
      refine tw_fVi (As := [.int (xs (v4 + 1).toNatClampNeg), .int (xs (v4 + 2).toNatClampNeg), .int 0]) (stk := []) (Wc := twM cI cZ r b9) (Wr := twT cI cZ q y212.2.1 ++ [(o, .inl (cJ, 1, .inr (.inl y212.2.2)))]) (ws' := twLW cI cZ cJ q r o y212.2.1 y217.2 y212.2.2) C (isC := [26, 27, 28, 29, 30, 31, 32, 33, 34, 35, 36, 37, 38, 39, 40]) (isR := [0, 1, 2, 3, 4, 5, 6, 7, 8, 9, 10, 11, 12, 13, 14, 15, 16, 17, 18, 19, 20, 21, 22, 23, 24, 25, 41]) (ix := [0, 1, 2, 3, 4, 5, 6, 7, 8, 9, 10, 11, 12, 13, 14, 15, 16, 17, 18, 19, 20, 21, 22, 23, 24, 25, 27, 28, 29, 30, 31, 32, 33, 34, 35, 36, 37, 38, 39, 40, 41, 26]) (ki := [0, 1]) ⟨rfl, rfl, rfl, rfl, by decide, rfl, rfl⟩ rfl (c_X8_act l dC dI cI cZ r hy217) (cwV 3 C.hts gL_law_X8_act rfl rfl rfl hd_X8_act ⟨Nat.le_of_ble_eq_true rfl, Nat.le_of_ble_eq_true rfl⟩) 26 (ci := 8) rfl rfl rfl rfl rfl (Nat.le_of_ble_eq_true rfl) dL_law_754 ⟨Nat.le_trans hc1 (Nat.le_of_ble_eq_true rfl), Nat.le_trans hc2 (Nat.le_of_ble_eq_true rfl)⟩ ?_
      refine tw_istore (lv' := [(6, .int y217.1), (5, .int y212.1), (0, .ref b), (1, .ref (q 0)), (2, .ref (r 0)), (3, .ref o), (4, .int v4)]) C dL_law_757 (by decide) rfl ?_
      refine tw_aload_n C dL_law_759 4 rfl rfl ?_
      obtain ⟨y218, hy218, hf⟩ := tw_bd hf
      refine tw_fVi (As := []) (stk := []) (Wc := twM cI cZ r y217.2) (Wr := twT cI cZ q y212.2.1 ++ [(o, .inl (cJ, 1, .inr (.inl y212.2.2)))]) (ws' := twLW cI cZ cJ q r o y212.2.1 y218.2 y212.2.2) C (isC := [26, 27, 28, 29, 30, 31, 32, 33, 34, 35, 36, 37, 38, 39, 40]) (isR := [0, 1, 2, 3, 4, 5, 6, 7, 8, 9, 10, 11, 12, 13, 14, 15, 16, 17, 18, 19, 20, 21, 22, 23, 24, 25, 41]) (ix := [0, 1, 2, 3, 4, 5, 6, 7, 8, 9, 10, 11, 12, 13, 14, 15, 16, 17, 18, 19, 20, 21, 22, 23, 24, 25, 27, 28, 29, 30, 31, 32, 33, 34, 35, 36, 37, 38, 39, 40, 41, 26]) (ki := [0, 1]) ⟨rfl, rfl, rfl, rfl, by decide, rfl, rfl⟩ rfl (c_X8_thrown l dC dI cI cZ r hy218) (cwV 0 C.hts gL_law_X8_thrown rfl rfl rfl hd_X8_thrown ⟨Nat.le_of_ble_eq_true rfl, Nat.le_of_ble_eq_true rfl⟩) 26 (ci := 8) rfl rfl rfl rfl rfl (Nat.le_of_ble_eq_true rfl) dL_law_760 ⟨Nat.le_trans hc1 (Nat.le_of_ble_eq_true rfl), Nat.le_trans hc2 (Nat.le_of_ble_eq_true rfl)⟩ ?_
      refine tw_iload C dL_law_763 1 rfl ?_
      refine tw_icmp_eq (tgt := 770) C dL_law_765 (by decide) (fun c219 => ?_) (fun c219 => ?_)
      · have hf := tw_pos hf c219
        refine tw_iload C dL_law_770 1 rfl ?_
        refine tw_if_ne (tgt := 787) C dL_law_772 (by decide) (fun c220 => ?_) (fun c220 => ?_)
        · have hf := tw_neg hf c220
          refine tw_goto (tgt := 1270) C dL_law_787 (by decide) ?_
          refine tw_iinc (v := (v4 + 4)) (lv' := [(4, .int (v4 + 4)), (6, .int y217.1), (5, .int y212.1), (0, .ref b), (1, .ref (q 0)), (2, .ref (r 0)), (3, .ref o)]) C dL_law_1270 (k := 6) rfl rfl (by decide) rfl ?_
          refine tw_goto (tgt := 23) C dL_law_1273 (by decide) ?_
          refine tw_sub [3, 4, 5, 6, 0] rfl ?_
          exact hrec (v4 + 4) y212.2.1 y218.2 y212.2.2 hf
        · have hf := tw_pos hf c220
          refine tw_aload_n C dL_law_775 5 rfl rfl ?_
          refine tw_iconst (v := 0) C dL_law_776 (by decide) ?_
          refine tw_lald C 41 2 (tw_in (i := 0) (n := 1) (by decide)) rfl rfl dL_law_777 ?_
          refine tw_iload C dL_law_778 0 rfl ?_
          refine tw_i2l C dL_law_780 ?_
          refine tw_lcmp C dL_law_781 ?_
          refine tw_if_eq (tgt := 787) C dL_law_782 (by decide) (fun c221 => ?_) (fun c221 => ?_)
          · have hf := tw_pos hf c221
            refine tw_goto (tgt := 1270) C dL_law_787 (by decide) ?_
            refine tw_iinc (v := (v4 + 4)) (lv' := [(4, .int (v4 + 4)), (6, .int y217.1), (5, .int y212.1), (0, .ref b), (1, .ref (q 0)), (2, .ref (r 0)), (3, .ref o)]) C dL_law_1270 (k := 6) rfl rfl (by decide) rfl ?_
            refine tw_goto (tgt := 23) C dL_law_1273 (by decide) ?_
            refine tw_sub [3, 4, 5, 6, 0] rfl ?_
            exact hrec (v4 + 4) y212.2.1 y218.2 y212.2.2 hf
          · have hf := tw_neg hf c221
            refine tw_iconst (v := 0) C dL_law_785 (by decide) ?_
            cases hf
      · have hf := tw_neg hf c219
        refine tw_iconst (v := 0) C dL_law_768 (by decide) ?_
        cases hf
    · have hf := tw_neg hf c216
      refine tw_iconst (v := 1) C dL_law_749 (by decide) ?_
      refine tw_goto (tgt := 754) C dL_law_750 (by decide) ?_
      obtain ⟨y222, hy222, hf⟩ := tw_bd hf
      refine tw_fVi (As := [.int (xs (v4 + 1).toNatClampNeg), .int (xs (v4 + 2).toNatClampNeg), .int 1]) (stk := []) (Wc := twM cI cZ r b9) (Wr := twT cI cZ q y212.2.1 ++ [(o, .inl (cJ, 1, .inr (.inl y212.2.2)))]) (ws' := twLW cI cZ cJ q r o y212.2.1 y222.2 y212.2.2) C (isC := [26, 27, 28, 29, 30, 31, 32, 33, 34, 35, 36, 37, 38, 39, 40]) (isR := [0, 1, 2, 3, 4, 5, 6, 7, 8, 9, 10, 11, 12, 13, 14, 15, 16, 17, 18, 19, 20, 21, 22, 23, 24, 25, 41]) (ix := [0, 1, 2, 3, 4, 5, 6, 7, 8, 9, 10, 11, 12, 13, 14, 15, 16, 17, 18, 19, 20, 21, 22, 23, 24, 25, 27, 28, 29, 30, 31, 32, 33, 34, 35, 36, 37, 38, 39, 40, 41, 26]) (ki := [0, 1]) ⟨rfl, rfl, rfl, rfl, by decide, rfl, rfl⟩ rfl (c_X8_act l dC dI cI cZ r hy222) (cwV 3 C.hts gL_law_X8_act rfl rfl rfl hd_X8_act ⟨Nat.le_of_ble_eq_true rfl, Nat.le_of_ble_eq_true rfl⟩) 26 (ci := 8) rfl rfl rfl rfl rfl (Nat.le_of_ble_eq_true rfl) dL_law_754 ⟨Nat.le_trans hc1 (Nat.le_of_ble_eq_true rfl), Nat.le_trans hc2 (Nat.le_of_ble_eq_true rfl)⟩ ?_
      refine tw_istore (lv' := [(6, .int y222.1), (5, .int y212.1), (0, .ref b), (1, .ref (q 0)), (2, .ref (r 0)), (3, .ref o), (4, .int v4)]) C dL_law_757 (by decide) rfl ?_
      refine tw_aload_n C dL_law_759 4 rfl rfl ?_
      obtain ⟨y223, hy223, hf⟩ := tw_bd hf
      refine tw_fVi (As := []) (stk := []) (Wc := twM cI cZ r y222.2) (Wr := twT cI cZ q y212.2.1 ++ [(o, .inl (cJ, 1, .inr (.inl y212.2.2)))]) (ws' := twLW cI cZ cJ q r o y212.2.1 y223.2 y212.2.2) C (isC := [26, 27, 28, 29, 30, 31, 32, 33, 34, 35, 36, 37, 38, 39, 40]) (isR := [0, 1, 2, 3, 4, 5, 6, 7, 8, 9, 10, 11, 12, 13, 14, 15, 16, 17, 18, 19, 20, 21, 22, 23, 24, 25, 41]) (ix := [0, 1, 2, 3, 4, 5, 6, 7, 8, 9, 10, 11, 12, 13, 14, 15, 16, 17, 18, 19, 20, 21, 22, 23, 24, 25, 27, 28, 29, 30, 31, 32, 33, 34, 35, 36, 37, 38, 39, 40, 41, 26]) (ki := [0, 1]) ⟨rfl, rfl, rfl, rfl, by decide, rfl, rfl⟩ rfl (c_X8_thrown l dC dI cI cZ r hy223) (cwV 0 C.hts gL_law_X8_thrown rfl rfl rfl hd_X8_thrown ⟨Nat.le_of_ble_eq_true rfl, Nat.le_of_ble_eq_true rfl⟩) 26 (ci := 8) rfl rfl rfl rfl rfl (Nat.le_of_ble_eq_true rfl) dL_law_760 ⟨Nat.le_trans hc1 (Nat.le_of_ble_eq_true rfl), Nat.le_trans hc2 (Nat.le_of_ble_eq_true rfl)⟩ ?_
      refine tw_iload C dL_law_763 1 rfl ?_
      refine tw_icmp_eq (tgt := 770) C dL_law_765 (by decide) (fun c224 => ?_) (fun c224 => ?_)
      · have hf := tw_pos hf c224
        refine tw_iload C dL_law_770 1 rfl ?_
        refine tw_if_ne (tgt := 787) C dL_law_772 (by decide) (fun c225 => ?_) (fun c225 => ?_)
        · have hf := tw_neg hf c225
          refine tw_goto (tgt := 1270) C dL_law_787 (by decide) ?_
          refine tw_iinc (v := (v4 + 4)) (lv' := [(4, .int (v4 + 4)), (6, .int y222.1), (5, .int y212.1), (0, .ref b), (1, .ref (q 0)), (2, .ref (r 0)), (3, .ref o)]) C dL_law_1270 (k := 6) rfl rfl (by decide) rfl ?_
          refine tw_goto (tgt := 23) C dL_law_1273 (by decide) ?_
          refine tw_sub [3, 4, 5, 6, 0] rfl ?_
          exact hrec (v4 + 4) y212.2.1 y223.2 y212.2.2 hf
        · have hf := tw_pos hf c225
          refine tw_aload_n C dL_law_775 5 rfl rfl ?_
          refine tw_iconst (v := 0) C dL_law_776 (by decide) ?_
          refine tw_lald C 41 2 (tw_in (i := 0) (n := 1) (by decide)) rfl rfl dL_law_777 ?_
          refine tw_iload C dL_law_778 0 rfl ?_
          refine tw_i2l C dL_law_780 ?_
          refine tw_lcmp C dL_law_781 ?_
          refine tw_if_eq (tgt := 787) C dL_law_782 (by decide) (fun c226 => ?_) (fun c226 => ?_)
          · have hf := tw_pos hf c226
            refine tw_goto (tgt := 1270) C dL_law_787 (by decide) ?_
            refine tw_iinc (v := (v4 + 4)) (lv' := [(4, .int (v4 + 4)), (6, .int y222.1), (5, .int y212.1), (0, .ref b), (1, .ref (q 0)), (2, .ref (r 0)), (3, .ref o)]) C dL_law_1270 (k := 6) rfl rfl (by decide) rfl ?_
            refine tw_goto (tgt := 23) C dL_law_1273 (by decide) ?_
            refine tw_sub [3, 4, 5, 6, 0] rfl ?_
            exact hrec (v4 + 4) y212.2.1 y223.2 y212.2.2 hf
          · have hf := tw_neg hf c226
            refine tw_iconst (v := 0) C dL_law_785 (by decide) ?_
            cases hf
      · have hf := tw_neg hf c224
        refine tw_iconst (v := 0) C dL_law_768 (by decide) ?_
        cases hf
set_option maxRecDepth 20000 in
theorem k_law_9 {p : Program} {l : Launch} {e : Env} {s : State} {m : MethodId} {args : Array Value} {below : List Frame} {meth : Method} {c : Code} {Q : State → Prop} {dC : Nat → ClassId} {dI : Nat → Nat → Nat} {cI cZ cJ : ClassId} {q r : Nat → Nat} {o b L nc ns : Nat} {xs : Nat → Int32} {A : Nat → Prop} {rec : Int32 → twS → twS → (Nat → Int64) → Option Int32} (C : twC p s m args meth c cL_law 7 RL wsL_law (dC, dI) (twY3 cI cZ cJ) A) (hE : ∀ (pc k n : Nat) (lv : List (Nat × Value)) (ws : va_W), decode cL_law pc = .ok (.ireturn, 1) → k ≤ 1070 → n ≤ 8788 → twG p l e room_1 s m args below meth c k n Q (dC, dI) A 7 ws pc lv [.int 1]) (hX : va_X b L xs s s.heap) (hbl : b < s.heap.size) (hbA : ¬ A b) (X0 : twXf A s s.heap) (hNc : twNcs s) (hl0 : l.stackTraces = false) (hc1 : nc + 1 ≤ 1070) (hc2 : ns + 6 ≤ 8788) (hrec : ∀ (v4 : Int32) (a b9 : twS) (w : Nat → Int64), rec v4 a b9 w = some 1 → twG p l e room_1 s m args below meth c (nc + 1) (ns + 6) Q (dC, dI) A 7 (twLW cI cZ cJ q r o a b9 w) 23 [(0, .ref b), (1, .ref (q 0)), (2, .ref (r 0)), (3, .ref o), (4, .int v4)] []) : ∀ (v4 : Int32) (a b9 : twS) (w : Nat → Int64), f_law_9 rec L xs v4 a b9 w = some 1 → twG p l e room_1 s m args below meth c nc ns Q (dC, dI) A 7 (twLW cI cZ cJ q r o a b9 w) 790 [(0, .ref b), (1, .ref (q 0)), (2, .ref (r 0)), (3, .ref o), (4, .int v4)] [] := by
  intro v4 a b9 w hf
  unfold f_law_9 at hf
  refine tw_aload_n C dL_law_790 1 rfl rfl ?_
  refine tw_aload_n C dL_law_791 0 rfl rfl ?_
  refine tw_iload C dL_law_792 4 rfl ?_
  refine tw_iconst (v := 1) C dL_law_794 (by decide) ?_
  refine tw_iadd C dL_law_795 ?_
  obtain ⟨hb227, hf⟩ := tw_ck hf
  refine tw_sld C hX hbl hbA hb227 dL_law_796 ?_
  refine tw_aload_n C dL_law_797 0 rfl rfl ?_
  refine tw_iload C dL_law_798 4 rfl ?_
  refine tw_iconst (v := 2) C dL_law_800 (by decide) ?_
  refine tw_iadd C dL_law_801 ?_
  obtain ⟨hb228, hf⟩ := tw_ck hf
  refine tw_sld C hX hbl hbA hb228 dL_law_802 ?_
  refine tw_aload_n C dL_law_803 3 rfl rfl ?_
  obtain ⟨y229, hy229, hf⟩ := tw_bd hf
  refine tw_wS (As := [.ref (q 0), .int (xs (v4 + 1).toNatClampNeg), .int (xs (v4 + 2).toNatClampNeg), .ref o]) (stk := []) (Wc := twTO cI cZ cJ q o a w) (Wr := twM cI cZ r b9) (ws' := twLW cI cZ cJ q r o y229.2.1 b9 y229.2.2) C X0 hNc (isC := [0, 1, 2, 3, 4, 5, 6, 7, 8, 9, 10, 11, 12, 13, 14, 15, 16, 17, 18, 19, 20, 21, 22, 23, 24, 25, 41]) (isR := [26, 27, 28, 29, 30, 31, 32, 33, 34, 35, 36, 37, 38, 39, 40]) (ix := [15, 16, 17, 18, 19, 20, 21, 22, 23, 24, 25, 26, 27, 28, 29, 30, 31, 32, 33, 34, 35, 36, 37, 38, 39, 40, 0, 1, 2, 3, 4, 5, 6, 7, 8, 9, 10, 11, 12, 13, 14, 41]) (ki := [0, 1, 2]) ⟨rfl, rfl, rfl, rfl, by decide, rfl, rfl⟩ rfl (w_L_command l hl0 dC dI cI cZ cJ q o hy229) (vx_cwSW 4 C.hts gL_law_L_command rfl rfl rfl hd_L_command ⟨Nat.le_of_ble_eq_true rfl, Nat.le_of_ble_eq_true rfl⟩) rfl rfl (Nat.le_of_ble_eq_true rfl) dL_law_804 ⟨Nat.le_trans hc1 (Nat.le_of_ble_eq_true rfl), Nat.le_trans hc2 (Nat.le_of_ble_eq_true rfl)⟩ ?_
  refine tw_istore (lv' := [(5, .int y229.1), (0, .ref b), (1, .ref (q 0)), (2, .ref (r 0)), (3, .ref o), (4, .int v4)]) C dL_law_807 (by decide) rfl ?_
  refine tw_aload_n C dL_law_809 3 rfl rfl ?_
  refine tw_aload_n C dL_law_810 1 rfl rfl ?_
  refine tw_iload C dL_law_811 5 rfl ?_
  refine tw_iconst (v := 1) C dL_law_813 (by decide) ?_
  refine tw_iadd C dL_law_814 ?_
  obtain ⟨hb230, hf⟩ := tw_ck hf
  refine tw_sld C hX hbl hbA hb230 dL_law_815 ?_
  refine tw_aload_n C dL_law_816 1 rfl rfl ?_
  refine tw_iload C dL_law_817 5 rfl ?_
  refine tw_iconst (v := 2) C dL_law_819 (by decide) ?_
  refine tw_iadd C dL_law_820 ?_
  obtain ⟨hb231, hf⟩ := tw_ck hf
  refine tw_sld C hX hbl hbA hb231 dL_law_821 ?_
  obtain ⟨y232, hy232, hf⟩ := tw_bd hf
  refine tw_fVi (As := [.int (xs (v4 + 1).toNatClampNeg), .int (xs (v4 + 2).toNatClampNeg)]) (stk := []) (Wc := twM cI cZ r b9) (Wr := twT cI cZ q y229.2.1 ++ [(o, .inl (cJ, 1, .inr (.inl y229.2.2)))]) (ws' := twLW cI cZ cJ q r o y229.2.1 y232.2 y229.2.2) C (isC := [26, 27, 28, 29, 30, 31, 32, 33, 34, 35, 36, 37, 38, 39, 40]) (isR := [0, 1, 2, 3, 4, 5, 6, 7, 8, 9, 10, 11, 12, 13, 14, 15, 16, 17, 18, 19, 20, 21, 22, 23, 24, 25, 41]) (ix := [0, 1, 2, 3, 4, 5, 6, 7, 8, 9, 10, 11, 12, 13, 14, 15, 16, 17, 18, 19, 20, 21, 22, 23, 24, 25, 27, 28, 29, 30, 31, 32, 33, 34, 35, 36, 37, 38, 39, 40, 41, 26]) (ki := [0, 1]) ⟨rfl, rfl, rfl, rfl, by decide, rfl, rfl⟩ rfl (c_X8_command l dC dI cI cZ r hy232) (cwV 2 C.hts gL_law_X8_command rfl rfl rfl hd_X8_command ⟨Nat.le_of_ble_eq_true rfl, Nat.le_of_ble_eq_true rfl⟩) 26 (ci := 8) rfl rfl rfl rfl rfl (Nat.le_of_ble_eq_true rfl) dL_law_822 ⟨Nat.le_trans hc1 (Nat.le_of_ble_eq_true rfl), Nat.le_trans hc2 (Nat.le_of_ble_eq_true rfl)⟩ ?_
  refine tw_istore (lv' := [(6, .int y232.1), (5, .int y229.1), (0, .ref b), (1, .ref (q 0)), (2, .ref (r 0)), (3, .ref o), (4, .int v4)]) C dL_law_825 (by decide) rfl ?_
  refine tw_aload_n C dL_law_827 4 rfl rfl ?_
  obtain ⟨y233, hy233, hf⟩ := tw_bd hf
  refine tw_fVi (As := []) (stk := []) (Wc := twM cI cZ r y232.2) (Wr := twT cI cZ q y229.2.1 ++ [(o, .inl (cJ, 1, .inr (.inl y229.2.2)))]) (ws' := twLW cI cZ cJ q r o y229.2.1 y233.2 y229.2.2) C (isC := [26, 27, 28, 29, 30, 31, 32, 33, 34, 35, 36, 37, 38, 39, 40]) (isR := [0, 1, 2, 3, 4, 5, 6, 7, 8, 9, 10, 11, 12, 13, 14, 15, 16, 17, 18, 19, 20, 21, 22, 23, 24, 25, 41]) (ix := [0, 1, 2, 3, 4, 5, 6, 7, 8, 9, 10, 11, 12, 13, 14, 15, 16, 17, 18, 19, 20, 21, 22, 23, 24, 25, 27, 28, 29, 30, 31, 32, 33, 34, 35, 36, 37, 38, 39, 40, 41, 26]) (ki := [0, 1]) ⟨rfl, rfl, rfl, rfl, by decide, rfl, rfl⟩ rfl (c_X8_thrown l dC dI cI cZ r hy233) (cwV 0 C.hts gL_law_X8_thrown rfl rfl rfl hd_X8_thrown ⟨Nat.le_of_ble_eq_true rfl, Nat.le_of_ble_eq_true rfl⟩) 26 (ci := 8) rfl rfl rfl rfl rfl (Nat.le_of_ble_eq_true rfl) dL_law_828 ⟨Nat.le_trans hc1 (Nat.le_of_ble_eq_true rfl), Nat.le_trans hc2 (Nat.le_of_ble_eq_true rfl)⟩ ?_
  refine tw_iload C dL_law_831 1 rfl ?_
  refine tw_icmp_eq (tgt := 838) C dL_law_833 (by decide) (fun c234 => ?_) (fun c234 => ?_)
  · have hf := tw_pos hf c234
    refine tw_iload C dL_law_838 1 rfl ?_
    refine tw_if_ne (tgt := 855) C dL_law_840 (by decide) (fun c235 => ?_) (fun c235 => ?_)
    · have hf := tw_neg hf c235
      refine tw_goto (tgt := 1270) C dL_law_855 (by decide) ?_
      refine tw_iinc (v := (v4 + 4)) (lv' := [(4, .int (v4 + 4)), (6, .int y232.1), (5, .int y229.1), (0, .ref b), (1, .ref (q 0)), (2, .ref (r 0)), (3, .ref o)]) C dL_law_1270 (k := 6) rfl rfl (by decide) rfl ?_
      refine tw_goto (tgt := 23) C dL_law_1273 (by decide) ?_
      refine tw_sub [3, 4, 5, 6, 0] rfl ?_
      exact hrec (v4 + 4) y229.2.1 y233.2 y229.2.2 hf
    · have hf := tw_pos hf c235
      refine tw_aload_n C dL_law_843 5 rfl rfl ?_
      refine tw_iconst (v := 0) C dL_law_844 (by decide) ?_
      refine tw_lald C 41 2 (tw_in (i := 0) (n := 1) (by decide)) rfl rfl dL_law_845 ?_
      refine tw_iload C dL_law_846 0 rfl ?_
      refine tw_i2l C dL_law_848 ?_
      refine tw_lcmp C dL_law_849 ?_
      refine tw_if_eq (tgt := 855) C dL_law_850 (by decide) (fun c236 => ?_) (fun c236 => ?_)
      · have hf := tw_pos hf c236
        refine tw_goto (tgt := 1270) C dL_law_855 (by decide) ?_
        refine tw_iinc (v := (v4 + 4)) (lv' := [(4, .int (v4 + 4)), (6, .int y232.1), (5, .int y229.1), (0, .ref b), (1, .ref (q 0)), (2, .ref (r 0)), (3, .ref o)]) C dL_law_1270 (k := 6) rfl rfl (by decide) rfl ?_
        refine tw_goto (tgt := 23) C dL_law_1273 (by decide) ?_
        refine tw_sub [3, 4, 5, 6, 0] rfl ?_
        exact hrec (v4 + 4) y229.2.1 y233.2 y229.2.2 hf
      · have hf := tw_neg hf c236
        refine tw_iconst (v := 0) C dL_law_853 (by decide) ?_
        cases hf
  · have hf := tw_neg hf c234
    refine tw_iconst (v := 0) C dL_law_836 (by decide) ?_
    cases hf
