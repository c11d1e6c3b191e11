section
variable {p : Program} {l : Launch} {e : Env} {s : State} {m : MethodId} {args : Array Value} {below : List Frame} {meth : Method} {c : Code} {Q : State → Prop} {dC : Nat → ClassId} {dI : Nat → Nat → Nat} {cI cZ : ClassId} {q : Nat → Nat} {A : Nat → Prop} {res : Int32 × twS} {b L nc ns : Nat} {xs : Nat → Int32}
set_option maxRecDepth 20000 in
theorem k_L_law_L303 (C : twC p s m args meth c cL_law 14 RL wsL_law (dC, dI) (twY cI cZ) A) (hE : ∀ (pc k n : Nat) (lv : List (Nat × Value)) (ws : va_W), decode cL_law pc = .ok (.ireturn, 1) → k ≤ 160 → n ≤ 1377 → twG p l e room_1 s m args below meth c k n Q (dC, dI) A 14 ws pc lv [.int 1]) (hr1 : res.1 = 1) (hX : va_X b L xs s s.heap) (hbl : b < s.heap.size) (hbA : ¬ A b) (X0 : twXf A s s.heap) (hNc : twNcs s) (hl0 : l.stackTraces = false) (hc1 : nc + 1 ≤ 160) (hc2 : ns + 6 ≤ 1377) {rec : Int32 → Int32 → Int32 → Int32 → Int32 → Int32 → Int32 → twS → Option (Int32 × twS)} (hrec : ∀ (v2 : Int32) (v3 : Int32) (v4 : Int32) (v5 : Int32) (v6 : Int32) (v7 : Int32) (v8 : Int32) (st : twS), rec v2 v3 v4 v5 v6 v7 v8 st = some res → twG p l e room_1 s m args below meth c (nc + 1) (ns + 6) Q (dC, dI) A 14 (twT cI cZ q st) 55 [(0, .ref b), (1, .ref (q 0)), (2, .int v2), (3, .int v3), (4, .int v4), (5, .int v5), (6, .int v6), (7, .int v7), (8, .int v8)] []) : ∀ (v2 : Int32) (v3 : Int32) (v4 : Int32) (v5 : Int32) (v6 : Int32) (v8 : Int32) (st : twS), f_L_law_L303 L xs rec v2 v3 v4 v5 v6 v8 st = some res → twG p l e room_1 s m args below meth c nc ns Q (dC, dI) A 14 (twT cI cZ q st) 303 [(0, .ref b), (1, .ref (q 0)), (2, .int v2), (3, .int v3), (4, .int v4), (5, .int v5), (6, .int v6), (8, .int v8)] [] := by
  intro v2 v3 v4 v5 v6 v8 st hf
  unfold f_L_law_L303 at hf
  refine tw_iconst (v := 0) C dL_law_303 (by decide) ?_
  exact k_L_law_L304 C hE hr1 hX hbl hbA X0 hNc hl0 hc1 hc2 hrec v2 v3 v4 v5 v6 v8 0 st hf
set_option maxRecDepth 20000 in
theorem k_L_law_L292 (C : twC p s m args meth c cL_law 14 RL wsL_law (dC, dI) (twY cI cZ) A) (hE : ∀ (pc k n : Nat) (lv : List (Nat × Value)) (ws : va_W), decode cL_law pc = .ok (.ireturn, 1) → k ≤ 160 → n ≤ 1377 → twG p l e room_1 s m args below meth c k n Q (dC, dI) A 14 ws pc lv [.int 1]) (hr1 : res.1 = 1) (hX : va_X b L xs s s.heap) (hbl : b < s.heap.size) (hbA : ¬ A b) (X0 : twXf A s s.heap) (hNc : twNcs s) (hl0 : l.stackTraces = false) (hc1 : nc + 1 ≤ 160) (hc2 : ns + 6 ≤ 1377) {rec : Int32 → Int32 → Int32 → Int32 → Int32 → Int32 → Int32 → twS → Option (Int32 × twS)} (hrec : ∀ (v2 : Int32) (v3 : Int32) (v4 : Int32) (v5 : Int32) (v6 : Int32) (v7 : Int32) (v8 : Int32) (st : twS), rec v2 v3 v4 v5 v6 v7 v8 st = some res → twG p l e room_1 s m args below meth c (nc + 1) (ns + 6) Q (dC, dI) A 14 (twT cI cZ q st) 55 [(0, .ref b), (1, .ref (q 0)), (2, .int v2), (3, .int v3), (4, .int v4), (5, .int v5), (6, .int v6), (7, .int v7), (8, .int v8)] []) : ∀ (v2 : Int32) (v3 : Int32) (v4 : Int32) (v5 : Int32) (v6 : Int32) (v8 : Int32) (k0 : Int32) (k1 : Int32) (st : twS), f_L_law_L292 L xs rec v2 v3 v4 v5 v6 v8 k0 k1 st = some res → twG p l e room_1 s m args below meth c nc ns Q (dC, dI) A 14 (twT cI cZ q st) 292 [(0, .ref b), (1, .ref (q 0)), (2, .int v2), (3, .int v3), (4, .int v4), (5, .int v5), (6, .int v6), (8, .int v8)] [.int k0, .int k1, .ref (q 0)] := by
  intro v2 v3 v4 v5 v6 v8 k0 k1 st hf
  unfold f_L_law_L292 at hf
  obtain ⟨y292001, hc292001, hf⟩ := tw_bd hf
  refine tw_cWi (As := [.ref (q 0), .int k1, .int k0]) (stk := []) C (c_L_failFan l dC dI cI cZ q hc292001) (vx_cwSW 3 C.hts gL_law_L_failFan rfl rfl rfl hd_L_failFan ⟨Nat.le_of_ble_eq_true rfl, Nat.le_of_ble_eq_true rfl⟩) rfl rfl (Nat.le_of_ble_eq_true rfl) dL_law_292 ⟨Nat.le_trans (Nat.le_of_succ_le hc1) (Nat.le_of_ble_eq_true rfl), Nat.le_trans (Nat.le_trans (Nat.le_add_right _ 6) hc2) (Nat.le_of_ble_eq_true rfl)⟩ ?_
  refine tw_iconst (v := (-1)) C dL_law_295 (by decide) ?_
  refine tw_icmp_lt (tgt := 303) C dL_law_296 (by decide) (fun c292002 => ?_) (fun c292002 => ?_)
  · have hf := tw_pos hf c292002
    exact k_L_law_L303 C hE hr1 hX hbl hbA X0 hNc hl0 hc1 hc2 hrec v2 v3 v4 v5 v6 v8 y292001.2 hf
  · have hf := tw_neg hf c292002
    refine tw_iconst (v := 1) C dL_law_299 (by decide) ?_
    refine tw_goto (tgt := 304) C dL_law_300 (by decide) ?_
    exact k_L_law_L304 C hE hr1 hX hbl hbA X0 hNc hl0 hc1 hc2 hrec v2 v3 v4 v5 v6 v8 1 y292001.2 hf
set_option maxRecDepth 20000 in
theorem k_L_law_L266 (C : twC p s m args meth c cL_law 14 RL wsL_law (dC, dI) (twY cI cZ) A) (hE : ∀ (pc k n : Nat) (lv : List (Nat × Value)) (ws : va_W), decode cL_law pc = .ok (.ireturn, 1) → k ≤ 160 → n ≤ 1377 → twG p l e room_1 s m args below meth c k n Q (dC, dI) A 14 ws pc lv [.int 1]) (hr1 : res.1 = 1) (hX : va_X b L xs s s.heap) (hbl : b < s.heap.size) (hbA : ¬ A b) (X0 : twXf A s s.heap) (hNc : twNcs s) (hl0 : l.stackTraces = false) (hc1 : nc + 1 ≤ 160) (hc2 : ns + 6 ≤ 1377) {rec : Int32 → Int32 → Int32 → Int32 → Int32 → Int32 → Int32 → twS → Option (Int32 × twS)} (hrec : ∀ (v2 : Int32) (v3 : Int32) (v4 : Int32) (v5 : Int32) (v6 : Int32) (v7 : Int32) (v8 : Int32) (st : twS), rec v2 v3 v4 v5 v6 v7 v8 st = some res → twG p l e room_1 s m args below meth c (nc + 1) (ns + 6) Q (dC, dI) A 14 (twT cI cZ q st) 55 [(0, .ref b), (1, .ref (q 0)), (2, .int v2), (3, .int v3), (4, .int v4), (5, .int v5), (6, .int v6), (7, .int v7), (8, .int v8)] []) : ∀ (v2 : Int32) (v3 : Int32) (v4 : Int32) (v5 : Int32) (v6 : Int32) (v8 : Int32) (v10 : Int32) (k0 : Int32) (k1 : Int32) (st : twS), f_L_law_L266 L xs rec v2 v3 v4 v5 v6 v8 v10 k0 k1 st = some res → twG p l e room_1 s m args below meth c nc ns Q (dC, dI) A 14 (twT cI cZ q st) 266 [(0, .ref b), (1, .ref (q 0)), (2, .int v2), (3, .int v3), (4, .int v4), (5, .int v5), (6, .int v6), (8, .int v8), (10, .int v10)] [.int k0, .int k1, .ref (q 0)] := by
  intro v2 v3 v4 v5 v6 v8 v10 k0 k1 st hf
  unfold f_L_law_L266 at hf
  obtain ⟨y266001, hc266001, hf⟩ := tw_bd hf
  refine tw_cWi (As := [.ref (q 0), .int k1, .int k0]) (stk := []) C (c_L_feed l dC dI cI cZ q hc266001) (vx_cwSW 3 C.hts gL_law_L_feed rfl rfl rfl hd_L_feed ⟨Nat.le_of_ble_eq_true rfl, Nat.le_of_ble_eq_true rfl⟩) rfl rfl (Nat.le_of_ble_eq_true rfl) dL_law_266 ⟨Nat.le_trans (Nat.le_of_succ_le hc1) (Nat.le_of_ble_eq_true rfl), Nat.le_trans (Nat.le_trans (Nat.le_add_right _ 6) hc2) (Nat.le_of_ble_eq_true rfl)⟩ ?_
  refine tw_if_lt (tgt := 303) C dL_law_269 (by decide) (fun c266002 => ?_) (fun c266002 => ?_)
  · have hf := tw_pos hf c266002
    refine tw_sub [0, 1, 2, 3, 4, 5, 6, 7] rfl ?_
    exact k_L_law_L303 C hE hr1 hX hbl hbA X0 hNc hl0 hc1 hc2 hrec v2 v3 v4 v5 v6 v8 y266001.2 hf
  · have hf := tw_neg hf c266002
    refine tw_aload_n C dL_law_272 1 rfl rfl ?_
    refine tw_iload C dL_law_273 8 rfl ?_
    refine tw_iconst (v := 3) C dL_law_275 (by decide) ?_
    refine tw_irem C dL_law_276 (by decide) ?_
    refine tw_iload C dL_law_277 8 rfl ?_
    refine tw_bipush (v := 6) C dL_law_279 (by decide) ?_
    refine tw_idiv C dL_law_281 (by decide) ?_
    refine tw_iconst (v := 3) C dL_law_282 (by decide) ?_
    refine tw_irem C dL_law_283 (by decide) ?_
    refine tw_if_ne (tgt := 291) C dL_law_284 (by decide) (fun c266003 => ?_) (fun c266003 => ?_)
    · have hf := tw_neg hf c266003
      refine tw_iconst (v := 0) C dL_law_291 (by decide) ?_
      refine tw_sub [0, 1, 2, 3, 4, 5, 6, 7] rfl ?_
      exact k_L_law_L292 C hE hr1 hX hbl hbA X0 hNc hl0 hc1 hc2 hrec v2 v3 v4 v5 v6 v8 0 (v10 - v10 / 3 * 3) y266001.2 hf
    · have hf := tw_pos hf c266003
      refine tw_iconst (v := 1) C dL_law_287 (by decide) ?_
      refine tw_goto (tgt := 292) C dL_law_288 (by decide) ?_
      refine tw_sub [0, 1, 2, 3, 4, 5, 6, 7] rfl ?_
      exact k_L_law_L292 C hE hr1 hX hbl hbA X0 hNc hl0 hc1 hc2 hrec v2 v3 v4 v5 v6 v8 1 (v10 - v10 / 3 * 3) y266001.2 hf
set_option maxRecDepth 20000 in
theorem k_L_law_L236 (C : twC p s m args meth c cL_law 14 RL wsL_law (dC, dI) (twY cI cZ) A) (hE : ∀ (pc k n : Nat) (lv : List (Nat × Value)) (ws : va_W), decode cL_law pc = .ok (.ireturn, 1) → k ≤ 160 → n ≤ 1377 → twG p l e room_1 s m args below meth c k n Q (dC, dI) A 14 ws pc lv [.int 1]) (hr1 : res.1 = 1) (hX : va_X b L xs s s.heap) (hbl : b < s.heap.size) (hbA : ¬ A b) (X0 : twXf A s s.heap) (hNc : twNcs s) (hl0 : l.stackTraces = false) (hc1 : nc + 1 ≤ 160) (hc2 : ns + 6 ≤ 1377) {rec : Int32 → Int32 → Int32 → Int32 → Int32 → Int32 → Int32 → twS → Option (Int32 × twS)} (hrec : ∀ (v2 : Int32) (v3 : Int32) (v4 : Int32) (v5 : Int32) (v6 : Int32) (v7 : Int32) (v8 : Int32) (st : twS), rec v2 v3 v4 v5 v6 v7 v8 st = some res → twG p l e room_1 s m args below meth c (nc + 1) (ns + 6) Q (dC, dI) A 14 (twT cI cZ q st) 55 [(0, .ref b), (1, .ref (q 0)), (2, .int v2), (3, .int v3), (4, .int v4), (5, .int v5), (6, .int v6), (7, .int v7), (8, .int v8)] []) : ∀ (v2 : Int32) (v3 : Int32) (v4 : Int32) (v5 : Int32) (v6 : Int32) (v8 : Int32) (k0 : Int32) (st : twS), f_L_law_L236 L xs rec v2 v3 v4 v5 v6 v8 k0 st = some res → twG p l e room_1 s m args below meth c (nc + 1) (ns + 6) Q (dC, dI) A 14 (twT cI cZ q st) 236 [(0, .ref b), (1, .ref (q 0)), (2, .int v2), (3, .int v3), (4, .int v4), (5, .int v5), (6, .int v6), (8, .int v8)] [.int k0] := by
  intro v2 v3 v4 v5 v6 v8 k0 st hf
  unfold f_L_law_L236 at hf
  refine tw_istore (lv' := [(7, .int k0), (0, .ref b), (1, .ref (q 0)), (2, .int v2), (3, .int v3), (4, .int v4), (5, .int v5), (6, .int v6), (8, .int v8)]) C dL_law_236 (by decide) rfl ?_
  refine tw_goto (tgt := 629) C dL_law_238 (by decide) ?_
  refine tw_sub [1, 2, 3, 4, 5, 6, 7, 0, 8] rfl ?_
  exact k_L_law_L629 C hE hr1 hX hbl hbA X0 hNc hl0 hc1 hc2 hrec v2 v3 v4 v5 v6 k0 v8 st hf
set_option maxRecDepth 20000 in
theorem k_L_law_L231 (C : twC p s m args meth c cL_law 14 RL wsL_law (dC, dI) (twY cI cZ) A) (hE : ∀ (pc k n : Nat) (lv : List (Nat × Value)) (ws : va_W), decode cL_law pc = .ok (.ireturn, 1) → k ≤ 160 → n ≤ 1377 → twG p l e room_1 s m args below meth c k n Q (dC, dI) A 14 ws pc lv [.int 1]) (hr1 : res.1 = 1) (hX : va_X b L xs s s.heap) (hbl : b < s.heap.size) (hbA : ¬ A b) (X0 : twXf A s s.heap) (hNc : twNcs s) (hl0 : l.stackTraces = false) (hc1 : nc + 1 ≤ 160) (hc2 : ns + 6 ≤ 1377) {rec : Int32 → Int32 → Int32 → Int32 → Int32 → Int32 → Int32 → twS → Option (Int32 × twS)} (hrec : ∀ (v2 : Int32) (v3 : Int32) (v4 : Int32) (v5 : Int32) (v6 : Int32) (v7 : Int32) (v8 : Int32) (st : twS), rec v2 v3 v4 v5 v6 v7 v8 st = some res → twG p l e room_1 s m args below meth c (nc + 1) (ns + 6) Q (dC, dI) A 14 (twT cI cZ q st) 55 [(0, .ref b), (1, .ref (q 0)), (2, .int v2), (3, .int v3), (4, .int v4), (5, .int v5), (6, .int v6), (7, .int v7), (8, .int v8)] []) : ∀ (v2 : Int32) (v3 : Int32) (v4 : Int32) (v5 : Int32) (v6 : Int32) (v8 : Int32) (st : twS), f_L_law_L231 L xs rec v2 v3 v4 v5 v6 v8 st = some res → twG p l e room_1 s m args below meth c (nc + 1) (ns + 6) Q (dC, dI) A 14 (twT cI cZ q st) 231 [(0, .ref b), (1, .ref (q 0)), (2, .int v2), (3, .int v3), (4, .int v4), (5, .int v5), (6, .int v6), (8, .int v8)] [] := by
  intro v2 v3 v4 v5 v6 v8 st hf
  unfold f_L_law_L231 at hf
  refine tw_iconst (v := 1) C dL_law_231 (by decide) ?_
  refine tw_goto (tgt := 236) C dL_law_232 (by decide) ?_
  exact k_L_law_L236 C hE hr1 hX hbl hbA X0 hNc hl0 hc1 hc2 hrec v2 v3 v4 v5 v6 v8 1 st hf
set_option maxRecDepth 20000 in
theorem k_L_law_L186 (C : twC p s m args meth c cL_law 14 RL wsL_law (dC, dI) (twY cI cZ) A) (hE : ∀ (pc k n : Nat) (lv : List (Nat × Value)) (ws : va_W), decode cL_law pc = .ok (.ireturn, 1) → k ≤ 160 → n ≤ 1377 → twG p l e room_1 s m args below meth c k n Q (dC, dI) A 14 ws pc lv [.int 1]) (hr1 : res.1 = 1) (hX : va_X b L xs s s.heap) (hbl : b < s.heap.size) (hbA : ¬ A b) (X0 : twXf A s s.heap) (hNc : twNcs s) (hl0 : l.stackTraces = false) (hc1 : nc + 1 ≤ 160) (hc2 : ns + 6 ≤ 1377) {rec : Int32 → Int32 → Int32 → Int32 → Int32 → Int32 → Int32 → twS → Option (Int32 × twS)} (hrec : ∀ (v2 : Int32) (v3 : Int32) (v4 : Int32) (v5 : Int32) (v6 : Int32) (v7 : Int32) (v8 : Int32) (st : twS), rec v2 v3 v4 v5 v6 v7 v8 st = some res → twG p l e room_1 s m args below meth c (nc + 1) (ns + 6) Q (dC, dI) A 14 (twT cI cZ q st) 55 [(0, .ref b), (1, .ref (q 0)), (2, .int v2), (3, .int v3), (4, .int v4), (5, .int v5), (6, .int v6), (7, .int v7), (8, .int v8)] []) : ∀ (v2 : Int32) (v3 : Int32) (v4 : Int32) (v5 : Int32) (v6 : Int32) (v8 : Int32) (k0 : Int32) (st : twS), f_L_law_L186 L xs rec v2 v3 v4 v5 v6 v8 k0 st = some res → twG p l e room_1 s m args below meth c nc ns Q (dC, dI) A 14 (twT cI cZ q st) 186 [(0, .ref b), (1, .ref (q 0)), (2, .int v2), (3, .int v3), (4, .int v4), (5, .int v5), (6, .int v6), (8, .int v8)] [.int k0] := by
  intro v2 v3 v4 v5 v6 v8 k0 st hf
  unfold f_L_law_L186 at hf
  refine tw_istore (lv' := [(7, .int k0), (0, .ref b), (1, .ref (q 0)), (2, .int v2), (3, .int v3), (4, .int v4), (5, .int v5), (6, .int v6), (8, .int v8)]) C dL_law_186 (by decide) rfl ?_
  refine tw_goto (tgt := 629) C dL_law_188 (by decide) ?_
  refine tw_sub [1, 2, 3, 4, 5, 6, 7, 0, 8] rfl ?_
  refine tw_widen (Nat.le_add_right _ 1) (Nat.le_add_right _ 6) ?_
  exact k_L_law_L629 C hE hr1 hX hbl hbA X0 hNc hl0 hc1 hc2 hrec v2 v3 v4 v5 v6 k0 v8 st hf
set_option maxRecDepth 20000 in
theorem k_L_law_L154 (C : twC p s m args meth c cL_law 14 RL wsL_law (dC, dI) (twY cI cZ) A) (hE : ∀ (pc k n : Nat) (lv : List (Nat × Value)) (ws : va_W), decode cL_law pc = .ok (.ireturn, 1) → k ≤ 160 → n ≤ 1377 → twG p l e room_1 s m args below meth c k n Q (dC, dI) A 14 ws pc lv [.int 1]) (hr1 : res.1 = 1) (hX : va_X b L xs s s.heap) (hbl : b < s.heap.size) (hbA : ¬ A b) (X0 : twXf A s s.heap) (hNc : twNcs s) (hl0 : l.stackTraces = false) (hc1 : nc + 1 ≤ 160) (hc2 : ns + 6 ≤ 1377) {rec : Int32 → Int32 → Int32 → Int32 → Int32 → Int32 → Int32 → twS → Option (Int32 × twS)} (hrec : ∀ (v2 : Int32) (v3 : Int32) (v4 : Int32) (v5 : Int32) (v6 : Int32) (v7 : Int32) (v8 : Int32) (st : twS), rec v2 v3 v4 v5 v6 v7 v8 st = some res → twG p l e room_1 s m args below meth c (nc + 1) (ns + 6) Q (dC, dI) A 14 (twT cI cZ q st) 55 [(0, .ref b), (1, .ref (q 0)), (2, .int v2), (3, .int v3), (4, .int v4), (5, .int v5), (6, .int v6), (7, .int v7), (8, .int v8)] []) : ∀ (v3 : Int32) (v4 : Int32) (v5 : Int32) (v6 : Int32) (v7 : Int32) (v8 : Int32) (k0 : Int32) (st : twS), f_L_law_L154 L xs rec v3 v4 v5 v6 v7 v8 k0 st = some res → twG p l e room_1 s m args below meth c (nc + 1) (ns + 6) Q (dC, dI) A 14 (twT cI cZ q st) 154 [(0, .ref b), (1, .ref (q 0)), (3, .int v3), (4, .int v4), (5, .int v5), (6, .int v6), (7, .int v7), (8, .int v8)] [.int k0] := by
  intro v3 v4 v5 v6 v7 v8 k0 st hf
  unfold f_L_law_L154 at hf
  refine tw_istore_n (lv' := [(2, .int k0), (0, .ref b), (1, .ref (q 0)), (3, .int v3), (4, .int v4), (5, .int v5), (6, .int v6), (7, .int v7), (8, .int v8)]) C dL_law_154 rfl (by decide) rfl ?_
  refine tw_goto (tgt := 629) C dL_law_155 (by decide) ?_
  refine tw_sub [1, 2, 0, 3, 4, 5, 6, 7, 8] rfl ?_
  exact k_L_law_L629 C hE hr1 hX hbl hbA X0 hNc hl0 hc1 hc2 hrec k0 v3 v4 v5 v6 v7 v8 st hf
set_option maxRecDepth 20000 in
theorem k_L_law_L141 (C : twC p s m args meth c cL_law 14 RL wsL_law (dC, dI) (twY cI cZ) A) (hE : ∀ (pc k n : Nat) (lv : List (Nat × Value)) (ws : va_W), decode cL_law pc = .ok (.ireturn, 1) → k ≤ 160 → n ≤ 1377 → twG p l e room_1 s m args below meth c k n Q (dC, dI) A 14 ws pc lv [.int 1]) (hr1 : res.1 = 1) (hX : va_X b L xs s s.heap) (hbl : b < s.heap.size) (hbA : ¬ A b) (X0 : twXf A s s.heap) (hNc : twNcs s) (hl0 : l.stackTraces = false) (hc1 : nc + 1 ≤ 160) (hc2 : ns + 6 ≤ 1377) {rec : Int32 → Int32 → Int32 → Int32 → Int32 → Int32 → Int32 → twS → Option (Int32 × twS)} (hrec : ∀ (v2 : Int32) (v3 : Int32) (v4 : Int32) (v5 : Int32) (v6 : Int32) (v7 : Int32) (v8 : Int32) (st : twS), rec v2 v3 v4 v5 v6 v7 v8 st = some res → twG p l e room_1 s m args below meth c (nc + 1) (ns + 6) Q (dC, dI) A 14 (twT cI cZ q st) 55 [(0, .ref b), (1, .ref (q 0)), (2, .int v2), (3, .int v3), (4, .int v4), (5, .int v5), (6, .int v6), (7, .int v7), (8, .int v8)] []) : ∀ (v2 : Int32) (v3 : Int32) (v4 : Int32) (v5 : Int32) (v6 : Int32) (v8 : Int32) (v13 : Int32) (k0 : Int32) (st : twS), f_L_law_L141 L xs rec v2 v3 v4 v5 v6 v8 v13 k0 st = some res → twG p l e room_1 s m args below meth c (nc + 1) (ns + 6) Q (dC, dI) A 14 (twT cI cZ q st) 141 [(0, .ref b), (1, .ref (q 0)), (2, .int v2), (3, .int v3), (4, .int v4), (5, .int v5), (6, .int v6), (8, .int v8), (13, .int v13)] [.int k0] := by
  intro v2 v3 v4 v5 v6 v8 v13 k0 st hf
  unfold f_L_law_L141 at hf
  refine tw_istore (lv' := [(7, .int k0), (0, .ref b), (1, .ref (q 0)), (2, .int v2), (3, .int v3), (4, .int v4), (5, .int v5), (6, .int v6), (8, .int v8), (13, .int v13)]) C dL_law_141 (by decide) rfl ?_
  refine tw_iload C dL_law_143 9 rfl ?_
  refine tw_if_le (tgt := 153) C dL_law_145 (by decide) (fun c141001 => ?_) (fun c141001 => ?_)
  · have hf := tw_pos hf c141001
    refine tw_iload_n C dL_law_153 3 rfl rfl ?_
    refine tw_sub [1, 2, 4, 5, 6, 7, 0, 8] rfl ?_
    exact k_L_law_L154 C hE hr1 hX hbl hbA X0 hNc hl0 hc1 hc2 hrec v3 v4 v5 v6 k0 v8 v2 st hf
  · have hf := tw_neg hf c141001
    refine tw_iload C dL_law_148 9 rfl ?_
    refine tw_goto (tgt := 154) C dL_law_150 (by decide) ?_
    refine tw_sub [1, 2, 4, 5, 6, 7, 0, 8] rfl ?_
    exact k_L_law_L154 C hE hr1 hX hbl hbA X0 hNc hl0 hc1 hc2 hrec v3 v4 v5 v6 k0 v8 v13 st hf
set_option maxRecDepth 20000 in
theorem k_L_law_L136 (C : twC p s m args meth c cL_law 14 RL wsL_law (dC, dI) (twY cI cZ) A) (hE : ∀ (pc k n : Nat) (lv : List (Nat × Value)) (ws : va_W), decode cL_law pc = .ok (.ireturn, 1) → k ≤ 160 → n ≤ 1377 → twG p l e room_1 s m args below meth c k n Q (dC, dI) A 14 ws pc lv [.int 1]) (hr1 : res.1 = 1) (hX : va_X b L xs s s.heap) (hbl : b < s.heap.size) (hbA : ¬ A b) (X0 : twXf A s s.heap) (hNc : twNcs s) (hl0 : l.stackTraces = false) (hc1 : nc + 1 ≤ 160) (hc2 : ns + 6 ≤ 1377) {rec : Int32 → Int32 → Int32 → Int32 → Int32 → Int32 → Int32 → twS → Option (Int32 × twS)} (hrec : ∀ (v2 : Int32) (v3 : Int32) (v4 : Int32) (v5 : Int32) (v6 : Int32) (v7 : Int32) (v8 : Int32) (st : twS), rec v2 v3 v4 v5 v6 v7 v8 st = some res → twG p l e room_1 s m args below meth c (nc + 1) (ns + 6) Q (dC, dI) A 14 (twT cI cZ q st) 55 [(0, .ref b), (1, .ref (q 0)), (2, .int v2), (3, .int v3), (4, .int v4), (5, .int v5), (6, .int v6), (7, .int v7), (8, .int v8)] []) : ∀ (v2 : Int32) (v3 : Int32) (v4 : Int32) (v5 : Int32) (v6 : Int32) (v8 : Int32) (v13 : Int32) (st : twS), f_L_law_L136 L xs rec v2 v3 v4 v5 v6 v8 v13 st = some res → twG p l e room_1 s m args below meth c (nc + 1) (ns + 6) Q (dC, dI) A 14 (twT cI cZ q st) 136 [(0, .ref b), (1, .ref (q 0)), (2, .int v2), (3, .int v3), (4, .int v4), (5, .int v5), (6, .int v6), (8, .int v8), (13, .int v13)] [] := by
  intro v2 v3 v4 v5 v6 v8 v13 st hf
  unfold f_L_law_L136 at hf
  refine tw_iconst (v := 1) C dL_law_136 (by decide) ?_
  refine tw_goto (tgt := 141) C dL_law_137 (by decide) ?_
  exact k_L_law_L141 C hE hr1 hX hbl hbA X0 hNc hl0 hc1 hc2 hrec v2 v3 v4 v5 v6 v8 v13 1 st hf
set_option maxRecDepth 20000 in
theorem k_L_law_L55b (C : twC p s m args meth c cL_law 14 RL wsL_law (dC, dI) (twY cI cZ) A) (hE : ∀ (pc k n : Nat) (lv : List (Nat × Value)) (ws : va_W), decode cL_law pc = .ok (.ireturn, 1) → k ≤ 160 → n ≤ 1377 → twG p l e room_1 s m args below meth c k n Q (dC, dI) A 14 ws pc lv [.int 1]) (hr1 : res.1 = 1) (hX : va_X b L xs s s.heap) (hbl : b < s.heap.size) (hbA : ¬ A b) (X0 : twXf A s s.heap) (hNc : twNcs s) (hl0 : l.stackTraces = false) (hc1 : nc + 1 ≤ 160) (hc2 : ns + 6 ≤ 1377) {rec : Int32 → Int32 → Int32 → Int32 → Int32 → Int32 → Int32 → twS → Option (Int32 × twS)} (hrec : ∀ (v2 : Int32) (v3 : Int32) (v4 : Int32) (v5 : Int32) (v6 : Int32) (v7 : Int32) (v8 : Int32) (st : twS), rec v2 v3 v4 v5 v6 v7 v8 st = some res → twG p l e room_1 s m args below meth c (nc + 1) (ns + 6) Q (dC, dI) A 14 (twT cI cZ q st) 55 [(0, .ref b), (1, .ref (q 0)), (2, .int v2), (3, .int v3), (4, .int v4), (5, .int v5), (6, .int v6), (7, .int v7), (8, .int v8)] []) : ∀ (v2 : Int32) (v3 : Int32) (v4 : Int32) (v5 : Int32) (v6 : Int32) (v7 : Int32) (v8 : Int32) (st : twS), f_L_law_L55b L xs rec v2 v3 v4 v5 v6 v7 v8 st = some res → twG p l e room_1 s m args below meth c nc ns Q (dC, dI) A 14 (twT cI cZ q st) 55 [(0, .ref b), (1, .ref (q 0)), (2, .int v2), (3, .int v3), (4, .int v4), (5, .int v5), (6, .int v6), (7, .int v7), (8, .int v8)] [] := by
  intro v2 v3 v4 v5 v6 v7 v8 st hf
  unfold f_L_law_L55b at hf
  refine tw_iload C dL_law_55 8 rfl ?_
  refine tw_bipush (v := 34) C dL_law_57 (by decide) ?_
  refine tw_icmp_ge (tgt := 691) C dL_law_59 (by decide) (fun c55001 => ?_) (fun c55001 => ?_)
  · have hf := tw_pos hf c55001
    refine tw_iload C dL_law_691 7 rfl ?_
    exact tw_endl hE hr1 hf (Nat.le_of_succ_le hc1) (Nat.le_trans (Nat.le_add_right _ 6) hc2) dL_law_693
  · have hf := tw_neg hf c55001
    refine tw_iload C dL_law_62 7 rfl ?_
    refine tw_if_eq (tgt := 691) C dL_law_64 (by decide) (fun c55002 => ?_) (fun c55002 => ?_)
    · have hf := tw_pos hf c55002
      refine tw_iload C dL_law_691 7 rfl ?_
      exact tw_endl hE hr1 hf (Nat.le_of_succ_le hc1) (Nat.le_trans (Nat.le_add_right _ 6) hc2) dL_law_693
    · have hf := tw_neg hf c55002
      refine tw_aload_n C dL_law_67 0 rfl rfl ?_
      refine tw_iload C dL_law_68 8 rfl ?_
      obtain ⟨y55003, hc55003, hf⟩ := tw_bd hf
      refine tw_cDr (As := [.ref b, .int v8]) (stk := []) C hX hbl hbA (isR := List.range 26) (ix := List.range 26) ⟨rfl, rfl, rfl, rfl, by decide, rfl, rfl⟩ (c_L_drawn l dC dI cI cZ hc55003) (va_cwS 2 C.hts gL_law_L_drawn rfl rfl rfl hd_L_drawn ⟨Nat.le_of_ble_eq_true rfl, Nat.le_of_ble_eq_true rfl⟩) rfl rfl (Nat.le_of_ble_eq_true rfl) dL_law_70 ⟨Nat.le_trans (Nat.le_of_succ_le hc1) (Nat.le_of_ble_eq_true rfl), Nat.le_trans (Nat.le_trans (Nat.le_add_right _ 6) hc2) (Nat.le_of_ble_eq_true rfl)⟩ ?_
      refine tw_istore (lv' := [(9, .int y55003), (0, .ref b), (1, .ref (q 0)), (2, .int v2), (3, .int v3), (4, .int v4), (5, .int v5), (6, .int v6), (7, .int v7), (8, .int v8)]) C dL_law_73 (by decide) rfl ?_
      refine tw_iload C dL_law_75 0 rfl ?_
      refine tw_bipush (v := 16) C dL_law_77 (by decide) ?_
      refine tw_idiv C dL_law_79 (by decide) ?_
      refine tw_istore (lv' := [(10, .int (y55003 / 16)), (9, .int y55003), (0, .ref b), (1, .ref (q 0)), (2, .int v2), (3, .int v3), (4, .int v4), (5, .int v5), (6, .int v6), (7, .int v7), (8, .int v8)]) C dL_law_80 (by decide) rfl ?_
      refine tw_iload C dL_law_82 1 rfl ?_
      refine tw_bipush (v := 16) C dL_law_84 (by decide) ?_
      refine tw_irem C dL_law_86 (by decide) ?_
      refine tw_istore (lv' := [(11, .int (y55003 - y55003 / 16 * 16)), (10, .int (y55003 / 16)), (9, .int y55003), (0, .ref b), (1, .ref (q 0)), (2, .int v2), (3, .int v3), (4, .int v4), (5, .int v5), (6, .int v6), (7, .int v7), (8, .int v8)]) C dL_law_87 (by decide) rfl ?_
      refine tw_iload C dL_law_89 0 rfl ?_
      refine tw_iconst (v := 2) C dL_law_91 (by decide) ?_
      refine tw_icmp_ge (tgt := 158) C dL_law_92 (by decide) (fun c55004 => ?_) (fun c55004 => ?_)
      · have hf := tw_pos hf c55004
        refine tw_iload C dL_law_158 0 rfl ?_
        refine tw_iconst (v := 2) C dL_law_160 (by decide) ?_
        refine tw_icmp_ne (tgt := 191) C dL_law_161 (by decide) (fun c55005 => ?_) (fun c55005 => ?_)
        · have hf := tw_neg hf c55005
          refine tw_iload C dL_law_191 0 rfl ?_
          refine tw_iconst (v := 5) C dL_law_193 (by decide) ?_
          refine tw_icmp_ge (tgt := 241) C dL_law_194 (by decide) (fun c55006 => ?_) (fun c55006 => ?_)
          · have hf := tw_pos hf c55006
            refine tw_iload C dL_law_241 0 rfl ?_
            refine tw_iconst (v := 5) C dL_law_243 (by decide) ?_
            refine tw_icmp_ne (tgt := 309) C dL_law_244 (by decide) (fun c55007 => ?_) (fun c55007 => ?_)
            · have hf := tw_neg hf c55007
              refine tw_iload C dL_law_309 0 rfl ?_
              refine tw_bipush (v := 6) C dL_law_311 (by decide) ?_
              refine tw_icmp_ne (tgt := 419) C dL_law_313 (by decide) (fun c55008 => ?_) (fun c55008 => ?_)
              · have hf := tw_neg hf c55008
                refine tw_iload C dL_law_419 0 rfl ?_
                refine tw_bipush (v := 9) C dL_law_421 (by decide) ?_
                refine tw_icmp_ge (tgt := 496) C dL_law_423 (by decide) (fun c55009 => ?_) (fun c55009 => ?_)
                · have hf := tw_pos hf c55009
                  refine tw_iload C dL_law_496 0 rfl ?_
                  refine tw_bipush (v := 9) C dL_law_498 (by decide) ?_
                  refine tw_icmp_ne (tgt := 533) C dL_law_500 (by decide) (fun c55010 => ?_) (fun c55010 => ?_)
                  · have hf := tw_neg hf c55010
                    refine tw_aload_n C dL_law_533 4 rfl rfl ?_
                    refine tw_iload C dL_law_534 1 rfl ?_
                    refine tw_iconst (v := 3) C dL_law_536 (by decide) ?_
                    refine tw_irem C dL_law_537 (by decide) ?_
                    obtain ⟨y55011, hc55011, hf⟩ := tw_bd hf
                    refine tw_cWi (As := [.ref (q 0), .int ((y55003 / 16) - (y55003 / 16) / 3 * 3)]) (stk := []) C (c_L_fan l dC dI cI cZ q hc55011) (vx_cwSW 2 C.hts gL_law_L_fan rfl rfl rfl hd_L_fan ⟨Nat.le_of_ble_eq_true rfl, Nat.le_of_ble_eq_true rfl⟩) rfl rfl (Nat.le_of_ble_eq_true rfl) dL_law_538 ⟨Nat.le_trans (Nat.le_of_succ_le hc1) (Nat.le_of_ble_eq_true rfl), Nat.le_trans (Nat.le_trans (Nat.le_add_right _ 6) hc2) (Nat.le_of_ble_eq_true rfl)⟩ ?_
                    refine tw_istore (lv' := [(12, .int y55011.1), (11, .int (y55003 - y55003 / 16 * 16)), (10, .int (y55003 / 16)), (9, .int y55003), (0, .ref b), (1, .ref (q 0)), (2, .int v2), (3, .int v3), (4, .int v4), (5, .int v5), (6, .int v6), (7, .int v7), (8, .int v8)]) C dL_law_541 (by decide) rfl ?_
                    refine tw_iload C dL_law_543 2 rfl ?_
                    refine tw_iconst (v := 3) C dL_law_545 (by decide) ?_
                    refine tw_idiv C dL_law_546 (by decide) ?_
                    refine tw_iconst (v := 3) C dL_law_547 (by decide) ?_
                    refine tw_irem C dL_law_548 (by decide) ?_
                    refine tw_if_ne (tgt := 565) C dL_law_549 (by decide) (fun c55012 => ?_) (fun c55012 => ?_)
                    · have hf := tw_neg hf c55012
                      refine tw_iconst (v := 1) C dL_law_565 (by decide) ?_
                      refine tw_sub [4, 5, 6, 7, 8, 9, 10, 12, 2, 0] rfl ?_
                      exact k_L_law_L566 C hE hr1 hX hbl hbA X0 hNc hl0 hc1 hc2 hrec v2 v3 v4 v5 v6 v8 (y55003 / 16) y55011.1 1 y55011.2 hf
                    · have hf := tw_pos hf c55012
                      refine tw_iconst (v := 1) C dL_law_552 (by decide) ?_
                      refine tw_iload C dL_law_553 2 rfl ?_
                      refine tw_bipush (v := 9) C dL_law_555 (by decide) ?_
                      refine tw_idiv C dL_law_557 (by decide) ?_
                      refine tw_bipush (v := 12) C dL_law_558 (by decide) ?_
                      refine tw_irem C dL_law_560 (by decide) ?_
                      refine tw_iadd C dL_law_561 ?_
                      refine tw_goto (tgt := 566) C dL_law_562 (by decide) ?_
                      refine tw_sub [4, 5, 6, 7, 8, 9, 10, 12, 2, 0] rfl ?_
                      exact k_L_law_L566 C hE hr1 hX hbl hbA X0 hNc hl0 hc1 hc2 hrec v2 v3 v4 v5 v6 v8 (y55003 / 16) y55011.1 (1 + (((y55003 / 16) / 9) - ((y55003 / 16) / 9) / 12 * 12)) y55011.2 hf
                  · have hf := tw_pos hf c55010
                    refine tw_aload_n C dL_law_503 4 rfl rfl ?_
                    refine tw_iload C dL_law_504 1 rfl ?_
                    refine tw_iconst (v := 3) C dL_law_506 (by decide) ?_
                    refine tw_irem C dL_law_507 (by decide) ?_
                    refine tw_iload C dL_law_508 1 rfl ?_
                    refine tw_iconst (v := 3) C dL_law_510 (by decide) ?_
                    refine tw_idiv C dL_law_511 (by decide) ?_
                    refine tw_iconst (v := 3) C dL_law_512 (by decide) ?_
                    refine tw_irem C dL_law_513 (by decide) ?_
                    refine tw_iconst (v := 1) C dL_law_514 (by decide) ?_
                    refine tw_isub C dL_law_515 ?_
                    obtain ⟨y55013, hc55013, hf⟩ := tw_bd hf
                    refine tw_cWi (As := [.ref (q 0), .int ((y55003 / 16) - (y55003 / 16) / 3 * 3), .int ((((y55003 / 16) / 3) - ((y55003 / 16) / 3) / 3 * 3) - 1)]) (stk := []) C (c_L_command l dC dI cI cZ q hc55013) (vx_cwSW 3 C.hts gL_law_L_command rfl rfl rfl hd_L_command ⟨Nat.le_of_ble_eq_true rfl, Nat.le_of_ble_eq_true rfl⟩) rfl rfl (Nat.le_of_ble_eq_true rfl) dL_law_516 ⟨Nat.le_trans (Nat.le_of_succ_le hc1) (Nat.le_of_ble_eq_true rfl), Nat.le_trans (Nat.le_trans (Nat.le_add_right _ 6) hc2) (Nat.le_of_ble_eq_true rfl)⟩ ?_
                    refine tw_iconst (v := (-1)) C dL_law_519 (by decide) ?_
                    refine tw_icmp_lt (tgt := 527) C dL_law_520 (by decide) (fun c55014 => ?_) (fun c55014 => ?_)
                    · have hf := tw_pos hf c55014
                      refine tw_iconst (v := 0) C dL_law_527 (by decide) ?_
                      refine tw_sub [3, 4, 5, 6, 7, 8, 9, 11] rfl ?_
                      exact k_L_law_L528 C hE hr1 hX hbl hbA X0 hNc hl0 hc1 hc2 hrec v2 v3 v4 v5 v6 v8 0 y55013.2 hf
                    · have hf := tw_neg hf c55014
                      refine tw_iconst (v := 1) C dL_law_523 (by decide) ?_
                      refine tw_goto (tgt := 528) C dL_law_524 (by decide) ?_
                      refine tw_sub [3, 4, 5, 6, 7, 8, 9, 11] rfl ?_
                      exact k_L_law_L528 C hE hr1 hX hbl hbA X0 hNc hl0 hc1 hc2 hrec v2 v3 v4 v5 v6 v8 1 y55013.2 hf
                · have hf := tw_neg hf c55009
                  refine tw_aload_n C dL_law_426 4 rfl rfl ?_
                  refine tw_iload C dL_law_427 1 rfl ?_
                  refine tw_bipush (v := 8) C dL_law_429 (by decide) ?_
                  refine tw_irem C dL_law_431 (by decide) ?_
                  refine tw_iload C dL_law_432 1 rfl ?_
                  refine tw_bipush (v := 8) C dL_law_434 (by decide) ?_
                  refine tw_idiv C dL_law_436 (by decide) ?_
                  refine tw_bipush (v := 6) C dL_law_437 (by decide) ?_
                  refine tw_irem C dL_law_439 (by decide) ?_
                  refine tw_iload C dL_law_440 1 rfl ?_
                  refine tw_bipush (v := 48) C dL_law_442 (by decide) ?_
                  refine tw_idiv C dL_law_444 (by decide) ?_
                  refine tw_iconst (v := 3) C dL_law_445 (by decide) ?_
                  refine tw_irem C dL_law_446 (by decide) ?_
                  refine tw_if_ne (tgt := 454) C dL_law_447 (by decide) (fun c55015 => ?_) (fun c55015 => ?_)
                  · have hf := tw_neg hf c55015
                    refine tw_iconst (v := 0) C dL_law_454 (by decide) ?_
                    refine tw_sub [3, 4, 5, 6, 7, 8, 9, 11] rfl ?_
                    exact k_L_law_L455 C hE hr1 hX hbl hbA X0 hNc hl0 hc1 hc2 hrec v2 v3 v4 v5 v6 v8 0 (((y55003 / 16) / 8) - ((y55003 / 16) / 8) / 6 * 6) ((y55003 / 16) - (y55003 / 16) / 8 * 8) st hf
                  · have hf := tw_pos hf c55015
                    refine tw_iconst (v := 1) C dL_law_450 (by decide) ?_
                    refine tw_goto (tgt := 455) C dL_law_451 (by decide) ?_
                    refine tw_sub [3, 4, 5, 6, 7, 8, 9, 11] rfl ?_
                    exact k_L_law_L455 C hE hr1 hX hbl hbA X0 hNc hl0 hc1 hc2 hrec v2 v3 v4 v5 v6 v8 1 (((y55003 / 16) / 8) - ((y55003 / 16) / 8) / 6 * 6) ((y55003 / 16) - (y55003 / 16) / 8 * 8) st hf
              · have hf := tw_pos hf c55008
                refine tw_aload_n C dL_law_316 4 rfl rfl ?_
                refine tw_iload C dL_law_317 1 rfl ?_
                refine tw_bipush (v := 12) C dL_law_319 (by decide) ?_
                refine tw_irem C dL_law_321 (by decide) ?_
                refine tw_iload C dL_law_322 1 rfl ?_
                refine tw_bipush (v := 12) C dL_law_324 (by decide) ?_
                refine tw_idiv C dL_law_326 (by decide) ?_
                refine tw_iconst (v := 2) C dL_law_327 (by decide) ?_
                refine tw_irem C dL_law_328 (by decide) ?_
                refine tw_if_ne (tgt := 336) C dL_law_329 (by decide) (fun c55016 => ?_) (fun c55016 => ?_)
                · have hf := tw_neg hf c55016
                  refine tw_iconst (v := 0) C dL_law_336 (by decide) ?_
                  refine tw_sub [3, 4, 5, 6, 7, 8, 9, 11, 1] rfl ?_
                  exact k_L_law_L337 C hE hr1 hX hbl hbA X0 hNc hl0 hc1 hc2 hrec v2 v3 v4 v5 v6 v8 (y55003 / 16) 0 ((y55003 / 16) - (y55003 / 16) / 12 * 12) st hf
                · have hf := tw_pos hf c55016
                  refine tw_iconst (v := 1) C dL_law_332 (by decide) ?_
                  refine tw_goto (tgt := 337) C dL_law_333 (by decide) ?_
                  refine tw_sub [3, 4, 5, 6, 7, 8, 9, 11, 1] rfl ?_
                  exact k_L_law_L337 C hE hr1 hX hbl hbA X0 hNc hl0 hc1 hc2 hrec v2 v3 v4 v5 v6 v8 (y55003 / 16) 1 ((y55003 / 16) - (y55003 / 16) / 12 * 12) st hf
            · have hf := tw_pos hf c55007
              refine tw_aload_n C dL_law_247 4 rfl rfl ?_
              refine tw_iload C dL_law_248 1 rfl ?_
              refine tw_iconst (v := 2) C dL_law_250 (by decide) ?_
              refine tw_irem C dL_law_251 (by decide) ?_
              refine tw_iload C dL_law_252 1 rfl ?_
              refine tw_iconst (v := 2) C dL_law_254 (by decide) ?_
              refine tw_idiv C dL_law_255 (by decide) ?_
              refine tw_iconst (v := 3) C dL_law_256 (by decide) ?_
              refine tw_irem C dL_law_257 (by decide) ?_
              refine tw_if_le (tgt := 265) C dL_law_258 (by decide) (fun c55017 => ?_) (fun c55017 => ?_)
              · have hf := tw_pos hf c55017
                refine tw_iconst (v := 0) C dL_law_265 (by decide) ?_
                refine tw_sub [3, 4, 5, 6, 7, 8, 9, 11, 1] rfl ?_
                exact k_L_law_L266 C hE hr1 hX hbl hbA X0 hNc hl0 hc1 hc2 hrec v2 v3 v4 v5 v6 v8 (y55003 / 16) 0 ((y55003 / 16) - (y55003 / 16) / 2 * 2) st hf
              · have hf := tw_neg hf c55017
                refine tw_iconst (v := 1) C dL_law_261 (by decide) ?_
                refine tw_goto (tgt := 266) C dL_law_262 (by decide) ?_
                refine tw_sub [3, 4, 5, 6, 7, 8, 9, 11, 1] rfl ?_
                exact k_L_law_L266 C hE hr1 hX hbl hbA X0 hNc hl0 hc1 hc2 hrec v2 v3 v4 v5 v6 v8 (y55003 / 16) 1 ((y55003 / 16) - (y55003 / 16) / 2 * 2) st hf
          · have hf := tw_neg hf c55006
            refine tw_aload_n C dL_law_197 4 rfl rfl ?_
            refine tw_iload C dL_law_198 1 rfl ?_
            refine tw_bipush (v := 12) C dL_law_200 (by decide) ?_
            refine tw_irem C dL_law_202 (by decide) ?_
            refine tw_iconst (v := 1) C dL_law_203 (by decide) ?_
            refine tw_iload C dL_law_204 1 rfl ?_
            refine tw_bipush (v := 12) C dL_law_206 (by decide) ?_
            refine tw_idiv C dL_law_208 (by decide) ?_
            refine tw_sipush (v := 200) C dL_law_209 (by decide) ?_
            refine tw_irem C dL_law_212 (by decide) ?_
            refine tw_iadd C dL_law_213 ?_
            obtain ⟨y55018, hc55018, hf⟩ := tw_bd hf
            refine tw_wS (As := [.ref (q 0), .int ((y55003 / 16) - (y55003 / 16) / 12 * 12), .int (1 + (((y55003 / 16) / 12) - ((y55003 / 16) / 12) / 200 * 200))]) (stk := []) (Wc := twT cI cZ q st) (Wr := []) (ws' := twT cI cZ q y55018.2) C X0 hNc (isC := List.range 26) (isR := []) (ix := List.range 26) (ki := [0, 1]) ⟨rfl, rfl, rfl, rfl, by decide, rfl, rfl⟩ rfl (w_L_fire l hl0 dC dI cI cZ q hc55018) (vx_cwSW 3 C.hts gL_law_L_fire rfl rfl rfl hd_L_fire ⟨Nat.le_of_ble_eq_true rfl, Nat.le_of_ble_eq_true rfl⟩) rfl rfl (Nat.le_of_ble_eq_true rfl) dL_law_214 ⟨Nat.le_trans hc1 (Nat.le_of_ble_eq_true rfl), Nat.le_trans hc2 (Nat.le_of_ble_eq_true rfl)⟩ ?_
            refine tw_istore (lv' := [(12, .int y55018.1), (11, .int (y55003 - y55003 / 16 * 16)), (10, .int (y55003 / 16)), (9, .int y55003), (0, .ref b), (1, .ref (q 0)), (2, .int v2), (3, .int v3), (4, .int v4), (5, .int v5), (6, .int v6), (7, .int v7), (8, .int v8)]) C dL_law_217 (by decide) rfl ?_
            refine tw_iload C dL_law_219 0 rfl ?_
            refine tw_if_eq (tgt := 231) C dL_law_221 (by decide) (fun c55019 => ?_) (fun c55019 => ?_)
            · have hf := tw_pos hf c55019
              refine tw_sub [4, 5, 6, 7, 8, 9, 10, 12] rfl ?_
              exact k_L_law_L231 C hE hr1 hX hbl hbA X0 hNc hl0 hc1 hc2 hrec v2 v3 v4 v5 v6 v8 y55018.2 hf
            · have hf := tw_neg hf c55019
              refine tw_iload C dL_law_224 0 rfl ?_
              refine tw_bipush (v := (-103)) C dL_law_226 (by decide) ?_
              refine tw_icmp_ne (tgt := 235) C dL_law_228 (by decide) (fun c55020 => ?_) (fun c55020 => ?_)
              · have hf := tw_neg hf c55020
                refine tw_iconst (v := 0) C dL_law_235 (by decide) ?_
                refine tw_sub [4, 5, 6, 7, 8, 9, 10, 12] rfl ?_
                exact k_L_law_L236 C hE hr1 hX hbl hbA X0 hNc hl0 hc1 hc2 hrec v2 v3 v4 v5 v6 v8 0 y55018.2 hf
              · have hf := tw_pos hf c55020
                refine tw_sub [4, 5, 6, 7, 8, 9, 10, 12] rfl ?_
                exact k_L_law_L231 C hE hr1 hX hbl hbA X0 hNc hl0 hc1 hc2 hrec v2 v3 v4 v5 v6 v8 y55018.2 hf
        · have hf := tw_pos hf c55005
          refine tw_aload_n C dL_law_164 4 rfl rfl ?_
          refine tw_iload C dL_law_165 1 rfl ?_
          refine tw_bipush (v := 81) C dL_law_167 (by decide) ?_
          refine tw_irem C dL_law_169 (by decide) ?_
          refine tw_bipush (v := 40) C dL_law_170 (by decide) ?_
          refine tw_isub C dL_law_172 ?_
          obtain ⟨y55021, hc55021, hf⟩ := tw_bd hf
          refine tw_cWi (As := [.ref (q 0), .int (((y55003 / 16) - (y55003 / 16) / 81 * 81) - 40)]) (stk := []) C (c_L_wind l dC dI cI cZ q hc55021) (vx_cwSW 2 C.hts gL_law_L_wind rfl rfl rfl hd_L_wind ⟨Nat.le_of_ble_eq_true rfl, Nat.le_of_ble_eq_true rfl⟩) rfl rfl (Nat.le_of_ble_eq_true rfl) dL_law_173 ⟨Nat.le_trans (Nat.le_of_succ_le hc1) (Nat.le_of_ble_eq_true rfl), Nat.le_trans (Nat.le_trans (Nat.le_add_right _ 6) hc2) (Nat.le_of_ble_eq_true rfl)⟩ ?_
          refine tw_bipush (v := (-40)) C dL_law_176 (by decide) ?_
          refine tw_icmp_lt (tgt := 185) C dL_law_178 (by decide) (fun c55022 => ?_) (fun c55022 => ?_)
          · have hf := tw_pos hf c55022
            refine tw_iconst (v := 0) C dL_law_185 (by decide) ?_
            refine tw_sub [3, 4, 5, 6, 7, 8, 9, 11] rfl ?_
            exact k_L_law_L186 C hE hr1 hX hbl hbA X0 hNc hl0 hc1 hc2 hrec v2 v3 v4 v5 v6 v8 0 y55021.2 hf
          · have hf := tw_neg hf c55022
            refine tw_iconst (v := 1) C dL_law_181 (by decide) ?_
            refine tw_goto (tgt := 186) C dL_law_182 (by decide) ?_
            refine tw_sub [3, 4, 5, 6, 7, 8, 9, 11] rfl ?_
            exact k_L_law_L186 C hE hr1 hX hbl hbA X0 hNc hl0 hc1 hc2 hrec v2 v3 v4 v5 v6 v8 1 y55021.2 hf
      · have hf := tw_neg hf c55004
        refine tw_iconst (v := 1) C dL_law_95 (by decide) ?_
        refine tw_iload C dL_law_96 1 rfl ?_
        refine tw_bipush (v := 12) C dL_law_98 (by decide) ?_
        refine tw_idiv C dL_law_100 (by decide) ?_
        refine tw_bipush (v := 6) C dL_law_101 (by decide) ?_
        refine tw_irem C dL_law_103 (by decide) ?_
        refine tw_iadd C dL_law_104 ?_
        refine tw_istore (lv' := [(12, .int (1 + (((y55003 / 16) / 12) - ((y55003 / 16) / 12) / 6 * 6))), (11, .int (y55003 - y55003 / 16 * 16)), (10, .int (y55003 / 16)), (9, .int y55003), (0, .ref b), (1, .ref (q 0)), (2, .int v2), (3, .int v3), (4, .int v4), (5, .int v5), (6, .int v6), (7, .int v7), (8, .int v8)]) C dL_law_105 (by decide) rfl ?_
        refine tw_aload_n C dL_law_107 5 rfl rfl ?_
        refine tw_iload C dL_law_108 2 rfl ?_
        refine tw_bipush (v := 12) C dL_law_110 (by decide) ?_
        refine tw_irem C dL_law_112 (by decide) ?_
        refine tw_iload C dL_law_113 0 rfl ?_
        obtain ⟨y55023, hc55023, hf⟩ := tw_bd hf
        refine tw_wS (As := [.ref (q 0), .int ((y55003 / 16) - (y55003 / 16) / 12 * 12), .int (1 + (((y55003 / 16) / 12) - ((y55003 / 16) / 12) / 6 * 6))]) (stk := []) (Wc := twT cI cZ q st) (Wr := []) (ws' := twT cI cZ q y55023.2) C X0 hNc (isC := List.range 26) (isR := []) (ix := List.range 26) (ki := [0, 1]) ⟨rfl, rfl, rfl, rfl, by decide, rfl, rfl⟩ rfl (w_L_people l hl0 dC dI cI cZ q hc55023) (vx_cwSW 3 C.hts gL_law_L_people rfl rfl rfl hd_L_people ⟨Nat.le_of_ble_eq_true rfl, Nat.le_of_ble_eq_true rfl⟩) rfl rfl (Nat.le_of_ble_eq_true rfl) dL_law_115 ⟨Nat.le_trans hc1 (Nat.le_of_ble_eq_true rfl), Nat.le_trans hc2 (Nat.le_of_ble_eq_true rfl)⟩ ?_
        refine tw_istore (lv' := [(13, .int y55023.1), (12, .int (1 + (((y55003 / 16) / 12) - ((y55003 / 16) / 12) / 6 * 6))), (11, .int (y55003 - y55003 / 16 * 16)), (10, .int (y55003 / 16)), (9, .int y55003), (0, .ref b), (1, .ref (q 0)), (2, .int v2), (3, .int v3), (4, .int v4), (5, .int v5), (6, .int v6), (7, .int v7), (8, .int v8)]) C dL_law_118 (by decide) rfl ?_
        refine tw_iload C dL_law_120 0 rfl ?_
        refine tw_bipush (v := (-103)) C dL_law_122 (by decide) ?_
        refine tw_icmp_eq (tgt := 136) C dL_law_124 (by decide) (fun c55024 => ?_) (fun c55024 => ?_)
        · have hf := tw_pos hf c55024
          refine tw_sub [5, 6, 7, 8, 9, 10, 11, 13, 0] rfl ?_
          exact k_L_law_L136 C hE hr1 hX hbl hbA X0 hNc hl0 hc1 hc2 hrec v2 v3 v4 v5 v6 v8 y55023.1 y55023.2 hf
        · have hf := tw_neg hf c55024
          refine tw_iload C dL_law_127 0 rfl ?_
          refine tw_iload_n C dL_law_129 7 rfl rfl ?_
          refine tw_iload C dL_law_130 1 rfl ?_
          refine tw_iadd C dL_law_132 ?_
          refine tw_icmp_ne (tgt := 140) C dL_law_133 (by decide) (fun c55025 => ?_) (fun c55025 => ?_)
          · have hf := tw_neg hf c55025
            refine tw_iconst (v := 0) C dL_law_140 (by decide) ?_
            refine tw_sub [5, 6, 7, 8, 9, 10, 11, 13, 0] rfl ?_
            exact k_L_law_L141 C hE hr1 hX hbl hbA X0 hNc hl0 hc1 hc2 hrec v2 v3 v4 v5 v6 v8 y55023.1 0 y55023.2 hf
          · have hf := tw_pos hf c55025
            refine tw_sub [5, 6, 7, 8, 9, 10, 11, 13, 0] rfl ?_
            exact k_L_law_L136 C hE hr1 hX hbl hbA X0 hNc hl0 hc1 hc2 hrec v2 v3 v4 v5 v6 v8 y55023.1 y55023.2 hf
theorem k_L_law_L55 (C : twC p s m args meth c cL_law 14 RL wsL_law (dC, dI) (twY cI cZ) A) (hE : ∀ (pc k n : Nat) (lv : List (Nat × Value)) (ws : va_W), decode cL_law pc = .ok (.ireturn, 1) → k ≤ 160 → n ≤ 1377 → twG p l e room_1 s m args below meth c k n Q (dC, dI) A 14 ws pc lv [.int 1]) (hr1 : res.1 = 1) (hX : va_X b L xs s s.heap) (hbl : b < s.heap.size) (hbA : ¬ A b) (X0 : twXf A s s.heap) (hNc : twNcs s) (hl0 : l.stackTraces = false) : ∀ (n nc ns : Nat), nc + n ≤ 160 → ns + 6 * n ≤ 1377 → ∀ (v2 : Int32) (v3 : Int32) (v4 : Int32) (v5 : Int32) (v6 : Int32) (v7 : Int32) (v8 : Int32) (st : twS), f_L_law_L55 L xs n v2 v3 v4 v5 v6 v7 v8 st = some res → twG p l e room_1 s m args below meth c nc ns Q (dC, dI) A 14 (twT cI cZ q st) 55 [(0, .ref b), (1, .ref (q 0)), (2, .int v2), (3, .int v3), (4, .int v4), (5, .int v5), (6, .int v6), (7, .int v7), (8, .int v8)] [] := by
  intro n
  induction n with
  | zero =>
    intro nc ns h1 h2 v2 v3 v4 v5 v6 v7 v8 st hf
    have hf : none = some res := hf
    cases hf
  | succ n ih =>
    intro nc ns h1 h2 v2 v3 v4 v5 v6 v7 v8 st hf
    exact k_L_law_L55b C hE hr1 hX hbl hbA X0 hNc hl0 (by omega) (by omega) (ih (nc + 1) (ns + 6) (by omega) (by omega)) v2 v3 v4 v5 v6 v7 v8 st hf
set_option maxRecDepth 20000 in
theorem k_L_law8 (C : twC p s m args meth c cL_law 14 RL wsL_law (dC, dI) (twY cI cZ) A) (hE : ∀ (pc k n : Nat) (lv : List (Nat × Value)) (ws : va_W), decode cL_law pc = .ok (.ireturn, 1) → k ≤ 160 → n ≤ 1377 → twG p l e room_1 s m args below meth c k n Q (dC, dI) A 14 ws pc lv [.int 1]) (hr1 : res.1 = 1) (hX : va_X b L xs s s.heap) (hbl : b < s.heap.size) (hbA : ¬ A b) (X0 : twXf A s s.heap) (hNc : twNcs s) (hl0 : l.stackTraces = false) (hc1 : 26 + 1 ≤ 160) (hc2 : 313 + 6 ≤ 1377) {st : twS} (hf : f_L_law8 L xs st = some res) : twG p l e room_1 s m args below meth c 26 313 Q (dC, dI) A 14 (twT cI cZ q st) 8 [(0, .ref b), (1, .ref (q 0))] [] := by
  unfold f_L_law8 at hf
  refine tw_iconst (v := 0) C dL_law_8 (by decide) ?_
  refine tw_istore_n (lv' := [(2, .int 0), (0, .ref b), (1, .ref (q 0))]) C dL_law_9 rfl (by decide) rfl ?_
  refine tw_iconst (v := 0) C dL_law_10 (by decide) ?_
  refine tw_istore_n (lv' := [(3, .int 0), (2, .int 0), (0, .ref b), (1, .ref (q 0))]) C dL_law_11 rfl (by decide) rfl ?_
  refine tw_iconst (v := 0) C dL_law_12 (by decide) ?_
  refine tw_istore (lv' := [(4, .int 0), (3, .int 0), (2, .int 0), (0, .ref b), (1, .ref (q 0))]) C dL_law_13 (by decide) rfl ?_
  refine tw_iconst (v := 0) C dL_law_15 (by decide) ?_
  refine tw_istore (lv' := [(5, .int 0), (4, .int 0), (3, .int 0), (2, .int 0), (0, .ref b), (1, .ref (q 0))]) C dL_law_16 (by decide) rfl ?_
  refine tw_iconst (v := (-1)) C dL_law_18 (by decide) ?_
  refine tw_istore (lv' := [(6, .int (-1)), (5, .int 0), (4, .int 0), (3, .int 0), (2, .int 0), (0, .ref b), (1, .ref (q 0))]) C dL_law_19 (by decide) rfl ?_
  refine tw_aload_n C dL_law_21 6 rfl rfl ?_
  refine tw_aload_n C dL_law_22 5 rfl rfl ?_
  refine tw_iconst (v := 0) C dL_law_23 (by decide) ?_
  obtain ⟨y1, hc1, hf⟩ := tw_bd hf
  refine tw_cDr (As := [.ref b, .int 0]) (stk := [.ref (q 0)]) C hX hbl hbA (isR := List.range 26) (ix := List.range 26) ⟨rfl, rfl, rfl, rfl, by decide, rfl, rfl⟩ (c_L_drawn l dC dI cI cZ hc1) (va_cwS 2 C.hts gL_law_L_drawn rfl rfl rfl hd_L_drawn ⟨Nat.le_of_ble_eq_true rfl, Nat.le_of_ble_eq_true rfl⟩) rfl rfl (Nat.le_of_ble_eq_true rfl) dL_law_24 ⟨Nat.le_of_ble_eq_true rfl, Nat.le_of_ble_eq_true rfl⟩ ?_
  refine tw_sipush (v := 4096) C dL_law_27 (by decide) ?_
  refine tw_irem C dL_law_30 (by decide) ?_
  refine tw_aload_n C dL_law_31 5 rfl rfl ?_
  refine tw_iconst (v := 1) C dL_law_32 (by decide) ?_
  obtain ⟨y2, hc2, hf⟩ := tw_bd hf
  refine tw_cDr (As := [.ref b, .int 1]) (stk := [.int (y1 - y1 / 4096 * 4096), .ref (q 0)]) C hX hbl hbA (isR := List.range 26) (ix := List.range 26) ⟨rfl, rfl, rfl, rfl, by decide, rfl, rfl⟩ (c_L_drawn l dC dI cI cZ hc2) (va_cwS 2 C.hts gL_law_L_drawn rfl rfl rfl hd_L_drawn ⟨Nat.le_of_ble_eq_true rfl, Nat.le_of_ble_eq_true rfl⟩) rfl rfl (Nat.le_of_ble_eq_true rfl) dL_law_33 ⟨Nat.le_of_ble_eq_true rfl, Nat.le_of_ble_eq_true rfl⟩ ?_
  refine tw_bipush (v := 12) C dL_law_36 (by decide) ?_
  refine tw_irem C dL_law_38 (by decide) ?_
  obtain ⟨y3, hc3, hf⟩ := tw_bd hf
  refine tw_cWi (As := [.ref (q 0), .int (y1 - y1 / 4096 * 4096), .int (y2 - y2 / 12 * 12)]) (stk := []) C (c_L_build l dC dI cI cZ q hc3) (vx_cwSW 3 C.hts gL_law_L_build rfl rfl rfl hd_L_build ⟨Nat.le_of_ble_eq_true rfl, Nat.le_of_ble_eq_true rfl⟩) rfl rfl (Nat.le_of_ble_eq_true rfl) dL_law_39 ⟨Nat.le_of_ble_eq_true rfl, Nat.le_of_ble_eq_true rfl⟩ ?_
  refine tw_if_ne (tgt := 49) C dL_law_42 (by decide) (fun c4 => ?_) (fun c4 => ?_)
  · have hf := tw_neg hf c4
    refine tw_iconst (v := 0) C dL_law_49 (by decide) ?_
    refine tw_istore (lv' := [(7, .int 0), (6, .int (-1)), (5, .int 0), (4, .int 0), (3, .int 0), (2, .int 0), (0, .ref b), (1, .ref (q 0))]) C dL_law_50 (by decide) rfl ?_
    refine tw_iconst (v := 2) C dL_law_52 (by decide) ?_
    refine tw_istore (lv' := [(8, .int 2), (7, .int 0), (6, .int (-1)), (5, .int 0), (4, .int 0), (3, .int 0), (2, .int 0), (0, .ref b), (1, .ref (q 0))]) C dL_law_53 (by decide) rfl ?_
    refine tw_sub [7, 8, 6, 5, 4, 3, 2, 1, 0] rfl ?_
    exact k_L_law_L55 C hE hr1 hX hbl hbA X0 hNc hl0 40 _ _ (Nat.le_of_ble_eq_true rfl) (Nat.le_of_ble_eq_true rfl) 0 0 0 0 (-1) 0 2 y3.2 hf
  · have hf := tw_pos hf c4
    refine tw_iconst (v := 1) C dL_law_45 (by decide) ?_
    refine tw_goto (tgt := 50) C dL_law_46 (by decide) ?_
    refine tw_istore (lv' := [(7, .int 1), (6, .int (-1)), (5, .int 0), (4, .int 0), (3, .int 0), (2, .int 0), (0, .ref b), (1, .ref (q 0))]) C dL_law_50 (by decide) rfl ?_
    refine tw_iconst (v := 2) C dL_law_52 (by decide) ?_
    refine tw_istore (lv' := [(8, .int 2), (7, .int 1), (6, .int (-1)), (5, .int 0), (4, .int 0), (3, .int 0), (2, .int 0), (0, .ref b), (1, .ref (q 0))]) C dL_law_53 (by decide) rfl ?_
    refine tw_sub [7, 8, 6, 5, 4, 3, 2, 1, 0] rfl ?_
    exact k_L_law_L55 C hE hr1 hX hbl hbA X0 hNc hl0 40 _ _ (Nat.le_of_ble_eq_true rfl) (Nat.le_of_ble_eq_true rfl) 0 0 0 0 (-1) 1 2 y3.2 hf
end
