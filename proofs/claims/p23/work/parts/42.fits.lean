theorem hd_L_fits : yL_fits.cls ≠ "java/lang/invoke/MethodHandle" ∧ yL_fits.cls ≠ "java/lang/invoke/VarHandle" ∧ (parseMethodDescriptor yL_fits.desc).map (fun d => d.parameters.length) = some 3 := by decide +kernel
/-! L_fits -/
abbrev rm_L_fits : Room := { frames := 5, cells := 0, slots := 0, locals := 109 }
def f_L_fits_L296 (v1 : Int32) (v3 : Int32) (v4 : Int32) (v6 : Int32) (st : twS) : Option (Int32 × twS) :=
  (if v6 = 0 then
    some (0, st)
  else
    (if v3 = v1 then
    ((f_L_count st 3).bind fun y296003 => (if v4 = (v1 - y296003.1) then
    some (1, y296003.2)
  else
    some (0, y296003.2)))
  else
    some (0, st)))
def f_L_fits_L273 (rec : Int32 → Int32 → Int32 → Int32 → Int32 → Int32 → Int32 → twS → Option (Int32 × twS)) (v1 : Int32) (v2 : Int32) (v3 : Int32) (v4 : Int32) (v5 : Int32) (v7 : Int32) (v8 : Int32) (k0 : Int32) (st : twS) : Option (Int32 × twS) :=
  (if v8 = (-1) then
    rec v1 v2 v3 v4 v5 k0 (v7 + 1) st
  else
    rec v1 v2 v3 v4 v8 k0 (v7 + 1) st)
def f_L_fits_L272 (rec : Int32 → Int32 → Int32 → Int32 → Int32 → Int32 → Int32 → twS → Option (Int32 × twS)) (v1 : Int32) (v2 : Int32) (v3 : Int32) (v4 : Int32) (v5 : Int32) (v7 : Int32) (v8 : Int32) (st : twS) : Option (Int32 × twS) :=
  f_L_fits_L273 rec v1 v2 v3 v4 v5 v7 v8 0 st
def f_L_fits_L268 (rec : Int32 → Int32 → Int32 → Int32 → Int32 → Int32 → Int32 → twS → Option (Int32 × twS)) (v1 : Int32) (v2 : Int32) (v3 : Int32) (v4 : Int32) (v5 : Int32) (v7 : Int32) (v8 : Int32) (st : twS) : Option (Int32 × twS) :=
  f_L_fits_L273 rec v1 v2 v3 v4 v5 v7 v8 1 st
def f_L_fits_L229b (rec : Int32 → Int32 → Int32 → Int32 → Int32 → Int32 → Int32 → twS → Option (Int32 × twS)) (v1 : Int32) (v2 : Int32) (v3 : Int32) (v4 : Int32) (v5 : Int32) (v6 : Int32) (v7 : Int32) (st : twS) : Option (Int32 × twS) :=
  (if v2 ≤ v7 then
    f_L_fits_L296 v1 v3 v4 v6 st
  else
    (if v6 = 0 then
    f_L_fits_L296 v1 v3 v4 v6 st
  else
    ((f_L_done st v7).bind fun y229003 => (if y229003.1 = (-1) then
    f_L_fits_L268 rec v1 v2 v3 v4 v5 v7 y229003.1 y229003.2
  else
    ((f_X7_alarm y229003.2).bind fun y229005 => (if y229005.1 < 0 then
    f_L_fits_L272 rec v1 v2 v3 v4 v5 v7 y229003.1 y229005.2
  else
    (if y229003.1 < v5 then
    f_L_fits_L272 rec v1 v2 v3 v4 v5 v7 y229003.1 y229005.2
  else
    f_L_fits_L268 rec v1 v2 v3 v4 v5 v7 y229003.1 y229005.2)))))))
def f_L_fits_L229 : Nat → Int32 → Int32 → Int32 → Int32 → Int32 → Int32 → Int32 → twS → Option (Int32 × twS)
  | 0 => fun _ _ _ _ _ _ _ _ => none
  | n + 1 => fun v1 v2 v3 v4 v5 v6 v7 st => f_L_fits_L229b (f_L_fits_L229 n) v1 v2 v3 v4 v5 v6 v7 st
def f_L_fits_L210 (rec : Int32 → Int32 → Int32 → Int32 → Int32 → Int32 → Int32 → twS → Option (Int32 × twS)) (v1 : Int32) (v2 : Int32) (v3 : Int32) (v4 : Int32) (v5 : Int32) (v7 : Int32) (k0 : Int32) (k1 : Int32) (st : twS) : Option (Int32 × twS) :=
  (if k1 = k0 then
    rec v1 v2 v3 v4 v5 1 (v7 + 1) st
  else
    rec v1 v2 v3 v4 v5 0 (v7 + 1) st)
def f_L_fits_L199 (rec : Int32 → Int32 → Int32 → Int32 → Int32 → Int32 → Int32 → twS → Option (Int32 × twS)) (v1 : Int32) (v2 : Int32) (v3 : Int32) (v4 : Int32) (v5 : Int32) (v7 : Int32) (v8 : Int32) (k0 : Int32) (st : twS) : Option (Int32 × twS) :=
  (if v8 < 3 then
    f_L_fits_L210 rec v1 v2 v3 v4 v5 v7 0 k0 st
  else
    f_L_fits_L210 rec v1 v2 v3 v4 v5 v7 1 k0 st)
def f_L_fits_L181 (rec : Int32 → Int32 → Int32 → Int32 → Int32 → Int32 → Int32 → twS → Option (Int32 × twS)) (v1 : Int32) (v2 : Int32) (v3 : Int32) (v4 : Int32) (v5 : Int32) (v7 : Int32) (v8 : Int32) (k0 : Int32) (k1 : Int32) (st : twS) : Option (Int32 × twS) :=
  (if k1 = k0 then
    ((f_L_person st v7 2).bind fun y181002 => (if y181002.1 < 0 then
    f_L_fits_L199 rec v1 v2 v3 v4 v5 v7 v8 0 y181002.2
  else
    f_L_fits_L199 rec v1 v2 v3 v4 v5 v7 v8 1 y181002.2))
  else
    rec v1 v2 v3 v4 v5 0 (v7 + 1) st)
def f_L_fits_L170 (rec : Int32 → Int32 → Int32 → Int32 → Int32 → Int32 → Int32 → twS → Option (Int32 × twS)) (v1 : Int32) (v2 : Int32) (v3 : Int32) (v4 : Int32) (v5 : Int32) (v7 : Int32) (v8 : Int32) (k0 : Int32) (st : twS) : Option (Int32 × twS) :=
  (if v8 = 3 then
    f_L_fits_L181 rec v1 v2 v3 v4 v5 v7 v8 1 k0 st
  else
    f_L_fits_L181 rec v1 v2 v3 v4 v5 v7 v8 0 k0 st)
def f_L_fits_L134b (rec : Int32 → Int32 → Int32 → Int32 → Int32 → Int32 → Int32 → twS → Option (Int32 × twS)) (v1 : Int32) (v2 : Int32) (v3 : Int32) (v4 : Int32) (v5 : Int32) (v6 : Int32) (v7 : Int32) (st : twS) : Option (Int32 × twS) :=
  (if v1 ≤ v7 then
    f_L_fits_L229 twN v1 v2 v3 v4 v5 v6 0 st
  else
    (if v6 = 0 then
    f_L_fits_L229 twN v1 v2 v3 v4 v5 v6 0 st
  else
    ((f_L_person st v7 0).bind fun y134003 => ((f_L_person y134003.2 v7 1).bind fun y134004 => (if y134004.1 = (-1) then
    f_L_fits_L170 rec v1 v2 v3 v4 v5 v7 y134003.1 1 y134004.2
  else
    f_L_fits_L170 rec v1 v2 v3 v4 v5 v7 y134003.1 0 y134004.2)))))
def f_L_fits_L134 : Nat → Int32 → Int32 → Int32 → Int32 → Int32 → Int32 → Int32 → twS → Option (Int32 × twS)
  | 0 => fun _ _ _ _ _ _ _ _ => none
  | n + 1 => fun v1 v2 v3 v4 v5 v6 v7 st => f_L_fits_L134b (f_L_fits_L134 n) v1 v2 v3 v4 v5 v6 v7 st
def f_L_fits_L74b (rec : Int32 → Int32 → Int32 → Int32 → Int32 → Int32 → Int32 → twS → Option (Int32 × twS)) (v1 : Int32) (v2 : Int32) (v3 : Int32) (v4 : Int32) (v5 : Int32) (v6 : Int32) (v7 : Int32) (st : twS) : Option (Int32 × twS) :=
  (if 12 ≤ v7 then
    f_L_fits_L134 twN v1 v2 v3 v4 v5 v6 0 st
  else
    (if v6 = 0 then
    f_L_fits_L134 twN v1 v2 v3 v4 v5 v6 0 st
  else
    ((f_L_segment st v7 3).bind fun y74003 => ((f_L_segment y74003.2 v7 0).bind fun y74004 => (if y74004.1 < 0 then
    rec v1 v2 v3 (v4 + y74003.1) v5 0 (v7 + 1) y74004.2
  else
    ((f_L_segment y74004.2 v7 1).bind fun y74006 => (if y74006.1 < 0 then
    rec v1 v2 v3 (v4 + y74003.1) v5 0 (v7 + 1) y74006.2
  else
    rec v1 v2 v3 (v4 + y74003.1) v5 1 (v7 + 1) y74006.2)))))))
def f_L_fits_L74 : Nat → Int32 → Int32 → Int32 → Int32 → Int32 → Int32 → Int32 → twS → Option (Int32 × twS)
  | 0 => fun _ _ _ _ _ _ _ _ => none
  | n + 1 => fun v1 v2 v3 v4 v5 v6 v7 st => f_L_fits_L74b (f_L_fits_L74 n) v1 v2 v3 v4 v5 v6 v7 st
def f_L_fits_L45b (rec : Int32 → Int32 → Int32 → Int32 → Int32 → Int32 → Int32 → twS → Option (Int32 × twS)) (v1 : Int32) (v2 : Int32) (v3 : Int32) (v4 : Int32) (v5 : Int32) (v6 : Int32) (v7 : Int32) (st : twS) : Option (Int32 × twS) :=
  (if 5 ≤ v7 then
    f_L_fits_L74 twN v1 v2 v3 v4 v5 v6 0 st
  else
    (if v6 = 0 then
    f_L_fits_L74 twN v1 v2 v3 v4 v5 v6 0 st
  else
    ((f_L_count st v7).bind fun y45003 => rec v1 v2 (v3 + y45003.1) v4 v5 v6 (v7 + 1) y45003.2)))
def f_L_fits_L45 : Nat → Int32 → Int32 → Int32 → Int32 → Int32 → Int32 → Int32 → twS → Option (Int32 × twS)
  | 0 => fun _ _ _ _ _ _ _ _ => none
  | n + 1 => fun v1 v2 v3 v4 v5 v6 v7 st => f_L_fits_L45b (f_L_fits_L45 n) v1 v2 v3 v4 v5 v6 v7 st
def f_L_fits (st : twS) (v1 : Int32) (v2 : Int32) : Option (Int32 × twS) :=
  ((f_X7_balances st).bind fun y1 => (if y1.1 = 0 then
    f_L_fits_L45 twN v1 v2 0 0 0 0 0 y1.2
  else
    ((f_X7_flow y1.2).bind fun y3 => (if y3.1 < (-9000) then
    f_L_fits_L45 twN v1 v2 0 0 0 0 0 y3.2
  else
    ((f_X7_flow y3.2).bind fun y5 => (if 9000 < y5.1 then
    f_L_fits_L45 twN v1 v2 0 0 0 0 0 y5.2
  else
    f_L_fits_L45 twN v1 v2 0 0 0 1 0 y5.2))))))
section
variable {p : Program} {l : Launch} {e : Env} {s : State} {m : MethodId} {args : Array Value} {below : List Frame} {meth : Method} {c : Code} {Q : State → Prop} {dC : Nat → ClassId} {dI : Nat → Nat → Nat} {cI cZ : ClassId} {q : Nat → Nat} {A : Nat → Prop} {res : Int32 × twS}
set_option maxRecDepth 20000 in
theorem m_L_fits_L296 (C : twC p s m args meth c cL_fits 9 RL wsL_fits (dC, dI) (twY cI cZ) A) (hE : twEi p l e rm_L_fits s m args below meth c 0 0 Q (dC, dI) A 9 cL_fits .boolean res.1 (twT cI cZ q res.2)) : ∀ (v1 : Int32) (v3 : Int32) (v4 : Int32) (v6 : Int32) (st : twS), f_L_fits_L296 v1 v3 v4 v6 st = some res → twG p l e rm_L_fits s m args below meth c 0 0 Q (dC, dI) A 9 (twT cI cZ q st) 296 [(0, .ref (q 0)), (1, .int v1), (3, .int v3), (4, .int v4), (6, .int v6)] [] := by
  intro v1 v3 v4 v6 st hf
  unfold f_L_fits_L296 at hf
  refine tw_iload C dL_fits_296 4 rfl ?_
  refine tw_if_eq (tgt := 322) C dL_fits_298 (by decide) (fun c296001 => ?_) (fun c296001 => ?_)
  · have hf := tw_pos hf c296001
    refine tw_iconst (v := 0) C dL_fits_322 (by decide) ?_
    exact tw_endi (Wf := twT cI cZ q) hE hf dL_fits_323 rfl
  · have hf := tw_neg hf c296001
    refine tw_iload_n C dL_fits_301 2 rfl rfl ?_
    refine tw_iload_n C dL_fits_302 1 rfl rfl ?_
    refine tw_icmp_ne (tgt := 322) C dL_fits_303 (by decide) (fun c296002 => ?_) (fun c296002 => ?_)
    · have hf := tw_neg hf c296002
      refine tw_iconst (v := 0) C dL_fits_322 (by decide) ?_
      exact tw_endi (Wf := twT cI cZ q) hE hf dL_fits_323 rfl
    · have hf := tw_pos hf c296002
      refine tw_iload C dL_fits_306 3 rfl ?_
      refine tw_iload_n C dL_fits_308 1 rfl rfl ?_
      refine tw_aload_n C dL_fits_309 0 rfl rfl ?_
      refine tw_iconst (v := 3) C dL_fits_310 (by decide) ?_
      obtain ⟨y296003, hc296003, hf⟩ := tw_bd hf
      refine tw_cWi (As := [.ref (q 0), .int 3]) (stk := [.int v1, .int v4]) C (c_L_count l dC dI cI cZ q hc296003) (vx_cwSW 2 C.hts gL_fits_L_count rfl rfl rfl hd_L_count ⟨Nat.le_of_ble_eq_true rfl, Nat.le_of_ble_eq_true rfl⟩) rfl rfl (Nat.le_of_ble_eq_true rfl) dL_fits_311 ⟨Nat.zero_le _, Nat.zero_le _⟩ ?_
      refine tw_isub C dL_fits_314 ?_
      refine tw_icmp_ne (tgt := 322) C dL_fits_315 (by decide) (fun c296004 => ?_) (fun c296004 => ?_)
      · have hf := tw_neg hf c296004
        refine tw_iconst (v := 0) C dL_fits_322 (by decide) ?_
        exact tw_endi (Wf := twT cI cZ q) hE hf dL_fits_323 rfl
      · have hf := tw_pos hf c296004
        refine tw_iconst (v := 1) C dL_fits_318 (by decide) ?_
        refine tw_goto (tgt := 323) C dL_fits_319 (by decide) ?_
        exact tw_endi (Wf := twT cI cZ q) hE hf dL_fits_323 rfl
set_option maxRecDepth 20000 in
theorem m_L_fits_L273 (C : twC p s m args meth c cL_fits 9 RL wsL_fits (dC, dI) (twY cI cZ) A) (hE : twEi p l e rm_L_fits s m args below meth c 0 0 Q (dC, dI) A 9 cL_fits .boolean res.1 (twT cI cZ q res.2)) {rec : Int32 → Int32 → Int32 → Int32 → Int32 → Int32 → Int32 → twS → Option (Int32 × twS)} (hrec : ∀ (v1 : Int32) (v2 : Int32) (v3 : Int32) (v4 : Int32) (v5 : Int32) (v6 : Int32) (v7 : Int32) (st : twS), rec v1 v2 v3 v4 v5 v6 v7 st = some res → twG p l e rm_L_fits s m args below meth c 0 0 Q (dC, dI) A 9 (twT cI cZ q st) 229 [(0, .ref (q 0)), (1, .int v1), (2, .int v2), (3, .int v3), (4, .int v4), (5, .int v5), (6, .int v6), (7, .int v7)] []) : ∀ (v1 : Int32) (v2 : Int32) (v3 : Int32) (v4 : Int32) (v5 : Int32) (v7 : Int32) (v8 : Int32) (k0 : Int32) (st : twS), f_L_fits_L273 rec v1 v2 v3 v4 v5 v7 v8 k0 st = some res → twG p l e rm_L_fits s m args below meth c 0 0 Q (dC, dI) A 9 (twT cI cZ q st) 273 [(0, .ref (q 0)), (1, .int v1), (2, .int v2), (3, .int v3), (4, .int v4), (5, .int v5), (7, .int v7), (8, .int v8)] [.int k0] := by
  intro v1 v2 v3 v4 v5 v7 v8 k0 st hf
  unfold f_L_fits_L273 at hf
  refine tw_istore (lv' := [(6, .int k0), (0, .ref (q 0)), (1, .int v1), (2, .int v2), (3, .int v3), (4, .int v4), (5, .int v5), (7, .int v7), (8, .int v8)]) C dL_fits_273 (by decide) rfl ?_
  refine tw_iload C dL_fits_275 8 rfl ?_
  refine tw_iconst (v := (-1)) C dL_fits_277 (by decide) ?_
  refine tw_icmp_ne (tgt := 286) C dL_fits_278 (by decide) (fun c273001 => ?_) (fun c273001 => ?_)
  · have hf := tw_neg hf c273001
    refine tw_iload C dL_fits_286 8 rfl ?_
    refine tw_istore (lv' := [(5, .int v8), (6, .int k0), (0, .ref (q 0)), (1, .int v1), (2, .int v2), (3, .int v3), (4, .int v4), (7, .int v7), (8, .int v8)]) C dL_fits_288 (by decide) rfl ?_
    refine tw_iinc (v := (v7 + 1)) (lv' := [(7, .int (v7 + 1)), (5, .int v8), (6, .int k0), (0, .ref (q 0)), (1, .int v1), (2, .int v2), (3, .int v3), (4, .int v4), (8, .int v8)]) C dL_fits_290 (k := 7) rfl rfl (by decide) rfl ?_
    refine tw_goto (tgt := 229) C dL_fits_293 (by decide) ?_
    refine tw_sub [3, 4, 5, 6, 7, 1, 2, 0] rfl ?_
    exact hrec v1 v2 v3 v4 v8 k0 (v7 + 1) st hf
  · have hf := tw_pos hf c273001
    refine tw_iload C dL_fits_281 6 rfl ?_
    refine tw_goto (tgt := 288) C dL_fits_283 (by decide) ?_
    refine tw_istore (lv' := [(5, .int v5), (6, .int k0), (0, .ref (q 0)), (1, .int v1), (2, .int v2), (3, .int v3), (4, .int v4), (7, .int v7), (8, .int v8)]) C dL_fits_288 (by decide) rfl ?_
    refine tw_iinc (v := (v7 + 1)) (lv' := [(7, .int (v7 + 1)), (5, .int v5), (6, .int k0), (0, .ref (q 0)), (1, .int v1), (2, .int v2), (3, .int v3), (4, .int v4), (8, .int v8)]) C dL_fits_290 (k := 7) rfl rfl (by decide) rfl ?_
    refine tw_goto (tgt := 229) C dL_fits_293 (by decide) ?_
    refine tw_sub [3, 4, 5, 6, 7, 1, 2, 0] rfl ?_
    exact hrec v1 v2 v3 v4 v5 k0 (v7 + 1) st hf
set_option maxRecDepth 20000 in
theorem m_L_fits_L272 (C : twC p s m args meth c cL_fits 9 RL wsL_fits (dC, dI) (twY cI cZ) A) (hE : twEi p l e rm_L_fits s m args below meth c 0 0 Q (dC, dI) A 9 cL_fits .boolean res.1 (twT cI cZ q res.2)) {rec : Int32 → Int32 → Int32 → Int32 → Int32 → Int32 → Int32 → twS → Option (Int32 × twS)} (hrec : ∀ (v1 : Int32) (v2 : Int32) (v3 : Int32) (v4 : Int32) (v5 : Int32) (v6 : Int32) (v7 : Int32) (st : twS), rec v1 v2 v3 v4 v5 v6 v7 st = some res → twG p l e rm_L_fits s m args below meth c 0 0 Q (dC, dI) A 9 (twT cI cZ q st) 229 [(0, .ref (q 0)), (1, .int v1), (2, .int v2), (3, .int v3), (4, .int v4), (5, .int v5), (6, .int v6), (7, .int v7)] []) : ∀ (v1 : Int32) (v2 : Int32) (v3 : Int32) (v4 : Int32) (v5 : Int32) (v7 : Int32) (v8 : Int32) (st : twS), f_L_fits_L272 rec v1 v2 v3 v4 v5 v7 v8 st = some res → twG p l e rm_L_fits s m args below meth c 0 0 Q (dC, dI) A 9 (twT cI cZ q st) 272 [(0, .ref (q 0)), (1, .int v1), (2, .int v2), (3, .int v3), (4, .int v4), (5, .int v5), (7, .int v7), (8, .int v8)] [] := by
  intro v1 v2 v3 v4 v5 v7 v8 st hf
  unfold f_L_fits_L272 at hf
  refine tw_iconst (v := 0) C dL_fits_272 (by decide) ?_
  exact m_L_fits_L273 C hE hrec v1 v2 v3 v4 v5 v7 v8 0 st hf
set_option maxRecDepth 20000 in
theorem m_L_fits_L268 (C : twC p s m args meth c cL_fits 9 RL wsL_fits (dC, dI) (twY cI cZ) A) (hE : twEi p l e rm_L_fits s m args below meth c 0 0 Q (dC, dI) A 9 cL_fits .boolean res.1 (twT cI cZ q res.2)) {rec : Int32 → Int32 → Int32 → Int32 → Int32 → Int32 → Int32 → twS → Option (Int32 × twS)} (hrec : ∀ (v1 : Int32) (v2 : Int32) (v3 : Int32) (v4 : Int32) (v5 : Int32) (v6 : Int32) (v7 : Int32) (st : twS), rec v1 v2 v3 v4 v5 v6 v7 st = some res → twG p l e rm_L_fits s m args below meth c 0 0 Q (dC, dI) A 9 (twT cI cZ q st) 229 [(0, .ref (q 0)), (1, .int v1), (2, .int v2), (3, .int v3), (4, .int v4), (5, .int v5), (6, .int v6), (7, .int v7)] []) : ∀ (v1 : Int32) (v2 : Int32) (v3 : Int32) (v4 : Int32) (v5 : Int32) (v7 : Int32) (v8 : Int32) (st : twS), f_L_fits_L268 rec v1 v2 v3 v4 v5 v7 v8 st = some res → twG p l e rm_L_fits s m args below meth c 0 0 Q (dC, dI) A 9 (twT cI cZ q st) 268 [(0, .ref (q 0)), (1, .int v1), (2, .int v2), (3, .int v3), (4, .int v4), (5, .int v5), (7, .int v7), (8, .int v8)] [] := by
  intro v1 v2 v3 v4 v5 v7 v8 st hf
  unfold f_L_fits_L268 at hf
  refine tw_iconst (v := 1) C dL_fits_268 (by decide) ?_
  refine tw_goto (tgt := 273) C dL_fits_269 (by decide) ?_
  exact m_L_fits_L273 C hE hrec v1 v2 v3 v4 v5 v7 v8 1 st hf
set_option maxRecDepth 20000 in
theorem m_L_fits_L229b (C : twC p s m args meth c cL_fits 9 RL wsL_fits (dC, dI) (twY cI cZ) A) (hE : twEi p l e rm_L_fits s m args below meth c 0 0 Q (dC, dI) A 9 cL_fits .boolean res.1 (twT cI cZ q res.2)) {rec : Int32 → Int32 → Int32 → Int32 → Int32 → Int32 → Int32 → twS → Option (Int32 × twS)} (hrec : ∀ (v1 : Int32) (v2 : Int32) (v3 : Int32) (v4 : Int32) (v5 : Int32) (v6 : Int32) (v7 : Int32) (st : twS), rec v1 v2 v3 v4 v5 v6 v7 st = some res → twG p l e rm_L_fits s m args below meth c 0 0 Q (dC, dI) A 9 (twT cI cZ q st) 229 [(0, .ref (q 0)), (1, .int v1), (2, .int v2), (3, .int v3), (4, .int v4), (5, .int v5), (6, .int v6), (7, .int v7)] []) : ∀ (v1 : Int32) (v2 : Int32) (v3 : Int32) (v4 : Int32) (v5 : Int32) (v6 : Int32) (v7 : Int32) (st : twS), f_L_fits_L229b rec v1 v2 v3 v4 v5 v6 v7 st = some res → twG p l e rm_L_fits s m args below meth c 0 0 Q (dC, dI) A 9 (twT cI cZ q st) 229 [(0, .ref (q 0)), (1, .int v1), (2, .int v2), (3, .int v3), (4, .int v4), (5, .int v5), (6, .int v6), (7, .int v7)] [] := by
  intro v1 v2 v3 v4 v5 v6 v7 st hf
  unfold f_L_fits_L229b at hf
  refine tw_iload C dL_fits_229 7 rfl ?_
  refine tw_iload_n C dL_fits_231 2 rfl rfl ?_
  refine tw_icmp_ge (tgt := 296) C dL_fits_232 (by decide) (fun c229001 => ?_) (fun c229001 => ?_)
  · have hf := tw_pos hf c229001
    refine tw_sub [0, 1, 3, 4, 6] rfl ?_
    exact m_L_fits_L296 C hE v1 v3 v4 v6 st hf
  · have hf := tw_neg hf c229001
    refine tw_iload C dL_fits_235 6 rfl ?_
    refine tw_if_eq (tgt := 296) C dL_fits_237 (by decide) (fun c229002 => ?_) (fun c229002 => ?_)
    · have hf := tw_pos hf c229002
      refine tw_sub [0, 1, 3, 4, 6] rfl ?_
      exact m_L_fits_L296 C hE v1 v3 v4 v6 st hf
    · have hf := tw_neg hf c229002
      refine tw_aload_n C dL_fits_240 0 rfl rfl ?_
      refine tw_iload C dL_fits_241 7 rfl ?_
      obtain ⟨y229003, hc229003, hf⟩ := tw_bd hf
      refine tw_cWi (As := [.ref (q 0), .int v7]) (stk := []) C (c_L_done l dC dI cI cZ q hc229003) (vx_cwSW 2 C.hts gL_fits_L_done rfl rfl rfl hd_L_done ⟨Nat.le_of_ble_eq_true rfl, Nat.le_of_ble_eq_true rfl⟩) rfl rfl (Nat.le_of_ble_eq_true rfl) dL_fits_243 ⟨Nat.zero_le _, Nat.zero_le _⟩ ?_
      refine tw_istore (lv' := [(8, .int y229003.1), (0, .ref (q 0)), (1, .int v1), (2, .int v2), (3, .int v3), (4, .int v4), (5, .int v5), (6, .int v6), (7, .int v7)]) C dL_fits_246 (by decide) rfl ?_
      refine tw_iload C dL_fits_248 0 rfl ?_
      refine tw_iconst (v := (-1)) C dL_fits_250 (by decide) ?_
      refine tw_icmp_eq (tgt := 268) C dL_fits_251 (by decide) (fun c229004 => ?_) (fun c229004 => ?_)
      · have hf := tw_pos hf c229004
        refine tw_sub [1, 2, 3, 4, 5, 6, 8, 0] rfl ?_
        exact m_L_fits_L268 C hE hrec v1 v2 v3 v4 v5 v7 y229003.1 y229003.2 hf
      · have hf := tw_neg hf c229004
        refine tw_aload_n C dL_fits_254 1 rfl rfl ?_
        obtain ⟨y229005, hc229005, hf⟩ := tw_bd hf
        refine tw_cVi (As := []) (stk := []) C (c_X7_alarm l dC dI cI cZ q hc229005) (cwV 0 C.hts gL_fits_X7_alarm rfl rfl rfl hd_X7_alarm ⟨Nat.le_of_ble_eq_true rfl, Nat.le_of_ble_eq_true rfl⟩) 0 (ci := 7) rfl rfl rfl rfl rfl (Nat.le_of_ble_eq_true rfl) dL_fits_255 ⟨Nat.zero_le _, Nat.zero_le _⟩ ?_
        refine tw_if_lt (tgt := 272) C dL_fits_258 (by decide) (fun c229006 => ?_) (fun c229006 => ?_)
        · have hf := tw_pos hf c229006
          refine tw_sub [1, 2, 3, 4, 5, 6, 8, 0] rfl ?_
          exact m_L_fits_L272 C hE hrec v1 v2 v3 v4 v5 v7 y229003.1 y229005.2 hf
        · have hf := tw_neg hf c229006
          refine tw_iload C dL_fits_261 0 rfl ?_
          refine tw_iload C dL_fits_263 6 rfl ?_
          refine tw_icmp_lt (tgt := 272) C dL_fits_265 (by decide) (fun c229007 => ?_) (fun c229007 => ?_)
          · have hf := tw_pos hf c229007
            refine tw_sub [1, 2, 3, 4, 5, 6, 8, 0] rfl ?_
            exact m_L_fits_L272 C hE hrec v1 v2 v3 v4 v5 v7 y229003.1 y229005.2 hf
          · have hf := tw_neg hf c229007
            refine tw_sub [1, 2, 3, 4, 5, 6, 8, 0] rfl ?_
            exact m_L_fits_L268 C hE hrec v1 v2 v3 v4 v5 v7 y229003.1 y229005.2 hf
theorem m_L_fits_L229 (C : twC p s m args meth c cL_fits 9 RL wsL_fits (dC, dI) (twY cI cZ) A) (hE : twEi p l e rm_L_fits s m args below meth c 0 0 Q (dC, dI) A 9 cL_fits .boolean res.1 (twT cI cZ q res.2)) : ∀ (n : Nat) (v1 : Int32) (v2 : Int32) (v3 : Int32) (v4 : Int32) (v5 : Int32) (v6 : Int32) (v7 : Int32) (st : twS), f_L_fits_L229 n v1 v2 v3 v4 v5 v6 v7 st = some res → twG p l e rm_L_fits s m args below meth c 0 0 Q (dC, dI) A 9 (twT cI cZ q st) 229 [(0, .ref (q 0)), (1, .int v1), (2, .int v2), (3, .int v3), (4, .int v4), (5, .int v5), (6, .int v6), (7, .int v7)] [] := by
  intro n
  induction n with
  | zero =>
    intro v1 v2 v3 v4 v5 v6 v7 st hf
    have hf : none = some res := hf
    cases hf
  | succ n ih =>
    intro v1 v2 v3 v4 v5 v6 v7 st hf
    exact m_L_fits_L229b C hE ih v1 v2 v3 v4 v5 v6 v7 st hf
set_option maxRecDepth 20000 in
theorem m_L_fits_L210 (C : twC p s m args meth c cL_fits 9 RL wsL_fits (dC, dI) (twY cI cZ) A) (hE : twEi p l e rm_L_fits s m args below meth c 0 0 Q (dC, dI) A 9 cL_fits .boolean res.1 (twT cI cZ q res.2)) {rec : Int32 → Int32 → Int32 → Int32 → Int32 → Int32 → Int32 → twS → Option (Int32 × twS)} (hrec : ∀ (v1 : Int32) (v2 : Int32) (v3 : Int32) (v4 : Int32) (v5 : Int32) (v6 : Int32) (v7 : Int32) (st : twS), rec v1 v2 v3 v4 v5 v6 v7 st = some res → twG p l e rm_L_fits s m args below meth c 0 0 Q (dC, dI) A 9 (twT cI cZ q st) 134 [(0, .ref (q 0)), (1, .int v1), (2, .int v2), (3, .int v3), (4, .int v4), (5, .int v5), (6, .int v6), (7, .int v7)] []) : ∀ (v1 : Int32) (v2 : Int32) (v3 : Int32) (v4 : Int32) (v5 : Int32) (v7 : Int32) (k0 : Int32) (k1 : Int32) (st : twS), f_L_fits_L210 rec v1 v2 v3 v4 v5 v7 k0 k1 st = some res → twG p l e rm_L_fits s m args below meth c 0 0 Q (dC, dI) A 9 (twT cI cZ q st) 210 [(0, .ref (q 0)), (1, .int v1), (2, .int v2), (3, .int v3), (4, .int v4), (5, .int v5), (7, .int v7)] [.int k0, .int k1] := by
  intro v1 v2 v3 v4 v5 v7 k0 k1 st hf
  unfold f_L_fits_L210 at hf
  refine tw_icmp_ne (tgt := 217) C dL_fits_210 (by decide) (fun c210001 => ?_) (fun c210001 => ?_)
  · have hf := tw_neg hf c210001
    refine tw_iconst (v := 0) C dL_fits_217 (by decide) ?_
    refine tw_istore (lv' := [(6, .int 0), (0, .ref (q 0)), (1, .int v1), (2, .int v2), (3, .int v3), (4, .int v4), (5, .int v5), (7, .int v7)]) C dL_fits_218 (by decide) rfl ?_
    refine tw_iinc (v := (v7 + 1)) (lv' := [(7, .int (v7 + 1)), (6, .int 0), (0, .ref (q 0)), (1, .int v1), (2, .int v2), (3, .int v3), (4, .int v4), (5, .int v5)]) C dL_fits_220 (k := 7) rfl rfl (by decide) rfl ?_
    refine tw_goto (tgt := 134) C dL_fits_223 (by decide) ?_
    refine tw_sub [2, 3, 4, 5, 6, 7, 1, 0] rfl ?_
    exact hrec v1 v2 v3 v4 v5 0 (v7 + 1) st hf
  · have hf := tw_pos hf c210001
    refine tw_iconst (v := 1) C dL_fits_213 (by decide) ?_
    refine tw_goto (tgt := 218) C dL_fits_214 (by decide) ?_
    refine tw_istore (lv' := [(6, .int 1), (0, .ref (q 0)), (1, .int v1), (2, .int v2), (3, .int v3), (4, .int v4), (5, .int v5), (7, .int v7)]) C dL_fits_218 (by decide) rfl ?_
    refine tw_iinc (v := (v7 + 1)) (lv' := [(7, .int (v7 + 1)), (6, .int 1), (0, .ref (q 0)), (1, .int v1), (2, .int v2), (3, .int v3), (4, .int v4), (5, .int v5)]) C dL_fits_220 (k := 7) rfl rfl (by decide) rfl ?_
    refine tw_goto (tgt := 134) C dL_fits_223 (by decide) ?_
    refine tw_sub [2, 3, 4, 5, 6, 7, 1, 0] rfl ?_
    exact hrec v1 v2 v3 v4 v5 1 (v7 + 1) st hf
set_option maxRecDepth 20000 in
theorem m_L_fits_L199 (C : twC p s m args meth c cL_fits 9 RL wsL_fits (dC, dI) (twY cI cZ) A) (hE : twEi p l e rm_L_fits s m args below meth c 0 0 Q (dC, dI) A 9 cL_fits .boolean res.1 (twT cI cZ q res.2)) {rec : Int32 → Int32 → Int32 → Int32 → Int32 → Int32 → Int32 → twS → Option (Int32 × twS)} (hrec : ∀ (v1 : Int32) (v2 : Int32) (v3 : Int32) (v4 : Int32) (v5 : Int32) (v6 : Int32) (v7 : Int32) (st : twS), rec v1 v2 v3 v4 v5 v6 v7 st = some res → twG p l e rm_L_fits s m args below meth c 0 0 Q (dC, dI) A 9 (twT cI cZ q st) 134 [(0, .ref (q 0)), (1, .int v1), (2, .int v2), (3, .int v3), (4, .int v4), (5, .int v5), (6, .int v6), (7, .int v7)] []) : ∀ (v1 : Int32) (v2 : Int32) (v3 : Int32) (v4 : Int32) (v5 : Int32) (v7 : Int32) (v8 : Int32) (k0 : Int32) (st : twS), f_L_fits_L199 rec v1 v2 v3 v4 v5 v7 v8 k0 st = some res → twG p l e rm_L_fits s m args below meth c 0 0 Q (dC, dI) A 9 (twT cI cZ q st) 199 [(0, .ref (q 0)), (1, .int v1), (2, .int v2), (3, .int v3), (4, .int v4), (5, .int v5), (7, .int v7), (8, .int v8)] [.int k0] := by
  intro v1 v2 v3 v4 v5 v7 v8 k0 st hf
  unfold f_L_fits_L199 at hf
  refine tw_iload C dL_fits_199 7 rfl ?_
  refine tw_iconst (v := 3) C dL_fits_201 (by decide) ?_
  refine tw_icmp_lt (tgt := 209) C dL_fits_202 (by decide) (fun c199001 => ?_) (fun c199001 => ?_)
  · have hf := tw_pos hf c199001
    refine tw_iconst (v := 0) C dL_fits_209 (by decide) ?_
    refine tw_sub [0, 1, 2, 3, 4, 5, 6] rfl ?_
    exact m_L_fits_L210 C hE hrec v1 v2 v3 v4 v5 v7 0 k0 st hf
  · have hf := tw_neg hf c199001
    refine tw_iconst (v := 1) C dL_fits_205 (by decide) ?_
    refine tw_goto (tgt := 210) C dL_fits_206 (by decide) ?_
    refine tw_sub [0, 1, 2, 3, 4, 5, 6] rfl ?_
    exact m_L_fits_L210 C hE hrec v1 v2 v3 v4 v5 v7 1 k0 st hf
set_option maxRecDepth 20000 in
theorem m_L_fits_L181 (C : twC p s m args meth c cL_fits 9 RL wsL_fits (dC, dI) (twY cI cZ) A) (hE : twEi p l e rm_L_fits s m args below meth c 0 0 Q (dC, dI) A 9 cL_fits .boolean res.1 (twT cI cZ q res.2)) {rec : Int32 → Int32 → Int32 → Int32 → Int32 → Int32 → Int32 → twS → Option (Int32 × twS)} (hrec : ∀ (v1 : Int32) (v2 : Int32) (v3 : Int32) (v4 : Int32) (v5 : Int32) (v6 : Int32) (v7 : Int32) (st : twS), rec v1 v2 v3 v4 v5 v6 v7 st = some res → twG p l e rm_L_fits s m args below meth c 0 0 Q (dC, dI) A 9 (twT cI cZ q st) 134 [(0, .ref (q 0)), (1, .int v1), (2, .int v2), (3, .int v3), (4, .int v4), (5, .int v5), (6, .int v6), (7, .int v7)] []) : ∀ (v1 : Int32) (v2 : Int32) (v3 : Int32) (v4 : Int32) (v5 : Int32) (v7 : Int32) (v8 : Int32) (k0 : Int32) (k1 : Int32) (st : twS), f_L_fits_L181 rec v1 v2 v3 v4 v5 v7 v8 k0 k1 st = some res → twG p l e rm_L_fits s m args below meth c 0 0 Q (dC, dI) A 9 (twT cI cZ q st) 181 [(0, .ref (q 0)), (1, .int v1), (2, .int v2), (3, .int v3), (4, .int v4), (5, .int v5), (7, .int v7), (8, .int v8)] [.int k0, .int k1] := by
  intro v1 v2 v3 v4 v5 v7 v8 k0 k1 st hf
  unfold f_L_fits_L181 at hf
  refine tw_icmp_ne (tgt := 217) C dL_fits_181 (by decide) (fun c181001 => ?_) (fun c181001 => ?_)
  · have hf := tw_neg hf c181001
    refine tw_iconst (v := 0) C dL_fits_217 (by decide) ?_
    refine tw_istore (lv' := [(6, .int 0), (0, .ref (q 0)), (1, .int v1), (2, .int v2), (3, .int v3), (4, .int v4), (5, .int v5), (7, .int v7), (8, .int v8)]) C dL_fits_218 (by decide) rfl ?_
    refine tw_iinc (v := (v7 + 1)) (lv' := [(7, .int (v7 + 1)), (6, .int 0), (0, .ref (q 0)), (1, .int v1), (2, .int v2), (3, .int v3), (4, .int v4), (5, .int v5), (8, .int v8)]) C dL_fits_220 (k := 7) rfl rfl (by decide) rfl ?_
    refine tw_goto (tgt := 134) C dL_fits_223 (by decide) ?_
    refine tw_sub [2, 3, 4, 5, 6, 7, 1, 0] rfl ?_
    exact hrec v1 v2 v3 v4 v5 0 (v7 + 1) st hf
  · have hf := tw_pos hf c181001
    refine tw_aload_n C dL_fits_184 0 rfl rfl ?_
    refine tw_iload C dL_fits_185 6 rfl ?_
    refine tw_iconst (v := 2) C dL_fits_187 (by decide) ?_
    obtain ⟨y181002, hc181002, hf⟩ := tw_bd hf
    refine tw_cWi (As := [.ref (q 0), .int v7, .int 2]) (stk := []) C (c_L_person l dC dI cI cZ q hc181002) (vx_cwSW 3 C.hts gL_fits_L_person rfl rfl rfl hd_L_person ⟨Nat.le_of_ble_eq_true rfl, Nat.le_of_ble_eq_true rfl⟩) rfl rfl (Nat.le_of_ble_eq_true rfl) dL_fits_188 ⟨Nat.zero_le _, Nat.zero_le _⟩ ?_
    refine tw_if_lt (tgt := 198) C dL_fits_191 (by decide) (fun c181003 => ?_) (fun c181003 => ?_)
    · have hf := tw_pos hf c181003
      refine tw_iconst (v := 0) C dL_fits_198 (by decide) ?_
      exact m_L_fits_L199 C hE hrec v1 v2 v3 v4 v5 v7 v8 0 y181002.2 hf
    · have hf := tw_neg hf c181003
      refine tw_iconst (v := 1) C dL_fits_194 (by decide) ?_
      refine tw_goto (tgt := 199) C dL_fits_195 (by decide) ?_
      exact m_L_fits_L199 C hE hrec v1 v2 v3 v4 v5 v7 v8 1 y181002.2 hf
set_option maxRecDepth 20000 in
theorem m_L_fits_L170 (C : twC p s m args meth c cL_fits 9 RL wsL_fits (dC, dI) (twY cI cZ) A) (hE : twEi p l e rm_L_fits s m args below meth c 0 0 Q (dC, dI) A 9 cL_fits .boolean res.1 (twT cI cZ q res.2)) {rec : Int32 → Int32 → Int32 → Int32 → Int32 → Int32 → Int32 → twS → Option (Int32 × twS)} (hrec : ∀ (v1 : Int32) (v2 : Int32) (v3 : Int32) (v4 : Int32) (v5 : Int32) (v6 : Int32) (v7 : Int32) (st : twS), rec v1 v2 v3 v4 v5 v6 v7 st = some res → twG p l e rm_L_fits s m args below meth c 0 0 Q (dC, dI) A 9 (twT cI cZ q st) 134 [(0, .ref (q 0)), (1, .int v1), (2, .int v2), (3, .int v3), (4, .int v4), (5, .int v5), (6, .int v6), (7, .int v7)] []) : ∀ (v1 : Int32) (v2 : Int32) (v3 : Int32) (v4 : Int32) (v5 : Int32) (v7 : Int32) (v8 : Int32) (k0 : Int32) (st : twS), f_L_fits_L170 rec v1 v2 v3 v4 v5 v7 v8 k0 st = some res → twG p l e rm_L_fits s m args below meth c 0 0 Q (dC, dI) A 9 (twT cI cZ q st) 170 [(0, .ref (q 0)), (1, .int v1), (2, .int v2), (3, .int v3), (4, .int v4), (5, .int v5), (7, .int v7), (8, .int v8)] [.int k0] := by
  intro v1 v2 v3 v4 v5 v7 v8 k0 st hf
  unfold f_L_fits_L170 at hf
  refine tw_iload C dL_fits_170 7 rfl ?_
  refine tw_iconst (v := 3) C dL_fits_172 (by decide) ?_
  refine tw_icmp_ne (tgt := 180) C dL_fits_173 (by decide) (fun c170001 => ?_) (fun c170001 => ?_)
  · have hf := tw_neg hf c170001
    refine tw_iconst (v := 0) C dL_fits_180 (by decide) ?_
    exact m_L_fits_L181 C hE hrec v1 v2 v3 v4 v5 v7 v8 0 k0 st hf
  · have hf := tw_pos hf c170001
    refine tw_iconst (v := 1) C dL_fits_176 (by decide) ?_
    refine tw_goto (tgt := 181) C dL_fits_177 (by decide) ?_
    exact m_L_fits_L181 C hE hrec v1 v2 v3 v4 v5 v7 v8 1 k0 st hf
set_option maxRecDepth 20000 in
theorem m_L_fits_L134b (C : twC p s m args meth c cL_fits 9 RL wsL_fits (dC, dI) (twY cI cZ) A) (hE : twEi p l e rm_L_fits s m args below meth c 0 0 Q (dC, dI) A 9 cL_fits .boolean res.1 (twT cI cZ q res.2)) {rec : Int32 → Int32 → Int32 → Int32 → Int32 → Int32 → Int32 → twS → Option (Int32 × twS)} (hrec : ∀ (v1 : Int32) (v2 : Int32) (v3 : Int32) (v4 : Int32) (v5 : Int32) (v6 : Int32) (v7 : Int32) (st : twS), rec v1 v2 v3 v4 v5 v6 v7 st = some res → twG p l e rm_L_fits s m args below meth c 0 0 Q (dC, dI) A 9 (twT cI cZ q st) 134 [(0, .ref (q 0)), (1, .int v1), (2, .int v2), (3, .int v3), (4, .int v4), (5, .int v5), (6, .int v6), (7, .int v7)] []) : ∀ (v1 : Int32) (v2 : Int32) (v3 : Int32) (v4 : Int32) (v5 : Int32) (v6 : Int32) (v7 : Int32) (st : twS), f_L_fits_L134b rec v1 v2 v3 v4 v5 v6 v7 st = some res → twG p l e rm_L_fits s m args below meth c 0 0 Q (dC, dI) A 9 (twT cI cZ q st) 134 [(0, .ref (q 0)), (1, .int v1), (2, .int v2), (3, .int v3), (4, .int v4), (5, .int v5), (6, .int v6), (7, .int v7)] [] := by
  intro v1 v2 v3 v4 v5 v6 v7 st hf
  unfold f_L_fits_L134b at hf
  refine tw_iload C dL_fits_134 7 rfl ?_
  refine tw_iload_n C dL_fits_136 1 rfl rfl ?_
  refine tw_icmp_ge (tgt := 226) C dL_fits_137 (by decide) (fun c134001 => ?_) (fun c134001 => ?_)
  · have hf := tw_pos hf c134001
    refine tw_iconst (v := 0) C dL_fits_226 (by decide) ?_
    refine tw_istore (lv' := [(7, .int 0), (0, .ref (q 0)), (1, .int v1), (2, .int v2), (3, .int v3), (4, .int v4), (5, .int v5), (6, .int v6)]) C dL_fits_227 (by decide) rfl ?_
    refine tw_sub [1, 2, 3, 4, 5, 6, 7, 0] rfl ?_
    exact m_L_fits_L229 C hE twN v1 v2 v3 v4 v5 v6 0 st hf
  · have hf := tw_neg hf c134001
    refine tw_iload C dL_fits_140 6 rfl ?_
    refine tw_if_eq (tgt := 226) C dL_fits_142 (by decide) (fun c134002 => ?_) (fun c134002 => ?_)
    · have hf := tw_pos hf c134002
      refine tw_iconst (v := 0) C dL_fits_226 (by decide) ?_
      refine tw_istore (lv' := [(7, .int 0), (0, .ref (q 0)), (1, .int v1), (2, .int v2), (3, .int v3), (4, .int v4), (5, .int v5), (6, .int v6)]) C dL_fits_227 (by decide) rfl ?_
      refine tw_sub [1, 2, 3, 4, 5, 6, 7, 0] rfl ?_
      exact m_L_fits_L229 C hE twN v1 v2 v3 v4 v5 v6 0 st hf
    · have hf := tw_neg hf c134002
      refine tw_aload_n C dL_fits_145 0 rfl rfl ?_
      refine tw_iload C dL_fits_146 7 rfl ?_
      refine tw_iconst (v := 0) C dL_fits_148 (by decide) ?_
      obtain ⟨y134003, hc134003, hf⟩ := tw_bd hf
      refine tw_cWi (As := [.ref (q 0), .int v7, .int 0]) (stk := []) C (c_L_person l dC dI cI cZ q hc134003) (vx_cwSW 3 C.hts gL_fits_L_person rfl rfl rfl hd_L_person ⟨Nat.le_of_ble_eq_true rfl, Nat.le_of_ble_eq_true rfl⟩) rfl rfl (Nat.le_of_ble_eq_true rfl) dL_fits_149 ⟨Nat.zero_le _, Nat.zero_le _⟩ ?_
      refine tw_istore (lv' := [(8, .int y134003.1), (0, .ref (q 0)), (1, .int v1), (2, .int v2), (3, .int v3), (4, .int v4), (5, .int v5), (6, .int v6), (7, .int v7)]) C dL_fits_152 (by decide) rfl ?_
      refine tw_aload_n C dL_fits_154 1 rfl rfl ?_
      refine tw_iload C dL_fits_155 8 rfl ?_
      refine tw_iconst (v := 1) C dL_fits_157 (by decide) ?_
      obtain ⟨y134004, hc134004, hf⟩ := tw_bd hf
      refine tw_cWi (As := [.ref (q 0), .int v7, .int 1]) (stk := []) C (c_L_person l dC dI cI cZ q hc134004) (vx_cwSW 3 C.hts gL_fits_L_person rfl rfl rfl hd_L_person ⟨Nat.le_of_ble_eq_true rfl, Nat.le_of_ble_eq_true rfl⟩) rfl rfl (Nat.le_of_ble_eq_true rfl) dL_fits_158 ⟨Nat.zero_le _, Nat.zero_le _⟩ ?_
      refine tw_iconst (v := (-1)) C dL_fits_161 (by decide) ?_
      refine tw_icmp_ne (tgt := 169) C dL_fits_162 (by decide) (fun c134005 => ?_) (fun c134005 => ?_)
      · have hf := tw_neg hf c134005
        refine tw_iconst (v := 0) C dL_fits_169 (by decide) ?_
        refine tw_sub [1, 2, 3, 4, 5, 6, 8, 0] rfl ?_
        exact m_L_fits_L170 C hE hrec v1 v2 v3 v4 v5 v7 y134003.1 0 y134004.2 hf
      · have hf := tw_pos hf c134005
        refine tw_iconst (v := 1) C dL_fits_165 (by decide) ?_
        refine tw_goto (tgt := 170) C dL_fits_166 (by decide) ?_
        refine tw_sub [1, 2, 3, 4, 5, 6, 8, 0] rfl ?_
        exact m_L_fits_L170 C hE hrec v1 v2 v3 v4 v5 v7 y134003.1 1 y134004.2 hf
theorem m_L_fits_L134 (C : twC p s m args meth c cL_fits 9 RL wsL_fits (dC, dI) (twY cI cZ) A) (hE : twEi p l e rm_L_fits s m args below meth c 0 0 Q (dC, dI) A 9 cL_fits .boolean res.1 (twT cI cZ q res.2)) : ∀ (n : Nat) (v1 : Int32) (v2 : Int32) (v3 : Int32) (v4 : Int32) (v5 : Int32) (v6 : Int32) (v7 : Int32) (st : twS), f_L_fits_L134 n v1 v2 v3 v4 v5 v6 v7 st = some res → twG p l e rm_L_fits s m args below meth c 0 0 Q (dC, dI) A 9 (twT cI cZ q st) 134 [(0, .ref (q 0)), (1, .int v1), (2, .int v2), (3, .int v3), (4, .int v4), (5, .int v5), (6, .int v6), (7, .int v7)] [] := by
  intro n
  induction n with
  | zero =>
    intro v1 v2 v3 v4 v5 v6 v7 st hf
    have hf : none = some res := hf
    cases hf
  | succ n ih =>
    intro v1 v2 v3 v4 v5 v6 v7 st hf
    exact m_L_fits_L134b C hE ih v1 v2 v3 v4 v5 v6 v7 st hf
set_option maxRecDepth 20000 in
theorem m_L_fits_L74b (C : twC p s m args meth c cL_fits 9 RL wsL_fits (dC, dI) (twY cI cZ) A) (hE : twEi p l e rm_L_fits s m args below meth c 0 0 Q (dC, dI) A 9 cL_fits .boolean res.1 (twT cI cZ q res.2)) {rec : Int32 → Int32 → Int32 → Int32 → Int32 → Int32 → Int32 → twS → Option (Int32 × twS)} (hrec : ∀ (v1 : Int32) (v2 : Int32) (v3 : Int32) (v4 : Int32) (v5 : Int32) (v6 : Int32) (v7 : Int32) (st : twS), rec v1 v2 v3 v4 v5 v6 v7 st = some res → twG p l e rm_L_fits s m args below meth c 0 0 Q (dC, dI) A 9 (twT cI cZ q st) 74 [(0, .ref (q 0)), (1, .int v1), (2, .int v2), (3, .int v3), (4, .int v4), (5, .int v5), (6, .int v6), (7, .int v7)] []) : ∀ (v1 : Int32) (v2 : Int32) (v3 : Int32) (v4 : Int32) (v5 : Int32) (v6 : Int32) (v7 : Int32) (st : twS), f_L_fits_L74b rec v1 v2 v3 v4 v5 v6 v7 st = some res → twG p l e rm_L_fits s m args below meth c 0 0 Q (dC, dI) A 9 (twT cI cZ q st) 74 [(0, .ref (q 0)), (1, .int v1), (2, .int v2), (3, .int v3), (4, .int v4), (5, .int v5), (6, .int v6), (7, .int v7)] [] := by
  intro v1 v2 v3 v4 v5 v6 v7 st hf
  unfold f_L_fits_L74b at hf
  refine tw_iload C dL_fits_74 7 rfl ?_
  refine tw_bipush (v := 12) C dL_fits_76 (by decide) ?_
  refine tw_icmp_ge (tgt := 131) C dL_fits_78 (by decide) (fun c74001 => ?_) (fun c74001 => ?_)
  · have hf := tw_pos hf c74001
    refine tw_iconst (v := 0) C dL_fits_131 (by decide) ?_
    refine tw_istore (lv' := [(7, .int 0), (0, .ref (q 0)), (1, .int v1), (2, .int v2), (3, .int v3), (4, .int v4), (5, .int v5), (6, .int v6)]) C dL_fits_132 (by decide) rfl ?_
    refine tw_sub [1, 2, 3, 4, 5, 6, 7, 0] rfl ?_
    exact m_L_fits_L134 C hE twN v1 v2 v3 v4 v5 v6 0 st hf
  · have hf := tw_neg hf c74001
    refine tw_iload C dL_fits_81 6 rfl ?_
    refine tw_if_eq (tgt := 131) C dL_fits_83 (by decide) (fun c74002 => ?_) (fun c74002 => ?_)
    · have hf := tw_pos hf c74002
      refine tw_iconst (v := 0) C dL_fits_131 (by decide) ?_
      refine tw_istore (lv' := [(7, .int 0), (0, .ref (q 0)), (1, .int v1), (2, .int v2), (3, .int v3), (4, .int v4), (5, .int v5), (6, .int v6)]) C dL_fits_132 (by decide) rfl ?_
      refine tw_sub [1, 2, 3, 4, 5, 6, 7, 0] rfl ?_
      exact m_L_fits_L134 C hE twN v1 v2 v3 v4 v5 v6 0 st hf
    · have hf := tw_neg hf c74002
      refine tw_iload C dL_fits_86 4 rfl ?_
      refine tw_aload_n C dL_fits_88 0 rfl rfl ?_
      refine tw_iload C dL_fits_89 7 rfl ?_
      refine tw_iconst (v := 3) C dL_fits_91 (by decide) ?_
      obtain ⟨y74003, hc74003, hf⟩ := tw_bd hf
      refine tw_cWi (As := [.ref (q 0), .int v7, .int 3]) (stk := [.int v4]) C (c_L_segment l dC dI cI cZ q hc74003) (vx_cwSW 3 C.hts gL_fits_L_segment rfl rfl rfl hd_L_segment ⟨Nat.le_of_ble_eq_true rfl, Nat.le_of_ble_eq_true rfl⟩) rfl rfl (Nat.le_of_ble_eq_true rfl) dL_fits_92 ⟨Nat.zero_le _, Nat.zero_le _⟩ ?_
      refine tw_iadd C dL_fits_95 ?_
      refine tw_istore (lv' := [(4, .int (v4 + y74003.1)), (0, .ref (q 0)), (1, .int v1), (2, .int v2), (3, .int v3), (5, .int v5), (6, .int v6), (7, .int v7)]) C dL_fits_96 (by decide) rfl ?_
      refine tw_aload_n C dL_fits_98 1 rfl rfl ?_
      refine tw_iload C dL_fits_99 7 rfl ?_
      refine tw_iconst (v := 0) C dL_fits_101 (by decide) ?_
      obtain ⟨y74004, hc74004, hf⟩ := tw_bd hf
      refine tw_cWi (As := [.ref (q 0), .int v7, .int 0]) (stk := []) C (c_L_segment l dC dI cI cZ q hc74004) (vx_cwSW 3 C.hts gL_fits_L_segment rfl rfl rfl hd_L_segment ⟨Nat.le_of_ble_eq_true rfl, Nat.le_of_ble_eq_true rfl⟩) rfl rfl (Nat.le_of_ble_eq_true rfl) dL_fits_102 ⟨Nat.zero_le _, Nat.zero_le _⟩ ?_
      refine tw_if_lt (tgt := 122) C dL_fits_105 (by decide) (fun c74005 => ?_) (fun c74005 => ?_)
      · have hf := tw_pos hf c74005
        refine tw_iconst (v := 0) C dL_fits_122 (by decide) ?_
        refine tw_istore (lv' := [(6, .int 0), (4, .int (v4 + y74003.1)), (0, .ref (q 0)), (1, .int v1), (2, .int v2), (3, .int v3), (5, .int v5), (7, .int v7)]) C dL_fits_123 (by decide) rfl ?_
        refine tw_iinc (v := (v7 + 1)) (lv' := [(7, .int (v7 + 1)), (6, .int 0), (4, .int (v4 + y74003.1)), (0, .ref (q 0)), (1, .int v1), (2, .int v2), (3, .int v3), (5, .int v5)]) C dL_fits_125 (k := 7) rfl rfl (by decide) rfl ?_
        refine tw_goto (tgt := 74) C dL_fits_128 (by decide) ?_
        refine tw_sub [3, 4, 5, 6, 2, 7, 1, 0] rfl ?_
        exact hrec v1 v2 v3 (v4 + y74003.1) v5 0 (v7 + 1) y74004.2 hf
      · have hf := tw_neg hf c74005
        refine tw_aload_n C dL_fits_108 1 rfl rfl ?_
        refine tw_iload C dL_fits_109 7 rfl ?_
        refine tw_iconst (v := 1) C dL_fits_111 (by decide) ?_
        obtain ⟨y74006, hc74006, hf⟩ := tw_bd hf
        refine tw_cWi (As := [.ref (q 0), .int v7, .int 1]) (stk := []) C (c_L_segment l dC dI cI cZ q hc74006) (vx_cwSW 3 C.hts gL_fits_L_segment rfl rfl rfl hd_L_segment ⟨Nat.le_of_ble_eq_true rfl, Nat.le_of_ble_eq_true rfl⟩) rfl rfl (Nat.le_of_ble_eq_true rfl) dL_fits_112 ⟨Nat.zero_le _, Nat.zero_le _⟩ ?_
        refine tw_if_lt (tgt := 122) C dL_fits_115 (by decide) (fun c74007 => ?_) (fun c74007 => ?_)
        · have hf := tw_pos hf c74007
          refine tw_iconst (v := 0) C dL_fits_122 (by decide) ?_
          refine tw_istore (lv' := [(6, .int 0), (4, .int (v4 + y74003.1)), (0, .ref (q 0)), (1, .int v1), (2, .int v2), (3, .int v3), (5, .int v5), (7, .int v7)]) C dL_fits_123 (by decide) rfl ?_
          refine tw_iinc (v := (v7 + 1)) (lv' := [(7, .int (v7 + 1)), (6, .int 0), (4, .int (v4 + y74003.1)), (0, .ref (q 0)), (1, .int v1), (2, .int v2), (3, .int v3), (5, .int v5)]) C dL_fits_125 (k := 7) rfl rfl (by decide) rfl ?_
          refine tw_goto (tgt := 74) C dL_fits_128 (by decide) ?_
          refine tw_sub [3, 4, 5, 6, 2, 7, 1, 0] rfl ?_
          exact hrec v1 v2 v3 (v4 + y74003.1) v5 0 (v7 + 1) y74006.2 hf
        · have hf := tw_neg hf c74007
          refine tw_iconst (v := 1) C dL_fits_118 (by decide) ?_
          refine tw_goto (tgt := 123) C dL_fits_119 (by decide) ?_
          refine tw_istore (lv' := [(6, .int 1), (4, .int (v4 + y74003.1)), (0, .ref (q 0)), (1, .int v1), (2, .int v2), (3, .int v3), (5, .int v5), (7, .int v7)]) C dL_fits_123 (by decide) rfl ?_
          refine tw_iinc (v := (v7 + 1)) (lv' := [(7, .int (v7 + 1)), (6, .int 1), (4, .int (v4 + y74003.1)), (0, .ref (q 0)), (1, .int v1), (2, .int v2), (3, .int v3), (5, .int v5)]) C dL_fits_125 (k := 7) rfl rfl (by decide) rfl ?_
          refine tw_goto (tgt := 74) C dL_fits_128 (by decide) ?_
          refine tw_sub [3, 4, 5, 6, 2, 7, 1, 0] rfl ?_
          exact hrec v1 v2 v3 (v4 + y74003.1) v5 1 (v7 + 1) y74006.2 hf
theorem m_L_fits_L74 (C : twC p s m args meth c cL_fits 9 RL wsL_fits (dC, dI) (twY cI cZ) A) (hE : twEi p l e rm_L_fits s m args below meth c 0 0 Q (dC, dI) A 9 cL_fits .boolean res.1 (twT cI cZ q res.2)) : ∀ (n : Nat) (v1 : Int32) (v2 : Int32) (v3 : Int32) (v4 : Int32) (v5 : Int32) (v6 : Int32) (v7 : Int32) (st : twS), f_L_fits_L74 n v1 v2 v3 v4 v5 v6 v7 st = some res → twG p l e rm_L_fits s m args below meth c 0 0 Q (dC, dI) A 9 (twT cI cZ q st) 74 [(0, .ref (q 0)), (1, .int v1), (2, .int v2), (3, .int v3), (4, .int v4), (5, .int v5), (6, .int v6), (7, .int v7)] [] := by
  intro n
  induction n with
  | zero =>
    intro v1 v2 v3 v4 v5 v6 v7 st hf
    have hf : none = some res := hf
    cases hf
  | succ n ih =>
    intro v1 v2 v3 v4 v5 v6 v7 st hf
    exact m_L_fits_L74b C hE ih v1 v2 v3 v4 v5 v6 v7 st hf
set_option maxRecDepth 20000 in
theorem m_L_fits_L45b (C : twC p s m args meth c cL_fits 9 RL wsL_fits (dC, dI) (twY cI cZ) A) (hE : twEi p l e rm_L_fits s m args below meth c 0 0 Q (dC, dI) A 9 cL_fits .boolean res.1 (twT cI cZ q res.2)) {rec : Int32 → Int32 → Int32 → Int32 → Int32 → Int32 → Int32 → twS → Option (Int32 × twS)} (hrec : ∀ (v1 : Int32) (v2 : Int32) (v3 : Int32) (v4 : Int32) (v5 : Int32) (v6 : Int32) (v7 : Int32) (st : twS), rec v1 v2 v3 v4 v5 v6 v7 st = some res → twG p l e rm_L_fits s m args below meth c 0 0 Q (dC, dI) A 9 (twT cI cZ q st) 45 [(0, .ref (q 0)), (1, .int v1), (2, .int v2), (3, .int v3), (4, .int v4), (5, .int v5), (6, .int v6), (7, .int v7)] []) : ∀ (v1 : Int32) (v2 : Int32) (v3 : Int32) (v4 : Int32) (v5 : Int32) (v6 : Int32) (v7 : Int32) (st : twS), f_L_fits_L45b rec v1 v2 v3 v4 v5 v6 v7 st = some res → twG p l e rm_L_fits s m args below meth c 0 0 Q (dC, dI) A 9 (twT cI cZ q st) 45 [(0, .ref (q 0)), (1, .int v1), (2, .int v2), (3, .int v3), (4, .int v4), (5, .int v5), (6, .int v6), (7, .int v7)] [] := by
  intro v1 v2 v3 v4 v5 v6 v7 st hf
  unfold f_L_fits_L45b at hf
  refine tw_iload C dL_fits_45 7 rfl ?_
  refine tw_iconst (v := 5) C dL_fits_47 (by decide) ?_
  refine tw_icmp_ge (tgt := 71) C dL_fits_48 (by decide) (fun c45001 => ?_) (fun c45001 => ?_)
  · have hf := tw_pos hf c45001
    refine tw_iconst (v := 0) C dL_fits_71 (by decide) ?_
    refine tw_istore (lv' := [(7, .int 0), (0, .ref (q 0)), (1, .int v1), (2, .int v2), (3, .int v3), (4, .int v4), (5, .int v5), (6, .int v6)]) C dL_fits_72 (by decide) rfl ?_
    refine tw_sub [1, 2, 3, 4, 5, 6, 7, 0] rfl ?_
    exact m_L_fits_L74 C hE twN v1 v2 v3 v4 v5 v6 0 st hf
  · have hf := tw_neg hf c45001
    refine tw_iload C dL_fits_51 6 rfl ?_
    refine tw_if_eq (tgt := 71) C dL_fits_53 (by decide) (fun c45002 => ?_) (fun c45002 => ?_)
    · have hf := tw_pos hf c45002
      refine tw_iconst (v := 0) C dL_fits_71 (by decide) ?_
      refine tw_istore (lv' := [(7, .int 0), (0, .ref (q 0)), (1, .int v1), (2, .int v2), (3, .int v3), (4, .int v4), (5, .int v5), (6, .int v6)]) C dL_fits_72 (by decide) rfl ?_
      refine tw_sub [1, 2, 3, 4, 5, 6, 7, 0] rfl ?_
      exact m_L_fits_L74 C hE twN v1 v2 v3 v4 v5 v6 0 st hf
    · have hf := tw_neg hf c45002
      refine tw_iload_n C dL_fits_56 3 rfl rfl ?_
      refine tw_aload_n C dL_fits_57 0 rfl rfl ?_
      refine tw_iload C dL_fits_58 7 rfl ?_
      obtain ⟨y45003, hc45003, hf⟩ := tw_bd hf
      refine tw_cWi (As := [.ref (q 0), .int v7]) (stk := [.int v3]) C (c_L_count l dC dI cI cZ q hc45003) (vx_cwSW 2 C.hts gL_fits_L_count rfl rfl rfl hd_L_count ⟨Nat.le_of_ble_eq_true rfl, Nat.le_of_ble_eq_true rfl⟩) rfl rfl (Nat.le_of_ble_eq_true rfl) dL_fits_60 ⟨Nat.zero_le _, Nat.zero_le _⟩ ?_
      refine tw_iadd C dL_fits_63 ?_
      refine tw_istore_n (lv' := [(3, .int (v3 + y45003.1)), (0, .ref (q 0)), (1, .int v1), (2, .int v2), (4, .int v4), (5, .int v5), (6, .int v6), (7, .int v7)]) C dL_fits_64 rfl (by decide) rfl ?_
      refine tw_iinc (v := (v7 + 1)) (lv' := [(7, .int (v7 + 1)), (3, .int (v3 + y45003.1)), (0, .ref (q 0)), (1, .int v1), (2, .int v2), (4, .int v4), (5, .int v5), (6, .int v6)]) C dL_fits_65 (k := 7) rfl rfl (by decide) rfl ?_
      refine tw_goto (tgt := 45) C dL_fits_68 (by decide) ?_
      refine tw_sub [2, 3, 4, 1, 5, 6, 7, 0] rfl ?_
      exact hrec v1 v2 (v3 + y45003.1) v4 v5 v6 (v7 + 1) y45003.2 hf
theorem m_L_fits_L45 (C : twC p s m args meth c cL_fits 9 RL wsL_fits (dC, dI) (twY cI cZ) A) (hE : twEi p l e rm_L_fits s m args below meth c 0 0 Q (dC, dI) A 9 cL_fits .boolean res.1 (twT cI cZ q res.2)) : ∀ (n : Nat) (v1 : Int32) (v2 : Int32) (v3 : Int32) (v4 : Int32) (v5 : Int32) (v6 : Int32) (v7 : Int32) (st : twS), f_L_fits_L45 n v1 v2 v3 v4 v5 v6 v7 st = some res → twG p l e rm_L_fits s m args below meth c 0 0 Q (dC, dI) A 9 (twT cI cZ q st) 45 [(0, .ref (q 0)), (1, .int v1), (2, .int v2), (3, .int v3), (4, .int v4), (5, .int v5), (6, .int v6), (7, .int v7)] [] := by
  intro n
  induction n with
  | zero =>
    intro v1 v2 v3 v4 v5 v6 v7 st hf
    have hf : none = some res := hf
    cases hf
  | succ n ih =>
    intro v1 v2 v3 v4 v5 v6 v7 st hf
    exact m_L_fits_L45b C hE ih v1 v2 v3 v4 v5 v6 v7 st hf
set_option maxRecDepth 20000 in
theorem c_L_fits (l : Launch) (dC : Nat → ClassId) (dI : Nat → Nat → Nat) (cI cZ : ClassId) (q : Nat → Nat) {st : twS} {v1 : Int32} {v2 : Int32} {res : Int32 × twS} (hf : f_L_fits st v1 v2 = some res) : twMi l yL_fits wsL_fits rm_L_fits (dC, dI) (twY cI cZ) [.ref (q 0), .int v1, .int v2] (twT cI cZ q st) res.1 (twT cI cZ q res.2) := by
  refine tw_enti (cc := cL_fits) (maxL := 9) (own := RL) (by decide) rfl (Nat.le_of_ble_eq_true rfl) rfl ⟨rfl, rfl⟩ ?_
  intro p e s m below meth c A Q C hE
  generalize ([.ref (q 0), .int v1, .int v2] : List Value).toArray = args at C hE ⊢
  refine tw_sub (lv' := [(0, .ref (q 0)), (1, .int v1), (2, .int v2)]) [0, 1, 2] rfl ?_
  unfold f_L_fits at hf
  refine tw_iconst (v := 0) C dL_fits_0 (by decide) ?_
  refine tw_istore_n (lv' := [(3, .int 0), (0, .ref (q 0)), (1, .int v1), (2, .int v2)]) C dL_fits_1 rfl (by decide) rfl ?_
  refine tw_iconst (v := 0) C dL_fits_2 (by decide) ?_
  refine tw_istore (lv' := [(4, .int 0), (3, .int 0), (0, .ref (q 0)), (1, .int v1), (2, .int v2)]) C dL_fits_3 (by decide) rfl ?_
  refine tw_iconst (v := 0) C dL_fits_5 (by decide) ?_
  refine tw_istore (lv' := [(5, .int 0), (4, .int 0), (3, .int 0), (0, .ref (q 0)), (1, .int v1), (2, .int v2)]) C dL_fits_6 (by decide) rfl ?_
  refine tw_aload_n C dL_fits_8 3 rfl rfl ?_
  obtain ⟨y1, hc1, hf⟩ := tw_bd hf
  refine tw_cVi (As := []) (stk := []) C (c_X7_balances l dC dI cI cZ q hc1) (cwV 0 C.hts gL_fits_X7_balances rfl rfl rfl hd_X7_balances ⟨Nat.le_of_ble_eq_true rfl, Nat.le_of_ble_eq_true rfl⟩) 0 (ci := 7) rfl rfl rfl rfl rfl (Nat.le_of_ble_eq_true rfl) dL_fits_9 ⟨Nat.zero_le _, Nat.zero_le _⟩ ?_
  refine tw_if_eq (tgt := 39) C dL_fits_12 (by decide) (fun c2 => ?_) (fun c2 => ?_)
  · have hf := tw_pos hf c2
    refine tw_iconst (v := 0) C dL_fits_39 (by decide) ?_
    refine tw_istore (lv' := [(6, .int 0), (5, .int 0), (4, .int 0), (3, .int 0), (0, .ref (q 0)), (1, .int v1), (2, .int v2)]) C dL_fits_40 (by decide) rfl ?_
    refine tw_iconst (v := 0) C dL_fits_42 (by decide) ?_
    refine tw_istore (lv' := [(7, .int 0), (6, .int 0), (5, .int 0), (4, .int 0), (3, .int 0), (0, .ref (q 0)), (1, .int v1), (2, .int v2)]) C dL_fits_43 (by decide) rfl ?_
    refine tw_sub [5, 6, 7, 4, 3, 2, 1, 0] rfl ?_
    exact m_L_fits_L45 C hE twN v1 v2 0 0 0 0 0 y1.2 hf
  · have hf := tw_neg hf c2
    refine tw_aload_n C dL_fits_15 3 rfl rfl ?_
    obtain ⟨y3, hc3, hf⟩ := tw_bd hf
    refine tw_cVi (As := []) (stk := []) C (c_X7_flow l dC dI cI cZ q hc3) (cwV 0 C.hts gL_fits_X7_flow rfl rfl rfl hd_X7_flow ⟨Nat.le_of_ble_eq_true rfl, Nat.le_of_ble_eq_true rfl⟩) 0 (ci := 7) rfl rfl rfl rfl rfl (Nat.le_of_ble_eq_true rfl) dL_fits_16 ⟨Nat.zero_le _, Nat.zero_le _⟩ ?_
    refine tw_sipush (v := (-9000)) C dL_fits_19 (by decide) ?_
    refine tw_icmp_lt (tgt := 39) C dL_fits_22 (by decide) (fun c4 => ?_) (fun c4 => ?_)
    · have hf := tw_pos hf c4
      refine tw_iconst (v := 0) C dL_fits_39 (by decide) ?_
      refine tw_istore (lv' := [(6, .int 0), (5, .int 0), (4, .int 0), (3, .int 0), (0, .ref (q 0)), (1, .int v1), (2, .int v2)]) C dL_fits_40 (by decide) rfl ?_
      refine tw_iconst (v := 0) C dL_fits_42 (by decide) ?_
      refine tw_istore (lv' := [(7, .int 0), (6, .int 0), (5, .int 0), (4, .int 0), (3, .int 0), (0, .ref (q 0)), (1, .int v1), (2, .int v2)]) C dL_fits_43 (by decide) rfl ?_
      refine tw_sub [5, 6, 7, 4, 3, 2, 1, 0] rfl ?_
      exact m_L_fits_L45 C hE twN v1 v2 0 0 0 0 0 y3.2 hf
    · have hf := tw_neg hf c4
      refine tw_aload_n C dL_fits_25 3 rfl rfl ?_
      obtain ⟨y5, hc5, hf⟩ := tw_bd hf
      refine tw_cVi (As := []) (stk := []) C (c_X7_flow l dC dI cI cZ q hc5) (cwV 0 C.hts gL_fits_X7_flow rfl rfl rfl hd_X7_flow ⟨Nat.le_of_ble_eq_true rfl, Nat.le_of_ble_eq_true rfl⟩) 0 (ci := 7) rfl rfl rfl rfl rfl (Nat.le_of_ble_eq_true rfl) dL_fits_26 ⟨Nat.zero_le _, Nat.zero_le _⟩ ?_
      refine tw_sipush (v := 9000) C dL_fits_29 (by decide) ?_
      refine tw_icmp_gt (tgt := 39) C dL_fits_32 (by decide) (fun c6 => ?_) (fun c6 => ?_)
      · have hf := tw_pos hf c6
        refine tw_iconst (v := 0) C dL_fits_39 (by decide) ?_
        refine tw_istore (lv' := [(6, .int 0), (5, .int 0), (4, .int 0), (3, .int 0), (0, .ref (q 0)), (1, .int v1), (2, .int v2)]) C dL_fits_40 (by decide) rfl ?_
        refine tw_iconst (v := 0) C dL_fits_42 (by decide) ?_
        refine tw_istore (lv' := [(7, .int 0), (6, .int 0), (5, .int 0), (4, .int 0), (3, .int 0), (0, .ref (q 0)), (1, .int v1), (2, .int v2)]) C dL_fits_43 (by decide) rfl ?_
        refine tw_sub [5, 6, 7, 4, 3, 2, 1, 0] rfl ?_
        exact m_L_fits_L45 C hE twN v1 v2 0 0 0 0 0 y5.2 hf
      · have hf := tw_neg hf c6
        refine tw_iconst (v := 1) C dL_fits_35 (by decide) ?_
        refine tw_goto (tgt := 40) C dL_fits_36 (by decide) ?_
        refine tw_istore (lv' := [(6, .int 1), (5, .int 0), (4, .int 0), (3, .int 0), (0, .ref (q 0)), (1, .int v1), (2, .int v2)]) C dL_fits_40 (by decide) rfl ?_
        refine tw_iconst (v := 0) C dL_fits_42 (by decide) ?_
        refine tw_istore (lv' := [(7, .int 0), (6, .int 1), (5, .int 0), (4, .int 0), (3, .int 0), (0, .ref (q 0)), (1, .int v1), (2, .int v2)]) C dL_fits_43 (by decide) rfl ?_
        refine tw_sub [5, 6, 7, 4, 3, 2, 1, 0] rfl ?_
        exact m_L_fits_L45 C hE twN v1 v2 0 0 0 1 0 y5.2 hf
end
