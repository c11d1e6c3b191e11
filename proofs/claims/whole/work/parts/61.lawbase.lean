/-! ===== the law's own rows ===== -/
def twLW (cI cZ cJ : ClassId) (q r : Nat → Nat) (o : Nat) (a b : twS) (w : Nat → Int64) : va_W := twT cI cZ q a ++ (twM cI cZ r b ++ [(o, .inl (cJ, 1, .inr (.inl w)))])
theorem tw_ar {args : Array Value} {s : State} {ty : FieldType} (hty : ty = .int ∨ ty = .boolean ∨ ty = .long) (h : (Cond.arrayClass ty).before args s = true) : ∃ cA : ClassId, ArrOfT s cA ty ∧ va_RA s cA ty := by
  obtain ⟨cA, kA, comp, h1, h2, h3⟩ := Cond.arrayClass_spec h
  refine ⟨cA, fun n z => ⟨fun k h => (by cases h), kA, h2, comp, h3⟩, ?_⟩
  rcases hty with rfl | rfl | rfl <;> exact h1
section TWL
variable {p : Program} {l : Launch} {e : Env} {R : Room} {s : State} {m : MethodId} {args : Array Value} {below : List Frame} {meth : Method} {c : Code} {nc ns : Nat} {Q : State → Prop} {D : va_G} {A : Nat → Prop} {nL : Nat} {cc : ByteArray} {own : String} {ts : List Cond} {tys tyc : List (ClassId × FieldType)}
variable {ws ws' Wc Wr Wc' : va_W} {pc : Nat} {lv : List (Nat × Value)} {stk stk0 : List Value} {H H1 : Heap} {locs : List Loc}
theorem tw_lcmp (C : twC p s m args meth c cc nL own ts D tys A) {x y : Int64} (d : decode cc pc = .ok (.lcmp, 1)) (g : twG p l e R s m args below meth c nc ns Q D A nL ws (pc + 1) lv (.int (lg_cmp x y) :: stk)) : twG p l e R s m args below meth c nc ns Q D A nL ws pc lv (.long y :: .long x :: stk) := fun H locs ls hl hP hD hS => W.lcmp C.1 C.2.1 d (g H locs ls hl hP hD hS)
theorem tw_sld (C : twC p s m args meth c cc nL own ts D tys A) {b L : Nat} {xs : Nat → Int32} (hX : va_X b L xs s s.heap) (hbl : b < s.heap.size) (hbA : ¬ A b) {i : Int32} (hb : twb i L = true) (d : decode cc pc = .ok (.iaload, 1)) (g : twG p l e R s m args below meth c nc ns Q D A nL ws (pc + 1) lv (.int (xs i.toNatClampNeg) :: stk)) : twG p l e R s m args below meth c nc ns Q D A nL ws pc lv (.int i :: .ref b :: stk) := fun H locs ls hl hP hD hS => va_sld C.1 C.2.1 hX hbl hbA hS (tw_in hb) d (g H locs ls hl hP hD hS)
theorem tw_slen (C : twC p s m args meth c cc nL own ts D tys A) {b L : Nat} {xs : Nat → Int32} (hX : va_X b L xs s s.heap) (hbl : b < s.heap.size) (hbA : ¬ A b) (d : decode cc pc = .ok (.arraylength, 1)) (g : twG p l e R s m args below meth c nc ns Q D A nL ws (pc + 1) lv (.int (nI L) :: stk)) : twG p l e R s m args below meth c nc ns Q D A nL ws pc lv (.ref b :: stk) := fun H locs ls hl hP hD hS => va_slen C.1 C.2.1 hX hbl hbA hS d (g H locs ls hl hP hD hS)
theorem tw_wS (C : twC p s m args meth c cc nL own ts D tys A) (X0 : twXf A s s.heap) (hNc : twNcs s) {isC isR ix ki : List Nat} (cut : twCut ws Wc Wr Wc' ws' isC isR ix) (hki : ki.filterMap (fun i => tys[i]?) = tyc) {y : MethodName} {wy : List Cond} {rm : Room} {bytes : ByteArray} {maxL index n : Nat} {hh : List (Nat × Nat × Nat × Nat)} {As : List Value} {r : Int32} (hM : twMw l y wy rm D tyc As Wc r Wc') (cw : vx_CSW R s args own index y bytes maxL (some .int) hh wy rm 1 6 n) (hn : As.length = n) (hst : stk0 = As.reverse ++ stk) (hcat : (stk.map fun v => v.category).sum ≤ 8) (d : decode cc pc = .ok (.invokestatic index, 3)) (hroom : nc + 1 ≤ R.cells ∧ ns + 6 ≤ R.slots) (g : twG p l e R s m args below meth c (nc + 1) (ns + 6) Q D A nL ws' (pc + 3) lv (.int r :: stk)) : twG p l e R s m args below meth c nc ns Q D A nL ws pc lv stk0 := by
  intro H locs ls hl hP hD hS
  have hF := va_free hD hS C.hA isC cut.1
  have hst0 : ∀ U : State, U.heap = H → s.WarmedH U.vm → twPreW D tyc As Wc H.size As.toArray U := fun U hU hW =>
    ⟨rfl, by rw [hU], by rw [hU]; exact tw_Psub hP cut.1, va_K.moved hW.alike (C.hK.sub ki hki), (hD.sub isC cut.2.1 cut.1).weaken (fun _ _ _ _ => trivial), C.hN.warm hW, by rw [hU]; exact X0.warm hW hS.2.1 hF, hNc.moved hW.alike⟩
  refine va_calli (vx_runSW (As := As) (rest := stk) C.fix (hM H.size) cw ⟨twPreW.blind, hst0⟩ rfl hn hl.1 hst (lv_room hcat) d hroom) hS (fun q _ h => hF q h) hF (fun r9 u t H1 locs1 ht hvm hw hB hz hk hS1 => ?_)
  obtain ⟨hP1, hK1, hD1⟩ := hB
  rw [ht] at hP1
  obtain ⟨j1, j2⟩ := tw_back cut C hP hD hS hk hP1 hD1
  subst hw
  exact g H1 locs1 ls hl j1 j2 hS1
end TWL
def f_law_0 (rec : Int32 → twS → twS → (Nat → Int64) → Option Int32) (L : Nat) (xs : Nat → Int32) (v4 : Int32) (a b9 : twS) (w : Nat → Int64) : Option Int32 :=
  (if twb (v4 + 1) L = true then (if twb (v4 + 2) L = true then ((g_L_build a w (xs (v4 + 1).toNatClampNeg) (xs (v4 + 2).toNatClampNeg)).bind fun y26 => (if twb (v4 + 1) L = true then (if twb (v4 + 2) L = true then ((f_X8_build b9 (xs (v4 + 1).toNatClampNeg) (xs (v4 + 2).toNatClampNeg)).bind fun y29 => ((f_X8_thrown y29).bind fun y30 => (if y30.1 = y26.1 then
    rec (v4 + 4) y26.2.1 y30.2 y26.2.2
  else
    some 0))) else none) else none)) else none) else none)
def f_law_1 (rec : Int32 → twS → twS → (Nat → Int64) → Option Int32) (L : Nat) (xs : Nat → Int32) (v4 : Int32) (a b9 : twS) (w : Nat → Int64) : Option Int32 :=
  (if twb (v4 + 1) L = true then (if twb (v4 + 2) L = true then ((g_L_people a w (xs (v4 + 1).toNatClampNeg) (xs (v4 + 2).toNatClampNeg)).bind fun y34 => (if twb (v4 + 1) L = true then (if twb (v4 + 2) L = true then ((f_X8_people b9 (xs (v4 + 1).toNatClampNeg) (xs (v4 + 2).toNatClampNeg)).bind fun y37 => ((f_X8_thrown y37.2).bind fun y38 => (if y38.1 = y34.1 then
    (if y34.1 = 0 then
    (if (lg_cmp (y34.2.2 (0 : Int32).toNatClampNeg) y37.1.toInt64) = 0 then
    rec (v4 + 4) y34.2.1 y38.2 y34.2.2
  else
    some 0)
  else
    rec (v4 + 4) y34.2.1 y38.2 y34.2.2)
  else
    some 0))) else none) else none)) else none) else none)
def f_law_2 (rec : Int32 → twS → twS → (Nat → Int64) → Option Int32) (L : Nat) (xs : Nat → Int32) (v4 : Int32) (a b9 : twS) (w : Nat → Int64) : Option Int32 :=
  (if twb (v4 + 1) L = true then ((g_L_wind a w (xs (v4 + 1).toNatClampNeg)).bind fun y43 => (if twb (v4 + 1) L = true then ((f_X8_wind b9 (xs (v4 + 1).toNatClampNeg)).bind fun y45 => ((f_X8_thrown y45.2).bind fun y46 => (if y46.1 = y43.1 then
    (if y43.1 = 0 then
    (if (lg_cmp (y43.2.2 (0 : Int32).toNatClampNeg) y45.1.toInt64) = 0 then
    rec (v4 + 4) y43.2.1 y46.2 y43.2.2
  else
    some 0)
  else
    rec (v4 + 4) y43.2.1 y46.2 y43.2.2)
  else
    some 0))) else none)) else none)
def f_law_3 (rec : Int32 → twS → twS → (Nat → Int64) → Option Int32) (L : Nat) (xs : Nat → Int32) (v4 : Int32) (a b9 : twS) (w : Nat → Int64) : Option Int32 :=
  (if twb (v4 + 1) L = true then (if twb (v4 + 2) L = true then ((g_L_fire a w (xs (v4 + 1).toNatClampNeg) (xs (v4 + 2).toNatClampNeg)).bind fun y52 => (if twb (v4 + 1) L = true then (if twb (v4 + 2) L = true then ((f_X8_fire b9 (xs (v4 + 1).toNatClampNeg) (xs (v4 + 2).toNatClampNeg)).bind fun y55 => ((f_X8_thrown y55).bind fun y56 => (if y56.1 = y52.1 then
    rec (v4 + 4) y52.2.1 y56.2 y52.2.2
  else
    some 0))) else none) else none)) else none) else none)
def f_law_4 (rec : Int32 → twS → twS → (Nat → Int64) → Option Int32) (L : Nat) (xs : Nat → Int32) (v4 : Int32) (a b9 : twS) (w : Nat → Int64) : Option Int32 :=
  (if twb (v4 + 1) L = true then (if twb (v4 + 2) L = true then (if (xs (v4 + 2).toNatClampNeg) = 0 then
    ((g_L_feed a w (xs (v4 + 1).toNatClampNeg) 0).bind fun y61 => (if twb (v4 + 1) L = true then (if twb (v4 + 2) L = true then (if (xs (v4 + 2).toNatClampNeg) = 0 then
    ((f_X8_feed b9 (xs (v4 + 1).toNatClampNeg) 0).bind fun y65 => ((f_X8_thrown y65.2).bind fun y66 => (if y66.1 = y61.1 then
    (if y61.1 = 0 then
    (if y65.1 = 0 then
    (if (lg_cmp (y61.2.2 (0 : Int32).toNatClampNeg) 0) = 0 then
    rec (v4 + 4) y61.2.1 y66.2 y61.2.2
  else
    some 0)
  else
    (if (lg_cmp (y61.2.2 (0 : Int32).toNatClampNeg) 1) = 0 then
    rec (v4 + 4) y61.2.1 y66.2 y61.2.2
  else
    some 0))
  else
    rec (v4 + 4) y61.2.1 y66.2 y61.2.2)
  else
    some 0)))
  else
    ((f_X8_feed b9 (xs (v4 + 1).toNatClampNeg) 1).bind fun y72 => ((f_X8_thrown y72.2).bind fun y73 => (if y73.1 = y61.1 then
    (if y61.1 = 0 then
    (if y72.1 = 0 then
    (if (lg_cmp (y61.2.2 (0 : Int32).toNatClampNeg) 0) = 0 then
    rec (v4 + 4) y61.2.1 y73.2 y61.2.2
  else
    some 0)
  else
    (if (lg_cmp (y61.2.2 (0 : Int32).toNatClampNeg) 1) = 0 then
    rec (v4 + 4) y61.2.1 y73.2 y61.2.2
  else
    some 0))
  else
    rec (v4 + 4) y61.2.1 y73.2 y61.2.2)
  else
    some 0)))) else none) else none))
  else
    ((g_L_feed a w (xs (v4 + 1).toNatClampNeg) 1).bind fun y79 => (if twb (v4 + 1) L = true then (if twb (v4 + 2) L = true then (if (xs (v4 + 2).toNatClampNeg) = 0 then
    ((f_X8_feed b9 (xs (v4 + 1).toNatClampNeg) 0).bind fun y83 => ((f_X8_thrown y83.2).bind fun y84 => (if y84.1 = y79.1 then
    (if y79.1 = 0 then
    (if y83.1 = 0 then
    (if (lg_cmp (y79.2.2 (0 : Int32).toNatClampNeg) 0) = 0 then
    rec (v4 + 4) y79.2.1 y84.2 y79.2.2
  else
    some 0)
  else
    (if (lg_cmp (y79.2.2 (0 : Int32).toNatClampNeg) 1) = 0 then
    rec (v4 + 4) y79.2.1 y84.2 y79.2.2
  else
    some 0))
  else
    rec (v4 + 4) y79.2.1 y84.2 y79.2.2)
  else
    some 0)))
  else
    ((f_X8_feed b9 (xs (v4 + 1).toNatClampNeg) 1).bind fun y90 => ((f_X8_thrown y90.2).bind fun y91 => (if y91.1 = y79.1 then
    (if y79.1 = 0 then
    (if y90.1 = 0 then
    (if (lg_cmp (y79.2.2 (0 : Int32).toNatClampNeg) 0) = 0 then
    rec (v4 + 4) y79.2.1 y91.2 y79.2.2
  else
    some 0)
  else
    (if (lg_cmp (y79.2.2 (0 : Int32).toNatClampNeg) 1) = 0 then
    rec (v4 + 4) y79.2.1 y91.2 y79.2.2
  else
    some 0))
  else
    rec (v4 + 4) y79.2.1 y91.2 y79.2.2)
  else
    some 0)))) else none) else none))) else none) else none)
def f_law_5 (rec : Int32 → twS → twS → (Nat → Int64) → Option Int32) (L : Nat) (xs : Nat → Int32) (v4 : Int32) (a b9 : twS) (w : Nat → Int64) : Option Int32 :=
  (if twb (v4 + 1) L = true then (if twb (v4 + 2) L = true then (if (xs (v4 + 2).toNatClampNeg) = 0 then
    ((g_L_failFan a w (xs (v4 + 1).toNatClampNeg) 0).bind fun y100 => (if twb (v4 + 1) L = true then (if twb (v4 + 2) L = true then (if (xs (v4 + 2).toNatClampNeg) = 0 then
    ((f_X8_failFan b9 (xs (v4 + 1).toNatClampNeg) 0).bind fun y104 => ((f_X8_thrown y104.2).bind fun y105 => (if y105.1 = y100.1 then
    (if y100.1 = 0 then
    (if (lg_cmp (y100.2.2 (0 : Int32).toNatClampNeg) y104.1.toInt64) = 0 then
    rec (v4 + 4) y100.2.1 y105.2 y100.2.2
  else
    some 0)
  else
    rec (v4 + 4) y100.2.1 y105.2 y100.2.2)
  else
    some 0)))
  else
    ((f_X8_failFan b9 (xs (v4 + 1).toNatClampNeg) 1).bind fun y109 => ((f_X8_thrown y109.2).bind fun y110 => (if y110.1 = y100.1 then
    (if y100.1 = 0 then
    (if (lg_cmp (y100.2.2 (0 : Int32).toNatClampNeg) y109.1.toInt64) = 0 then
    rec (v4 + 4) y100.2.1 y110.2 y100.2.2
  else
    some 0)
  else
    rec (v4 + 4) y100.2.1 y110.2 y100.2.2)
  else
    some 0)))) else none) else none))
  else
    ((g_L_failFan a w (xs (v4 + 1).toNatClampNeg) 1).bind fun y114 => (if twb (v4 + 1) L = true then (if twb (v4 + 2) L = true then (if (xs (v4 + 2).toNatClampNeg) = 0 then
    ((f_X8_failFan b9 (xs (v4 + 1).toNatClampNeg) 0).bind fun y118 => ((f_X8_thrown y118.2).bind fun y119 => (if y119.1 = y114.1 then
    (if y114.1 = 0 then
    (if (lg_cmp (y114.2.2 (0 : Int32).toNatClampNeg) y118.1.toInt64) = 0 then
    rec (v4 + 4) y114.2.1 y119.2 y114.2.2
  else
    some 0)
  else
    rec (v4 + 4) y114.2.1 y119.2 y114.2.2)
  else
    some 0)))
  else
    ((f_X8_failFan b9 (xs (v4 + 1).toNatClampNeg) 1).bind fun y123 => ((f_X8_thrown y123.2).bind fun y124 => (if y124.1 = y114.1 then
    (if y114.1 = 0 then
    (if (lg_cmp (y114.2.2 (0 : Int32).toNatClampNeg) y123.1.toInt64) = 0 then
    rec (v4 + 4) y114.2.1 y124.2 y114.2.2
  else
    some 0)
  else
    rec (v4 + 4) y114.2.1 y124.2 y114.2.2)
  else
    some 0)))) else none) else none))) else none) else none)
def f_law_6 (rec : Int32 → twS → twS → (Nat → Int64) → Option Int32) (L : Nat) (xs : Nat → Int32) (v4 : Int32) (a b9 : twS) (w : Nat → Int64) : Option Int32 :=
  (if twb (v4 + 1) L = true then (if twb (v4 + 2) L = true then (if (xs (v4 + 2).toNatClampNeg) = 0 then
    ((g_L_failDoor a w (xs (v4 + 1).toNatClampNeg) 0).bind fun y131 => (if twb (v4 + 1) L = true then (if twb (v4 + 2) L = true then (if (xs (v4 + 2).toNatClampNeg) = 0 then
    ((f_X8_failDoor b9 (xs (v4 + 1).toNatClampNeg) 0).bind fun y135 => ((f_X8_thrown y135.2).bind fun y136 => (if y136.1 = y131.1 then
    (if y131.1 = 0 then
    (if y135.1 = 0 then
    (if (lg_cmp (y131.2.2 (0 : Int32).toNatClampNeg) 0) = 0 then
    rec (v4 + 4) y131.2.1 y136.2 y131.2.2
  else
    some 0)
  else
    (if (lg_cmp (y131.2.2 (0 : Int32).toNatClampNeg) 1) = 0 then
    rec (v4 + 4) y131.2.1 y136.2 y131.2.2
  else
    some 0))
  else
    rec (v4 + 4) y131.2.1 y136.2 y131.2.2)
  else
    some 0)))
  else
    ((f_X8_failDoor b9 (xs (v4 + 1).toNatClampNeg) 1).bind fun y142 => ((f_X8_thrown y142.2).bind fun y143 => (if y143.1 = y131.1 then
    (if y131.1 = 0 then
    (if y142.1 = 0 then
    (if (lg_cmp (y131.2.2 (0 : Int32).toNatClampNeg) 0) = 0 then
    rec (v4 + 4) y131.2.1 y143.2 y131.2.2
  else
    some 0)
  else
    (if (lg_cmp (y131.2.2 (0 : Int32).toNatClampNeg) 1) = 0 then
    rec (v4 + 4) y131.2.1 y143.2 y131.2.2
  else
    some 0))
  else
    rec (v4 + 4) y131.2.1 y143.2 y131.2.2)
  else
    some 0)))) else none) else none))
  else
    ((g_L_failDoor a w (xs (v4 + 1).toNatClampNeg) 1).bind fun y149 => (if twb (v4 + 1) L = true then (if twb (v4 + 2) L = true then (if (xs (v4 + 2).toNatClampNeg) = 0 then
    ((f_X8_failDoor b9 (xs (v4 + 1).toNatClampNeg) 0).bind fun y153 => ((f_X8_thrown y153.2).bind fun y154 => (if y154.1 = y149.1 then
    (if y149.1 = 0 then
    (if y153.1 = 0 then
    (if (lg_cmp (y149.2.2 (0 : Int32).toNatClampNeg) 0) = 0 then
    rec (v4 + 4) y149.2.1 y154.2 y149.2.2
  else
    some 0)
  else
    (if (lg_cmp (y149.2.2 (0 : Int32).toNatClampNeg) 1) = 0 then
    rec (v4 + 4) y149.2.1 y154.2 y149.2.2
  else
    some 0))
  else
    rec (v4 + 4) y149.2.1 y154.2 y149.2.2)
  else
    some 0)))
  else
    ((f_X8_failDoor b9 (xs (v4 + 1).toNatClampNeg) 1).bind fun y160 => ((f_X8_thrown y160.2).bind fun y161 => (if y161.1 = y149.1 then
    (if y149.1 = 0 then
    (if y160.1 = 0 then
    (if (lg_cmp (y149.2.2 (0 : Int32).toNatClampNeg) 0) = 0 then
    rec (v4 + 4) y149.2.1 y161.2 y149.2.2
  else
    some 0)
  else
    (if (lg_cmp (y149.2.2 (0 : Int32).toNatClampNeg) 1) = 0 then
    rec (v4 + 4) y149.2.1 y161.2 y149.2.2
  else
    some 0))
  else
    rec (v4 + 4) y149.2.1 y161.2 y149.2.2)
  else
    some 0)))) else none) else none))) else none) else none)
def f_law_7 (rec : Int32 → twS → twS → (Nat → Int64) → Option Int32) (L : Nat) (xs : Nat → Int32) (v4 : Int32) (a b9 : twS) (w : Nat → Int64) : Option Int32 :=
  (if twb (v4 + 1) L = true then (if twb (v4 + 2) L = true then (if twb (v4 + 3) L = true then (if (xs (v4 + 3).toNatClampNeg) = 0 then
    ((g_L_failDetector a w (xs (v4 + 1).toNatClampNeg) (xs (v4 + 2).toNatClampNeg) 0).bind fun y171 => (if twb (v4 + 1) L = true then (if twb (v4 + 2) L = true then (if twb (v4 + 3) L = true then (if (xs (v4 + 3).toNatClampNeg) = 0 then
    ((f_X8_failDetector b9 (xs (v4 + 1).toNatClampNeg) (xs (v4 + 2).toNatClampNeg) 0).bind fun y176 => ((f_X8_thrown y176).bind fun y177 => (if y177.1 = y171.1 then
    rec (v4 + 4) y171.2.1 y177.2 y171.2.2
  else
    some 0)))
  else
    ((f_X8_failDetector b9 (xs (v4 + 1).toNatClampNeg) (xs (v4 + 2).toNatClampNeg) 1).bind fun y179 => ((f_X8_thrown y179).bind fun y180 => (if y180.1 = y171.1 then
    rec (v4 + 4) y171.2.1 y180.2 y171.2.2
  else
    some 0)))) else none) else none) else none))
  else
    ((g_L_failDetector a w (xs (v4 + 1).toNatClampNeg) (xs (v4 + 2).toNatClampNeg) 1).bind fun y182 => (if twb (v4 + 1) L = true then (if twb (v4 + 2) L = true then (if twb (v4 + 3) L = true then (if (xs (v4 + 3).toNatClampNeg) = 0 then
    ((f_X8_failDetector b9 (xs (v4 + 1).toNatClampNeg) (xs (v4 + 2).toNatClampNeg) 0).bind fun y187 => ((f_X8_thrown y187).bind fun y188 => (if y188.1 = y182.1 then
    rec (v4 + 4) y182.2.1 y188.2 y182.2.2
  else
    some 0)))
  else
    ((f_X8_failDetector b9 (xs (v4 + 1).toNatClampNeg) (xs (v4 + 2).toNatClampNeg) 1).bind fun y190 => ((f_X8_thrown y190).bind fun y191 => (if y191.1 = y182.1 then
    rec (v4 + 4) y182.2.1 y191.2 y182.2.2
  else
    some 0)))) else none) else none) else none))) else none) else none) else none)
def f_law_8 (rec : Int32 → twS → twS → (Nat → Int64) → Option Int32) (L : Nat) (xs : Nat → Int32) (v4 : Int32) (a b9 : twS) (w : Nat → Int64) : Option Int32 :=
  (if twb (v4 + 1) L = true then (if twb (v4 + 2) L = true then (if twb (v4 + 3) L = true then (if (xs (v4 + 3).toNatClampNeg) = 0 then
    ((g_L_act a w (xs (v4 + 1).toNatClampNeg) (xs (v4 + 2).toNatClampNeg) 0).bind fun y197 => (if twb (v4 + 1) L = true then (if twb (v4 + 2) L = true then (if twb (v4 + 3) L = true then (if (xs (v4 + 3).toNatClampNeg) = 0 then
    ((f_X8_act b9 (xs (v4 + 1).toNatClampNeg) (xs (v4 + 2).toNatClampNeg) 0).bind fun y202 => ((f_X8_thrown y202.2).bind fun y203 => (if y203.1 = y197.1 then
    (if y197.1 = 0 then
    (if (lg_cmp (y197.2.2 (0 : Int32).toNatClampNeg) y202.1.toInt64) = 0 then
    rec (v4 + 4) y197.2.1 y203.2 y197.2.2
  else
    some 0)
  else
    rec (v4 + 4) y197.2.1 y203.2 y197.2.2)
  else
    some 0)))
  else
    ((f_X8_act b9 (xs (v4 + 1).toNatClampNeg) (xs (v4 + 2).toNatClampNeg) 1).bind fun y207 => ((f_X8_thrown y207.2).bind fun y208 => (if y208.1 = y197.1 then
    (if y197.1 = 0 then
    (if (lg_cmp (y197.2.2 (0 : Int32).toNatClampNeg) y207.1.toInt64) = 0 then
    rec (v4 + 4) y197.2.1 y208.2 y197.2.2
  else
    some 0)
  else
    rec (v4 + 4) y197.2.1 y208.2 y197.2.2)
  else
    some 0)))) else none) else none) else none))
  else
    ((g_L_act a w (xs (v4 + 1).toNatClampNeg) (xs (v4 + 2).toNatClampNeg) 1).bind fun y212 => (if twb (v4 + 1) L = true then (if twb (v4 + 2) L = true then (if twb (v4 + 3) L = true then (if (xs (v4 + 3).toNatClampNeg) = 0 then
    ((f_X8_act b9 (xs (v4 + 1).toNatClampNeg) (xs (v4 + 2).toNatClampNeg) 0).bind fun y217 => ((f_X8_thrown y217.2).bind fun y218 => (if y218.1 = y212.1 then
    (if y212.1 = 0 then
    (if (lg_cmp (y212.2.2 (0 : Int32).toNatClampNeg) y217.1.toInt64) = 0 then
    rec (v4 + 4) y212.2.1 y218.2 y212.2.2
  else
    some 0)
  else
    rec (v4 + 4) y212.2.1 y218.2 y212.2.2)
  else
    some 0)))
  else
    ((f_X8_act b9 (xs (v4 + 1).toNatClampNeg) (xs (v4 + 2).toNatClampNeg) 1).bind fun y222 => ((f_X8_thrown y222.2).bind fun y223 => (if y223.1 = y212.1 then
    (if y212.1 = 0 then
    (if (lg_cmp (y212.2.2 (0 : Int32).toNatClampNeg) y222.1.toInt64) = 0 then
    rec (v4 + 4) y212.2.1 y223.2 y212.2.2
  else
    some 0)
  else
    rec (v4 + 4) y212.2.1 y223.2 y212.2.2)
  else
    some 0)))) else none) else none) else none))) else none) else none) else none)
def f_law_9 (rec : Int32 → twS → twS → (Nat → Int64) → Option Int32) (L : Nat) (xs : Nat → Int32) (v4 : Int32) (a b9 : twS) (w : Nat → Int64) : Option Int32 :=
  (if twb (v4 + 1) L = true then (if twb (v4 + 2) L = true then ((g_L_command a w (xs (v4 + 1).toNatClampNeg) (xs (v4 + 2).toNatClampNeg)).bind fun y229 => (if twb (v4 + 1) L = true then (if twb (v4 + 2) L = true then ((f_X8_command b9 (xs (v4 + 1).toNatClampNeg) (xs (v4 + 2).toNatClampNeg)).bind fun y232 => ((f_X8_thrown y232.2).bind fun y233 => (if y233.1 = y229.1 then
    (if y229.1 = 0 then
    (if (lg_cmp (y229.2.2 (0 : Int32).toNatClampNeg) y232.1.toInt64) = 0 then
    rec (v4 + 4) y229.2.1 y233.2 y229.2.2
  else
    some 0)
  else
    rec (v4 + 4) y229.2.1 y233.2 y229.2.2)
  else
    some 0))) else none) else none)) else none) else none)
def f_law_10 (rec : Int32 → twS → twS → (Nat → Int64) → Option Int32) (L : Nat) (xs : Nat → Int32) (v4 : Int32) (a b9 : twS) (w : Nat → Int64) : Option Int32 :=
  (if twb (v4 + 1) L = true then ((g_L_step a w (xs (v4 + 1).toNatClampNeg)).bind fun y238 => (if twb (v4 + 1) L = true then ((f_X8_step b9 (xs (v4 + 1).toNatClampNeg)).bind fun y240 => ((f_X8_thrown y240.2).bind fun y241 => (if y241.1 = y238.1 then
    (if y238.1 = 0 then
    (if (lg_cmp (y238.2.2 (0 : Int32).toNatClampNeg) y240.1.toInt64) = 0 then
    rec (v4 + 4) y238.2.1 y241.2 y238.2.2
  else
    some 0)
  else
    rec (v4 + 4) y238.2.1 y241.2 y238.2.2)
  else
    some 0))) else none)) else none)
def f_law_11 (rec : Int32 → twS → twS → (Nat → Int64) → Option Int32) (L : Nat) (xs : Nat → Int32) (v4 : Int32) (a b9 : twS) (w : Nat → Int64) : Option Int32 :=
  (if twb (v4 + 1) L = true then (if twb (v4 + 2) L = true then ((g_L_segment a w (xs (v4 + 1).toNatClampNeg) (xs (v4 + 2).toNatClampNeg)).bind fun y247 => (if twb (v4 + 1) L = true then (if twb (v4 + 2) L = true then ((f_X8_segment b9 (xs (v4 + 1).toNatClampNeg) (xs (v4 + 2).toNatClampNeg)).bind fun y250 => ((f_X8_thrown y250.2).bind fun y251 => (if y251.1 = y247.1 then
    (if y247.1 = 0 then
    (if (lg_cmp (y247.2.2 (0 : Int32).toNatClampNeg) y250.1.toInt64) = 0 then
    rec (v4 + 4) y247.2.1 y251.2 y247.2.2
  else
    some 0)
  else
    rec (v4 + 4) y247.2.1 y251.2 y247.2.2)
  else
    some 0))) else none) else none)) else none) else none)
def f_law_12 (rec : Int32 → twS → twS → (Nat → Int64) → Option Int32) (L : Nat) (xs : Nat → Int32) (v4 : Int32) (a b9 : twS) (w : Nat → Int64) : Option Int32 :=
  ((f_X7_flow a).bind fun y255 => ((f_X8_flow b9).bind fun y256 => (if y255.1 = y256.1 then
    rec (v4 + 4) y255.2 y256.2 w
  else
    some 0)))
def f_law_13 (rec : Int32 → twS → twS → (Nat → Int64) → Option Int32) (L : Nat) (xs : Nat → Int32) (v4 : Int32) (a b9 : twS) (w : Nat → Int64) : Option Int32 :=
  (if twb (v4 + 1) L = true then ((g_L_fan a w (xs (v4 + 1).toNatClampNeg)).bind fun y259 => (if twb (v4 + 1) L = true then ((f_X8_fan b9 (xs (v4 + 1).toNatClampNeg)).bind fun y261 => ((f_X8_thrown y261.2).bind fun y262 => (if y262.1 = y259.1 then
    (if y259.1 = 0 then
    (if (lg_cmp (y259.2.2 (0 : Int32).toNatClampNeg) y261.1.toInt64) = 0 then
    rec (v4 + 4) y259.2.1 y262.2 y259.2.2
  else
    some 0)
  else
    rec (v4 + 4) y259.2.1 y262.2 y259.2.2)
  else
    some 0))) else none)) else none)
def f_law_14 (rec : Int32 → twS → twS → (Nat → Int64) → Option Int32) (L : Nat) (xs : Nat → Int32) (v4 : Int32) (a b9 : twS) (w : Nat → Int64) : Option Int32 :=
  ((f_X7_alarm a).bind fun y266 => ((f_X8_alarm b9).bind fun y267 => (if y266.1 = y267.1 then
    rec (v4 + 4) y266.2 y267.2 w
  else
    some 0)))
def f_law_15 (rec : Int32 → twS → twS → (Nat → Int64) → Option Int32) (L : Nat) (xs : Nat → Int32) (v4 : Int32) (a b9 : twS) (w : Nat → Int64) : Option Int32 :=
  (if twb (v4 + 1) L = true then ((g_L_done a w (xs (v4 + 1).toNatClampNeg)).bind fun y270 => (if twb (v4 + 1) L = true then ((f_X8_done b9 (xs (v4 + 1).toNatClampNeg)).bind fun y272 => ((f_X8_thrown y272.2).bind fun y273 => (if y273.1 = y270.1 then
    (if y270.1 = 0 then
    (if (lg_cmp (y270.2.2 (0 : Int32).toNatClampNeg) y272.1.toInt64) = 0 then
    rec (v4 + 4) y270.2.1 y273.2 y270.2.2
  else
    some 0)
  else
    rec (v4 + 4) y270.2.1 y273.2 y270.2.2)
  else
    some 0))) else none)) else none)
def f_law_16 (rec : Int32 → twS → twS → (Nat → Int64) → Option Int32) (L : Nat) (xs : Nat → Int32) (v4 : Int32) (a b9 : twS) (w : Nat → Int64) : Option Int32 :=
  (if twb (v4 + 1) L = true then (if twb (v4 + 2) L = true then ((g_L_person a w (xs (v4 + 1).toNatClampNeg) (xs (v4 + 2).toNatClampNeg)).bind fun y279 => (if twb (v4 + 1) L = true then (if twb (v4 + 2) L = true then ((f_X8_person b9 (xs (v4 + 1).toNatClampNeg) (xs (v4 + 2).toNatClampNeg)).bind fun y282 => ((f_X8_thrown y282.2).bind fun y283 => (if y283.1 = y279.1 then
    (if y279.1 = 0 then
    (if (lg_cmp (y279.2.2 (0 : Int32).toNatClampNeg) y282.1.toInt64) = 0 then
    rec (v4 + 4) y279.2.1 y283.2 y279.2.2
  else
    some 0)
  else
    rec (v4 + 4) y279.2.1 y283.2 y279.2.2)
  else
    some 0))) else none) else none)) else none) else none)
def f_law_17 (rec : Int32 → twS → twS → (Nat → Int64) → Option Int32) (L : Nat) (xs : Nat → Int32) (v4 : Int32) (a b9 : twS) (w : Nat → Int64) : Option Int32 :=
  (if twb (v4 + 1) L = true then ((g_L_count a w (xs (v4 + 1).toNatClampNeg)).bind fun y288 => (if twb (v4 + 1) L = true then ((f_X8_count b9 (xs (v4 + 1).toNatClampNeg)).bind fun y290 => ((f_X8_thrown y290.2).bind fun y291 => (if y291.1 = y288.1 then
    (if y288.1 = 0 then
    (if (lg_cmp (y288.2.2 (0 : Int32).toNatClampNeg) y290.1.toInt64) = 0 then
    rec (v4 + 4) y288.2.1 y291.2 y288.2.2
  else
    some 0)
  else
    rec (v4 + 4) y288.2.1 y291.2 y288.2.2)
  else
    some 0))) else none)) else none)
def f_law_18 (rec : Int32 → twS → twS → (Nat → Int64) → Option Int32) (L : Nat) (xs : Nat → Int32) (v4 : Int32) (a b9 : twS) (w : Nat → Int64) : Option Int32 :=
  ((f_X7_gone a).bind fun y295 => ((f_X8_gone b9).bind fun y296 => (if y295.1 = y296.1 then
    rec (v4 + 4) y295.2 y296.2 w
  else
    some 0)))
def f_law_19 (rec : Int32 → twS → twS → (Nat → Int64) → Option Int32) (L : Nat) (xs : Nat → Int32) (v4 : Int32) (a b9 : twS) (w : Nat → Int64) : Option Int32 :=
  ((f_X7_balances a).bind fun y298 => ((f_X8_balances b9).bind fun y299 => (if y298.1 = y299.1 then
    rec (v4 + 4) y298.2 y299.2 w
  else
    some 0)))
def f_law_b (rec : Int32 → twS → twS → (Nat → Int64) → Option Int32) (L : Nat) (xs : Nat → Int32) (v4 : Int32) (a b9 : twS) (w : Nat → Int64) : Option Int32 :=
  (if ((nI L) - 4) < v4 then
    some 1
  else
    (if twb v4 L = true then (if ((xs v4.toNatClampNeg) &&& 31) = 0 then
    f_law_0 rec L xs v4 a b9 w
  else
    (if ((xs v4.toNatClampNeg) &&& 31) = 1 then
    f_law_1 rec L xs v4 a b9 w
  else
    (if ((xs v4.toNatClampNeg) &&& 31) = 2 then
    f_law_2 rec L xs v4 a b9 w
  else
    (if ((xs v4.toNatClampNeg) &&& 31) = 3 then
    f_law_3 rec L xs v4 a b9 w
  else
    (if ((xs v4.toNatClampNeg) &&& 31) = 4 then
    f_law_4 rec L xs v4 a b9 w
  else
    (if ((xs v4.toNatClampNeg) &&& 31) = 5 then
    f_law_5 rec L xs v4 a b9 w
  else
    (if ((xs v4.toNatClampNeg) &&& 31) = 6 then
    f_law_6 rec L xs v4 a b9 w
  else
    (if ((xs v4.toNatClampNeg) &&& 31) = 7 then
    f_law_7 rec L xs v4 a b9 w
  else
    (if ((xs v4.toNatClampNeg) &&& 31) = 8 then
    f_law_8 rec L xs v4 a b9 w
  else
    (if ((xs v4.toNatClampNeg) &&& 31) = 9 then
    f_law_9 rec L xs v4 a b9 w
  else
    (if ((xs v4.toNatClampNeg) &&& 31) = 10 then
    f_law_10 rec L xs v4 a b9 w
  else
    (if ((xs v4.toNatClampNeg) &&& 31) = 11 then
    f_law_11 rec L xs v4 a b9 w
  else
    (if ((xs v4.toNatClampNeg) &&& 31) = 12 then
    f_law_12 rec L xs v4 a b9 w
  else
    (if ((xs v4.toNatClampNeg) &&& 31) = 13 then
    f_law_13 rec L xs v4 a b9 w
  else
    (if ((xs v4.toNatClampNeg) &&& 31) = 14 then
    f_law_14 rec L xs v4 a b9 w
  else
    (if ((xs v4.toNatClampNeg) &&& 31) = 15 then
    f_law_15 rec L xs v4 a b9 w
  else
    (if ((xs v4.toNatClampNeg) &&& 31) = 16 then
    f_law_16 rec L xs v4 a b9 w
  else
    (if ((xs v4.toNatClampNeg) &&& 31) = 17 then
    f_law_17 rec L xs v4 a b9 w
  else
    (if ((xs v4.toNatClampNeg) &&& 31) = 18 then
    f_law_18 rec L xs v4 a b9 w
  else
    (if ((xs v4.toNatClampNeg) &&& 31) = 19 then
    f_law_19 rec L xs v4 a b9 w
  else
    rec (v4 + 4) a b9 w)))))))))))))))))))) else none))
def f_law (L : Nat) (xs : Nat → Int32) : Nat → Int32 → twS → twS → (Nat → Int64) → Option Int32
  | 0 => fun _ _ _ _ => none
  | n + 1 => fun v4 a b9 w => f_law_b (f_law L xs n) L xs v4 a b9 w
