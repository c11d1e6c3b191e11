/-! ===== the pure side: build, people, act, step ===== -/
theorem tp_place (a : twS) (v : Int32) : ∃ y, f_X4_place a v = some y ∧ (∀ m, m < 12 → y.2.1 16 m = bitI v m ∧ y.2.1 17 m = 0 ∧ y.2.1 18 m = 0) ∧ y.1 = a.1 ∧ (∀ j, j ≠ 16 → j ≠ 17 → j ≠ 18 → y.2.1 j = a.2.1 j) ∧ y.2.2 = a.2.2 := by
  unfold f_X4_place
  obtain ⟨y, h1, ⟨h2, h3, h4, h5⟩⟩ := tp_loopE (fun n k y => f_X4_place_L2 n v (nI k) y) 12
    (fun k y => (∀ m, m < k → y.2.1 16 m = bitI v m ∧ y.2.1 17 m = 0 ∧ y.2.1 18 m = 0) ∧ y.1 = a.1 ∧ (∀ j, j ≠ 16 → j ≠ 17 → j ≠ 18 → y.2.1 j = a.2.1 j) ∧ y.2.2 = a.2.2) some
    (by
      intro k y hk ⟨p1, p2, p3, p4⟩
      have hb := tp_b (n := 12) hk (by decide)
      have hc : (nI k).toNatClampNeg = k := tp_c (by omega)
      have h12 : ¬ (12 : Int32) ≤ nI k := nI_ge (a := k) (b := 12) hk (by decide)
      refine ⟨twA (twA (twA y 16 (nI k) (bitI v k)) 17 (nI k) 0) 18 (nI k) 0, fun n => ?_, fun m hm => ?_, p2, fun j q1 q2 q3 => ?_, p4⟩
      · show f_X4_place_L2b (f_X4_place_L2 n) v (nI k) y = _
        unfold f_X4_place_L2b f_X4_place_L27
        rw [if_neg h12, if_pos hb, if_pos hb, if_pos hb, tp_n0, tp_s, if_pos hb, if_pos hb, if_pos hb, tp_n1]
        show (if bitI v k = 1 then _ else _) = _
        rcases bit01 v hk with q | q
        · rw [q, if_neg (by decide)]
        · rw [q, if_pos rfl]
      · rw [tp_ab _ 18 _ _ (show 16 ≠ 18 by decide), tp_ab _ 17 _ _ (show 16 ≠ 17 by decide), tp_aa, tp_ab _ 18 _ _ (show 17 ≠ 18 by decide), tp_aa, tp_aa, hc]
        by_cases e : m = k
        · rw [if_pos e, if_pos e, if_pos e, e]
          exact ⟨rfl, rfl, rfl⟩
        · rw [if_neg e, if_neg e, if_neg e]
          exact p1 m (by omega)
      · rw [tp_ab _ _ _ _ q3, tp_ab _ _ _ _ q2, tp_ab _ _ _ _ q1]
        exact p3 j q1 q2 q3)
    (by
      intro n y _
      show f_X4_place_L2b (f_X4_place_L2 n) v (nI 12) y = _
      unfold f_X4_place_L2b
      rw [if_pos (by decide)])
    12 0 a twN rfl (by decide) ⟨fun m hm => absurd hm (Nat.not_lt_zero m), rfl, fun _ _ _ _ => rfl, rfl⟩
  exact ⟨y, h1, h2, h3, h4, h5⟩
theorem q_build {t : Nat} (ht : t < 2 ^ 30) {a b : twS} {g : Int32} (h : twR t (t, g) a b) (w : Nat → Int64) (v1 v2 : Int32) : kV t a b w (h_L_build a w v1 v2) (f_X8_build b v1 v2) := by
  have h0 := h
  obtain ⟨hfan, hflow, hfire, ⟨s1, s2, s3, s4, s5⟩, hdet, hdoor, hchart, hcrowd, hs1, hs2⟩ := h
  unfold h_L_build f_X7_build f_X8_build
  rcases ix_or v2 (n := 12) (by decide) with c | ⟨j, hj, rfl⟩
  · left
    refine ⟨1, one0, ?_, ?_⟩
    · rw [rs_n a c]
      simp only [Option.bind_some, twTry]
      rfl
    · rw [sg_n b c]
      simp only [Option.bind_some]
      unfold f_X8_build_L25
      by_cases c2 : v1 < 0 ∨ (4095 : Int32) < v1
      · rw [bt_n b c2]
        simp only [Option.bind_some, go1]
        split <;> rfl
      · rw [bt_y b c2]
        simp only [Option.bind_some, go1]
        split <;> rfl
  · rw [rs_y a hj, tp_segM b hj]
    simp only [Option.bind_some, twTry]
    by_cases c2 : v1 < 0 ∨ (4095 : Int32) < v1
    · left
      rw [rr_n a c2, bt_n b c2]
      unfold f_X8_build_L25
      simp only [Option.bind_some, go2 b _ one0]
      refine ⟨2, two0, ?_, ?_⟩
      · rw [if_neg e21]
        rfl
      · split <;> rfl
    · rw [rr_y a c2, bt_y b c2]
      unfold f_X7_build_L24 f_X8_build_L25
      simp only [Option.bind_some]
      by_cases c3 : t = 0
      · right
        rw [hs1, hs2, if_pos (show nI t = 0 by rw [c3]; rfl), if_pos (show nI t = 0 by rw [c3]; rfl), go0 b one0 one0 one0, rst1]
        simp only [Option.bind_some]
        rw [if_neg one0]
        simp only [twTry]
        obtain ⟨y, g1, g2, g3, g4, g5⟩ := tp_place a v1
        rw [g1]
        simp only [Option.bind_some]
        refine ⟨twI (twI y 0 (nI j)) 1 0, twI (twI (twI (twI (twI (twI b 36 0) 6 v1) 7 0) 8 0) 9 (nI j)) 10 0, rfl, rfl, rfl, ?_⟩
        unfold twR
        simp only [tp_i1, tp_i2, Nat.reduceEqDiff, if_true, if_false, g3, g5]
        rw [g4 8 (by decide) (by decide) (by decide), g4 9 (by decide) (by decide) (by decide), g4 10 (by decide) (by decide) (by decide), g4 11 (by decide) (by decide) (by decide), g4 12 (by decide) (by decide) (by decide), g4 13 (by decide) (by decide) (by decide), g4 14 (by decide) (by decide) (by decide), g4 19 (by decide) (by decide) (by decide), g4 20 (by decide) (by decide) (by decide), g4 21 (by decide) (by decide) (by decide), g4 22 (by decide) (by decide) (by decide), g4 23 (by decide) (by decide) (by decide), g4 24 (by decide) (by decide) (by decide), g4 25 (by decide) (by decide) (by decide)]
        refine ⟨hfan, hflow, hfire, ⟨s1, s2, rfl, ⟨j, hj, rfl⟩, rfl⟩, ⟨hdet.1, rfl⟩, fun k hk => ?_, hchart, hcrowd, hs1, hs2⟩
        obtain ⟨p1, p2, p3⟩ := g2 k hk
        rw [p1, p2, p3, bit_zero hk]
        exact ⟨rfl, rfl, rfl⟩
      · left
        have hn : ¬ nI t = 0 := nI_ne0 (by omega) (by omega)
        rw [hs1, hs2, if_neg hn, if_neg hn, go3 b one0 one0, rst0]
        simp only [Option.bind_some, twTry]
        refine ⟨3, three0, ?_, rfl⟩
        rw [if_neg e31, if_neg e32]
        rfl
theorem q_step {t : Nat} (ht : t ≤ 59000) {a b : twS} {g : Int32} (h : twR t (t, g) a b) (w : Nat → Int64) (v : Int32) : kI t a b w (h_L_step a w v) (f_X8_step b v) := by
  unfold h_L_step f_X7_step f_X8_step
  by_cases c : v < 1 ∨ (100 : Int32) < v
  · left
    rw [rr_n a c, bt_n b c]
    simp only [Option.bind_some, go1, twTry]
    exact ⟨1, 0, one0, rfl, rfl⟩
  · right
    obtain ⟨n, hn, rfl⟩ : ∃ n, n ≤ 100 ∧ v = nI n := by
      rcases ix_or v (n := 101) (by decide) with q | ⟨z, hz, rfl⟩
      · exfalso
        refine c ?_
        rw [Int32.lt_iff_toInt_lt, Int32.lt_iff_toInt_lt]
        rw [Int32.lt_iff_toInt_lt, Int32.le_iff_toInt_le] at q
        have z1 : (1 : Int32).toInt = 1 := by decide
        have z2 : (100 : Int32).toInt = 100 := by decide
        have z3 : (0 : Int32).toInt = 0 := by decide
        have z4 : (nI 101).toInt = 101 := by decide
        omega
      · exact ⟨z, by omega, rfl⟩
    rw [rr_y a c, bt_y b c]
    simp only [Option.bind_some, twTry]
    rw [go0 b one0 one0 one0]
    simp only [Option.bind_some]
    rw [if_neg one0]
    obtain ⟨r, s, e1, e2, x, y, e3, e4, e6⟩ := tp_loop2 (fun i k x => f_X7_step_L9 i (nI n) (nI k) x) (fun i k y => f_X8_step_L20 i (nI n) (nI k) y) n (fun k x y => twR (t + k) (t + k, 0) x y) (fun r s => ∃ x y, r = .inr (nI (t + n), x) ∧ s = (nI (t + n), y) ∧ twR (t + n) (t + n, 0) x y)
      (by
        intro k x y hk hR
        obtain ⟨x', y', g1, g2, g3⟩ := tp_step (t := t + k) (u := (t + k, 0)) (by omega) (by show t + k ≤ 60000; omega) hR
        have hkp : ¬ nI n ≤ nI k := nI_ge hk (by omega)
        left
        refine ⟨x', y', fun i => ?_, fun i => ?_, g3⟩
        · show f_X7_step_L9b (f_X7_step_L9 i) (nI n) (nI k) x = _
          unfold f_X7_step_L9b
          rw [if_neg hkp, g1, tp_s]
          rfl
        · show f_X8_step_L20b (f_X8_step_L20 i) (nI n) (nI k) y = _
          unfold f_X8_step_L20b
          rw [if_neg hkp, g2, tp_s]
          rfl)
      (by
        intro x y hR
        have hR0 := hR
        obtain ⟨-, -, -, -, -, -, -, -, hs1, hs2⟩ := hR
        refine ⟨.inr (nI (t + n), x), (nI (t + n), y), fun i => ?_, fun i => ?_, x, y, rfl, rfl, hR0⟩
        · show f_X7_step_L9b (f_X7_step_L9 i) (nI n) (nI n) x = _
          unfold f_X7_step_L9b
          rw [if_pos (Int32.le_refl _), hs1]
        · show f_X8_step_L20b (f_X8_step_L20 i) (nI n) (nI n) y = _
          unfold f_X8_step_L20b
          rw [if_pos (Int32.le_refl _), hs2])
      n 0 a (twI b 36 0) twN twN (by omega) (by show n < 2000; omega) (by show n < 2000; omega) (tp_36 h 0)
    subst e3
    subst e4
    refine ⟨nI (t + n), x, y, t + n, ?_, e2, e6.2.2.2.2.1.2, by omega, by omega, e6⟩
    have e1' : f_X7_step_L9 twN (nI n) 0 a = some (.inr (nI (t + n), x)) := e1
    rw [e1']
    rfl
theorem q_act {t : Nat} {a b : twS} {g : Int32} (h : twR t (t, g) a b) (w : Nat → Int64) (v1 v2 : Int32) (k : Int32) : kI t a b w (h_L_act a w v1 v2 k) (f_X8_act b v1 v2 k) := by
  have h0 := h
  obtain ⟨hfan, hflow, hfire, hair, hdet, hdoor, ⟨r1, r2, r3, r4, r5, c, n, r6, r7, r8, r9, r10, r11⟩, hcrowd, hst⟩ := h
  have hB13 : b.1 25 = nI c := by rw [← r3]; exact r8
  unfold h_L_act f_X7_act f_X8_act f_X8_act_L25
  have h26 : ∀ k0 : Int32, f_X8_act_L26 v1 v2 k k0 b = if c < 10 ∧ a.1 3 = -1 then f_X8_act_L48 v1 v2 k 1 k0 b else f_X8_act_L48 v1 v2 k 0 k0 b := fun k0 => by
    unfold f_X8_act_L26 f_X8_act_L47
    rw [hB13, ← r1]
    by_cases c1 : c < 10
    · rw [if_neg (show ¬ (10 : Int32) ≤ nI c from nI_ge (a := c) (b := 10) c1 (by decide))]
      by_cases c2 : a.1 3 = -1
      · rw [if_pos c2, if_pos ⟨c1, c2⟩]
      · rw [if_neg c2, if_neg (fun q => c2 q.2)]
    · rw [if_pos (show (10 : Int32) ≤ nI c from nI_le (a := 10) (b := c) (by omega) (by omega)), if_neg (fun q => c1 q.1)]
  have h48e : ∀ k0 k1 : Int32, k1 = 0 → f_X8_act_L48 v1 v2 k k0 k1 b = some (0, twI b 36 1) := fun k0 k1 e => by
    unfold f_X8_act_L48
    rw [e, go1]
    rfl
  by_cases c1 : v1 < 0 ∨ (7 : Int32) < v1
  · left
    rw [rr_n a c1, bt_n b c1]
    simp only [Option.bind_some, twTry]
    refine ⟨1, 0, one0, rfl, ?_⟩
    rw [if_pos trivial, h26, h48e _ _ rfl, h48e _ _ rfl]
    split <;> rfl
  · rw [rr_y a c1, bt_y b c1]
    simp only [Option.bind_some, twTry]
    rw [if_neg one0]
    by_cases c2 : v2 < 0 ∨ (20 : Int32) < v2
    · left
      rw [rr_n a c2, bt_n b c2]
      simp only [Option.bind_some]
      refine ⟨1, 0, one0, rfl, ?_⟩
      rw [if_pos trivial, h26, h48e _ _ rfl, h48e _ _ rfl]
      split <;> rfl
    · rw [rr_y a c2, bt_y b c2]
      simp only [Option.bind_some]
      rw [if_neg one0, h26]
      obtain ⟨z, hz, rfl⟩ : ∃ z, z < 8 ∧ v1 = nI z := by
        rcases ix_or v1 (n := 8) (by decide) with q | ⟨z, hz, rfl⟩
        · exfalso
          refine c1 ?_
          rw [Int32.lt_iff_toInt_lt, Int32.lt_iff_toInt_lt]
          rw [Int32.lt_iff_toInt_lt, Int32.le_iff_toInt_le] at q
          have z2 : (7 : Int32).toInt = 7 := by decide
          have z4 : (nI 8).toInt = 8 := by decide
          omega
        · exact ⟨z, hz, rfl⟩
      obtain ⟨y, hy, rfl⟩ : ∃ y, y < 21 ∧ v2 = nI y := by
        rcases ix_or v2 (n := 21) (by decide) with q | ⟨z, hz, rfl⟩
        · exfalso
          refine c2 ?_
          rw [Int32.lt_iff_toInt_lt, Int32.lt_iff_toInt_lt]
          rw [Int32.lt_iff_toInt_lt, Int32.le_iff_toInt_le] at q
          have z2 : (20 : Int32).toInt = 20 := by decide
          have z4 : (nI 21).toInt = 21 := by decide
          omega
        · exact ⟨z, hz, rfl⟩
      unfold f_X7_act_L36 f_X7_act_L37 f_X2_hasRoom
      by_cases c3 : c < 10 ∧ a.1 3 = -1
      · right
        obtain ⟨c4, c5⟩ := c3
        have n0 : n = 0 := r10 c5
        have hb : twb (nI c) 10 = true := tp_b c4 (by decide)
        have hcl : (nI c).toNatClampNeg = c := tp_c (by omega)
        have hten : ¬ (10 : Int32) ≤ nI c := nI_ge (a := c) (b := 10) c4 (by decide)
        rw [if_pos c5, if_pos (show c < 10 ∧ a.1 3 = -1 from ⟨c4, c5⟩), r8, if_neg hten]
        simp only [Option.bind_some]
        rw [if_neg one0, rst1]
        simp only [Option.bind_some, twTry]
        obtain ⟨wt, hwt, hw1, hw2⟩ : ∃ wt, wt ≤ 43 ∧ (k = 0 → nI y = nI wt) ∧ (k ≠ 0 → 2 * nI y + 3 = nI wt) := by
          by_cases e : k = 0
          · exact ⟨y, by omega, fun _ => rfl, fun q => absurd e q⟩
          · refine ⟨2 * y + 3, by omega, fun q => absurd q e, fun _ => ?_⟩
            show nI 2 * nI y + nI 3 = _
            rw [pk_mul, nI_add]
        have h40 : ∀ k0 : Int32, f_X2_put_L40 k0 (nI c) (twA a 19 (nI c) (nI z)) = some (nI (c + 1) - 1, twI (twA (twA (twA a 19 (nI c) (nI z)) 20 (nI c) k0) 21 (nI c) (-1)) 13 (nI (c + 1))) := fun k0 => by
          unfold f_X2_put_L40
          simp only [tp_a1, r8, tp_s, tp_i1, if_true]
          rw [if_pos hb, if_pos hb]
        have h88 : ∀ k0 : Int32, f_X8_act_L88 k0 (nI c) (twA (twI b 36 0) 8 (nI c) (nI z)) = some (nI (c + 1) - 1, twI (twA (twA (twA (twI b 36 0) 8 (nI c) (nI z)) 9 (nI c) k0) 10 (nI c) (-1)) 25 (nI (c + 1))) := fun k0 => by
          have e25 : (twI b 36 0).1 25 = nI c := hB13
          unfold f_X8_act_L88
          simp only [tp_a1, e25, tp_s]
          rw [if_pos hb, if_pos hb, tp_i1, if_pos rfl]
        have hput : f_X2_put a (nI z) (nI y) k = some (nI (c + 1) - 1, twI (twA (twA (twA a 19 (nI c) (nI z)) 20 (nI c) (nI wt)) 21 (nI c) (-1)) 13 (nI (c + 1))) := by
          unfold f_X2_put f_X2_hasRoom
          rw [r8, if_neg hten]
          simp only [Option.bind_some]
          rw [if_neg one0, r8, if_pos hb, tp_a1, r8]
          by_cases e : k = 0
          · rw [if_pos e, h40, hw1 e]
          · rw [if_neg e, hw2 e, h40]
        have hact : f_X8_act_L48 (nI z) (nI y) k 1 1 b = some (nI (c + 1) - 1, twI (twA (twA (twA (twI b 36 0) 8 (nI c) (nI z)) 9 (nI c) (nI wt)) 10 (nI c) (-1)) 25 (nI (c + 1))) := by
          unfold f_X8_act_L48
          rw [go0 b one0 one0 one0]
          simp only [Option.bind_some]
          rw [if_neg one0, tp_a1, show (twI b 36 0).1 25 = nI c from hB13, if_pos hb]
          by_cases e : k = 0
          · rw [if_pos e, h88, hw1 e]
          · rw [if_neg e, hw2 e, h88]
        rw [hput, hact]
        simp only [Option.bind_some]
        refine ⟨nI (c + 1) - 1, _, _, t, rfl, rfl, rfl, Nat.le_refl t, by omega, ⟨hfan, hflow, hfire, hair, ⟨hdet.1, rfl⟩, hdoor, ⟨r1, r2, rfl, r4, fun i hi => ?_, c + 1, n, by omega, by omega, rfl, r9, r10, fun q => absurd c5 q⟩, hcrowd, hst⟩⟩
        obtain ⟨u1, u2, u3, u4, u5⟩ := r5 i hi
        simp only [tp_i2]
        rw [tp_ab _ 21 _ _ (show 19 ≠ 21 by decide), tp_ab _ 20 _ _ (show 19 ≠ 20 by decide), tp_aa, tp_ab _ 21 _ _ (show 20 ≠ 21 by decide), tp_aa, tp_aa, tp_ab _ 10 _ _ (show 8 ≠ 10 by decide), tp_ab _ 9 _ _ (show 8 ≠ 9 by decide), tp_aa, tp_ab _ 10 _ _ (show 9 ≠ 10 by decide), tp_aa, tp_aa, hcl]
        by_cases e : i = c
        · rw [if_pos e, if_pos e, if_pos e, if_pos e, if_pos e, if_pos e]
          exact ⟨rfl, rfl, rfl, ⟨wt, hwt, rfl⟩, z, hz, rfl⟩
        · rw [if_neg e, if_neg e, if_neg e, if_neg e, if_neg e, if_neg e]
          exact ⟨u1, u2, u3, u4, u5⟩
      · left
        rw [if_neg c3]
        have hM : f_X8_act_L48 (nI z) (nI y) k 0 1 b = some (0, twI b 36 2) := by
          unfold f_X8_act_L48
          rw [go2 b _ one0]
          rfl
        refine ⟨2, 0, two0, ?_, hM⟩
        by_cases c5 : a.1 3 = -1
        · rw [if_pos c5, r8, if_pos (show (10 : Int32) ≤ nI c from nI_le (a := 10) (b := c) (by have c6 : ¬ c < 10 := fun q => c3 ⟨q, c5⟩; omega) (by omega))]
          simp only [Option.bind_some]
          rw [if_pos trivial, rst0]
          simp only [Option.bind_some, twTry]
          rw [if_neg e32]
          rfl
        · rw [if_neg c5, rst0]
          simp only [Option.bind_some, twTry]
          rw [if_neg e32]
          rfl
