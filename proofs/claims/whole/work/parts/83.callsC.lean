/-! ===== the pure side: build, people, act, step ===== -/
theorem tp_place (a : twS) (v : Int32) : ∃ y, f_X4_place a v = some y ∧ (∀ m, m < 12 → y.2.1 16 m = bitI v m ∧ y.2.1 17 m = 0 ∧ y.2.1 18 m = 0) ∧ y.1 = a.1 ∧ (∀ j, j ≠ 16 → j ≠ 17 → j ≠ 18 → y.2.1 j = a.2.1 j) ∧ y.2.2 = a.2.2 := by
  unfold f_X4_place
  obtain ⟨y, h1, ⟨h2, h3, h4, h5⟩⟩ := tp_loopE (fun n k y => f_X4_place_L2 n v (nI k) y) 12
    (fun k y => (∀ m, m < k → y.2.1 16 m = bitI v m ∧ y.2.1 17 m = 0 ∧ y.2.1 18 m = 0) ∧ y.1 = a.1 ∧ (∀ j, j ≠ 16 → j ≠ 17 → j ≠ 18 → y.2.1 j = a.2.1 j) ∧ y.2.2 = a.2.2) some
    (by
      intro k y hk ⟨p1, p2, p3, p4⟩
      have hb := tp_b (n := 12) hk (by decide)
      have hc : (nI k).toNatClampNeg = k := tp_c (by omega)
      have h12 : ¬ (12 : Int32) ≤ nI k := nI_ge (a := k) (b := 12) hk (by decide)
      refine ⟨twA (twA (twA y 16 (nI k) (bitI v k)) 17 (nI k) 0) 18 (nI k) 0, fun n => ?_, fun m hm => ?_, p2, fun j q1 q2 q3 => ?_, p4⟩
      · show f_X4_place_L2b (f_X4_place_L2 n) v (nI k) y = _
        unfold f_X4_place_L2b f_X4_place_L27
        rw [if_neg h12, if_pos hb, if_pos hb, if_pos hb, tp_n0, tp_s, if_pos hb, if_pos hb, if_pos hb, tp_n1]
        show (if bitI v k = 1 then _ else _) = _
        rcases bit01 v hk with q | q
        · rw [q, if_neg (by decide)]
        · rw [q, if_pos rfl]
      · rw [tp_ab _ 18 _ _ (show 16 ≠ 18 by decide), tp_ab _ 17 _ _ (show 16 ≠ 17 by decide), tp_aa, tp_ab _ 18 _ _ (show 17 ≠ 18 by decide), tp_aa, tp_aa, hc]
        by_cases e : m = k
        · rw [if_pos e, if_pos e, if_pos e, e]
          exact ⟨rfl, rfl, rfl⟩
        · rw [if_neg e, if_neg e, if_neg e]
          exact p1 m (by omega)
      · rw [tp_ab _ _ _ _ q3, tp_ab _ _ _ _ q2, tp_ab _ _ _ _ q1]
        exact p3 j q1 q2 q3)
    (by
      intro n y _
      show f_X4_place_L2b (f_X4_place_L2 n) v (nI 12) y = _
      unfold f_X4_place_L2b
      rw [if_pos (by decide)])
    12 0 a twN rfl (by decide) ⟨fun m hm => absurd hm (Nat.not_lt_zero m), rfl, fun _ _ _ _ => rfl, rfl⟩
  exact ⟨y, h1, h2, h3, h4, h5⟩
theorem q_build {t : Nat} (ht : t < 2 ^ 30) {a b : twS} {g : Int32} (h : twR t (t, g) a b) (w : Nat → Int64) (v1 v2 : Int32) : kV t a b w (g_L_build a w v1 v2) (f_X8_build b v1 v2) := by
  have h0 := h
  obtain ⟨hfan, hflow, hfire, ⟨s1, s2, s3, s4, s5⟩, hdet, hdoor, hchart, hcrowd, hs1, hs2⟩ := h
  unfold g_L_build f_X7_build f_X8_build
  rcases ix_or v2 (n := 12) (by decide) with c | ⟨j, hj, rfl⟩
  · left
    refine ⟨1, one0, ?_, ?_⟩
    · rw [rs_n a c]
      simp only [Option.bind_some, twTry]
      rfl
    · rw [sg_n b c]
      simp only [Option.bind_some]
      unfold f_X8_build_L25
      by_cases c2 : v1 < 0 ∨ (4095 : Int32) < v1
      · rw [bt_n b c2]
        simp only [Option.bind_some, go1]
        split <;> rfl
      · rw [bt_y b c2]
        simp only [Option.bind_some, go1]
        split <;> rfl
  · rw [rs_y a hj, tp_segM b hj]
    simp only [Option.bind_some, twTry]
    by_cases c2 : v1 < 0 ∨ (4095 : Int32) < v1
    · left
      rw [rr_n a c2, bt_n b c2]
      unfold f_X8_build_L25
      simp only [Option.bind_some, go2 b _ one0]
      refine ⟨2, two0, ?_, ?_⟩
      · rw [if_neg e21]
        rfl
      · split <;> rfl
    · rw [rr_y a c2, bt_y b c2]
      unfold f_X7_build_L24 f_X8_build_L25
      simp only [Option.bind_some]
      by_cases c3 : t = 0
      · right
        rw [hs1, hs2, if_pos (show nI t = 0 by rw [c3]; rfl), if_pos (show nI t = 0 by rw [c3]; rfl), go0 b one0 one0 one0, rst1]
        simp only [Option.bind_some]
        rw [if_neg one0]
        simp only [twTry]
        obtain ⟨y, g1, g2, g3, g4, g5⟩ := tp_place a v1
        rw [g1]
        simp only [Option.bind_some]
        refine ⟨twI (twI y 0 (nI j)) 1 0, twI (twI (twI (twI (twI (twI b 36 0) 6 v1) 7 0) 8 0) 9 (nI j)) 10 0, rfl, rfl, rfl, ?_⟩
        unfold twR
        simp only [tp_i1, tp_i2, Nat.reduceEqDiff, if_true, if_false, g3, g5]
        rw [g4 8 (by decide) (by decide) (by decide), g4 9 (by decide) (by decide) (by decide), g4 10 (by decide) (by decide) (by decide), g4 11 (by decide) (by decide) (by decide), g4 12 (by decide) (by decide) (by decide), g4 13 (by decide) (by decide) (by decide), g4 14 (by decide) (by decide) (by decide), g4 19 (by decide) (by decide) (by decide), g4 20 (by decide) (by decide) (by decide), g4 21 (by decide) (by decide) (by decide), g4 22 (by decide) (by decide) (by decide), g4 23 (by decide) (by decide) (by decide), g4 24 (by decide) (by decide) (by decide), g4 25 (by decide) (by decide) (by decide)]
        refine ⟨hfan, hflow, hfire, ⟨s1, s2, rfl, ⟨j, hj, rfl⟩, rfl⟩, ⟨hdet.1, rfl⟩, fun k hk => ?_, hchart, hcrowd, hs1, hs2⟩
        obtain ⟨p1, p2, p3⟩ := g2 k hk
        rw [p1, p2, p3, bit_zero hk]
        exact ⟨rfl, rfl, rfl⟩
      · left
        have hn : ¬ nI t = 0 := nI_ne0 (by omega) (by omega)
        rw [hs1, hs2, if_neg hn, if_neg hn, go3 b one0 one0, rst0]
        simp only [Option.bind_some, twTry]
        refine ⟨3, three0, ?_, rfl⟩
        rw [if_neg e31, if_neg e32]
        rfl
theorem q_step {t : Nat} (ht : t ≤ 59000) {a b : twS} {g : Int32} (h : twR t (t, g) a b) (w : Nat → Int64) (v : Int32) : kI t a b w (g_L_step a w v) (f_X8_step b v) := by
  unfold g_L_step f_X7_step f_X8_step
  by_cases c : v < 1 ∨ (100 : Int32) < v
  · left
    rw [rr_n a c, bt_n b c]
    simp only [Option.bind_some, go1, twTry]
    exact ⟨1, 0, one0, rfl, rfl⟩
  · right
    obtain ⟨n, hn, rfl⟩ : ∃ n, n ≤ 100 ∧ v = nI n := by
      rcases ix_or v (n := 101) (by decide) with q | ⟨z, hz, rfl⟩
      · exfalso
        refine c ?_
        rw [Int32.lt_iff_toInt_lt, Int32.lt_iff_toInt_lt]
        rw [Int32.lt_iff_toInt_lt, Int32.le_iff_toInt_le] at q
        have z1 : (1 : Int32).toInt = 1 := by decide
        have z2 : (100 : Int32).toInt = 100 := by decide
        have z3 : (0 : Int32).toInt = 0 := by decide
        have z4 : (nI 101).toInt = 101 := by decide
        omega
      · exact ⟨z, by omega, rfl⟩
    rw [rr_y a c, bt_y b c]
    simp only [Option.bind_some, twTry]
    rw [go0 b one0 one0 one0]
    simp only [Option.bind_some]
    rw [if_neg one0]
    obtain ⟨r, s, e1, e2, x, y, e3, e4, e5, e6⟩ := tp_loop2 (fun i k x => f_X7_step_L9 i (nI n) (nI k) x) (fun i k y => f_X8_step_L20 i (nI n) (nI k) y) n (fun k x y => twR (t + k) (t + k) x y ∧ y.1 36 = 0) (fun r s => ∃ x y, r = .inr (nI (t + n), x) ∧ s = (nI (t + n), y) ∧ y.1 36 = 0 ∧ twR (t + n) (t + n) x y)
      (by
        intro k x y hk ⟨hR, h36⟩
        obtain ⟨x', y', g1, g2, g3⟩ := tp_step (t := t + k) (u := t + k) (by omega) (by omega) hR
        have hkp : ¬ nI n ≤ nI k := nI_ge hk (by omega)
        left
        sorry)
      (by
        intro x y ⟨hR, h36⟩
        obtain ⟨-, -, -, -, -, -, -, -, hs1, hs2⟩ := hR
        refine ⟨.inr (nI (t + n), x), (nI (t + n), y), fun i => ?_, fun i => ?_, x, y, rfl, rfl, h36, hR⟩
        · show f_X7_step_L9b (f_X7_step_L9 i) (nI n) (nI n) x = _
          unfold f_X7_step_L9b
          rw [if_pos (Int32.le_refl _), hs1]
        · show f_X8_step_L20b (f_X8_step_L20 i) (nI n) (nI n) y = _
          unfold f_X8_step_L20b
          rw [if_pos (Int32.le_refl _), hs2])
      n 0 a (twI b 36 0) twN twN (by omega) (by show n < 2000; omega) (by show n < 2000; omega) ⟨h, rfl⟩
    sorry
