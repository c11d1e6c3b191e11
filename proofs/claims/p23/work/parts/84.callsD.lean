/-! ===== the pure side: the asking calls ===== -/
theorem rgN {v : Int32} {n : Nat} (hn : n < 2 ^ 20) (h : ¬ (v < 0 ∨ nI n < v)) : ∃ z, z ≤ n ∧ v = nI z := by
  rcases ix_or v (n := n + 1) (by omega) with q | ⟨z, hz, rfl⟩
  · exfalso
    refine h ?_
    rw [Int32.lt_iff_toInt_lt, Int32.lt_iff_toInt_lt, nI_toInt (by omega)]
    rw [Int32.lt_iff_toInt_lt, Int32.le_iff_toInt_le, nI_toInt (by omega)] at q
    omega
  · exact ⟨z, by omega, rfl⟩
theorem tp_cnt {t : Nat} {u : Nat × Int32} {a b : twS} (h : twR t u a b) (v : Int32) : ∃ c, f_X3_howMany a v = some (c, a) ∧ f_X8_counted b v = some (c, b) := by
  obtain ⟨hfan, hflow, hfire, hair, hdet, hdoor, hchart, ⟨c1, c2, p, hp, c3, c4, c5⟩, hst⟩ := h
  have hpb : b.1 31 = nI p := by rw [← c2]; exact c3
  obtain ⟨r, s, e1, e2, c, e3, e4⟩ := tp_loop2 (fun n k x => f_X3_howMany_L4 n v x (nI k) a) (fun n k y => f_X8_counted_L4 n v y (nI k) b) p (fun _ x y => x = y) (fun r s => ∃ c, r = (c, a) ∧ s = (c, b))
    (by
      intro k x y hk hxy
      subst hxy
      have hb : twb (nI k) 30 = true := tp_b (by omega) (by decide)
      have hc : (nI k).toNatClampNeg = k := tp_c (by omega)
      have h30 : ¬ (30 : Int32) ≤ nI k := nI_ge (a := k) (b := 30) (by omega) (by decide)
      have hkp : ¬ nI p ≤ nI k := nI_ge hk (by omega)
      have q1 := (c5 k hk).1
      left
      refine ⟨if b.2.1 11 k = v then x + 1 else x, if b.2.1 11 k = v then x + 1 else x, fun n => ?_, fun n => ?_, rfl⟩
      · show f_X3_howMany_L4b (f_X3_howMany_L4 n) v x (nI k) a = _
        unfold f_X3_howMany_L4b
        rw [c3, if_neg hkp, if_neg h30, if_pos hb, hc, q1, tp_s]
        split <;> rfl
      · show f_X8_counted_L4b (f_X8_counted_L4 n) v x (nI k) b = _
        unfold f_X8_counted_L4b
        rw [hpb, if_neg hkp, if_pos hb, hc, Int32.add_zero, tp_s]
        split <;> rfl)
    (by
      intro x y hxy
      subst hxy
      refine ⟨(x, a), (x, b), fun n => ?_, fun n => ?_, x, rfl, rfl⟩
      · show f_X3_howMany_L4b (f_X3_howMany_L4 n) v x (nI p) a = _
        unfold f_X3_howMany_L4b
        rw [c3, if_pos (Int32.le_refl _)]
      · show f_X8_counted_L4b (f_X8_counted_L4 n) v x (nI p) b = _
        unfold f_X8_counted_L4b
        rw [hpb, if_pos (Int32.le_refl _)])
    p 0 0 0 twN twN (by omega) (by show p < 2000; omega) (by show p < 2000; omega) rfl
  subst e3
  subst e4
  exact ⟨c, e1, e2⟩
theorem q_count {t : Nat} {a b : twS} {g : Int32} (h : twR t (t, g) a b) (w : Nat → Int64) (v : Int32) : kI t a b w (h_L_count a w v) (f_X8_count b v) := by
  unfold h_L_count f_X7_count f_X8_count
  by_cases c : v < 0 ∨ (4 : Int32) < v
  · left
    rw [rr_n a c, bt_n b c]
    simp only [Option.bind_some, go1, twTry]
    exact ⟨1, 0, one0, rfl, rfl⟩
  · right
    obtain ⟨x, e1, e2⟩ := tp_cnt (tp_36 h 0) v
    rw [rr_y a c, bt_y b c]
    simp only [Option.bind_some, twTry]
    rw [go0 b one0 one0 one0, e1]
    simp only [Option.bind_some]
    rw [if_neg one0, e2]
    exact ⟨x, a, twI b 36 0, t, rfl, rfl, rfl, Nat.le_refl t, by omega, tp_36 h 0⟩
theorem q_done {t : Nat} {a b : twS} {g : Int32} (h : twR t (t, g) a b) (w : Nat → Int64) (v : Int32) : kI t a b w (h_L_done a w v) (f_X8_done b v) := by
  have h0 := h
  obtain ⟨hfan, hflow, hfire, hair, hdet, hdoor, ⟨r1, r2, r3, r4, r5, c, n, r6, r7, r8, r9, r10, r11⟩, hcrowd, hst⟩ := h
  have hB : b.1 25 = nI c := by rw [← r3]; exact r8
  unfold h_L_done f_X7_done f_X8_done f_X2_size
  rw [r8, hB]
  simp only [Option.bind_some]
  rcases ix_or v (n := c) (by omega) with q | ⟨j, hj, rfl⟩
  · left
    rw [ri_n a q, ib_n b (by omega) q]
    simp only [Option.bind_some, go1, twTry]
    exact ⟨1, 0, one0, rfl, rfl⟩
  · right
    have hb : twb (nI j) 10 = true := tp_b (by omega) (by decide)
    have hc : (nI j).toNatClampNeg = j := tp_c (by omega)
    rw [ri_y a hj (by omega), ib_y b hj (by omega)]
    unfold f_X2_stepOf f_X2_isAct
    simp only [Option.bind_some, twTry]
    rw [if_neg (nI_pos (by omega)), r8, if_neg (nI_ge hj (by omega)), if_neg (show ¬ (10 : Int32) ≤ nI j from nI_ge (a := j) (b := 10) (by omega) (by decide)), go0 b one0 one0 one0]
    simp only [Option.bind_some]
    rw [if_neg one0, if_neg one0, if_pos hb, if_pos hb, hc]
    exact ⟨a.2.1 21 j, a, twI b 36 0, t, rfl, by rw [(r5 j (by omega)).2.2.1]; rfl, rfl, Nat.le_refl t, by omega, tp_36 h0 0⟩
theorem q_person {t : Nat} {a b : twS} {g : Int32} (h : twR t (t, g) a b) (w : Nat → Int64) (v1 v2 : Int32) : kI t a b w (h_L_person a w v1 v2) (f_X8_person b v1 v2) := by
  have h0 := h
  obtain ⟨hfan, hflow, hfire, hair, hdet, hdoor, hchart, ⟨c1, c2, p, hp, c3, c4, c5⟩, hst⟩ := h
  have hpb : b.1 31 = nI p := by rw [← c2]; exact c3
  unfold h_L_person f_X7_person f_X8_person f_X3_size
  rw [c3, hpb]
  simp only [Option.bind_some]
  rcases ix_or v1 (n := p) (by omega) with q | ⟨j, hj, rfl⟩
  · left
    rw [ri_n a q, ib_n b (by omega) q]
    simp only [Option.bind_some, twTry]
    refine ⟨1, 0, one0, rfl, ?_⟩
    by_cases c : v2 < 0 ∨ (2 : Int32) < v2
    · rw [bt_n b c]
      simp only [Option.bind_some, go1]
      rfl
    · rw [bt_y b c]
      simp only [Option.bind_some, go1]
      rfl
  · rw [ri_y a hj (by omega), ib_y b hj (by omega)]
    simp only [Option.bind_some, twTry]
    by_cases c : v2 < 0 ∨ (2 : Int32) < v2
    · left
      rw [rr_n a c, bt_n b c]
      simp only [Option.bind_some, go2 b _ one0]
      rw [if_neg e21]
      exact ⟨2, 0, two0, rfl, rfl⟩
    · right
      obtain ⟨z, hz, rfl⟩ := rgN (n := 2) (by decide) c
      have hb : twb (nI j) 30 = true := tp_b (by omega) (by decide)
      have hc : (nI j).toNatClampNeg = j := tp_c (by omega)
      have hper : f_X3_isPerson a (nI j) = some (1, a) := by
        unfold f_X3_isPerson
        rw [if_neg (nI_pos (by omega)), c3, if_neg (nI_ge hj (by omega)), if_neg (show ¬ (30 : Int32) ≤ nI j from nI_ge (a := j) (b := 30) (by omega) (by decide))]
      rw [rr_y a c, bt_y b c]
      unfold f_X3_stateOf f_X3_segmentOf f_X3_endOf
      simp only [Option.bind_some, hper]
      rw [go0 b one0 one0 one0]
      simp only [Option.bind_some]
      rw [if_neg one0, if_neg one0, if_pos hb, hc, if_neg one0, if_neg one0, if_pos hb, if_pos hb, if_pos hb, if_pos hb, if_pos hb, if_pos hb]
      simp only [Option.bind_some, tp_i2]
      obtain ⟨q1, q2, q3, q4, q5, q6, q7⟩ := c5 j hj
      have hz3 : z = 0 ∨ z = 1 ∨ z = 2 := by omega
      rcases hz3 with rfl | rfl | rfl
      · rw [if_pos (show nI 0 = 0 from rfl), if_pos (show nI 0 = 0 from rfl)]
        exact ⟨a.2.1 22 j, a, twI b 36 0, t, rfl, by rw [q1], rfl, Nat.le_refl t, by omega, tp_36 h0 0⟩
      · rw [if_neg (show ¬ nI 1 = 0 by decide), if_pos (show nI 1 = 1 from rfl), if_neg (show ¬ nI 1 = 0 by decide), if_neg (show ¬ nI 1 = 2 by decide)]
        refine ⟨a.2.1 23 j, a, twI b 36 0, t, rfl, ?_, rfl, Nat.le_refl t, by omega, tp_36 h0 0⟩
        by_cases e : b.2.1 11 j = 3
        · exact (if_pos e).trans (by rw [q3 e])
        · exact (if_neg e).trans (by rw [q4 e])
      · rw [if_neg (show ¬ nI 2 = 0 by decide), if_neg (show ¬ nI 2 = 1 by decide), if_neg (show ¬ nI 2 = 0 by decide), if_pos (show nI 2 = 2 from rfl)]
        exact ⟨a.2.1 25 j, a, twI b 36 0, t, rfl, by rw [q2], rfl, Nat.le_refl t, by omega, tp_36 h0 0⟩
theorem q_segment {t : Nat} {a b : twS} {g : Int32} (h : twR t (t, g) a b) (w : Nat → Int64) (v1 v2 : Int32) : kI t a b w (h_L_segment a w v1 v2) (f_X8_segment b v1 v2) := by
  unfold h_L_segment f_X7_segment f_X8_segment
  rcases ix_or v1 (n := 12) (by decide) with q | ⟨j, hj, rfl⟩
  · left
    rw [rs_n a q, sg_n b q]
    simp only [Option.bind_some, twTry]
    refine ⟨1, 0, one0, rfl, ?_⟩
    by_cases c : v2 < 0 ∨ (4 : Int32) < v2
    · rw [bt_n b c]
      simp only [Option.bind_some, go1]
      rfl
    · rw [bt_y b c]
      simp only [Option.bind_some, go1]
      rfl
  · rw [rs_y a hj, tp_segM b hj]
    simp only [Option.bind_some, twTry]
    by_cases c : v2 < 0 ∨ (4 : Int32) < v2
    · left
      rw [rr_n a c, bt_n b c]
      simp only [Option.bind_some, go2 b _ one0]
      rw [if_neg e21]
      exact ⟨2, 0, two0, rfl, rfl⟩
    · right
      obtain ⟨z, hz, rfl⟩ := rgN (n := 4) (by decide) c
      have hb : twb (nI j) 12 = true := tp_b hj (by decide)
      have hc : (nI j).toNatClampNeg = j := tp_c (by omega)
      have h2 := tp_36 h 0
      obtain ⟨x1, e1, e2⟩ := tp_tells h2 hj
      obtain ⟨x2, e3, e4⟩ := tp_crowdN h2 hj
      obtain ⟨hfan, hflow, hfire, ⟨s1, s2⟩, hdet, hdoor, hchart, hcrowd, hst⟩ := h2
      obtain ⟨d1, d2, d3⟩ := hdoor j hj
      have hD : f_X7_doorAnswer a (nI j) = some (if bitI ((twI b 36 0).1 6) j = 1 then (if bitI ((twI b 36 0).1 7) j = 1 then 1 else 0) else -1, a) := by
        unfold f_X7_doorAnswer f_X4_isThere f_X4_isOpen
        rw [tp_segT a hj]
        simp only [Option.bind_some]
        rw [if_neg one0, if_pos hb, hc, d1]
        rcases bit01 ((twI b 36 0).1 6) hj with y | y
        · rw [y, if_pos rfl, if_neg (show ¬ (0 : Int32) = 1 by decide)]
          rfl
        · rw [y, if_neg one0, if_pos rfl]
          simp only [Option.bind_some]
          rw [if_neg one0, tp_segT a hj]
          simp only [Option.bind_some]
          rw [if_neg one0, if_pos hb, d2]
          rcases bit01 ((twI b 36 0).1 7) hj with y2 | y2
          · rw [y2, if_pos rfl, if_neg (show ¬ (0 : Int32) = 1 by decide)]
            rfl
          · rw [y2, if_neg one0, if_pos rfl]
            rfl
      have hM : ((f_X8_isIn (twI b 36 0) (nI j) ((twI b 36 0).1 6)).bind fun y14 => (if y14.1 = 0 then some ((-1 : Int32), y14.2) else ((f_X8_isIn y14.2 (nI j) (y14.2.1 7)).bind fun y16 => (if y16.1 = 0 then some ((0 : Int32), y16.2) else some (1, y16.2))))) = some (if bitI ((twI b 36 0).1 6) j = 1 then (if bitI ((twI b 36 0).1 7) j = 1 then 1 else 0) else -1, twI b 36 0) := by
        rw [tp_isIn]
        rcases bit01 ((twI b 36 0).1 6) hj with y | y
        · rw [y]
          rfl
        · rw [y]
          show ((f_X8_isIn (twI b 36 0) (nI j) ((twI b 36 0).1 7)).bind _) = _
          rw [tp_isIn]
          rcases bit01 ((twI b 36 0).1 7) hj with y2 | y2
          · rw [y2]
            rfl
          · rw [y2]
            rfl
      rw [rr_y a c, bt_y b c]
      simp only [Option.bind_some]
      rw [go0 b one0 one0 one0]
      simp only [Option.bind_some]
      rw [if_neg one0, if_pos hb, hc, if_pos hb, tp_smokeS a hj, tp_heatS a hj, e1, e2, e3, e4, hD, hM]
      have hz5 : z = 0 ∨ z = 1 ∨ z = 2 ∨ z = 3 ∨ z = 4 := by omega
      rcases hz5 with rfl | rfl | rfl | rfl | rfl
      · exact ⟨_, a, twI b 36 0, t, rfl, by rw [(s1 j hj).1]; rfl, rfl, Nat.le_refl t, by omega, tp_36 h 0⟩
      · exact ⟨_, a, twI b 36 0, t, rfl, by rw [(s1 j hj).2]; rfl, rfl, Nat.le_refl t, by omega, tp_36 h 0⟩
      · exact ⟨_, a, twI b 36 0, t, rfl, rfl, rfl, Nat.le_refl t, by omega, tp_36 h 0⟩
      · exact ⟨_, a, twI b 36 0, t, rfl, rfl, rfl, Nat.le_refl t, by omega, tp_36 h 0⟩
      · exact ⟨_, a, twI b 36 0, t, rfl, rfl, rfl, Nat.le_refl t, by omega, tp_36 h 0⟩
