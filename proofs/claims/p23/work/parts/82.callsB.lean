/-! ===== the pure side: the calls, on ===== -/
theorem ib1_n (b : twS) {v : Int32} (h : v < 0 ∨ nI 2 ≤ v) : f_X8_isBetween b v 0 1 = some (0, b) := by
  have := ib_n b (n := 2) (by decide) h
  rwa [← i1] at this
theorem ib1_y (b : twS) {j : Nat} (h : j < 2) : f_X8_isBetween b (nI j) 0 1 = some (1, b) := by
  have := ib_y b (n := 2) h (by decide)
  rwa [← i1] at this
theorem ib2_n (b : twS) {v : Int32} (h : v < 0 ∨ nI 3 ≤ v) : f_X8_isBetween b v 0 2 = some (0, b) := by
  have := ib_n b (n := 3) (by decide) h
  rwa [← i2] at this
theorem ib2_y (b : twS) {j : Nat} (h : j < 3) : f_X8_isBetween b (nI j) 0 2 = some (1, b) := by
  have := ib_y b (n := 3) h (by decide)
  rwa [← i2] at this
theorem ri2_n (a : twS) {v : Int32} (h : v < 0 ∨ nI 2 ≤ v) : f_X7_requireIndex a v 2 = some (.inl (twX1, a)) := ri_n a (n := 2) h
theorem ri2_y (a : twS) {j : Nat} (h : j < 2) : f_X7_requireIndex a (nI j) 2 = some (.inr a) := ri_y a (n := 2) h (by decide)
theorem ri3_n (a : twS) {v : Int32} (h : v < 0 ∨ nI 3 ≤ v) : f_X7_requireIndex a v 3 = some (.inl (twX1, a)) := ri_n a (n := 3) h
theorem ri3_y (a : twS) {j : Nat} (h : j < 3) : f_X7_requireIndex a (nI j) 3 = some (.inr a) := ri_y a (n := 3) h (by decide)
theorem q_feed {t : Nat} {a b : twS} {g : Int32} (h : twR t (t, g) a b) (w : Nat → Int64) (v : Int32) (k : Int32) : kZ t a b w (h_L_feed a w v k) (f_X8_feed b v k) := by
  have h0 := h
  obtain ⟨⟨f1, f2⟩, hrest⟩ := h
  unfold h_L_feed f_X7_feed f_X8_feed
  rcases ix_or v (n := 2) (by decide) with c | ⟨j, hj, rfl⟩
  · left
    rw [ri2_n a c, ib1_n b c]
    simp only [Option.bind_some, go1, twTry]
    exact ⟨1, 0, one0, rfl, rfl⟩
  · right
    have hb : twb (nI j) 2 = true := tp_b hj (by decide)
    have hc : (nI j).toNatClampNeg = j := tp_c (by omega)
    rw [ri2_y a hj, ib1_y b hj]
    simp only [Option.bind_some, twTry]
    rw [go0 b one0 one0 one0]
    simp only [Option.bind_some]
    rw [if_neg one0]
    have hR : ∀ x : Int32, twR t (t, 0) (twA a 8 (nI j) x) (twA (twI b 36 0) 6 (nI j) x) := fun x => by
      refine ⟨⟨fun i hi => ?_, f2⟩, (tp_36 h0 0).2⟩
      rw [tp_aa, tp_aa, hc]
      by_cases e : i = j
      · rw [if_pos e, if_pos e]
      · rw [if_neg e, if_neg e]
        exact f1 i hi
    have key : ∀ x : Int32, ∃ v', (f_X7_feed_L19 x (nI j) a).bind (fun z => match z with
          | .inl x => if x.1 = twX1 then some ((1 : Int32), (x.2, w)) else none
          | .inr u => if u.1 = 0 then some ((0 : Int32), (u.2, vp_updL w (0 : Int32).toNatClampNeg 0)) else some ((0 : Int32), (u.2, vp_updL w (0 : Int32).toNatClampNeg 1))) = some ((0 : Int32), (twA a 8 (nI j) (vp_nar .boolean x), vp_updL w (0 : Int32).toNatClampNeg (if v' = 0 then 0 else 1))) ∧ f_X8_feed_L31 x (nI j) (twI b 36 0) = some (v', twA (twI b 36 0) 6 (nI j) (vp_nar .boolean x)) := fun x => by
      have hp : pw ((twA (twI b 36 0) 6 (nI j) (vp_nar .boolean x)).2.1 6) = pw ((twA a 8 (nI j) (vp_nar .boolean x)).2.1 8) := (tp_pwE (hR (vp_nar .boolean x)).1.1).symm
      have hz : twz (pw ((twA a 8 (nI j) (vp_nar .boolean x)).2.1 8)) = true := by
        unfold pw
        split
        · decide
        · split <;> decide
      unfold f_X7_feed_L19 f_X8_feed_L31
      rw [if_pos hb, if_pos hb, tp_pwT, tp_pwM, hp]
      simp only [Option.bind_some]
      rw [if_pos hz, if_pos hz]
      refine ⟨_, ?_, rfl⟩
      simp only [Option.bind_some]
      by_cases e : pw ((twA a 8 (nI j) (vp_nar .boolean x)).2.1 8) = 0
      · rw [if_pos e, if_pos e]
      · rw [if_neg e, if_neg e]
    by_cases ck : k = 0
    · obtain ⟨v', e1, e2⟩ := key 1
      rw [if_pos ck, if_pos ck]
      exact ⟨v', _, _, e1, e2, rfl, hR _⟩
    · obtain ⟨v', e1, e2⟩ := key 0
      rw [if_neg ck, if_neg ck]
      exact ⟨v', _, _, e1, e2, rfl, hR _⟩
theorem q_failFan {t : Nat} {a b : twS} {g : Int32} (h : twR t (t, g) a b) (w : Nat → Int64) (v : Int32) (k : Int32) : kI t a b w (h_L_failFan a w v k) (f_X8_failFan b v k) := by
  have h0 := h
  obtain ⟨⟨f1, f2⟩, hrest⟩ := h
  unfold h_L_failFan f_X7_failFan f_X8_failFan
  rw [show (3 : Int32) = nI 3 from rfl]
  rcases ix_or v (n := 3) (by decide) with c | ⟨j, hj, rfl⟩
  · left
    rw [ri_n a c, fn_n b c]
    simp only [Option.bind_some, go1, twTry]
    exact ⟨1, 0, one0, rfl, rfl⟩
  · right
    have hb : twb (nI j) 3 = true := tp_b hj (by decide)
    have hc : (nI j).toNatClampNeg = j := tp_c (by omega)
    rw [ri_y a hj (by decide), fn_y b hj]
    unfold f_X5_stateOf f_X5_setFailing
    simp only [Option.bind_some, twTry, fa_y a hj]
    rw [go0 b one0 one0 one0, if_neg one0, if_pos hb]
    simp only [Option.bind_some, fa_y (twA a 12 (nI j) (vp_nar .boolean k)) hj]
    rw [if_neg one0, if_neg one0, if_pos hb, if_pos hb, if_pos hb, hc]
    refine ⟨a.2.1 11 j, twA a 12 (nI j) (vp_nar .boolean k), twA (twI b 36 0) 5 (nI j) (vp_nar .boolean k), t, rfl, by rw [(f2 j hj).2.1]; rfl, rfl, Nat.le_refl t, by omega, ⟨⟨f1, fun i hi => ?_⟩, (tp_36 h0 0).2⟩⟩
    obtain ⟨q1, q2, q3, q4, q5⟩ := f2 i hi
    rw [tp_aa, tp_aa, hc, tp_ab a 12 _ _ (show 10 ≠ 12 by decide), tp_ab a 12 _ _ (show 11 ≠ 12 by decide), tp_ab _ 5 _ _ (show 3 ≠ 5 by decide), tp_ab _ 5 _ _ (show 4 ≠ 5 by decide)]
    by_cases e : i = j
    · rw [if_pos e, if_pos e]
      exact ⟨q1, q2, rfl, q4, q5⟩
    · rw [if_neg e, if_neg e]
      exact ⟨q1, q2, q3, q4, q5⟩
theorem q_failDet {t : Nat} {a b : twS} {g : Int32} (h : twR t (t, g) a b) (w : Nat → Int64) (v1 v2 : Int32) (k : Int32) : kV t a b w (h_L_failDetector a w v1 v2 k) (f_X8_failDetector b v1 v2 k) := by
  have h0 := h
  obtain ⟨hfan, hflow, hfire, hair, hdet, hrest⟩ := h
  unfold h_L_failDetector f_X7_failDetector f_X8_failDetector f_X8_failDetector_L21 f_X8_failDetector_L22
  rcases ix_or v1 (n := 12) (by decide) with c | ⟨j, hj, rfl⟩
  · left
    rw [rs_n a c, sg_n b c]
    simp only [Option.bind_some, go1, twTry]
    exact ⟨1, one0, rfl, rfl⟩
  · rw [rs_y a hj, tp_segM b hj]
    simp only [Option.bind_some, twTry]
    rw [if_neg one0]
    rcases ix_or v2 (n := 3) (by decide) with c | ⟨i, hi, rfl⟩
    · left
      rw [ri3_n a c, ib2_n b c]
      simp only [Option.bind_some, go1, twTry]
      exact ⟨1, one0, rfl, rfl⟩
    · right
      rw [ri3_y a hi, ib2_y b hi]
      simp only [Option.bind_some, twTry]
      have e1 : nI j * 3 + nI i = nI (3 * j + i) := by
        show nI j * nI 3 + nI i = _
        rw [pk_mul, nI_add, Nat.mul_comm]
      have e2 : 3 * nI j + nI i = nI (3 * j + i) := by
        show nI 3 * nI j + nI i = _
        rw [pk_mul, nI_add]
      have hb : twb (nI (3 * j + i)) 36 = true := tp_b (by omega) (by decide)
      have hc : (nI (3 * j + i)).toNatClampNeg = 3 * j + i := tp_c (by omega)
      rw [go0 b one0 one0 one0, e1, e2, if_pos hb, if_neg one0]
      simp only [Option.bind_some]
      rw [if_neg one0, if_pos hb]
      refine ⟨twA a 9 (nI (3 * j + i)) (vp_nar .boolean k), twA (twI b 36 0) 7 (nI (3 * j + i)) (vp_nar .boolean k), rfl, rfl, rfl, ⟨hfan, hflow, hfire, hair, ⟨fun m hm => ?_, rfl⟩, hrest⟩⟩
      rw [tp_aa, tp_aa, hc]
      by_cases e : m = 3 * j + i
      · rw [if_pos e, if_pos e]
      · rw [if_neg e, if_neg e]
        exact hdet.1 m hm
theorem q_failDoor {t : Nat} {a b : twS} {g : Int32} (h : twR t (t, g) a b) (w : Nat → Int64) (v : Int32) (k : Int32) (hk : k = 0 ∨ k = 1) : kZ t a b w (h_L_failDoor a w v k) (f_X8_failDoor b v k) := by
  have h0 := h
  obtain ⟨hfan, hflow, hfire, hair, hdet, hdoor, hrest⟩ := h
  unfold h_L_failDoor f_X7_failDoor f_X8_failDoor f_X8_failDoor_L23 f_X8_failDoor_L24 f_X7_requireDoor f_X4_isThere f_X4_setFailing f_X4_isOpen
  rcases ix_or v (n := 12) (by decide) with c | ⟨j, hj, rfl⟩
  · left
    have hA : f_X7_isSegment a v = some (0, a) := by
      unfold f_X7_isSegment
      by_cases c1 : v < 0
      · rw [if_pos c1]
      · rw [if_neg c1, if_pos (show (12 : Int32) ≤ v from c.resolve_left c1)]
    rw [hA, sg_n b c]
    simp only [Option.bind_some, go1, twTry]
    exact ⟨1, 0, one0, rfl, rfl⟩
  · have hb : twb (nI j) 12 = true := tp_b hj (by decide)
    have hc : (nI j).toNatClampNeg = j := tp_c (by omega)
    obtain ⟨d1, d2, d3⟩ := hdoor j hj
    have hT : ∀ x : twS, f_X7_isSegment x (nI j) = some (1, x) := fun x => tp_segT x hj
    rw [hT a, tp_segM b hj]
    simp only [Option.bind_some]
    rw [if_neg one0, if_neg one0, tp_isIn, if_pos hb, hc, d1]
    simp only [Option.bind_some]
    rcases bit01 (b.1 6) hj with q | q
    · left
      rw [q, if_pos rfl, if_pos (show (if (0 : Int32) = 1 then (1 : Int32) else 0) = 0 from rfl)]
      simp only [Option.bind_some, go1, twTry]
      exact ⟨1, 0, one0, rfl, rfl⟩
    · right
      rw [q, if_neg one0, if_neg (show ¬ (if (1 : Int32) = 1 then (1 : Int32) else 0) = 0 by decide)]
      simp only [Option.bind_some]
      rw [if_neg one0]
      simp only [Option.bind_some, twTry, hT]
      rw [if_neg one0, if_pos hb]
      simp only [Option.bind_some, hT]
      rw [if_neg one0, if_pos hb, tp_ab a 18 _ _ (show 17 ≠ 18 by decide), d2, go0 b one0 one0 one0]
      simp only [Option.bind_some]
      rw [if_neg one0]
      have hkn : vp_nar .boolean k = k := by
        rcases hk with rfl | rfl <;> rfl
      rw [hkn]
      have hL60 : ∀ x : Int32, f_X8_failDoor_L60 (nI j) x (twI b 36 0) = some (bitI (b.1 7) j, twI (twI b 36 0) 8 x) := fun x => by
        unfold f_X8_failDoor_L60
        rw [tp_isIn]
        show ((some (if bitI (b.1 7) j = 1 then (1 : Int32) else 0, twI (twI b 36 0) 8 x)).bind _) = _
        rcases bit01 (b.1 7) hj with e | e
        · rw [e]
          rfl
        · rw [e]
          rfl
      have hG : ∀ x : Int32, (∀ i, i < 12 → bitI x i = if i = j then k else bitI (b.1 8) i) → twR t (t, 0) (twA a 18 (nI j) k) (twI (twI b 36 0) 8 x) := fun x hx => by
        refine ⟨hfan, hflow, hfire, hair, ⟨hdet.1, rfl⟩, fun i hi => ?_, hrest⟩
        obtain ⟨p1, p2, p3⟩ := hdoor i hi
        refine ⟨p1, p2, ?_⟩
        show (twA a 18 (nI j) k).2.1 18 i = bitI x i
        rw [tp_aa, hc, hx i hi, p3]
      rcases bit01 (b.1 7) hj with e | e
      · rw [e]
        rcases hk with rfl | rfl
        · rw [if_pos rfl, hL60, e]
          exact ⟨0, _, _, rfl, rfl, rfl, hG _ (fun i hi => bit_off (b.1 8) hj hi)⟩
        · rw [if_neg one0, hL60, e]
          exact ⟨0, _, _, rfl, rfl, rfl, hG _ (fun i hi => bit_on (b.1 8) hj hi)⟩
      · rw [e]
        rcases hk with rfl | rfl
        · rw [if_pos rfl, hL60, e]
          exact ⟨1, _, _, rfl, rfl, rfl, hG _ (fun i hi => bit_off (b.1 8) hj hi)⟩
        · rw [if_neg one0, if_neg one0, hL60, e]
          exact ⟨1, _, _, rfl, rfl, rfl, hG _ (fun i hi => bit_on (b.1 8) hj hi)⟩
