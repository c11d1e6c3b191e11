/-! ===== the pure side: the detectors and the alarm ===== -/
theorem tp_heatS (a : twS) {j : Nat} (hj : j < 12) : f_X0_heatIn a (nI j) = some (a.2.1 14 j, a) := by
  have hb := tp_b (n := 12) hj (by decide)
  have hc : (nI j).toNatClampNeg = j := tp_c (by omega)
  unfold f_X0_heatIn
  rw [tp_segT _ hj]
  simp only [Option.bind_some]
  rw [if_neg (by decide), if_pos hb, hc]
theorem dtI1 : ∀ k, k < 12 → nI k * 3 + 0 = nI (3 * k) ∧ nI k * 3 + 1 = nI (3 * k + 1) ∧ nI k * 3 + 2 = nI (3 * k + 2) := by decide
theorem dtI2 : ∀ k, k < 12 → 3 * nI k = nI (3 * k) ∧ 3 * nI k + 1 = nI (3 * k + 1) ∧ 3 * nI k + 2 = nI (3 * k + 2) := by decide
theorem tp_detW (a : twS) {k i : Nat} {v1 v2 : Int32} (h : v1 * 3 + v2 = nI i) (hi : i < 36) : f_X7_detectorWorks a v1 v2 = some (if a.2.1 9 i = 0 then 1 else 0, a) := by
  have hb := tp_b (n := 36) hi (by decide)
  have hc : (nI i).toNatClampNeg = i := tp_c (by omega)
  unfold f_X7_detectorWorks
  rw [h, if_neg (nI_pos (by omega)), if_neg (show ¬ (36 : Int32) ≤ nI i from nI_ge hi (by decide)), if_pos hb, hc]
  split <;> rfl
theorem tp_crowdN {t : Nat} {u : Nat × Int32} {a b : twS} (h : twR t u a b) {j : Nat} (hj : j < 12) : ∃ c, f_X3_insideOf a (nI j) = some (c, a) ∧ f_X8_personsIn b (nI j) = some (c, b) := by
  obtain ⟨hfan, hflow, hfire, hair, hdet, hdoor, hchart, ⟨c1, c2, p, hp, c3, c4, c5⟩, hst⟩ := h
  have hpb : b.1 31 = nI p := by rw [← c2]; exact c3
  have hne : ¬ (-1 : Int32) = nI j := fun e => by
    have q : ¬ (nI j) < 0 := nI_pos (by omega)
    rw [← e] at q
    exact q (by decide)
  obtain ⟨r, s, e1, e2, c, e3, e4⟩ := tp_loop2 (fun n k x => f_X3_insideOf_L4 n (nI j) x (nI k) a) (fun n k y => f_X8_personsIn_L4 n (nI j) y (nI k) b) p (fun _ x y => x = y) (fun r s => ∃ c, r = (c, a) ∧ s = (c, b))
    (by
      intro k x y hk hxy
      subst hxy
      have hb : twb (nI k) 30 = true := tp_b (by omega) (by decide)
      have hc : (nI k).toNatClampNeg = k := tp_c (by omega)
      have h30 : ¬ (30 : Int32) ≤ nI k := nI_ge (show k < 30 by omega) (by decide)
      have hkp : ¬ nI p ≤ nI k := nI_ge hk (by omega)
      obtain ⟨q1, q2, q3, q4, q5, q6, q7⟩ := c5 k hk
      have hA : ∀ n, f_X3_insideOf_L4 (n + 1) (nI j) x (nI k) a = f_X3_insideOf_L4 n (nI j) (if a.2.1 23 k = nI j then x + 1 else x) (nI (k + 1)) a := fun n => by
        show f_X3_insideOf_L4b (f_X3_insideOf_L4 n) (nI j) x (nI k) a = _
        unfold f_X3_insideOf_L4b
        rw [c3, if_neg hkp, if_neg h30, if_pos hb, hc, tp_s]
        split <;> rfl
      have hB : ∀ n, f_X8_personsIn_L4 (n + 1) (nI j) x (nI k) b = f_X8_personsIn_L4 n (nI j) (if a.2.1 23 k = nI j then x + 1 else x) (nI (k + 1)) b := fun n => by
        show f_X8_personsIn_L4b (f_X8_personsIn_L4 n) (nI j) x (nI k) b = _
        unfold f_X8_personsIn_L4b f_X8_personsIn_L37
        rw [hpb, if_neg hkp, if_pos hb, hc, tp_s]
        by_cases e3 : b.2.1 11 k = 3
        · rw [if_pos e3, q3 e3, if_neg hne, Int32.add_zero]
        · rw [if_neg e3, if_pos hb, q4 e3, Int32.add_zero]
          split <;> rfl
      left
      exact ⟨_, _, hA, hB, rfl⟩)
    (by
      intro x y hxy
      subst hxy
      refine ⟨(x, a), (x, b), fun n => ?_, fun n => ?_, x, rfl, rfl⟩
      · show f_X3_insideOf_L4b (f_X3_insideOf_L4 n) (nI j) x (nI p) a = _
        unfold f_X3_insideOf_L4b
        rw [c3, if_pos (Int32.le_refl _)]
      · show f_X8_personsIn_L4b (f_X8_personsIn_L4 n) (nI j) x (nI p) b = _
        unfold f_X8_personsIn_L4b
        rw [hpb, if_pos (Int32.le_refl _)])
    p 0 0 0 twN twN (by omega) (by show p < 2000; omega) (by show p < 2000; omega) rfl
  subst e3
  subst e4
  exact ⟨c, e1, e2⟩
theorem tp_tells {t : Nat} {u : Nat × Int32} {a b : twS} (h : twR t u a b) {k : Nat} (hk : k < 12) : ∃ c, f_X7_tellingIn a (nI k) = some (c, a) ∧ f_X8_tells b (nI k) = some (c, b) := by
  obtain ⟨c, hp1, hp2⟩ := tp_crowdN h hk
  obtain ⟨hfan, hflow, hfire, ⟨s1, s2⟩, hdet, hdoor, hchart, hcrowd, hst⟩ := h
  obtain ⟨i1, i2, i3⟩ := dtI1 k hk
  obtain ⟨j1, j2, j3⟩ := dtI2 k hk
  have D0 := tp_detW a (k := k) i1 (show 3 * k < 36 by omega)
  have D1 := tp_detW a (k := k) i2 (show 3 * k + 1 < 36 by omega)
  have D2 := tp_detW a (k := k) i3 (show 3 * k + 2 < 36 by omega)
  rw [hdet.1 _ (by omega)] at D0 D1 D2
  have b0 := tp_b (n := 36) (show 3 * k < 36 by omega) (by decide)
  have b1 := tp_b (n := 36) (show 3 * k + 1 < 36 by omega) (by decide)
  have b2 := tp_b (n := 36) (show 3 * k + 2 < 36 by omega) (by decide)
  have n0 : (nI (3 * k)).toNatClampNeg = 3 * k := tp_c (by omega)
  have n1 : (nI (3 * k + 1)).toNatClampNeg = 3 * k + 1 := tp_c (by omega)
  have n2 : (nI (3 * k + 2)).toNatClampNeg = 3 * k + 2 := tp_c (by omega)
  have hb := tp_b (n := 12) hk (by decide)
  have hc : (nI k).toNatClampNeg = k := tp_c (by omega)
  unfold f_X7_tellingIn f_X8_tells f_X8_tells_L26 f_X8_tells_L27 f_X8_tells_L57
  rw [tp_smokeS a hk]
  simp only [Option.bind_some]
  rw [tp_heatS a hk]
  simp only [Option.bind_some]
  rw [D0, (s1 k hk).1, (s1 k hk).2]
  simp only [Option.bind_some, hb, if_true, hc, j1, tp_s, b0, b1, n0, n1]
  generalize hS : b.2.1 1 k = S
  have H58 : ∀ x y : Int32, f_X8_tells_L58 (nI k) x y b = some ((y + x) + (if S < 10 then 0 else if c ≤ 0 then 0 else if b.2.1 7 (3 * k + 2) = 0 then 1 else 0), b) := fun x y => by
    unfold f_X8_tells_L58
    rw [if_pos hb, hc, hS, hp2]
    simp only [Option.bind_some, j3]
    rw [if_pos b2, n2]
    by_cases d1 : S < 10
    · rw [if_pos d1, if_pos d1]
    · rw [if_neg d1, if_neg d1]
      by_cases d2 : c ≤ 0
      · rw [if_pos d2, if_pos d2]
      · rw [if_neg d2, if_neg d2]
        split <;> rfl
  have H54 : ∀ x : Int32, f_X7_tellingIn_L54 (nI k) S x a = some (x + (if S < 10 then 0 else if c ≤ 0 then 0 else if b.2.1 7 (3 * k + 2) = 0 then 1 else 0), a) := fun x => by
    unfold f_X7_tellingIn_L54
    rw [D2]
    simp only [Option.bind_some, hp1]
    by_cases d1 : S < 10
    · rw [if_pos d1, if_pos d1, Int32.add_zero]
    · rw [if_neg d1, if_neg d1]
      by_cases d3 : b.2.1 7 (3 * k + 2) = 0
      · rw [if_pos d3, if_neg (by decide)]
        by_cases d2 : c ≤ 0
        · rw [if_pos d2, if_pos d2, Int32.add_zero]
        · rw [if_neg d2, if_neg d2]
      · rw [if_neg d3, if_pos rfl]
        simp
  have H36 : ∀ x : Int32, f_X7_tellingIn_L36 (nI k) S x a = some (x + (if S < 15 then 0 else if b.2.1 7 (3 * k + 1) = 0 then 1 else 0) + (if S < 10 then 0 else if c ≤ 0 then 0 else if b.2.1 7 (3 * k + 2) = 0 then 1 else 0), a) := fun x => by
    unfold f_X7_tellingIn_L36
    rw [D1]
    simp only [Option.bind_some]
    by_cases d1 : S < 15
    · rw [if_pos d1, if_pos d1, H54, Int32.add_zero]
    · rw [if_neg d1, if_neg d1]
      by_cases d3 : b.2.1 7 (3 * k + 1) = 0
      · rw [if_pos d3, if_neg (by decide), H54]
      · rw [if_neg d3, if_pos rfl, H54, Int32.add_zero]
  simp only [H36, H58]
  generalize (if S < 10 then (0 : Int32) else if c ≤ 0 then 0 else if b.2.1 7 (3 * k + 2) = 0 then 1 else 0) = W
  by_cases d1 : b.2.1 2 k < 20
  · rw [if_pos d1, if_pos d1]
    refine ⟨_, rfl, ?_⟩
    by_cases d2 : S < 15
    · rw [if_pos d2, if_pos d2]
    · rw [if_neg d2, if_neg d2]
      by_cases d3 : b.2.1 7 (3 * k + 1) = 0
      · rw [if_pos d3, if_pos d3]
      · rw [if_neg d3, if_neg d3]
  · rw [if_neg d1, if_neg d1]
    by_cases d4 : b.2.1 7 (3 * k) = 0
    · rw [if_pos d4, if_neg (by decide), if_pos d4]
      refine ⟨_, rfl, ?_⟩
      by_cases d2 : S < 15
      · rw [if_pos d2, if_pos d2]
        rfl
      · rw [if_neg d2, if_neg d2]
        by_cases d3 : b.2.1 7 (3 * k + 1) = 0
        · rw [if_pos d3, if_pos d3]
          rfl
        · rw [if_neg d3, if_neg d3]
          rfl
    · rw [if_neg d4, if_pos rfl, if_neg d4]
      refine ⟨_, rfl, ?_⟩
      by_cases d2 : S < 15
      · rw [if_pos d2, if_pos d2]
      · rw [if_neg d2, if_neg d2]
        by_cases d3 : b.2.1 7 (3 * k + 1) = 0
        · rw [if_pos d3, if_pos d3]
        · rw [if_neg d3, if_neg d3]
theorem tp_segne {x : Int32} (h : seg x) : x ≠ -1 := by
  obtain ⟨j, hj, rfl⟩ := h
  intro e
  have q : ¬ (nI j) < 0 := nI_pos (by omega)
  rw [e] at q
  exact q (by decide)
theorem tp_watch {t : Nat} {u : Nat × Int32} {a b : twS} (h : twR t u a b) : ∃ a' b', f_X7_watch a = some a' ∧ f_X8_detects b = some b' ∧ twR t u a' b' := by
  unfold f_X7_watch f_X8_detects
  refine tp_loop2 (fun n k x => f_X7_watch_L2 n (nI k) x) (fun n k y => f_X8_detects_L2 n (nI k) y) 12 (fun _ x y => twR t u x y) (twR t u) ?_ ?_ 12 0 a b twN twN rfl (by decide) (by decide) h
  · intro k x y hk hR
    have h0 := hR
    obtain ⟨c, hp1, hp2⟩ := tp_tells hR hk
    obtain ⟨hfan, hflow, hfire, hair, hdet, hdoor, ⟨r1, r2, r3, r4, r5, c0, n0, r6, r7, r8, r9, r10, r11⟩, hcrowd, hst1, hst2⟩ := hR
    have h12 : ¬ (12 : Int32) ≤ nI k := nI_ge hk (by decide)
    by_cases e : x.1 3 = -1
    · have e2 : y.1 24 = -1 := by rw [← r1]; exact e
      left
      by_cases d : c < 2
      · refine ⟨x, y, fun n => ?_, fun n => ?_, h0⟩
        · show f_X7_watch_L2b (f_X7_watch_L2 n) (nI k) x = _
          unfold f_X7_watch_L2b
          rw [if_neg h12, if_pos e, hp1]
          simp only [Option.bind_some]
          rw [if_pos d, tp_s]
        · show f_X8_detects_L2b (f_X8_detects_L2 n) (nI k) y = _
          unfold f_X8_detects_L2b
          rw [if_neg h12, if_pos e2, hp2]
          simp only [Option.bind_some]
          rw [if_pos d, tp_s]
      · have n00 : n0 = 0 := r10 e
        subst n00
        obtain ⟨q1, q2, q3, ⟨w, hw, q4⟩, q5⟩ := r5 0 (by decide)
        refine ⟨twI (twI x 3 (nI k)) 15 (x.1 4), twI (twI y 24 (nI k)) 30 (y.1 0 + y.2.1 9 0), fun n => ?_, fun n => ?_, ⟨hfan, hflow, hfire, hair, hdet, hdoor, ⟨rfl, Or.inr ⟨k, hk, rfl⟩, r3, r4, r5, c0, 0, r6, r7, r8, r9, fun _ => rfl, fun _ hc0 => ⟨t, w, Nat.le_refl t, hw, by omega, hst1, q4, ?_⟩⟩, hcrowd, hst1, hst2⟩⟩
        · show f_X7_watch_L2b (f_X7_watch_L2 n) (nI k) x = _
          unfold f_X7_watch_L2b f_X2_start
          rw [if_neg h12, if_pos e, hp1]
          simp only [Option.bind_some]
          rw [if_neg d, tp_s]
          rfl
        · show f_X8_detects_L2b (f_X8_detects_L2 n) (nI k) y = _
          unfold f_X8_detects_L2b
          rw [if_neg h12, if_pos e2, hp2]
          simp only [Option.bind_some]
          rw [if_neg d, if_pos (by decide), tp_s]
          rfl
        · show y.1 0 + y.2.1 9 0 = nI (t + w)
          rw [hst2, ← q2, q4, nI_add]
    · right
      have e2 : ¬ y.1 24 = -1 := by rw [← r1]; exact e
      refine ⟨x, y, fun n => ?_, fun n => ?_, h0⟩
      · show f_X7_watch_L2b (f_X7_watch_L2 n) (nI k) x = _
        unfold f_X7_watch_L2b
        rw [if_neg h12, if_neg e]
      · show f_X8_detects_L2b (f_X8_detects_L2 n) (nI k) y = _
        unfold f_X8_detects_L2b
        rw [if_neg h12, if_neg e2]
  · intro x y hR
    refine ⟨x, y, fun n => ?_, fun n => ?_, hR⟩
    · show f_X7_watch_L2b (f_X7_watch_L2 n) (nI 12) x = some x
      unfold f_X7_watch_L2b
      rw [if_pos (by decide)]
    · show f_X8_detects_L2b (f_X8_detects_L2 n) (nI 12) y = some y
      unfold f_X8_detects_L2b
      rw [if_pos (by decide)]
