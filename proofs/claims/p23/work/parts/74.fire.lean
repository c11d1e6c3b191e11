/-! ===== the pure side: the fire ===== -/
theorem tp_segT (st : twS) {k : Nat} (h : k < 12) : f_X7_isSegment st (nI k) = some (1, st) := by
  unfold f_X7_isSegment
  rw [if_neg (nI_pos (by omega)), if_neg (show ¬ (12 : Int32) ≤ nI k from nI_ge h (by decide))]
theorem tp_btw (st : twS) {v lo hi : Int32} (h1 : ¬ v < lo) (h2 : ¬ hi < v) : f_X8_isBetween st v lo hi = some (1, st) := by
  unfold f_X8_isBetween
  rw [if_neg h1, if_neg h2]
theorem tp_segM (st : twS) {k : Nat} (h : k < 12) : f_X8_isSegment st (nI k) = some (1, st) := by
  unfold f_X8_isSegment
  rw [tp_btw st (nI_pos (by omega)) (show ¬ (11 : Int32) < nI k from nI_nlt (a := 11) (b := k) (by omega) (by decide))]
  rfl
def pwr (n z : Nat) : Nat := if 1 + n * n / 4 < z then 1 + n * n / 4 else z
theorem tp_sq {n : Nat} (hn : n ≤ 60001) : n * n ≤ 60001 * 60001 := Nat.mul_le_mul hn hn
theorem tp_pwrT {n z : Nat} (hn : n ≤ 60000) (hz : z ≤ 200) : (if (1 + ((lN n * lN n) / 4)) < ((nI z).toInt64) then (1 + ((lN n * lN n) / 4)) else ((nI z).toInt64)).toInt32 = nI (pwr n z) := by
  have h1 := tp_sq (n := n) (by omega)
  have e1 : (lN n * lN n) / 4 = lN (n * n / 4) := by
    rw [lN_mul]
    exact pk_lDiv (a := n * n) (b := 4) (by omega) (by decide) (by decide)
  have e2 : (1 : Int64) + lN (n * n / 4) = lN (1 + n * n / 4) := lN_add 1 (n * n / 4)
  have e3 : (nI z).toInt64 = lN z := nI_l (by omega)
  have h2 : 1 + n * n / 4 < 2 ^ 31 := by omega
  rw [e1, e2, e3]
  unfold pwr
  by_cases c : 1 + n * n / 4 < z
  · rw [if_pos ((lN_lt h2 (by omega)).mpr c), if_pos c, lN_i]
  · rw [if_neg (fun q => c ((lN_lt h2 (by omega)).mp q)), if_neg c, lN_i]
theorem tp_burnsM {b : twS} {n z : Nat} (hn : n ≤ 60000) (hz : z ≤ 200) (h1 : b.1 20 = nI n) (h2 : b.1 19 = nI z) (h3 : ¬ b.1 18 = -1) : f_X8_burns b = f_X8_burns_L55 (nI (pwr n z)) b := by
  have h4 := tp_sq (n := n) (by omega)
  unfold f_X8_burns
  rw [if_neg h3, h1]
  by_cases c : n ≤ 100
  · rw [if_pos (show nI n ≤ (100 : Int32) from nI_le (b := 100) c (by decide))]
    have h5 : n * n ≤ 100 * 100 := Nat.mul_le_mul c c
    have e1 : (nI n * nI n) / 4 = nI (n * n / 4) := by
      rw [pk_mul]
      exact pk_div (a := n * n) (d := 4) (by omega) (by decide) (by decide)
    have e2 : (1 : Int32) + nI (n * n / 4) = nI (1 + n * n / 4) := nI_add 1 (n * n / 4)
    rw [e1, e2]
    unfold f_X8_burns_L38 pwr
    rw [h2]
    by_cases c2 : 1 + n * n / 4 < z
    · rw [if_pos c2, if_neg (nI_ge c2 (by omega))]
    · rw [if_neg c2, if_pos (nI_le (by omega) (by omega))]
  · rw [if_neg (show ¬ nI n ≤ (100 : Int32) from nI_ge (a := 100) (b := n) (by omega) (by omega))]
    have h6 : 101 * 101 ≤ n * n := Nat.mul_le_mul (by omega) (by omega)
    unfold f_X8_burns_L38 pwr
    rw [h2, if_pos (Int32.le_refl _), if_neg (show ¬ 1 + n * n / 4 < z by omega)]
theorem tp_burnsL {b : twS} {j : Nat} (hj : j < 12) (h : b.1 18 = nI j) (v : Int32) : f_X8_burns_L91 v b = some (twI (twA (twA (twI b 20 (b.1 20 + 1)) 1 (nI j) (b.2.1 1 j + v)) 2 (nI j) (b.2.1 2 j + v)) 21 (b.1 21 + v)) := by
  have hb : twb (nI j) 12 = true := tp_b hj (by decide)
  have hc : (nI j).toNatClampNeg = j := tp_c (by omega)
  unfold f_X8_burns_L91
  simp only [tp_a1, tp_i1, tp_i2, tp_a2, h, hb, hc, if_true, if_false, Nat.reduceEqDiff]
theorem tp_burnTL {a : twS} {j : Nat} (hj : j < 12) (v : Int32) : f_X0_feedFrom (twI (twL a (a.2.2.1 + 1)) 12 (((twL a (a.2.2.1 + 1)).1 12) + v)) (nI j) v = some (twA (twA (twI (twL a (a.2.2.1 + 1)) 12 (a.1 12 + v)) 13 (nI j) (a.2.1 13 j + v)) 14 (nI j) (a.2.1 14 j + v)) := by
  have hb : twb (nI j) 12 = true := tp_b hj (by decide)
  have hc : (nI j).toNatClampNeg = j := tp_c (by omega)
  unfold f_X0_feedFrom
  rw [tp_segT _ hj]
  simp only [Option.bind_some, hb, if_true, tp_a2, tp_i2, tp_l1, tp_l2, hc]
  rfl
theorem tp_burnR {t : Nat} {u : Nat × Int32} {a b : twS} (h : twR t u a b) {j : Nat} (hj : j < 12) (v : Int32) : twR t (u.1 + 1, u.2) (twA (twA (twI (twL a (a.2.2.1 + 1)) 12 (a.1 12 + v)) 13 (nI j) (a.2.1 13 j + v)) 14 (nI j) (a.2.1 14 j + v)) (twI (twA (twA (twI b 20 (b.1 20 + 1)) 1 (nI j) (b.2.1 1 j + v)) 2 (nI j) (b.2.1 2 j + v)) 21 (b.1 21 + v)) := by
  obtain ⟨hfan, hflow, ⟨r1, r2, r3, r4, r5, ⟨n, hn, r6, r7⟩, r8⟩, ⟨s1, s2⟩, hdet, hdoor, hchart, hcrowd, hst⟩ := h
  have hc : (nI j).toNatClampNeg = j := tp_c (by omega)
  refine ⟨hfan, hflow, ⟨r1, r2, r3, r4, ?_, ⟨n + 1, Nat.succ_le_succ hn, ?_, ?_⟩, r8⟩, ⟨fun k hk => ?_, s2⟩, hdet, hdoor, hchart, hcrowd, hst⟩
  · show a.1 12 + v = b.1 21 + v
    rw [r5]
  · show a.2.2.1 + 1 = lN (n + 1)
    rw [r6, lN_1]
  · show b.1 20 + 1 = nI (n + 1)
    rw [r7, nI_1]
  · show upd (a.2.1 13) (nI j).toNatClampNeg (a.2.1 13 j + v) k = upd (b.2.1 1) (nI j).toNatClampNeg (b.2.1 1 j + v) k ∧ upd (a.2.1 14) (nI j).toNatClampNeg (a.2.1 14 j + v) k = upd (b.2.1 2) (nI j).toNatClampNeg (b.2.1 2 j + v) k
    have q1 := s1 k hk
    have q2 := s1 j hj
    simp only [tp_u, hc]
    by_cases e : k = j
    · simp [e, q2.1, q2.2]
    · simp [e, q1.1, q1.2]
theorem tp_burn {t : Nat} {u : Nat × Int32} {a b : twS} (hu : u.1 ≤ 60000) (h : twR t u a b) : ∃ a' b', f_X7_burn a = some a' ∧ f_X8_burns b = some b' ∧ twR t (u.1 + 1, u.2) a' b' := by
  have h0 := h
  obtain ⟨⟨hpw, hfan⟩, hflow, ⟨r1, r2, r3, r4, r5, ⟨n, hn, r6, r7⟩, r8⟩, hair, hdet, hdoor, hchart, hcrowd, hst⟩ := h
  rcases r8 with r8 | ⟨⟨j, hj, r8⟩, z, hz1, hz2, r9⟩
  · refine ⟨a, b, ?_, ?_, ⟨⟨hpw, hfan⟩, hflow, ⟨r1, r2, r3, r4, r5, ⟨n, Nat.le_succ_of_le hn, r6, r7⟩, Or.inl r8⟩, hair, hdet, hdoor, hchart, hcrowd, hst⟩⟩
    · unfold f_X7_burn f_X1_isBurning
      rw [if_pos r8]
      rfl
    · unfold f_X8_burns
      rw [if_pos (by rw [← r1]; exact r8)]
  · have hne : ¬ nI j = (-1 : Int32) := fun e => by
      have q := nI_pos' (n := j) (by omega)
      rw [e] at q
      exact absurd q (by decide)
    have ha : ¬ a.1 8 = -1 := by rw [r8]; exact hne
    have hb : ¬ b.1 18 = -1 := by rw [← r1]; exact ha
    have hbj : b.1 18 = nI j := by rw [← r1]; exact r8
    have eM := tp_burnsM (b := b) (by omega) hz2 r7 (by rw [← r2]; exact r9) hb
    have eT := tp_pwrT (n := n) (z := z) (by omega) hz2
    have epw : pw (b.2.1 6) = pw (a.2.1 8) := (tp_pwE hpw).symm
    have eA : f_X7_burn a = (f_X1_burn a (pw (a.2.1 8))).bind fun y5 => (f_X0_feedFrom y5.2 (nI j) y5.1).bind fun y6 => some y6 := by
      unfold f_X7_burn f_X1_isBurning f_X1_place
      rw [if_neg ha]
      simp only [Option.bind_some, r8, tp_pwT]
      rw [if_neg (by decide)]
    by_cases c : a.1 11 = 0 ∨ pw (a.2.1 8) = 0 ∨ a.1 10 ≤ 0
    · have e1 : f_X1_burn a (pw (a.2.1 8)) = f_X1_burn_L57 (nI (pwr n z)) a := by
        unfold f_X1_burn
        rw [r6, r9, eT]
        by_cases c1 : a.1 11 = 0
        · rw [if_pos c1]
        · rw [if_neg c1]
          by_cases c2 : pw (a.2.1 8) = 0
          · rw [if_pos c2]
          · rw [if_neg c2, if_pos (by rcases c with c | c | c; exact absurd c c1; exact absurd c c2; exact c)]
      have e2 : f_X8_burns_L55 (nI (pwr n z)) b = f_X8_burns_L91 (nI (pwr n z)) b := by
        unfold f_X8_burns_L55
        rw [← r4, ← r3]
        by_cases c1 : a.1 11 = 0
        · rw [if_pos c1]
        · rw [if_neg c1]
          by_cases c2 : a.1 10 ≤ 0
          · rw [if_pos c2]
          · rw [if_neg c2, tp_pwM, epw]
            show (if pw (a.2.1 8) = 0 then _ else _) = _
            rw [if_pos (by rcases c with c | c | c; exact absurd c c1; exact c; exact absurd c c2)]
      refine ⟨_, _, ?_, ?_, tp_burnR h0 hj (nI (pwr n z))⟩
      · rw [eA, e1]
        unfold f_X1_burn_L57
        show ((f_X0_feedFrom _ (nI j) (nI (pwr n z))).bind fun y6 => some y6) = _
        rw [tp_burnTL hj]
        rfl
      · rw [eM, e2, tp_burnsL hj hbj]
    · have c1 : ¬ a.1 11 = 0 := fun q => c (Or.inl q)
      have c2 : ¬ pw (a.2.1 8) = 0 := fun q => c (Or.inr (Or.inl q))
      have c3 : ¬ a.1 10 ≤ 0 := fun q => c (Or.inr (Or.inr q))
      have e1 : f_X1_burn a (pw (a.2.1 8)) = f_X1_burn_L57 (nI (pwr n z) / 2) (twI a 10 (a.1 10 - 1)) := by
        unfold f_X1_burn
        rw [r6, r9, eT, if_neg c1, if_neg c2, if_neg c3]
      have e2 : f_X8_burns_L55 (nI (pwr n z)) b = f_X8_burns_L91 (nI (pwr n z) / 2) (twI b 14 (b.1 14 - 1)) := by
        unfold f_X8_burns_L55
        rw [if_neg (by rw [← r4]; exact c1), if_neg (by rw [← r3]; exact c3), tp_pwM, epw]
        show (if pw (a.2.1 8) = 0 then _ else _) = _
        rw [if_neg c2]
      have hR1 : twR t u (twI a 10 (a.1 10 - 1)) (twI b 14 (b.1 14 - 1)) := by
        refine ⟨⟨hpw, hfan⟩, hflow, ⟨r1, r2, ?_, r4, r5, ⟨n, hn, r6, r7⟩, Or.inr ⟨⟨j, hj, r8⟩, z, hz1, hz2, r9⟩⟩, hair, hdet, hdoor, hchart, hcrowd, hst⟩
        show a.1 10 - 1 = b.1 14 - 1
        rw [r3]
      refine ⟨_, _, ?_, ?_, tp_burnR hR1 hj (nI (pwr n z) / 2)⟩
      · rw [eA, e1]
        unfold f_X1_burn_L57
        show ((f_X0_feedFrom _ (nI j) (nI (pwr n z) / 2)).bind fun y6 => some y6) = _
        rw [tp_burnTL hj]
        rfl
      · rw [eM, e2, tp_burnsL hj (show (twI b 14 (b.1 14 - 1)).1 18 = nI j from hbj)]
