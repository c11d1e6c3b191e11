/-! ===== the pure side: smoke and heat ===== -/
theorem tp_loopE {α ρ : Type} (F : Nat → Nat → α → Option ρ) (N : Nat) (P : Nat → α → Prop) (E : α → Option ρ)
    (hs : ∀ k a, k < N → P k a → ∃ a1, (∀ n, F (n + 1) k a = F n (k + 1) a1) ∧ P (k + 1) a1)
    (he : ∀ n a, P N a → F (n + 1) N a = E a) : ∀ (j k : Nat) (a : α) (n : Nat), k + j = N → j < n → P k a → ∃ a1, F n k a = E a1 ∧ P N a1 := by
  intro j
  induction j with
  | zero =>
    intro k a n hk hn hP
    obtain ⟨n, rfl⟩ : ∃ m, n = m + 1 := ⟨n - 1, by omega⟩
    have e : k = N := by omega
    subst e
    exact ⟨a, he n a hP, hP⟩
  | succ j ih =>
    intro k a n hk hn hP
    obtain ⟨n, rfl⟩ : ∃ m, n = m + 1 := ⟨n - 1, by omega⟩
    obtain ⟨a1, h1, h2⟩ := hs k a (by omega) hP
    rw [h1]
    exact ih (k + 1) a1 n (by omega) (by omega) h2
theorem ar1 (s x l : Int32) : s + x - l = s - l + x := by
  rw [Int32.sub_eq_add_neg, Int32.sub_eq_add_neg, Int32.add_assoc, Int32.add_comm x, ← Int32.add_assoc]
def offTube (x : Int32) : Prop := x = -1 ∨ x = nI 12
theorem tp_segTo (st : twS) {x : Int32} (h : offTube x) : f_X7_isSegment st x = some (0, st) := by
  rcases h with rfl | rfl <;> rfl
theorem tp_segMo (st : twS) {x : Int32} (h : offTube x) : f_X8_isSegment st x = some (0, st) := by
  rcases h with rfl | rfl <;> rfl
theorem tp_shiftS (y : twS) {k m : Nat} (hk : k < 12) (hm : m < 12) (v : Int32) : f_X0_shift y (nI k) (nI m) v = some (twA (twA y 13 (nI k) (y.2.1 13 k - v)) 13 (nI m) ((upd (y.2.1 13) k (y.2.1 13 k - v)) m + v)) := by
  have hb := tp_b (n := 12) hk (by decide)
  have hb2 := tp_b (n := 12) hm (by decide)
  have hc : (nI k).toNatClampNeg = k := tp_c (by omega)
  have hc2 : (nI m).toNatClampNeg = m := tp_c (by omega)
  unfold f_X0_shift
  rw [tp_segT _ hk]
  simp only [Option.bind_some]
  rw [if_neg (by decide), if_pos hb, if_pos hb, tp_segT _ hm]
  simp only [Option.bind_some]
  rw [if_neg (by decide), if_pos hb2, if_pos hb2]
  simp only [hc, hc2, tp_a2, if_true]
theorem tp_shiftO (y : twS) {k : Nat} (hk : k < 12) {x : Int32} (hx : offTube x) (v : Int32) : f_X0_shift y (nI k) x v = some (twI (twA y 13 (nI k) (y.2.1 13 k - v)) 7 (y.1 7 + v)) := by
  have hb := tp_b (n := 12) hk (by decide)
  have hc : (nI k).toNatClampNeg = k := tp_c (by omega)
  unfold f_X0_shift
  rw [tp_segT _ hk]
  simp only [Option.bind_some]
  rw [if_neg (by decide), if_pos hb, if_pos hb, tp_segTo _ hx]
  simp only [Option.bind_some]
  rw [if_pos trivial]
  simp only [hc, tp_a1]
theorem tp_comesS (y : twS) {m : Nat} (hm : m < 12) (v : Int32) : f_X8_comes y (nI m) v = some (twA y 1 (nI m) (y.2.1 1 m + v)) := by
  have hb2 := tp_b (n := 12) hm (by decide)
  have hc2 : (nI m).toNatClampNeg = m := tp_c (by omega)
  unfold f_X8_comes
  rw [tp_segM _ hm]
  simp only [Option.bind_some]
  rw [if_neg (by decide), if_pos hb2, if_pos hb2]
  simp only [hc2]
theorem tp_comesO (y : twS) {x : Int32} (hx : offTube x) (v : Int32) : f_X8_comes y x v = some (twI y 22 (y.1 22 + v)) := by
  unfold f_X8_comes
  rw [tp_segMo _ hx]
  simp only [Option.bind_some]
  rw [if_pos trivial]
/-- what goes from j to x, on both sides -/
theorem tp_shiftR {t : Nat} {u : Nat × Int32} {a b : twS} (h : twR t u a b) {j : Nat} (hj : j < 12) {x : Int32} (hx : seg x ∨ offTube x) (v : Int32) : ∃ a' b', f_X0_shift a (nI j) x v = some a' ∧ f_X8_comes (twA b 1 (nI j) (b.2.1 1 j - v)) x v = some b' ∧ twR t u a' b' ∧ a'.2.2 = a.2.2 := by
  obtain ⟨hfan, hflow, hfire, ⟨s1, s2, s3⟩, hdet, hdoor, hchart, hcrowd, hst⟩ := h
  have hc : (nI j).toNatClampNeg = j := tp_c (by omega)
  rcases hx with ⟨m, hm, rfl⟩ | hx
  · have hc2 : (nI m).toNatClampNeg = m := tp_c (by omega)
    refine ⟨_, _, tp_shiftS a hj hm v, tp_comesS _ hm v, ⟨hfan, hflow, hfire, ⟨fun k hk => ?_, s2, s3⟩, hdet, hdoor, hchart, hcrowd, hst⟩, rfl⟩
    have q1 := s1 k hk
    have q2 := s1 j hj
    have q3 := s1 m hm
    refine ⟨?_, q1.2⟩
    simp only [tp_aa, tp_u, hc, hc2, if_true]
    by_cases e1 : k = m
    · subst e1
      by_cases e2 : k = j
      · simp [e2, q2.1]
      · simp [e2, q1.1]
    · by_cases e2 : k = j
      · subst e2
        simp [e1, q2.1]
      · simp [e1, e2, q1.1]
  · refine ⟨_, _, tp_shiftO a hj hx v, tp_comesO _ hx v, ⟨hfan, hflow, hfire, ⟨fun k hk => ?_, ?_, s3⟩, hdet, hdoor, hchart, hcrowd, hst⟩, rfl⟩
    · have q1 := s1 k hk
      have q2 := s1 j hj
      refine ⟨?_, q1.2⟩
      show upd (a.2.1 13) (nI j).toNatClampNeg (a.2.1 13 j - v) k = upd (b.2.1 1) (nI j).toNatClampNeg (b.2.1 1 j - v) k
      simp only [tp_u, hc]
      by_cases e : k = j
      · simp [e, q2.1]
      · simp [e, q1.1]
    · show a.1 7 + v = b.1 22 + v
      rw [s2]
abbrev dNon (d : UInt64) : Prop := 0 ≤ (Op.cmpValue (FP.dcmp d FP.dconst0) CmpOp.g)
def dAbs (d : UInt64) : UInt64 := if 0 ≤ (Op.cmpValue (FP.dcmp d FP.dconst0) CmpOp.g) then d else FP.dneg d
def dWay (d : UInt64) : Int32 := if 0 ≤ (Op.cmpValue (FP.dcmp d FP.dconst0) CmpOp.g) then 1 else -1
theorem tp_abs (a : twS) (d : UInt64) : f_X0_withoutSign a d = some (dAbs d, a) := by
  unfold f_X0_withoutSign dAbs
  split <;> rfl
theorem tp_side (a : twS) (d : UInt64) : f_X0_side a d = some (dWay d, a) := by
  unfold f_X0_side dWay
  split <;> rfl
theorem tp_absM (b : twS) : f_X8_strength b = some (dAbs b.2.2.2, b) := by
  unfold f_X8_strength dAbs
  split <;> rfl
/-- the smoke behind the drift -/
def drf (w : Bool) (s l : Nat → Int32) (m : Nat) : Int32 := if w = true then s m - l m + (if 1 ≤ m then l (m - 1) else 0) else s m - l m + (if m < 11 then l (m + 1) else 0)
theorem z0 (s : Int32) : s - 0 = s := by simp
theorem tp_drift44 (d : UInt64) (x : twS) : ∃ y, f_X0_drift_L44 twN d 0 x = some y ∧ (∀ m, m < 12 → y.2.1 13 m = drf (decide (dNon d)) (x.2.1 13) (x.2.1 15) m) ∧ y.1 7 = x.1 7 + x.2.1 15 (if dNon d then 11 else 0) ∧ (∀ j, j ≠ 7 → y.1 j = x.1 j) ∧ (∀ j, j ≠ 13 → y.2.1 j = x.2.1 j) ∧ y.2.2 = x.2.2 := by
  by_cases c : dNon d
  · have hw : dWay d = 1 := if_pos c
    obtain ⟨y, h1, ⟨h2, h3, h4, h5, h6⟩⟩ := tp_loopE (fun n k y => f_X0_drift_L44 n d (nI k) y) 12
      (fun k y => (∀ m, m < 12 → y.2.1 13 m = x.2.1 13 m - (if m < k then x.2.1 15 m else 0) + (if 1 ≤ m ∧ m ≤ k then x.2.1 15 (m - 1) else 0)) ∧ y.1 7 = x.1 7 + (if 12 ≤ k then x.2.1 15 11 else 0) ∧ (∀ j, j ≠ 7 → y.1 j = x.1 j) ∧ (∀ j, j ≠ 13 → y.2.1 j = x.2.1 j) ∧ y.2.2 = x.2.2) some
      (by
        intro k y hk ⟨p1, p2, p3, p4, p5⟩
        have hb := tp_b (n := 12) hk (by decide)
        have hc : (nI k).toNatClampNeg = k := tp_c (by omega)
        have h12 : ¬ (12 : Int32) ≤ nI k := nI_ge hk (by decide)
        have hlv : y.2.1 15 k = x.2.1 15 k := by rw [p4 15 (by decide)]
        have hstep : ∀ n, f_X0_drift_L44 (n + 1) d (nI k) y = (f_X0_shift y (nI k) (nI (k + 1)) (x.2.1 15 k)).bind fun z => f_X0_drift_L44 n d (nI (k + 1)) z := fun n => by
          show f_X0_drift_L44b (f_X0_drift_L44 n) d (nI k) y = _
          unfold f_X0_drift_L44b
          rw [if_neg h12, tp_side]
          simp only [Option.bind_some]
          rw [if_pos hb, hw, hc]
          show (f_X0_shift y (nI k) (nI k + 1) (y.2.1 15 k)).bind _ = _
          rw [hlv, tp_s]
        by_cases k11 : k < 11
        · refine ⟨twA (twA y 13 (nI k) (y.2.1 13 k - x.2.1 15 k)) 13 (nI (k + 1)) ((upd (y.2.1 13) k (y.2.1 13 k - x.2.1 15 k)) (k + 1) + x.2.1 15 k), fun n => by rw [hstep n, tp_shiftS y hk (show k + 1 < 12 by omega)]; rfl, fun m hm => ?_, ?_, p3, fun j hj => ?_, p5⟩
          · have hc2 : (nI (k + 1)).toNatClampNeg = k + 1 := tp_c (by omega)
            simp only [tp_aa, tp_u, hc, hc2, if_true]
            by_cases e1 : m = k + 1
            · subst e1
              have q := p1 (k + 1) (by omega)
              rw [if_neg (show ¬ k + 1 < k by omega), if_neg (show ¬ (1 ≤ k + 1 ∧ k + 1 ≤ k) by omega)] at q
              simp [q]
            · by_cases e2 : m = k
              · subst e2
                have q := p1 m hm
                rw [if_neg (show ¬ m < m by omega), z0] at q
                rw [if_neg e1, if_pos rfl, q, ar1, if_pos (show m < m + 1 by omega)]
                congr 1
                simp only [show (1 ≤ m ∧ m ≤ m) ↔ (1 ≤ m ∧ m ≤ m + 1) by omega]
              · have q := p1 m hm
                rw [if_neg e1, if_neg e2, q]
                simp only [show (m < k) ↔ (m < k + 1) by omega, show (1 ≤ m ∧ m ≤ k) ↔ (1 ≤ m ∧ m ≤ k + 1) by omega]
          · show y.1 7 = _
            rw [p2, if_neg (show ¬ 12 ≤ k by omega), if_neg (show ¬ 12 ≤ k + 1 by omega)]
          · simp only [tp_a2, if_neg hj]
            exact p4 j hj
        · have ek : k = 11 := by omega
          subst ek
          refine ⟨twI (twA y 13 (nI 11) (y.2.1 13 11 - x.2.1 15 11)) 7 (y.1 7 + x.2.1 15 11), fun n => by rw [hstep n, tp_shiftO y hk (Or.inr rfl)]; rfl, fun m hm => ?_, ?_, fun j hj => ?_, fun j hj => ?_, p5⟩
          · show upd (y.2.1 13) (nI 11).toNatClampNeg (y.2.1 13 11 - x.2.1 15 11) m = _
            rw [hc]
            simp only [tp_u]
            by_cases e2 : m = 11
            · subst e2
              have q := p1 11 hm
              simp at q
              simp [q, ar1]
            · have q := p1 m hm
              rw [if_neg e2, q]
              simp only [show (m < 11) ↔ (m < 11 + 1) by omega, show (1 ≤ m ∧ m ≤ 11) ↔ (1 ≤ m ∧ m ≤ 11 + 1) by omega]
          · show y.1 7 + x.2.1 15 11 = _
            rw [p2]
            simp
          · rw [tp_i1, if_neg hj]
            exact p3 j hj
          · simp only [tp_i2, tp_a2, if_neg hj]
            exact p4 j hj)
      (by
        intro n y _
        show f_X0_drift_L44b (f_X0_drift_L44 n) d (nI 12) y = _
        unfold f_X0_drift_L44b
        rw [if_pos (by decide)])
      12 0 x twN rfl (by decide) ⟨fun m hm => by rw [if_neg (by omega), if_neg (by omega)]; simp, by simp, fun _ _ => rfl, fun _ _ => rfl, rfl⟩
    refine ⟨y, h1, fun m hm => ?_, ?_, h4, h5, h6⟩
    · rw [h2 m hm]
      unfold drf
      rw [if_pos (decide_eq_true c), if_pos hm]
      simp only [show (1 ≤ m ∧ m ≤ 12) ↔ 1 ≤ m by omega]
    · rw [h3, if_pos c]
      simp
  · have hw : dWay d = -1 := if_neg c
    obtain ⟨y, h1, ⟨h2, h3, h4, h5, h6⟩⟩ := tp_loopE (fun n k y => f_X0_drift_L44 n d (nI k) y) 12
      (fun k y => (∀ m, m < 12 → y.2.1 13 m = x.2.1 13 m - (if m < k then x.2.1 15 m else 0) + (if m + 1 < k then x.2.1 15 (m + 1) else 0)) ∧ y.1 7 = x.1 7 + (if 1 ≤ k then x.2.1 15 0 else 0) ∧ (∀ j, j ≠ 7 → y.1 j = x.1 j) ∧ (∀ j, j ≠ 13 → y.2.1 j = x.2.1 j) ∧ y.2.2 = x.2.2) some
      (by
        intro k y hk ⟨p1, p2, p3, p4, p5⟩
        have hb := tp_b (n := 12) hk (by decide)
        have hc : (nI k).toNatClampNeg = k := tp_c (by omega)
        have h12 : ¬ (12 : Int32) ≤ nI k := nI_ge hk (by decide)
        have hlv : y.2.1 15 k = x.2.1 15 k := by rw [p4 15 (by decide)]
        have hstep : ∀ n, f_X0_drift_L44 (n + 1) d (nI k) y = (f_X0_shift y (nI k) (nI k + (-1)) (x.2.1 15 k)).bind fun z => f_X0_drift_L44 n d (nI (k + 1)) z := fun n => by
          show f_X0_drift_L44b (f_X0_drift_L44 n) d (nI k) y = _
          unfold f_X0_drift_L44b
          rw [if_neg h12, tp_side]
          simp only [Option.bind_some]
          rw [if_pos hb, hw, hc]
          show (f_X0_shift y (nI k) (nI k + (-1)) (y.2.1 15 k)).bind _ = _
          rw [hlv, tp_s]
        by_cases k0 : 0 < k
        · obtain ⟨i, rfl⟩ : ∃ i, k = i + 1 := ⟨k - 1, by omega⟩
          have hc2 : (nI i).toNatClampNeg = i := tp_c (by omega)
          refine ⟨twA (twA y 13 (nI (i + 1)) (y.2.1 13 (i + 1) - x.2.1 15 (i + 1))) 13 (nI i) ((upd (y.2.1 13) (i + 1) (y.2.1 13 (i + 1) - x.2.1 15 (i + 1))) i + x.2.1 15 (i + 1)), fun n => by rw [hstep n, pk_m1, tp_shiftS y hk (show i < 12 by omega)]; rfl, fun m hm => ?_, ?_, p3, fun j hj => ?_, p5⟩
          · simp only [tp_aa, tp_u, hc, hc2, if_true]
            by_cases e1 : m = i
            · subst e1
              have q := p1 m (by omega)
              rw [if_pos (show m < m + 1 by omega), if_neg (show ¬ (m + 1 < m + 1) by omega)] at q
              simp [q, show ¬ m + 1 + 1 ≤ m by omega]
            · by_cases e2 : m = i + 1
              · subst e2
                have q := p1 (i + 1) hm
                rw [if_neg (show ¬ i + 1 < i + 1 by omega), if_neg (show ¬ i + 1 + 1 < i + 1 by omega), z0] at q
                rw [if_neg e1, if_pos rfl, q, if_pos (show i + 1 < i + 1 + 1 by omega), if_neg (show ¬ i + 1 + 1 < i + 1 + 1 by omega)]
                simp
              · have q := p1 m hm
                rw [if_neg e1, if_neg e2, q]
                simp only [show (m < i + 1) ↔ (m < i + 1 + 1) by omega, show (m + 1 < i + 1) ↔ (m + 1 < i + 1 + 1) by omega]
          · show y.1 7 = _
            rw [p2, if_pos (show 1 ≤ i + 1 by omega), if_pos (show 1 ≤ i + 1 + 1 by omega)]
          · simp only [tp_a2, if_neg hj]
            exact p4 j hj
        · have ek : k = 0 := by omega
          subst ek
          refine ⟨twI (twA y 13 (nI 0) (y.2.1 13 0 - x.2.1 15 0)) 7 (y.1 7 + x.2.1 15 0), fun n => by rw [hstep n, show nI 0 + (-1) = (-1 : Int32) from by decide, tp_shiftO y hk (Or.inl rfl)]; rfl, fun m hm => ?_, ?_, fun j hj => ?_, fun j hj => ?_, p5⟩
          · show upd (y.2.1 13) (nI 0).toNatClampNeg (y.2.1 13 0 - x.2.1 15 0) m = _
            rw [hc]
            simp only [tp_u]
            by_cases e2 : m = 0
            · subst e2
              have q := p1 0 hm
              simp at q
              simp [q]
            · have q := p1 m hm
              rw [if_neg e2, q]
              simp only [show (m < 0) ↔ (m < 0 + 1) by omega, show (m + 1 < 0) ↔ (m + 1 < 0 + 1) by omega]
          · show y.1 7 + x.2.1 15 0 = _
            rw [p2]
            simp
          · rw [tp_i1, if_neg hj]
            exact p3 j hj
          · simp only [tp_i2, tp_a2, if_neg hj]
            exact p4 j hj)
      (by
        intro n y _
        show f_X0_drift_L44b (f_X0_drift_L44 n) d (nI 12) y = _
        unfold f_X0_drift_L44b
        rw [if_pos (by decide)])
      12 0 x twN rfl (by decide) ⟨fun m hm => by rw [if_neg (by omega), if_neg (by omega)]; simp, by simp, fun _ _ => rfl, fun _ _ => rfl, rfl⟩
    refine ⟨y, h1, fun m hm => ?_, ?_, h4, h5, h6⟩
    · rw [h2 m hm]
      unfold drf
      rw [if_pos hm, if_neg (show ¬ decide (dNon d) = true by rw [decide_eq_true_eq]; exact c)]
      simp only [show (m + 1 < 12) ↔ m < 11 by omega]
    · rw [h3, if_neg c]
      simp
theorem tp_drift (a : twS) (d : UInt64) : ∃ y, f_X0_drift a d = some y ∧ (∀ m, m < 12 → y.2.1 13 m = drf (decide (dNon d)) (a.2.1 13) (fun k => a.2.1 13 k * FP.d2i (dAbs d) / 100) m) ∧ y.1 7 = a.1 7 + a.2.1 13 (if dNon d then 11 else 0) * FP.d2i (dAbs d) / 100 ∧ (∀ j, j ≠ 7 → y.1 j = a.1 j) ∧ (∀ j, j ≠ 13 → j ≠ 15 → y.2.1 j = a.2.1 j) ∧ y.2.2 = a.2.2 := by
  unfold f_X0_drift
  rw [tp_abs]
  simp only [Option.bind_some]
  obtain ⟨x, h1, ⟨h2, h3, h4, h5⟩⟩ := tp_loopE (fun n k y => f_X0_drift_L9 n d (FP.d2i (dAbs d)) (nI k) y) 12
    (fun k y => (∀ m, m < k → y.2.1 15 m = a.2.1 13 m * FP.d2i (dAbs d) / 100) ∧ y.1 = a.1 ∧ (∀ j, j ≠ 15 → y.2.1 j = a.2.1 j) ∧ y.2.2 = a.2.2) (fun y => f_X0_drift_L44 twN d 0 y)
    (by
      intro k y hk ⟨p1, p2, p3, p4⟩
      have hb := tp_b (n := 12) hk (by decide)
      have hc : (nI k).toNatClampNeg = k := tp_c (by omega)
      have h12 : ¬ (12 : Int32) ≤ nI k := nI_ge hk (by decide)
      refine ⟨twA y 15 (nI k) (a.2.1 13 k * FP.d2i (dAbs d) / 100), fun n => ?_, fun m hm => ?_, p2, fun j hj => ?_, p4⟩
      · show f_X0_drift_L9b (f_X0_drift_L9 n) d (FP.d2i (dAbs d)) (nI k) y = f_X0_drift_L9 n d (FP.d2i (dAbs d)) (nI (k + 1)) _
        unfold f_X0_drift_L9b
        rw [if_neg h12, if_pos hb, if_pos hb, hc, p3 13 (by decide), tp_s]
      · simp only [tp_aa, tp_u, hc, if_true]
        by_cases e : m = k
        · rw [if_pos e, e]
        · rw [if_neg e]
          exact p1 m (by omega)
      · simp only [tp_a2, if_neg hj]
        exact p3 j hj)
    (by
      intro n y _
      show f_X0_drift_L9b (f_X0_drift_L9 n) d (FP.d2i (dAbs d)) (nI 12) y = _
      unfold f_X0_drift_L9b
      rw [if_pos (by decide)])
    12 0 a twN rfl (by decide) ⟨fun m hm => absurd hm (Nat.not_lt_zero m), rfl, fun _ _ => rfl, rfl⟩
  obtain ⟨y, g1, g2, g3, g4, g5, g6⟩ := tp_drift44 d x
  refine ⟨y, h1.trans g1, fun m hm => ?_, ?_, fun j hj => ?_, fun j hj1 hj2 => ?_, g6.trans h5⟩
  · rw [g2 m hm, h4 13 (by decide)]
    unfold drf
    split
    · rw [h2 m hm]
      congr 1
      by_cases e : 1 ≤ m
      · rw [if_pos e, if_pos e, h2 (m - 1) (by omega)]
      · rw [if_neg e, if_neg e]
    · rw [h2 m hm]
      congr 1
      by_cases e : m < 11
      · rw [if_pos e, if_pos e, h2 (m + 1) (by omega)]
      · rw [if_neg e, if_neg e]
  · rw [g3, h3, h2 _ (by split <;> decide)]
  · rw [g4 j hj, h3]
  · rw [g5 j hj1, h4 j hj2]
