/-! ===== the pure side: the flow ===== -/
theorem tp_push (a : twS) : f_X5_push a = some (a.2.1 11 0 + a.2.1 11 1 + a.2.1 11 2, a) := by
  unfold f_X5_push
  obtain ⟨n, hn⟩ : ∃ n, twN = n + 1 + 1 + 1 + 1 := ⟨1996, rfl⟩
  rw [hn]
  simp only [f_X5_push_L4, f_X5_push_L4b]
  simp [twb]
theorem tp_tri3 {x y z : Int32} (h1 : tri x) (h2 : tri y) (h3 : tri z) : ∃ i, i < 7 ∧ x + y + z = nI i - 3 := by
  rcases h1 with rfl | rfl | rfl <;> rcases h2 with rfl | rfl | rfl <;> rcases h3 with rfl | rfl | rfl <;> first | exact ⟨0, by decide, by decide⟩ | exact ⟨1, by decide, by decide⟩ | exact ⟨2, by decide, by decide⟩ | exact ⟨3, by decide, by decide⟩ | exact ⟨4, by decide, by decide⟩ | exact ⟨5, by decide, by decide⟩ | exact ⟨6, by decide, by decide⟩
def fpRow (i z : Nat) : Bool := twn (FP.dmul 4624633867356078080 (FP.i2d (nI i - 3))) && twn (FP.dadd (FP.dmul 4624633867356078080 (FP.i2d (nI i - 3))) (FP.i2d (nI z - 40))) && twn (FP.dadd (FP.dadd (FP.dmul 4624633867356078080 (FP.i2d (nI i - 3))) (FP.i2d (nI z - 40))) 4617315517961601024) && twn (FP.dadd (FP.dadd (FP.dmul 4624633867356078080 (FP.i2d (nI i - 3))) (FP.i2d (nI z - 40))) FP.dconst0) && decide (FP.dadd (FP.dadd (FP.dmul 4624633867356078080 (FP.i2d (nI i - 3))) (FP.i2d (nI z - 40))) 4617315517961601024 = FP.i2d (nI (15 * i + z + 10) - 90)) && decide (FP.dadd (FP.dadd (FP.dmul 4624633867356078080 (FP.i2d (nI i - 3))) (FP.i2d (nI z - 40))) FP.dconst0 = FP.i2d (nI (15 * i + z + 5) - 90))
theorem fpTab : ∀ i, i < 7 → ∀ z, z < 81 → fpRow i z = true := by decide +kernel
theorem fpHeld : ∀ u, u < 181 → (Op.cmpValue (FP.dcmp (FP.i2d (nI u - 90)) 4636033603912859648) CmpOp.l) ≤ 0 ∧ 0 ≤ (Op.cmpValue (FP.dcmp (FP.i2d (nI u - 90)) 13859405640767635456) CmpOp.g) := by decide +kernel
theorem fpInt : ∀ i, i < 7 → ∀ z, z < 81 → (15 * (nI i - 3) + (nI z - 40)) + 5 = nI (15 * i + z + 10) - 90 ∧ (15 * (nI i - 3) + (nI z - 40)) + 0 = nI (15 * i + z + 5) - 90 := by decide +kernel
theorem fpRng : ∀ u, u < 181 → (-90 : Int32) ≤ nI u - 90 ∧ nI u - 90 ≤ (90 : Int32) := by decide +kernel
theorem tp_held (a : twS) {u : Nat} (hu : u ≤ 180) : f_X6_held a (FP.i2d (nI u - 90)) = some (FP.i2d (nI u - 90), a) := by
  obtain ⟨h1, h2⟩ := fpHeld u (by omega)
  unfold f_X6_held
  rw [if_pos h1, if_pos h2]
def flowN (d : UInt64) (u : Nat) : UInt64 := FP.dadd d (FP.ddiv (FP.dsub (FP.i2d (nI u - 90)) d) 4616189618054758400)
theorem tp_becomeL {a : twS} {k0 k1 : UInt64} {u : Nat} (hu : u ≤ 180) (hd : Fok a.2.2.2) (h1 : twn (FP.dadd k1 k0) = true) (h2 : FP.dadd k1 k0 = FP.i2d (nI u - 90)) : f_X6_become_L26 k0 k1 a = some (twD a (flowN a.2.2.2 u)) := by
  obtain ⟨s1, s2, s3, -⟩ := fp_step hd hu
  unfold f_X6_become_L26
  rw [if_pos h1, h2, tp_held a hu]
  show (if twn (FP.dsub (FP.i2d (nI u - 90)) a.2.2.2) = true then _ else none) = _
  rw [if_pos s1]
  show (if twn (FP.ddiv (FP.dsub (FP.i2d (nI u - 90)) a.2.2.2) 4616189618054758400) = true then _ else none) = _
  rw [if_pos s2]
  show (if twn (FP.dadd a.2.2.2 (FP.ddiv (FP.dsub (FP.i2d (nI u - 90)) a.2.2.2) 4616189618054758400)) = true then _ else none) = _
  rw [if_pos s3]
  rfl
theorem tp_flowsL {b : twS} {k0 k1 : Int32} {u : Nat} (hu : u ≤ 180) (hd : Fok b.2.2.2) (h2 : k1 + k0 = nI u - 90) : f_X8_flows_L40 k0 k1 b = some (twD b (flowN b.2.2.2 u)) := by
  obtain ⟨s1, s2, s3, -⟩ := fp_step hd hu
  obtain ⟨r1, r2⟩ := fpRng u (by omega)
  unfold f_X8_flows_L40 f_X8_flows_L65
  rw [h2, if_pos r1, if_pos r2, if_pos s1, if_pos s2, if_pos s3]
  rfl
theorem tp_flow {t : Nat} {u : Nat × Int32} {a b : twS} (h : twR t u a b) : ∃ a' b', f_X6_become a (a.2.1 11 0 + a.2.1 11 1 + a.2.1 11 2) = some a' ∧ f_X8_flows b = some b' ∧ twR t u a' b' := by
  obtain ⟨⟨f1, f2⟩, ⟨w1, w2, ⟨z, hz, w3⟩, w4, w5, w6⟩, hfire, hair, hdet, hdoor, hchart, hcrowd, hst⟩ := h
  obtain ⟨-, e0, -, -, g0⟩ := f2 0 (by decide)
  obtain ⟨-, e1, -, -, g1⟩ := f2 1 (by decide)
  obtain ⟨-, e2, -, -, g2⟩ := f2 2 (by decide)
  obtain ⟨i, hi, hs⟩ := tp_tri3 g0 g1 g2
  have T := fpTab i hi z (by omega)
  simp only [fpRow, Bool.and_eq_true, decide_eq_true_eq] at T
  obtain ⟨⟨⟨⟨⟨t1, t2⟩, t3⟩, t4⟩, t5⟩, t6⟩ := T
  obtain ⟨n1, n2⟩ := fpInt i hi z (by omega)
  have hsb : b.2.1 4 (0 : Int32).toNatClampNeg + b.2.1 4 (1 : Int32).toNatClampNeg + b.2.1 4 (2 : Int32).toNatClampNeg = nI i - 3 := by
    rw [← hs, e0, e1, e2]
    rfl
  have hwb : b.1 15 = nI z - 40 := by rw [← w1]; exact w3
  have hfr : ∀ v, v ≤ 180 → twR t u (twD a (flowN a.2.2.2 v)) (twD b (flowN b.2.2.2 v)) := fun v hu => by
    refine ⟨⟨f1, f2⟩, ⟨w1, w2, ⟨z, hz, w3⟩, w4, ?_, ?_⟩, hfire, hair, hdet, hdoor, hchart, hcrowd, hst⟩
    · show flowN a.2.2.2 v = flowN b.2.2.2 v
      rw [w5]
    · exact (fp_step w6 hu).2.2.2
  have w6b : Fok b.2.2.2 := w5 ▸ w6
  rcases w4 with q | q
  · have qb : b.1 12 = 0 := by rw [← w2]; exact q
    refine ⟨_, _, ?_, ?_, hfr (15 * i + z + 10) (by omega)⟩
    · unfold f_X6_become
      rw [hs, w3, if_pos t1, if_pos t2, if_pos q]
      exact tp_becomeL (by omega) w6 t3 t5
    · unfold f_X8_flows
      rw [if_pos (by decide), if_pos (by decide), if_pos (by decide), if_pos qb, hsb, hwb]
      exact tp_flowsL (by omega) w6b n1
  · have qa : ¬ a.1 6 = 0 := by rw [q]; decide
    have qb : ¬ b.1 12 = 0 := by rw [← w2]; exact qa
    refine ⟨_, _, ?_, ?_, hfr (15 * i + z + 5) (by omega)⟩
    · unfold f_X6_become
      rw [hs, w3, if_pos t1, if_pos t2, if_neg qa]
      exact tp_becomeL (by omega) w6 t4 t6
    · unfold f_X8_flows
      rw [if_pos (by decide), if_pos (by decide), if_pos (by decide), if_neg qb, hsb, hwb]
      exact tp_flowsL (by omega) w6b n2
