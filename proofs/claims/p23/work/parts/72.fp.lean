/-! ===== the pure side: the flow stays a number, within 90 ===== -/
theorem fp_twn {r : UInt64} (h : FP.Core.DFin r) : twn r = true := by
  have h1 := (FP.Core.fin_bits r).mp h
  refine decide_eq_true ?_
  rw [UInt64.le_iff_toNat_le]
  have h2 := FP.Core.mask_toNat r
  have h3 : (9218868437227405312 : UInt64).toNat = 9218868437227405312 := rfl
  rw [h2, h3]
  omega
theorem fp_big : (2 : Nat) ^ 1100 < FP.Core.b64.tails * 2 ^ (FP.Core.b64.exps - 2) := by
  have e3 : FP.Core.b64.tails = 2 ^ 52 := by decide
  have e4 : FP.Core.b64.exps - 2 = 2045 ∨ FP.Core.b64.exps - 2 = 2046 := by decide
  rw [e3, ← Nat.pow_add]
  exact Nat.pow_lt_pow_right (by decide) (by omega)
theorem fp_fin {r : UInt64} (hn : FP.Core.val64 r ≠ .nan) (h1 : dU r ≤ ((2 ^ 1100 : Nat) : Int)) (h2 : -((2 ^ 1100 : Nat) : Int) ≤ dU r) : FP.Core.DFin r := by
  unfold dU at h1 h2
  cases hv : FP.Core.val64 r with
  | nan => exact absurd hv hn
  | inf s =>
    exfalso
    rw [hv] at h1 h2
    have hb := fp_big
    unfold FP.Core.zval at h1 h2
    have e : FP.Core.zmag FP.Core.b64 (.inf s) = FP.Core.b64.tails * 2 ^ (FP.Core.b64.exps - 2) := rfl
    have e2 : FP.Core.sgn (.inf s) = s := rfl
    rw [show FP.Core.zmag FP.Core.b64 (.inf s) = FP.Core.b64.tails * 2 ^ (FP.Core.b64.exps - 2) from rfl, e2] at h1 h2
    generalize FP.Core.b64.tails * 2 ^ (FP.Core.b64.exps - 2) = X at *
    generalize (2 : Nat) ^ 1100 = Y at *
    cases s <;> simp [FP.Core.signed] at h1 h2 <;> omega
  | fin s c q => exact ⟨s, c, q, hv⟩
/-- a power of two, in the least units -/
def fpP (s : Bool) (k : Nat) : FP.Core.Datum := if k ≤ 52 then .fin s (2 ^ k) (-1074) else .fin s (2 ^ 52) (-1074 + ((k : Int) - 52))
theorem fpP_fits (s : Bool) (k : Nat) (hk : k ≤ 2000) : FP.Core.fits FP.Core.b64 (fpP s k) := by
  have e1 : FP.Core.b64.qmin = -1074 := by decide
  have e2 : FP.Core.b64.qmax = 971 := by decide
  have e3 : FP.Core.b64.tails = 2 ^ 52 := by decide
  have e4 : FP.Core.b64.p = 53 := rfl
  unfold fpP
  split
  · rename_i h
    refine ⟨?_, ?_, ?_, Or.inl ?_⟩
    · rw [e4]; exact Nat.pow_lt_pow_right (by decide) (by omega)
    · rw [e1]; omega
    · rw [e2]; omega
    · rw [e1]
  · rename_i h
    refine ⟨?_, ?_, ?_, Or.inr ?_⟩
    · rw [e4]; decide
    · rw [e1]; omega
    · rw [e2]; omega
    · rw [e3]; omega
theorem fpP_zmag (s : Bool) (k : Nat) : FP.Core.zmag FP.Core.b64 (fpP s k) = 2 ^ k := by
  have e1 : FP.Core.b64.qmin = -1074 := by decide
  unfold fpP
  split
  · show 2 ^ k * 2 ^ ((-1074 : Int) - FP.Core.b64.qmin).toNat = 2 ^ k
    rw [e1]
    simp
  · rename_i h
    show 2 ^ 52 * 2 ^ ((-1074 + ((k : Int) - 52)) - FP.Core.b64.qmin).toNat = 2 ^ k
    rw [e1, ← Nat.pow_add]
    congr 1
    omega
theorem fpP_zval (k : Nat) : FP.Core.zval FP.Core.b64 (fpP false k) = ((2 ^ k : Nat) : Int) := by
  have h := fpP_zmag false k
  unfold FP.Core.zval
  rw [h]
  have e : FP.Core.sgn (fpP false k) = false := by unfold fpP; split <;> rfl
  rw [e]
  simp [FP.Core.signed]
theorem fpP_zvalN (k : Nat) : FP.Core.zval FP.Core.b64 (fpP true k) = -((2 ^ k : Nat) : Int) := by
  have h := fpP_zmag true k
  unfold FP.Core.zval
  rw [h]
  have e : FP.Core.sgn (fpP true k) = true := by unfold fpP; split <;> rfl
  rw [e]
  simp [FP.Core.signed]
theorem fpP_nan (s : Bool) (k : Nat) : fpP s k ≠ .nan := by unfold fpP; split <;> exact FP.Core.Datum.noConfusion
theorem fp_fits (a : UInt64) : FP.Core.fits FP.Core.b64 (FP.Core.val64 a) := FP.Core.val64_fits a
theorem fp_negfits {d : FP.Core.Datum} (h : FP.Core.fits FP.Core.b64 d) : FP.Core.fits FP.Core.b64 (FP.Core.negate d) := FP.Core.negate_fits h
theorem fp_negfin {d : FP.Core.Datum} (h : ∃ s c q, d = .fin s c q) : ∃ s c q, FP.Core.negate d = .fin s c q := by
  obtain ⟨s, c, q, rfl⟩ := h
  exact ⟨!s, c, q, rfl⟩
theorem fp_sub_le {a b : UInt64} {V : FP.Core.Datum} (ha : FP.Core.DFin a) (hb : FP.Core.DFin b) (fV : FP.Core.fits FP.Core.b64 V) (hV : V ≠ .nan) (h : dU a - dU b ≤ FP.Core.zval FP.Core.b64 V) : dU (FP.dsub a b) ≤ FP.Core.zval FP.Core.b64 V := by
  unfold dU at h ⊢
  rw [show FP.Core.val64 (FP.dsub a b) = FP.Core.round FP.Core.b64 (FP.Core.exactSum (FP.Core.val64 a) (FP.Core.negate (FP.Core.val64 b))) from FP.Core.val64_dsub a b]
  refine FP.Core.sum_le FP.Core.good_b64 ha (fp_negfin hb) (fp_fits a) (fp_negfits (fp_fits b)) fV hV ?_
  rw [FP.Core.zval_negate]
  omega
theorem fp_sub_ge {a b : UInt64} {V : FP.Core.Datum} (ha : FP.Core.DFin a) (hb : FP.Core.DFin b) (fV : FP.Core.fits FP.Core.b64 V) (hV : V ≠ .nan) (h : FP.Core.zval FP.Core.b64 V ≤ dU a - dU b) : FP.Core.zval FP.Core.b64 V ≤ dU (FP.dsub a b) := by
  unfold dU at h ⊢
  rw [show FP.Core.val64 (FP.dsub a b) = FP.Core.round FP.Core.b64 (FP.Core.exactSum (FP.Core.val64 a) (FP.Core.negate (FP.Core.val64 b))) from FP.Core.val64_dsub a b]
  refine FP.Core.sum_ge FP.Core.good_b64 ha (fp_negfin hb) (fp_fits a) (fp_negfits (fp_fits b)) fV hV ?_
  rw [FP.Core.zval_negate]
  omega
theorem fp_add_le {a b : UInt64} {V : FP.Core.Datum} (ha : FP.Core.DFin a) (hb : FP.Core.DFin b) (fV : FP.Core.fits FP.Core.b64 V) (hV : V ≠ .nan) (h : dU a + dU b ≤ FP.Core.zval FP.Core.b64 V) : dU (FP.dadd a b) ≤ FP.Core.zval FP.Core.b64 V := by
  unfold dU at h ⊢
  rw [show FP.Core.val64 (FP.dadd a b) = FP.Core.round FP.Core.b64 (FP.Core.exactSum (FP.Core.val64 a) (FP.Core.val64 b)) from FP.Core.val64_dadd a b]
  exact FP.Core.sum_le FP.Core.good_b64 ha hb (fp_fits a) (fp_fits b) fV hV h
theorem fp_add_ge {a b : UInt64} {V : FP.Core.Datum} (ha : FP.Core.DFin a) (hb : FP.Core.DFin b) (fV : FP.Core.fits FP.Core.b64 V) (hV : V ≠ .nan) (h : FP.Core.zval FP.Core.b64 V ≤ dU a + dU b) : FP.Core.zval FP.Core.b64 V ≤ dU (FP.dadd a b) := by
  unfold dU at h ⊢
  rw [show FP.Core.val64 (FP.dadd a b) = FP.Core.round FP.Core.b64 (FP.Core.exactSum (FP.Core.val64 a) (FP.Core.val64 b)) from FP.Core.val64_dadd a b]
  exact FP.Core.sum_ge FP.Core.good_b64 ha hb (fp_fits a) (fp_fits b) fV hV h
theorem fp_notnan {a : UInt64} (h : FP.Core.dIsNaN a = false) : FP.Core.val64 a ≠ .nan := (FP.Core.notNaN_iff a).mp h
theorem fp_isfin {a : UInt64} (h : FP.Core.DFin a) : FP.Core.dIsNaN a = false := h.notNaN
theorem fp_four : FP.Core.val64 4616189618054758400 = .fin false (2 ^ 52) (-50) := by decide +kernel
/-- a quarter: the sign stays, the magnitude is at most that of any datum that it is at most four times -/
theorem fp_quarter {a : UInt64} (ha : FP.Core.DFin a) {V : FP.Core.Datum} (fV : FP.Core.fits FP.Core.b64 V) (nV : V ≠ .nan) (h : FP.Core.zmag FP.Core.b64 (FP.Core.val64 a) ≤ 4 * FP.Core.zmag FP.Core.b64 V) : FP.Core.val64 (FP.ddiv a 4616189618054758400) ≠ .nan ∧ FP.Core.sgn (FP.Core.val64 (FP.ddiv a 4616189618054758400)) = FP.Core.sgn (FP.Core.val64 a) ∧ FP.Core.zmag FP.Core.b64 (FP.Core.val64 (FP.ddiv a 4616189618054758400)) ≤ FP.Core.zmag FP.Core.b64 V := by
  obtain ⟨s, c, q, hv⟩ := ha
  have hf := fp_fits a
  rw [hv] at hf h
  have e1 : FP.Core.b64.qmin = -1074 := by decide
  have hq : FP.Core.b64.qmin ≤ q := hf.2.1
  have e : FP.Core.val64 (FP.ddiv a 4616189618054758400) = FP.Core.roundRatio FP.Core.b64 s c (2 ^ 52) (q - (-50)) := by
    rw [show FP.Core.val64 (FP.ddiv a 4616189618054758400) = FP.Core.quotient FP.Core.b64 (FP.Core.val64 a) (FP.Core.val64 4616189618054758400) from FP.Core.val64_ddiv a _, hv, fp_four]
    show FP.Core.roundRatio FP.Core.b64 (s != false) c (2 ^ 52) (q - (-50)) = _
    cases s <;> rfl
  rw [e, hv]
  refine ⟨FP.Core.roundRatio_ne_nan _ _ _ _ _, FP.Core.sgn_roundRatio _ _ _ _ _, ?_⟩
  refine FP.Core.zmag_roundRatio_le FP.Core.good_b64 (e0 := FP.Core.b64.qmin) (by decide) fV nV (Int.le_refl _) (by omega) ?_
  rw [Int.sub_self]
  have h2 : FP.Core.inUnits c (q - (-50)) FP.Core.b64.qmin = FP.Core.zmag FP.Core.b64 (.fin s c q) * 2 ^ 50 := by
    show c * 2 ^ (q - (-50) - FP.Core.b64.qmin).toNat = c * 2 ^ (q - FP.Core.b64.qmin).toNat * 2 ^ 50
    rw [Nat.mul_assoc, ← Nat.pow_add]
    congr 2
    omega
  rw [h2]
  generalize FP.Core.zmag FP.Core.b64 (.fin s c q) = z at *
  generalize FP.Core.zmag FP.Core.b64 V = w at *
  show z * 2 ^ 50 ≤ w * 2 ^ 0 * 2 ^ 52
  omega
theorem fp_abs (a : UInt64) : (dU a).natAbs = FP.Core.zmag FP.Core.b64 (FP.Core.val64 a) := by
  unfold dU FP.Core.zval
  generalize FP.Core.sgn (FP.Core.val64 a) = s
  generalize FP.Core.zmag FP.Core.b64 (FP.Core.val64 a) = z
  cases s <;> simp [FP.Core.signed]
theorem fp_zero : FP.Core.fits FP.Core.b64 (FP.Core.val64 0) ∧ FP.Core.val64 0 ≠ .nan ∧ FP.Core.zmag FP.Core.b64 (FP.Core.val64 0) = 0 := by
  refine ⟨fp_fits 0, ?_, ?_⟩
  · rw [FP.Core.val64_zero]
    exact FP.Core.Datum.noConfusion
  · rw [FP.Core.val64_zero]
    show 0 * _ = 0
    rw [Nat.zero_mul]
theorem fp_q {a : UInt64} (ha : FP.Core.DFin a) {V : FP.Core.Datum} (fV : FP.Core.fits FP.Core.b64 V) (nV : V ≠ .nan) (h : (dU a).natAbs ≤ 4 * FP.Core.zmag FP.Core.b64 V) : FP.Core.val64 (FP.ddiv a 4616189618054758400) ≠ .nan ∧ (0 ≤ dU a → 0 ≤ dU (FP.ddiv a 4616189618054758400) ∧ dU (FP.ddiv a 4616189618054758400) ≤ (FP.Core.zmag FP.Core.b64 V : Int)) ∧ (dU a ≤ 0 → dU (FP.ddiv a 4616189618054758400) ≤ 0 ∧ -(FP.Core.zmag FP.Core.b64 V : Int) ≤ dU (FP.ddiv a 4616189618054758400)) := by
  rw [fp_abs] at h
  obtain ⟨h1, h2, h3⟩ := fp_quarter ha fV nV h
  refine ⟨h1, ?_⟩
  by_cases h0 : FP.Core.zmag FP.Core.b64 (FP.Core.val64 a) = 0
  · obtain ⟨z1, z2, z3⟩ := fp_zero
    obtain ⟨-, -, g3⟩ := fp_quarter ha z1 z2 (by rw [z3, h0]; exact Nat.le_refl _)
    rw [z3, ← fp_abs] at g3
    omega
  · have ea : dU a = FP.Core.signed (FP.Core.sgn (FP.Core.val64 a)) (FP.Core.zmag FP.Core.b64 (FP.Core.val64 a)) := rfl
    have er : dU (FP.ddiv a 4616189618054758400) = FP.Core.signed (FP.Core.sgn (FP.Core.val64 (FP.ddiv a 4616189618054758400))) (FP.Core.zmag FP.Core.b64 (FP.Core.val64 (FP.ddiv a 4616189618054758400))) := rfl
    rw [h2] at er
    rw [ea, er]
    generalize FP.Core.zmag FP.Core.b64 (FP.Core.val64 (FP.ddiv a 4616189618054758400)) = zr at *
    generalize FP.Core.zmag FP.Core.b64 (FP.Core.val64 a) = za at *
    cases FP.Core.sgn (FP.Core.val64 a) <;> simp only [FP.Core.signed, if_true, if_false, Bool.false_eq_true] <;> omega
theorem fp_k {n : Nat} (h : n ≠ 0) (hb : n < 2 ^ 1090) : ∃ k, k ≤ 1090 ∧ 2 ^ k ≤ n ∧ n ≤ 2 ^ (k + 1) :=
  ⟨n.log2, Nat.le_of_lt ((Nat.log2_lt h).mpr hb), Nat.log2_self_le h, Nat.le_of_lt Nat.lt_log2_self⟩
theorem fp_90 : FP.Core.zval FP.Core.b64 (FP.Core.val64 4636033603912859648) = 90 * (2 : Int) ^ 1074 := by decide +kernel
theorem fp_90n : FP.Core.zval FP.Core.b64 (FP.Core.val64 13859405640767635456) = -(90 * (2 : Int) ^ 1074) := by decide +kernel
theorem fp_aimAll : ∀ u, u < 181 → -(90 * (2 : Int) ^ 1074) ≤ dU (FP.i2d (nI u - 90)) ∧ dU (FP.i2d (nI u - 90)) ≤ 90 * (2 : Int) ^ 1074 := by decide +kernel
theorem fp_pow : 180 * 2 ^ 1074 < 2 ^ 1090 := by decide +kernel
theorem fp_pow2 : (2 : Nat) ^ 1091 ≤ 2 ^ 1100 := by decide +kernel
theorem fp_step {d : UInt64} (h : Fok d) {u : Nat} (hu : u ≤ 180) : twn (FP.dsub (FP.i2d (nI u - 90)) d) = true ∧ twn (FP.ddiv (FP.dsub (FP.i2d (nI u - 90)) d) 4616189618054758400) = true ∧ twn (FP.dadd d (FP.ddiv (FP.dsub (FP.i2d (nI u - 90)) d) 4616189618054758400)) = true ∧ Fok (FP.dadd d (FP.ddiv (FP.dsub (FP.i2d (nI u - 90)) d) 4616189618054758400)) := by
  obtain ⟨hd, d1, d2⟩ := h
  have hA : FP.Core.DFin (FP.i2d (nI u - 90)) := FP.Core.i2d_fin _
  obtain ⟨a1, a2⟩ := fp_aimAll u (by omega)
  generalize FP.i2d (nI u - 90) = A at *
  have hn1 : FP.Core.val64 (FP.dsub A d) ≠ .nan := fp_notnan (FP.Core.dsub_out (fp_isfin hA) hd)
  have hp := fp_pow
  have hp2 := fp_pow2
  have eU : ((2 ^ 1074 : Nat) : Int) = (2 : Int) ^ 1074 := by simp
  -- the magnitude of the difference, and a datum for its quarter
  have hV : ∃ V : FP.Core.Datum, FP.Core.fits FP.Core.b64 V ∧ V ≠ .nan ∧ (FP.Core.zmag FP.Core.b64 V : Int) ≤ 2 ^ 1090 ∧ FP.Core.zmag FP.Core.b64 V ≤ (dU A - dU d).natAbs ∧ ((0 ≤ dU A - dU d → 0 ≤ dU (FP.dsub A d) ∧ dU (FP.dsub A d) ≤ 4 * (FP.Core.zmag FP.Core.b64 V : Int)) ∧ (dU A - dU d ≤ 0 → dU (FP.dsub A d) ≤ 0 ∧ -(4 * (FP.Core.zmag FP.Core.b64 V : Int)) ≤ dU (FP.dsub A d))) := by
    obtain ⟨z1, z2, z3⟩ := fp_zero
    have z4 : FP.Core.zval FP.Core.b64 (FP.Core.val64 0) = 0 := FP.Core.zval64_zero
    by_cases h0 : (dU A - dU d).natAbs = 0
    · refine ⟨FP.Core.val64 0, z1, z2, by rw [z3]; exact Int.le_of_lt (by decide +kernel), by omega, ?_⟩
      have q1 := fp_sub_le hA hd z1 z2 (by rw [z4]; omega)
      have q2 := fp_sub_ge hA hd z1 z2 (by rw [z4]; omega)
      rw [z4] at q1 q2
      rw [z3]
      omega
    · obtain ⟨k, k1, k2, k3⟩ := fp_k h0 (by omega)
      refine ⟨fpP false k, fpP_fits _ _ (by omega), fpP_nan _ _, ?_, by rw [fpP_zmag]; exact k2, ?_⟩
      · rw [fpP_zmag]
        have : (2 : Nat) ^ k ≤ 2 ^ 1090 := Nat.pow_le_pow_right (by decide) k1
        have e : ((2 ^ 1090 : Nat) : Int) = (2 : Int) ^ 1090 := by simp
        omega
      · have e2 : (2 : Nat) ^ (k + 1) = 2 * 2 ^ k := by rw [Nat.pow_succ]; omega
        rw [fpP_zmag]
        have l1 := fpP_zval (k + 1)
        have l2 := fpP_zvalN (k + 1)
        rw [e2] at l1 l2 k3
        generalize (2 : Nat) ^ k = w at *
        refine ⟨fun hp0 => ⟨?_, ?_⟩, fun hp0 => ⟨?_, ?_⟩⟩
        · have q := fp_sub_ge hA hd z1 z2 (by rw [z4]; omega)
          rw [z4] at q
          exact q
        · have q := fp_sub_le hA hd (fpP_fits false (k + 1) (by omega)) (fpP_nan _ _) (by rw [l1]; omega)
          rw [l1] at q
          omega
        · have q := fp_sub_le hA hd z1 z2 (by rw [z4]; omega)
          rw [z4] at q
          exact q
        · have q := fp_sub_ge hA hd (fpP_fits true (k + 1) (by omega)) (fpP_nan _ _) (by rw [l2]; omega)
          rw [l2] at q
          omega
  obtain ⟨V, v1, v2, v3, v4, v5, v6⟩ := hV
  have e1100 : ((2 ^ 1100 : Nat) : Int) = (2 : Int) ^ 1100 := by simp
  have big : 4 * (2 : Int) ^ 1090 ≤ ((2 ^ 1100 : Nat) : Int) := by rw [e1100]; decide +kernel
  have hf1 : FP.Core.DFin (FP.dsub A d) := by
    refine fp_fin hn1 ?_ ?_
    · rcases Int.le_total 0 (dU A - dU d) with q | q
      · have := v5 q; omega
      · have := v6 q; omega
    · rcases Int.le_total 0 (dU A - dU d) with q | q
      · have := v5 q; omega
      · have := v6 q; omega
  obtain ⟨n2, p2, m2⟩ := fp_q hf1 v1 v2 (by
    rcases Int.le_total 0 (dU A - dU d) with q | q
    · have := v5 q; omega
    · have := v6 q; omega)
  generalize FP.ddiv (FP.dsub A d) 4616189618054758400 = Y at *
  generalize FP.dsub A d = X at *
  have hY : 0 ≤ dU A - dU d → 0 ≤ dU Y ∧ dU Y ≤ dU A - dU d := fun q => by
    have := v5 q
    have := p2 (by omega)
    omega
  have hY2 : dU A - dU d ≤ 0 → dU Y ≤ 0 ∧ dU A - dU d ≤ dU Y := fun q => by
    have := v6 q
    have := m2 (by omega)
    omega
  have big2 : 180 * (2 : Int) ^ 1074 ≤ ((2 ^ 1100 : Nat) : Int) := by rw [e1100]; decide +kernel
  have hf2 : FP.Core.DFin Y := by
    refine fp_fin n2 ?_ ?_
    · rcases Int.le_total 0 (dU A - dU d) with q | q
      · have := hY q; omega
      · have := hY2 q; omega
    · rcases Int.le_total 0 (dU A - dU d) with q | q
      · have := hY q; omega
      · have := hY2 q; omega
  have n3 : FP.Core.val64 (FP.dadd d Y) ≠ .nan := fp_notnan (FP.Core.dadd_out (fp_isfin hd) hf2)
  have t90 : FP.Core.fits FP.Core.b64 (FP.Core.val64 4636033603912859648) := fp_fits _
  have t90n : FP.Core.fits FP.Core.b64 (FP.Core.val64 13859405640767635456) := fp_fits _
  have s1 := fp_add_le hd hf2 t90 (by decide +kernel) (by
    rw [fp_90]
    rcases Int.le_total 0 (dU A - dU d) with q | q
    · have := hY q; omega
    · have := hY2 q; omega)
  have s2 := fp_add_ge hd hf2 t90n (by decide +kernel) (by
    rw [fp_90n]
    rcases Int.le_total 0 (dU A - dU d) with q | q
    · have := hY q; omega
    · have := hY2 q; omega)
  rw [fp_90] at s1
  rw [fp_90n] at s2
  have hf3 : FP.Core.DFin (FP.dadd d Y) := fp_fin n3 (by omega) (by omega)
  exact ⟨fp_twn hf1, fp_twn hf2, fp_twn hf3, hf3, s2, s1⟩
/-- a hundred times the flow is a number -/
theorem fp_hundred {d : UInt64} (h : Fok d) : twn (FP.dmul 4636737291354636288 d) = true := by
  have h100 : FP.Core.DFin 4636737291354636288 := ⟨false, 7036874417766400, -46, by decide +kernel⟩
  have hn : FP.Core.val64 (FP.dmul 4636737291354636288 d) ≠ .nan := fp_notnan (FP.Core.dmul_out h100 h.1)
  have h2 := (FP.Core.ne_nan _).mp hn
  refine decide_eq_true ?_
  rw [UInt64.le_iff_toNat_le]
  have h3 := FP.Core.mask_toNat (FP.dmul 4636737291354636288 d)
  have h4 : (9218868437227405312 : UInt64).toNat = 9218868437227405312 := rfl
  rw [h3, h4]
  exact h2
theorem fp_start : Fok 0 := ⟨⟨false, 0, -1074, by decide +kernel⟩, by decide +kernel, by decide +kernel⟩
