/-! ===== the pure side: the flow stays a number, within 90 ===== -/
theorem fp_twn {r : UInt64} (h : FP.Core.DFin r) : twn r = true := by
  have h1 := (FP.Core.fin_bits r).mp h
  refine decide_eq_true ?_
  rw [UInt64.le_iff_toNat_le]
  have h2 := FP.Core.mask_toNat r
  have h3 : (9218868437227405312 : UInt64).toNat = 9218868437227405312 := rfl
  rw [h2, h3]
  omega
abbrev fpB : FP.Core.Fmt := FP.Core.b64
theorem fp_big : (2 : Nat) ^ 1100 < fpB.tails * 2 ^ (fpB.exps - 2) := Nat.le_of_ble_eq_true rfl
theorem fp_fin {r : UInt64} (hn : FP.Core.val64 r ≠ .nan) (h1 : dU r ≤ ((2 ^ 1100 : Nat) : Int)) (h2 : -((2 ^ 1100 : Nat) : Int) ≤ dU r) : FP.Core.DFin r := by
  unfold dU at h1 h2
  cases hv : FP.Core.val64 r with
  | nan => exact absurd hv hn
  | inf s =>
    exfalso
    rw [hv] at h1 h2
    have hb := fp_big
    unfold FP.Core.zval at h1 h2
    have e : FP.Core.zmag fpB (.inf s) = fpB.tails * 2 ^ (fpB.exps - 2) := rfl
    have e2 : FP.Core.sgn (.inf s) = s := rfl
    rw [show FP.Core.zmag FP.Core.b64 (.inf s) = fpB.tails * 2 ^ (fpB.exps - 2) from rfl, e2] at h1 h2
    generalize fpB.tails * 2 ^ (fpB.exps - 2) = X at *
    generalize (2 : Nat) ^ 1100 = Y at *
    cases s <;> simp [FP.Core.signed] at h1 h2 <;> omega
  | fin s c q => exact ⟨s, c, q, hv⟩
/-- a power of two, in the least units -/
def fpP (s : Bool) (k : Nat) : FP.Core.Datum := if k ≤ 52 then .fin s (2 ^ k) (-1074) else .fin s (2 ^ 52) (-1074 + ((k : Int) - 52))
theorem fpP_fits (s : Bool) (k : Nat) (hk : k ≤ 2000) : FP.Core.fits fpB (fpP s k) := by
  have e1 : fpB.qmin = -1074 := by decide
  have e2 : fpB.qmax = 971 := by decide
  have e3 : fpB.tails = 2 ^ 52 := by decide
  have e4 : fpB.p = 53 := rfl
  unfold fpP
  split
  · rename_i h
    refine ⟨?_, ?_, ?_, Or.inl ?_⟩
    · rw [e4]; exact Nat.pow_lt_pow_right (by decide) (by omega)
    · rw [e1]; omega
    · rw [e2]; omega
    · rw [e1]
  · rename_i h
    refine ⟨?_, ?_, ?_, Or.inr ?_⟩
    · rw [e4]; decide
    · rw [e1]; omega
    · rw [e2]; omega
    · rw [e3]; omega
theorem fpP_zmag (s : Bool) (k : Nat) : FP.Core.zmag fpB (fpP s k) = 2 ^ k := by
  have e1 : fpB.qmin = -1074 := by decide
  unfold fpP
  split
  · show 2 ^ k * 2 ^ ((-1074 : Int) - fpB.qmin).toNat = 2 ^ k
    rw [e1]
    simp
  · rename_i h
    show 2 ^ 52 * 2 ^ ((-1074 + ((k : Int) - 52)) - fpB.qmin).toNat = 2 ^ k
    rw [e1, ← Nat.pow_add]
    congr 1
    omega
theorem fpP_zval (k : Nat) : FP.Core.zval fpB (fpP false k) = ((2 ^ k : Nat) : Int) := by
  have h := fpP_zmag false k
  unfold FP.Core.zval
  rw [h]
  have e : FP.Core.sgn (fpP false k) = false := by unfold fpP; split <;> rfl
  rw [e]
  simp [FP.Core.signed]
theorem fpP_zvalN (k : Nat) : FP.Core.zval fpB (fpP true k) = -((2 ^ k : Nat) : Int) := by
  have h := fpP_zmag true k
  unfold FP.Core.zval
  rw [h]
  have e : FP.Core.sgn (fpP true k) = true := by unfold fpP; split <;> rfl
  rw [e]
  simp [FP.Core.signed]
theorem fpP_nan (s : Bool) (k : Nat) : fpP s k ≠ .nan := by unfold fpP; split <;> exact FP.Core.Datum.noConfusion
theorem fp_fits (a : UInt64) : FP.Core.fits fpB (FP.Core.val64 a) := FP.Core.val64_fits a
theorem fp_negfits {d : FP.Core.Datum} (h : FP.Core.fits fpB d) : FP.Core.fits fpB (FP.Core.negate d) := FP.Core.negate_fits h
theorem fp_negfin {d : FP.Core.Datum} (h : ∃ s c q, d = .fin s c q) : ∃ s c q, FP.Core.negate d = .fin s c q := by
  obtain ⟨s, c, q, rfl⟩ := h
  exact ⟨!s, c, q, rfl⟩
theorem fp_sub_le {a b : UInt64} {V : FP.Core.Datum} (ha : FP.Core.DFin a) (hb : FP.Core.DFin b) (fV : FP.Core.fits fpB V) (hV : V ≠ .nan) (h : dU a - dU b ≤ FP.Core.zval fpB V) : dU (FP.dsub a b) ≤ FP.Core.zval fpB V := by
  unfold dU at h ⊢
  rw [show FP.Core.val64 (FP.dsub a b) = FP.Core.round FP.Core.b64 (FP.Core.exactSum (FP.Core.val64 a) (FP.Core.negate (FP.Core.val64 b))) from FP.Core.val64_dsub a b]
  refine FP.Core.sum_le FP.Core.good_b64 ha (fp_negfin hb) (fp_fits a) (fp_negfits (fp_fits b)) fV hV ?_
  rw [FP.Core.zval_negate]
  omega
theorem fp_sub_ge {a b : UInt64} {V : FP.Core.Datum} (ha : FP.Core.DFin a) (hb : FP.Core.DFin b) (fV : FP.Core.fits fpB V) (hV : V ≠ .nan) (h : FP.Core.zval fpB V ≤ dU a - dU b) : FP.Core.zval fpB V ≤ dU (FP.dsub a b) := by
  unfold dU at h ⊢
  rw [show FP.Core.val64 (FP.dsub a b) = FP.Core.round FP.Core.b64 (FP.Core.exactSum (FP.Core.val64 a) (FP.Core.negate (FP.Core.val64 b))) from FP.Core.val64_dsub a b]
  refine FP.Core.sum_ge FP.Core.good_b64 ha (fp_negfin hb) (fp_fits a) (fp_negfits (fp_fits b)) fV hV ?_
  rw [FP.Core.zval_negate]
  omega
theorem fp_add_le {a b : UInt64} {V : FP.Core.Datum} (ha : FP.Core.DFin a) (hb : FP.Core.DFin b) (fV : FP.Core.fits fpB V) (hV : V ≠ .nan) (h : dU a + dU b ≤ FP.Core.zval fpB V) : dU (FP.dadd a b) ≤ FP.Core.zval fpB V := by
  unfold dU at h ⊢
  rw [show FP.Core.val64 (FP.dadd a b) = FP.Core.round FP.Core.b64 (FP.Core.exactSum (FP.Core.val64 a) (FP.Core.val64 b)) from FP.Core.val64_dadd a b]
  exact FP.Core.sum_le FP.Core.good_b64 ha hb (fp_fits a) (fp_fits b) fV hV h
theorem fp_add_ge {a b : UInt64} {V : FP.Core.Datum} (ha : FP.Core.DFin a) (hb : FP.Core.DFin b) (fV : FP.Core.fits fpB V) (hV : V ≠ .nan) (h : FP.Core.zval fpB V ≤ dU a + dU b) : FP.Core.zval fpB V ≤ dU (FP.dadd a b) := by
  unfold dU at h ⊢
  rw [show FP.Core.val64 (FP.dadd a b) = FP.Core.round FP.Core.b64 (FP.Core.exactSum (FP.Core.val64 a) (FP.Core.val64 b)) from FP.Core.val64_dadd a b]
  exact FP.Core.sum_ge FP.Core.good_b64 ha hb (fp_fits a) (fp_fits b) fV hV h
theorem fp_notnan {a : UInt64} (h : FP.Core.dIsNaN a = false) : FP.Core.val64 a ≠ .nan := (FP.Core.notNaN_iff a).mp h
theorem fp_isfin {a : UInt64} (h : FP.Core.DFin a) : FP.Core.dIsNaN a = false := h.notNaN
theorem fp_four : FP.Core.val64 4616189618054758400 = .fin false (2 ^ 52) (-50) := by decide +kernel
/-- a quarter: the sign stays, the magnitude is at most a power of two that it is at most four times -/
theorem fp_quarter {a : UInt64} (ha : FP.Core.DFin a) {k : Nat} (hk : k ≤ 2000) (h : FP.Core.zmag fpB (FP.Core.val64 a) ≤ 2 ^ (k + 2)) : FP.Core.val64 (FP.ddiv a 4616189618054758400) ≠ .nan ∧ FP.Core.sgn (FP.Core.val64 (FP.ddiv a 4616189618054758400)) = FP.Core.sgn (FP.Core.val64 a) ∧ FP.Core.zmag fpB (FP.Core.val64 (FP.ddiv a 4616189618054758400)) ≤ 2 ^ k := by
  obtain ⟨s, c, q, hv⟩ := ha
  have hf := fp_fits a
  rw [hv] at hf h
  have e1 : fpB.qmin = -1074 := by decide
  have e : FP.Core.val64 (FP.ddiv a 4616189618054758400) = FP.Core.roundRatio fpB s c (2 ^ 52) (q - (-50)) := by
    rw [show FP.Core.val64 (FP.ddiv a 4616189618054758400) = FP.Core.quotient FP.Core.b64 (FP.Core.val64 a) (FP.Core.val64 4616189618054758400) from FP.Core.val64_ddiv a _, hv, fp_four]
    show (if (2 ^ 52 : Nat) = 0 then _ else FP.Core.roundRatio fpB (s != false) c (2 ^ 52) (q - (-50))) = _
    rw [if_neg (by decide)]
    congr 1
    cases s <;> rfl
  rw [e, hv]
  refine ⟨FP.Core.roundRatio_ne_nan _ _ _ _ _, FP.Core.sgn_roundRatio _ _ _ _ _, ?_⟩
  rw [← fpP_zmag false k]
  refine FP.Core.zmag_roundRatio_le FP.Core.good_b64 (e0 := fpB.qmin) (by decide) (fpP_fits false k hk) (fpP_nan false k) (Int.le_refl _) ?_ ?_
  · have := hf.2.1
    omega
  · rw [fpP_zmag, Int.sub_self]
    show FP.Core.inUnits c (q - (-50)) fpB.qmin ≤ 2 ^ k * 2 ^ (0 : Int).toNat * 2 ^ 52
    have h2 : FP.Core.inUnits c (q - (-50)) fpB.qmin = FP.Core.zmag fpB (.fin s c q) * 2 ^ 50 := by
      show c * 2 ^ (q - (-50) - fpB.qmin).toNat = c * 2 ^ (q - fpB.qmin).toNat * 2 ^ 50
      have := hf.2.1
      rw [Nat.mul_assoc, ← Nat.pow_add]
      congr 2
      omega
    rw [h2]
    have h3 : (2 : Nat) ^ (k + 2) = 2 ^ k * 4 := by rw [Nat.pow_add]
    rw [h3] at h
    generalize FP.Core.zmag fpB (.fin s c q) = z at *
    generalize (2 : Nat) ^ k = w at *
    show z * 2 ^ 50 ≤ w * 2 ^ 0 * 2 ^ 52
    omega
