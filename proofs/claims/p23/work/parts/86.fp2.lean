/-! ===== the pure side: the flow as a whole number ===== -/
theorem fq_one : FP.Core.one64 = 2 ^ 1074 := rfl
theorem fq_cut {a : UInt64} (hn : FP.Core.val64 a ≠ .nan) (h0 : 0 ≤ dU a) (h1 : dU a ≤ 90 * (2 : Int) ^ 1074) : ∃ i, i ≤ 90 ∧ FP.d2i a = nI i := by
  have hv := FP.Core.d2i_val hn
  have ep : 0 < FP.Core.one64 := FP.Core.one64_pos
  have eo : ((FP.Core.one64 : Nat) : Int) = (2 : Int) ^ 1074 := by rw [fq_one]; simp
  have hpos : (0 : Int) < (2 : Int) ^ 1074 := by rw [← eo]; omega
  obtain ⟨i, e, hi, -, -⟩ := FP.Core.cut_pos (s := FP.Core.sgn (FP.Core.val64 a)) (m := FP.Core.zmag FP.Core.b64 (FP.Core.val64 a)) (P := FP.Core.one64) (k := 91) ep h0 (by
    have h2 : dU a < ((91 : Nat) : Int) * ((FP.Core.one64 : Nat) : Int) := by
      rw [eo]
      generalize (2 : Int) ^ 1074 = w at *
      omega
    exact h2)
  refine ⟨i, by omega, ?_⟩
  rw [e] at hv
  apply Int32.toInt_inj.mp
  rw [nI_toInt (by omega)]
  show (FP.Core.d2i a).toInt = _
  rw [hv]
  omega
theorem fq_dneg (d : UInt64) : dU (FP.dneg d) = -dU d := by
  unfold dU
  rw [show FP.Core.val64 (FP.dneg d) = FP.Core.negate (FP.Core.val64 d) from FP.val64_dneg d, FP.Core.zval_negate]
theorem fq_fin_nan {d : UInt64} (h : FP.Core.DFin d) : FP.Core.val64 d ≠ .nan := by
  obtain ⟨s, c, q, e⟩ := h
  rw [e]
  exact FP.Core.Datum.noConfusion
/-- the share of the smoke that moves -/
theorem fq_share {d : UInt64} (h : Fok d) : ∃ i, i ≤ 90 ∧ FP.d2i (dAbs d) = nI i := by
  obtain ⟨hd, d1, d2⟩ := h
  have hn := fq_fin_nan hd
  have z0 : dU 0 = 0 := FP.Core.zval64_zero
  have n0 : FP.Core.val64 0 ≠ .nan := fp_zero.2.1
  unfold dAbs
  split
  · rename_i c
    refine fq_cut hn ?_ d2
    have e : ∀ o, FP.dcmp d FP.dconst0 = o → 0 ≤ Op.cmpValue o CmpOp.g → o = some .gt ∨ o = some .eq ∨ o = none := by
      intro o _ h
      rcases o with _ | (_ | _ | _)
      · exact Or.inr (Or.inr rfl)
      · exact absurd h (by decide)
      · exact Or.inr (Or.inl rfl)
      · exact Or.inl rfl
    rcases e _ rfl c with q | q | q
    · have := (FP.Core.dcmp_ge (a := d) (b := 0)).mp (Or.inl q)
      rw [FP.Core.zval64_zero] at this
      exact this.2.2
    · have := (FP.Core.dcmp_ge (a := d) (b := 0)).mp (Or.inr q)
      rw [FP.Core.zval64_zero] at this
      exact this.2.2
    · exfalso
      by_cases hlt : dU d < 0
      · have := (FP.Core.dcmp_lt (a := d) (b := 0)).mpr ⟨hn, n0, by rw [FP.Core.zval64_zero]; exact hlt⟩
        rw [show FP.dcmp d FP.dconst0 = FP.Core.dcmp d 0 from rfl, this] at q
        cases q
      · have := (FP.Core.dcmp_ge (a := d) (b := 0)).mpr ⟨hn, n0, by rw [FP.Core.zval64_zero]; exact Int.not_lt.mp hlt⟩
        rw [show FP.dcmp d FP.dconst0 = FP.Core.dcmp d 0 from rfl] at q
        rcases this with this | this <;> rw [this] at q <;> cases q
  · rename_i c
    have hlt : dU d < 0 := by
      by_cases hlt : dU d < 0
      · exact hlt
      · exfalso
        have := (FP.Core.dcmp_ge (a := d) (b := 0)).mpr ⟨hn, n0, by rw [FP.Core.zval64_zero]; exact Int.not_lt.mp hlt⟩
        apply c
        rw [show FP.dcmp d FP.dconst0 = FP.Core.dcmp d 0 from rfl]
        rcases this with this | this <;> rw [this] <;> decide
    refine fq_cut ?_ ?_ ?_
    · rw [show FP.Core.val64 (FP.dneg d) = FP.Core.negate (FP.Core.val64 d) from FP.val64_dneg d]
      exact FP.Core.negate_ne_nan hn
    · rw [fq_dneg]; omega
    · rw [fq_dneg]; omega
theorem fq_9k : FP.Core.zval FP.Core.b64 (FP.Core.val64 4666173416653455360) = 9000 * (2 : Int) ^ 1074 := by decide +kernel
theorem fq_9kn : FP.Core.zval FP.Core.b64 (FP.Core.val64 13889545453508231168) = -(9000 * (2 : Int) ^ 1074) := by decide +kernel
theorem fq_100 : FP.Core.zval FP.Core.b64 (FP.Core.val64 4636737291354636288) = 100 * (2 : Int) ^ 1074 := by decide +kernel
theorem fq_r (w : Int) : 100 * w * (90 * w) = 9000 * w * w := by
  rw [Int.mul_assoc 100 w, Int.mul_left_comm w 90 w, ← Int.mul_assoc 100 90, Int.mul_assoc 9000]
  rfl
theorem fq_sg (s t : Bool) (x y : Nat) : FP.Core.signed (s != t) (x * y) = FP.Core.signed s x * FP.Core.signed t y := by
  cases s <;> cases t <;> simp [FP.Core.signed, Int.neg_mul, Int.mul_neg]
theorem fq_mul {d : UInt64} (h : Fok d) : dU (FP.dmul 4636737291354636288 d) ≤ 9000 * (2 : Int) ^ 1074 ∧ -(9000 * (2 : Int) ^ 1074) ≤ dU (FP.dmul 4636737291354636288 d) := by
  obtain ⟨⟨t, c2, r, hd⟩, d1, d2⟩ := h
  have h100 : FP.Core.DFin 4636737291354636288 := ⟨false, 7036874417766400, -46, by decide +kernel⟩
  obtain ⟨s, c1, q, h1⟩ := h100
  have f1 := fp_fits 4636737291354636288
  have f2 := fp_fits d
  have z1 := fq_100
  have e1 : FP.Core.b64.qmin = -1074 := by decide
  rw [h1] at f1 z1
  rw [hd] at f2
  have hm : FP.Core.val64 (FP.dmul 4636737291354636288 d) = FP.Core.round FP.Core.b64 (FP.Core.exactProduct (.fin s c1 q) (.fin t c2 r)) := by
    rw [← h1, ← hd]
    exact FP.Core.val64_dmul _ _
  obtain ⟨p1, p2, p3⟩ := FP.Core.product_units f1 f2
  unfold dU at d1 d2 ⊢
  rw [hd] at d1 d2
  rw [hm, p1]
  have hz : FP.Core.signed (s != t) (FP.Core.inUnits (c1 * c2) (q + r) (2 * FP.Core.b64.qmin)) = 100 * (2 : Int) ^ 1074 * FP.Core.zval FP.Core.b64 (.fin t c2 r) := by
    rw [p3, fq_sg]
    unfold FP.Core.zval at z1 ⊢
    show FP.Core.signed s (FP.Core.zmag FP.Core.b64 (.fin s c1 q)) * FP.Core.signed t (FP.Core.zmag FP.Core.b64 (.fin t c2 r)) = _
    rw [show FP.Core.signed s (FP.Core.zmag FP.Core.b64 (.fin s c1 q)) = 100 * (2 : Int) ^ 1074 from z1]
    rfl
  have hP : (((2 : Nat) ^ (FP.Core.b64.qmin - 2 * FP.Core.b64.qmin).toNat : Nat) : Int) = (2 : Int) ^ 1074 := by
    rw [e1]
    simp
  have hpos : (0 : Int) < (2 : Int) ^ 1074 := by
    have e : ((2 ^ 1074 : Nat) : Int) = (2 : Int) ^ 1074 := by simp
    have := Nat.two_pow_pos 1074
    omega
  have m1 : 100 * (2 : Int) ^ 1074 * FP.Core.zval FP.Core.b64 (.fin t c2 r) ≤ 100 * (2 : Int) ^ 1074 * (90 * (2 : Int) ^ 1074) := Int.mul_le_mul_of_nonneg_left d2 (by omega)
  have m2 : 100 * (2 : Int) ^ 1074 * -(90 * (2 : Int) ^ 1074) ≤ 100 * (2 : Int) ^ 1074 * FP.Core.zval FP.Core.b64 (.fin t c2 r) := Int.mul_le_mul_of_nonneg_left d1 (by omega)
  constructor
  · have := FP.Core.zval_round_le FP.Core.good_b64 (s := s != t) (c := c1 * c2) (q := q + r) (e0 := 2 * FP.Core.b64.qmin) (V := FP.Core.val64 4666173416653455360) (fp_fits _) (by decide +kernel) (by rw [e1]; decide) p2 (by
      rw [hz, hP, fq_9k]
      refine Int.le_trans m1 (Int.le_of_eq ?_)
      generalize (2 : Int) ^ 1074 = w
      exact fq_r w)
    rw [fq_9k] at this
    exact this
  · have := FP.Core.zval_round_ge FP.Core.good_b64 (s := s != t) (c := c1 * c2) (q := q + r) (e0 := 2 * FP.Core.b64.qmin) (V := FP.Core.val64 13889545453508231168) (fp_fits _) (by decide +kernel) (by rw [e1]; decide) p2 (by
      rw [hz, hP, fq_9kn]
      refine Int.le_trans (Int.le_of_eq ?_) m2
      generalize (2 : Int) ^ 1074 = w
      rw [Int.mul_neg, fq_r w, Int.neg_mul])
    rw [fq_9kn] at this
    exact this
/-- a hundred times the flow, cut to a whole number -/
theorem fq_flow {d : UInt64} (h : Fok d) : -9000 ≤ (FP.d2i (FP.dmul 4636737291354636288 d)).toInt ∧ (FP.d2i (FP.dmul 4636737291354636288 d)).toInt ≤ 9000 := by
  obtain ⟨m1, m2⟩ := fq_mul h
  have h100 : FP.Core.DFin 4636737291354636288 := ⟨false, 7036874417766400, -46, by decide +kernel⟩
  have hn : FP.Core.val64 (FP.dmul 4636737291354636288 d) ≠ .nan := fp_notnan (FP.Core.dmul_out h100 h.1)
  have hv := FP.Core.d2i_val hn
  have ep : 0 < FP.Core.one64 := FP.Core.one64_pos
  have eo : ((FP.Core.one64 : Nat) : Int) = (2 : Int) ^ 1074 := by rw [fq_one]; simp
  have hpos : (0 : Int) < (2 : Int) ^ 1074 := by rw [← eo]; omega
  generalize FP.dmul 4636737291354636288 d = a at *
  show -9000 ≤ (FP.Core.d2i a).toInt ∧ (FP.Core.d2i a).toInt ≤ 9000
  rcases Int.le_total 0 (dU a) with hs | hs
  · obtain ⟨i, e, hi, -, -⟩ := FP.Core.cut_pos (s := FP.Core.sgn (FP.Core.val64 a)) (m := FP.Core.zmag FP.Core.b64 (FP.Core.val64 a)) (P := FP.Core.one64) (k := 9001) ep hs (by
      have h2 : dU a < ((9001 : Nat) : Int) * ((FP.Core.one64 : Nat) : Int) := by
        rw [eo]
        generalize (2 : Int) ^ 1074 = w at *
        omega
      exact h2)
    rw [e] at hv
    rw [hv]
    omega
  · obtain ⟨i, e, hi, -, -⟩ := FP.Core.cut_neg (s := FP.Core.sgn (FP.Core.val64 a)) (m := FP.Core.zmag FP.Core.b64 (FP.Core.val64 a)) (P := FP.Core.one64) (k := 9001) ep hs (by
      have h2 : -(((9001 : Nat) : Int) * ((FP.Core.one64 : Nat) : Int)) < dU a := by
        rw [eo]
        generalize (2 : Int) ^ 1074 = w at *
        omega
      exact h2)
    rw [e] at hv
    rw [hv]
    omega
