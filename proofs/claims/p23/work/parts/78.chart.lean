/-! ===== the pure side: bits, acts, the chart ===== -/
theorem bitI_s : ∀ k, k < 12 → (nI k &&& 31).toBitVec.smod 32 = BitVec.ofNat 32 k := by decide
theorem bitI_b (x : Int32) {k : Nat} (hk : k < 12) : bitI x k = if x.toBitVec.getLsbD k = true then 1 else 0 := by
  apply Int32.toBitVec_inj.mp
  have hs := bitI_s k hk
  unfold bitI
  rw [Int32.toBitVec_and, Int32.toBitVec_shiftRight]
  show (x.toBitVec.sshiftRight' ((nI k &&& 31).toBitVec.smod 32)) &&& 1#32 = _
  rw [hs, BitVec.and_one_eq_setWidth_ofBool_getLsbD]
  have hn : (BitVec.ofNat 32 k).toNat = k := by
    rw [BitVec.toNat_ofNat]
    omega
  have he : (x.toBitVec.sshiftRight' (BitVec.ofNat 32 k)).getLsbD 0 = x.toBitVec.getLsbD k := by
    show (x.toBitVec.sshiftRight (BitVec.ofNat 32 k).toNat).getLsbD 0 = _
    rw [hn, BitVec.getLsbD_sshiftRight]
    simp [show k < 32 by omega]
  rw [he]
  cases x.toBitVec.getLsbD k <;> rfl
theorem bit01 (x : Int32) {k : Nat} (hk : k < 12) : bitI x k = 0 ∨ bitI x k = 1 := by
  rw [bitI_b x hk]
  split
  · exact Or.inr rfl
  · exact Or.inl rfl
theorem bit_open (x y z : Int32) {k : Nat} (hk : k < 12) : bitI (x ||| (y &&& (z ^^^ (-1)))) k = if bitI y k = 0 then bitI x k else if bitI z k = 0 then 1 else bitI x k := by
  have e3 : (-1 : Int32).toBitVec.getLsbD k = true := by
    have : ∀ j : Fin 32, (-1 : Int32).toBitVec.getLsbD j.1 = true := by decide
    exact this ⟨k, by omega⟩
  rw [bitI_b _ hk, bitI_b _ hk, bitI_b _ hk, bitI_b _ hk, Int32.toBitVec_or, Int32.toBitVec_and, Int32.toBitVec_xor, BitVec.getLsbD_or, BitVec.getLsbD_and, BitVec.getLsbD_xor, e3]
  cases x.toBitVec.getLsbD k <;> cases y.toBitVec.getLsbD k <;> cases z.toBitVec.getLsbD k <;> decide
theorem bit_zero {k : Nat} (hk : k < 12) : bitI 0 k = 0 := by
  have : ∀ k, k < 12 → bitI 0 k = 0 := by decide
  exact this k hk
theorem bit_shl : ∀ j, j < 12 → ∀ k, k < 12 → ((1 : Int32) <<< (nI j &&& 31)).toBitVec.getLsbD k = decide (k = j) := by decide +kernel
theorem bit_on (x : Int32) {j k : Nat} (hj : j < 12) (hk : k < 12) : bitI (x ||| (1 <<< (nI j &&& 31))) k = if k = j then 1 else bitI x k := by
  rw [bitI_b _ hk, bitI_b _ hk, Int32.toBitVec_or, BitVec.getLsbD_or, bit_shl j hj k hk]
  by_cases e : k = j
  · simp [e]
  · simp [e]
theorem bit_off (x : Int32) {j k : Nat} (hj : j < 12) (hk : k < 12) : bitI (x &&& ((1 <<< (nI j &&& 31)) ^^^ (-1))) k = if k = j then 0 else bitI x k := by
  have e3 : (-1 : Int32).toBitVec.getLsbD k = true := by
    have : ∀ j : Fin 32, (-1 : Int32).toBitVec.getLsbD j.1 = true := by decide
    exact this ⟨k, by omega⟩
  rw [bitI_b _ hk, bitI_b _ hk, Int32.toBitVec_and, Int32.toBitVec_xor, BitVec.getLsbD_and, BitVec.getLsbD_xor, e3, bit_shl j hj k hk]
  by_cases e : k = j
  · simp [e]
  · simp [e]
theorem tp_sub {s t : Nat} (h : s ≤ t) : nI t - nI s = nI (t - s) := by
  obtain ⟨d, rfl⟩ : ∃ d, t = d + s := ⟨t - s, by omega⟩
  rw [← nI_add, Int32.add_sub_cancel]
  congr 1
  omega
/-- all but the chart -/
def twQ (t : Nat) (u : Nat × Int32) (a b : twS) : Prop :=
  Rfan (a.2.1 8) (a.2.1 10) (a.2.1 11) (a.2.1 12) (b.2.1 6) (b.2.1 3) (b.2.1 4) (b.2.1 5) ∧
  Rflow (a.1 5) (a.1 6) (b.1 15) (b.1 12) a.2.2.2 b.2.2.2 ∧
  Rfire u.1 (a.1 8) (a.1 9) (a.1 10) (a.1 11) (a.1 12) a.2.2.1 (b.1 18) (b.1 19) (b.1 14) (b.1 11) (b.1 21) (b.1 20) ∧
  Rair (a.2.1 13) (a.2.1 14) (b.2.1 1) (b.2.1 2) (a.1 7) (b.1 22) (a.1 0) (b.1 9) (a.1 1) (b.1 10) ∧
  Rdet (a.2.1 9) (b.2.1 7) (b.1 36) u.2 ∧
  Rdoor (a.2.1 16) (a.2.1 17) (a.2.1 18) (b.1 6) (b.1 7) (b.1 8) ∧
  Rcrowd t (a.1 16) (a.1 2) (b.1 31) (b.1 13) (a.2.1 22) (a.2.1 23) (a.2.1 24) (a.2.1 25) (b.2.1 11) (b.2.1 12) (b.2.1 13) (b.2.1 14) ∧
  a.1 4 = nI t ∧ b.1 0 = nI t
def twK (t : Nat) (a b : twS) : Prop := Rchart t (a.1 3) (a.1 13) (a.1 14) (a.1 15) (a.2.1 19) (a.2.1 20) (a.2.1 21) (b.1 24) (b.1 25) (b.1 29) (b.1 30) (b.2.1 8) (b.2.1 9) (b.2.1 10)
theorem twR_Q {t : Nat} {u : Nat × Int32} {a b : twS} (h : twR t u a b) : twQ t u a b ∧ twK t a b := by
  obtain ⟨h1, h2, h3, h4, h5, h6, h7, h8, h9⟩ := h
  exact ⟨⟨h1, h2, h3, h4, h5, h6, h8, h9⟩, h7⟩
theorem twR_of {t : Nat} {u : Nat × Int32} {a b : twS} (h : twQ t u a b) (k : twK t a b) : twR t u a b := by
  obtain ⟨h1, h2, h3, h4, h5, h6, h8, h9⟩ := h
  exact ⟨h1, h2, h3, h4, h5, h6, k, h8, h9⟩
/-- the chart's cells stay -/
def keepK (a b a' b' : twS) : Prop := a'.1 3 = a.1 3 ∧ a'.1 13 = a.1 13 ∧ a'.1 14 = a.1 14 ∧ a'.1 15 = a.1 15 ∧ a'.2.1 19 = a.2.1 19 ∧ a'.2.1 20 = a.2.1 20 ∧ a'.2.1 21 = a.2.1 21 ∧ b'.1 24 = b.1 24 ∧ b'.1 25 = b.1 25 ∧ b'.1 29 = b.1 29 ∧ b'.1 30 = b.1 30 ∧ b'.2.1 8 = b.2.1 8 ∧ b'.2.1 9 = b.2.1 9 ∧ b'.2.1 10 = b.2.1 10
theorem tp_orders {t : Nat} {u : Nat × Int32} {a b : twS} (h : twQ t u a b) (v w : Int32) (hv : v = 3 ∧ w = -1 ∨ v = 4 ∧ w = 1 ∨ v = 5 ∧ w = 0) : ∃ a' b', f_X5_orderAll a w = some a' ∧ f_X8_doesAct_L105 twN v 0 b = some b' ∧ twQ t u a' b' ∧ keepK a b a' b' := by
  have hw : tri w := by
    rcases hv with ⟨-, rfl⟩ | ⟨-, rfl⟩ | ⟨-, rfl⟩
    · exact Or.inl rfl
    · exact Or.inr (Or.inr rfl)
    · exact Or.inr (Or.inl rfl)
  unfold f_X5_orderAll
  refine tp_loop2 (fun n k x => f_X5_orderAll_L2 n w (nI k) x) (fun n k y => f_X8_doesAct_L105 n v (nI k) y) 3 (fun _ x y => twQ t u x y ∧ keepK a b x y) (fun x y => twQ t u x y ∧ keepK a b x y) ?_ ?_ 3 0 a b twN twN rfl (by decide) (by decide) ⟨h, rfl, rfl, rfl, rfl, rfl, rfl, rfl, rfl, rfl, rfl, rfl, rfl, rfl, rfl⟩
  · intro k x y hk hR
    obtain ⟨⟨⟨f1, f2⟩, hrest⟩, hK⟩ := hR
    have hb : twb (nI k) 3 = true := tp_b hk (by decide)
    have hc : (nI k).toNatClampNeg = k := tp_c (by omega)
    have h3 : ¬ (3 : Int32) ≤ nI k := nI_ge hk (by decide)
    left
    refine ⟨twA x 10 (nI k) w, twA y 3 (nI k) w, fun n => ?_, fun n => ?_, ⟨⟨f1, fun j hj => ?_⟩, hrest⟩, hK⟩
    · show f_X5_orderAll_L2b (f_X5_orderAll_L2 n) w (nI k) x = _
      unfold f_X5_orderAll_L2b
      rw [if_neg h3, if_pos hb, tp_s]
    · show f_X8_doesAct_L105b (f_X8_doesAct_L105 n) v (nI k) y = _
      unfold f_X8_doesAct_L105b
      rw [if_neg h3, tp_s]
      rcases hv with ⟨rfl, rfl⟩ | ⟨rfl, rfl⟩ | ⟨rfl, rfl⟩
      · rw [if_pos rfl, if_pos hb]
      · rw [if_neg (by decide), if_pos rfl, if_pos hb]
      · rw [if_neg (by decide), if_neg (by decide), if_pos hb]
    · obtain ⟨q1, q2, q3, q4, q5⟩ := f2 j hj
      rw [tp_aa, tp_aa, hc, tp_ab x 10 _ _ (show 11 ≠ 10 by decide), tp_ab x 10 _ _ (show 12 ≠ 10 by decide), tp_ab y 3 _ _ (show 4 ≠ 3 by decide), tp_ab y 3 _ _ (show 5 ≠ 3 by decide)]
      by_cases e : j = k
      · rw [if_pos e, if_pos e]
        exact ⟨rfl, q2, q3, hw, q5⟩
      · rw [if_neg e, if_neg e]
        exact ⟨q1, q2, q3, q4, q5⟩
  · intro x y hR
    refine ⟨x, y, fun n => ?_, fun n => ?_, hR⟩
    · show f_X5_orderAll_L2b (f_X5_orderAll_L2 n) w (nI 3) x = some x
      unfold f_X5_orderAll_L2b
      rw [if_pos (by decide)]
    · show f_X8_doesAct_L105b (f_X8_doesAct_L105 n) v (nI 3) y = some y
      unfold f_X8_doesAct_L105b
      rw [if_pos (by decide)]
theorem tp_openAll (a : twS) : ∃ y, f_X4_openAll a = some y ∧ (∀ m, m < 12 → y.2.1 17 m = if a.2.1 16 m = 0 then a.2.1 17 m else if a.2.1 18 m = 0 then 1 else a.2.1 17 m) ∧ y.1 = a.1 ∧ (∀ j, j ≠ 17 → y.2.1 j = a.2.1 j) ∧ y.2.2 = a.2.2 := by
  unfold f_X4_openAll
  obtain ⟨y, h1, ⟨h2, h3, h4, h5⟩⟩ := tp_loopE (fun n k y => f_X4_openAll_L2 n (nI k) y) 12
    (fun k y => (∀ m, m < 12 → y.2.1 17 m = if m < k then (if a.2.1 16 m = 0 then a.2.1 17 m else if a.2.1 18 m = 0 then 1 else a.2.1 17 m) else a.2.1 17 m) ∧ y.1 = a.1 ∧ (∀ j, j ≠ 17 → y.2.1 j = a.2.1 j) ∧ y.2.2 = a.2.2) some
    (by
      intro k y hk ⟨p1, p2, p3, p4⟩
      have hb := tp_b (n := 12) hk (by decide)
      have hc : (nI k).toNatClampNeg = k := tp_c (by omega)
      have h12 : ¬ (12 : Int32) ≤ nI k := nI_ge hk (by decide)
      have r16 : y.2.1 16 = a.2.1 16 := p3 16 (by decide)
      have r18 : y.2.1 18 = a.2.1 18 := p3 18 (by decide)
      have hun : ∀ n, f_X4_openAll_L2 (n + 1) (nI k) y = f_X4_openAll_L2b (f_X4_openAll_L2 n) (nI k) y := fun n => rfl
      have keep : (a.2.1 16 k = 0 ∨ a.2.1 18 k ≠ 0) → ∀ m, m < 12 → y.2.1 17 m = if m < k + 1 then (if a.2.1 16 m = 0 then a.2.1 17 m else if a.2.1 18 m = 0 then 1 else a.2.1 17 m) else a.2.1 17 m := fun hor m hm => by
        rw [p1 m hm]
        by_cases e : m = k
        · subst e
          rw [if_neg (show ¬ m < m by omega), if_pos (show m < m + 1 by omega)]
          rcases hor with q | q
          · rw [if_pos q]
          · by_cases q2 : a.2.1 16 m = 0
            · rw [if_pos q2]
            · rw [if_neg q2, if_neg q]
        · simp only [show (m < k) ↔ (m < k + 1) by omega]
      by_cases c1 : a.2.1 16 k = 0
      · refine ⟨y, fun n => ?_, keep (Or.inl c1), p2, p3, p4⟩
        show f_X4_openAll_L2 (n + 1) (nI k) y = _
        rw [hun]
        unfold f_X4_openAll_L2b
        rw [if_neg h12, if_pos hb, hc, r16, if_pos c1, tp_s]
      · by_cases c2 : a.2.1 18 k = 0
        · refine ⟨twA y 17 (nI k) 1, fun n => ?_, fun m hm => ?_, p2, fun j hj => ?_, p4⟩
          · show f_X4_openAll_L2 (n + 1) (nI k) y = _
            rw [hun]
            unfold f_X4_openAll_L2b
            rw [if_neg h12, if_pos hb, hc, r16, if_neg c1, if_pos hb, r18, if_pos c2, if_pos hb, tp_n1, tp_s]
          · rw [tp_aa, hc, p1 m hm]
            by_cases e : m = k
            · subst e
              rw [if_pos rfl, if_pos (show m < m + 1 by omega), if_neg c1, if_pos c2]
            · rw [if_neg e]
              simp only [show (m < k) ↔ (m < k + 1) by omega]
          · rw [tp_ab _ _ _ _ hj]
            exact p3 j hj
        · refine ⟨y, fun n => ?_, keep (Or.inr c2), p2, p3, p4⟩
          show f_X4_openAll_L2 (n + 1) (nI k) y = _
          rw [hun]
          unfold f_X4_openAll_L2b
          rw [if_neg h12, if_pos hb, hc, r16, if_neg c1, if_pos hb, r18, if_neg c2, tp_s])
    (by
      intro n y _
      show f_X4_openAll_L2b (f_X4_openAll_L2 n) (nI 12) y = _
      unfold f_X4_openAll_L2b
      rw [if_pos (by decide)])
    12 0 a twN rfl (by decide) ⟨fun m hm => by rw [if_neg (by omega)], rfl, fun _ _ => rfl, rfl⟩
  refine ⟨y, h1, fun m hm => ?_, h3, h4, h5⟩
  rw [h2 m hm, if_pos hm]
theorem tp_act {t : Nat} {u : Nat × Int32} {a b : twS} (h : twQ t u a b) {z : Nat} (hz : z < 8) : ∃ a' b', f_X7_perform a (nI z) = some a' ∧ f_X8_doesAct b (nI z) = some b' ∧ twQ t u a' b' ∧ keepK a b a' b' := by
  have hK0 : keepK a b a b := ⟨rfl, rfl, rfl, rfl, rfl, rfl, rfl, rfl, rfl, rfl, rfl, rfl, rfl, rfl⟩
  have h0 := h
  obtain ⟨hfan, ⟨w1, w2, w3, w4, w5⟩, ⟨r1, r2, r3, r4, r5⟩, ⟨s1, s2, s3, s4, s5⟩, hdet, hdoor, ⟨c1, c2⟩, hst⟩ := h
  have hz8 : z = 0 ∨ z = 1 ∨ z = 2 ∨ z = 3 ∨ z = 4 ∨ z = 5 ∨ z = 6 ∨ z = 7 := by omega
  rcases hz8 with rfl | rfl | rfl | rfl | rfl | rfl | rfl | rfl
  · exact ⟨twI a 6 1, twI b 12 1, rfl, rfl, ⟨hfan, ⟨w1, rfl, w3, Or.inr rfl, w5⟩, ⟨r1, r2, r3, r4, r5⟩, ⟨s1, s2, s3, s4, s5⟩, hdet, hdoor, ⟨c1, c2⟩, hst⟩, hK0⟩
  · exact ⟨twI a 2 1, twI b 13 1, rfl, rfl, ⟨hfan, ⟨w1, w2, w3, w4, w5⟩, ⟨r1, r2, r3, r4, r5⟩, ⟨s1, s2, s3, s4, s5⟩, hdet, hdoor, ⟨rfl, c2⟩, hst⟩, hK0⟩
  · obtain ⟨y, g1, g2, g3, g4, g5⟩ := tp_openAll a
    refine ⟨y, twI b 7 ((b.1 7) ||| ((b.1 6) &&& ((b.1 8) ^^^ (-1)))), ?_, rfl, ?_, ?_⟩
    · unfold f_X7_perform
      rw [if_neg (by decide), if_neg (by decide), if_pos (by decide), g1]
      rfl
    · unfold twQ
      rw [g3, g5, g4 8 (by decide), g4 9 (by decide), g4 10 (by decide), g4 11 (by decide), g4 12 (by decide), g4 13 (by decide), g4 14 (by decide), g4 16 (by decide), g4 18 (by decide), g4 22 (by decide), g4 23 (by decide), g4 24 (by decide), g4 25 (by decide)]
      refine ⟨hfan, ⟨w1, w2, w3, w4, w5⟩, ⟨r1, r2, r3, r4, r5⟩, ⟨s1, s2, s3, s4, s5⟩, hdet, fun k hk => ?_, ⟨c1, c2⟩, hst⟩
      obtain ⟨d1, d2, d3⟩ := hdoor k hk
      refine ⟨d1, ?_, d3⟩
      show y.2.1 17 k = bitI (b.1 7 ||| (b.1 6 &&& (b.1 8 ^^^ (-1)))) k
      rw [g2 k hk, bit_open _ _ _ hk, d1, d2, d3]
    · unfold keepK
      rw [g3, g4 19 (by decide), g4 20 (by decide), g4 21 (by decide)]
      exact ⟨rfl, rfl, rfl, rfl, rfl, rfl, rfl, rfl, rfl, rfl, rfl, rfl, rfl, rfl⟩
  · obtain ⟨a', b', g1, g2, g3, g4⟩ := tp_orders h0 3 (-1) (Or.inl ⟨rfl, rfl⟩)
    refine ⟨a', b', ?_, ?_, g3, g4⟩
    · unfold f_X7_perform
      rw [if_neg (by decide), if_neg (by decide), if_neg (by decide), if_pos (by decide), g1]
      rfl
    · unfold f_X8_doesAct
      rw [if_neg (by decide), if_neg (by decide), if_neg (by decide), if_neg (by decide), if_neg (by decide)]
      exact g2
  · obtain ⟨a', b', g1, g2, g3, g4⟩ := tp_orders h0 4 1 (Or.inr (Or.inl ⟨rfl, rfl⟩))
    refine ⟨a', b', ?_, ?_, g3, g4⟩
    · unfold f_X7_perform
      rw [if_neg (by decide), if_neg (by decide), if_neg (by decide), if_neg (by decide), if_pos (by decide), g1]
      rfl
    · unfold f_X8_doesAct
      rw [if_neg (by decide), if_neg (by decide), if_neg (by decide), if_neg (by decide), if_neg (by decide)]
      exact g2
  · obtain ⟨a', b', g1, g2, g3, g4⟩ := tp_orders h0 5 0 (Or.inr (Or.inr ⟨rfl, rfl⟩))
    refine ⟨a', b', ?_, ?_, g3, g4⟩
    · unfold f_X7_perform
      rw [if_neg (by decide), if_neg (by decide), if_neg (by decide), if_neg (by decide), if_neg (by decide), if_pos (by decide), g1]
      rfl
    · unfold f_X8_doesAct
      rw [if_neg (by decide), if_neg (by decide), if_neg (by decide), if_neg (by decide), if_neg (by decide)]
      exact g2
  · exact ⟨twI a 1 1, twI b 10 1, rfl, rfl, ⟨hfan, ⟨w1, w2, w3, w4, w5⟩, ⟨r1, r2, r3, r4, r5⟩, ⟨s1, s2, s3, s4, rfl⟩, hdet, hdoor, ⟨c1, c2⟩, hst⟩, hK0⟩
  · exact ⟨twI a 11 1, twI b 11 1, rfl, rfl, ⟨hfan, ⟨w1, w2, w3, w4, w5⟩, ⟨r1, r2, r3, rfl, r5⟩, ⟨s1, s2, s3, s4, s5⟩, hdet, hdoor, ⟨c1, c2⟩, hst⟩, hK0⟩
/-- nothing due: the chart holds a step on -/
theorem twK_on {t : Nat} {a b : twS} (h : twK t a b) (hn : ∀ s w n c, a.1 3 ≠ -1 → a.1 14 = nI n → a.1 13 = nI c → n < c → c ≤ 10 → s ≤ t → w ≤ 43 → t ≤ s + w → a.1 15 = nI s → a.2.1 20 n = nI w → t < s + w) : twK (t + 1) a b := by
  obtain ⟨r1, r2, r3, r4, r5, c, n, r6, r7, r8, r9, r10, r11⟩ := h
  refine ⟨r1, r2, r3, r4, r5, c, n, r6, r7, r8, r9, r10, fun e1 e2 => ?_⟩
  obtain ⟨s, w, q1, q2, q3, q4, q5, q6⟩ := r11 e1 e2
  have := hn s w n c e1 r9 r8 e2 r6 q1 q2 q3 q4 q5
  exact ⟨s, w, by omega, q2, by omega, q4, q5, q6⟩
theorem tp_isDue (a : twS) {t c n s w : Nat} (ht : t < 2 ^ 30) (hc : c ≤ 10) (hn : n ≤ c) (e13 : a.1 13 = nI c) (e14 : a.1 14 = nI n) (hd : n < c → s ≤ t ∧ w ≤ 43 ∧ a.1 15 = nI s ∧ a.2.1 20 n = nI w) : f_X2_isDue a (nI t) = some (if n < c ∧ s + w ≤ t then 1 else 0, a) := by
  unfold f_X2_isDue f_X2_isAct
  rw [e14, e13, if_neg (nI_pos (by omega))]
  by_cases h1 : n < c
  · obtain ⟨d1, d2, d3, d4⟩ := hd h1
    have hb := tp_b (n := 10) (show n < 10 by omega) (by decide)
    have hcl : (nI n).toNatClampNeg = n := tp_c (by omega)
    rw [if_neg (nI_ge h1 (by omega)), if_neg (show ¬ (10 : Int32) ≤ nI n from nI_ge (show n < 10 by omega) (by decide))]
    simp only [Option.bind_some]
    rw [if_neg (by decide), e14, if_pos hb, d3, hcl, d4, tp_sub d1]
    by_cases h2 : s + w ≤ t
    · rw [if_neg (nI_nlt (by omega) (by omega)), if_pos ⟨h1, h2⟩]
    · rw [if_pos (nI_lt (by omega) (by omega)), if_neg (fun q => h2 q.2)]
  · rw [if_pos (nI_le (by omega) (by omega)), if_neg (fun q => h1 q.1)]
    simp only [Option.bind_some]
    rw [if_pos trivial]
theorem tp_chart {t : Nat} {u : Nat × Int32} {a b : twS} (ht : t < 2 ^ 30) (h : twR t u a b) : ∃ a' b', f_X7_followChart a = some a' ∧ f_X8_charts b = some b' ∧ twQ t u a' b' ∧ twK (t + 1) a' b' := by
  unfold f_X7_followChart f_X8_charts
  refine tp_loop2 (fun n k x => f_X7_followChart_L2 n (nI k) x) (fun n _ y => f_X8_charts_L0 n y) 10 (fun k x y => twQ t u x y ∧ twK t x y ∧ ∃ n, k ≤ n ∧ n ≤ 10 ∧ x.1 14 = nI n ∧ True) (fun x y => twQ t u x y ∧ twK (t + 1) x y) ?_ ?_ 10 0 a b twN twN rfl (by decide) (by decide) ⟨(twR_Q h).1, (twR_Q h).2, by
    obtain ⟨-, -, -, -, -, c, n, r6, r7, -, r9, -⟩ := (twR_Q h).2
    exact ⟨n, by omega, by omega, r9, trivial⟩⟩
  · intro k x y hk hR
    obtain ⟨hQ, hK, n', hkn, hn10, hx14, -⟩ := hR
    have hQ0 := hQ
    have hK0 := hK
    obtain ⟨-, -, -, -, -, -, -, hst1, hst2⟩ := hQ
    obtain ⟨r1, r2, r3, r4, r5, c, n, r6, r7, r8, r9, r10, r11⟩ := hK
    have hnn : n' = n := by
      have := (nI_eq (a := n') (b := n) (by omega) (by omega)).mp (by rw [← hx14, r9])
      exact this
    subst hnn
    have h10 : ¬ (10 : Int32) ≤ nI k := nI_ge hk (by decide)
    have hFu : ∀ n, f_X7_followChart_L2 (n + 1) (nI k) x = f_X7_followChart_L2b (f_X7_followChart_L2 n) (nI k) x := fun n => rfl
    have hGu : ∀ n, f_X8_charts_L0 (n + 1) y = f_X8_charts_L0b (f_X8_charts_L0 n) y := fun n => rfl
    by_cases e : x.1 3 = -1
    · right
      refine ⟨x, y, fun n => ?_, fun n => ?_, hQ0, twK_on hK0 (fun _ _ _ _ q => absurd e q)⟩
      · show f_X7_followChart_L2 (n + 1) (nI k) x = _
        rw [hFu]
        unfold f_X7_followChart_L2b
        rw [if_neg h10, if_pos e]
      · show f_X8_charts_L0 (n + 1) y = _
        rw [hGu]
        unfold f_X8_charts_L0b
        rw [if_pos (by rw [← r1]; exact e)]
    · have e2 : ¬ y.1 24 = -1 := by rw [← r1]; exact e
      by_cases h1 : n' < c
      · obtain ⟨s, w, q1, q2, q3, q4, q5, q6⟩ := r11 e h1
        have hdue := tp_isDue x (t := t) (s := s) (w := w) ht r6 r7 r8 r9 (fun _ => ⟨q1, q2, q4, q5⟩)
        by_cases h2 : s + w ≤ t
        · have est : t = s + w := by omega
          rw [if_pos ⟨h1, h2⟩] at hdue
          have hb := tp_b (n := 10) (show n' < 10 by omega) (by decide)
          have hcl : (nI n').toNatClampNeg = n' := tp_c (by omega)
          obtain ⟨p1, p2, p3, p4, z, hz, p5⟩ := r5 n' (by omega)
          have hfin : f_X2_finishNext x (nI t) = some (nI z, twI (twI (twA x 21 (nI n') (nI t)) 15 (nI t)) 14 (nI (n' + 1))) := by
            unfold f_X2_finishNext f_X2_isAct
            rw [r9, r8, if_neg (nI_pos (by omega)), if_neg (nI_ge h1 (by omega)), if_neg (show ¬ (10 : Int32) ≤ nI n' from nI_ge (show n' < 10 by omega) (by decide))]
            simp only [Option.bind_some]
            rw [if_neg (by decide), r9, if_pos hb, if_pos hb, hcl, p5]
            simp only [tp_i1, tp_a1]
            rw [if_neg (by decide), r9, tp_s]
          have hQ1 : twQ t u (twI (twI (twA x 21 (nI n') (nI t)) 15 (nI t)) 14 (nI (n' + 1))) y := hQ0
          obtain ⟨x', y', g1, g2, g3, g4⟩ := tp_act hQ1 hz
          obtain ⟨k1, k2, k3, k4, k5, k6, k7, k8, k9, k10, k11, k12, k13, k14⟩ := g4
          obtain ⟨v1, v2, v3, v4, v5, v6, v7, v8, v9⟩ := g3
          have m29 : y'.1 29 = nI n' := by rw [k10, ← r4, r9]
          have m25 : y'.1 25 = nI c := by rw [k9, ← r3, r8]
          have hB : ∀ n, f_X8_charts_L0 (n + 1) y = f_X8_charts_L0 n (twI (twI (twA y' 10 (nI n') (nI t)) 29 (nI (n' + 1))) 30 (nI t + (if c ≤ n' + 1 then 0 else y.2.1 9 (n' + 1)))) := fun n => by
            rw [hGu]
            unfold f_X8_charts_L0b
            rw [if_neg e2, ← r3, r8, ← r4, r9, if_neg (nI_ge h1 (by omega)), hst2, q6, if_neg (nI_nlt (by omega) (by omega)), if_pos hb, hcl, ← p1, p5, g2]
            simp only [Option.bind_some, tp_i1, tp_i2, tp_a1]
            rw [m29, if_pos hb, v9, m25, k11, q6, tp_s]
            simp only [Nat.reduceEqDiff, if_false, if_true]
            by_cases h3 : c ≤ n' + 1
            · rw [if_pos h3, if_pos (nI_le h3 (by omega)), est]
            · have hb1 := tp_b (n := 10) (show n' + 1 < 10 by omega) (by decide)
              rw [if_neg h3, if_neg (nI_ge (by omega) (by omega)), if_pos hb1, tp_c (show n' + 1 < 2 ^ 31 by omega), tp_ab _ _ _ _ (show 9 ≠ 10 by decide), k13, est]
          left
          refine ⟨x', twI (twI (twA y' 10 (nI n') (nI t)) 29 (nI (n' + 1))) 30 (nI t + (if c ≤ n' + 1 then 0 else y.2.1 9 (n' + 1))), fun n => ?_, hB, ⟨v1, v2, v3, v4, v5, v6, v7, v8, v9⟩, ?_, n' + 1, by omega, by omega, k3, trivial⟩
          · show f_X7_followChart_L2 (n + 1) (nI k) x = _
            rw [hFu]
            unfold f_X7_followChart_L2b
            rw [if_neg h10, if_neg e, hst1, hdue]
            simp only [Option.bind_some]
            rw [if_neg (by decide), hst1, hfin]
            simp only [Option.bind_some]
            rw [g1]
            simp only [Option.bind_some]
            rw [tp_s]
          · unfold twK
            rw [k1, k2, k3, k4, k5, k6, k7]
            simp only [tp_i1, tp_i2, tp_a1, Nat.reduceEqDiff, if_true, if_false]
            rw [k8, k9, tp_ab _ _ _ _ (show 8 ≠ 10 by decide), tp_ab _ _ _ _ (show 9 ≠ 10 by decide), k12, k13, tp_ab _ _ _ _ (show 19 ≠ 21 by decide), tp_ab _ _ _ _ (show 20 ≠ 21 by decide)]
            refine ⟨r1, r2, r3, rfl, fun i hi => ?_, c, n' + 1, r6, by omega, r8, rfl, fun q => absurd q e, fun _ h4 => ?_⟩
            · obtain ⟨u1, u2, u3, u4, u5⟩ := r5 i hi
              refine ⟨u1, u2, ?_, u4, u5⟩
              rw [tp_aa, tp_aa, hcl, k14, u3]
            · obtain ⟨u1, u2, u3, ⟨w', u4, u6⟩, u5⟩ := r5 (n' + 1) (by omega)
              refine ⟨t, w', Nat.le_refl t, u4, by omega, rfl, u6, ?_⟩
              rw [if_neg (show ¬ c ≤ n' + 1 by omega), ← u2, u6, nI_add]
        · rw [if_neg (fun q => h2 q.2)] at hdue
          right
          refine ⟨x, y, fun n => ?_, fun n => ?_, hQ0, twK_on hK0 (fun s' w' n2 c2 _ z1 z2 _ _ z3 z4 _ z6 z7 => ?_)⟩
          · show f_X7_followChart_L2 (n + 1) (nI k) x = _
            rw [hFu]
            unfold f_X7_followChart_L2b
            rw [if_neg h10, if_neg e, hst1, hdue]
            rfl
          · show f_X8_charts_L0 (n + 1) y = _
            rw [hGu]
            unfold f_X8_charts_L0b
            rw [if_neg e2, ← r3, r8, ← r4, r9, if_neg (nI_ge h1 (by omega)), hst2, q6, if_pos (nI_lt (by omega) (by omega))]
          · have e3 : n2 = n' := (nI_eq (a := n2) (b := n') (by omega) (by omega)).mp (by rw [← z1, r9])
            subst e3
            have e4 : s' = s := (nI_eq (a := s') (b := s) (by omega) (by omega)).mp (by rw [← z6, q4])
            have e5 : w' = w := (nI_eq (a := w') (b := w) (by omega) (by omega)).mp (by rw [← z7, q5])
            omega
      · have hdue := tp_isDue x (t := t) (s := 0) (w := 0) ht r6 r7 r8 r9 (fun q => absurd q h1)
        rw [if_neg (fun q => h1 q.1)] at hdue
        right
        refine ⟨x, y, fun n => ?_, fun n => ?_, hQ0, twK_on hK0 (fun s' w' n2 c2 _ z1 z2 z0 z8 z3 z4 _ z6 z7 => ?_)⟩
        · show f_X7_followChart_L2 (n + 1) (nI k) x = _
          rw [hFu]
          unfold f_X7_followChart_L2b
          rw [if_neg h10, if_neg e, hst1, hdue]
          rfl
        · show f_X8_charts_L0 (n + 1) y = _
          rw [hGu]
          unfold f_X8_charts_L0b
          rw [if_neg e2, ← r3, r8, ← r4, r9, if_pos (nI_le (by omega) (by omega))]
        · have e3 : n2 = n' := (nI_eq (a := n2) (b := n') (by omega) (by omega)).mp (by rw [← z1, r9])
          have e4 : c2 = c := (nI_eq (a := c2) (b := c) (by omega) (by omega)).mp (by rw [← z2, r8])
          omega
  · intro x y hR
    obtain ⟨hQ, hK, n', hkn, hn10, hx14, -⟩ := hR
    have hK0 := hK
    obtain ⟨r1, r2, r3, r4, r5, c, n, r6, r7, r8, r9, r10, r11⟩ := hK
    have hnn : n' = n := (nI_eq (a := n') (b := n) (by omega) (by omega)).mp (by rw [← hx14, r9])
    subst hnn
    refine ⟨x, y, fun n => ?_, fun n => ?_, hQ, twK_on hK0 (fun s' w' n2 c2 _ z1 z2 z0 z8 z3 z4 _ z6 z7 => ?_)⟩
    · show f_X7_followChart_L2b (f_X7_followChart_L2 n) (nI 10) x = some x
      unfold f_X7_followChart_L2b
      rw [if_pos (by decide)]
    · show f_X8_charts_L0b (f_X8_charts_L0 n) y = some y
      unfold f_X8_charts_L0b
      by_cases e : y.1 24 = -1
      · rw [if_pos e]
      · rw [if_neg e, ← r3, r8, ← r4, r9, if_pos (nI_le (by omega) (by omega))]
    · have e3 : n2 = n' := (nI_eq (a := n2) (b := n') (by omega) (by omega)).mp (by rw [← z1, r9])
      have e4 : c2 = c := (nI_eq (a := c2) (b := c) (by omega) (by omega)).mp (by rw [← z2, r8])
      omega
