/-! ===== the pure side: the calls ===== -/
def kI (t : Nat) (a b : twS) (w : Nat → Int64) (G : Option (Int32 × (twS × (Nat → Int64)))) (Y : Option (Int32 × twS)) : Prop :=
  (∃ c v, c ≠ 0 ∧ G = some (c, (a, w)) ∧ Y = some (v, twI b 36 c)) ∨ (∃ v a' b' t', G = some (0, (a', vp_updL w (0 : Int32).toNatClampNeg v.toInt64)) ∧ Y = some (v, b') ∧ b'.1 36 = 0 ∧ t ≤ t' ∧ t' ≤ t + 100 ∧ twR t' (t', 0) a' b')
def kV (t : Nat) (a b : twS) (w : Nat → Int64) (G : Option (Int32 × (twS × (Nat → Int64)))) (Y : Option twS) : Prop :=
  (∃ c, c ≠ 0 ∧ G = some (c, (a, w)) ∧ Y = some (twI b 36 c)) ∨ (∃ a' b', G = some (0, (a', w)) ∧ Y = some b' ∧ b'.1 36 = 0 ∧ twR t (t, 0) a' b')
def kZ (t : Nat) (a b : twS) (w : Nat → Int64) (G : Option (Int32 × (twS × (Nat → Int64)))) (Y : Option (Int32 × twS)) : Prop :=
  (∃ c v, c ≠ 0 ∧ G = some (c, (a, w)) ∧ Y = some (v, twI b 36 c)) ∨ (∃ v a' b', G = some (0, (a', vp_updL w (0 : Int32).toNatClampNeg (if v = 0 then 0 else 1))) ∧ Y = some (v, b') ∧ b'.1 36 = 0 ∧ twR t (t, 0) a' b')
theorem e21 : ¬ twX2 = twX1 := by decide
theorem e31 : ¬ twX3 = twX1 := by decide
theorem e32 : ¬ twX3 = twX2 := by decide
theorem one0 : (1 : Int32) ≠ 0 := by decide
theorem two0 : (2 : Int32) ≠ 0 := by decide
theorem three0 : (3 : Int32) ≠ 0 := by decide
theorem tp_36 {t : Nat} {u : Nat × Int32} {a b : twS} (h : twR t u a b) (c : Int32) : twR t (u.1, c) a (twI b 36 c) := by
  obtain ⟨h1, h2, h3, h4, ⟨h5, -⟩, h6, h7, h8, h9⟩ := h
  exact ⟨h1, h2, h3, h4, ⟨h5, rfl⟩, h6, h7, h8, h9⟩
theorem go0 (b : twS) {k1 k2 k3 : Int32} (h1 : k1 ≠ 0) (h2 : k2 ≠ 0) (h3 : k3 ≠ 0) : f_X8_goes b k1 k2 k3 = some (1, twI b 36 0) := by
  unfold f_X8_goes f_X8_goes_L26
  rw [if_neg h1, if_neg h2, if_neg h3, tp_i1, if_pos rfl, if_pos rfl]
theorem go1 (b : twS) (k2 k3 : Int32) : f_X8_goes b 0 k2 k3 = some (0, twI b 36 1) := by
  unfold f_X8_goes f_X8_goes_L26
  rw [if_pos rfl, tp_i1, if_pos rfl, if_neg one0]
theorem go2 (b : twS) {k1 : Int32} (k3 : Int32) (h1 : k1 ≠ 0) : f_X8_goes b k1 0 k3 = some (0, twI b 36 2) := by
  unfold f_X8_goes f_X8_goes_L26
  rw [if_neg h1, if_pos rfl, tp_i1, if_pos rfl, if_neg two0]
theorem go3 (b : twS) {k1 k2 : Int32} (h1 : k1 ≠ 0) (h2 : k2 ≠ 0) : f_X8_goes b k1 k2 0 = some (0, twI b 36 3) := by
  unfold f_X8_goes f_X8_goes_L26
  rw [if_neg h1, if_neg h2, if_pos rfl, tp_i1, if_pos rfl, if_neg three0]
theorem bt_y (b : twS) {v lo hi : Int32} (h : ¬ (v < lo ∨ hi < v)) : f_X8_isBetween b v lo hi = some (1, b) := by
  unfold f_X8_isBetween
  rw [if_neg (fun q => h (Or.inl q)), if_neg (fun q => h (Or.inr q))]
theorem bt_n (b : twS) {v lo hi : Int32} (h : v < lo ∨ hi < v) : f_X8_isBetween b v lo hi = some (0, b) := by
  unfold f_X8_isBetween
  by_cases c : v < lo
  · rw [if_pos c]
  · rw [if_neg c, if_pos (h.resolve_left c)]
theorem rr_y (a : twS) {v lo hi : Int32} (h : ¬ (v < lo ∨ hi < v)) : f_X7_requireRange a v lo hi = some (.inr a) := by
  unfold f_X7_requireRange
  rw [if_neg (fun q => h (Or.inl q)), if_pos (Int32.not_lt.mp (fun q => h (Or.inr q)))]
theorem rr_n (a : twS) {v lo hi : Int32} (h : v < lo ∨ hi < v) : f_X7_requireRange a v lo hi = some (.inl (twX2, a)) := by
  unfold f_X7_requireRange
  by_cases c : v < lo
  · rw [if_pos c]
  · rw [if_neg c, if_neg (Int32.not_le.mpr (h.resolve_left c))]
theorem ix_or (v : Int32) {n : Nat} (hn : n < 2 ^ 31) : (v < 0 ∨ nI n ≤ v) ∨ ∃ j, j < n ∧ v = nI j := by
  rcases pk_ix v hn with h | h | h
  · exact Or.inl (Or.inl h)
  · exact Or.inl (Or.inr h)
  · exact Or.inr h
theorem ri_n (a : twS) {v : Int32} {n : Nat} (h : v < 0 ∨ nI n ≤ v) : f_X7_requireIndex a v (nI n) = some (.inl (twX1, a)) := by
  unfold f_X7_requireIndex
  by_cases c : v < 0
  · rw [if_pos c]
  · rw [if_neg c, if_neg (Int32.not_lt.mpr (h.resolve_left c))]
theorem ri_y (a : twS) {j n : Nat} (h : j < n) (hn : n < 2 ^ 31) : f_X7_requireIndex a (nI j) (nI n) = some (.inr a) := by
  unfold f_X7_requireIndex
  rw [if_neg (nI_pos (by omega)), if_pos (nI_lt h hn)]
theorem ib_n (b : twS) {v : Int32} {n : Nat} (hn : n < 2 ^ 31) (h : v < 0 ∨ nI n ≤ v) : f_X8_isBetween b v 0 (nI n - 1) = some (0, b) := by
  by_cases c : v < 0
  · exact bt_n b (Or.inl c)
  · refine bt_n b (Or.inr ?_)
    have h2 := h.resolve_left c
    rw [Int32.le_iff_toInt_le, nI_toInt hn] at h2
    rw [Int32.lt_iff_toInt_lt] at c ⊢
    have z : (0 : Int32).toInt = 0 := by decide
    rcases n with _ | n
    · have e : (nI 0 - 1).toInt = -1 := by decide
      rw [e]
      omega
    · rw [nI_pred, nI_toInt (by omega)]
      omega
theorem ib_y (b : twS) {j n : Nat} (h : j < n) (hn : n < 2 ^ 31) : f_X8_isBetween b (nI j) 0 (nI n - 1) = some (1, b) := by
  refine bt_y b ?_
  obtain ⟨m, rfl⟩ : ∃ m, n = m + 1 := ⟨n - 1, by omega⟩
  rw [nI_pred]
  rintro (q | q)
  · exact nI_pos (by omega) q
  · exact nI_nlt (by omega) (by omega) q
theorem i11 : (11 : Int32) = nI 12 - 1 := by decide
theorem i2 : (2 : Int32) = nI 3 - 1 := by decide
theorem i1 : (1 : Int32) = nI 2 - 1 := by decide
theorem rs_n (a : twS) {v : Int32} (h : v < 0 ∨ nI 12 ≤ v) : f_X7_requireSegment a v = some (.inl (twX1, a)) := by
  unfold f_X7_requireSegment
  rw [show (12 : Int32) = nI 12 from rfl, ri_n a h]
  rfl
theorem rs_y (a : twS) {j : Nat} (h : j < 12) : f_X7_requireSegment a (nI j) = some (.inr a) := by
  unfold f_X7_requireSegment
  rw [show (12 : Int32) = nI 12 from rfl, ri_y a h (by decide)]
  rfl
theorem sg_n (b : twS) {v : Int32} (h : v < 0 ∨ nI 12 ≤ v) : f_X8_isSegment b v = some (0, b) := by
  unfold f_X8_isSegment
  rw [i11, ib_n b (by decide) h]
  rfl
theorem fn_n (b : twS) {v : Int32} (h : v < 0 ∨ nI 3 ≤ v) : f_X8_isFan b v = some (0, b) := by
  unfold f_X8_isFan
  rw [i2, ib_n b (by decide) h]
  rfl
theorem fn_y (b : twS) {j : Nat} (h : j < 3) : f_X8_isFan b (nI j) = some (1, b) := by
  unfold f_X8_isFan
  rw [i2, ib_y b h (by decide)]
  rfl
theorem rst0 (a : twS) : f_X7_requireState a 0 = some (.inl (twX3, a)) := if_pos rfl
theorem rst1 (a : twS) : f_X7_requireState a 1 = some (.inr a) := if_neg one0
theorem q_wind {t : Nat} {a b : twS} {g : Int32} (h : twR t (t, g) a b) (w : Nat → Int64) (v : Int32) : kI t a b w (h_L_wind a w v) (f_X8_wind b v) := by
  have h0 := h
  obtain ⟨hfan, ⟨w1, w2, w3, w4⟩, hrest⟩ := h
  unfold h_L_wind f_X7_wind f_X8_wind
  by_cases c : v < -40 ∨ (40 : Int32) < v
  · left
    rw [rr_n a c, bt_n b c]
    simp only [Option.bind_some, go1, twTry]
    exact ⟨1, 0, one0, rfl, rfl⟩
  · right
    rw [rr_y a c, bt_y b c]
    simp only [Option.bind_some, twTry]
    rw [go0 b one0 one0 one0]
    simp only [Option.bind_some]
    rw [if_neg one0]
    refine ⟨a.1 5, twI a 5 v, twI (twI b 36 0) 15 v, t, rfl, ?_, rfl, Nat.le_refl t, by omega, ⟨hfan, ⟨rfl, w2, ?_, w4⟩, (tp_36 h0 0).2.2⟩⟩
    · show some (b.1 15, _) = _
      rw [w1]
    · show ∃ z, z ≤ 80 ∧ v = nI z - 40
      have c1 : ¬ v < -40 := fun q => c (Or.inl q)
      have c2 : ¬ (40 : Int32) < v := fun q => c (Or.inr q)
      have hr : ∃ z : Nat, z ≤ 80 ∧ v + 40 = nI z := by
        rw [Int32.lt_iff_toInt_lt] at c1 c2
        have z1 : (-40 : Int32).toInt = -40 := by decide
        have z2 : (40 : Int32).toInt = 40 := by decide
        rw [z1] at c1
        rw [z2] at c2
        refine ⟨(v.toInt + 40).toNat, by omega, ?_⟩
        apply Int32.toInt_inj.mp
        rw [nI_toInt (by omega), Int32.toInt_add, z2, Int.bmod_eq_of_le (by omega) (by omega)]
        omega
      obtain ⟨z, hz, e⟩ := hr
      refine ⟨z, hz, ?_⟩
      rw [← e, Int32.add_sub_cancel]
theorem q_fire {t : Nat} {a b : twS} {g : Int32} (h : twR t (t, g) a b) (w : Nat → Int64) (v1 v2 : Int32) : kV t a b w (h_L_fire a w v1 v2) (f_X8_fire b v1 v2) := by
  have h0 := h
  obtain ⟨hfan, hflow, ⟨r1, r2, r3, r4, r5, r6, r7⟩, hrest⟩ := h
  unfold h_L_fire f_X7_fire f_X8_fire
  rcases ix_or v1 (n := 12) (by decide) with c | ⟨j, hj, rfl⟩
  · left
    refine ⟨1, one0, ?_, ?_⟩
    · rw [rs_n a c]
      simp only [Option.bind_some, twTry]
      rfl
    · rw [sg_n b c]
      simp only [Option.bind_some]
      unfold f_X8_fire_L26
      by_cases c2 : v2 < 1 ∨ (200 : Int32) < v2
      · rw [bt_n b c2]
        simp only [Option.bind_some, go1]
        split <;> rfl
      · rw [bt_y b c2]
        simp only [Option.bind_some, go1]
        split <;> rfl
  · rw [rs_y a hj, tp_segM b hj]
    simp only [Option.bind_some, twTry]
    by_cases c2 : v2 < 1 ∨ (200 : Int32) < v2
    · left
      rw [rr_n a c2, bt_n b c2]
      unfold f_X8_fire_L26
      simp only [Option.bind_some, go2 b _ one0]
      refine ⟨2, two0, ?_, ?_⟩
      · rw [if_neg e21]
        rfl
      · split <;> rfl
    · rw [rr_y a c2, bt_y b c2]
      unfold f_X1_isBurning f_X7_fire_L27 f_X8_fire_L26
      simp only [Option.bind_some]
      by_cases c3 : a.1 8 = -1
      · right
        rw [if_pos c3, if_pos (show b.1 18 = -1 by rw [← r1]; exact c3), go0 b one0 one0 one0]
        simp only [Option.bind_some]
        rw [if_pos trivial, if_neg one0, rst1]
        simp only [Option.bind_some, twTry]
        refine ⟨twI (twI a 8 (nI j)) 9 v2, twI (twI (twI b 36 0) 18 (nI j)) 19 v2, rfl, rfl, rfl, ⟨hfan, hflow, ⟨rfl, rfl, r3, r4, r5, r6, Or.inr ⟨⟨j, hj, rfl⟩, ?_⟩⟩, (tp_36 h0 0).2.2.2⟩⟩
        show ∃ z, 1 ≤ z ∧ z ≤ 200 ∧ v2 = nI z
        rcases ix_or v2 (n := 201) (by decide) with q | ⟨z, hz, rfl⟩
        · exfalso
          refine c2 ?_
          rw [Int32.lt_iff_toInt_lt, Int32.lt_iff_toInt_lt]
          rw [Int32.lt_iff_toInt_lt, Int32.le_iff_toInt_le] at q
          have z1 : (1 : Int32).toInt = 1 := by decide
          have z2 : (200 : Int32).toInt = 200 := by decide
          have z3 : (0 : Int32).toInt = 0 := by decide
          have z4 : (nI 201).toInt = 201 := by decide
          omega
        · refine ⟨z, ?_, by omega, rfl⟩
          rcases z with _ | z
          · exact absurd (Or.inl (by decide)) c2
          · omega
      · left
        rw [if_neg c3, if_neg (show ¬ b.1 18 = -1 by rw [← r1]; exact c3), go3 b one0 one0]
        simp only [Option.bind_some]
        rw [if_neg one0, rst0]
        simp only [Option.bind_some, twTry]
        refine ⟨3, three0, ?_, rfl⟩
        rw [if_neg e31, if_neg e32]
        rfl
theorem fa_y (a : twS) {j : Nat} (hj : j < 3) : f_X5_isFan a (nI j) = some (1, a) := by
  unfold f_X5_isFan
  rw [if_neg (nI_pos (by omega)), if_neg (show ¬ (3 : Int32) ≤ nI j from nI_ge (a := j) (b := 3) hj (by decide))]
theorem q_fan {t : Nat} {a b : twS} {g : Int32} (h : twR t (t, g) a b) (w : Nat → Int64) (v : Int32) : kI t a b w (h_L_fan a w v) (f_X8_fan b v) := by
  have h0 := h
  obtain ⟨⟨f1, f2⟩, hrest⟩ := h
  unfold h_L_fan f_X7_fan f_X8_fan
  rw [show (3 : Int32) = nI 3 from rfl]
  rcases ix_or v (n := 3) (by decide) with c | ⟨j, hj, rfl⟩
  · left
    rw [ri_n a c, fn_n b c]
    simp only [Option.bind_some, go1, twTry]
    exact ⟨1, 0, one0, rfl, rfl⟩
  · right
    have hb : twb (nI j) 3 = true := tp_b hj (by decide)
    have hc : (nI j).toNatClampNeg = j := tp_c (by omega)
    rw [ri_y a hj (by decide), fn_y b hj]
    unfold f_X5_stateOf
    simp only [Option.bind_some, twTry, fa_y a hj]
    rw [go0 b one0 one0 one0, if_neg one0, if_pos hb, hc]
    simp only [Option.bind_some]
    rw [if_neg one0, if_pos hb]
    exact ⟨a.2.1 11 j, a, twI b 36 0, t, rfl, by rw [(f2 j hj).2.1]; rfl, rfl, Nat.le_refl t, by omega, tp_36 h0 0⟩
theorem q_command {t : Nat} {a b : twS} {g : Int32} (h : twR t (t, g) a b) (w : Nat → Int64) (v1 v2 : Int32) : kI t a b w (h_L_command a w v1 v2) (f_X8_command b v1 v2) := by
  have h0 := h
  obtain ⟨⟨f1, f2⟩, hrest⟩ := h
  unfold h_L_command f_X7_command f_X8_command
  rw [show (3 : Int32) = nI 3 from rfl]
  rcases ix_or v1 (n := 3) (by decide) with c | ⟨j, hj, rfl⟩
  · left
    rw [ri_n a c, fn_n b c]
    simp only [Option.bind_some, twTry]
    refine ⟨1, 0, one0, rfl, ?_⟩
    by_cases c2 : v2 < -1 ∨ (1 : Int32) < v2
    · rw [bt_n b c2]
      simp only [Option.bind_some, go1]
      rw [if_pos trivial]
    · rw [bt_y b c2]
      simp only [Option.bind_some, go1]
      rw [if_pos trivial]
  · have hb : twb (nI j) 3 = true := tp_b hj (by decide)
    have hc : (nI j).toNatClampNeg = j := tp_c (by omega)
    rw [ri_y a hj (by decide), fn_y b hj]
    simp only [Option.bind_some, twTry]
    by_cases c2 : v2 < -1 ∨ (1 : Int32) < v2
    · left
      rw [rr_n a c2, bt_n b c2]
      simp only [Option.bind_some, go2 b _ one0]
      rw [if_neg e21]
      exact ⟨2, 0, two0, rfl, rfl⟩
    · right
      rw [rr_y a c2, bt_y b c2]
      unfold f_X5_order
      simp only [Option.bind_some, fa_y a hj]
      rw [go0 b one0 one0 one0, if_neg one0, if_pos hb, if_pos hb, hc]
      simp only [Option.bind_some]
      rw [if_neg one0, if_pos hb, if_pos hb]
      refine ⟨a.2.1 10 j, twA a 10 (nI j) v2, twA (twI b 36 0) 3 (nI j) v2, t, rfl, by rw [(f2 j hj).1]; rfl, rfl, Nat.le_refl t, by omega, ⟨⟨f1, fun k hk => ?_⟩, (tp_36 h0 0).2⟩⟩
      obtain ⟨q1, q2, q3, q4, q5⟩ := f2 k hk
      rw [tp_aa, tp_aa, hc, tp_ab a 10 _ _ (show 11 ≠ 10 by decide), tp_ab a 10 _ _ (show 12 ≠ 10 by decide), tp_ab _ 3 _ _ (show 4 ≠ 3 by decide), tp_ab _ 3 _ _ (show 5 ≠ 3 by decide)]
      by_cases e : k = j
      · rw [if_pos e, if_pos e]
        refine ⟨rfl, q2, q3, ?_, q5⟩
        have c3 : ¬ v2 < -1 := fun q => c2 (Or.inl q)
        have c4 : ¬ (1 : Int32) < v2 := fun q => c2 (Or.inr q)
        rw [Int32.lt_iff_toInt_lt] at c3 c4
        have z1 : (-1 : Int32).toInt = -1 := by decide
        have z2 : (1 : Int32).toInt = 1 := by decide
        have z3 : (0 : Int32).toInt = 0 := by decide
        have z4 : v2.toInt = -1 ∨ v2.toInt = 0 ∨ v2.toInt = 1 := by omega
        rcases z4 with z | z | z
        · exact Or.inl (Int32.toInt_inj.mp (by rw [z, z1]))
        · exact Or.inr (Or.inl (Int32.toInt_inj.mp (by rw [z, z3])))
        · exact Or.inr (Or.inr (Int32.toInt_inj.mp (by rw [z, z2])))
      · rw [if_neg e, if_neg e]
        exact ⟨q1, q2, q3, q4, q5⟩
