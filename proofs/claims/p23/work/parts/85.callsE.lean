/-! ===== the pure side: people, and the calls without a number ===== -/
theorem tp_seat {t : Nat} {a b : twS} {p c j : Nat} (hpc : p + c ≤ 30) (hj : j < 12) (h : twR t (t, 0) a b) (hp : a.1 16 = nI p) : ∃ a' b', f_X3_seat a (nI j) (nI c) = some a' ∧ f_X8_people_L45 twN (nI j) (nI c) 0 b = some (nI (p + c), b') ∧ twR t (t, 0) a' b' ∧ a'.1 16 = nI (p + c) := by
  unfold f_X3_seat
  obtain ⟨r, s, e1, e2, y, e3, e4, e5⟩ := tp_loop2 (fun n k x => f_X3_seat_L2 n (nI j) (nI c) (nI k) x) (fun n k y => f_X8_people_L45 n (nI j) (nI c) (nI k) y) c (fun k x y => twR t (t, 0) x y ∧ x.1 16 = nI (p + k)) (fun r s => ∃ y, s = (nI (p + c), y) ∧ twR t (t, 0) r y ∧ r.1 16 = nI (p + c))
    (by
      intro k x y hk ⟨hR, hx⟩
      obtain ⟨hfan, hflow, hfire, hair, hdet, hdoor, hchart, ⟨c1, c2, p', hp', c3, c4, c5⟩, hst⟩ := hR
      have epp : p' = p + k := (nI_eq (a := p') (b := p + k) (by omega) (by omega)).mp (by rw [← hx, c3])
      subst epp
      have hy : y.1 31 = nI (p + k) := by rw [← c2]; exact hx
      have hb : twb (nI (p + k)) 30 = true := tp_b (by omega) (by decide)
      have hc : (nI (p + k)).toNatClampNeg = p + k := tp_c (by omega)
      have hkc : ¬ nI c ≤ nI k := nI_ge hk (by omega)
      have h30 : ¬ (30 : Int32) ≤ nI (p + k) := nI_ge (a := p + k) (b := 30) (by omega) (by decide)
      left
      refine ⟨twI (twA (twA (twA x 22 (nI (p + k)) 0) 23 (nI (p + k)) (nI j)) 25 (nI (p + k)) (-1)) 16 (nI (p + k + 1)), twI (twA (twA y 12 (nI (p + k)) (nI j)) 14 (nI (p + k)) (-1)) 31 (nI (p + k + 1)), fun n => ?_, fun n => ?_, ⟨hfan, hflow, hfire, hair, hdet, hdoor, hchart, ⟨c1, rfl, p + k + 1, by omega, rfl, fun i h1 h2 => ?_, fun i hi => ?_⟩, hst⟩, rfl⟩
      · show f_X3_seat_L2b (f_X3_seat_L2 n) (nI j) (nI c) (nI k) x = _
        unfold f_X3_seat_L2b
        rw [if_neg hkc]
        simp only [tp_a1, hx]
        rw [if_neg h30, if_pos hb, if_pos hb, if_pos hb, tp_s, tp_s]
      · show f_X8_people_L45b (f_X8_people_L45 n) (nI j) (nI c) (nI k) y = _
        unfold f_X8_people_L45b
        rw [if_neg hkc]
        simp only [tp_a1, hy]
        rw [if_pos hb, if_pos hb, tp_s, tp_s]
      · rw [tp_i2, tp_ab _ 14 _ _ (show 11 ≠ 14 by decide), tp_ab _ 12 _ _ (show 11 ≠ 12 by decide)]
        exact c4 i (by omega) h2
      · rw [tp_i2, tp_i2, tp_ab _ 25 _ _ (show 22 ≠ 25 by decide), tp_ab _ 23 _ _ (show 22 ≠ 23 by decide), tp_aa, tp_ab _ 25 _ _ (show 23 ≠ 25 by decide), tp_aa, tp_ab _ 25 _ _ (show 24 ≠ 25 by decide), tp_ab _ 23 _ _ (show 24 ≠ 23 by decide), tp_ab _ 22 _ _ (show 24 ≠ 22 by decide), tp_aa, tp_ab _ 14 _ _ (show 11 ≠ 14 by decide), tp_ab _ 12 _ _ (show 11 ≠ 12 by decide), tp_ab _ 14 _ _ (show 12 ≠ 14 by decide), tp_aa, tp_ab _ 14 _ _ (show 13 ≠ 14 by decide), tp_ab _ 12 _ _ (show 13 ≠ 12 by decide), tp_aa, hc]
        by_cases e : i = p + k
        · subst e
          have z := c4 (p + k) (Nat.le_refl _) (by omega)
          rw [if_pos rfl, if_pos rfl, if_pos rfl, if_pos rfl, if_pos rfl]
          refine ⟨z.symm, rfl, fun q => ?_, fun _ => rfl, ⟨0, by omega, z⟩, ⟨j, hj, rfl⟩, fun q => ?_⟩
          · rw [z] at q
            exact absurd q (by decide)
          · rw [z] at q
            exact absurd q (by decide)
        · rw [if_neg e, if_neg e, if_neg e, if_neg e, if_neg e]
          exact c5 i (by omega))
    (by
      intro x y ⟨hR, hx⟩
      have hy : y.1 31 = nI (p + c) := by
        obtain ⟨-, -, -, -, -, -, -, ⟨-, c2, -⟩, -⟩ := hR
        rw [← c2]
        exact hx
      refine ⟨x, (nI (p + c), y), fun n => ?_, fun n => ?_, y, rfl, hR, hx⟩
      · show f_X3_seat_L2b (f_X3_seat_L2 n) (nI j) (nI c) (nI c) x = _
        unfold f_X3_seat_L2b
        rw [if_pos (Int32.le_refl _)]
      · show f_X8_people_L45b (f_X8_people_L45 n) (nI j) (nI c) (nI c) y = _
        unfold f_X8_people_L45b
        rw [if_pos (Int32.le_refl _), hy])
    c 0 a b twN twN (by omega) (by show c < 2000; omega) (by show c < 2000; omega) ⟨h, hp⟩
  subst e3
  exact ⟨r, y, e1, e2, e4, e5⟩
theorem q_people {t : Nat} {a b : twS} {g : Int32} (h : twR t (t, g) a b) (w : Nat → Int64) (v1 v2 : Int32) : kI t a b w (h_L_people a w v1 v2) (f_X8_people b v1 v2) := by
  obtain ⟨hfan, hflow, hfire, hair, hdet, hdoor, hchart, ⟨c1, c2, p, hp, c3, c4, c5⟩, hst⟩ := h
  have hpb : b.1 31 = nI p := by rw [← c2]; exact c3
  have h0 : twR t (t, g) a b := ⟨hfan, hflow, hfire, hair, hdet, hdoor, hchart, ⟨c1, c2, p, hp, c3, c4, c5⟩, hst⟩
  unfold h_L_people f_X7_people f_X8_people f_X8_people_L33
  rcases ix_or v1 (n := 12) (by decide) with q | ⟨j, hj, rfl⟩
  · left
    rw [rs_n a q]
    simp only [Option.bind_some, twTry]
    refine ⟨1, 0, one0, rfl, ?_⟩
    by_cases c : v2 < 1 ∨ (30 : Int32) < v2
    · rw [bt_n b c]
      simp only [Option.bind_some]
      rw [sg_n b q]
      simp only [Option.bind_some]
      unfold f_X8_people_L34
      simp only [go1]
      rfl
    · rw [bt_y b c]
      simp only [Option.bind_some]
      rw [sg_n b q]
      simp only [Option.bind_some]
      unfold f_X8_people_L34
      simp only [go1]
      rw [if_neg one0]
      split <;> first | rfl | (split <;> rfl)
  · rw [rs_y a hj]
    simp only [Option.bind_some, twTry]
    by_cases c : v2 < 1 ∨ (30 : Int32) < v2
    · left
      rw [rr_n a c, bt_n b c]
      simp only [Option.bind_some]
      rw [tp_segM b hj]
      simp only [Option.bind_some]
      unfold f_X8_people_L34
      rw [if_pos trivial, go2 b _ one0, if_neg e21]
      exact ⟨2, 0, two0, rfl, rfl⟩
    · obtain ⟨n, hn, rfl⟩ : ∃ n, n ≤ 30 ∧ v2 = nI n := by
        refine rgN (n := 30) (by decide) (fun q => c ?_)
        rcases q with q | q
        · left
          rw [Int32.lt_iff_toInt_lt] at q ⊢
          have z1 : (1 : Int32).toInt = 1 := by decide
          have z3 : (0 : Int32).toInt = 0 := by decide
          omega
        · exact Or.inr q
      rw [rr_y a c, bt_y b c]
      simp only [Option.bind_some]
      rw [tp_segM b hj]
      unfold f_X3_hasRoomFor f_X3_size f_X8_people_L34
      simp only [Option.bind_some]
      rw [if_neg one0, hpb, c3, nI_add, show (30 : Int32) - nI p = nI (30 - p) from tp_sub (s := p) (t := 30) hp]
      by_cases c6 : p + n ≤ 30
      · right
        rw [if_neg (show ¬ nI (30 - p) < nI n from nI_nlt (by omega) (by omega)), if_neg (show ¬ (30 : Int32) < nI (p + n) from nI_nlt (a := 30) (b := p + n) c6 (by decide)), go0 b one0 one0 one0]
        simp only [Option.bind_some]
        rw [if_neg one0, rst1]
        simp only [Option.bind_some, twTry]
        obtain ⟨a', b', g1, g2, g3, g4⟩ := tp_seat c6 hj (tp_36 h0 0) c3
        rw [g1, g2]
        simp only [Option.bind_some]
        refine ⟨nI (p + n), a', b', t, ?_, rfl, g3.2.2.2.2.1.2, Nat.le_refl t, by omega, g3⟩
        rw [g4]
      · left
        rw [if_pos (show nI (30 - p) < nI n from nI_lt (by omega) (by omega)), if_pos (show (30 : Int32) < nI (p + n) from nI_lt (a := 30) (b := p + n) (by omega) (by omega)), go3 b one0 one0]
        simp only [Option.bind_some]
        rw [rst0]
        simp only [Option.bind_some, twTry]
        rw [if_neg e31, if_neg e32]
        exact ⟨3, 0, three0, rfl, rfl⟩
/-- a call without a number -/
def kQ (a b : twS) (F : Option (Int32 × twS)) (Y : Option (Int32 × twS)) : Prop := ∃ v, F = some (v, a) ∧ Y = some (v, twI b 36 0)
theorem q_alarm {t : Nat} {a b : twS} {g : Int32} (h : twR t (t, g) a b) : kQ a b (f_X7_alarm a) (f_X8_alarm b) := by
  obtain ⟨hfan, hflow, hfire, hair, hdet, hdoor, ⟨r1, r2⟩, hcrowd, hst⟩ := h
  refine ⟨a.1 3, rfl, ?_⟩
  unfold f_X8_alarm
  show some (b.1 24, _) = _
  rw [r1]
theorem q_gone {t : Nat} {a b : twS} {g : Int32} (h : twR t (t, g) a b) : kQ a b (f_X7_gone a) (f_X8_gone b) := by
  obtain ⟨hfan, hflow, hfire, ⟨s1, s2, s3⟩, hrest⟩ := h
  refine ⟨a.1 7, rfl, ?_⟩
  unfold f_X8_gone
  show some (b.1 22, _) = _
  rw [s2]
theorem q_flow {t : Nat} {a b : twS} {g : Int32} (h : twR t (t, g) a b) : kQ a b (f_X7_flow a) (f_X8_flow b) := by
  obtain ⟨hfan, ⟨w1, w2, w3, w4, w5, w6⟩, hrest⟩ := h
  have e := fp_hundred w6
  refine ⟨FP.d2i (FP.dmul 4636737291354636288 a.2.2.2), ?_, ?_⟩
  · unfold f_X7_flow f_X6_speed
    simp only [Option.bind_some]
    rw [if_pos e]
  · unfold f_X8_flow
    rw [tp_i2, ← w5, if_pos e]
def smN (f : Nat → Int32) : Nat → Int32
  | 0 => 0
  | k + 1 => smN f k + f k
theorem smN_e {f g : Nat → Int32} : ∀ n, (∀ k, k < n → f k = g k) → smN f n = smN g n := by
  intro n
  induction n with
  | zero => intro _; rfl
  | succ n ih =>
    intro h
    show smN f n + f n = smN g n + g n
    rw [ih (fun k hk => h k (by omega)), h n (by omega)]
theorem tp_allSmoke (a : twS) : f_X0_allSmoke a = some (smN (a.2.1 13) 12, a) := by
  unfold f_X0_allSmoke
  obtain ⟨x, h1, h2⟩ := tp_loopE (fun n k x => f_X0_allSmoke_L4 n x (nI k) a) 12 (fun k x => x = smN (a.2.1 13) k) (fun x => some (x, a))
    (by
      intro k x hk hx
      subst hx
      have hb := tp_b (n := 12) hk (by decide)
      have hc : (nI k).toNatClampNeg = k := tp_c (by omega)
      have h12 : ¬ (12 : Int32) ≤ nI k := nI_ge (a := k) (b := 12) hk (by decide)
      refine ⟨smN (a.2.1 13) (k + 1), fun n => ?_, rfl⟩
      show f_X0_allSmoke_L4b (f_X0_allSmoke_L4 n) _ (nI k) a = _
      unfold f_X0_allSmoke_L4b
      rw [if_neg h12, if_pos hb, hc, tp_s]
      rfl)
    (by
      intro n x _
      show f_X0_allSmoke_L4b (f_X0_allSmoke_L4 n) x (nI 12) a = _
      unfold f_X0_allSmoke_L4b
      rw [if_pos (by decide)])
    12 0 0 twN rfl (by decide) rfl
  rw [h2] at h1
  exact h1
theorem tp_sumM (b : twS) : ∃ y, f_X8_balances_L12 twN (b.1 22) 0 b = f_X8_balances_L37 twN y 0 0 b ∧ y = b.1 22 + smN (b.2.1 1) 12 := by
  exact tp_loopE (fun n k x => f_X8_balances_L12 n x (nI k) b) 12 (fun k x => x = b.1 22 + smN (b.2.1 1) k) (fun x => f_X8_balances_L37 twN x 0 0 b)
    (by
      intro k x hk hx
      subst hx
      have hb := tp_b (n := 12) hk (by decide)
      have hc : (nI k).toNatClampNeg = k := tp_c (by omega)
      have h12 : ¬ (12 : Int32) ≤ nI k := nI_ge (a := k) (b := 12) hk (by decide)
      refine ⟨b.1 22 + smN (b.2.1 1) (k + 1), fun n => ?_, rfl⟩
      show f_X8_balances_L12b (f_X8_balances_L12 n) _ (nI k) b = _
      unfold f_X8_balances_L12b
      rw [if_neg h12, if_pos hb, hc, tp_s, Int32.add_assoc]
      rfl)
    (by
      intro n x _
      show f_X8_balances_L12b (f_X8_balances_L12 n) x (nI 12) b = _
      unfold f_X8_balances_L12b
      rw [if_pos (by decide)])
    12 0 (b.1 22) twN rfl (by decide) (by show b.1 22 = b.1 22 + 0; rw [Int32.add_zero])
theorem q_balances {t : Nat} {a b : twS} {g : Int32} (h : twR t (t, g) a b) : kQ a b (f_X7_balances a) (f_X8_balances b) := by
  have h2 := tp_36 h 0
  have hcn := tp_cnt h2
  obtain ⟨hfan, hflow, ⟨r1, r2, r3, r4, r5, r6⟩, ⟨s1, s2, s3⟩, hdet, hdoor, hchart, ⟨c1, c2, c3⟩, hst⟩ := h2
  unfold f_X7_balances f_X8_balances
  obtain ⟨S, e1, e2⟩ := tp_sumM (twI b 36 0)
  rw [e1]
  have hS : smN (a.2.1 13) 12 + a.1 7 = S := by
    rw [e2, s2, smN_e 12 (fun k hk => (s1 k hk).1), Int32.add_comm]
  obtain ⟨r, s, g1, g2, v, g3, g4⟩ := tp_loop2 (fun n k x => f_X7_balances_L4 n x (nI k) a) (fun n k y => f_X8_balances_L37 n S y (nI k) (twI b 36 0)) 5 (fun _ x y => x = y) (fun r s => ∃ v, r = (v, a) ∧ s = (v, twI b 36 0))
    (by
      intro k x y hk hxy
      subst hxy
      obtain ⟨c, z1, z2⟩ := hcn (nI k)
      have h4 : ¬ (4 : Int32) < nI k := nI_nlt (a := 4) (b := k) (by omega) (by decide)
      left
      refine ⟨x + c, x + c, fun n => ?_, fun n => ?_, rfl⟩
      · show f_X7_balances_L4b (f_X7_balances_L4 n) x (nI k) a = _
        unfold f_X7_balances_L4b
        rw [if_neg h4, z1, tp_s]
        rfl
      · show f_X8_balances_L37b (f_X8_balances_L37 n) S x (nI k) (twI b 36 0) = _
        unfold f_X8_balances_L37b
        rw [if_neg h4, z2, tp_s]
        rfl)
    (by
      intro x y hxy
      subst hxy
      have h4 : (4 : Int32) < nI 5 := by decide
      refine ⟨(if S = (twI b 36 0).1 21 then if x = (twI b 36 0).1 31 then 1 else 0 else 0, a), (if S = (twI b 36 0).1 21 then if x = (twI b 36 0).1 31 then 1 else 0 else 0, twI b 36 0), fun n => ?_, fun n => ?_, _, rfl, rfl⟩
      · show f_X7_balances_L4b (f_X7_balances_L4 n) x (nI 5) a = _
        unfold f_X7_balances_L4b f_X3_size f_X0_lost f_X1_allMade
        rw [if_pos h4]
        simp only [Option.bind_some, tp_allSmoke]
        rw [hS, r5, c2]
        by_cases q1 : x = (twI b 36 0).1 31
        · by_cases q2 : S = (twI b 36 0).1 21
          · rw [if_pos q1, if_pos q2, if_pos q2, if_pos q1]
          · rw [if_pos q1, if_neg q2, if_neg q2]
        · by_cases q2 : S = (twI b 36 0).1 21
          · rw [if_neg q1, if_pos q2, if_neg q1]
          · rw [if_neg q1, if_neg q2]
      · show f_X8_balances_L37b (f_X8_balances_L37 n) S x (nI 5) (twI b 36 0) = _
        unfold f_X8_balances_L37b
        rw [if_pos h4]
        by_cases q2 : S = (twI b 36 0).1 21
        · rw [if_pos q2, if_pos q2]
          split <;> rfl
        · rw [if_neg q2, if_neg q2])
    5 0 0 0 twN twN rfl (by decide) (by decide) rfl
  subst g3
  subst g4
  exact ⟨v, g1, g2⟩
