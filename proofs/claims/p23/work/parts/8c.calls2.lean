/-! ===== build, people, act, step ===== -/
theorem tp_start : twR 0 (0, 0) twT0 twM0 := by
  refine ⟨⟨fun _ _ => rfl, fun k _ => ⟨rfl, rfl, rfl, Or.inr (Or.inl rfl), Or.inr (Or.inl rfl)⟩⟩, ⟨rfl, rfl, ⟨40, by omega, by decide⟩, Or.inl rfl, rfl, fp_start⟩, ⟨rfl, rfl, rfl, rfl, rfl, ⟨0, Nat.le_refl 0, rfl, rfl⟩, Or.inl rfl⟩, ⟨fun _ _ => ⟨rfl, rfl⟩, rfl, rfl, ⟨6, by omega, rfl⟩, rfl⟩, ⟨fun _ _ => rfl, rfl⟩, fun k hk => ⟨(bit_zero hk).symm, (bit_zero hk).symm, (bit_zero hk).symm⟩, ⟨rfl, Or.inl rfl, rfl, rfl, fun k _ => ⟨rfl, rfl, rfl, ⟨0, by omega, rfl⟩, 0, by omega, rfl⟩, 0, 0, by omega, by omega, rfl, rfl, fun _ => rfl, fun q => absurd rfl q⟩, ⟨rfl, rfl, 0, by omega, rfl, fun _ _ _ => rfl, fun k hk => absurd hk (Nat.not_lt_zero k)⟩, rfl, rfl⟩
theorem TI_0 : TI 0 twT0 := by
  refine ⟨twM0, 0, 0, tp_start, ⟨fun _ => 0, fun _ => 0, 0, fun _ _ => rfl, fun _ _ => ⟨rfl, Nat.le_refl 0⟩, rfl, rfl, ?_, Nat.le_refl 0⟩, ⟨0, by omega, rfl, fun k hk => absurd hk (Nat.not_lt_zero k)⟩, ⟨0, 0, fun _ => 0, by omega, by omega, rfl, rfl, fun k hk => absurd hk (Nat.not_lt_zero k), fun k hk => absurd hk (by omega), fun k _ hk => absurd hk (Nat.not_lt_zero k), fun _ => rfl⟩⟩
  rw [sumN_12]
theorem tc_build {a : twS} (h : TI 0 a) {z j : Nat} (hz : z ≤ 4095) (hj : j < 12) : ∃ a', f_L_build a (nI z) (nI j) = some (0, a') ∧ TI 0 a' ∧ Ck a a' ∧ a'.1 16 = a.1 16 ∧ a'.1 13 = a.1 13 := by
  have h0 := h
  obtain ⟨b, g, l, hR, -⟩ := h
  have c2 : ¬ (nI z < 0 ∨ (4095 : Int32) < nI z) := by
    rintro (q | q)
    · exact nI_pos (by omega) q
    · exact nI_nlt (a := 4095) (b := z) hz (by decide) q
  have h4 := TI_4 h0
  obtain ⟨y, g1, g2, g3, g4, g5⟩ := tp_place a (nI z)
  have hF : f_X7_build a (nI z) (nI j) = some (.inr (twI (twI y 0 (nI j)) 1 0)) := by
    unfold f_X7_build
    rw [rs_y a hj]
    simp only [Option.bind_some, twTry]
    rw [rr_y a c2]
    simp only [Option.bind_some]
    rw [h4, if_pos (show nI 0 = 0 from rfl)]
    unfold f_X7_build_L24
    rw [rst1]
    simp only [Option.bind_some, twTry]
    rw [g1]
    rfl
  have q := q_build (by omega) hR (fun _ => 0) (nI z) (nI j)
  unfold h_L_build at q
  rw [hF] at q
  simp only [Option.bind_some] at q
  obtain ⟨b', hb⟩ := kV_g q
  have ky : kpt (fun j => j == 0 || j == 1) (fun j => j == 16 || j == 17 || j == 18) a y := ⟨fun j _ => congrFun g3 j, fun j q => g4 j (fun e => by rw [e] at q; exact absurd q (by decide)) (fun e => by rw [e] at q; exact absurd q (by decide)) (fun e => by rw [e] at q; exact absurd q (by decide))⟩
  have k := kpt_t (kpt_t ky (kpt_i y 0 (nI j) rfl)) (kpt_i _ 1 0 rfl)
  refine ⟨_, ?_, TI_k h0 hb k rfl rfl rfl rfl rfl rfl rfl rfl rfl rfl rfl, ⟨k.1 7 rfl, k.1 3 rfl⟩, k.1 16 rfl, k.1 13 rfl⟩
  unfold f_L_build
  rw [hF]
  rfl
theorem kp_seatL : ∀ (n : Nat) (v1 v2 v3 : Int32) (a a' : twS), EndI a → f_X3_seat_L2 n v1 v2 v3 a = some a' → kpt (is1 16) crR a a' ∧ EndI a' := by
  intro n
  induction n with
  | zero => intro v1 v2 v3 a a' hd h; cases h
  | succ n ih =>
    intro v1 v2 v3 a a' hd h
    have h : f_X3_seat_L2b (f_X3_seat_L2 n) v1 v2 v3 a = some a' := h
    unfold f_X3_seat_L2b at h
    split at h
    · cases h
      exact ⟨kpt_r _ _ _, hd⟩
    · split at h
      · cases h
        exact ⟨kpt_r _ _ _, hd⟩
      · rename_i c30
        obtain ⟨p, hp, e16, hall⟩ := hd
        simp only [tp_a1, e16] at h c30
        have hp2 : p < 30 := Nat.lt_of_not_le (fun q => c30 (nI_le (a := 30) (b := p) q (by omega)))
        have hb : twb (nI p) 30 = true := tp_b hp2 (by decide)
        have hc : (nI p).toNatClampNeg = p := tp_c (by omega)
        rw [if_pos hb, if_pos hb, if_pos hb, nI_1] at h
        have hx : EndI (twI (twA (twA (twA a 22 (nI p) 0) 23 (nI p) v1) 25 (nI p) (-1)) 16 (nI (p + 1))) := by
          refine ⟨p + 1, by omega, rfl, fun k hk => ?_⟩
          rw [tp_i2, tp_ab _ 25 _ _ (show 22 ≠ 25 by decide), tp_ab _ 23 _ _ (show 22 ≠ 23 by decide), tp_aa, tp_aa, hc, tp_ab _ 23 _ _ (show 25 ≠ 23 by decide), tp_ab _ 22 _ _ (show 25 ≠ 22 by decide)]
          by_cases e : k = p
          · rw [if_pos e, if_pos e]
            exact Or.inl ⟨Or.inl rfl, rfl⟩
          · rw [if_neg e, if_neg e]
            exact hall k (by omega)
        have kx : kpt (is1 16) crR a (twI (twA (twA (twA a 22 (nI p) 0) 23 (nI p) v1) 25 (nI p) (-1)) 16 (nI (p + 1))) := kpt_t (kpt_t (kpt_t (kpt_a a 22 _ _ rfl) (kpt_a _ 23 _ _ rfl)) (kpt_a _ 25 _ _ rfl)) (kpt_i _ 16 _ rfl)
        obtain ⟨q1, q2⟩ := ih _ _ _ _ _ hx h
        exact ⟨kpt_t kx q1, q2⟩
theorem TI_16 {t : Nat} {a : twS} (h : TI t a) : ∃ p, p ≤ 30 ∧ a.1 16 = nI p := by
  obtain ⟨b, g, l, -, -, ⟨p, hp, e, -⟩, -⟩ := h
  exact ⟨p, hp, e⟩
theorem tc_people {t : Nat} (ht : t ≤ 4000) {a : twS} (h : TI t a) {j m : Nat} (hj : j < 12) (hm : 1 ≤ m) (hm2 : m ≤ 6) : ∃ v a', g_L_people a (nI j) (nI m) = some (v, a') ∧ (v = twE3 ∧ a'.1 16 = a.1 16 ∨ v = a.1 16 + nI m ∧ a'.1 16 = v ∧ 0 < v) ∧ TI t a' ∧ Ck a a' ∧ a'.1 13 = a.1 13 := by
  have h0 := h
  obtain ⟨p, hp, e16⟩ := TI_16 h
  obtain ⟨b, g, l, hR, hA, hE, hD⟩ := h
  have c : ¬ (nI m < 1 ∨ (30 : Int32) < nI m) := by
    rintro (q | q)
    · exact nI_nlt (a := m) (b := 1) hm (by omega) q
    · exact nI_nlt (a := 30) (b := m) (by omega) (by decide) q
  by_cases c6 : p + m ≤ 30
  · obtain ⟨a', b', g1, -, g3, g4⟩ := tp_seat c6 hj (tp_36 hR 0) e16
    have hF : f_X7_people a (nI j) (nI m) = some (.inr (nI (p + m), a')) := by
      unfold f_X7_people
      rw [rs_y a hj]
      simp only [Option.bind_some, twTry]
      rw [rr_y a c]
      unfold f_X3_hasRoomFor f_X3_size
      simp only [Option.bind_some]
      rw [e16, show (30 : Int32) - nI p = nI (30 - p) from tp_sub (s := p) (t := 30) hp, if_neg (show ¬ nI (30 - p) < nI m from nI_nlt (by omega) (by omega))]
      simp only [Option.bind_some]
      rw [rst1]
      simp only [Option.bind_some, twTry]
      rw [g1]
      simp only [Option.bind_some]
      rw [g4]
    obtain ⟨k, hE'⟩ := kp_seatL _ _ _ _ _ _ hE g1
    refine ⟨nI (p + m), a', ?_, Or.inr ⟨by rw [e16, nI_add], g4, nI_lt (a := 0) (b := p + m) (by omega) (by omega)⟩, ⟨b', 0, l, g3, AirI_k k rfl rfl rfl rfl hA, hE', DoneI_k k (Or.inl (k.1 3 rfl).symm) rfl rfl rfl hD⟩, ⟨k.1 7 rfl, k.1 3 rfl⟩, k.1 13 rfl⟩
    unfold g_L_people
    rw [hF]
    rfl
  · have hF : f_X7_people a (nI j) (nI m) = some (.inl (twX3, a)) := by
      unfold f_X7_people
      rw [rs_y a hj]
      simp only [Option.bind_some, twTry]
      rw [rr_y a c]
      unfold f_X3_hasRoomFor f_X3_size
      simp only [Option.bind_some]
      rw [e16, show (30 : Int32) - nI p = nI (30 - p) from tp_sub (s := p) (t := 30) hp, if_pos (show nI (30 - p) < nI m from nI_lt (by omega) (by omega))]
      simp only [Option.bind_some]
      rw [rst0]
      rfl
    refine ⟨twE3, a, ?_, Or.inl ⟨rfl, rfl⟩, h0, Ck_r a, rfl⟩
    unfold g_L_people
    rw [hF]
    simp only [Option.bind_some]
    rw [if_neg e31, if_neg e32, if_pos trivial]
theorem tc_act {t : Nat} (ht : t ≤ 4000) {a : twS} (h : TI t a) {z y : Nat} (hz : z < 8) (hy : y ≤ 20) (k : Int32) : ∃ v a', g_L_act a (nI z) (nI y) k = some (v, a') ∧ (v = twE3 ∧ a'.1 13 = a.1 13 ∨ v = a.1 13 ∧ a'.1 13 = a.1 13 + 1 ∧ ¬ v < 0) ∧ TI t a' ∧ Ck a a' ∧ a'.1 16 = a.1 16 := by
  have h0 := h
  obtain ⟨b, g, l, hR, hA, hE, hD⟩ := h
  have c1 : ¬ (nI z < 0 ∨ (7 : Int32) < nI z) := by
    rintro (q | q)
    · exact nI_pos (by omega) q
    · exact nI_nlt (a := 7) (b := z) (by omega) (by decide) q
  have c2 : ¬ (nI y < 0 ∨ (20 : Int32) < nI y) := by
    rintro (q | q)
    · exact nI_pos (by omega) q
    · exact nI_nlt (a := 20) (b := y) hy (by decide) q
  obtain ⟨c, n, d, d1, d2, d3, d4, d5, d6, d7, d8⟩ := hD
  by_cases c3 : c < 10 ∧ a.1 3 = -1
  · obtain ⟨c4, c5⟩ := c3
    have n0 : n = 0 := d8 c5
    have hb : twb (nI c) 10 = true := tp_b c4 (by decide)
    have hcl : (nI c).toNatClampNeg = c := tp_c (by omega)
    have hten : ¬ (10 : Int32) ≤ nI c := nI_ge (a := c) (b := 10) c4 (by decide)
    have hput : ∃ w, f_X2_put a (nI z) (nI y) k = some (nI (c + 1) - 1, twI (twA (twA (twA a 19 (nI c) (nI z)) 20 (nI c) w) 21 (nI c) (-1)) 13 (nI (c + 1))) := by
      have h40 : ∀ k0 : Int32, f_X2_put_L40 k0 (nI c) (twA a 19 (nI c) (nI z)) = some (nI (c + 1) - 1, twI (twA (twA (twA a 19 (nI c) (nI z)) 20 (nI c) k0) 21 (nI c) (-1)) 13 (nI (c + 1))) := fun k0 => by
        unfold f_X2_put_L40
        simp only [tp_a1, d3, tp_s, tp_i1, if_true]
        rw [if_pos hb, if_pos hb]
      unfold f_X2_put f_X2_hasRoom
      rw [d3, if_neg hten]
      simp only [Option.bind_some]
      rw [if_neg one0, d3, if_pos hb, tp_a1, d3]
      by_cases e : k = 0
      · rw [if_pos e]
        exact ⟨_, h40 _⟩
      · rw [if_neg e]
        exact ⟨_, h40 _⟩
    obtain ⟨w, hput⟩ := hput
    have hF : f_X7_act a (nI z) (nI y) k = some (.inr (nI (c + 1) - 1, twI (twA (twA (twA a 19 (nI c) (nI z)) 20 (nI c) w) 21 (nI c) (-1)) 13 (nI (c + 1)))) := by
      unfold f_X7_act
      rw [rr_y a c1]
      simp only [Option.bind_some, twTry]
      rw [rr_y a c2]
      simp only [Option.bind_some]
      rw [if_pos c5]
      unfold f_X2_hasRoom
      rw [d3, if_neg hten]
      simp only [Option.bind_some]
      rw [if_neg one0]
      unfold f_X7_act_L37
      rw [rst1]
      simp only [Option.bind_some, twTry]
      rw [hput]
      rfl
    have q := q_act hR (fun _ => 0) (nI z) (nI y) k
    unfold h_L_act at q
    rw [hF] at q
    simp only [Option.bind_some] at q
    obtain ⟨b', hb'⟩ := kI_g q (show a.1 4 = nI t from TI_4 h0) (by omega)
    have kx : kpt (is1 13) (fun j => j == 19 || j == 20 || j == 21) a (twI (twA (twA (twA a 19 (nI c) (nI z)) 20 (nI c) w) 21 (nI c) (-1)) 13 (nI (c + 1))) := kpt_t (kpt_t (kpt_t (kpt_a a 19 _ _ rfl) (kpt_a _ 20 _ _ rfl)) (kpt_a _ 21 _ _ rfl)) (kpt_i _ 13 _ rfl)
    have ev : nI (c + 1) - 1 = nI c := nI_pred c
    have hD' : DoneI t (twI (twA (twA (twA a 19 (nI c) (nI z)) 20 (nI c) w) 21 (nI c) (-1)) 13 (nI (c + 1))) := by
      refine ⟨c + 1, 0, d, by omega, by omega, rfl, by rw [n0] at d4; exact d4, fun i hi => absurd hi (Nat.not_lt_zero i), fun i hi => absurd hi (by omega), fun i _ hi => ?_, fun _ => rfl⟩
      rw [tp_i2, tp_aa, hcl]
      by_cases e : i = c
      · rw [if_pos e]
      · rw [if_neg e, tp_ab _ 20 _ _ (show 21 ≠ 20 by decide), tp_ab _ 19 _ _ (show 21 ≠ 19 by decide)]
        exact d7 i (by omega) (by omega)
    refine ⟨nI (c + 1) - 1, _, ?_, Or.inr ⟨by rw [ev, d3], by rw [d3, nI_1]; rfl, by rw [ev]; exact nI_pos (by omega)⟩, ⟨b', 0, l, hb', AirI_k kx rfl rfl rfl rfl hA, EndI_k kx rfl rfl rfl hE, hD'⟩, ⟨kx.1 7 rfl, kx.1 3 rfl⟩, kx.1 16 rfl⟩
    unfold g_L_act
    rw [hF]
    rfl
  · have hF : f_X7_act a (nI z) (nI y) k = some (.inl (twX3, a)) := by
      unfold f_X7_act
      rw [rr_y a c1]
      simp only [Option.bind_some, twTry]
      rw [rr_y a c2]
      simp only [Option.bind_some]
      unfold f_X7_act_L36 f_X7_act_L37 f_X2_hasRoom
      by_cases c5 : a.1 3 = -1
      · rw [if_pos c5, d3, if_pos (show (10 : Int32) ≤ nI c from nI_le (a := 10) (b := c) (by have c6 : ¬ c < 10 := fun q => c3 ⟨q, c5⟩; omega) (by omega))]
        simp only [Option.bind_some]
        rw [if_pos trivial, rst0]
        rfl
      · rw [if_neg c5, rst0]
        rfl
    refine ⟨twE3, a, ?_, Or.inl ⟨rfl, rfl⟩, h0, Ck_r a, rfl⟩
    unfold g_L_act
    rw [hF]
    simp only [Option.bind_some]
    rw [if_neg e32, if_pos trivial]
theorem Dl_r {t : Nat} (ht : t ≤ 4000) {a : twS} (h : TI t a) : Dl a a := by
  obtain ⟨b, g, l, -, ⟨s, gg, m, -, -, e3, -, e5, e6⟩, -⟩ := h
  exact ⟨⟨l, l, Nat.le_refl l, by omega, e3, e3⟩, fun _ => rfl, rfl, rfl⟩
theorem tc_stepL (m : Nat) (hm : m ≤ 12) {t0 : Nat} (ht : t0 ≤ 3000) (a0 : twS) : ∀ (j k : Nat) (a : twS) (n : Nat), k + j = m → j < n → TI (t0 + k) a → Dl a0 a → (k = 0 → a = a0) → (k = 1 → ∀ i, i < 3 → near (a0.2.1 11 i) (a.2.1 11 i)) → ∃ a', f_X7_step_L9 n (nI m) (nI k) a = some (.inr (nI (t0 + m), a')) ∧ TI (t0 + m) a' ∧ Dl a0 a' ∧ (m = 1 → ∀ i, i < 3 → near (a0.2.1 11 i) (a'.2.1 11 i)) := by
  intro j
  induction j with
  | zero =>
    intro k a n hk hn h hd h0 h1
    obtain ⟨n, rfl⟩ : ∃ x, n = x + 1 := ⟨n - 1, by omega⟩
    have e : k = m := by omega
    subst e
    refine ⟨a, ?_, h, hd, h1⟩
    show f_X7_step_L9b (f_X7_step_L9 n) (nI k) (nI k) a = _
    unfold f_X7_step_L9b
    rw [if_pos (Int32.le_refl _), TI_4 h]
  | succ j ih =>
    intro k a n hk hn h hd h0 h1
    obtain ⟨n, rfl⟩ : ∃ x, n = x + 1 := ⟨n - 1, by omega⟩
    obtain ⟨a', f1, f2, f3, f4⟩ := tq_step (by omega) h
    obtain ⟨x, g1, g2⟩ := ih (k + 1) a' n (by omega) (by omega) f2 (Dl_t hd f3) (fun q => absurd q (by omega)) (fun q i hi => by
      have e : k = 0 := by omega
      rw [← h0 e]
      exact f4 i hi)
    refine ⟨x, ?_, g2⟩
    show f_X7_step_L9b (f_X7_step_L9 n) (nI m) (nI k) a = _
    unfold f_X7_step_L9b
    rw [if_neg (show ¬ nI m ≤ nI k from nI_ge (by omega) (by omega)), f1, tp_s]
    exact g1
theorem tc_step {t : Nat} (ht : t ≤ 3000) {a : twS} (h : TI t a) {m : Nat} (hm : 1 ≤ m) (hm2 : m ≤ 12) : ∃ a', f_L_step a (nI m) = some (nI (t + m), a') ∧ TI (t + m) a' ∧ Dl a a' ∧ (m = 1 → ∀ i, i < 3 → near (a.2.1 11 i) (a'.2.1 11 i)) := by
  have c : ¬ (nI m < 1 ∨ (100 : Int32) < nI m) := by
    rintro (q | q)
    · exact nI_nlt (a := m) (b := 1) hm (by omega) q
    · exact nI_nlt (a := 100) (b := m) (by omega) (by decide) q
  obtain ⟨a', g1, g2⟩ := tc_stepL m hm2 ht a m 0 a twN (by omega) (by show m < 2000; omega) h (Dl_r (by omega) h) (fun _ => rfl) (fun q => absurd q (by decide))
  refine ⟨a', ?_, g2⟩
  unfold f_L_step f_X7_step
  rw [rr_y a c]
  simp only [Option.bind_some, twTry]
  rw [show (0 : Int32) = nI 0 from rfl, g1]
  rfl
