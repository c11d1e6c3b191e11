/-! ===== one step keeps all of it ===== -/
def near (x y : Int32) : Prop := ¬ (x + 1 < y) ∧ ¬ (y < x - 1)
theorem near_r {x : Int32} (h : tri x) : near x x := by
  rcases h with rfl | rfl | rfl <;> unfold near <;> decide
theorem near_n {x to : Int32} (h1 : tri x) (h2 : tri to) : near x (nxt x to) := by
  rcases h1 with rfl | rfl | rfl <;> rcases h2 with rfl | rfl | rfl <;> unfold near nxt <;> decide
theorem fan_turn (a : twS) (p : Int32) (ht : ∀ k, k < 3 → tri (a.2.1 10 k) ∧ tri (a.2.1 11 k)) : ∃ y, f_X5_turn a p = some y ∧ kpt no (is1 11) a y ∧ ∀ k, k < 3 → near (a.2.1 11 k) (y.2.1 11 k) := by
  unfold f_X5_turn
  refine tp_loop (fun n k x => f_X5_turn_L2 n p (nI k) x) 3 (fun k x => kpt no (is1 11) a x ∧ (∀ j, j < k → near (a.2.1 11 j) (x.2.1 11 j)) ∧ ∀ j, k ≤ j → x.2.1 11 j = a.2.1 11 j) (fun y => kpt no (is1 11) a y ∧ ∀ k, k < 3 → near (a.2.1 11 k) (y.2.1 11 k)) ?_ ?_ 3 0 a twN rfl (by decide) ⟨kpt_r _ _ _, fun j hj => absurd hj (Nat.not_lt_zero j), fun _ _ => rfl⟩
  · intro k x hk ⟨p1, p2, p3⟩
    have hb : twb (nI k) 3 = true := tp_b hk (by decide)
    have hc : (nI k).toNatClampNeg = k := tp_c (by omega)
    have h3 : ¬ (3 : Int32) ≤ nI k := nI_ge hk (by decide)
    left
    by_cases hf : x.2.1 12 k = 0
    · refine ⟨twA x 11 (nI k) (nxt (x.2.1 11 k) (if p = 0 then 0 else x.2.1 10 k)), fun n => ?_, kpt_t p1 (kpt_a x 11 _ _ rfl), fun j hj => ?_, fun j hj => ?_⟩
      · show f_X5_turn_L2b (f_X5_turn_L2 n) p (nI k) x = f_X5_turn_L2 n p (nI (k + 1)) _
        rw [← tp_s]
        unfold f_X5_turn_L2b f_X5_turn_L41
        by_cases hp1 : p = 0 <;> simp [h3, hb, hc, hf, hp1, tp_oneN]
      · rw [tp_aa, hc]
        by_cases e : j = k
        · rw [if_pos e, e, p3 k (Nat.le_refl k), p1.2 10 rfl]
          obtain ⟨t1, t2⟩ := ht k hk
          refine near_n t2 ?_
          split
          · exact Or.inr (Or.inl rfl)
          · exact t1
        · rw [if_neg e]
          exact p2 j (by omega)
      · rw [tp_aa, hc, if_neg (by omega)]
        exact p3 j (by omega)
    · refine ⟨x, fun n => ?_, p1, fun j hj => ?_, fun j hj => p3 j (by omega)⟩
      · show f_X5_turn_L2b (f_X5_turn_L2 n) p (nI k) x = f_X5_turn_L2 n p (nI (k + 1)) _
        rw [← tp_s]
        unfold f_X5_turn_L2b
        simp [h3, hb, hc, hf]
      · by_cases e : j = k
        · rw [e, p3 k (Nat.le_refl k)]
          exact near_r (ht k hk).2
        · exact p2 j (by omega)
  · intro x ⟨p1, p2, p3⟩
    refine ⟨x, fun n => ?_, p1, p2⟩
    show f_X5_turn_L2b (f_X5_turn_L2 n) p (nI 3) x = some x
    unfold f_X5_turn_L2b
    simp [nI]
theorem AirI_m {M M' l : Nat} {a : twS} (h : AirI M l a) (hm : M ≤ M') : AirI M' l a := by
  obtain ⟨s, g, m, e1, e2, e3, e4, e5, e6⟩ := h
  exact ⟨s, g, m, e1, fun k hk => ⟨(e2 k hk).1, Nat.le_trans (e2 k hk).2 hm⟩, e3, e4, e5, Nat.le_trans e6 hm⟩
def buI : Nat → Bool := fun j => j == 10 || j == 12
def buR : Nat → Bool := fun j => j == 13 || j == 14
theorem kpt_l {I R : Nat → Bool} (a : twS) (v : Int64) : kpt I R a (twL a v) := ⟨fun _ _ => rfl, fun _ _ => rfl⟩
theorem bu_one {M l : Nat} {a a0 : twS} {j v : Nat} (hj : j < 12) (hv : v ≤ 200) (w : Int64) (hA : AirI M l a0) (hk : kpt buI buR a a0) : AirI (M + 200) l (twA (twA (twI (twL a0 w) 12 (a0.1 12 + nI v)) 13 (nI j) (a0.2.1 13 j + nI v)) 14 (nI j) (a0.2.1 14 j + nI v)) ∧ kpt buI buR a (twA (twA (twI (twL a0 w) 12 (a0.1 12 + nI v)) 13 (nI j) (a0.2.1 13 j + nI v)) 14 (nI j) (a0.2.1 14 j + nI v)) :=
  ⟨air_burn hj hv w hA, kpt_t hk (kpt_t (kpt_t (kpt_t (kpt_l a0 w) (kpt_i _ 12 _ rfl)) (kpt_a _ 13 _ _ rfl)) (kpt_a _ 14 _ _ rfl))⟩
theorem pwr_le {n z : Nat} (hz : z ≤ 200) : pwr n z ≤ 200 := by
  unfold pwr
  split <;> omega
theorem bu_all {t M l : Nat} {u : Nat × Int32} {a b a' : twS} (hu : u.1 ≤ 60000) (h : twR t u a b) (hA : AirI M l a) (hf : f_X7_burn a = some a') : AirI (M + 200) l a' ∧ kpt buI buR a a' := by
  obtain ⟨⟨hpw, hfan⟩, hflow, ⟨r1, r2, r3, r4, r5, ⟨n, hn, r6, r7⟩, r8⟩, hair, hdet, hdoor, hchart, hcrowd, hst⟩ := h
  rcases r8 with r8 | ⟨⟨j, hj, r8⟩, z, hz1, hz2, r9⟩
  · unfold f_X7_burn f_X1_isBurning at hf
    rw [if_pos r8] at hf
    cases hf
    exact ⟨AirI_m hA (by omega), kpt_r _ _ _⟩
  · have hne : ¬ nI j = (-1 : Int32) := fun e => by
      have q := nI_pos' (n := j) (by omega)
      rw [e] at q
      exact absurd q (by decide)
    have ha : ¬ a.1 8 = -1 := by rw [r8]; exact hne
    have eT := tp_pwrT (n := n) (z := z) (by omega) hz2
    have eA : f_X7_burn a = (f_X1_burn a (pw (a.2.1 8))).bind fun y5 => (f_X0_feedFrom y5.2 (nI j) y5.1).bind fun y6 => some y6 := by
      unfold f_X7_burn f_X1_isBurning f_X1_place
      rw [if_neg ha]
      simp only [Option.bind_some, r8, tp_pwT]
      rw [if_neg (by decide)]
    have hp := pwr_le (n := n) hz2
    by_cases c : a.1 11 = 0 ∨ pw (a.2.1 8) = 0 ∨ a.1 10 ≤ 0
    · have e1 : f_X1_burn a (pw (a.2.1 8)) = f_X1_burn_L57 (nI (pwr n z)) a := by
        unfold f_X1_burn
        rw [r6, r9, eT]
        by_cases c1 : a.1 11 = 0
        · rw [if_pos c1]
        · rw [if_neg c1]
          by_cases c2 : pw (a.2.1 8) = 0
          · rw [if_pos c2]
          · rw [if_neg c2, if_pos (by rcases c with c | c | c; exact absurd c c1; exact absurd c c2; exact c)]
      rw [eA, e1] at hf
      unfold f_X1_burn_L57 at hf
      have hf : ((f_X0_feedFrom (twI (twL a (a.2.2.1 + 1)) 12 (((twL a (a.2.2.1 + 1)).1 12) + nI (pwr n z))) (nI j) (nI (pwr n z))).bind fun y6 => some y6) = some a' := hf
      rw [tp_burnTL hj] at hf
      cases hf
      exact bu_one hj hp _ hA (kpt_r _ _ _)
    · have c1 : ¬ a.1 11 = 0 := fun q => c (Or.inl q)
      have c2 : ¬ pw (a.2.1 8) = 0 := fun q => c (Or.inr (Or.inl q))
      have c3 : ¬ a.1 10 ≤ 0 := fun q => c (Or.inr (Or.inr q))
      have e1 : f_X1_burn a (pw (a.2.1 8)) = f_X1_burn_L57 (nI (pwr n z) / 2) (twI a 10 (a.1 10 - 1)) := by
        unfold f_X1_burn
        rw [r6, r9, eT, if_neg c1, if_neg c2, if_neg c3]
      have eh : nI (pwr n z) / 2 = nI (pwr n z / 2) := pk_div (d := 2) (by omega) (by decide) (by decide)
      rw [eA, e1, eh] at hf
      unfold f_X1_burn_L57 at hf
      have hf : ((f_X0_feedFrom (twI (twL (twI a 10 (a.1 10 - 1)) ((twI a 10 (a.1 10 - 1)).2.2.1 + 1)) 12 (((twL (twI a 10 (a.1 10 - 1)) ((twI a 10 (a.1 10 - 1)).2.2.1 + 1)).1 12) + nI (pwr n z / 2))) (nI j) (nI (pwr n z / 2))).bind fun y6 => some y6) = some a' := hf
      rw [tp_burnTL hj] at hf
      cases hf
      have k0 : kpt buI buR a (twI a 10 (a.1 10 - 1)) := kpt_i a 10 _ rfl
      have hA0 : AirI M l (twI a 10 (a.1 10 - 1)) := AirI_k (I := is1 10) (R := no) (kpt_i a 10 _ rfl) rfl rfl rfl rfl hA
      exact bu_one hj (by omega) _ hA0 k0
def TI (t : Nat) (a : twS) : Prop := ∃ b g l, twR t (t, g) a b ∧ AirI (200 * t) l a ∧ EndI a ∧ DoneI t a
def Dl (a a' : twS) : Prop := (∃ l l', l ≤ l' ∧ l' < 2 ^ 30 ∧ a.1 7 = nI l ∧ a'.1 7 = nI l') ∧ (a.1 3 ≠ -1 → a'.1 3 = a.1 3) ∧ a'.1 16 = a.1 16 ∧ a'.1 13 = a.1 13
theorem nI_inj {m n : Nat} (hm : m < 2 ^ 31) (hn : n < 2 ^ 31) (h : nI m = nI n) : m = n := by
  have := congrArg Int32.toInt h
  rw [nI_toInt hm, nI_toInt hn] at this
  omega
theorem Dl_t {a b c : twS} (h1 : Dl a b) (h2 : Dl b c) : Dl a c := by
  obtain ⟨⟨l, l', p1, p2, p3, p4⟩, p5, p6, p7⟩ := h1
  obtain ⟨⟨m, m', q1, q2, q3, q4⟩, q5, q6, q7⟩ := h2
  have e : l' = m := nI_inj (by omega) (by omega) (p4.symm.trans q3)
  refine ⟨⟨l, m', by omega, q2, p3, q4⟩, fun q => ?_, q6.trans p6, q7.trans p7⟩
  rw [q5 (by rw [p5 q]; exact q), p5 q]
theorem tq_step {t : Nat} {a : twS} (ht : t ≤ 4000) (h : TI t a) : ∃ a', f_X7_doStep a = some a' ∧ TI (t + 1) a' ∧ Dl a a' ∧ ∀ k, k < 3 → near (a.2.1 11 k) (a'.2.1 11 k) := by
  obtain ⟨b, g, l, hR, hA, hE, hD⟩ := h
  obtain ⟨a', b', f1, -, hR'⟩ := tp_step (by omega) (show ((t, g) : Nat × Int32).1 ≤ 60000 by show t ≤ 60000; omega) hR
  refine ⟨a', f1, ?_⟩
  obtain ⟨a1, b1, e1, -, h1⟩ := tp_fans hR
  obtain ⟨a2, b2, e2, -, h2⟩ := tp_flow h1
  obtain ⟨a3, b3, e3, -, h3⟩ := tp_burn (show ((t, g) : Nat × Int32).1 ≤ 60000 by show t ≤ 60000; omega) h2
  unfold f_X7_doStep at f1
  rw [tp_pwT] at f1
  simp only [Option.bind_some] at f1
  rw [e1] at f1
  simp only [Option.bind_some] at f1
  rw [tp_push] at f1
  simp only [Option.bind_some] at f1
  rw [e2] at f1
  simp only [Option.bind_some] at f1
  rw [e3] at f1
  simp only [Option.bind_some] at f1
  obtain ⟨a4, e4, f1⟩ := tw_bd f1
  obtain ⟨a5, e5, f1⟩ := tw_bd f1
  obtain ⟨a6, e6, f1⟩ := tw_bd f1
  obtain ⟨a7, e7, f1⟩ := tw_bd f1
  have ht4 : a.1 4 = nI t := hR.2.2.2.2.2.2.2.2.1
  -- fans
  obtain ⟨y1, g1, k1, n1⟩ := fan_turn a (pw (a.2.1 8)) (fun k hk => ⟨(hR.1.2 k hk).2.2.2.1, (hR.1.2 k hk).2.2.2.2⟩)
  rw [g1] at e1
  have ey : y1 = a1 := Option.some.inj e1
  subst ey
  have k2 := kp_become e2
  have A2 : AirI (200 * t) l a2 := AirI_k k2 rfl rfl rfl rfl (AirI_k k1 rfl rfl rfl rfl hA)
  obtain ⟨A3, k3⟩ := bu_all (show ((t, g) : Nat × Int32).1 ≤ 60000 by show t ≤ 60000; omega) h2 A2 e3
  have s3 : a3.1 8 = -1 ∨ seg (a3.1 8) := h3.2.2.1.2.2.2.2.2.2.imp id (fun q => q.1)
  have s0 : seg (a3.1 0) := h3.2.2.2.1.2.2.2.1
  have sF : Fok a3.2.2.2 := h3.2.1.2.2.2.2.2
  obtain ⟨l', A4, hl, k4⟩ := air_all (by omega) A3 s0 s3 sF e4
  obtain ⟨k5, n5⟩ := kp_watch e5
  have hd5 : DoneI t a5 := by
    have q4 : DoneI t a4 := DoneI_k k4 (Or.inl (k4.1 3 rfl).symm) rfl rfl rfl (DoneI_k k3 (Or.inl (k3.1 3 rfl).symm) rfl rfl rfl (DoneI_k k2 (Or.inl (k2.1 3 rfl).symm) rfl rfl rfl (DoneI_k k1 (Or.inl (k1.1 3 rfl).symm) rfl rfl rfl hD)))
    by_cases c : a4.1 3 = -1
    · exact DoneI_k k5 (Or.inr (Or.inr c)) rfl rfl rfl q4
    · rw [n5 c]
      exact q4
  have h54 : a5.1 4 = nI t := by
    rw [k5.1 4 rfl, k4.1 4 rfl, k3.1 4 rfl, k2.1 4 rfl, k1.1 4 rfl]
    exact ht4
  obtain ⟨k6, hd6⟩ := kp_chartL _ _ _ _ h54 hd5 e6
  have hE6 : EndI a6 := EndI_k k6 rfl rfl rfl (EndI_k k5 rfl rfl rfl (EndI_k k4 rfl rfl rfl (EndI_k k3 rfl rfl rfl (EndI_k k2 rfl rfl rfl (EndI_k k1 rfl rfl rfl hE)))))
  have h64 : a6.1 4 = nI t := by rw [k6.1 4 rfl]; exact h54
  rw [h64] at e7
  obtain ⟨k7, hE7⟩ := kp_liveL (by omega) _ _ _ _ _ hE6 e7
  have f1 : some (twI a7 4 (a7.1 4 + 1)) = some a' := f1
  have ea : twI a7 4 (a7.1 4 + 1) = a' := Option.some.inj f1
  subst ea
  have k8 : kpt (is1 4) no a7 (twI a7 4 (a7.1 4 + 1)) := kpt_i a7 4 _ rfl
  have A8 : AirI (200 * (t + 1)) l' (twI a7 4 (a7.1 4 + 1)) := AirI_m (AirI_k k8 rfl rfl rfl rfl (AirI_k k7 rfl rfl rfl rfl (AirI_k k6 rfl rfl rfl rfl (AirI_k k5 rfl rfl rfl rfl A4)))) (by omega)
  have hD8 : DoneI (t + 1) (twI a7 4 (a7.1 4 + 1)) := by
    have q : DoneI t (twI a7 4 (a7.1 4 + 1)) := DoneI_k k8 (Or.inl rfl) rfl rfl rfl (DoneI_k k7 (Or.inl (k7.1 3 rfl).symm) rfl rfl rfl hd6)
    obtain ⟨c, n, d, q1, q2, q3, q4, q5, q6⟩ := q
    exact ⟨c, n, d, q1, q2, q3, q4, fun k hk => ⟨(q5 k hk).1, by have := (q5 k hk).2; omega⟩, q6⟩
  refine ⟨⟨b', g, l', hR', A8, EndI_k k8 rfl rfl rfl hE7, hD8⟩, ⟨⟨l, l', hl, ?_, ?_, ?_⟩, fun q => ?_, ?_, ?_⟩, fun k hk => ?_⟩
  · obtain ⟨s, gg, m, -, -, -, -, q5, q6⟩ := A8
    omega
  · exact hA.choose_spec.choose_spec.choose_spec.2.2.1
  · exact A8.choose_spec.choose_spec.choose_spec.2.2.1
  · have c : a4.1 3 = a.1 3 := by rw [k4.1 3 rfl, k3.1 3 rfl, k2.1 3 rfl, k1.1 3 rfl]
    rw [k8.1 3 rfl, k7.1 3 rfl, k6.1 3 rfl, n5 (by rw [c]; exact q), c]
  · rw [k8.1 16 rfl, k7.1 16 rfl, k6.1 16 rfl, k5.1 16 rfl, k4.1 16 rfl, k3.1 16 rfl, k2.1 16 rfl, k1.1 16 rfl]
  · rw [k8.1 13 rfl, k7.1 13 rfl, k6.1 13 rfl, k5.1 13 rfl, k4.1 13 rfl, k3.1 13 rfl, k2.1 13 rfl, k1.1 13 rfl]
  · rw [k8.2 11 rfl, k7.2 11 rfl, k6.2 11 rfl, k5.2 11 rfl, k4.2 11 rfl, k3.2 11 rfl, k2.2 11 rfl]
    exact n1 k hk
