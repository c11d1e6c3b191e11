/-! ===== the pure side: one person's step, the crowd's step, a step ===== -/
theorem tp_one {a b : twS} (hd : ∀ k, k < 12 → a.2.1 17 k = bitI (b.1 7) k) (hsm : ∀ k, k < 12 → a.2.1 13 k = b.2.1 1 k) {k p t : Nat} (ht : t < 2 ^ 30) (hk : k < p) (hp : p ≤ 30) (h16 : a.1 16 = nI p) (h0 : b.1 0 = nI t) (h2 : a.1 2 = b.1 13) (hone : oneAt t k a b) (n3 : ¬ b.2.1 11 k = 3) (n4 : ¬ b.2.1 11 k = 4) : ∃ a' b', ((f_X0_smokeIn a (a.2.1 23 k)).bind fun y3008 => f_X3_liveOne y3008.2 (nI k) (nI t) (a.1 2) y3008.1) = some a' ∧ f_X8_lives b (nI k) = some b' ∧ butA k a a' ∧ butB k b b' ∧ oneAt t k a' b' := by
  have hone0 := hone
  obtain ⟨q1, q2, q3, q4, ⟨s, hs4, hs⟩, ⟨j, hj, hbj⟩, q7⟩ := hone
  have hk30 : k < 30 := by omega
  have hb : twb (nI k) 30 = true := tp_b (by omega) (by decide)
  have hbj2 : twb (nI j) 12 = true := tp_b hj (by decide)
  have hc : (nI k).toNatClampNeg = k := tp_c (by omega)
  have hcj : (nI j).toNatClampNeg = j := tp_c (by omega)
  have haj : a.2.1 23 k = nI j := by rw [q4 n3, hbj]
  have hper : f_X3_isPerson a (nI k) = some (1, a) := by
    unfold f_X3_isPerson
    rw [if_neg (nI_pos (by omega)), h16, if_neg (nI_ge hk (by omega)), if_neg (show ¬ (30 : Int32) ≤ nI k from nI_ge (a := k) (b := 30) (by omega) (by decide))]
  obtain ⟨S, hS⟩ : ∃ S, b.2.1 1 j = S := ⟨_, rfl⟩
  have hSa : a.2.1 13 j = S := by rw [hsm j hj, hS]
  have hA : ((f_X0_smokeIn a (a.2.1 23 k)).bind fun y3008 => f_X3_liveOne y3008.2 (nI k) (nI t) (a.1 2) y3008.1) = if S < 100 then (if s = 0 then (if b.1 13 = 0 then (if S < 10 then f_X3_liveOne_L65 (nI k) (nI t) S a else f_X3_liveOne_L51 (nI k) (nI t) S a) else f_X3_liveOne_L51 (nI k) (nI t) S a) else f_X3_liveOne_L65 (nI k) (nI t) S a) else some (twA (twA a 22 (nI k) 4) 25 (nI k) (nI t)) := by
    rw [haj, tp_smokeS a hj]
    simp only [Option.bind_some]
    unfold f_X3_liveOne
    rw [hper]
    simp only [Option.bind_some]
    rw [if_neg (by decide), hSa]
    by_cases c : S < 100
    · rw [if_pos c, if_pos c, if_pos hb, hc, q1, hs, h2]
      by_cases c2 : s = 0
      · rw [if_pos c2, if_pos (show nI s = 0 by rw [c2]; rfl)]
      · rw [if_neg c2, if_neg (nI_ne0 (by omega) (by omega))]
    · rw [if_neg c, if_neg c, if_pos hb, if_pos hb]
  have hB : f_X8_lives b (nI k) = if S < 100 then (if s = 0 then (if b.1 13 = 0 then (if S < 10 then f_X8_lives_L52 (nI k) 0 b else f_X8_lives_L47 (nI k) b) else f_X8_lives_L47 (nI k) b) else (if s = 1 then (if nI t < (b.2.1 13 k) + 3 then f_X8_lives_L116 (nI k) 1 (nI k) b else f_X8_lives_L116 (nI k) 2 (nI k) b) else f_X8_lives_L117 (nI k) b)) else some (twA (twA b 11 (nI k) 4) 14 (nI k) (nI t)) := by
    unfold f_X8_lives f_X8_ends
    rw [if_pos hb, hc, hbj, if_pos hbj2, hcj, hS]
    by_cases c : S < 100
    · rw [if_pos c, if_pos c, if_pos hb, hs, h0]
      by_cases c2 : s = 0
      · rw [if_pos c2, if_pos (show nI s = 0 by rw [c2]; rfl)]
      · rw [if_neg c2, if_neg (nI_ne0 (by omega) (by omega)), if_pos hb]
        by_cases c3 : s = 1
        · rw [if_pos c3, if_pos (show nI s = 1 by rw [c3]; rfl), if_pos hb]
        · rw [if_neg c3, if_neg (show ¬ nI s = 1 from fun q => c3 ((nI_eq (a := s) (b := 1) (by omega) (by decide)).mp q))]
    · rw [if_neg c, if_neg c, if_pos hb, if_pos hb, tp_a1, h0]
      rfl
  have hL65 : ∀ x : twS, x.2.1 22 k ≠ 1 → f_X3_liveOne_L65 (nI k) (nI t) S x = f_X3_liveOne_L94 (nI k) (nI t) S x := fun x hx => by
    unfold f_X3_liveOne_L65
    rw [if_pos hb, hc, if_neg hx]
  have hL94 : ∀ x : twS, x.2.1 22 k ≠ 2 → f_X3_liveOne_L94 (nI k) (nI t) S x = some x := fun x hx => by
    unfold f_X3_liveOne_L94
    rw [if_pos hb, hc, if_neg hx]
  have hL117 : ∀ y : twS, y.2.1 11 k ≠ 2 → f_X8_lives_L117 (nI k) y = some y := fun y hy => by
    unfold f_X8_lives_L117
    rw [if_pos hb, hc, if_neg hy]
  have hL67 : ∀ v : Int32, v ≠ 2 → f_X8_lives_L67 (nI k) v (nI k) b = some (twA (twA b 11 (nI k) v) 13 (nI k) (nI t)) := fun v hv => by
    unfold f_X8_lives_L67
    rw [if_pos hb, if_pos hb, tp_a1, h0, hL117]
    rw [tp_atO _ _ (show 11 ≠ 13 by decide), tp_at _ hk30 11]
    exact hv
  rw [hA, hB]
  by_cases c : S < 100
  · rw [if_pos c, if_pos c]
    by_cases c0 : s = 0
    · rw [if_pos c0, if_pos c0]
      subst c0
      have ha0 : a.2.1 22 k = 0 := by rw [q1, hs]; rfl
      have hgo : ∃ a' b', f_X3_liveOne_L51 (nI k) (nI t) S a = some a' ∧ f_X8_lives_L47 (nI k) b = some b' ∧ butA k a a' ∧ butB k b b' ∧ oneAt t k a' b' := by
        refine ⟨twA (twA a 22 (nI k) 1) 24 (nI k) (nI t), twA (twA b 11 (nI k) 1) 13 (nI k) (nI t), ?_, ?_, butA_s hk30 (butA_s hk30 (butA_r k a) (by omega) _) (by omega) _, butB_s hk30 (butB_s hk30 (butB_r k b) (by omega) _) (by omega) _, ?_⟩
        · unfold f_X3_liveOne_L51 f_X3_liveOne_L65
          rw [if_pos hb, if_pos hb, if_pos hb, hc, tp_atO _ _ (show 22 ≠ 24 by decide), tp_at _ hk30 22, if_pos rfl, if_pos hb, tp_at _ hk30 24, tp_sub (Nat.le_refl t), Nat.sub_self, if_pos (by decide), hL94]
          rw [tp_atO _ _ (show 22 ≠ 24 by decide), tp_at _ hk30 22]
          decide
        · unfold f_X8_lives_L47 f_X8_lives_L52
          rw [if_neg (by decide), hL67 1 (by decide)]
        · unfold oneAt
          rw [tp_atO _ _ (show 22 ≠ 24 by decide), tp_at _ hk30 22, tp_atO _ _ (show 23 ≠ 24 by decide), tp_atO _ _ (show 23 ≠ 22 by decide), tp_at _ hk30 24, tp_atO _ _ (show 25 ≠ 24 by decide), tp_atO _ _ (show 25 ≠ 22 by decide), tp_atO _ _ (show 11 ≠ 13 by decide), tp_at _ hk30 11, tp_atO _ _ (show 12 ≠ 13 by decide), tp_atO _ _ (show 12 ≠ 11 by decide), tp_at _ hk30 13, tp_atO _ _ (show 14 ≠ 13 by decide), tp_atO _ _ (show 14 ≠ 11 by decide)]
          exact ⟨rfl, q2, fun q => absurd q (by decide), fun _ => q4 n3, ⟨1, by omega, rfl⟩, ⟨j, hj, hbj⟩, fun _ => ⟨rfl, t, Nat.le_refl t, rfl⟩⟩
      by_cases c1 : b.1 13 = 0
      · rw [if_pos c1, if_pos c1]
        by_cases c2 : S < 10
        · rw [if_pos c2, if_pos c2]
          refine ⟨a, twA (twA b 11 (nI k) 0) 13 (nI k) (nI t), ?_, ?_, butA_r k a, butB_s hk30 (butB_s hk30 (butB_r k b) (by omega) _) (by omega) _, ?_⟩
          · rw [hL65 a (by rw [ha0]; decide), hL94 a (by rw [ha0]; decide)]
          · unfold f_X8_lives_L52
            rw [if_pos rfl, hL67 0 (by decide)]
          · unfold oneAt
            rw [tp_atO _ _ (show 11 ≠ 13 by decide), tp_at _ hk30 11, tp_atO _ _ (show 12 ≠ 13 by decide), tp_atO _ _ (show 12 ≠ 11 by decide), tp_at _ hk30 13, tp_atO _ _ (show 14 ≠ 13 by decide), tp_atO _ _ (show 14 ≠ 11 by decide)]
            exact ⟨ha0, q2, fun q => absurd q (by decide), fun _ => q4 n3, ⟨0, by omega, rfl⟩, ⟨j, hj, hbj⟩, fun q => absurd q (by decide)⟩
        · rw [if_neg c2, if_neg c2]
          exact hgo
      · rw [if_neg c1, if_neg c1]
        exact hgo
    · rw [if_neg c0, if_neg c0]
      by_cases c1 : s = 1
      · rw [if_pos c1]
        subst c1
        obtain ⟨q8, r, hr, q9⟩ := q7 hs
        have ha1 : a.2.1 22 k = 1 := by rw [q1, hs]; rfl
        have hA65 : f_X3_liveOne_L65 (nI k) (nI t) S a = if nI (t - r) < 3 then f_X3_liveOne_L94 (nI k) (nI t) S a else f_X3_liveOne_L94 (nI k) (nI t) S (twA a 22 (nI k) 2) := by
          unfold f_X3_liveOne_L65
          rw [if_pos hb, hc, ha1, if_pos rfl, if_pos hb, q8, q9, tp_sub hr, if_pos hb]
        have e3 : nI r + 3 = nI (r + 3) := nI_add r 3
        rw [hA65, q9, e3]
        by_cases c2 : t < r + 3
        · rw [if_pos (show nI (t - r) < (3 : Int32) from nI_lt (a := t - r) (b := 3) (by omega) (by decide)), if_pos (nI_lt c2 (by omega))]
          refine ⟨a, twA b 11 (nI k) 1, hL94 a (by rw [ha1]; decide), ?_, butA_r k a, butB_s hk30 (butB_r k b) (by omega) _, ?_⟩
          · unfold f_X8_lives_L116
            rw [if_pos hb, hL117]
            rw [tp_at _ hk30 11]
            decide
          · unfold oneAt
            rw [tp_at _ hk30 11, tp_atO _ _ (show 12 ≠ 11 by decide), tp_atO _ _ (show 13 ≠ 11 by decide), tp_atO _ _ (show 14 ≠ 11 by decide)]
            exact ⟨ha1, q2, fun q => absurd q (by decide), fun _ => q4 n3, ⟨1, by omega, rfl⟩, ⟨j, hj, hbj⟩, fun _ => ⟨q8, r, hr, q9⟩⟩
        · rw [if_neg (show ¬ nI (t - r) < (3 : Int32) from nI_nlt (a := t - r) (b := 3) (by omega) (by omega)), if_neg (nI_nlt (by omega) (by omega))]
          obtain ⟨a', b', g1, g2, g3, g4, g5⟩ := tp_walk (a := twA a 22 (nI k) 2) (b := twA b 11 (nI k) 2) (by
              intro i hi
              rw [tp_atO _ _ (show 17 ≠ 22 by decide)]
              exact hd i hi) ht hj hk hp h16 (by rw [tp_atO _ _ (show 23 ≠ 22 by decide)]; exact haj) h0 (by rw [tp_atO _ _ (show 12 ≠ 11 by decide)]; exact hbj) (S := S) (by rw [tp_atO _ _ (show 1 ≠ 11 by decide)]; exact hS) (tp_at _ hk30 22 2) (tp_at _ hk30 11 2) (by rw [tp_atO _ _ (show 25 ≠ 22 by decide), tp_atO _ _ (show 14 ≠ 11 by decide)]; exact q2)
          have z1 := butA_s hk30 (butA_r k a) (r := 22) (by omega) 2
          have z2 := butB_s hk30 (butB_r k b) (r := 11) (by omega) 2
          refine ⟨a', b', g1, ?_, ?_, ?_, g5⟩
          · unfold f_X8_lives_L116
            rw [if_pos hb]
            exact g2
          · obtain ⟨m1, m2, m3, m4⟩ := g3
            obtain ⟨l1, l2, l3, l4⟩ := z1
            exact ⟨m1.trans l1, fun i v1 v2 v3 v4 => (m2 i v1 v2 v3 v4).trans (l2 i v1 v2 v3 v4), m3.trans l3, fun i i2 hi => (m4 i i2 hi).trans (l4 i i2 hi)⟩
          · obtain ⟨m1, m2, m3, m4⟩ := g4
            obtain ⟨l1, l2, l3, l4⟩ := z2
            exact ⟨m1.trans l1, fun i v1 v2 v3 v4 => (m2 i v1 v2 v3 v4).trans (l2 i v1 v2 v3 v4), m3.trans l3, fun i i2 hi => (m4 i i2 hi).trans (l4 i i2 hi)⟩
      · rw [if_neg c1]
        have hs2 : s = 2 := by
          have h3 : s ≠ 3 := fun q => n3 (by rw [hs, q]; rfl)
          have h4 : s ≠ 4 := fun q => n4 (by rw [hs, q]; rfl)
          omega
        subst hs2
        have ha2 : a.2.1 22 k = 2 := by rw [q1, hs]; rfl
        rw [hL65 a (by rw [ha2]; decide)]
        exact tp_walk hd ht hj hk hp h16 haj h0 hbj hS ha2 hs q2
  · rw [if_neg c, if_neg c]
    refine ⟨_, _, rfl, rfl, butA_s hk30 (butA_s hk30 (butA_r k a) (by omega) _) (by omega) _, butB_s hk30 (butB_s hk30 (butB_r k b) (by omega) _) (by omega) _, ?_⟩
    unfold oneAt
    rw [tp_atO _ _ (show 22 ≠ 25 by decide), tp_at _ hk30 22, tp_atO _ _ (show 23 ≠ 25 by decide), tp_atO _ _ (show 23 ≠ 22 by decide), tp_atO _ _ (show 24 ≠ 25 by decide), tp_atO _ _ (show 24 ≠ 22 by decide), tp_at _ hk30 25, tp_atO _ _ (show 11 ≠ 14 by decide), tp_at _ hk30 11, tp_atO _ _ (show 12 ≠ 14 by decide), tp_atO _ _ (show 12 ≠ 11 by decide), tp_atO _ _ (show 13 ≠ 14 by decide), tp_atO _ _ (show 13 ≠ 11 by decide), tp_at _ hk30 14]
    exact ⟨rfl, rfl, fun q => absurd q (by decide), fun _ => q4 n3, ⟨4, by omega, rfl⟩, ⟨j, hj, hbj⟩, fun q => absurd q (by decide)⟩
theorem tp_crowdU {t : Nat} {u : Nat × Int32} {a b a' b' : twS} {k : Nat} (hA : butA k a a') (hB : butB k b b') (h : twQ t u a b) (hk : ∃ p, a.1 16 = nI p ∧ p ≤ 30 ∧ k < p) (ho : oneAt t k a' b') (hK : twK (t + 1) a b) : twQ t u a' b' ∧ twK (t + 1) a' b' := by
  obtain ⟨m1, m2, m3, m4⟩ := hA
  obtain ⟨l1, l2, l3, l4⟩ := hB
  obtain ⟨p', hp1, hp2, hp3⟩ := hk
  obtain ⟨hfan, hflow, hfire, hair, hdet, hdoor, ⟨c1, c2, p, c3, c4, c5, c6⟩, hst⟩ := h
  have epp : p' = p := (nI_eq (a := p') (b := p) (by omega) (by omega)).mp (by rw [← hp1, c4])
  subst epp
  constructor
  · unfold twQ
    rw [m1, l1, m3, l3, m2 8 (by decide) (by decide) (by decide) (by decide), m2 9 (by decide) (by decide) (by decide) (by decide), m2 10 (by decide) (by decide) (by decide) (by decide), m2 11 (by decide) (by decide) (by decide) (by decide), m2 12 (by decide) (by decide) (by decide) (by decide), m2 13 (by decide) (by decide) (by decide) (by decide), m2 14 (by decide) (by decide) (by decide) (by decide), m2 16 (by decide) (by decide) (by decide) (by decide), m2 17 (by decide) (by decide) (by decide) (by decide), m2 18 (by decide) (by decide) (by decide) (by decide)]
    rw [l2 1 (by decide) (by decide) (by decide) (by decide), l2 2 (by decide) (by decide) (by decide) (by decide), l2 3 (by decide) (by decide) (by decide) (by decide), l2 4 (by decide) (by decide) (by decide) (by decide), l2 5 (by decide) (by decide) (by decide) (by decide), l2 6 (by decide) (by decide) (by decide) (by decide), l2 7 (by decide) (by decide) (by decide) (by decide)]
    refine ⟨hfan, hflow, hfire, hair, hdet, hdoor, ⟨c1, c2, p', c3, c4, fun i h1 h2 => ?_, fun i hi => ?_⟩, hst⟩
    · rw [l4 11 i (by omega)]
      exact c5 i h1 h2
    · by_cases e : i = k
      · subst e
        exact ho
      · rw [m4 22 i e, m4 23 i e, m4 24 i e, m4 25 i e, l4 11 i e, l4 12 i e, l4 13 i e, l4 14 i e]
        exact c6 i hi
  · unfold twK
    rw [m1, l1, m2 19 (by decide) (by decide) (by decide) (by decide), m2 20 (by decide) (by decide) (by decide) (by decide), m2 21 (by decide) (by decide) (by decide) (by decide), l2 8 (by decide) (by decide) (by decide) (by decide), l2 9 (by decide) (by decide) (by decide) (by decide), l2 10 (by decide) (by decide) (by decide) (by decide)]
    exact hK
theorem tp_live {t : Nat} {u : Nat × Int32} {a b : twS} (ht : t < 2 ^ 30) (h : twQ t u a b) (hK : twK (t + 1) a b) : ∃ a' b', f_X3_live a (a.1 4) (a.1 2) = some a' ∧ f_X8_doesStep_L26 twN 0 b = some (twI b' 0 (nI (t + 1))) ∧ twQ t u a' b' ∧ twK (t + 1) a' b' := by
  have h0 := h
  obtain ⟨-, -, -, -, -, -, ⟨-, -, p, hp, hp2, -, -⟩, hs1, hs2⟩ := h
  obtain ⟨m, hm⟩ : ∃ m, m = a.1 2 := ⟨_, rfl⟩
  rw [← hm, hs1]
  unfold f_X3_live
  obtain ⟨r, s, e1, e2, y, e3, e4, e5⟩ := tp_loop2 (fun n k x => f_X3_live_L3 n (nI t) m (nI k) x) (fun n k y => f_X8_doesStep_L26 n (nI k) y) p (fun _ x y => twQ t u x y ∧ twK (t + 1) x y ∧ x.1 16 = nI p ∧ x.1 2 = m) (fun r s => ∃ y, s = twI y 0 (nI (t + 1)) ∧ twQ t u r y ∧ twK (t + 1) r y)
    (by
      intro k x y hk ⟨hQ, hK2, hx16, hx2⟩
      have hQ0 := hQ
      obtain ⟨hfan, hflow, hfire, ⟨s1, s2⟩, hdet, hdoor, ⟨c1, c2, p', c3, c4, c5, c6⟩, hst1, hst2⟩ := hQ
      have epp : p' = p := (nI_eq (a := p') (b := p) (by omega) (by omega)).mp (by rw [← hx16, c4])
      subst epp
      have hb : twb (nI k) 30 = true := tp_b (by omega) (by decide)
      have hc : (nI k).toNatClampNeg = k := tp_c (by omega)
      have hkp : ¬ nI p' ≤ nI k := nI_ge hk (by omega)
      have hone := c6 k hk
      obtain ⟨q1, q2, q3, q4, ⟨sv, hs4, hs⟩, q6, q7⟩ := hone
      have hF : ∀ n, f_X3_live_L3 (n + 1) (nI t) m (nI k) x = f_X3_live_L3b (f_X3_live_L3 n) (nI t) m (nI k) x := fun n => rfl
      have hG : ∀ n, f_X8_doesStep_L26 (n + 1) (nI k) y = f_X8_doesStep_L26b (f_X8_doesStep_L26 n) (nI k) y := fun n => rfl
      have hb31 : y.1 31 = nI p' := by rw [← c2]; exact hx16
      have h30 : ¬ (30 : Int32) ≤ nI k := nI_ge (a := k) (b := 30) (by omega) (by decide)
      left
      by_cases c : 2 < sv
      · refine ⟨x, y, fun n => ?_, fun n => ?_, hQ0, hK2, hx16, hx2⟩
        · show f_X3_live_L3 (n + 1) (nI t) m (nI k) x = _
          rw [hF]
          unfold f_X3_live_L3b
          rw [hx16, if_neg hkp, if_neg h30, if_pos hb, hc, q1, hs, tp_s]
          have hsv : sv = 3 ∨ sv = 4 := by omega
          rcases hsv with rfl | rfl
          · rw [if_pos (show nI 3 = 3 from rfl)]
          · rw [if_neg (show ¬ nI 4 = 3 by decide), if_pos hb, if_pos (show nI 4 = 4 from rfl)]
        · show f_X8_doesStep_L26 (n + 1) (nI k) y = _
          rw [hG]
          unfold f_X8_doesStep_L26b
          rw [hb31, if_neg hkp, if_pos hb, hc, hs, if_pos (show (2 : Int32) < nI sv from nI_lt (a := 2) (b := sv) c (by omega)), tp_s]
      · have n3 : ¬ y.2.1 11 k = 3 := fun q => by
          rw [hs] at q
          have := (nI_eq (a := sv) (b := 3) (by omega) (by decide)).mp q
          omega
        have n4 : ¬ y.2.1 11 k = 4 := fun q => by
          rw [hs] at q
          have := (nI_eq (a := sv) (b := 4) (by omega) (by decide)).mp q
          omega
        obtain ⟨x', y', g1, g2, g3, g4, g5⟩ := tp_one (fun i hi => (hdoor i hi).2.1) (fun i hi => (s1 i hi).1) ht hk hp hx16 hst2 c1 (c6 k hk) n3 n4
        obtain ⟨U1, U2⟩ := tp_crowdU g3 g4 hQ0 ⟨p', hx16, hp, hk⟩ g5 hK2
        refine ⟨x', y', fun n => ?_, fun n => ?_, U1, U2, by rw [g3.1]; exact hx16, by rw [g3.1]; exact hx2⟩
        · show f_X3_live_L3 (n + 1) (nI t) m (nI k) x = _
          rw [hF]
          unfold f_X3_live_L3b
          rw [hx16, if_neg hkp, if_neg h30, if_pos hb, hc, q1, if_neg n3, if_pos hb, if_neg n4, if_pos hb]
          rw [hx2] at g1
          cases hsm : f_X0_smokeIn x (x.2.1 23 k) with
          | none => rw [hsm] at g1; simp at g1
          | some v =>
            rw [hsm] at g1
            simp only [Option.bind_some] at g1 ⊢
            rw [g1]
            simp only [Option.bind_some]
            rw [tp_s]
        · show f_X8_doesStep_L26 (n + 1) (nI k) y = _
          rw [hG]
          unfold f_X8_doesStep_L26b
          rw [hb31, if_neg hkp, if_pos hb, hc, hs, if_neg (show ¬ (2 : Int32) < nI sv from nI_nlt (a := 2) (b := sv) (by omega) (by decide)), g2, tp_s]
          rfl)
    (by
      intro x y ⟨hQ, hK2, hx16, hx2⟩
      obtain ⟨hfan, hflow, hfire, hair, hdet, hdoor, ⟨c1, c2, c3⟩, hst1, hst2⟩ := hQ
      refine ⟨x, twI y 0 (nI (t + 1)), fun n => ?_, fun n => ?_, y, rfl, ⟨hfan, hflow, hfire, hair, hdet, hdoor, ⟨c1, c2, c3⟩, hst1, hst2⟩, hK2⟩
      · show f_X3_live_L3b (f_X3_live_L3 n) (nI t) m (nI p) x = _
        unfold f_X3_live_L3b
        rw [hx16, if_pos (Int32.le_refl _)]
      · show f_X8_doesStep_L26b (f_X8_doesStep_L26 n) (nI p) y = _
        unfold f_X8_doesStep_L26b
        rw [← c2, hx16, if_pos (Int32.le_refl _), hst2, tp_s])
    p 0 a b twN twN (by omega) (by show p < 2000; omega) (by show p < 2000; omega) ⟨h0, hK, hp2, hm.symm⟩
  subst e3
  exact ⟨r, y, e1, e2, e4, e5⟩
theorem tp_step {t : Nat} {u : Nat × Int32} {a b : twS} (ht : t < 2 ^ 30) (hu : u.1 ≤ 60000) (h : twR t u a b) : ∃ a' b', f_X7_doStep a = some a' ∧ f_X8_doesStep b = some b' ∧ twR (t + 1) (u.1 + 1, u.2) a' b' := by
  obtain ⟨a1, b1, e1, k1, h1⟩ := tp_fans h
  obtain ⟨a2, b2, e2, k2, h2⟩ := tp_flow h1
  obtain ⟨a3, b3, e3, k3, h3⟩ := tp_burn hu h2
  obtain ⟨a4, b4, e4, k4, h4⟩ := tp_air h3
  obtain ⟨a5, b5, e5, k5, h5⟩ := tp_watch h4
  obtain ⟨a6, b6, e6, k6, h6, h7⟩ := tp_chart ht h5
  obtain ⟨a7, b7, e7, k7, h8, h9⟩ := tp_live ht h6 h7
  obtain ⟨hfan, hflow, hfire, hair, hdet, hdoor, ⟨c1, c2, p, c3, c4, c5, c6⟩, hst1, hst2⟩ := h8
  refine ⟨twI a7 4 (nI (t + 1)), twI b7 0 (nI (t + 1)), ?_, ?_, ⟨hfan, hflow, hfire, hair, hdet, hdoor, h9, ⟨c1, c2, p, c3, c4, c5, fun i hi => ?_⟩, rfl, rfl⟩⟩
  · unfold f_X7_doStep
    rw [tp_pwT]
    simp only [Option.bind_some]
    rw [e1]
    simp only [Option.bind_some]
    rw [tp_push]
    simp only [Option.bind_some]
    rw [e2]
    simp only [Option.bind_some]
    rw [e3]
    simp only [Option.bind_some]
    rw [e4]
    simp only [Option.bind_some]
    rw [e5]
    simp only [Option.bind_some]
    rw [e6]
    simp only [Option.bind_some]
    rw [e7]
    simp only [Option.bind_some]
    rw [hst1, tp_s]
  · unfold f_X8_doesStep
    rw [k1]
    simp only [Option.bind_some]
    rw [k2]
    simp only [Option.bind_some]
    rw [k3]
    simp only [Option.bind_some]
    rw [k4]
    simp only [Option.bind_some]
    rw [k5]
    simp only [Option.bind_some]
    rw [k6]
    simp only [Option.bind_some]
    exact k7
  · obtain ⟨q1, q2, q3, q4, q5, q6, q7⟩ := c6 i hi
    refine ⟨q1, q2, q3, q4, q5, q6, fun q => ?_⟩
    obtain ⟨z1, r, z2, z3⟩ := q7 q
    exact ⟨z1, r, by omega, z3⟩
