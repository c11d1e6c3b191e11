/-! ===== fits answers 1 ===== -/
theorem z_sum (f : Nat → Nat) : sumN f 0 = 0 := rfl
theorem z_nI : nI 0 = (0 : Int32) := rfl
theorem pk0 {n : Nat} (h : n < 2 ^ 30) : ¬ nI n < 0 := nI_pos (by omega)
theorem bal_ok {t : Nat} (ht : t ≤ 4000) {a : twS} (h : TI t a) : f_X7_balances a = some (1, a) := by
  obtain ⟨p, hp, h16, hall⟩ := Pf_of h
  obtain ⟨b, g, l, -, ⟨s, gg, m, e1, -, e3, e4, e5, e6⟩, -⟩ := h
  have hsum := cnt_all (a.2.1 22) 5 (by decide) p (fun k hk => by
    obtain ⟨s, hs, e, -⟩ := hall k hk
    exact ⟨s, by omega, e⟩)
  have hh : ∀ i, i < 5 → f_X3_howMany a (nI i) = some (nI (cntN (a.2.1 22) (nI i) p), a) := fun i _ => hm_a hp h16 (nI i)
  have h0 := hh 0 (by decide); have h1 := hh 1 (by decide); have h2 := hh 2 (by decide); have h3 := hh 3 (by decide); have h4 := hh 4 (by decide)
  have hs5 : sumN (fun i => cntN (a.2.1 22) (nI i) p) 5 = cntN (a.2.1 22) (nI 0) p + cntN (a.2.1 22) (nI 1) p + cntN (a.2.1 22) (nI 2) p + cntN (a.2.1 22) (nI 3) p + cntN (a.2.1 22) (nI 4) p := by
    simp only [sumN]
    omega
  rw [hs5] at hsum
  generalize cntN (a.2.1 22) (nI 0) p = n0 at *
  generalize cntN (a.2.1 22) (nI 1) p = n1 at *
  generalize cntN (a.2.1 22) (nI 2) p = n2 at *
  generalize cntN (a.2.1 22) (nI 3) p = n3 at *
  generalize cntN (a.2.1 22) (nI 4) p = n4 at *
  obtain ⟨n, hn⟩ : ∃ n, twN = n + 1 + 1 + 1 + 1 + 1 + 1 := ⟨1994, rfl⟩
  have st : ∀ (f : Nat) (v : Int32) (i c : Nat), i < 5 → f_X3_howMany a (nI i) = some (nI c, a) → f_X7_balances_L4 (f + 1) v (nI i) a = f_X7_balances_L4 f (v + nI c) (nI (i + 1)) a := fun f v i c hi e => by
    show f_X7_balances_L4b (f_X7_balances_L4 f) v (nI i) a = _
    unfold f_X7_balances_L4b
    rw [if_neg (show ¬ (4 : Int32) < nI i from nI_nlt (a := 4) (b := i) (by omega) (by decide)), e]
    simp only [Option.bind_some]
    rw [tp_s]
  unfold f_X7_balances
  rw [hn]
  show f_X7_balances_L4 (n + 1 + 1 + 1 + 1 + 1 + 1) (nI 0) (nI 0) a = _
  rw [st _ _ 0 n0 (by decide) h0, st _ _ 1 n1 (by decide) h1, st _ _ 2 n2 (by decide) h2, st _ _ 3 n3 (by decide) h3, st _ _ 4 n4 (by decide) h4]
  show f_X7_balances_L4b (f_X7_balances_L4 n) _ (nI 5) a = _
  unfold f_X7_balances_L4b f_X3_size f_X0_lost f_X1_allMade
  rw [if_pos (show (4 : Int32) < nI 5 by decide)]
  simp only [Option.bind_some]
  rw [nI_add, nI_add, nI_add, nI_add, nI_add, h16, show 0 + n0 + n1 + n2 + n3 + n4 = p by omega, if_pos rfl, tp_allSmoke]
  simp only [Option.bind_some]
  rw [sumN_sm (a.2.1 13) s 12 e1, e3, e4, nI_add, e5, if_pos rfl]
theorem flow_ok {t : Nat} {a : twS} (h : TI t a) : ∃ v, f_X7_flow a = some (v, a) ∧ ¬ (v < -9000) ∧ ¬ (9000 < v) := by
  obtain ⟨b, g, l, hR, -⟩ := h
  have hd : Fok a.2.2.2 := hR.2.1.2.2.2.2.2
  obtain ⟨q1, q2⟩ := fq_flow hd
  refine ⟨FP.d2i (FP.dmul 4636737291354636288 a.2.2.2), ?_, ?_, ?_⟩
  · unfold f_X7_flow f_X6_speed
    simp only [Option.bind_some]
    rw [if_pos (fp_hundred hd)]
  · rw [Int32.lt_iff_toInt_lt]
    have z : (-9000 : Int32).toInt = -9000 := by decide
    omega
  · rw [Int32.lt_iff_toInt_lt]
    have z : (9000 : Int32).toInt = 9000 := by decide
    omega
/-- the acts in their order -/
def Ac (a : twS) (c n : Nat) (d : Nat → Nat) : Prop := c ≤ 10 ∧ n ≤ c ∧ a.1 13 = nI c ∧ (∀ k, k < n → a.2.1 21 k = nI (d k) ∧ d k < 2 ^ 30) ∧ (∀ k, k + 1 < n → d k ≤ d (k + 1)) ∧ (∀ k, n ≤ k → k < c → a.2.1 21 k = -1) ∧ (0 < n → ¬ a.1 3 < 0)
theorem Ac_of {t : Nat} (ht : t ≤ 4000) {a : twS} (h : TI t a) : ∃ c n d, Ac a c n d := by
  obtain ⟨b, g, l, hR, -, -, ⟨c, n, d, d1, d2, d3, d4, d5, d6, d7, d8⟩⟩ := h
  refine ⟨c, n, d, d1, d2, d3, fun k hk => ⟨(d5 k hk).1, by have := (d5 k hk).2; omega⟩, d6, d7, fun hn => ?_⟩
  rcases hR.2.2.2.2.2.2.1.2.1 with q | ⟨j, hj, q⟩
  · exact absurd (d8 q) (by omega)
  · rw [q]
    exact pk0 (by omega)
theorem d_mono {d : Nat → Nat} {n : Nat} (h : ∀ k, k + 1 < n → d k ≤ d (k + 1)) : ∀ (i k : Nat), k + i < n → d k ≤ d (k + i) := by
  intro i
  induction i with
  | zero => intro k _; exact Nat.le_refl _
  | succ i ih =>
    intro k hk
    exact Nat.le_trans (ih k (by omega)) (h (k + i) (by omega))
theorem fit_296 {a : twS} {p i3 : Nat} (hp : p ≤ 30) (h16 : a.1 16 = nI p) (hin : i3 + cntN (a.2.1 22) 3 p = p) : f_L_fits_L296 (nI p) (nI p) (nI i3) 1 a = some (1, a) := by
  unfold f_L_fits_L296
  rw [if_neg one0, if_pos rfl, show f_L_count a 3 = some (nI (cntN (a.2.1 22) 3 p), a) from tc_count hp h16 (i := 3) (by decide)]
  simp only [Option.bind_some]
  rw [tp_sub (cnt_le _ _ _), if_pos (show nI i3 = nI (p - cntN (a.2.1 22) 3 p) from congrArg nI (by omega))]
theorem fit_229 {a : twS} {p i3 c n : Nat} {d : Nat → Nat} (hp : p ≤ 30) (h16 : a.1 16 = nI p) (hin : i3 + cntN (a.2.1 22) 3 p = p) (hA : Ac a c n d) : ∀ (j k w f : Nat), k + j = c → j < f → w < 2 ^ 30 → (∀ i, k ≤ i → i < n → w ≤ d i) → f_L_fits_L229 f (nI p) (nI c) (nI p) (nI i3) (nI w) 1 (nI k) a = some (1, a) := by
  obtain ⟨a1, a2, a3, a4, a5, a6, a7⟩ := hA
  intro j
  induction j with
  | zero =>
    intro k w f hk hf hw hd
    obtain ⟨f, rfl⟩ : ∃ x, f = x + 1 := ⟨f - 1, by omega⟩
    have e : k = c := by omega
    subst e
    show f_L_fits_L229b (f_L_fits_L229 f) _ _ _ _ _ _ _ a = _
    unfold f_L_fits_L229b
    rw [if_pos (Int32.le_refl _)]
    exact fit_296 hp h16 hin
  | succ j ih =>
    intro k w f hk hf hw hd
    obtain ⟨f, rfl⟩ : ∃ x, f = x + 1 := ⟨f - 1, by omega⟩
    show f_L_fits_L229b (f_L_fits_L229 f) _ _ _ _ _ _ _ a = _
    unfold f_L_fits_L229b
    rw [if_neg (show ¬ nI c ≤ nI k from nI_ge (by omega) (by omega)), if_neg one0, tc_done a1 a3 (by omega)]
    simp only [Option.bind_some]
    unfold f_L_fits_L268 f_L_fits_L272 f_L_fits_L273
    by_cases e : k < n
    · obtain ⟨e1, e2⟩ := a4 k e
      rw [e1]
      rw [if_neg (fun q => m1_nI e2 q.symm)]
      unfold f_X7_alarm
      simp only [Option.bind_some]
      rw [if_neg (a7 (by omega)), if_neg (show ¬ nI (d k) < nI w from nI_nlt (hd k (Nat.le_refl k) e) (by omega)), if_neg (fun q => m1_nI e2 q.symm), tp_s]
      refine ih (k + 1) (d k) f (by omega) (by omega) e2 (fun i hi hi2 => ?_)
      have q := d_mono a5 (i - k) k (by omega)
      rw [show k + (i - k) = i by omega] at q
      exact q
    · have e1 := a6 k (by omega) (by omega)
      rw [e1, if_pos rfl, if_pos rfl, tp_s]
      exact ih (k + 1) w f (by omega) (by omega) hw (fun i hi hi2 => absurd hi2 (by omega))
theorem fit_134 {a : twS} {p i3 c n : Nat} {d : Nat → Nat} (hp : p ≤ 30) (h16 : a.1 16 = nI p) (hall : ∀ k, k < p → Pf a k) (hin : i3 + cntN (a.2.1 22) 3 p = p) (hA : Ac a c n d) : ∀ (j k f : Nat), k + j = p → j < f → f_L_fits_L134 f (nI p) (nI c) (nI p) (nI i3) (nI 0) 1 (nI k) a = some (1, a) := by
  intro j
  induction j with
  | zero =>
    intro k f hk hf
    obtain ⟨f, rfl⟩ : ∃ x, f = x + 1 := ⟨f - 1, by omega⟩
    have e : k = p := by omega
    subst e
    show f_L_fits_L134b (f_L_fits_L134 f) _ _ _ _ _ _ _ a = _
    unfold f_L_fits_L134b
    rw [if_pos (Int32.le_refl _)]
    have hc := hA.1
    have q := fit_229 hp h16 hin hA c 0 0 twN (by omega) (by show c < 2000; omega) (by omega) (fun i _ _ => Nat.zero_le _)
    rw [z_nI] at q
    rw [z_nI]
    exact q
  | succ j ih =>
    intro k f hk hf
    obtain ⟨f, rfl⟩ : ∃ x, f = x + 1 := ⟨f - 1, by omega⟩
    have hr := ih (k + 1) f (by omega) (by omega)
    obtain ⟨q0, q1, q2⟩ := tc_person (a := a) hp h16 (show k < p by omega)
    obtain ⟨s, hs, e22, e23, e25⟩ := hall k (by omega)
    show f_L_fits_L134b (f_L_fits_L134 f) _ _ _ _ _ _ _ a = _
    unfold f_L_fits_L134b
    rw [if_neg (show ¬ nI p ≤ nI k from nI_ge (by omega) (by omega)), if_neg one0, q0]
    simp only [Option.bind_some]
    rw [q1]
    simp only [Option.bind_some]
    unfold f_L_fits_L170 f_L_fits_L181 f_L_fits_L199 f_L_fits_L210
    rw [q2, e22]
    simp only [Option.bind_some]
    rcases e23 with ⟨rfl, e23⟩ | ⟨e3, m, hm, e23⟩
    · have h3 := e25.resolve_left (fun q => absurd q.1 (by decide))
      obtain ⟨-, dd, hdd, e25⟩ := h3
      rw [e23, if_pos rfl, if_pos (show nI 3 = 3 from rfl), if_pos trivial, e25, if_neg (pk0 hdd), if_neg (show ¬ nI 3 < 3 by decide), if_pos trivial, tp_s]
      exact hr
    · have hn3 : ¬ nI s = 3 := fun q => e3 (nI_inj (m := s) (n := 3) (by omega) (by omega) q)
      rw [e23, if_neg (fun q => m1_nI (i := m) (by omega) q.symm), if_neg hn3, if_pos trivial]
      rcases e25 with ⟨h2, e25⟩ | ⟨h2, dd, hdd, e25⟩
      · rw [e25, if_pos (show (-1 : Int32) < 0 by decide), if_pos (show nI s < 3 from nI_lt (a := s) (b := 3) (by omega) (by omega)), if_pos trivial, tp_s]
        exact hr
      · rw [e25, if_neg (pk0 hdd), if_neg (show ¬ nI s < 3 from nI_nlt (a := s) (b := 3) h2 (by omega)), if_pos trivial, tp_s]
        exact hr
theorem fit_74 {a : twS} {p c n : Nat} {d s h : Nat → Nat} (hp : p ≤ 30) (h16 : a.1 16 = nI p) (hall : ∀ k, k < p → Pf a k) (hA : Ac a c n d) (hs : ∀ k, k < 12 → a.2.1 13 k = nI (s k) ∧ s k < 2 ^ 30) (hh : ∀ k, k < 12 → a.2.1 14 k = nI (h k) ∧ h k < 2 ^ 30) : ∀ (j k f : Nat), k + j = 12 → j < f → f_L_fits_L74 f (nI p) (nI c) (nI p) (nI (sumN (fun i => cntN (a.2.1 23) (nI i) p) k)) (nI 0) 1 (nI k) a = some (1, a) := by
  intro j
  induction j with
  | zero =>
    intro k f hk hf
    obtain ⟨f, rfl⟩ : ∃ x, f = x + 1 := ⟨f - 1, by omega⟩
    have e : k = 12 := by omega
    subst e
    show f_L_fits_L74b (f_L_fits_L74 f) _ _ _ _ _ _ _ a = _
    unfold f_L_fits_L74b
    rw [if_pos (show (12 : Int32) ≤ nI 12 by decide)]
    have hz : sumN (fun i => cntN (a.2.1 23) (nI i) p) 12 + cntN (a.2.1 22) 3 p = p := ?_
    · have q := fit_134 hp h16 hall hz hA p 0 twN (by omega) (by show p < 2000; omega)
      rw [z_nI] at q
      rw [z_nI]
      exact q
    refine cnt_in (a.2.1 23) (a.2.1 22) p (fun k hk => ?_)
    obtain ⟨s, hs, e22, e23, -⟩ := hall k hk
    rcases e23 with ⟨e3, e23⟩ | ⟨e3, e23⟩
    · exact Or.inl ⟨by rw [e22, e3]; rfl, e23⟩
    · exact Or.inr ⟨by rw [e22]; exact fun q => e3 (nI_inj (m := s) (n := 3) (by omega) (by omega) q), e23⟩
  | succ j ih =>
    intro k f hk hf
    obtain ⟨f, rfl⟩ : ∃ x, f = x + 1 := ⟨f - 1, by omega⟩
    have hr := ih (k + 1) f (by omega) (by omega)
    show f_L_fits_L74b (f_L_fits_L74 f) _ _ _ _ _ _ _ a = _
    unfold f_L_fits_L74b
    rw [if_neg (show ¬ (12 : Int32) ≤ nI k from nI_ge (a := k) (b := 12) (by omega) (by decide)), if_neg one0, tc_seg3 hp h16 (by omega)]
    simp only [Option.bind_some]
    rw [tc_seg0 a (by omega)]
    simp only [Option.bind_some]
    rw [(hs k (by omega)).1, if_neg (pk0 (hs k (by omega)).2), tc_seg1 a (by omega)]
    simp only [Option.bind_some]
    rw [(hh k (by omega)).1, if_neg (pk0 (hh k (by omega)).2), nI_add, tp_s]
    exact hr
theorem fit_45 {a : twS} {p c n : Nat} {d s h : Nat → Nat} (hp : p ≤ 30) (h16 : a.1 16 = nI p) (hall : ∀ k, k < p → Pf a k) (hA : Ac a c n d) (hs : ∀ k, k < 12 → a.2.1 13 k = nI (s k) ∧ s k < 2 ^ 30) (hh : ∀ k, k < 12 → a.2.1 14 k = nI (h k) ∧ h k < 2 ^ 30) : ∀ (j k f : Nat), k + j = 5 → j < f → f_L_fits_L45 f (nI p) (nI c) (nI (sumN (fun i => cntN (a.2.1 22) (nI i) p) k)) (nI 0) (nI 0) 1 (nI k) a = some (1, a) := by
  intro j
  induction j with
  | zero =>
    intro k f hk hf
    obtain ⟨f, rfl⟩ : ∃ x, f = x + 1 := ⟨f - 1, by omega⟩
    have e : k = 5 := by omega
    subst e
    show f_L_fits_L45b (f_L_fits_L45 f) _ _ _ _ _ _ _ a = _
    unfold f_L_fits_L45b
    rw [if_pos (show (5 : Int32) ≤ nI 5 by decide), cnt_all (a.2.1 22) 5 (by decide) p (fun k hk => by
      obtain ⟨s, hs, e, -⟩ := hall k hk
      exact ⟨s, by omega, e⟩)]
    have q := fit_74 hp h16 hall hA hs hh 12 0 twN (by omega) (by show 12 < 2000; omega)
    rw [z_sum, z_nI] at q
    rw [z_nI]
    exact q
  | succ j ih =>
    intro k f hk hf
    obtain ⟨f, rfl⟩ : ∃ x, f = x + 1 := ⟨f - 1, by omega⟩
    have hr := ih (k + 1) f (by omega) (by omega)
    show f_L_fits_L45b (f_L_fits_L45 f) _ _ _ _ _ _ _ a = _
    unfold f_L_fits_L45b
    rw [if_neg (show ¬ (5 : Int32) ≤ nI k from nI_ge (a := k) (b := 5) (by omega) (by decide)), if_neg one0, tc_count hp h16 (by omega)]
    simp only [Option.bind_some]
    rw [nI_add, tp_s]
    exact hr
theorem bs {α β : Type} {x : Option α} {v : α} {f : α → Option β} {r : Option β} (h : x = some v) (g : f v = r) : x.bind f = r := by
  rw [h]
  exact g
theorem fits_ab (K : Int32 → twS → Option (Int32 × twS)) (F : twS → Option (Int32 × twS)) (B : Option (Int32 × twS)) (a : twS) (v lo hi : Int32) (hb : B = some (1, a)) (f1 : F a = some (v, a)) (f2 : ¬ (v < lo)) (f3 : ¬ (hi < v)) : (B.bind fun y1 => (if y1.1 = 0 then K 0 y1.2 else ((F y1.2).bind fun y3 => (if y3.1 < lo then K 0 y3.2 else ((F y3.2).bind fun y5 => (if hi < y5.1 then K 0 y5.2 else K 1 y5.2)))))) = K 1 a := bs hb ((if_neg one0).trans (bs f1 ((if_neg f2).trans (bs f1 (if_neg f3)))))
theorem fits_st (a : twS) (p c : Int32) (v : Int32) (hb : f_X7_balances a = some (1, a)) (f1 : f_X7_flow a = some (v, a)) (f2 : ¬ (v < -9000)) (f3 : ¬ (9000 < v)) : f_L_fits a p c = f_L_fits_L45 twN p c 0 0 0 1 0 a := by
  unfold f_L_fits
  exact fits_ab (fun x s => f_L_fits_L45 twN p c 0 0 0 x 0 s) f_X7_flow (f_X7_balances a) a v (-9000) 9000 hb f1 f2 f3
theorem fits_ok {t : Nat} (ht : t ≤ 4000) {a : twS} (h : TI t a) : f_L_fits a (a.1 16) (a.1 13) = some (1, a) := by
  obtain ⟨p, hp, h16, hall⟩ := Pf_of h
  obtain ⟨c, n, d, hA⟩ := Ac_of ht h
  obtain ⟨v, f1, f2, f3⟩ := flow_ok h
  have hb := bal_ok ht h
  obtain ⟨b, g, l, -, ⟨s, gg, m, e1, e2, e3, e4, e5, e6⟩, -⟩ := h
  rw [fits_st a (a.1 16) (a.1 13) v hb f1 f2 f3, h16, hA.2.2.1]
  have q := fit_45 hp h16 hall hA (fun k hk => ⟨e1 k hk, by have := sumN_le s 12 k hk; omega⟩) (fun k hk => ⟨(e2 k hk).1, by have := (e2 k hk).2; omega⟩) 5 0 twN (by omega) (by show 5 < 2000; omega)
  rw [z_sum, z_nI] at q
  exact q
