/-! ===== what is asked after each call holds ===== -/
def cntN (f : Nat → Int32) (v : Int32) : Nat → Nat
  | 0 => 0
  | n + 1 => cntN f v n + (if f n = v then 1 else 0)
theorem sumN_add (f g : Nat → Nat) : ∀ n, sumN (fun i => f i + g i) n = sumN f n + sumN g n := by
  intro n
  induction n with
  | zero => rfl
  | succ n ih =>
    show sumN (fun i => f i + g i) n + (f n + g n) = sumN f n + f n + (sumN g n + g n)
    rw [ih]
    omega
theorem sumN_0 : ∀ n, sumN (fun _ => 0) n = 0 := by
  intro n
  induction n with
  | zero => rfl
  | succ n ih =>
    show sumN (fun _ => 0) n + 0 = 0
    rw [ih]
theorem sumN_ind {x : Int32} {s : Nat} (hs : s < 100) (hx : x = nI s) : ∀ m, m ≤ 100 → sumN (fun i => if x = nI i then 1 else 0) m = if s < m then 1 else 0 := by
  intro m
  induction m with
  | zero => intro _; rfl
  | succ m ih =>
    intro hm
    show sumN (fun i => if x = nI i then 1 else 0) m + (if x = nI m then 1 else 0) = _
    rw [ih (by omega)]
    by_cases e : s = m
    · rw [if_neg (by omega), if_pos (by rw [hx, e]), if_pos (by omega)]
    · have h2 : ¬ x = nI m := fun q => e (nI_inj (by omega) (by omega) (hx.symm.trans q))
      rw [if_neg h2]
      by_cases e2 : s < m
      · rw [if_pos e2, if_pos (by omega)]
      · rw [if_neg e2, if_neg (by omega)]
theorem m1_nI {i : Nat} (h : i < 2 ^ 30) : ¬ ((-1 : Int32) = nI i) := fun e => by
  have q := nI_pos' (n := i) (by omega)
  rw [← e] at q
  exact absurd q (by decide)
theorem sumN_ne {x : Int32} (hx : x = -1) : ∀ m, m ≤ 100 → sumN (fun i => if x = nI i then 1 else 0) m = 0 := by
  intro m
  induction m with
  | zero => intro _; rfl
  | succ m ih =>
    intro hm
    show sumN (fun i => if x = nI i then 1 else 0) m + (if x = nI m then 1 else 0) = 0
    rw [ih (by omega), if_neg (by rw [hx]; exact m1_nI (by omega))]
theorem cnt_all (f : Nat → Int32) (m : Nat) (hm : m ≤ 100) : ∀ p, (∀ k, k < p → ∃ s, s < m ∧ f k = nI s) → sumN (fun i => cntN f (nI i) p) m = p := by
  intro p
  induction p with
  | zero => intro _; exact sumN_0 m
  | succ p ih =>
    intro h
    show sumN (fun i => cntN f (nI i) p + (if f p = nI i then 1 else 0)) m = p + 1
    obtain ⟨s, hs, e⟩ := h p (by omega)
    rw [sumN_add, ih (fun k hk => h k (by omega)), sumN_ind (by omega) e m hm, if_pos hs]
theorem cnt_in (f g : Nat → Int32) : ∀ p, (∀ k, k < p → (g k = 3 ∧ f k = -1) ∨ (g k ≠ 3 ∧ seg (f k))) → sumN (fun i => cntN f (nI i) p) 12 + cntN g 3 p = p := by
  intro p
  induction p with
  | zero => intro _; rw [show sumN (fun i => cntN f (nI i) 0) 12 = 0 from sumN_0 12]; rfl
  | succ p ih =>
    intro h
    show sumN (fun i => cntN f (nI i) p + (if f p = nI i then 1 else 0)) 12 + (cntN g 3 p + (if g p = 3 then 1 else 0)) = p + 1
    have q := ih (fun k hk => h k (by omega))
    rw [sumN_add]
    rcases h p (by omega) with ⟨h1, h2⟩ | ⟨h1, s, hs, h2⟩
    · rw [sumN_ne h2 12 (by decide), if_pos h1]
      omega
    · rw [sumN_ind (by omega) h2 12 (by decide), if_pos hs, if_neg h1]
      omega
theorem cnt_le (f : Nat → Int32) (v : Int32) : ∀ p, cntN f v p ≤ p := by
  intro p
  induction p with
  | zero => exact Nat.le_refl 0
  | succ p ih =>
    show cntN f v p + (if f p = v then 1 else 0) ≤ p + 1
    split <;> omega
theorem hm_L {a : twS} {p : Nat} (hp : p ≤ 30) (h16 : a.1 16 = nI p) (v : Int32) : ∀ (j k n : Nat), k + j = p → j < n → f_X3_howMany_L4 n v (nI (cntN (a.2.1 22) v k)) (nI k) a = some (nI (cntN (a.2.1 22) v p), a) := by
  intro j
  induction j with
  | zero =>
    intro k n hk hn
    obtain ⟨n, rfl⟩ : ∃ x, n = x + 1 := ⟨n - 1, by omega⟩
    have e : k = p := by omega
    subst e
    show f_X3_howMany_L4b (f_X3_howMany_L4 n) v _ (nI k) a = _
    unfold f_X3_howMany_L4b
    rw [h16, if_pos (Int32.le_refl _)]
  | succ j ih =>
    intro k n hk hn
    obtain ⟨n, rfl⟩ : ∃ x, n = x + 1 := ⟨n - 1, by omega⟩
    have hb : twb (nI k) 30 = true := tp_b (by omega) (by decide)
    have hc : (nI k).toNatClampNeg = k := tp_c (by omega)
    show f_X3_howMany_L4b (f_X3_howMany_L4 n) v _ (nI k) a = _
    unfold f_X3_howMany_L4b
    rw [h16, if_neg (show ¬ nI p ≤ nI k from nI_ge (by omega) (by omega)), if_neg (show ¬ (30 : Int32) ≤ nI k from nI_ge (a := k) (b := 30) (by omega) (by decide)), if_pos hb, hc, nI_1, nI_1]
    have q := ih (k + 1) n (by omega) (by omega)
    by_cases e : a.2.1 22 k = v
    · rw [if_pos e]
      rw [show cntN (a.2.1 22) v (k + 1) = cntN (a.2.1 22) v k + 1 from by show cntN (a.2.1 22) v k + (if a.2.1 22 k = v then 1 else 0) = _; rw [if_pos e]] at q
      exact q
    · rw [if_neg e]
      rw [show cntN (a.2.1 22) v (k + 1) = cntN (a.2.1 22) v k from by show cntN (a.2.1 22) v k + (if a.2.1 22 k = v then 1 else 0) = _; rw [if_neg e]; rfl] at q
      exact q
theorem hm_a {a : twS} {p : Nat} (hp : p ≤ 30) (h16 : a.1 16 = nI p) (v : Int32) : f_X3_howMany a v = some (nI (cntN (a.2.1 22) v p), a) := hm_L hp h16 v p 0 twN (by omega) (by show p < 2000; omega)
theorem in_L {a : twS} {p : Nat} (hp : p ≤ 30) (h16 : a.1 16 = nI p) (v : Int32) : ∀ (j k n : Nat), k + j = p → j < n → f_X3_insideOf_L4 n v (nI (cntN (a.2.1 23) v k)) (nI k) a = some (nI (cntN (a.2.1 23) v p), a) := by
  intro j
  induction j with
  | zero =>
    intro k n hk hn
    obtain ⟨n, rfl⟩ : ∃ x, n = x + 1 := ⟨n - 1, by omega⟩
    have e : k = p := by omega
    subst e
    show f_X3_insideOf_L4b (f_X3_insideOf_L4 n) v _ (nI k) a = _
    unfold f_X3_insideOf_L4b
    rw [h16, if_pos (Int32.le_refl _)]
  | succ j ih =>
    intro k n hk hn
    obtain ⟨n, rfl⟩ : ∃ x, n = x + 1 := ⟨n - 1, by omega⟩
    have hb : twb (nI k) 30 = true := tp_b (by omega) (by decide)
    have hc : (nI k).toNatClampNeg = k := tp_c (by omega)
    show f_X3_insideOf_L4b (f_X3_insideOf_L4 n) v _ (nI k) a = _
    unfold f_X3_insideOf_L4b
    rw [h16, if_neg (show ¬ nI p ≤ nI k from nI_ge (by omega) (by omega)), if_neg (show ¬ (30 : Int32) ≤ nI k from nI_ge (a := k) (b := 30) (by omega) (by decide)), if_pos hb, hc, nI_1, nI_1]
    have q := ih (k + 1) n (by omega) (by omega)
    by_cases e : a.2.1 23 k = v
    · rw [if_pos e]
      rw [show cntN (a.2.1 23) v (k + 1) = cntN (a.2.1 23) v k + 1 from by show cntN (a.2.1 23) v k + (if a.2.1 23 k = v then 1 else 0) = _; rw [if_pos e]] at q
      exact q
    · rw [if_neg e]
      rw [show cntN (a.2.1 23) v (k + 1) = cntN (a.2.1 23) v k from by show cntN (a.2.1 23) v k + (if a.2.1 23 k = v then 1 else 0) = _; rw [if_neg e]; rfl] at q
      exact q
theorem in_a {a : twS} {p : Nat} (hp : p ≤ 30) (h16 : a.1 16 = nI p) (v : Int32) : f_X3_insideOf a v = some (nI (cntN (a.2.1 23) v p), a) := in_L hp h16 v p 0 twN (by omega) (by show p < 2000; omega)
/-- a person, as its answers show it -/
def Pf (a : twS) (k : Nat) : Prop := ∃ s, s ≤ 4 ∧ a.2.1 22 k = nI s ∧ (s = 3 ∧ a.2.1 23 k = -1 ∨ s ≠ 3 ∧ seg (a.2.1 23 k)) ∧ (s ≤ 2 ∧ a.2.1 25 k = -1 ∨ 3 ≤ s ∧ ∃ d, d < 2 ^ 30 ∧ a.2.1 25 k = nI d)
theorem Pf_of {t : Nat} {a : twS} (h : TI t a) : ∃ p, p ≤ 30 ∧ a.1 16 = nI p ∧ ∀ k, k < p → Pf a k := by
  obtain ⟨b, g, l, hR, -, ⟨p, hp, e16, hE⟩, -⟩ := h
  obtain ⟨-, -, -, -, -, -, -, ⟨c1, c2, p', hp', c3, c4, c5⟩, -⟩ := hR
  have ep : p' = p := nI_inj (by omega) (by omega) (c3.symm.trans e16)
  subst ep
  refine ⟨p', hp, e16, fun k hk => ?_⟩
  obtain ⟨r1, r2, r3, r4, ⟨s, hs, r5⟩, r6, -⟩ := c5 k hk
  have e22 : a.2.1 22 k = nI s := by rw [r1]; exact r5
  refine ⟨s, hs, e22, ?_, ?_⟩
  · by_cases e3 : s = 3
    · exact Or.inl ⟨e3, r3 (by rw [r5, e3]; rfl)⟩
    · refine Or.inr ⟨e3, ?_⟩
      rw [r4 (by rw [r5]; intro q; exact e3 (nI_inj (by omega) (by omega) q))]
      exact r6
  · rcases hE k hk with ⟨q, qe⟩ | ⟨q, qe⟩
    · refine Or.inl ⟨?_, qe⟩
      rw [e22] at q
      rcases q with q | q | q
      · have := nI_inj (m := s) (n := 0) (by omega) (by omega) q
        omega
      · have := nI_inj (m := s) (n := 1) (by omega) (by omega) q
        omega
      · have := nI_inj (m := s) (n := 2) (by omega) (by omega) q
        omega
    · refine Or.inr ⟨?_, qe⟩
      rw [e22] at q
      rcases q with q | q
      · have := nI_inj (m := s) (n := 3) (by omega) (by omega) q
        omega
      · have := nI_inj (m := s) (n := 4) (by omega) (by omega) q
        omega
theorem rg4' (a : twS) {i : Nat} (hi : i ≤ 4) : f_X7_requireRange a (nI i) 0 4 = some (.inr a) := rg4 a i (by omega)
theorem tc_count {a : twS} {p : Nat} (hp : p ≤ 30) (h16 : a.1 16 = nI p) {i : Nat} (hi : i ≤ 4) : f_L_count a (nI i) = some (nI (cntN (a.2.1 22) (nI i) p), a) := by
  unfold f_L_count f_X7_count
  rw [rg4' a hi]
  simp only [Option.bind_some, twTry]
  rw [hm_a hp h16]
  rfl
theorem tc_seg0 (a : twS) {j : Nat} (hj : j < 12) : f_L_segment a (nI j) 0 = some (a.2.1 13 j, a) := by
  unfold f_L_segment f_X7_segment
  rw [rs_y a hj]
  simp only [Option.bind_some, twTry]
  rw [show f_X7_requireRange a 0 0 4 = some (.inr a) from rg4' a (i := 0) (by decide)]
  simp only [Option.bind_some, twTry]
  rw [if_pos trivial, tp_smokeS a hj]
  rfl
theorem tc_seg1 (a : twS) {j : Nat} (hj : j < 12) : f_L_segment a (nI j) 1 = some (a.2.1 14 j, a) := by
  unfold f_L_segment f_X7_segment
  rw [rs_y a hj]
  simp only [Option.bind_some, twTry]
  rw [show f_X7_requireRange a 1 0 4 = some (.inr a) from rg4' a (i := 1) (by decide)]
  simp only [Option.bind_some, twTry]
  rw [if_neg one0, if_pos trivial, tp_heatS a hj]
  rfl
theorem tc_seg3 {a : twS} {p : Nat} (hp : p ≤ 30) (h16 : a.1 16 = nI p) {j : Nat} (hj : j < 12) : f_L_segment a (nI j) 3 = some (nI (cntN (a.2.1 23) (nI j) p), a) := by
  unfold f_L_segment f_X7_segment
  rw [rs_y a hj]
  simp only [Option.bind_some, twTry]
  rw [show f_X7_requireRange a 3 0 4 = some (.inr a) from rg4' a (i := 3) (by decide)]
  simp only [Option.bind_some, twTry]
  rw [if_neg (by decide), if_neg (by decide), if_neg (by decide), if_pos trivial, in_a hp h16]
  rfl
theorem ps_y {a : twS} {p k : Nat} (hp : p ≤ 30) (h16 : a.1 16 = nI p) (hk : k < p) : f_X3_isPerson a (nI k) = some (1, a) := by
  unfold f_X3_isPerson
  rw [if_neg (nI_pos (by omega)), h16, if_neg (show ¬ nI p ≤ nI k from nI_ge hk (by omega)), if_neg (show ¬ (30 : Int32) ≤ nI k from nI_ge (a := k) (b := 30) (by omega) (by decide))]
theorem rg2 (a : twS) {i : Nat} (hi : i ≤ 2) : f_X7_requireRange a (nI i) 0 2 = some (.inr a) := by
  refine rr_y a ?_
  rintro (q | q)
  · exact nI_pos (by omega) q
  · exact nI_nlt (a := 2) (b := i) hi (by decide) q
theorem tc_person {a : twS} {p k : Nat} (hp : p ≤ 30) (h16 : a.1 16 = nI p) (hk : k < p) : f_L_person a (nI k) 0 = some (a.2.1 22 k, a) ∧ f_L_person a (nI k) 1 = some (a.2.1 23 k, a) ∧ f_L_person a (nI k) 2 = some (a.2.1 25 k, a) := by
  have hb : twb (nI k) 30 = true := tp_b (by omega) (by decide)
  have hc : (nI k).toNatClampNeg = k := tp_c (by omega)
  unfold f_L_person f_X7_person f_X3_size f_X3_stateOf f_X3_segmentOf f_X3_endOf
  simp only [Option.bind_some]
  rw [h16, ri_y a hk (by omega)]
  simp only [Option.bind_some, twTry]
  rw [show f_X7_requireRange a 0 0 2 = some (.inr a) from rg2 a (i := 0) (by decide), show f_X7_requireRange a 1 0 2 = some (.inr a) from rg2 a (i := 1) (by decide), show f_X7_requireRange a 2 0 2 = some (.inr a) from rg2 a (i := 2) (by decide)]
  simp only [Option.bind_some, ps_y hp h16 hk]
  rw [if_pos trivial, if_neg one0, if_pos hb, hc, if_neg one0, if_pos trivial, if_pos hb, if_neg (by decide), if_neg (by decide), if_neg one0, if_pos hb]
  exact ⟨rfl, rfl, rfl⟩
theorem tc_done {a : twS} {c k : Nat} (hc : c ≤ 10) (h13 : a.1 13 = nI c) (hk : k < c) : f_L_done a (nI k) = some (a.2.1 21 k, a) := by
  have hb : twb (nI k) 10 = true := tp_b (by omega) (by decide)
  have hcl : (nI k).toNatClampNeg = k := tp_c (by omega)
  unfold f_L_done f_X7_done f_X2_size f_X2_stepOf f_X2_isAct
  simp only [Option.bind_some]
  rw [h13, ri_y a hk (by omega)]
  simp only [Option.bind_some, twTry]
  rw [if_neg (nI_pos (by omega)), h13, if_neg (show ¬ nI c ≤ nI k from nI_ge hk (by omega)), if_neg (show ¬ (10 : Int32) ≤ nI k from nI_ge (a := k) (b := 10) (by omega) (by decide))]
  simp only [Option.bind_some]
  rw [if_neg one0, if_pos hb, hcl]
  rfl
