/-! ===== the pure side: smoke and heat, the reference's side ===== -/
def mvE (v2 : Int32) (st : twS) : Option twS :=
  (if (st.1 18) = (-1) then
    f_X8_moves_L152 st
  else
    ((f_X8_strength st).bind fun y36003 => (if 0 ≤ (Op.cmpValue (FP.dcmp y36003.1 4629137466983448576) CmpOp.g) then
    f_X8_moves_L152 y36003.2
  else
    (if twb (y36003.2.1 18) 12 = true then (if twb (y36003.2.1 18) 12 = true then (if twb (y36003.2.1 18) 12 = true then ((f_X8_comes (twA y36003.2 1 (y36003.2.1 18) ((y36003.2.2.1 1 (y36003.2.1 18).toNatClampNeg) - ((y36003.2.2.1 1 (y36003.2.1 18).toNatClampNeg) / 10))) (((twA y36003.2 1 (y36003.2.1 18) ((y36003.2.2.1 1 (y36003.2.1 18).toNatClampNeg) - ((y36003.2.2.1 1 (y36003.2.1 18).toNatClampNeg) / 10))).1 18) - v2) ((y36003.2.2.1 1 (y36003.2.1 18).toNatClampNeg) / 10)).bind fun y36008 => f_X8_moves_L152 y36008) else none) else none) else none))))
theorem mvE_b (rec : Int32 → Int32 → Int32 → Int32 → twS → Option twS) (v1 v2 v3 : Int32) (y : twS) : f_X8_moves_L36b rec v1 v2 v3 (nI 12) y = mvE v2 y := by
  unfold f_X8_moves_L36b mvE
  rw [if_pos (by decide)]
theorem mvI1 : ∀ k, k < 12 → (11 : Int32) - 1 * nI k = nI (11 - k) := by decide
theorem mvI2 : ∀ k, k < 12 → (0 : Int32) - (-1) * nI k = nI k := by decide
def cutN (x : twS) (v1 : Int32) (m : Nat) : Int32 := x.2.1 1 m * v1 / 100
theorem tp_mvP (v1 : Int32) (x : twS) : ∃ y, f_X8_moves_L36 twN v1 1 11 0 x = mvE 1 y ∧ (∀ m, m < 12 → y.2.1 1 m = drf true (x.2.1 1) (cutN x v1) m) ∧ y.1 22 = x.1 22 + cutN x v1 11 ∧ (∀ j, j ≠ 22 → y.1 j = x.1 j) ∧ (∀ j, j ≠ 1 → y.2.1 j = x.2.1 j) ∧ y.2.2 = x.2.2 := by
  obtain ⟨y, h1, ⟨h2, h3, h4, h5, h6⟩⟩ := tp_loopE (fun n k y => f_X8_moves_L36 n v1 1 11 (nI k) y) 12
    (fun k y => (∀ m, m < 12 → y.2.1 1 m = x.2.1 1 m - (if 12 ≤ m + k then cutN x v1 m else 0) + (if 1 ≤ m ∧ 13 ≤ m + k then cutN x v1 (m - 1) else 0)) ∧ y.1 22 = x.1 22 + (if 1 ≤ k then cutN x v1 11 else 0) ∧ (∀ j, j ≠ 22 → y.1 j = x.1 j) ∧ (∀ j, j ≠ 1 → y.2.1 j = x.2.1 j) ∧ y.2.2 = x.2.2) (mvE 1)
    (by
      intro k y hk ⟨p1, p2, p3, p4, p5⟩
      obtain ⟨c, hck⟩ : ∃ c, c + k = 11 := ⟨11 - k, by omega⟩
      have hi : (11 : Int32) - 1 * nI k = nI c := by rw [mvI1 k hk, show 11 - k = c by omega]
      have hb := tp_b (n := 12) (k := c) (by omega) (by decide)
      have hc : (nI c).toNatClampNeg = c := tp_c (by omega)
      have h12 : ¬ (12 : Int32) ≤ nI k := nI_ge hk (by decide)
      have hcv : y.2.1 1 c = x.2.1 1 c := by
        rw [p1 c (by omega), if_neg (show ¬ 12 ≤ c + k by omega), if_neg (show ¬ (1 ≤ c ∧ 13 ≤ c + k) by omega)]
        simp
      have hstep : ∀ n, f_X8_moves_L36 (n + 1) v1 1 11 (nI k) y = (f_X8_comes (twA y 1 (nI c) (x.2.1 1 c - cutN x v1 c)) (nI (c + 1)) (cutN x v1 c)).bind fun z => f_X8_moves_L36 n v1 1 11 (nI (k + 1)) z := fun n => by
        show f_X8_moves_L36b (f_X8_moves_L36 n) v1 1 11 (nI k) y = _
        unfold f_X8_moves_L36b
        rw [if_neg h12, hi, if_pos hb, if_pos hb, if_pos hb, hc, hcv, tp_s, tp_s]
        rfl
      by_cases c11 : c < 11
      · have hc2 : (nI (c + 1)).toNatClampNeg = c + 1 := tp_c (by omega)
        refine ⟨twA (twA y 1 (nI c) (x.2.1 1 c - cutN x v1 c)) 1 (nI (c + 1)) ((twA y 1 (nI c) (x.2.1 1 c - cutN x v1 c)).2.1 1 (c + 1) + cutN x v1 c), fun n => by rw [hstep n, tp_comesS _ (show c + 1 < 12 by omega)]; rfl, fun m hm => ?_, ?_, p3, fun j hj => ?_, p5⟩
        · simp only [tp_aa, tp_u, hc, hc2, if_true]
          by_cases e1 : m = c + 1
          · subst e1
            have q := p1 (c + 1) (by omega)
            rw [if_pos (show 12 ≤ c + 1 + k by omega), if_neg (show ¬ (1 ≤ c + 1 ∧ 13 ≤ c + 1 + k) by omega)] at q
            rw [if_pos rfl, if_neg (show ¬ c + 1 = c by omega), if_pos (show 12 ≤ c + 1 + (k + 1) by omega), if_pos (show 1 ≤ c + 1 ∧ 13 ≤ c + 1 + (k + 1) by omega), q]
            simp
          · by_cases e2 : m = c
            · subst e2
              rw [if_neg e1, if_pos rfl, if_pos (show 12 ≤ m + (k + 1) by omega), if_neg (show ¬ (1 ≤ m ∧ 13 ≤ m + (k + 1)) by omega)]
              simp
            · have q := p1 m hm
              rw [if_neg e1, if_neg e2, q]
              simp only [show (12 ≤ m + k) ↔ (12 ≤ m + (k + 1)) by omega, show (1 ≤ m ∧ 13 ≤ m + k) ↔ (1 ≤ m ∧ 13 ≤ m + (k + 1)) by omega]
        · show y.1 22 = _
          rw [p2, if_pos (show 1 ≤ k by omega), if_pos (show 1 ≤ k + 1 by omega)]
        · rw [tp_ab _ _ _ _ hj, tp_ab _ _ _ _ hj]
          exact p4 j hj
      · have ec : c = 11 := by omega
        have ek : k = 0 := by omega
        subst ec
        subst ek
        refine ⟨twI (twA y 1 (nI 11) (x.2.1 1 11 - cutN x v1 11)) 22 (y.1 22 + cutN x v1 11), fun n => by rw [hstep n, tp_comesO _ (Or.inr rfl)]; rfl, fun m hm => ?_, ?_, fun j hj => ?_, fun j hj => ?_, p5⟩
        · simp only [tp_i2, tp_aa, hc]
          by_cases e2 : m = 11
          · subst e2
            rw [if_pos rfl]
            simp
          · have q := p1 m hm
            rw [if_neg e2, q]
            simp only [show (12 ≤ m + 0) ↔ (12 ≤ m + (0 + 1)) by omega, show (1 ≤ m ∧ 13 ≤ m + 0) ↔ (1 ≤ m ∧ 13 ≤ m + (0 + 1)) by omega]
        · show y.1 22 + cutN x v1 11 = _
          rw [p2]
          simp
        · rw [tp_i1, if_neg hj]
          exact p3 j hj
        · rw [tp_i2, tp_ab _ _ _ _ hj]
          exact p4 j hj)
    (fun n y _ => mvE_b _ v1 1 11 y)
    12 0 x twN rfl (by decide) ⟨fun m hm => by rw [if_neg (by omega), if_neg (by omega)]; simp, by simp, fun _ _ => rfl, fun _ _ => rfl, rfl⟩
  refine ⟨y, h1, fun m hm => ?_, ?_, h4, h5, h6⟩
  · rw [h2 m hm]
    unfold drf
    rw [if_pos rfl, if_pos (show 12 ≤ m + 12 by omega)]
    simp only [show (1 ≤ m ∧ 13 ≤ m + 12) ↔ 1 ≤ m by omega]
  · rw [h3]
    simp
theorem tp_mvN (v1 : Int32) (x : twS) : ∃ y, f_X8_moves_L36 twN v1 (-1) 0 0 x = mvE (-1) y ∧ (∀ m, m < 12 → y.2.1 1 m = drf false (x.2.1 1) (cutN x v1) m) ∧ y.1 22 = x.1 22 + cutN x v1 0 ∧ (∀ j, j ≠ 22 → y.1 j = x.1 j) ∧ (∀ j, j ≠ 1 → y.2.1 j = x.2.1 j) ∧ y.2.2 = x.2.2 := by
  obtain ⟨y, h1, ⟨h2, h3, h4, h5, h6⟩⟩ := tp_loopE (fun n k y => f_X8_moves_L36 n v1 (-1) 0 (nI k) y) 12
    (fun k y => (∀ m, m < 12 → y.2.1 1 m = x.2.1 1 m - (if m < k then cutN x v1 m else 0) + (if m + 1 < k then cutN x v1 (m + 1) else 0)) ∧ y.1 22 = x.1 22 + (if 1 ≤ k then cutN x v1 0 else 0) ∧ (∀ j, j ≠ 22 → y.1 j = x.1 j) ∧ (∀ j, j ≠ 1 → y.2.1 j = x.2.1 j) ∧ y.2.2 = x.2.2) (mvE (-1))
    (by
      intro k y hk ⟨p1, p2, p3, p4, p5⟩
      have hi : (0 : Int32) - (-1) * nI k = nI k := mvI2 k hk
      have hb := tp_b (n := 12) hk (by decide)
      have hc : (nI k).toNatClampNeg = k := tp_c (by omega)
      have h12 : ¬ (12 : Int32) ≤ nI k := nI_ge hk (by decide)
      have hcv : y.2.1 1 k = x.2.1 1 k := by
        rw [p1 k hk, if_neg (show ¬ k < k by omega), if_neg (show ¬ (k + 1 < k) by omega)]
        simp
      have hstep : ∀ n, f_X8_moves_L36 (n + 1) v1 (-1) 0 (nI k) y = (f_X8_comes (twA y 1 (nI k) (x.2.1 1 k - cutN x v1 k)) (nI k + (-1)) (cutN x v1 k)).bind fun z => f_X8_moves_L36 n v1 (-1) 0 (nI (k + 1)) z := fun n => by
        show f_X8_moves_L36b (f_X8_moves_L36 n) v1 (-1) 0 (nI k) y = _
        unfold f_X8_moves_L36b
        rw [if_neg h12, hi, if_pos hb, if_pos hb, if_pos hb, hc, hcv, tp_s]
        rfl
      by_cases k0 : 0 < k
      · obtain ⟨i, rfl⟩ : ∃ i, k = i + 1 := ⟨k - 1, by omega⟩
        have hc2 : (nI i).toNatClampNeg = i := tp_c (by omega)
        refine ⟨twA (twA y 1 (nI (i + 1)) (x.2.1 1 (i + 1) - cutN x v1 (i + 1))) 1 (nI i) ((twA y 1 (nI (i + 1)) (x.2.1 1 (i + 1) - cutN x v1 (i + 1))).2.1 1 i + cutN x v1 (i + 1)), fun n => by rw [hstep n, pk_m1, tp_comesS _ (show i < 12 by omega)]; rfl, fun m hm => ?_, ?_, p3, fun j hj => ?_, p5⟩
        · simp only [tp_aa, tp_u, hc, hc2, if_true]
          by_cases e1 : m = i
          · subst e1
            have q := p1 m (by omega)
            rw [if_pos (show m < m + 1 by omega), if_neg (show ¬ (m + 1 < m + 1) by omega)] at q
            rw [if_pos rfl, if_neg (show ¬ m = m + 1 by omega), if_pos (show m < m + 1 + 1 by omega), if_pos (show m + 1 < m + 1 + 1 by omega), q]
            simp
          · by_cases e2 : m = i + 1
            · subst e2
              rw [if_neg e1, if_pos rfl, if_pos (show i + 1 < i + 1 + 1 by omega), if_neg (show ¬ i + 1 + 1 < i + 1 + 1 by omega)]
              simp
            · have q := p1 m hm
              rw [if_neg e1, if_neg e2, q]
              simp only [show (m < i + 1) ↔ (m < i + 1 + 1) by omega, show (m + 1 < i + 1) ↔ (m + 1 < i + 1 + 1) by omega]
        · show y.1 22 = _
          rw [p2, if_pos (show 1 ≤ i + 1 by omega), if_pos (show 1 ≤ i + 1 + 1 by omega)]
        · rw [tp_ab _ _ _ _ hj, tp_ab _ _ _ _ hj]
          exact p4 j hj
      · have ek : k = 0 := by omega
        subst ek
        refine ⟨twI (twA y 1 (nI 0) (x.2.1 1 0 - cutN x v1 0)) 22 (y.1 22 + cutN x v1 0), fun n => by rw [hstep n, show nI 0 + (-1) = (-1 : Int32) from by decide, tp_comesO _ (Or.inl rfl)]; rfl, fun m hm => ?_, ?_, fun j hj => ?_, fun j hj => ?_, p5⟩
        · simp only [tp_i2, tp_aa, hc]
          by_cases e2 : m = 0
          · subst e2
            rw [if_pos rfl]
            simp
          · have q := p1 m hm
            rw [if_neg e2, q]
            simp only [show (m < 0) ↔ (m < 0 + 1) by omega, show (m + 1 < 0) ↔ (m + 1 < 0 + 1) by omega]
        · show y.1 22 + cutN x v1 0 = _
          rw [p2]
          simp
        · rw [tp_i1, if_neg hj]
          exact p3 j hj
        · rw [tp_i2, tp_ab _ _ _ _ hj]
          exact p4 j hj)
    (fun n y _ => mvE_b _ v1 (-1) 0 y)
    12 0 x twN rfl (by decide) ⟨fun m hm => by rw [if_neg (by omega), if_neg (by omega)]; simp, by simp, fun _ _ => rfl, fun _ _ => rfl, rfl⟩
  refine ⟨y, h1, fun m hm => ?_, ?_, h4, h5, h6⟩
  · rw [h2 m hm]
    unfold drf
    rw [if_neg (show ¬ false = true by decide), if_pos hm]
    simp only [show (m + 1 < 12) ↔ m < 11 by omega]
  · rw [h3]
    simp
theorem tp_airR {t : Nat} {u : Nat × Int32} {a b a' b' : twS} (h : twR t u a b) (g1 : ∀ j, j ≠ 7 → a'.1 j = a.1 j) (g2 : ∀ j, j ≠ 13 → j ≠ 15 → a'.2.1 j = a.2.1 j) (g3 : a'.2.2 = a.2.2) (k1 : ∀ j, j ≠ 22 → b'.1 j = b.1 j) (k2 : ∀ j, j ≠ 1 → b'.2.1 j = b.2.1 j) (k3 : b'.2.2 = b.2.2) (e1 : ∀ m, m < 12 → a'.2.1 13 m = b'.2.1 1 m) (e2 : a'.1 7 = b'.1 22) : twR t u a' b' := by
  obtain ⟨hfan, hflow, hfire, ⟨s1, s2, s3⟩, hdet, hdoor, hchart, hcrowd, hst⟩ := h
  unfold twR
  rw [g1 0 (by decide), g1 1 (by decide), g1 2 (by decide), g1 3 (by decide), g1 4 (by decide), g1 5 (by decide), g1 6 (by decide), g1 8 (by decide), g1 9 (by decide), g1 10 (by decide), g1 11 (by decide), g1 12 (by decide), g1 13 (by decide), g1 14 (by decide), g1 15 (by decide), g1 16 (by decide), g3, k3, g2 8 (by decide) (by decide), g2 9 (by decide) (by decide), g2 10 (by decide) (by decide), g2 11 (by decide) (by decide), g2 12 (by decide) (by decide), g2 14 (by decide) (by decide), g2 16 (by decide) (by decide), g2 17 (by decide) (by decide), g2 18 (by decide) (by decide), g2 19 (by decide) (by decide), g2 20 (by decide) (by decide), g2 21 (by decide) (by decide), g2 22 (by decide) (by decide), g2 23 (by decide) (by decide), g2 24 (by decide) (by decide), g2 25 (by decide) (by decide)]
  rw [k1 0 (by decide), k1 6 (by decide), k1 7 (by decide), k1 8 (by decide), k1 9 (by decide), k1 10 (by decide), k1 11 (by decide), k1 12 (by decide), k1 13 (by decide), k1 14 (by decide), k1 15 (by decide), k1 18 (by decide), k1 19 (by decide), k1 20 (by decide), k1 21 (by decide), k1 24 (by decide), k1 25 (by decide), k1 29 (by decide), k1 30 (by decide), k1 31 (by decide), k1 36 (by decide), k2 2 (by decide), k2 3 (by decide), k2 4 (by decide), k2 5 (by decide), k2 6 (by decide), k2 7 (by decide), k2 8 (by decide), k2 9 (by decide), k2 10 (by decide), k2 11 (by decide), k2 12 (by decide), k2 13 (by decide), k2 14 (by decide)]
  exact ⟨hfan, hflow, hfire, ⟨fun m hm => ⟨e1 m hm, (s1 m hm).2⟩, e2, s3⟩, hdet, hdoor, hchart, hcrowd, hst⟩
theorem tp_drfE {w : Bool} {s s' l l' : Nat → Int32} (hs : ∀ m, m < 12 → s m = s' m) (hl : ∀ m, m < 12 → l m = l' m) {m : Nat} (hm : m < 12) : drf w s l m = drf w s' l' m := by
  unfold drf
  rw [hs m hm, hl m hm]
  by_cases c1 : 1 ≤ m
  · rw [if_pos c1, if_pos c1, hl (m - 1) (by omega)]
    by_cases c2 : m < 11
    · rw [if_pos c2, if_pos c2, hl (m + 1) (by omega)]
    · rw [if_neg c2, if_neg c2]
  · rw [if_neg c1, if_neg c1]
    by_cases c2 : m < 11
    · rw [if_pos c2, if_pos c2, hl (m + 1) (by omega)]
    · rw [if_neg c2, if_neg c2]
theorem tp_cool {t : Nat} {u : Nat × Int32} {a b : twS} (h : twR t u a b) : ∃ a' b', f_X0_cool a = some a' ∧ f_X8_moves_L200 twN 0 b = some b' ∧ twR t u a' b' := by
  unfold f_X0_cool
  refine tp_loop2 (fun n k x => f_X0_cool_L2 n (nI k) x) (fun n k y => f_X8_moves_L200 n (nI k) y) 12 (fun _ x y => twR t u x y) (twR t u) ?_ ?_ 12 0 a b twN twN rfl (by decide) (by decide) h
  · intro k x y hk hR
    obtain ⟨hfan, hflow, hfire, ⟨s1, s2⟩, hdet, hdoor, hchart, hcrowd, hst⟩ := hR
    have hb : twb (nI k) 12 = true := tp_b hk (by decide)
    have hc : (nI k).toNatClampNeg = k := tp_c (by omega)
    have h12 : ¬ (12 : Int32) ≤ nI k := nI_ge hk (by decide)
    left
    refine ⟨twA x 14 (nI k) (x.2.1 14 k - (x.2.1 14 k + 3) / 4), twA y 2 (nI k) (y.2.1 2 k - (y.2.1 2 k + 3) / 4), fun n => ?_, fun n => ?_, ⟨hfan, hflow, hfire, ⟨fun m hm => ⟨(s1 m hm).1, ?_⟩, s2⟩, hdet, hdoor, hchart, hcrowd, hst⟩⟩
    · show f_X0_cool_L2b (f_X0_cool_L2 n) (nI k) x = _
      unfold f_X0_cool_L2b
      rw [if_neg h12, if_pos hb, if_pos hb, if_pos hb, hc, tp_s]
    · show f_X8_moves_L200b (f_X8_moves_L200 n) (nI k) y = _
      unfold f_X8_moves_L200b
      rw [if_neg h12, if_pos hb, if_pos hb, if_pos hb, hc, tp_s]
    · rw [tp_aa, tp_aa, hc, (s1 k hk).2, (s1 m hm).2]
  · intro x y hR
    refine ⟨x, y, fun n => ?_, fun n => ?_, hR⟩
    · show f_X0_cool_L2b (f_X0_cool_L2 n) (nI 12) x = some x
      unfold f_X0_cool_L2b
      rw [if_pos (by decide)]
    · show f_X8_moves_L200b (f_X8_moves_L200 n) (nI 12) y = some y
      unfold f_X8_moves_L200b
      rw [if_pos (by decide)]
theorem tp_smokeS (a : twS) {j : Nat} (hj : j < 12) : f_X0_smokeIn a (nI j) = some (a.2.1 13 j, a) := by
  have hb := tp_b (n := 12) hj (by decide)
  have hc : (nI j).toNatClampNeg = j := tp_c (by omega)
  unfold f_X0_smokeIn
  rw [tp_segT _ hj]
  simp only [Option.bind_some]
  rw [if_neg (by decide), if_pos hb, hc]
theorem tp_draw {t : Nat} {u : Nat × Int32} {a b : twS} (h : twR t u a b) : ∃ a' b', f_X7_moveAir_L45 a = some a' ∧ f_X8_moves_L152 b = some b' ∧ twR t u a' b' := by
  have h0 := h
  obtain ⟨hfan, hflow, hfire, ⟨s1, s2, s3, ⟨j, hj, s4⟩, s5⟩, hdet, hdoor, hchart, hcrowd, hst⟩ := h
  have h63 : ∀ z, f_X7_moveAir_L63 z = f_X0_cool z := fun z => by
    unfold f_X7_moveAir_L63
    cases f_X0_cool z <;> rfl
  unfold f_X7_moveAir_L45 f_X8_moves_L152
  by_cases c : a.1 1 = 0
  · rw [if_pos c, if_pos (by rw [← s5]; exact c), h63]
    exact tp_cool h0
  · have hb := tp_b (n := 12) hj (by decide)
    have hc : (nI j).toNatClampNeg = j := tp_c (by omega)
    have s6 : b.1 9 = nI j := by rw [← s3]; exact s4
    obtain ⟨a', b', e1, e2, e3, -⟩ := tp_shiftR h0 hj (Or.inr (Or.inl rfl) : seg (-1) ∨ offTube (-1)) (a.2.1 13 j / 3)
    rw [tp_comesO _ (Or.inl rfl)] at e2
    rw [if_neg c, if_neg (by rw [← s5]; exact c), s6, s4, if_pos hb, if_pos hb, if_pos hb, hc]
    have hd : f_X0_drawOff a (nI j) = some a' := by
      unfold f_X0_drawOff
      rw [tp_smokeS a hj]
      simp only [Option.bind_some]
      rw [e1]
      rfl
    rw [hd, ← (s1 j hj).1]
    simp only [Option.bind_some]
    rw [h63]
    have e4 := Option.some.inj e2
    rw [← (s1 j hj).1] at e4
    rw [e4]
    exact tp_cool e3
theorem tp_wayR {j : Nat} (hj : j < 12) (d : UInt64) : seg (nI j - dWay d) ∨ offTube (nI j - dWay d) := by
  unfold dWay
  split
  · rcases j with _ | i
    · exact Or.inr (Or.inl (by decide))
    · refine Or.inl ⟨i, by omega, ?_⟩
      have := pk_m1 i
      rw [Int32.sub_eq_add_neg]
      exact this
  · have e : nI j - (-1 : Int32) = nI (j + 1) := by
      rw [Int32.sub_eq_add_neg, show -(-1 : Int32) = 1 from by decide, tp_s]
    rw [e]
    by_cases c : j + 1 < 12
    · exact Or.inl ⟨j + 1, c, rfl⟩
    · exact Or.inr (Or.inr (by rw [show j + 1 = 12 by omega]))
theorem tp_after {t : Nat} {u : Nat × Int32} {a b : twS} (h : twR t u a b) : ∃ a' b', ((f_X1_isBurning a).bind fun y3 => (if y3.1 = 0 then f_X7_moveAir_L45 y3.2 else ((f_X1_place y3.2).bind fun y5 => ((f_X6_speed y5.2).bind fun y6 => ((f_X0_backUp y6.2 y5.1 y6.1).bind fun y7 => f_X7_moveAir_L45 y7))))) = some a' ∧ mvE (dWay b.2.2.2) b = some b' ∧ twR t u a' b' := by
  have h0 := h
  obtain ⟨hfan, ⟨w1, w2, w3, w4, w5, w6⟩, ⟨r1, r2, r3, r4, r5, r6, r7⟩, ⟨s1, s2⟩, hdet, hdoor, hchart, hcrowd, hst⟩ := h
  unfold f_X1_isBurning mvE
  by_cases c : a.1 8 = -1
  · rw [if_pos c, if_pos (by rw [← r1]; exact c)]
    simp only [Option.bind_some]
    rw [if_pos trivial]
    exact tp_draw h0
  · rcases r7 with r7 | ⟨⟨j, hj, r7⟩, -⟩
    · exact absurd r7 c
    have hb := tp_b (n := 12) hj (by decide)
    have hc : (nI j).toNatClampNeg = j := tp_c (by omega)
    have hbj : b.1 18 = nI j := by rw [← r1]; exact r7
    rw [if_neg c, if_neg (by rw [← r1]; exact c), tp_absM]
    unfold f_X1_place f_X6_speed f_X0_backUp
    simp only [Option.bind_some, tp_abs, tp_side, w5, r7, hbj, hc, tp_a1]
    rw [if_neg (by decide)]
    by_cases c2 : 0 ≤ (Op.cmpValue (FP.dcmp (dAbs b.2.2.2) 4629137466983448576) CmpOp.g)
    · rw [if_pos c2, if_pos c2]
      simp only [Option.bind_some]
      exact tp_draw h0
    · obtain ⟨a', b', e1, e2, e3, -⟩ := tp_shiftR h0 hj (tp_wayR hj b.2.2.2) (a.2.1 13 j / 10)
      rw [if_neg c2, if_neg c2, if_pos hb, if_pos hb, if_pos hb, tp_smokeS a hj]
      simp only [Option.bind_some]
      rw [e1, ← (s1 j hj).1]
      rw [← (s1 j hj).1] at e2
      rw [e2]
      simp only [Option.bind_some]
      exact tp_draw e3
theorem tp_air {t : Nat} {u : Nat × Int32} {a b : twS} (h : twR t u a b) : ∃ a' b', f_X7_moveAir a = some a' ∧ f_X8_moves b = some b' ∧ twR t u a' b' := by
  have h0 := h
  obtain ⟨hfan, ⟨w1, w2, w3, w4, w5, w6⟩, hfire, ⟨s1, s2, s3⟩, hdet, hdoor, hchart, hcrowd, hst⟩ := h
  obtain ⟨y, g1, g2, g3, g4, g5, g6⟩ := tp_drift a b.2.2.2
  have hA : f_X7_moveAir a = ((f_X1_isBurning y).bind fun y3 => (if y3.1 = 0 then f_X7_moveAir_L45 y3.2 else ((f_X1_place y3.2).bind fun y5 => ((f_X6_speed y5.2).bind fun y6 => ((f_X0_backUp y6.2 y5.1 y6.1).bind fun y7 => f_X7_moveAir_L45 y7))))) := by
    unfold f_X7_moveAir
    rw [show f_X6_speed a = some (b.2.2.2, a) by unfold f_X6_speed; rw [w5]]
    simp only [Option.bind_some]
    rw [g1]
    rfl
  have hcut : ∀ m, m < 12 → a.2.1 13 m * FP.d2i (dAbs b.2.2.2) / 100 = cutN b (FP.d2i (dAbs b.2.2.2)) m := fun m hm => by
    unfold cutN
    rw [(s1 m hm).1]
  have hM : ∃ y2, f_X8_moves b = mvE (dWay b.2.2.2) y2 ∧ (∀ m, m < 12 → y2.2.1 1 m = drf (decide (dNon b.2.2.2)) (b.2.1 1) (cutN b (FP.d2i (dAbs b.2.2.2))) m) ∧ y2.1 22 = b.1 22 + cutN b (FP.d2i (dAbs b.2.2.2)) (if dNon b.2.2.2 then 11 else 0) ∧ (∀ j, j ≠ 22 → y2.1 j = b.1 j) ∧ (∀ j, j ≠ 1 → y2.2.1 j = b.2.1 j) ∧ y2.2.2 = b.2.2 := by
    unfold f_X8_moves
    rw [tp_absM]
    simp only [Option.bind_some]
    unfold f_X8_moves_L20
    by_cases c : dNon b.2.2.2
    · rw [if_pos c, if_pos rfl, show dWay b.2.2.2 = 1 from if_pos c, decide_eq_true c, if_pos c]
      exact tp_mvP _ b
    · rw [if_neg c, if_neg (by decide), show dWay b.2.2.2 = -1 from if_neg c, decide_eq_false c, if_neg c]
      exact tp_mvN _ b
  obtain ⟨y2, k1, k2, k3, k4, k5, k6⟩ := hM
  have hR : twR t u y y2 := by
    refine tp_airR h0 g4 g5 g6 k4 k5 k6 (fun m hm => ?_) ?_
    · rw [g2 m hm, k2 m hm]
      exact tp_drfE (fun i hi => (s1 i hi).1) hcut hm
    · rw [g3, k3, s2, hcut _ (by split <;> decide)]
  have k7 : dWay b.2.2.2 = dWay y2.2.2.2 := by rw [k6]
  rw [hA, k1, k7]
  exact tp_after hR
