/-! ===== the pure side: the persons ===== -/
theorem tp_isIn (b : twS) (v : Int32) (k : Nat) : f_X8_isIn b (nI k) v = some (if bitI v k = 1 then 1 else 0, b) := by
  unfold f_X8_isIn
  show (if bitI v k = 1 then _ else _) = _
  split <;> rfl
def dst (j k : Nat) : Nat := if j ≤ k then k - j else j - k
theorem dst_le {j k : Nat} (hj : j < 12) (hk : k < 12) : dst j k ≤ 11 := by
  unfold dst
  split <;> omega
theorem dstC : ∀ k, k < 12 → ∀ j, j < 12 → (if 0 ≤ (nI k - nI j) then (nI k - nI j) else 0 - (nI k - nI j)) = nI (dst j k) := by decide +kernel
def por (j : Nat) : Int32 := if 6 ≤ j then 12 else -1
def mpo (j : Nat) : Nat := if 6 ≤ j then 12 - j else j + 1
theorem aim0 (b : twS) {j : Nat} (hj : j < 12) : f_X8_aim b (nI j) = f_X8_aim_L36 twN (nI j) (por j) (nI (mpo j)) 0 0 b := by
  unfold f_X8_aim f_X8_aim_L12 f_X8_aim_L29 por mpo
  by_cases c : 6 ≤ j
  · rw [if_pos (show (6 : Int32) ≤ nI j from nI_le c (by omega)), if_pos (show (6 : Int32) ≤ nI j from nI_le c (by omega)), if_pos c, if_pos c, show (12 : Int32) = nI 12 from rfl, tp_sub (by omega)]
  · rw [if_neg (show ¬ (6 : Int32) ≤ nI j from nI_ge (a := j) (b := 6) (by omega) (by decide)), if_neg (show ¬ (6 : Int32) ≤ nI j from nI_ge (a := j) (b := 6) (by omega) (by decide)), if_neg c, if_neg c, tp_s]
theorem tp_near {a b : twS} (hd : ∀ k, k < 12 → a.2.1 17 k = bitI (b.1 7) k) {j : Nat} (hj : j < 12) : ∃ w, f_X4_nearestWay a (nI j) = some (w, a) ∧ f_X8_aim b (nI j) = some (w, b) := by
  rw [aim0 b hj]
  unfold f_X4_nearestWay
  have hm : mpo j ≤ 6 ∧ mpo j ≤ j + 1 ∧ mpo j ≤ 12 - j := by
    unfold mpo
    split <;> omega
  obtain ⟨r, s, e1, e2, w, e3, e4⟩ := tp_loop2 (fun n k (x : Int32 × Int32) => f_X4_nearestWay_L8 n (nI j) x.1 x.2 (nI k) a) (fun n k (y : Int32 × Int32 × Int32) => f_X8_aim_L36 n (nI j) y.1 y.2.1 y.2.2 (nI k) b) 12
    (fun _ x y => ∃ D, D ≤ 13 ∧ x.2 = nI D ∧ ((y = (por j, nI (mpo j), 0) ∧ mpo j < D) ∨ (y = (x.1, nI D, 1) ∧ D ≤ mpo j))) (fun r s => ∃ w, r = (w, a) ∧ s = (w, b))
    (by
      intro k x y hk ⟨D, hD, hx, hy⟩
      have hb := tp_b (n := 12) hk (by decide)
      have hc : (nI k).toNatClampNeg = k := tp_c (by omega)
      have h12 : ¬ (12 : Int32) ≤ nI k := nI_ge hk (by decide)
      obtain ⟨e, he⟩ : ∃ e, e = dst j k := ⟨_, rfl⟩
      have he11 : e ≤ 11 := by rw [he]; exact dst_le hj hk
      have hA : ∀ n, f_X4_nearestWay_L8 (n + 1) (nI j) x.1 x.2 (nI k) a = if a.2.1 17 k = 0 then f_X4_nearestWay_L8 n (nI j) x.1 x.2 (nI (k + 1)) a else if nI D ≤ nI e then f_X4_nearestWay_L8 n (nI j) x.1 x.2 (nI (k + 1)) a else f_X4_nearestWay_L8 n (nI j) (nI k) (nI e) (nI (k + 1)) a := fun n => by
        show f_X4_nearestWay_L8b (f_X4_nearestWay_L8 n) (nI j) x.1 x.2 (nI k) a = _
        unfold f_X4_nearestWay_L8b
        rw [if_neg h12, if_pos hb, hc, dstC k hk j hj, ← he, tp_s, hx]
      have hB : ∀ n, f_X8_aim_L36 (n + 1) (nI j) y.1 y.2.1 y.2.2 (nI k) b = f_X8_aim_L60 (f_X8_aim_L36 n) (nI j) y.1 y.2.1 y.2.2 (nI k) (nI e) b := fun n => by
        show f_X8_aim_L36b (f_X8_aim_L36 n) (nI j) y.1 y.2.1 y.2.2 (nI k) b = _
        unfold f_X8_aim_L36b
        rw [if_neg h12, he]
        unfold dst
        by_cases c : j ≤ k
        · rw [if_pos (nI_le c (by omega)), if_pos c, tp_sub c]
        · rw [if_neg (nI_ge (by omega) (by omega)), if_neg c, tp_sub (by omega)]
      have hB2 : ∀ n, f_X8_aim_L60 (f_X8_aim_L36 n) (nI j) y.1 y.2.1 y.2.2 (nI k) (nI e) b = if a.2.1 17 k = 0 then f_X8_aim_L36 n (nI j) y.1 y.2.1 y.2.2 (nI (k + 1)) b else if nI e < y.2.1 then f_X8_aim_L36 n (nI j) (nI k) (nI e) 1 (nI (k + 1)) b else if nI e = y.2.1 then (if y.2.2 = 0 then f_X8_aim_L36 n (nI j) (nI k) (nI e) 1 (nI (k + 1)) b else f_X8_aim_L36 n (nI j) y.1 y.2.1 y.2.2 (nI (k + 1)) b) else f_X8_aim_L36 n (nI j) y.1 y.2.1 y.2.2 (nI (k + 1)) b := fun n => by
        unfold f_X8_aim_L60 f_X8_aim_L91
        rw [tp_isIn, hd k hk]
        simp only [Option.bind_some, tp_s]
        rcases bit01 (b.1 7) hk with q | q
        · rw [q, if_pos (show (if (0 : Int32) = 1 then (1 : Int32) else 0) = 0 from rfl), if_pos rfl]
        · rw [q, if_neg (show ¬ (if (1 : Int32) = 1 then (1 : Int32) else 0) = 0 by decide), if_neg (show ¬ (1 : Int32) = 0 by decide)]
      left
      by_cases c0 : a.2.1 17 k = 0
      · exact ⟨x, y, fun n => by show f_X4_nearestWay_L8 (n + 1) (nI j) x.1 x.2 (nI k) a = _; rw [hA, if_pos c0], fun n => by show f_X8_aim_L36 (n + 1) (nI j) y.1 y.2.1 y.2.2 (nI k) b = _; rw [hB, hB2, if_pos c0], D, hD, hx, hy⟩
      · rcases hy with ⟨rfl, hmD⟩ | ⟨rfl, hDm⟩
        · by_cases c1 : e ≤ mpo j
          · refine ⟨(nI k, nI e), (nI k, nI e, 1), fun n => ?_, fun n => ?_, e, by omega, rfl, Or.inr ⟨rfl, c1⟩⟩
            · show f_X4_nearestWay_L8 (n + 1) (nI j) x.1 x.2 (nI k) a = _
              rw [hA, if_neg c0, if_neg (nI_ge (by omega) (by omega))]
            · show f_X8_aim_L36 (n + 1) (nI j) (por j) (nI (mpo j)) 0 (nI k) b = _
              rw [hB, hB2, if_neg c0]
              by_cases c2 : e < mpo j
              · rw [if_pos (nI_lt c2 (by omega))]
              · rw [if_neg (nI_nlt (by omega) (by omega)), if_pos (show nI e = nI (mpo j) by rw [show e = mpo j by omega]), if_pos rfl]
          · have hB3 : ∀ n, f_X8_aim_L36 (n + 1) (nI j) (por j) (nI (mpo j)) 0 (nI k) b = f_X8_aim_L36 n (nI j) (por j) (nI (mpo j)) 0 (nI (k + 1)) b := fun n => by
              rw [hB, hB2, if_neg c0, if_neg (nI_nlt (by omega) (by omega)), if_neg (fun q => by have := (nI_eq (a := e) (b := mpo j) (by omega) (by omega)).mp q; omega)]
            by_cases c3 : D ≤ e
            · exact ⟨x, (por j, nI (mpo j), 0), fun n => by show f_X4_nearestWay_L8 (n + 1) (nI j) x.1 x.2 (nI k) a = _; rw [hA, if_neg c0, if_pos (nI_le c3 (by omega))], hB3, D, hD, hx, Or.inl ⟨rfl, hmD⟩⟩
            · exact ⟨(nI k, nI e), (por j, nI (mpo j), 0), fun n => by show f_X4_nearestWay_L8 (n + 1) (nI j) x.1 x.2 (nI k) a = _; rw [hA, if_neg c0, if_neg (nI_ge (by omega) (by omega))], hB3, e, by omega, rfl, Or.inl ⟨rfl, by omega⟩⟩
        · by_cases c1 : D ≤ e
          · refine ⟨x, (x.1, nI D, 1), fun n => ?_, fun n => ?_, D, hD, hx, Or.inr ⟨rfl, hDm⟩⟩
            · show f_X4_nearestWay_L8 (n + 1) (nI j) x.1 x.2 (nI k) a = _
              rw [hA, if_neg c0, if_pos (nI_le c1 (by omega))]
            · show f_X8_aim_L36 (n + 1) (nI j) x.1 (nI D) 1 (nI k) b = _
              rw [hB, hB2, if_neg c0, if_neg (nI_nlt c1 (by omega))]
              by_cases c2 : nI e = nI D
              · rw [if_pos c2, if_neg (show ¬ (1 : Int32) = 0 by decide)]
              · rw [if_neg c2]
          · refine ⟨(nI k, nI e), (nI k, nI e, 1), fun n => ?_, fun n => ?_, e, by omega, rfl, Or.inr ⟨rfl, by omega⟩⟩
            · show f_X4_nearestWay_L8 (n + 1) (nI j) x.1 x.2 (nI k) a = _
              rw [hA, if_neg c0, if_neg (nI_ge (by omega) (by omega))]
            · show f_X8_aim_L36 (n + 1) (nI j) x.1 (nI D) 1 (nI k) b = _
              rw [hB, hB2, if_neg c0, if_pos (nI_lt (by omega) (by omega))])
    (by
      intro x y ⟨D, hD, hx, hy⟩
      have hA : ∀ n, f_X4_nearestWay_L8 (n + 1) (nI j) x.1 x.2 (nI 12) a = if nI D ≤ nI (j + 1) then f_X4_nearestWay_L65 (nI j) x.1 (nI D) a else f_X4_nearestWay_L65 (nI j) (-1) (nI (j + 1)) a := fun n => by
        show f_X4_nearestWay_L8b (f_X4_nearestWay_L8 n) (nI j) x.1 x.2 (nI 12) a = _
        unfold f_X4_nearestWay_L8b
        rw [if_pos (by decide), tp_s, hx]
      have h65 : ∀ (v : Int32) (i : Nat), i ≤ 20 → f_X4_nearestWay_L65 (nI j) v (nI i) a = some (if i ≤ 12 - j then v else 12, a) := fun v i hi => by
        unfold f_X4_nearestWay_L65
        rw [show (12 : Int32) - nI j = nI (12 - j) from tp_sub (s := j) (t := 12) (by omega)]
        by_cases c : i ≤ 12 - j
        · rw [if_pos (nI_le c (by omega)), if_pos c]
        · rw [if_neg (nI_ge (by omega) (by omega)), if_neg c]
      have hB : ∀ n, f_X8_aim_L36 (n + 1) (nI j) y.1 y.2.1 y.2.2 (nI 12) b = some (y.1, b) := fun n => by
        show f_X8_aim_L36b (f_X8_aim_L36 n) (nI j) y.1 y.2.1 y.2.2 (nI 12) b = _
        unfold f_X8_aim_L36b
        rw [if_pos (by decide)]
      refine ⟨(y.1, a), (y.1, b), fun n => ?_, hB, y.1, rfl, rfl⟩
      show f_X4_nearestWay_L8 (n + 1) (nI j) x.1 x.2 (nI 12) a = _
      rw [hA]
      rcases hy with ⟨rfl, hmD⟩ | ⟨rfl, hDm⟩
      · show _ = some (por j, a)
        unfold mpo at hmD
        unfold por
        by_cases c : 6 ≤ j
        · rw [if_pos c] at hmD
          rw [if_pos c, h65 _ D (by omega), h65 _ (j + 1) (by omega), if_neg (show ¬ D ≤ 12 - j by omega), if_neg (show ¬ j + 1 ≤ 12 - j by omega)]
          split <;> rfl
        · rw [if_neg c] at hmD
          rw [if_neg c, h65 _ (j + 1) (by omega), if_neg (nI_ge (by omega) (by omega)), if_pos (show j + 1 ≤ 12 - j by omega)]
      · rw [if_pos (nI_le (by omega) (by omega)), h65 _ D (by omega), if_pos (show D ≤ 12 - j by omega)])
    12 0 ((-1 : Int32), nI 13) (por j, nI (mpo j), 0) twN twN rfl (by decide) (by decide) ⟨13, by omega, rfl, Or.inl ⟨rfl, by omega⟩⟩
  subst e3
  subst e4
  exact ⟨w, e1, e2⟩
/-- what a step on towards w is -/
def stp (j : Nat) (w : Int32) : Int32 := if nI j ≤ w then nI (j + 1) else nI j - 1
theorem stpR {j : Nat} (hj : j < 12) (w : Int32) : seg (stp j w) ∨ offTube (stp j w) := by
  unfold stp
  split
  · by_cases c : j + 1 < 12
    · exact Or.inl ⟨j + 1, c, rfl⟩
    · exact Or.inr (Or.inr (by rw [show j + 1 = 12 by omega]))
  · rcases j with _ | i
    · exact Or.inr (Or.inl (by decide))
    · exact Or.inl ⟨i, by omega, nI_pred i⟩
theorem stpN (j : Nat) (hj : j < 12) (w : Int32) (c : ¬ nI j ≤ w) : ¬ stp j w = nI j := by
  have e : stp j w = nI j - 1 := if_neg c
  rw [e]
  rcases j with _ | i
  · decide
  · rw [nI_pred]
    intro q
    have := (nI_eq (a := i) (b := i + 1) (by omega) (by omega)).mp q
    omega
def endA (a : twS) (k t : Nat) : twS := twA (twA (twA a 22 (nI k) 3) 25 (nI k) (nI t)) 23 (nI k) (-1)
def endB (b : twS) (k t : Nat) : twS := twA (twA b 11 (nI k) 3) 14 (nI k) (nI t)
theorem tp_go {a b : twS} (hd : ∀ k, k < 12 → a.2.1 17 k = bitI (b.1 7) k) {j k p t : Nat} (hj : j < 12) (hk : k < p) (hp : p ≤ 30) (h16 : a.1 16 = nI p) (ha : a.2.1 23 k = nI j) (h0 : b.1 0 = nI t) : (f_X3_goOn a (nI k) (nI t) = some (endA a k t) ∧ f_X8_walks_L29 (nI k) (nI j) b = some (endB b k t)) ∨ ∃ m, m < 12 ∧ f_X3_goOn a (nI k) (nI t) = some (twA a 23 (nI k) (nI m)) ∧ f_X8_walks_L29 (nI k) (nI j) b = some (twA b 12 (nI k) (nI m)) := by
  obtain ⟨w, e1, e2⟩ := tp_near hd hj
  have hb : twb (nI k) 30 = true := tp_b (by omega) (by decide)
  have hc : (nI k).toNatClampNeg = k := tp_c (by omega)
  have hper : f_X3_isPerson a (nI k) = some (1, a) := by
    unfold f_X3_isPerson
    rw [if_neg (nI_pos (by omega)), h16, if_neg (nI_ge hk (by omega)), if_neg (show ¬ (30 : Int32) ≤ nI k from nI_ge (a := k) (b := 30) (by omega) (by decide))]
  have h48 : f_X3_goOn_L48 (nI k) (nI t) a = some (endA a k t) := by
    unfold f_X3_goOn_L48 endA
    rw [if_pos hb, if_pos hb, if_pos hb]
  have h64 : f_X8_walks_L64 (nI k) b = some (endB b k t) := by
    unfold f_X8_walks_L64 f_X8_ends endB
    rw [if_pos hb, if_pos hb, tp_a1, h0]
    rfl
  obtain ⟨g, hgA, hgB, hgs⟩ : ∃ g : Int32, f_X7_isSegment a (stp j w) = some (g, a) ∧ f_X8_isSegment b (stp j w) = some (g, b) ∧ (g = 0 ∨ g = 1 ∧ seg (stp j w)) := by
    rcases stpR hj w with ⟨m, hm, hs⟩ | ho
    · exact ⟨1, by rw [hs, tp_segT _ hm], by rw [hs, tp_segM _ hm], Or.inr ⟨rfl, m, hm, hs⟩⟩
    · exact ⟨0, tp_segTo _ ho, tp_segMo _ ho, Or.inl rfl⟩
  have hA2 : ∀ v, v = stp j w → ((f_X7_isSegment a v).bind fun y7 => (if y7.1 = 0 then f_X3_goOn_L48 (nI k) (nI t) y7.2 else (if twb (nI k) 30 = true then some (twA y7.2 23 (nI k) v) else none))) = if g = 0 then some (endA a k t) else some (twA a 23 (nI k) (stp j w)) := fun v hv => by
    rw [hv, hgA]
    simp only [Option.bind_some]
    rw [h48, if_pos hb]
  have hB2 : ∀ v, v = stp j w → ((f_X8_isSegment b v).bind fun y7 => (if y7.1 = 0 then f_X8_walks_L64 (nI k) y7.2 else (if twb (nI k) 30 = true then some (twA y7.2 12 (nI k) v) else none))) = if g = 0 then some (endB b k t) else some (twA b 12 (nI k) (stp j w)) := fun v hv => by
    rw [hv, hgB]
    simp only [Option.bind_some]
    rw [h64, if_pos hb]
  have hgo : f_X3_goOn a (nI k) (nI t) = if w = nI j then some (endA a k t) else if g = 0 then some (endA a k t) else some (twA a 23 (nI k) (stp j w)) := by
    unfold f_X3_goOn
    rw [hper]
    simp only [Option.bind_some]
    rw [if_neg (by decide), if_pos hb, hc, ha, e1]
    simp only [Option.bind_some]
    by_cases c1 : w = nI j
    · rw [show f_J6_compare_7cf53 a w (nI j) = some (0, a) by
        unfold f_J6_compare_7cf53
        rw [if_pos (show nI j ≤ w by rw [c1]; exact Int32.le_refl _), if_pos c1]]
      simp only [Option.bind_some]
      rw [if_pos (Int32.add_zero _), h48, if_pos c1]
    · by_cases c2 : nI j ≤ w
      · rw [show f_J6_compare_7cf53 a w (nI j) = some (1, a) by
          unfold f_J6_compare_7cf53
          rw [if_pos c2, if_neg c1]]
        simp only [Option.bind_some]
        rw [tp_s, if_neg (fun q => by have := (nI_eq (a := j + 1) (b := j) (by omega) (by omega)).mp q; omega), if_neg c1]
        exact hA2 _ (if_pos c2).symm
      · obtain ⟨d, hd1⟩ : ∃ d : Int32, d = -1 := ⟨_, rfl⟩
        have hcmp : f_J6_compare_7cf53 a w (nI j) = some (d, a) := by
          unfold f_J6_compare_7cf53
          rw [if_neg c2, hd1]
        have hE : nI j + d = stp j w := by
          unfold stp
          rw [if_neg c2, Int32.sub_eq_add_neg, hd1]
        have hne : ¬ stp j w = nI j := stpN j hj w c2
        rw [hcmp]
        simp only [Option.bind_some]
        rw [hE, if_neg hne, if_neg c1]
        exact hA2 _ rfl
  have hwk : f_X8_walks_L29 (nI k) (nI j) b = if w = nI j then some (endB b k t) else if g = 0 then some (endB b k t) else some (twA b 12 (nI k) (stp j w)) := by
    unfold f_X8_walks_L29 f_X8_walks_L49
    rw [e2]
    simp only [Option.bind_some]
    by_cases c2 : nI j ≤ w
    · rw [if_pos c2, tp_s, h64]
      by_cases c1 : w = nI j
      · rw [if_pos c1, if_pos c1]
      · rw [if_neg c1, if_neg c1]
        exact hB2 _ (if_pos c2).symm
    · rw [if_neg c2, h64]
      by_cases c1 : w = nI j
      · rw [if_pos c1, if_pos c1]
      · rw [if_neg c1, if_neg c1]
        exact hB2 _ (if_neg c2).symm
  rw [hgo, hwk]
  by_cases c : w = nI j
  · left
    rw [if_pos c, if_pos c]
    exact ⟨rfl, rfl⟩
  · rw [if_neg c, if_neg c]
    rcases hgs with hg | ⟨hg, m, hm, hs⟩
    · left
      rw [if_pos hg, if_pos hg]
      exact ⟨rfl, rfl⟩
    · right
      have hg0 : ¬ g = 0 := by rw [hg]; decide
      refine ⟨m, hm, ?_, ?_⟩
      · rw [if_neg hg0, hs]
      · rw [if_neg hg0, hs]
/-- only person k's rows change -/
def butA (k : Nat) (a a' : twS) : Prop := a'.1 = a.1 ∧ (∀ j, j ≠ 22 → j ≠ 23 → j ≠ 24 → j ≠ 25 → a'.2.1 j = a.2.1 j) ∧ a'.2.2 = a.2.2 ∧ ∀ j i, i ≠ k → a'.2.1 j i = a.2.1 j i
def butB (k : Nat) (b b' : twS) : Prop := b'.1 = b.1 ∧ (∀ j, j ≠ 11 → j ≠ 12 → j ≠ 13 → j ≠ 14 → b'.2.1 j = b.2.1 j) ∧ b'.2.2 = b.2.2 ∧ ∀ j i, i ≠ k → b'.2.1 j i = b.2.1 j i
def oneAt (t k : Nat) (a b : twS) : Prop := Rone t (a.2.1 22 k) (a.2.1 23 k) (a.2.1 24 k) (a.2.1 25 k) (b.2.1 11 k) (b.2.1 12 k) (b.2.1 13 k) (b.2.1 14 k)
theorem butA_r (k : Nat) (a : twS) : butA k a a := ⟨rfl, fun _ _ _ _ _ => rfl, rfl, fun _ _ _ => rfl⟩
theorem butB_r (k : Nat) (b : twS) : butB k b b := ⟨rfl, fun _ _ _ _ _ => rfl, rfl, fun _ _ _ => rfl⟩
theorem butA_s {k : Nat} (hk : k < 30) {a a' : twS} (h : butA k a a') {r : Nat} (hr : r = 22 ∨ r = 23 ∨ r = 24 ∨ r = 25) (v : Int32) : butA k a (twA a' r (nI k) v) := by
  obtain ⟨h1, h2, h3, h4⟩ := h
  refine ⟨h1, fun j q1 q2 q3 q4 => ?_, h3, fun j i hi => ?_⟩
  · rw [tp_ab _ _ _ _ (by omega)]
    exact h2 j q1 q2 q3 q4
  · by_cases e : j = r
    · subst e
      rw [tp_aa, tp_c (by omega), if_neg hi]
      exact h4 j i hi
    · rw [tp_ab _ _ _ _ e]
      exact h4 j i hi
theorem butB_s {k : Nat} (hk : k < 30) {b b' : twS} (h : butB k b b') {r : Nat} (hr : r = 11 ∨ r = 12 ∨ r = 13 ∨ r = 14) (v : Int32) : butB k b (twA b' r (nI k) v) := by
  obtain ⟨h1, h2, h3, h4⟩ := h
  refine ⟨h1, fun j q1 q2 q3 q4 => ?_, h3, fun j i hi => ?_⟩
  · rw [tp_ab _ _ _ _ (by omega)]
    exact h2 j q1 q2 q3 q4
  · by_cases e : j = r
    · subst e
      rw [tp_aa, tp_c (by omega), if_neg hi]
      exact h4 j i hi
    · rw [tp_ab _ _ _ _ e]
      exact h4 j i hi
theorem tp_at (a : twS) {k : Nat} (hk : k < 30) (r : Nat) (v : Int32) : (twA a r (nI k) v).2.1 r k = v := by
  rw [tp_aa, tp_c (by omega), if_pos rfl]
theorem tp_atO (a : twS) (k : Nat) {r r' : Nat} (h : r' ≠ r) (v : Int32) (i : Nat) : (twA a r (nI k) v).2.1 r' i = a.2.1 r' i := by
  rw [tp_ab _ _ _ _ h]
theorem tp_par (t : Nat) (ht : t < 2 ^ 30) : nI t - nI t / 2 * 2 = nI (t % 2) := by
  have e1 : nI t / 2 = nI (t / 2) := pk_div (a := t) (d := 2) (by omega) (by decide) (by decide)
  have e2 : nI (t / 2) * 2 = nI (t / 2 * 2) := pk_mul (t / 2) 2
  rw [e1, e2, tp_sub (by omega)]
  congr 1
  omega
/-- a person who walks -/
theorem tp_walk {a b : twS} (hd : ∀ k, k < 12 → a.2.1 17 k = bitI (b.1 7) k) {j k p t : Nat} (ht : t < 2 ^ 30) (hj : j < 12) (hk : k < p) (hp : p ≤ 30) (h16 : a.1 16 = nI p) (ha : a.2.1 23 k = nI j) (h0 : b.1 0 = nI t) (hb12 : b.2.1 12 k = nI j) {S : Int32} (hS : b.2.1 1 j = S) (s1 : a.2.1 22 k = 2) (s2 : b.2.1 11 k = 2) (s3 : a.2.1 25 k = b.2.1 14 k) : ∃ a' b', f_X3_liveOne_L94 (nI k) (nI t) S a = some a' ∧ f_X8_lives_L117 (nI k) b = some b' ∧ butA k a a' ∧ butB k b b' ∧ oneAt t k a' b' := by
  have hk30 : k < 30 := by omega
  have hb : twb (nI k) 30 = true := tp_b (by omega) (by decide)
  have hbj : twb (nI j) 12 = true := tp_b hj (by decide)
  have hc : (nI k).toNatClampNeg = k := tp_c (by omega)
  have hcj : (nI j).toNatClampNeg = j := tp_c (by omega)
  have hstay : oneAt t k a b := by
    refine ⟨by rw [s1, s2], s3, fun q => ?_, fun _ => by rw [ha, hb12], ⟨2, by omega, s2⟩, ⟨j, hj, hb12⟩, fun q => ?_⟩
    · rw [s2] at q
      exact absurd q (by decide)
    · rw [s2] at q
      exact absurd q (by decide)
  have hL : f_X8_lives_L117 (nI k) b = if S < 40 then f_X8_walks_L29 (nI k) (nI j) b else if nI (t % 2) = 1 then some b else f_X8_walks_L29 (nI k) (nI j) b := by
    unfold f_X8_lives_L117 f_X8_walks
    rw [if_pos hb, hc, s2, if_pos rfl, if_pos hb, hb12, if_pos hbj, hcj, hS, h0, tp_par t ht]
    by_cases c : S < 40
    · rw [if_pos c]
      cases f_X8_walks_L29 (nI k) (nI j) b <;> rfl
    · rw [if_neg c]
      by_cases c2 : nI (t % 2) = 1
      · rw [if_pos c2]
        rfl
      · rw [if_neg c2]
        cases f_X8_walks_L29 (nI k) (nI j) b <;> rfl
  have h117 : f_X3_liveOne_L117 (nI k) (nI t) a = f_X3_goOn a (nI k) (nI t) := by
    unfold f_X3_liveOne_L117
    cases f_X3_goOn a (nI k) (nI t) <;> rfl
  have hA : f_X3_liveOne_L94 (nI k) (nI t) S a = if S < 40 then f_X3_goOn a (nI k) (nI t) else if nI (t % 2) = 1 then some a else f_X3_goOn a (nI k) (nI t) := by
    unfold f_X3_liveOne_L94
    rw [if_pos hb, hc, s1, if_pos rfl, h117, tp_par t ht]
    by_cases c : S < 40
    · rw [if_pos c, if_pos c]
    · rw [if_neg c, if_neg c]
      rcases Nat.mod_two_eq_zero_or_one t with q | q
      · rw [q, if_pos (by decide), if_neg (by decide)]
      · rw [q, if_neg (by decide), if_pos (by decide)]
  have hgo : ∃ a' b', f_X3_goOn a (nI k) (nI t) = some a' ∧ f_X8_walks_L29 (nI k) (nI j) b = some b' ∧ butA k a a' ∧ butB k b b' ∧ oneAt t k a' b' := by
    rcases tp_go hd hj hk hp h16 ha h0 with ⟨g1, g2⟩ | ⟨m, hm, g1, g2⟩
    · refine ⟨_, _, g1, g2, butA_s hk30 (butA_s hk30 (butA_s hk30 (butA_r k a) (Or.inl rfl) _) (by omega) _) (by omega) _, butB_s hk30 (butB_s hk30 (butB_r k b) (Or.inl rfl) _) (by omega) _, ?_⟩
      unfold oneAt endA endB
      rw [tp_at _ hk30 23, tp_atO _ _ (show 22 ≠ 23 by decide), tp_atO _ _ (show 22 ≠ 25 by decide), tp_at _ hk30 22, tp_atO _ _ (show 24 ≠ 23 by decide), tp_atO _ _ (show 24 ≠ 25 by decide), tp_atO _ _ (show 24 ≠ 22 by decide), tp_atO _ _ (show 25 ≠ 23 by decide), tp_at _ hk30 25, tp_at _ hk30 14, tp_atO _ _ (show 11 ≠ 14 by decide), tp_at _ hk30 11, tp_atO _ _ (show 12 ≠ 14 by decide), tp_atO _ _ (show 12 ≠ 11 by decide), tp_atO _ _ (show 13 ≠ 14 by decide), tp_atO _ _ (show 13 ≠ 11 by decide)]
      exact ⟨rfl, rfl, fun _ => rfl, fun q => absurd rfl q, ⟨3, by omega, rfl⟩, ⟨j, hj, hb12⟩, fun q => absurd q (by decide)⟩
    · refine ⟨_, _, g1, g2, butA_s hk30 (butA_r k a) (by omega) _, butB_s hk30 (butB_r k b) (by omega) _, ?_⟩
      unfold oneAt
      rw [tp_at _ hk30 23, tp_atO _ _ (show 22 ≠ 23 by decide), tp_atO _ _ (show 24 ≠ 23 by decide), tp_atO _ _ (show 25 ≠ 23 by decide), tp_at _ hk30 12, tp_atO _ _ (show 11 ≠ 12 by decide), tp_atO _ _ (show 13 ≠ 12 by decide), tp_atO _ _ (show 14 ≠ 12 by decide)]
      refine ⟨by rw [s1, s2], s3, fun q => ?_, fun _ => rfl, ⟨2, by omega, s2⟩, ⟨m, hm, rfl⟩, fun q => ?_⟩
      · rw [s2] at q
        exact absurd q (by decide)
      · rw [s2] at q
        exact absurd q (by decide)
  rw [hA, hL]
  by_cases c : S < 40
  · rw [if_pos c, if_pos c]
    exact hgo
  · rw [if_neg c, if_neg c]
    by_cases c2 : nI (t % 2) = 1
    · rw [if_pos c2, if_pos c2]
      exact ⟨a, b, rfl, rfl, butA_r k a, butB_r k b, hstay⟩
    · rw [if_neg c2, if_neg c2]
      exact hgo
