/-! ===== the pure side: fans ===== -/
def pw (A : Nat → Int32) : Int32 := if A 0 = 0 then 1 else if A 1 = 0 then 1 else 0
theorem tp_pwT (a : twS) : f_X7_hasPower a = some (pw (a.2.1 8), a) := by
  unfold f_X7_hasPower
  obtain ⟨n, hn⟩ : ∃ n, twN = n + 1 + 1 + 1 := ⟨1997, rfl⟩
  rw [hn]
  simp only [f_X7_hasPower_L2, f_X7_hasPower_L2b]
  unfold pw
  by_cases h0 : a.2.1 8 0 = 0
  · simp [h0, twb]
  · by_cases h1 : a.2.1 8 1 = 0
    · simp [h0, h1, twb]
    · simp [h0, h1, twb]
theorem tp_pwM (b : twS) : f_X8_hasPower b = some (pw (b.2.1 6), b) := by
  unfold f_X8_hasPower pw
  by_cases h0 : b.2.1 6 0 = 0
  · simp [h0, twb]
  · by_cases h1 : b.2.1 6 1 = 0
    · simp [h0, h1, twb]
    · simp [h0, h1, twb]
def nxt (x to : Int32) : Int32 := x + (if x ≤ to then (if to = x then 0 else 1) else -1)
theorem tp_oneN (st : twS) (x to : Int32) : f_X5_oneNearer st x to = some (nxt x to, st) := by
  unfold f_X5_oneNearer f_J6_compare_7cf53 nxt
  split
  · split <;> simp
  · simp
theorem tp_nxtM (x to : Int32) : (if to ≤ x then (if x ≤ to then x + 0 else x + (-1)) else x + 1) = nxt x to := by
  unfold nxt
  by_cases h1 : to ≤ x
  · by_cases h2 : x ≤ to
    · have e : to = x := Int32.le_antisymm h1 h2
      simp [e]
    · have e : ¬ to = x := fun e => h2 (by rw [e]; exact Int32.le_refl x)
      simp [h1, h2]
  · have h2 : x ≤ to := by
      rw [Int32.le_iff_toInt_le] at h1 ⊢
      omega
    have e : ¬ to = x := fun e => h1 (by rw [e]; exact Int32.le_refl x)
    simp [h1, h2, e]
theorem tp_tri {x to : Int32} (h1 : tri x) (h2 : tri to) : tri (nxt x to) := by
  rcases h1 with rfl | rfl | rfl <;> rcases h2 with rfl | rfl | rfl <;> unfold tri nxt <;> decide
theorem tp_pwE {A B : Nat → Int32} (h : ∀ k, k < 2 → A k = B k) : pw A = pw B := by
  unfold pw
  rw [h 0 (by decide), h 1 (by decide)]
theorem tp_fans {t : Nat} {u : Nat × Int32} {a b : twS} (h : twR t u a b) : ∃ a' b', f_X5_turn a (pw (a.2.1 8)) = some a' ∧ f_X8_fans b = some b' ∧ twR t u a' b' := by
  obtain ⟨p, hp0⟩ : ∃ p, p = pw (a.2.1 8) := ⟨_, rfl⟩
  unfold f_X5_turn f_X8_fans
  rw [← hp0]
  refine tp_loop2 (fun n k x => f_X5_turn_L2 n p (nI k) x) (fun n k y => f_X8_fans_L2 n (nI k) y) 3 (fun _ x y => twR t u x y ∧ pw (x.2.1 8) = p) (twR t u) ?_ ?_ 3 0 a b twN twN rfl (by decide) (by decide) ⟨h, hp0.symm⟩
  · intro k x y hk hR
    obtain ⟨⟨⟨f1, f2⟩, hflow, hfire, hair, hdet, hdoor, hchart, hcrowd, hst⟩, hp⟩ := hR
    obtain ⟨e1, e2, e3, t1, t2⟩ := f2 k hk
    have hb : twb (nI k) 3 = true := tp_b hk (by decide)
    have hc : (nI k).toNatClampNeg = k := tp_c (by omega)
    have h3 : ¬ (3 : Int32) ≤ nI k := nI_ge hk (by decide)
    have hpm : pw (y.2.1 6) = p := by rw [← hp]; exact (tp_pwE f1).symm
    left
    by_cases hf : x.2.1 12 k = 0
    · have hf2 : y.2.1 5 k = 0 := by rw [← e3]; exact hf
      refine ⟨twA x 11 (nI k) (nxt (x.2.1 11 k) (if p = 0 then 0 else x.2.1 10 k)), twA y 4 (nI k) (nxt (x.2.1 11 k) (if p = 0 then 0 else x.2.1 10 k)), fun n => ?_, fun n => ?_, ⟨⟨f1, fun j hj => ?_⟩, hflow, hfire, hair, hdet, hdoor, hchart, hcrowd, hst⟩, hp⟩
      · show f_X5_turn_L2b (f_X5_turn_L2 n) p (nI k) x = f_X5_turn_L2 n p (nI (k + 1)) _
        rw [← tp_s]
        unfold f_X5_turn_L2b f_X5_turn_L41
        by_cases hp1 : p = 0 <;> simp [h3, hb, hc, hf, hp1, tp_oneN]
      · show f_X8_fans_L2b (f_X8_fans_L2 n) (nI k) y = f_X8_fans_L2 n (nI (k + 1)) _
        rw [← tp_s]
        unfold f_X8_fans_L2b f_X8_fans_L24
        rw [tp_pwM, hpm]
        by_cases hp1 : p = 0
        · have q := tp_nxtM (x.2.1 11 k) 0
          simp only [h3, hb, hc, hf2, hp1, if_true, if_false, Option.bind_some, ← e2, ← q]
          by_cases c1 : (0 : Int32) ≤ x.2.1 11 k
          · by_cases c2 : x.2.1 11 k ≤ 0 <;> simp [c1, c2]
          · simp [c1]
        · have q := tp_nxtM (x.2.1 11 k) (x.2.1 10 k)
          simp only [h3, hb, hc, hf2, hp1, if_true, if_false, Option.bind_some, ← e2, ← e1, ← q]
          by_cases c1 : x.2.1 10 k ≤ x.2.1 11 k
          · by_cases c2 : x.2.1 11 k ≤ x.2.1 10 k <;> simp [c1, c2]
          · simp [c1]
      · have q := f2 j hj
        have g1 : (twA x 11 (nI k) (nxt (x.2.1 11 k) (if p = 0 then 0 else x.2.1 10 k))).2.1 11 j = if j = k then nxt (x.2.1 11 k) (if p = 0 then 0 else x.2.1 10 k) else x.2.1 11 j := by
          show upd (x.2.1 11) (nI k).toNatClampNeg _ j = _
          rw [hc]
          rfl
        have g2 : (twA y 4 (nI k) (nxt (x.2.1 11 k) (if p = 0 then 0 else x.2.1 10 k))).2.1 4 j = if j = k then nxt (x.2.1 11 k) (if p = 0 then 0 else x.2.1 10 k) else y.2.1 4 j := by
          show upd (y.2.1 4) (nI k).toNatClampNeg _ j = _
          rw [hc]
          rfl
        rw [g1, g2]
        by_cases hjk : j = k
        · subst hjk
          rw [if_pos rfl, if_pos rfl]
          refine ⟨q.1, rfl, q.2.2.1, q.2.2.2.1, ?_⟩
          refine tp_tri t2 ?_
          split
          · exact Or.inr (Or.inl rfl)
          · exact t1
        · rw [if_neg hjk, if_neg hjk]
          exact q
    · have hf2 : ¬ y.2.1 5 k = 0 := by rw [← e3]; exact hf
      refine ⟨x, y, fun n => ?_, fun n => ?_, ⟨⟨f1, f2⟩, hflow, hfire, hair, hdet, hdoor, hchart, hcrowd, hst⟩, hp⟩
      · show f_X5_turn_L2b (f_X5_turn_L2 n) p (nI k) x = f_X5_turn_L2 n p (nI (k + 1)) _
        rw [← tp_s]
        unfold f_X5_turn_L2b
        simp [h3, hb, hc, hf]
      · show f_X8_fans_L2b (f_X8_fans_L2 n) (nI k) y = f_X8_fans_L2 n (nI (k + 1)) _
        rw [← tp_s]
        unfold f_X8_fans_L2b f_X8_fans_L24
        rw [tp_pwM, hpm]
        by_cases hp1 : p = 0 <;> simp [h3, hb, hc, hf2, hp1]
  · intro x y hR
    refine ⟨x, y, fun n => ?_, fun n => ?_, hR.1⟩
    · show f_X5_turn_L2b (f_X5_turn_L2 n) p (nI 3) x = some x
      unfold f_X5_turn_L2b
      simp [nI]
    · show f_X8_fans_L2b (f_X8_fans_L2 n) (nI 3) y = some y
      unfold f_X8_fans_L2b
      simp [nI]
