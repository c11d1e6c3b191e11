/-! ===== what a step leaves alone: each piece, if it ends ===== -/
def kpt (I R : Nat → Bool) (a a' : twS) : Prop := (∀ j, I j = false → a'.1 j = a.1 j) ∧ (∀ j, R j = false → a'.2.1 j = a.2.1 j)
theorem kpt_r (I R : Nat → Bool) (a : twS) : kpt I R a a := ⟨fun _ _ => rfl, fun _ _ => rfl⟩
theorem kpt_t {I R : Nat → Bool} {a b c : twS} (h1 : kpt I R a b) (h2 : kpt I R b c) : kpt I R a c := ⟨fun j q => (h2.1 j q).trans (h1.1 j q), fun j q => (h2.2 j q).trans (h1.2 j q)⟩
theorem kpt_w {I R I' R' : Nat → Bool} {a b : twS} (h : kpt I R a b) (h1 : ∀ j, I' j = false → I j = false) (h2 : ∀ j, R' j = false → R j = false) : kpt I' R' a b := ⟨fun j q => h.1 j (h1 j q), fun j q => h.2 j (h2 j q)⟩
theorem kpt_i {I R : Nat → Bool} (a : twS) (k : Nat) (v : Int32) (h : I k = true) : kpt I R a (twI a k v) := by
  refine ⟨fun j q => ?_, fun j q => rfl⟩
  rw [tp_i1, if_neg (fun e => by rw [e, h] at q; cases q)]
theorem kpt_a {I R : Nat → Bool} (a : twS) (k : Nat) (i v : Int32) (h : R k = true) : kpt I R a (twA a k i v) := by
  refine ⟨fun j q => rfl, fun j q => ?_⟩
  rw [tp_a2, if_neg (fun e => by rw [e, h] at q; cases q)]
/-! ===== pieces that only look ===== -/
theorem pu_seg {a : twS} {v : Int32} {y : Int32 × twS} (h : f_X7_isSegment a v = some y) : y.2 = a := by
  unfold f_X7_isSegment at h
  repeat' split at h
  all_goals cases h; rfl
theorem pu_smoke {a : twS} {v : Int32} {y : Int32 × twS} (h : f_X0_smokeIn a v = some y) : y.2 = a := by
  unfold f_X0_smokeIn at h
  obtain ⟨y1, h1, h⟩ := tw_bd h
  have e := pu_seg h1
  repeat' split at h
  all_goals first | (cases h; exact e) | cases h
theorem pu_heat {a : twS} {v : Int32} {y : Int32 × twS} (h : f_X0_heatIn a v = some y) : y.2 = a := by
  unfold f_X0_heatIn at h
  obtain ⟨y1, h1, h⟩ := tw_bd h
  have e := pu_seg h1
  repeat' split at h
  all_goals first | (cases h; exact e) | cases h
theorem pu_det {a : twS} {v w : Int32} {y : Int32 × twS} (h : f_X7_detectorWorks a v w = some y) : y.2 = a := by
  unfold f_X7_detectorWorks at h
  repeat' split at h
  all_goals first | (cases h; rfl) | cases h
theorem pu_insL : ∀ (n : Nat) (v1 v2 v3 : Int32) (a : twS) (y : Int32 × twS), f_X3_insideOf_L4 n v1 v2 v3 a = some y → y.2 = a := by
  intro n
  induction n with
  | zero => intro v1 v2 v3 a y h; cases h
  | succ n ih =>
    intro v1 v2 v3 a y h
    have h : f_X3_insideOf_L4b (f_X3_insideOf_L4 n) v1 v2 v3 a = some y := h
    unfold f_X3_insideOf_L4b at h
    repeat' split at h
    all_goals first | exact ih _ _ _ _ _ h | (cases h; rfl) | cases h
theorem pu_ins {a : twS} {v : Int32} {y : Int32 × twS} (h : f_X3_insideOf a v = some y) : y.2 = a := pu_insL _ _ _ _ _ _ h
theorem pu_t54 {a : twS} {v1 v2 v3 : Int32} {y : Int32 × twS} (h : f_X7_tellingIn_L54 v1 v2 v3 a = some y) : y.2 = a := by
  unfold f_X7_tellingIn_L54 at h
  split at h
  · cases h; rfl
  · obtain ⟨y1, h1, h⟩ := tw_bd h
    have e := pu_det h1
    split at h
    · cases h; exact e
    · obtain ⟨y2, h2, h⟩ := tw_bd h
      have e2 := pu_ins h2
      split at h <;> (cases h; exact e2.trans e)
theorem pu_t36 {a : twS} {v1 v2 v3 : Int32} {y : Int32 × twS} (h : f_X7_tellingIn_L36 v1 v2 v3 a = some y) : y.2 = a := by
  unfold f_X7_tellingIn_L36 at h
  split at h
  · exact pu_t54 h
  · obtain ⟨y1, h1, h⟩ := tw_bd h
    have e := pu_det h1
    split at h <;> exact (pu_t54 h).trans e
theorem pu_tell {a : twS} {v : Int32} {y : Int32 × twS} (h : f_X7_tellingIn a v = some y) : y.2 = a := by
  unfold f_X7_tellingIn at h
  obtain ⟨y1, h1, h⟩ := tw_bd h
  obtain ⟨y2, h2, h⟩ := tw_bd h
  have e1 := pu_smoke h1
  have e2 := pu_heat h2
  split at h
  · exact (pu_t36 h).trans (e2.trans e1)
  · obtain ⟨y3, h3, h⟩ := tw_bd h
    have e3 := pu_det h3
    split at h <;> exact (pu_t36 h).trans (e3.trans (e2.trans e1))
theorem pu_isAct {a : twS} {v : Int32} {y : Int32 × twS} (h : f_X2_isAct a v = some y) : y.2 = a := by
  unfold f_X2_isAct at h
  repeat' split at h
  all_goals cases h; rfl
theorem pu_isDue {a : twS} {v : Int32} {y : Int32 × twS} (h : f_X2_isDue a v = some y) : y.2 = a := by
  unfold f_X2_isDue at h
  obtain ⟨y1, h1, h⟩ := tw_bd h
  have e := pu_isAct h1
  repeat' split at h
  all_goals first | (cases h; exact e) | cases h
theorem pu_person {a : twS} {v : Int32} {y : Int32 × twS} (h : f_X3_isPerson a v = some y) : y.2 = a := by
  unfold f_X3_isPerson at h
  repeat' split at h
  all_goals cases h; rfl
theorem pu_cmp {a : twS} {v w : Int32} {y : Int32 × twS} (h : f_J6_compare_7cf53 a v w = some y) : y.2 = a := by
  unfold f_J6_compare_7cf53 at h
  repeat' split at h
  all_goals cases h; rfl
theorem pu_n65 {a : twS} {v1 v2 v3 : Int32} {y : Int32 × twS} (h : f_X4_nearestWay_L65 v1 v2 v3 a = some y) : y.2 = a := by
  unfold f_X4_nearestWay_L65 at h
  split at h <;> (cases h; rfl)
theorem pu_nearL : ∀ (n : Nat) (v1 v2 v3 v4 : Int32) (a : twS) (y : Int32 × twS), f_X4_nearestWay_L8 n v1 v2 v3 v4 a = some y → y.2 = a := by
  intro n
  induction n with
  | zero => intro v1 v2 v3 v4 a y h; cases h
  | succ n ih =>
    intro v1 v2 v3 v4 a y h
    have h : f_X4_nearestWay_L8b (f_X4_nearestWay_L8 n) v1 v2 v3 v4 a = some y := h
    unfold f_X4_nearestWay_L8b at h
    split at h
    · split at h <;> exact pu_n65 h
    · split at h
      · split at h
        · exact ih _ _ _ _ _ _ h
        · repeat' split at h
          all_goals exact ih _ _ _ _ _ _ h
      · cases h
theorem pu_near {a : twS} {v : Int32} {y : Int32 × twS} (h : f_X4_nearestWay a v = some y) : y.2 = a := pu_nearL _ _ _ _ _ _ _ h
theorem pu_pw {a : twS} {y : Int32 × twS} (h : f_X7_hasPower a = some y) : y.2 = a := by
  rw [tp_pwT] at h
  cases h
  rfl
theorem pu_held {a : twS} {v : UInt64} {y : UInt64 × twS} (h : f_X6_held a v = some y) : y.2 = a := by
  unfold f_X6_held at h
  repeat' split at h
  all_goals first | (cases h; rfl) | cases h
/-! ===== pieces that write ===== -/
def no : Nat → Bool := fun _ => false
def is1 (k : Nat) : Nat → Bool := fun j => j == k
theorem kp_become26 {a a' : twS} {k0 k1 : UInt64} (h : f_X6_become_L26 k0 k1 a = some a') : kpt no no a a' := by
  unfold f_X6_become_L26 at h
  split at h
  · obtain ⟨y1, h1, h⟩ := tw_bd h
    have e := pu_held h1
    repeat' split at h
    all_goals first | (cases h; rw [e]; exact ⟨fun _ _ => rfl, fun _ _ => rfl⟩) | cases h
  · cases h
theorem kp_become {a a' : twS} {v : Int32} (h : f_X6_become a v = some a') : kpt no no a a' := by
  unfold f_X6_become at h
  repeat' split at h
  all_goals first | exact kp_become26 h | cases h
theorem kp_watchL : ∀ (n : Nat) (v : Int32) (a a' : twS), f_X7_watch_L2 n v a = some a' → kpt (fun j => j == 3 || j == 15) no a a' ∧ (a.1 3 ≠ -1 → a' = a) := by
  intro n
  induction n with
  | zero => intro v a a' h; cases h
  | succ n ih =>
    intro v a a' h
    have h : f_X7_watch_L2b (f_X7_watch_L2 n) v a = some a' := h
    unfold f_X7_watch_L2b at h
    split at h
    · cases h
      exact ⟨kpt_r _ _ _, fun _ => rfl⟩
    · split at h
      · rename_i c
        obtain ⟨y1, h1, h⟩ := tw_bd h
        have e := pu_tell h1
        split at h
        · rw [e] at h
          exact ⟨(ih _ _ _ h).1, fun q => absurd c q⟩
        · obtain ⟨y2, h2, h⟩ := tw_bd h
          rw [e] at h2
          unfold f_X2_start at h2
          cases h2
          refine ⟨kpt_t (kpt_t (kpt_i a 3 v rfl) (kpt_i _ 15 _ rfl)) (ih _ _ _ h).1, fun q => absurd c q⟩
      · cases h
        exact ⟨kpt_r _ _ _, fun _ => rfl⟩
theorem kp_watch {a a' : twS} (h : f_X7_watch a = some a') : kpt (fun j => j == 3 || j == 15) no a a' ∧ (a.1 3 ≠ -1 → a' = a) := kp_watchL _ _ _ _ h
theorem kp_orderL : ∀ (n : Nat) (v1 v2 : Int32) (a a' : twS), f_X5_orderAll_L2 n v1 v2 a = some a' → kpt no (is1 10) a a' := by
  intro n
  induction n with
  | zero => intro v1 v2 a a' h; cases h
  | succ n ih =>
    intro v1 v2 a a' h
    have h : f_X5_orderAll_L2b (f_X5_orderAll_L2 n) v1 v2 a = some a' := h
    unfold f_X5_orderAll_L2b at h
    repeat' split at h
    · cases h
      exact kpt_r _ _ _
    · exact kpt_t (kpt_a a 10 _ _ rfl) (ih _ _ _ _ h)
    · cases h
theorem kp_openAll {a a' : twS} (h : f_X4_openAll a = some a') : kpt no (is1 17) a a' := by
  obtain ⟨y, h1, -, h2, h3, h4⟩ := tp_openAll a
  rw [h1] at h
  cases h
  exact ⟨fun j _ => congrFun h2 j, fun j q => h3 j (fun e => by rw [e] at q; exact absurd q (by decide))⟩
def pfI : Nat → Bool := fun j => j == 1 || j == 2 || j == 6 || j == 11
def pfR : Nat → Bool := fun j => j == 10 || j == 17
theorem pf10 : ∀ j, pfR j = false → is1 10 j = false := by
  intro j q
  unfold pfR at q
  unfold is1
  simp at q ⊢
  exact q.1
theorem pf17 : ∀ j, pfR j = false → is1 17 j = false := by
  intro j q
  unfold pfR at q
  unfold is1
  simp at q ⊢
  exact q.2
theorem kp_perform {a a' : twS} {v : Int32} (h : f_X7_perform a v = some a') : kpt pfI pfR a a' := by
  have hno : ∀ j, pfI j = false → no j = false := fun _ _ => rfl
  unfold f_X7_perform at h
  split at h
  · obtain ⟨y, h1, h⟩ := tw_bd h
    cases h
    cases h1
    exact kpt_i a 6 1 rfl
  · split at h
    · cases h
      exact kpt_i a 2 1 rfl
    · split at h
      · obtain ⟨y, h1, h⟩ := tw_bd h
        cases h
        exact kpt_w (kp_openAll h1) hno pf17
      · split at h
        · obtain ⟨y, h1, h⟩ := tw_bd h
          cases h
          exact kpt_w (kp_orderL _ _ _ _ _ h1) hno pf10
        · split at h
          · obtain ⟨y, h1, h⟩ := tw_bd h
            cases h
            exact kpt_w (kp_orderL _ _ _ _ _ h1) hno pf10
          · split at h
            · obtain ⟨y, h1, h⟩ := tw_bd h
              cases h
              exact kpt_w (kp_orderL _ _ _ _ _ h1) hno pf10
            · split at h
              · cases h
                exact kpt_i a 1 1 rfl
              · split at h
                · obtain ⟨y, h1, h⟩ := tw_bd h
                  cases h
                  cases h1
                  exact kpt_i a 11 1 rfl
                · cases h
                  exact kpt_r _ _ _
