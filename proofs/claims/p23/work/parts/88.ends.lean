/-! ===== acts are done in their order; the ends of persons ===== -/
def DoneI (t : Nat) (a : twS) : Prop := ∃ (c n : Nat) (d : Nat → Nat), c ≤ 10 ∧ n ≤ c ∧ a.1 13 = nI c ∧ a.1 14 = nI n ∧ (∀ k, k < n → a.2.1 21 k = nI (d k) ∧ d k ≤ t) ∧ (∀ k, k + 1 < n → d k ≤ d (k + 1)) ∧ (∀ k, n ≤ k → k < c → a.2.1 21 k = -1) ∧ (a.1 3 = -1 → n = 0)
theorem DoneI_k {t : Nat} {I R : Nat → Bool} {a a' : twS} (h : kpt I R a a') (h3 : a.1 3 = a'.1 3 ∨ a.1 3 ≠ -1 ∧ a'.1 3 ≠ -1 ∨ a.1 3 = -1) (h13 : I 13 = false) (h14 : I 14 = false) (h21 : R 21 = false) (hd : DoneI t a) : DoneI t a' := by
  obtain ⟨c, n, d, e1, e2, e3, e4, e5, e6, e7, e8⟩ := hd
  refine ⟨c, n, d, e1, e2, (h.1 13 h13).trans e3, (h.1 14 h14).trans e4, fun k hk => ?_, e6, fun k h1 h2 => ?_, fun q => ?_⟩
  · rw [h.2 21 h21]
    exact e5 k hk
  · rw [h.2 21 h21]
    exact e7 k h1 h2
  · rcases h3 with h3 | h3 | h3
    · exact e8 (h3.trans q)
    · exact absurd q h3.2
    · exact e8 h3
def fcI : Nat → Bool := fun j => j == 1 || j == 2 || j == 6 || j == 11 || j == 14 || j == 15
def fcR : Nat → Bool := fun j => j == 10 || j == 17 || j == 21
theorem fc_pI : ∀ j, fcI j = false → pfI j = false := by
  intro j q
  unfold fcI at q
  unfold pfI
  simp at q ⊢
  omega
theorem fc_pR : ∀ j, fcR j = false → pfR j = false := by
  intro j q
  unfold fcR at q
  unfold pfR
  simp at q ⊢
  omega
theorem kp_chartL {t : Nat} : ∀ (n : Nat) (v : Int32) (a a' : twS), a.1 4 = nI t → DoneI t a → f_X7_followChart_L2 n v a = some a' → kpt fcI fcR a a' ∧ DoneI t a' := by
  intro n
  induction n with
  | zero => intro v a a' h4 hd h; cases h
  | succ n ih =>
    intro v a a' h4 hd h
    have h : f_X7_followChart_L2b (f_X7_followChart_L2 n) v a = some a' := h
    unfold f_X7_followChart_L2b at h
    split at h
    · cases h
      exact ⟨kpt_r _ _ _, hd⟩
    · split at h
      · cases h
        exact ⟨kpt_r _ _ _, hd⟩
      · rename_i c3
        obtain ⟨y1, h1, h⟩ := tw_bd h
        have e1 := pu_isDue h1
        split at h
        · cases h
          rw [e1]
          exact ⟨kpt_r _ _ _, hd⟩
        · rw [e1] at h
          obtain ⟨y2, h2, h⟩ := tw_bd h
          obtain ⟨a3, h3, h⟩ := tw_bd h
          have hx : kpt fcI fcR a y2.2 ∧ DoneI t y2.2 := by
            unfold f_X2_finishNext at h2
            obtain ⟨z, hz, h2⟩ := tw_bd h2
            have ez := pu_isAct hz
            split at h2
            · cases h2
              rw [ez]
              exact ⟨kpt_r _ _ _, hd⟩
            · rename_i hz1
              rw [ez] at h2
              split at h2
              · rename_i hb
                try rw [if_pos hb] at h2
                cases h2
                refine ⟨kpt_t (kpt_t (kpt_a a 21 _ _ rfl) (kpt_i _ 15 _ rfl)) (kpt_i _ 14 _ rfl), ?_⟩
                obtain ⟨c, m, d, e1, e2, e3, e4, e5, e6, e7, e8⟩ := hd
                have hm : m < c := by
                  unfold f_X2_isAct at hz
                  rw [e3, e4] at hz
                  split at hz
                  · cases hz; exact absurd rfl hz1
                  · split at hz
                    · cases hz; exact absurd rfl hz1
                    · rename_i q
                      exact Nat.lt_of_not_le (fun w => q (nI_le w (by omega)))
                have hcl : (nI m).toNatClampNeg = m := tp_c (by omega)
                have hr : ∀ j, (twI (twI (twA a 21 (a.1 14) (a.1 4)) 15 (a.1 4)) 14 ((twI (twA a 21 (a.1 14) (a.1 4)) 15 (a.1 4)).1 14 + 1)).2.1 21 j = if j = m then nI t else a.2.1 21 j := by
                  intro j
                  show upd (a.2.1 21) (a.1 14).toNatClampNeg (a.1 4) j = _
                  rw [e4, hcl, h4, tp_u]
                refine ⟨c, m + 1, fun k => if k = m then t else d k, e1, hm, e3, ?_, fun k hk => ?_, fun k hk => ?_, fun k q1 q2 => ?_, fun q => absurd q c3⟩
                · show a.1 14 + 1 = nI (m + 1)
                  rw [e4, nI_1]
                · rw [hr]
                  by_cases ek : k = m
                  · simp [ek]
                  · simp only [ek, if_false]
                    exact e5 k (by omega)
                · by_cases ek : k + 1 = m
                  · have ek2 : ¬ k = m := by omega
                    simp only [ek, ek2, if_true, if_false]
                    exact (e5 k (by omega)).2
                  · have ek2 : ¬ k = m := by omega
                    simp only [ek, ek2, if_false]
                    exact e6 k (by omega)
                · rw [hr, if_neg (by omega)]
                  exact e7 k (by omega) q2
              · cases h2
          have hp := kp_perform h3
          have h34 : a3.1 4 = nI t := by
            rw [hp.1 4 rfl, hx.1.1 4 rfl]
            exact h4
          have hd3 : DoneI t a3 := DoneI_k hp (Or.inl (hp.1 3 rfl).symm) rfl rfl rfl hx.2
          have q := ih _ a3 a' h34 hd3 h
          exact ⟨kpt_t (kpt_t hx.1 (kpt_w hp fc_pI fc_pR)) q.1, q.2⟩
/-- the end of a person: it stands just where the person is out or hurt -/
def EndOne (s e : Int32) : Prop := ((s = 0 ∨ s = 1 ∨ s = 2) ∧ e = -1) ∨ ((s = 3 ∨ s = 4) ∧ ∃ d, d < 2 ^ 30 ∧ e = nI d)
def EndI (a : twS) : Prop := ∃ p, p ≤ 30 ∧ a.1 16 = nI p ∧ ∀ k, k < p → EndOne (a.2.1 22 k) (a.2.1 25 k)
def crR : Nat → Bool := fun j => j == 22 || j == 23 || j == 24 || j == 25
def Up (i : Nat) (a a' : twS) : Prop := kpt no crR a a' ∧ ∀ r j, j ≠ i → a'.2.1 r j = a.2.1 r j
theorem Up_r (i : Nat) (a : twS) : Up i a a := ⟨kpt_r _ _ _, fun _ _ _ => rfl⟩
theorem Up_t {i : Nat} {a b c : twS} (h1 : Up i a b) (h2 : Up i b c) : Up i a c := ⟨kpt_t h1.1 h2.1, fun r j q => (h2.2 r j q).trans (h1.2 r j q)⟩
theorem Up_a {i : Nat} (a : twS) (r : Nat) {v1 : Int32} (x : Int32) (hi : v1.toNatClampNeg = i) (hr : crR r = true) : Up i a (twA a r v1 x) := by
  refine ⟨kpt_a a r v1 x hr, fun r' j q => ?_⟩
  rw [tp_a2]
  by_cases e : r' = r
  · rw [if_pos e, e, tp_u, if_neg (by rw [hi]; exact q)]
  · rw [if_neg e]
theorem tp_aE (a : twS) (k : Nat) {v1 : Int32} {i : Nat} (hi : v1.toNatClampNeg = i) (v : Int32) : (twA a k v1 v).2.1 k i = v := by
  rw [tp_aa, if_pos hi.symm]
theorem tp_aO (a : twS) {k j : Nat} (h : j ≠ k) (v1 v : Int32) (i : Nat) : (twA a k v1 v).2.1 j i = a.2.1 j i := by
  rw [tp_ab a k v1 v h]
def low (s : Int32) : Prop := s = 0 ∨ s = 1 ∨ s = 2
theorem gn_48 {t i : Nat} {a a' : twS} {v1 : Int32} (hi : v1.toNatClampNeg = i) (ht : t < 2 ^ 30) (h : f_X3_goOn_L48 v1 (nI t) a = some a') : Up i a a' ∧ EndOne (a'.2.1 22 i) (a'.2.1 25 i) := by
  unfold f_X3_goOn_L48 at h
  split at h
  · rename_i hb
    try rw [if_pos hb, if_pos hb] at h
    cases h
    refine ⟨Up_t (Up_t (Up_a a 22 3 hi rfl) (Up_a _ 25 _ hi rfl)) (Up_a _ 23 _ hi rfl), Or.inr ⟨Or.inl ?_, t, ht, ?_⟩⟩
    · rw [tp_aO _ (by decide), tp_aO _ (by decide), tp_aE _ _ hi]
    · rw [tp_aO _ (by decide), tp_aE _ _ hi]
  · cases h
theorem gn_go {t i : Nat} {a a' : twS} {v1 : Int32} (hi : v1.toNatClampNeg = i) (ht : t < 2 ^ 30) (hs : low (a.2.1 22 i)) (he : a.2.1 25 i = -1) (h : f_X3_goOn a v1 (nI t) = some a') : Up i a a' ∧ EndOne (a'.2.1 22 i) (a'.2.1 25 i) := by
  unfold f_X3_goOn at h
  obtain ⟨y1, h1, h⟩ := tw_bd h
  have e1 := pu_person h1
  split at h
  · cases h
    rw [e1]
    exact ⟨Up_r _ _, Or.inl ⟨hs, he⟩⟩
  · split at h
    · rename_i hb
      obtain ⟨y4, h4, h⟩ := tw_bd h
      obtain ⟨y5, h5, h⟩ := tw_bd h
      have e4 := pu_near h4
      have e5 := pu_cmp h5
      have e : y5.2 = a := e5.trans (e4.trans e1)
      split at h
      · rw [e] at h
        exact gn_48 hi ht h
      · obtain ⟨y7, h7, h⟩ := tw_bd h
        have e7 := pu_seg h7
        have e' : y7.2 = a := e7.trans e
        split at h
        · rw [e'] at h
          exact gn_48 hi ht h
        · rw [e'] at h
          cases h
          refine ⟨Up_a a 23 _ hi rfl, Or.inl ⟨?_, ?_⟩⟩
          · rw [tp_aO _ (by decide)]
            exact hs
          · rw [tp_aO _ (by decide)]
            exact he
    · cases h
theorem gn_117 {t i : Nat} {a a' : twS} {v1 : Int32} (hi : v1.toNatClampNeg = i) (ht : t < 2 ^ 30) (hs : low (a.2.1 22 i)) (he : a.2.1 25 i = -1) (h : f_X3_liveOne_L117 v1 (nI t) a = some a') : Up i a a' ∧ EndOne (a'.2.1 22 i) (a'.2.1 25 i) := by
  unfold f_X3_liveOne_L117 at h
  obtain ⟨y, h1, h⟩ := tw_bd h
  cases h
  exact gn_go hi ht hs he h1
theorem gn_94 {t i : Nat} {a a' : twS} {v1 v4 : Int32} (hi : v1.toNatClampNeg = i) (ht : t < 2 ^ 30) (hs : low (a.2.1 22 i)) (he : a.2.1 25 i = -1) (h : f_X3_liveOne_L94 v1 (nI t) v4 a = some a') : Up i a a' ∧ EndOne (a'.2.1 22 i) (a'.2.1 25 i) := by
  have hr : Up i a a ∧ EndOne (a.2.1 22 i) (a.2.1 25 i) := ⟨Up_r _ _, Or.inl ⟨hs, he⟩⟩
  unfold f_X3_liveOne_L94 at h
  split at h
  · split at h
    · split at h
      · exact gn_117 hi ht hs he h
      · split at h
        · exact gn_117 hi ht hs he h
        · cases h
          exact hr
    · cases h
      exact hr
  · cases h
theorem gn_65 {t i : Nat} {a a' : twS} {v1 v4 : Int32} (hi : v1.toNatClampNeg = i) (ht : t < 2 ^ 30) (hs : low (a.2.1 22 i)) (he : a.2.1 25 i = -1) (h : f_X3_liveOne_L65 v1 (nI t) v4 a = some a') : Up i a a' ∧ EndOne (a'.2.1 22 i) (a'.2.1 25 i) := by
  unfold f_X3_liveOne_L65 at h
  split at h
  · rename_i hb
    split at h
    · try rw [if_pos hb] at h
      split at h
      · exact gn_94 hi ht hs he h
      · try rw [if_pos hb] at h
        have u := Up_a a 22 (v1 := v1) 2 hi rfl
        have q := gn_94 (a := twA a 22 v1 2) hi ht (by rw [tp_aE _ _ hi]; exact Or.inr (Or.inr rfl)) (by rw [tp_aO _ (by decide)]; exact he) h
        exact ⟨Up_t u q.1, q.2⟩
    · exact gn_94 hi ht hs he h
  · cases h
theorem gn_51 {t i : Nat} {a a' : twS} {v1 v4 : Int32} (hi : v1.toNatClampNeg = i) (ht : t < 2 ^ 30) (he : a.2.1 25 i = -1) (h : f_X3_liveOne_L51 v1 (nI t) v4 a = some a') : Up i a a' ∧ EndOne (a'.2.1 22 i) (a'.2.1 25 i) := by
  unfold f_X3_liveOne_L51 at h
  split at h
  · rename_i hb
    try rw [if_pos hb] at h
    have u := Up_t (Up_a a 22 (v1 := v1) 1 hi rfl) (Up_a (twA a 22 v1 1) 24 (v1 := v1) (nI t) hi rfl)
    have q := gn_65 (a := twA (twA a 22 v1 1) 24 v1 (nI t)) hi ht (by rw [tp_aO _ (by decide), tp_aE _ _ hi]; exact Or.inr (Or.inl rfl)) (by rw [tp_aO _ (by decide), tp_aO _ (by decide)]; exact he) h
    exact ⟨Up_t u q.1, q.2⟩
  · cases h
theorem gn_one {t i : Nat} {a a' : twS} {v1 v3 v4 : Int32} (hi : v1.toNatClampNeg = i) (ht : t < 2 ^ 30) (hs : low (a.2.1 22 i)) (he : a.2.1 25 i = -1) (h : f_X3_liveOne a v1 (nI t) v3 v4 = some a') : Up i a a' ∧ EndOne (a'.2.1 22 i) (a'.2.1 25 i) := by
  unfold f_X3_liveOne at h
  obtain ⟨y1, h1, h⟩ := tw_bd h
  have e1 := pu_person h1
  rw [e1] at h
  split at h
  · cases h
    exact ⟨Up_r _ _, Or.inl ⟨hs, he⟩⟩
  · split at h
    · split at h
      · split at h
        · split at h
          · split at h
            · exact gn_65 hi ht hs he h
            · exact gn_51 hi ht he h
          · exact gn_51 hi ht he h
        · exact gn_65 hi ht hs he h
      · cases h
    · split at h
      · rename_i hb
        try rw [if_pos hb] at h
        cases h
        refine ⟨Up_t (Up_a a 22 4 hi rfl) (Up_a _ 25 _ hi rfl), Or.inr ⟨Or.inr ?_, t, ht, ?_⟩⟩
        · rw [tp_aO _ (by decide), tp_aE _ _ hi]
        · rw [tp_aE _ _ hi]
      · cases h
theorem kp_liveL {t : Nat} (ht : t < 2 ^ 30) : ∀ (n : Nat) (v2 v5 : Int32) (a a' : twS), EndI a → f_X3_live_L3 n (nI t) v2 v5 a = some a' → kpt no crR a a' ∧ EndI a' := by
  intro n
  induction n with
  | zero => intro v2 v5 a a' hd h; cases h
  | succ n ih =>
    intro v2 v5 a a' hd h
    have h : f_X3_live_L3b (f_X3_live_L3 n) (nI t) v2 v5 a = some a' := h
    unfold f_X3_live_L3b at h
    split at h
    · cases h
      exact ⟨kpt_r _ _ _, hd⟩
    · rename_i c1
      split at h
      · cases h
        exact ⟨kpt_r _ _ _, hd⟩
      · split at h
        · rename_i hb
          split at h
          · exact ih _ _ _ _ hd h
          · rename_i n3
            try rw [if_pos hb] at h
            split at h
            · exact ih _ _ _ _ hd h
            · rename_i n4
              try rw [if_pos hb] at h
              obtain ⟨y, hy, h⟩ := tw_bd h
              obtain ⟨a2, h2, h⟩ := tw_bd h
              rw [pu_smoke hy] at h2
              obtain ⟨p, hp, h16, hall⟩ := hd
              obtain ⟨i, hi⟩ : ∃ i, v5.toNatClampNeg = i := ⟨_, rfl⟩
              have hip : i < p := by
                have c2 : ¬ nI p ≤ v5 := by rw [← h16]; exact c1
                have b2 : ¬ (v5 < 0 ∨ 30 ≤ v5.toNatClampNeg) := of_decide_eq_true hb
                rcases ix_or v5 (n := p) (by omega) with (q | q) | ⟨j, hj, q⟩
                · exact absurd (Or.inl q) b2
                · exact absurd q c2
                · rw [q, tp_c (by omega)] at hi
                  omega
              rw [hi] at n3 n4
              have hlow : low (a.2.1 22 i) ∧ a.2.1 25 i = -1 := by
                rcases hall i hip with q | q
                · exact q
                · rcases q.1 with q | q
                  · exact absurd q n3
                  · exact absurd q n4
              obtain ⟨u, ue⟩ := gn_one hi ht hlow.1 hlow.2 h2
              have hd2 : EndI a2 := by
                refine ⟨p, hp, (u.1.1 16 rfl).trans h16, fun k hk => ?_⟩
                by_cases ek : k = i
                · rw [ek]
                  exact ue
                · rw [u.2 22 k ek, u.2 25 k ek]
                  exact hall k hk
              have q := ih _ _ _ _ hd2 h
              exact ⟨kpt_t u.1 q.1, q.2⟩
        · cases h
theorem EndI_k {I R : Nat → Bool} {a a' : twS} (h : kpt I R a a') (h16 : I 16 = false) (h22 : R 22 = false) (h25 : R 25 = false) (hd : EndI a) : EndI a' := by
  obtain ⟨p, hp, e, hall⟩ := hd
  refine ⟨p, hp, (h.1 16 h16).trans e, fun k hk => ?_⟩
  rw [h.2 22 h22, h.2 25 h25]
  exact hall k hk
