/-! ===== the whole law answers 1 ===== -/
section OKT
variable {rec : Int32 → Int32 → Int32 → Int32 → Int32 → Int32 → Int32 → twS → Option (Int32 × twS)} {i t : Nat}
theorem t_turn {L : Nat} (hL : L ≤ 260) (xs : Nat → Int32) {a : twS} (hi : i < 34) (ht : t ≤ 3000) (h : TI t a) : okL rec i t (f_L_law_L55b L xs rec (a.1 16) (a.1 13) (nI t) (a.1 7) (a.1 3) 1 (nI i) a) := by
  obtain ⟨Y, hY, hd⟩ := dr_ok (L := L) (i := i) hL (by omega) xs
  unfold f_L_law_L55b
  refine okL_neg (c_nle (m := 34) rfl (by decide) hi) (okL_neg one0 (okL_bs hd ?_))
  have ek : nI Y - nI Y / 16 * 16 = nI (Y % 16) := rem_c (d := 16) rfl hY (by decide) (by decide)
  have ez : nI Y / 16 = nI (Y / 16) := div_c (d := 16) rfl hY (by decide) (by decide)
  have hZ : Y / 16 < 2 ^ 31 := by omega
  have hK : Y % 16 < 16 := by omega
  rw [ek, ez]
  generalize Y / 16 = Z at *
  generalize Y % 16 = K at *
  by_cases k2 : K < 2
  · exact okL_neg (c_nle (m := 2) rfl (by decide) k2) (t_people ht h hZ)
  · refine okL_pos (c_le (m := 2) rfl (by omega) (by omega)) ?_
    by_cases k3 : K = 2
    · exact okL_pos (c_eq (m := 2) rfl k3) (t_wind ht h hZ)
    · refine okL_neg (c_ne (m := 2) rfl (by decide) (by omega) k3) ?_
      by_cases k5 : K < 5
      · exact okL_neg (c_nle (m := 5) rfl (by decide) k5) (t_fire ht h hZ)
      · refine okL_pos (c_le (m := 5) rfl (by omega) (by omega)) ?_
        by_cases k6 : K = 5
        · refine okL_pos (c_eq (m := 5) rfl k6) ?_
          split
          · exact t_feed ht h hZ 0
          · exact t_feed ht h hZ 1
        · refine okL_neg (c_ne (m := 5) rfl (by decide) (by omega) k6) ?_
          by_cases k7 : K = 6
          · refine okL_pos (c_eq (m := 6) rfl k7) ?_
            split
            · exact t_door ht h hZ 1 (Or.inr rfl)
            · exact t_door ht h hZ 0 (Or.inl rfl)
          · refine okL_neg (c_ne (m := 6) rfl (by decide) (by omega) k7) ?_
            by_cases k9 : K < 9
            · refine okL_neg (c_nle (m := 9) rfl (by decide) k9) ?_
              split
              · exact t_act ht h hZ 1
              · exact t_act ht h hZ 0
            · refine okL_pos (c_le (m := 9) rfl (by omega) (by omega)) ?_
              by_cases k10 : K = 9
              · exact okL_pos (c_eq (m := 9) rfl k10) (t_cmd ht h hZ)
              · refine okL_neg (c_ne (m := 9) rfl (by decide) (by omega) k10) ?_
                rw [rem_c (Z := Z) (D := 3) (d := 3) rfl hZ (by decide) (by decide)]
                refine okL_bs (tc_fan a (by omega)) ?_
                split
                · rw [div_c (Z := Z) (D := 9) (d := 9) rfl hZ (by decide) (by decide), rem_c (Z := Z / 9) (D := 12) (d := 12) rfl (by omega) (by decide) (by decide), show (1 : Int32) + nI (Z / 9 % 12) = nI (1 + Z / 9 % 12) from nI_add 1 _]
                  exact t_step ht h hZ (by omega) (by omega)
                · exact t_step (m := 1) ht h hZ (by omega) (by omega)
end OKT
theorem t_loop {L : Nat} (hL : L ≤ 260) (xs : Nat → Int32) : ∀ (j i t f : Nat) (a : twS), i + j = 34 → 2 ≤ i → j < f → t ≤ 12 * (i - 2) → TI t a → ∃ res, f_L_law_L55 L xs f (a.1 16) (a.1 13) (nI t) (a.1 7) (a.1 3) 1 (nI i) a = some res ∧ res.1 = 1 := by
  intro j
  induction j with
  | zero =>
    intro i t f a hi h2 hf ht h
    obtain ⟨f, rfl⟩ : ∃ x, f = x + 1 := ⟨f - 1, by omega⟩
    refine ⟨(1, a), ?_, rfl⟩
    show f_L_law_L55b L xs (f_L_law_L55 L xs f) _ _ _ _ _ _ _ a = _
    unfold f_L_law_L55b
    exact if_pos (c_le (m := 34) rfl (by omega) (by omega))
  | succ j ih =>
    intro i t f a hi h2 hf ht h
    obtain ⟨f, rfl⟩ : ∃ x, f = x + 1 := ⟨f - 1, by omega⟩
    obtain ⟨a', t', e, h', ht'⟩ := t_turn (rec := f_L_law_L55 L xs f) (i := i) (t := t) hL xs (by omega) (by omega) h
    obtain ⟨res, r1, r2⟩ := ih (i + 1) t' f a' (by omega) (by omega) (by omega) (by omega) h'
    exact ⟨res, e.trans r1, r2⟩
theorem tq_all {L : Nat} (hL : L ≤ 260) (xs : Nat → Int32) : ∃ res, f_L_law8 L xs twT0 = some res ∧ res.1 = 1 := by
  obtain ⟨Y0, hY0, h0⟩ := dr_ok (L := L) (i := 0) hL (by omega) xs
  obtain ⟨Y1, hY1, h1⟩ := dr_ok (L := L) (i := 1) hL (by omega) xs
  obtain ⟨a', f1, f2, f3, f4, f5⟩ := tc_build TI_0 (z := Y0 % 4096) (j := Y1 % 12) (by omega) (by omega)
  obtain ⟨res, r1, r2⟩ := t_loop hL xs 32 2 0 40 a' (by omega) (by omega) (by omega) (by omega) f2
  refine ⟨res, ?_, r2⟩
  unfold f_L_law8
  refine bs h0 (bs h1 ?_)
  rw [rem_c (Z := Y0) (D := 4096) (d := 4096) rfl hY0 (by decide) (by decide), rem_c (Z := Y1) (D := 12) (d := 12) rfl hY1 (by decide) (by decide)]
  refine bs f1 ((if_pos rfl).trans ?_)
  rw [f4, f5, f3.1, f3.2] at r1
  exact r1
