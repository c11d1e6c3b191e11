/-! ===== the law's loop answers 1 ===== -/
theorem and31 (x : Int32) : ∃ Y, Y < 2 ^ 31 ∧ x &&& 2147483647 = nI Y := by
  refine ⟨(x &&& 2147483647).toBitVec.toNat, ?_, ?_⟩
  · rw [show (x &&& 2147483647).toBitVec = x.toBitVec &&& (2147483647 : Int32).toBitVec from rfl, BitVec.toNat_and]
    have h : (2147483647 : Int32).toBitVec.toNat = 2147483647 := by decide
    rw [h]
    have := Nat.and_le_right (n := x.toBitVec.toNat) (m := 2147483647)
    omega
  · apply Int32.toBitVec_inj.mp
    apply BitVec.eq_of_toNat_eq
    show _ = (Int32.ofNat _).toBitVec.toNat
    rw [Int32.toBitVec_ofNat', BitVec.toNat_ofNat, Nat.mod_eq_of_lt (BitVec.isLt _)]
theorem dr_ok {L i : Nat} (hL : L ≤ 260) (hi : i < 2 ^ 20) (xs : Nat → Int32) : ∃ Y, Y < 2 ^ 31 ∧ f_L_drawn L xs (nI i) = some (nI Y) := by
  unfold f_L_drawn
  by_cases c : L ≤ i
  · rw [if_pos (nI_le c (by omega))]
    obtain ⟨Y, hY, e⟩ := and31 (39119 * (nI i - nI i / 7919 * 7919) + 5077)
    exact ⟨Y, hY, by rw [e]⟩
  · have c2 : i < L := by omega
    rw [if_neg (nI_ge c2 (by omega)), if_pos (tp_b c2 (by omega))]
    obtain ⟨Y, hY, e⟩ := and31 (xs (nI i).toNatClampNeg)
    exact ⟨Y, hY, by rw [e]⟩
theorem div_c {Z d : Nat} {D : Int32} (hD : D = nI d) (hZ : Z < 2 ^ 31) (h0 : 0 < d) (hd : d < 2 ^ 31) : nI Z / D = nI (Z / d) := by
  rw [hD]
  exact pk_div hZ h0 hd
theorem rem_c {Z d : Nat} {D : Int32} (hD : D = nI d) (hZ : Z < 2 ^ 31) (h0 : 0 < d) (hd : d < 2 ^ 31) : nI Z - nI Z / D * D = nI (Z % d) := by
  rw [hD, pk_div hZ h0 hd, pk_mul]
  have q := Nat.div_add_mod Z d
  have e : Z / d * d = d * (Z / d) := Nat.mul_comm _ _
  rw [tp_sub (by omega), show Z - Z / d * d = Z % d by omega]
def okL (rec : Int32 → Int32 → Int32 → Int32 → Int32 → Int32 → Int32 → twS → Option (Int32 × twS)) (i t : Nat) (X : Option (Int32 × twS)) : Prop := ∃ a' t', X = rec (a'.1 16) (a'.1 13) (nI t') (a'.1 7) (a'.1 3) 1 (nI (i + 1)) a' ∧ TI t' a' ∧ t' ≤ t + 12
section OKL
variable {rec : Int32 → Int32 → Int32 → Int32 → Int32 → Int32 → Int32 → twS → Option (Int32 × twS)} {i t : Nat}
theorem okL_bs {α : Type} {x : Option α} {v : α} {f : α → Option (Int32 × twS)} (h : x = some v) (g : okL rec i t (f v)) : okL rec i t (x.bind f) := by
  rw [h]
  exact g
theorem okL_pos {c : Prop} {dc : Decidable c} {x y : Option (Int32 × twS)} (h : c) (g : okL rec i t x) : okL rec i t (if c then x else y) := by
  rw [if_pos h]
  exact g
theorem okL_neg {c : Prop} {dc : Decidable c} {x y : Option (Int32 × twS)} (h : ¬ c) (g : okL rec i t y) : okL rec i t (if c then x else y) := by
  rw [if_neg h]
  exact g
theorem gone_e (a : twS) : f_X7_gone a = some (a.1 7, a) := rfl
theorem alarm_e (a : twS) : f_X7_alarm a = some (a.1 3, a) := rfl
theorem fin_ok {L : Nat} {xs : Nat → Int32} {t' : Nat} {a : twS} {v2 v3 v4 v5 v6 : Int32} (ht : t' ≤ 4000) (h : TI t' a) (e2 : v2 = a.1 16) (e3 : v3 = a.1 13) (e4 : v4 = nI t') (hg : ¬ a.1 7 < v5) (hal : v6 < 0 ∨ a.1 3 = v6) (htt : t' ≤ t + 12) : okL rec i t (f_L_law_L629 L xs rec v2 v3 v4 v5 v6 1 (nI i) a) := by
  subst e2 e3 e4
  have h671 : okL rec i t (f_L_law_L671 L xs rec (a.1 16) (a.1 13) (nI t') (nI i) 1 a) := by
    unfold f_L_law_L671
    refine okL_bs (gone_e a) (okL_bs (alarm_e a) ⟨a, t', ?_, h, htt⟩)
    rw [tp_s]
  unfold f_L_law_L629
  refine okL_neg one0 (okL_bs (fits_ok ht h) (okL_neg one0 (okL_bs (gone_e a) (okL_neg hg ?_))))
  by_cases c : v6 < 0
  · exact okL_pos c h671
  · exact okL_neg c (okL_bs (alarm_e a) (okL_pos (hal.resolve_left c) h671))
theorem hg_r (x : Int32) : ¬ x < x := fun h => Int32.lt_irrefl h
theorem d01 (c : Prop) [Decidable c] : (0 : Int32) ≤ (if c then 0 else 1) := by
  split <;> decide
theorem hg_D {a a' : twS} (h : Dl a a') : ¬ a'.1 7 < a.1 7 := by
  obtain ⟨⟨l, l', h1, h2, h3, h4⟩, -⟩ := h
  rw [h3, h4]
  exact nI_nlt h1 (by omega)
theorem ha_D {a a' : twS} (h : Dl a a') : a.1 3 < 0 ∨ a'.1 3 = a.1 3 := by
  by_cases c : a.1 3 = -1
  · left
    rw [c]
    decide
  · exact Or.inr (h.2.1 c)
theorem c_le {K m : Nat} {D : Int32} (hD : D = nI m) (hK : K < 2 ^ 20) (h : m ≤ K) : D ≤ nI K := by
  rw [hD]
  exact nI_le h (by omega)
theorem c_nle {K m : Nat} {D : Int32} (hD : D = nI m) (hm : m < 2 ^ 20) (h : K < m) : ¬ D ≤ nI K := by
  rw [hD]
  exact nI_ge h (by omega)
theorem c_ne {K m : Nat} {D : Int32} (hD : D = nI m) (hm : m < 2 ^ 20) (hK : K < 2 ^ 20) (h : K ≠ m) : ¬ nI K = D := by
  rw [hD]
  exact fun q => h (nI_inj (by omega) (by omega) q)
theorem c_eq {K m : Nat} {D : Int32} (hD : D = nI m) (h : K = m) : nI K = D := by rw [hD, h]
theorem e3ne0 : ¬ twE3 = 0 := by decide
theorem e3v : twE3 = (-103 : Int32) := rfl
theorem e3le : twE3 ≤ 0 := by decide
/-- people -/
theorem t_people {L : Nat} {xs : Nat → Int32} {a : twS} (ht : t ≤ 3000) (h : TI t a) {Z : Nat} (hZ : Z < 2 ^ 31) : okL rec i t ((g_L_people a (nI Z - nI Z / 12 * 12) (1 + ((nI Z / 12) - (nI Z / 12) / 6 * 6))).bind fun y55023 => (if y55023.1 = (-103) then f_L_law_L136 L xs rec (a.1 16) (a.1 13) (nI t) (a.1 7) (a.1 3) (nI i) y55023.1 y55023.2 else (if y55023.1 = (a.1 16 + (1 + ((nI Z / 12) - (nI Z / 12) / 6 * 6))) then f_L_law_L136 L xs rec (a.1 16) (a.1 13) (nI t) (a.1 7) (a.1 3) (nI i) y55023.1 y55023.2 else f_L_law_L141 L xs rec (a.1 16) (a.1 13) (nI t) (a.1 7) (a.1 3) (nI i) y55023.1 0 y55023.2))) := by
  have e1 : nI Z - nI Z / 12 * 12 = nI (Z % 12) := rem_c (d := 12) rfl hZ (by decide) (by decide)
  have e2 : nI Z / 12 = nI (Z / 12) := div_c (d := 12) rfl hZ (by decide) (by decide)
  have e3 : nI (Z / 12) - nI (Z / 12) / 6 * 6 = nI (Z / 12 % 6) := rem_c (d := 6) rfl (by omega) (by decide) (by decide)
  have e4 : 1 + nI (Z / 12 % 6) = nI (1 + Z / 12 % 6) := nI_add 1 _
  rw [e1, e2, e3, e4]
  obtain ⟨v, a', f1, f2, f3, f4, f5⟩ := tc_people (t := t) (by omega) h (j := Z % 12) (m := 1 + Z / 12 % 6) (by omega) (by omega) (by omega)
  refine okL_bs f1 ?_
  have fin : ∀ w : Int32, w = a'.1 16 → okL rec i t (f_L_law_L629 L xs rec w (a.1 13) (nI t) (a.1 7) (a.1 3) 1 (nI i) a') := fun w hw => fin_ok (t' := t) (by omega) f3 hw f5.symm rfl (by rw [f4.1]; exact hg_r _) (Or.inr f4.2) (by omega)
  have h136 : okL rec i t (f_L_law_L136 L xs rec (a.1 16) (a.1 13) (nI t) (a.1 7) (a.1 3) (nI i) v a') := by
    unfold f_L_law_L136 f_L_law_L141 f_L_law_L154
    rcases f2 with ⟨g1, g2⟩ | ⟨g1, g2, g3⟩
    · refine okL_pos (by rw [g1]; exact e3le) (fin _ g2.symm)
    · refine okL_neg (Int32.not_le.mpr g3) (fin _ g2.symm)
  by_cases c : v = -103
  · exact okL_pos c h136
  · refine okL_neg c ?_
    rcases f2 with ⟨g1, g2⟩ | ⟨g1, g2⟩
    · exact absurd (g1.trans e3v) c
    · exact okL_pos g1 h136
theorem t_wind {L : Nat} {xs : Nat → Int32} {a : twS} (ht : t ≤ 3000) (h : TI t a) {Z : Nat} (hZ : Z < 2 ^ 31) : okL rec i t ((f_L_wind a ((nI Z - nI Z / 81 * 81) - 40)).bind fun y => (if y.1 < (-40) then f_L_law_L186 L xs rec (a.1 16) (a.1 13) (nI t) (a.1 7) (a.1 3) (nI i) 0 y.2 else f_L_law_L186 L xs rec (a.1 16) (a.1 13) (nI t) (a.1 7) (a.1 3) (nI i) 1 y.2)) := by
  rw [rem_c (Z := Z) (D := 81) (d := 81) rfl hZ (by decide) (by decide)]
  obtain ⟨v, a', f1, f2, f3, f4, f5, f6⟩ := tc_wind (t := t) (by omega) h (z := Z % 81) (by omega)
  refine okL_bs f1 (okL_neg f2 ?_)
  unfold f_L_law_L186
  exact fin_ok (t' := t) (by omega) f3 f5.symm f6.symm rfl (by rw [f4.1]; exact hg_r _) (Or.inr f4.2) (by omega)
theorem t_fire {L : Nat} {xs : Nat → Int32} {a : twS} (ht : t ≤ 3000) (h : TI t a) {Z : Nat} (hZ : Z < 2 ^ 31) : okL rec i t ((g_L_fire a (nI Z - nI Z / 12 * 12) (1 + ((nI Z / 12) - (nI Z / 12) / 200 * 200))).bind fun y => (if y.1 = 0 then f_L_law_L231 L xs rec (a.1 16) (a.1 13) (nI t) (a.1 7) (a.1 3) (nI i) y.2 else (if y.1 = (-103) then f_L_law_L231 L xs rec (a.1 16) (a.1 13) (nI t) (a.1 7) (a.1 3) (nI i) y.2 else f_L_law_L236 L xs rec (a.1 16) (a.1 13) (nI t) (a.1 7) (a.1 3) (nI i) 0 y.2))) := by
  have e1 : nI Z - nI Z / 12 * 12 = nI (Z % 12) := rem_c (d := 12) rfl hZ (by decide) (by decide)
  have e2 : nI Z / 12 = nI (Z / 12) := div_c (d := 12) rfl hZ (by decide) (by decide)
  have e3 : nI (Z / 12) - nI (Z / 12) / 200 * 200 = nI (Z / 12 % 200) := rem_c (d := 200) rfl (by omega) (by decide) (by decide)
  have e4 : 1 + nI (Z / 12 % 200) = nI (1 + Z / 12 % 200) := nI_add 1 _
  rw [e1, e2, e3, e4]
  obtain ⟨v, a', f1, f2, f3, f4, f5, f6⟩ := tc_fire (t := t) h (j := Z % 12) (z := 1 + Z / 12 % 200) (by omega) (by omega) (by omega)
  refine okL_bs f1 ?_
  have h231 : okL rec i t (f_L_law_L231 L xs rec (a.1 16) (a.1 13) (nI t) (a.1 7) (a.1 3) (nI i) a') := by
    unfold f_L_law_L231 f_L_law_L236
    exact fin_ok (t' := t) (by omega) f3 f5.symm f6.symm rfl (by rw [f4.1]; exact hg_r _) (Or.inr f4.2) (by omega)
  rcases f2 with rfl | rfl
  · exact okL_pos rfl h231
  · exact okL_neg e3ne0 (okL_pos e3v h231)
theorem t_feed {L : Nat} {xs : Nat → Int32} {a : twS} (ht : t ≤ 3000) (h : TI t a) {Z : Nat} (hZ : Z < 2 ^ 31) (k : Int32) : okL rec i t (f_L_law_L266 L xs rec (a.1 16) (a.1 13) (nI t) (a.1 7) (a.1 3) (nI i) (nI Z) k (nI Z - nI Z / 2 * 2) a) := by
  rw [rem_c (Z := Z) (D := 2) (d := 2) rfl hZ (by decide) (by decide)]
  obtain ⟨v, a1, f1, f2, f3, f4, f5, f6⟩ := tc_feed (t := t) h (j := Z % 2) (by omega) k
  unfold f_L_law_L266
  refine okL_bs f1 (okL_neg f2 ?_)
  have h292 : ∀ k0 : Int32, okL rec i t (f_L_law_L292 L xs rec (a.1 16) (a.1 13) (nI t) (a.1 7) (a.1 3) (nI i) k0 (nI Z - nI Z / 3 * 3) a1) := fun k0 => by
    rw [rem_c (Z := Z) (D := 3) (d := 3) rfl hZ (by decide) (by decide)]
    obtain ⟨w, a2, g1, g2, g3, g4, g5, g6⟩ := tc_failFan (t := t) (by omega) f3 (j := Z % 3) (by omega) k0
    unfold f_L_law_L292
    refine okL_bs g1 (okL_neg g2 ?_)
    unfold f_L_law_L304
    exact fin_ok (t' := t) (by omega) g3 (g5.trans f5).symm (g6.trans f6).symm rfl (by rw [g4.1, f4.1]; exact hg_r _) (Or.inr (g4.2.trans f4.2)) (by omega)
  split
  · exact h292 1
  · exact h292 0
theorem t_door {L : Nat} {xs : Nat → Int32} {a : twS} (ht : t ≤ 3000) (h : TI t a) {Z : Nat} (hZ : Z < 2 ^ 31) (k : Int32) (hk : k = 0 ∨ k = 1) : okL rec i t (f_L_law_L337 L xs rec (a.1 16) (a.1 13) (nI t) (a.1 7) (a.1 3) (nI i) (nI Z) k (nI Z - nI Z / 12 * 12) a) := by
  have e1 : nI Z - nI Z / 12 * 12 = nI (Z % 12) := rem_c (d := 12) rfl hZ (by decide) (by decide)
  have hj : Z % 12 < 12 := by omega
  obtain ⟨a1, f1, f2, f3, f4, f5, f6⟩ := tc_failDoor (t := t) h (j := Z % 12) hj k hk
  have h403 : ∀ k0 : Int32, okL rec i t (f_L_law_L403 L xs rec (a.1 16) (a.1 13) (nI t) (a.1 7) (a.1 3) (nI i) k0 (nI Z / 24 - nI Z / 24 / 3 * 3) (nI (Z % 12)) a1) := fun k0 => by
    have e2 : nI Z / 24 = nI (Z / 24) := div_c (d := 24) rfl hZ (by decide) (by decide)
    rw [e2, rem_c (Z := Z / 24) (D := 3) (d := 3) rfl (by omega) (by decide) (by decide)]
    obtain ⟨a2, g1, g2, g3, g4, g5⟩ := tc_failDet (t := t) f3 (j := Z % 12) (i := Z / 24 % 3) hj (by omega) k0
    unfold f_L_law_L403
    refine okL_bs g1 (okL_pos rfl ?_)
    unfold f_L_law_L414
    exact fin_ok (t' := t) (by omega) g2 (g4.trans f5).symm (g5.trans f6).symm rfl (by rw [g3.1, f4.1]; exact hg_r _) (Or.inr (g3.2.trans f4.2)) (by omega)
  have h372 : ∀ x : Int32, okL rec i t (f_L_law_L372 L xs rec (a.1 16) (a.1 13) (nI t) (a.1 7) (a.1 3) (nI i) (nI Z) x x a1) := fun x => by
    unfold f_L_law_L372
    refine okL_pos rfl ?_
    rw [e1]
    split
    · exact h403 1
    · exact h403 0
  unfold f_L_law_L337
  rw [e1]
  refine okL_bs f1 (okL_bs (tc_seg4 a1 hj) ?_)
  rw [f2]
  unfold dooB dooA
  by_cases c : a.2.1 16 (Z % 12) = 0
  · rw [if_pos c, if_pos c]
    exact okL_neg (show ¬ (0 : Int32) ≤ -1 by decide) (h372 twE1)
  · rw [if_neg c, if_neg c]
    refine okL_pos (d01 (a.2.1 17 (Z % 12) = 0)) (okL_bs (tc_seg4 a1 hj) ?_)
    rw [f2]
    unfold dooB
    rw [if_neg c]
    exact h372 _
theorem t_act {L : Nat} {xs : Nat → Int32} {a : twS} (ht : t ≤ 3000) (h : TI t a) {Z : Nat} (hZ : Z < 2 ^ 31) (k : Int32) : okL rec i t (f_L_law_L455 L xs rec (a.1 16) (a.1 13) (nI t) (a.1 7) (a.1 3) (nI i) k ((nI Z / 8) - (nI Z / 8) / 6 * 6) (nI Z - nI Z / 8 * 8) a) := by
  have e2 : nI Z / 8 = nI (Z / 8) := div_c (d := 8) rfl hZ (by decide) (by decide)
  rw [rem_c (Z := Z) (D := 8) (d := 8) rfl hZ (by decide) (by decide), e2, rem_c (Z := Z / 8) (D := 6) (d := 6) rfl (by omega) (by decide) (by decide)]
  obtain ⟨v, a', f1, f2, f3, f4, f5⟩ := tc_act (t := t) (by omega) h (z := Z % 8) (y := Z / 8 % 6) (by omega) (by omega) k
  unfold f_L_law_L455
  refine okL_bs f1 ?_
  have h473 : okL rec i t (f_L_law_L473 L xs rec (a.1 16) (a.1 13) (nI t) (a.1 7) (a.1 3) (nI i) v a') := by
    unfold f_L_law_L473 f_L_law_L478 f_L_law_L491
    have fin : ∀ w : Int32, w = a'.1 13 → okL rec i t (f_L_law_L629 L xs rec (a.1 16) w (nI t) (a.1 7) (a.1 3) 1 (nI i) a') := fun w hw => fin_ok (t' := t) (by omega) f3 f5.symm hw rfl (by rw [f4.1]; exact hg_r _) (Or.inr f4.2) (by omega)
    rcases f2 with ⟨g1, g2⟩ | ⟨g1, g2, g3⟩
    · refine okL_pos (by rw [g1]; decide) (fin _ ?_)
      rw [g2]
      exact Int32.add_zero _
    · exact okL_neg g3 (fin _ g2.symm)
  rcases f2 with ⟨g1, g2⟩ | ⟨g1, g2⟩
  · by_cases c : v = a.1 13
    · exact okL_pos c h473
    · exact okL_neg c (okL_pos (g1.trans e3v) h473)
  · exact okL_pos g1 h473
theorem t_cmd {L : Nat} {xs : Nat → Int32} {a : twS} (ht : t ≤ 3000) (h : TI t a) {Z : Nat} (hZ : Z < 2 ^ 31) : okL rec i t ((f_L_command a (nI Z - nI Z / 3 * 3) (((nI Z / 3) - (nI Z / 3) / 3 * 3) - 1)).bind fun y => (if y.1 < (-1) then f_L_law_L528 L xs rec (a.1 16) (a.1 13) (nI t) (a.1 7) (a.1 3) (nI i) 0 y.2 else f_L_law_L528 L xs rec (a.1 16) (a.1 13) (nI t) (a.1 7) (a.1 3) (nI i) 1 y.2)) := by
  have e2 : nI Z / 3 = nI (Z / 3) := div_c (d := 3) rfl hZ (by decide) (by decide)
  rw [rem_c (Z := Z) (D := 3) (d := 3) rfl hZ (by decide) (by decide), e2, rem_c (Z := Z / 3) (D := 3) (d := 3) rfl (by omega) (by decide) (by decide)]
  obtain ⟨v, a', f1, f2, f3, f4, f5, f6⟩ := tc_command (t := t) (by omega) h (j := Z % 3) (i := Z / 3 % 3) (by omega) (by omega)
  refine okL_bs f1 (okL_neg f2 ?_)
  unfold f_L_law_L528
  exact fin_ok (t' := t) (by omega) f3 f5.symm f6.symm rfl (by rw [f4.1]; exact hg_r _) (Or.inr f4.2) (by omega)
theorem t_step {L : Nat} {xs : Nat → Int32} {a : twS} (ht : t ≤ 3000) (h : TI t a) {Z m : Nat} (hZ : Z < 2 ^ 31) (hm : 1 ≤ m) (hm2 : m ≤ 12) : okL rec i t (f_L_law_L566 L xs rec (a.1 16) (a.1 13) (nI t) (a.1 7) (a.1 3) (nI i) (nI Z) (a.2.1 11 (Z % 3)) (nI m) a) := by
  obtain ⟨a', f1, f2, f3, f4⟩ := tc_step (t := t) ht h hm hm2
  have h622 : okL rec i t (f_L_law_L622 L xs rec (a.1 16) (a.1 13) (nI t + nI m) (a.1 7) (a.1 3) (nI i) a') := by
    unfold f_L_law_L622 f_L_law_L627
    exact fin_ok (t' := t + m) (by omega) f2 f3.2.2.1.symm f3.2.2.2.symm (nI_add t m) (hg_D f3) (ha_D f3) (by omega)
  unfold f_L_law_L566
  refine okL_bs f1 (okL_pos (nI_add t m).symm ?_)
  by_cases c : 1 < m
  · exact okL_pos (nI_lt (a := 1) (b := m) c (by omega)) h622
  · have e : m = 1 := by omega
    have hn := f4 e (Z % 3) (by omega)
    refine okL_neg (nI_nlt (a := 1) (b := m) (by omega) (by decide)) ?_
    rw [rem_c (Z := Z) (D := 3) (d := 3) rfl hZ (by decide) (by decide)]
    refine okL_bs (tc_fan a' (by omega)) (okL_neg hn.1 (okL_bs (tc_fan a' (by omega)) (okL_neg hn.2 h622)))
end OKL
