/-! ===== the calls of the law keep all of it ===== -/
theorem kI_g {t : Nat} {a b a' : twS} {w : Nat → Int64} {W : Nat → Int64} {Y : Option (Int32 × twS)} (h : kI t a b w (some (0, (a', W))) Y) (h4 : a'.1 4 = nI t) (ht : t < 2 ^ 30) : ∃ b', twR t (t, 0) a' b' := by
  rcases h with ⟨c, v, hc, e, -⟩ | ⟨v, a1, b1, t1, e, -, -, h1, h2, hR⟩
  · cases e
    exact absurd rfl hc
  · cases e
    have e4 : nI t = nI t1 := h4.symm.trans hR.2.2.2.2.2.2.2.2.1
    have e5 : t = t1 := nI_inj (by omega) (by omega) e4
    rw [← e5] at hR
    exact ⟨b1, hR⟩
theorem kV_g {t : Nat} {a b a' : twS} {w : Nat → Int64} {W : Nat → Int64} {Y : Option twS} (h : kV t a b w (some (0, (a', W))) Y) : ∃ b', twR t (t, 0) a' b' := by
  rcases h with ⟨c, hc, e, -⟩ | ⟨a1, b1, e, -, -, hR⟩
  · cases e
    exact absurd rfl hc
  · cases e
    exact ⟨b1, hR⟩
theorem kZ_g {t : Nat} {a b a' : twS} {w : Nat → Int64} {W : Nat → Int64} {Y : Option (Int32 × twS)} (h : kZ t a b w (some (0, (a', W))) Y) : ∃ b', twR t (t, 0) a' b' := by
  rcases h with ⟨c, v, hc, e, -⟩ | ⟨v, a1, b1, e, -, -, hR⟩
  · cases e
    exact absurd rfl hc
  · cases e
    exact ⟨b1, hR⟩
theorem TI_k {t : Nat} {I R : Nat → Bool} {a a' b' : twS} {g : Int32} (h : TI t a) (hR : twR t (t, g) a' b') (k : kpt I R a a') (h3 : I 3 = false) (h7 : I 7 = false) (h12 : I 12 = false) (h13 : I 13 = false) (h14 : I 14 = false) (h16 : I 16 = false) (r13 : R 13 = false) (r14 : R 14 = false) (r21 : R 21 = false) (r22 : R 22 = false) (r25 : R 25 = false) : TI t a' := by
  obtain ⟨b, g0, l, -, hA, hE, hD⟩ := h
  exact ⟨b', g, l, hR, AirI_k k h7 h12 r13 r14 hA, EndI_k k h16 r22 r25 hE, DoneI_k k (Or.inl (k.1 3 h3).symm) h13 h14 r21 hD⟩
/-- what a call that is no step leaves -/
def Ck (a a' : twS) : Prop := a'.1 7 = a.1 7 ∧ a'.1 3 = a.1 3
theorem Ck_r (a : twS) : Ck a a := ⟨rfl, rfl⟩
theorem TI_4 {t : Nat} {a : twS} (h : TI t a) : a.1 4 = nI t := by
  obtain ⟨b, g, l, hR, -⟩ := h
  exact hR.2.2.2.2.2.2.2.2.1
theorem wd_in : ∀ z, z < 81 → ¬ ((nI z - 40) < -40 ∨ (40 : Int32) < (nI z - 40)) := by decide +kernel
theorem wd_lo : ∀ z, z < 81 → ¬ ((nI z - 40) < -40) := by decide +kernel
theorem tc_wind {t : Nat} (ht : t ≤ 4000) {a : twS} (h : TI t a) {z : Nat} (hz : z ≤ 80) : ∃ v a', f_L_wind a (nI z - 40) = some (v, a') ∧ ¬ (v < -40) ∧ TI t a' ∧ Ck a a' ∧ a'.1 16 = a.1 16 ∧ a'.1 13 = a.1 13 := by
  have h0 := h
  obtain ⟨b, g, l, hR, -⟩ := h
  have hF : f_X7_wind a (nI z - 40) = some (.inr (a.1 5, twI a 5 (nI z - 40))) := by
    unfold f_X7_wind
    rw [rr_y a (wd_in z (by omega))]
    rfl
  have q := q_wind hR (fun _ => 0) (nI z - 40)
  unfold h_L_wind at q
  rw [hF] at q
  simp only [Option.bind_some] at q
  obtain ⟨b', hb⟩ := kI_g q (show a.1 4 = nI t from TI_4 h0) (by omega)
  refine ⟨a.1 5, twI a 5 (nI z - 40), ?_, ?_, TI_k (I := is1 5) (R := no) h0 hb (kpt_i a 5 _ rfl) rfl rfl rfl rfl rfl rfl rfl rfl rfl rfl rfl, ⟨rfl, rfl⟩, rfl, rfl⟩
  · unfold f_L_wind
    rw [hF]
    rfl
  · obtain ⟨y, hy, e⟩ := hR.2.1.2.2.1
    rw [e]
    exact wd_lo y (by omega)
theorem sz_in : ∀ z, 1 ≤ z → z ≤ 200 → ¬ (nI z < 1 ∨ (200 : Int32) < nI z) := by
  intro z h1 h2
  rintro (q | q)
  · exact nI_nlt (a := z) (b := 1) h1 (by omega) q
  · exact nI_nlt (a := 200) (b := z) h2 (by decide) q
theorem tc_fire {t : Nat} {a : twS} (h : TI t a) {j z : Nat} (hj : j < 12) (hz : 1 ≤ z) (hz2 : z ≤ 200) : ∃ v a', g_L_fire a (nI j) (nI z) = some (v, a') ∧ (v = 0 ∨ v = twE3) ∧ TI t a' ∧ Ck a a' ∧ a'.1 16 = a.1 16 ∧ a'.1 13 = a.1 13 := by
  have h0 := h
  obtain ⟨b, g, l, hR, -⟩ := h
  have c2 := sz_in z hz hz2
  by_cases c3 : a.1 8 = -1
  · have hF : f_X7_fire a (nI j) (nI z) = some (.inr (twI (twI a 8 (nI j)) 9 (nI z))) := by
      unfold f_X7_fire
      rw [rs_y a hj]
      simp only [Option.bind_some, twTry]
      rw [rr_y a c2]
      unfold f_X1_isBurning f_X7_fire_L27
      simp only [Option.bind_some]
      rw [if_pos c3]
      simp only [Option.bind_some]
      rw [if_pos trivial, rst1]
      rfl
    have q := q_fire hR (fun _ => 0) (nI j) (nI z)
    unfold h_L_fire at q
    rw [hF] at q
    simp only [Option.bind_some] at q
    obtain ⟨b', hb⟩ := kV_g q
    refine ⟨0, _, ?_, Or.inl rfl, TI_k (I := fun j => j == 8 || j == 9) (R := no) h0 hb (kpt_t (kpt_i a 8 _ rfl) (kpt_i _ 9 _ rfl)) rfl rfl rfl rfl rfl rfl rfl rfl rfl rfl rfl, ⟨rfl, rfl⟩, rfl, rfl⟩
    unfold g_L_fire
    rw [hF]
    rfl
  · have hF : f_X7_fire a (nI j) (nI z) = some (.inl (twX3, a)) := by
      unfold f_X7_fire
      rw [rs_y a hj]
      simp only [Option.bind_some, twTry]
      rw [rr_y a c2]
      unfold f_X1_isBurning f_X7_fire_L27
      simp only [Option.bind_some]
      rw [if_neg c3]
      simp only [Option.bind_some]
      rw [if_neg one0, rst0]
      rfl
    refine ⟨twE3, a, ?_, Or.inr rfl, h0, Ck_r a, rfl, rfl⟩
    unfold g_L_fire
    rw [hF]
    simp only [Option.bind_some]
    rw [if_neg e31, if_neg e32, if_pos trivial]
theorem tc_feed {t : Nat} {a : twS} (h : TI t a) {j : Nat} (hj : j < 2) (k : Int32) : ∃ v a', f_L_feed a (nI j) k = some (v, a') ∧ ¬ (v < 0) ∧ TI t a' ∧ Ck a a' ∧ a'.1 16 = a.1 16 ∧ a'.1 13 = a.1 13 := by
  have h0 := h
  obtain ⟨b, g, l, hR, -⟩ := h
  have hb : twb (nI j) 2 = true := tp_b hj (by decide)
  have hF : ∃ x, f_X7_feed a (nI j) k = some (.inr (pw ((twA a 8 (nI j) x).2.1 8), twA a 8 (nI j) x)) := by
    have h19 : ∀ k0 : Int32, f_X7_feed_L19 k0 (nI j) a = some (.inr (pw ((twA a 8 (nI j) (vp_nar .boolean k0)).2.1 8), twA a 8 (nI j) (vp_nar .boolean k0))) := fun k0 => by
      have hz : twz (pw ((twA a 8 (nI j) (vp_nar .boolean k0)).2.1 8)) = true := by
        unfold pw
        split
        · decide
        · split <;> decide
      unfold f_X7_feed_L19
      rw [if_pos hb, tp_pwT]
      simp only [Option.bind_some]
      rw [if_pos hz]
    unfold f_X7_feed
    rw [ri2_y a hj]
    simp only [Option.bind_some, twTry]
    by_cases ck : k = 0
    · rw [if_pos ck]
      exact ⟨_, h19 1⟩
    · rw [if_neg ck]
      exact ⟨_, h19 0⟩
  obtain ⟨x, hF⟩ := hF
  have q := q_feed hR (fun _ => 0) (nI j) k
  unfold h_L_feed at q
  rw [hF] at q
  simp only [Option.bind_some] at q
  have hb' : ∃ b', twR t (t, 0) (twA a 8 (nI j) x) b' := by
    split at q
    · exact kZ_g q
    · exact kZ_g q
  obtain ⟨b', hb'⟩ := hb'
  have hT := TI_k (I := no) (R := is1 8) h0 hb' (kpt_a a 8 _ _ rfl) rfl rfl rfl rfl rfl rfl rfl rfl rfl rfl rfl
  by_cases e : pw ((twA a 8 (nI j) x).2.1 8) = 0
  · refine ⟨0, _, ?_, by decide, hT, ⟨rfl, rfl⟩, rfl, rfl⟩
    unfold f_L_feed
    rw [hF]
    simp only [Option.bind_some]
    rw [if_pos e]
  · refine ⟨1, _, ?_, by decide, hT, ⟨rfl, rfl⟩, rfl, rfl⟩
    unfold f_L_feed
    rw [hF]
    simp only [Option.bind_some]
    rw [if_neg e]
theorem tri_lo {x : Int32} (h : tri x) : ¬ (x < -1) := by
  rcases h with rfl | rfl | rfl <;> decide
theorem tc_failFan {t : Nat} (ht : t ≤ 4000) {a : twS} (h : TI t a) {j : Nat} (hj : j < 3) (k : Int32) : ∃ v a', f_L_failFan a (nI j) k = some (v, a') ∧ ¬ (v < -1) ∧ TI t a' ∧ Ck a a' ∧ a'.1 16 = a.1 16 ∧ a'.1 13 = a.1 13 := by
  have h0 := h
  obtain ⟨b, g, l, hR, -⟩ := h
  have hb : twb (nI j) 3 = true := tp_b hj (by decide)
  have hc : (nI j).toNatClampNeg = j := tp_c (by omega)
  have hF : f_X7_failFan a (nI j) k = some (.inr (a.2.1 11 j, twA a 12 (nI j) (vp_nar .boolean k))) := by
    unfold f_X7_failFan
    rw [ri3_y a hj]
    simp only [Option.bind_some, twTry]
    unfold f_X5_setFailing f_X5_stateOf
    rw [fa_y a hj]
    simp only [Option.bind_some]
    rw [if_neg one0, if_pos hb]
    simp only [Option.bind_some]
    rw [fa_y _ hj]
    simp only [Option.bind_some]
    rw [if_neg one0, if_pos hb, hc]
    rfl
  have q := q_failFan hR (fun _ => 0) (nI j) k
  unfold h_L_failFan at q
  rw [hF] at q
  simp only [Option.bind_some] at q
  obtain ⟨b', hb'⟩ := kI_g q (show a.1 4 = nI t from TI_4 h0) (by omega)
  refine ⟨_, _, ?_, tri_lo (hR.1.2 j hj).2.2.2.2, TI_k (I := no) (R := is1 12) h0 hb' (kpt_a a 12 _ _ rfl) rfl rfl rfl rfl rfl rfl rfl rfl rfl rfl rfl, ⟨rfl, rfl⟩, rfl, rfl⟩
  unfold f_L_failFan
  rw [hF]
  rfl
theorem cm_in : ∀ i, i < 3 → ¬ ((nI i - 1) < -1 ∨ (1 : Int32) < (nI i - 1)) := by decide +kernel
theorem tc_command {t : Nat} (ht : t ≤ 4000) {a : twS} (h : TI t a) {j i : Nat} (hj : j < 3) (hi : i < 3) : ∃ v a', f_L_command a (nI j) (nI i - 1) = some (v, a') ∧ ¬ (v < -1) ∧ TI t a' ∧ Ck a a' ∧ a'.1 16 = a.1 16 ∧ a'.1 13 = a.1 13 := by
  have h0 := h
  obtain ⟨b, g, l, hR, -⟩ := h
  have hb : twb (nI j) 3 = true := tp_b hj (by decide)
  have hc : (nI j).toNatClampNeg = j := tp_c (by omega)
  have hF : f_X7_command a (nI j) (nI i - 1) = some (.inr (a.2.1 10 j, twA a 10 (nI j) (nI i - 1))) := by
    unfold f_X7_command
    rw [ri3_y a hj]
    simp only [Option.bind_some, twTry]
    rw [rr_y a (cm_in i hi)]
    unfold f_X5_order
    simp only [Option.bind_some]
    rw [fa_y a hj]
    simp only [Option.bind_some]
    rw [if_neg one0, if_pos hb, if_pos hb, hc]
    rfl
  have q := q_command hR (fun _ => 0) (nI j) (nI i - 1)
  unfold h_L_command at q
  rw [hF] at q
  simp only [Option.bind_some] at q
  obtain ⟨b', hb'⟩ := kI_g q (show a.1 4 = nI t from TI_4 h0) (by omega)
  refine ⟨_, _, ?_, tri_lo (hR.1.2 j hj).2.2.2.1, TI_k (I := no) (R := is1 10) h0 hb' (kpt_a a 10 _ _ rfl) rfl rfl rfl rfl rfl rfl rfl rfl rfl rfl rfl, ⟨rfl, rfl⟩, rfl, rfl⟩
  unfold f_L_command
  rw [hF]
  rfl
theorem tc_fan (a : twS) {j : Nat} (hj : j < 3) : f_L_fan a (nI j) = some (a.2.1 11 j, a) := by
  have hb : twb (nI j) 3 = true := tp_b hj (by decide)
  have hc : (nI j).toNatClampNeg = j := tp_c (by omega)
  unfold f_L_fan f_X7_fan
  rw [ri3_y a hj]
  simp only [Option.bind_some, twTry]
  unfold f_X5_stateOf
  rw [fa_y a hj]
  simp only [Option.bind_some]
  rw [if_neg one0, if_pos hb, hc]
  rfl
/-- a door's answer -/
def dooA (a : twS) (j : Nat) : Int32 := if a.2.1 16 j = 0 then twE1 else if a.2.1 17 j = 0 then 0 else 1
def dooB (a : twS) (j : Nat) : Int32 := if a.2.1 16 j = 0 then -1 else if a.2.1 17 j = 0 then 0 else 1
theorem tc_failDoor {t : Nat} {a : twS} (h : TI t a) {j : Nat} (hj : j < 12) (k : Int32) (hk : k = 0 ∨ k = 1) : ∃ a', g_L_failDoor a (nI j) k = some (dooA a j, a') ∧ dooB a' j = dooB a j ∧ TI t a' ∧ Ck a a' ∧ a'.1 16 = a.1 16 ∧ a'.1 13 = a.1 13 := by
  have h0 := h
  obtain ⟨b, g, l, hR, -⟩ := h
  have hb : twb (nI j) 12 = true := tp_b hj (by decide)
  have hc : (nI j).toNatClampNeg = j := tp_c (by omega)
  have hT : ∀ x : twS, f_X7_isSegment x (nI j) = some (1, x) := fun x => tp_segT x hj
  by_cases c : a.2.1 16 j = 0
  · refine ⟨a, ?_, rfl, h0, Ck_r a, rfl, rfl⟩
    have hF : f_X7_failDoor a (nI j) k = some (.inl (twX1, a)) := by
      unfold f_X7_failDoor f_X7_requireDoor f_X4_isThere
      rw [hT]
      simp only [Option.bind_some]
      rw [if_neg one0, if_pos hb, hc, if_pos c]
      rfl
    unfold g_L_failDoor dooA
    rw [hF, if_pos c]
    simp only [Option.bind_some]
    rw [if_pos trivial]
  · have hF : f_X7_failDoor a (nI j) k = some (.inr (if a.2.1 17 j = 0 then 0 else 1, twA a 18 (nI j) (vp_nar .boolean k))) := by
      unfold f_X7_failDoor f_X7_requireDoor f_X4_isThere
      rw [hT]
      simp only [Option.bind_some]
      rw [if_neg one0, if_pos hb, hc, if_neg c]
      simp only [Option.bind_some]
      rw [if_neg one0]
      simp only [Option.bind_some, twTry]
      unfold f_X4_setFailing f_X4_isOpen
      rw [hT]
      simp only [Option.bind_some]
      rw [if_neg one0, if_pos hb]
      simp only [Option.bind_some]
      rw [hT]
      simp only [Option.bind_some]
      rw [if_neg one0, if_pos hb, hc, tp_ab a 18 _ _ (show 17 ≠ 18 by decide)]
      by_cases e : a.2.1 17 j = 0
      · rw [if_pos e, if_pos e]
        simp only [Option.bind_some]
        rw [if_pos (by decide)]
      · rw [if_neg e, if_neg e]
        simp only [Option.bind_some]
        rw [if_pos (by decide)]
    have q := q_failDoor hR (fun _ => 0) (nI j) k hk
    unfold h_L_failDoor at q
    rw [hF] at q
    simp only [Option.bind_some] at q
    have hb' : ∃ b', twR t (t, 0) (twA a 18 (nI j) (vp_nar .boolean k)) b' := by
      by_cases e : a.2.1 17 j = 0
      · rw [if_pos e, if_pos rfl] at q
        exact kZ_g q
      · rw [if_neg e, if_neg one0] at q
        exact kZ_g q
    obtain ⟨b', hb'⟩ := hb'
    refine ⟨_, ?_, ?_, TI_k (I := no) (R := is1 18) h0 hb' (kpt_a a 18 _ _ rfl) rfl rfl rfl rfl rfl rfl rfl rfl rfl rfl rfl, ⟨rfl, rfl⟩, rfl, rfl⟩
    · unfold g_L_failDoor dooA
      rw [hF, if_neg c]
      simp only [Option.bind_some]
      by_cases e : a.2.1 17 j = 0
      · rw [if_pos e, if_pos rfl]
      · rw [if_neg e, if_neg one0]
    · unfold dooB
      rw [tp_ab a 18 _ _ (show 16 ≠ 18 by decide), tp_ab a 18 _ _ (show 17 ≠ 18 by decide)]
theorem rg4 (a : twS) : ∀ i, i < 5 → f_X7_requireRange a (nI i) 0 4 = some (.inr a) := by
  intro i hi
  refine rr_y a ?_
  rintro (q | q)
  · exact nI_pos (by omega) q
  · exact nI_nlt (a := 4) (b := i) (by omega) (by decide) q
theorem tc_seg4 (a : twS) {j : Nat} (hj : j < 12) : f_L_segment a (nI j) 4 = some (dooB a j, a) := by
  have hb : twb (nI j) 12 = true := tp_b hj (by decide)
  have hc : (nI j).toNatClampNeg = j := tp_c (by omega)
  unfold f_L_segment f_X7_segment dooB
  rw [rs_y a hj]
  simp only [Option.bind_some, twTry]
  rw [show f_X7_requireRange a 4 0 4 = some (.inr a) from rg4 a 4 (by decide)]
  simp only [Option.bind_some, twTry]
  rw [if_neg (by decide), if_neg (by decide), if_neg (by decide), if_neg (by decide)]
  unfold f_X7_doorAnswer f_X4_isThere f_X4_isOpen
  rw [tp_segT a hj]
  simp only [Option.bind_some]
  rw [if_neg one0, if_pos hb, hc]
  by_cases c : a.2.1 16 j = 0
  · rw [if_pos c, if_pos c]
    rfl
  · rw [if_neg c, if_neg c]
    simp only [Option.bind_some]
    rw [if_neg one0, tp_segT a hj]
    simp only [Option.bind_some]
    rw [if_neg one0, if_pos hb]
    by_cases e : a.2.1 17 j = 0
    · rw [if_pos e, if_pos e]
      rfl
    · rw [if_neg e, if_neg e]
      rfl
theorem tc_failDet {t : Nat} {a : twS} (h : TI t a) {j i : Nat} (hj : j < 12) (hi : i < 3) (k : Int32) : ∃ a', f_L_failDetector a (nI j) (nI i) k = some (0, a') ∧ TI t a' ∧ Ck a a' ∧ a'.1 16 = a.1 16 ∧ a'.1 13 = a.1 13 := by
  have h0 := h
  obtain ⟨b, g, l, hR, -⟩ := h
  have e1 : nI j * 3 + nI i = nI (3 * j + i) := by
    show nI j * nI 3 + nI i = _
    rw [pk_mul, nI_add, Nat.mul_comm]
  have hb : twb (nI (3 * j + i)) 36 = true := tp_b (by omega) (by decide)
  have hF : f_X7_failDetector a (nI j) (nI i) k = some (.inr (twA a 9 (nI (3 * j + i)) (vp_nar .boolean k))) := by
    unfold f_X7_failDetector
    rw [rs_y a hj]
    simp only [Option.bind_some, twTry]
    rw [ri3_y a hi]
    simp only [Option.bind_some, twTry]
    rw [e1, if_pos hb]
  have q := q_failDet hR (fun _ => 0) (nI j) (nI i) k
  unfold h_L_failDetector at q
  rw [hF] at q
  simp only [Option.bind_some] at q
  obtain ⟨b', hb'⟩ := kV_g q
  refine ⟨_, ?_, TI_k (I := no) (R := is1 9) h0 hb' (kpt_a a 9 _ _ rfl) rfl rfl rfl rfl rfl rfl rfl rfl rfl rfl rfl, ⟨rfl, rfl⟩, rfl, rfl⟩
  unfold f_L_failDetector
  rw [hF]
  rfl
