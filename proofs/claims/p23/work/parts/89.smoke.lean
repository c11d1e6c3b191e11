/-! ===== smoke as whole numbers: in the tube or gone ===== -/
def sumN (f : Nat → Nat) : Nat → Nat
  | 0 => 0
  | n + 1 => sumN f n + f n
theorem sumN_le (f : Nat → Nat) : ∀ (n k : Nat), k < n → f k ≤ sumN f n := by
  intro n
  induction n with
  | zero => intro k h; omega
  | succ n ih =>
    intro k h
    show f k ≤ sumN f n + f n
    by_cases e : k = n
    · rw [e]; omega
    · have := ih k (by omega)
      omega
theorem sumN_o (f : Nat → Nat) (k x : Nat) : ∀ n, n ≤ k → sumN (fun i => if i = k then x else f i) n = sumN f n := by
  intro n
  induction n with
  | zero => intro h; rfl
  | succ n ih =>
    intro h
    show sumN _ n + (if n = k then x else f n) = sumN f n + f n
    rw [ih (by omega), if_neg (by omega)]
theorem sumN_u (f : Nat → Nat) (k x : Nat) : ∀ n, k < n → sumN (fun i => if i = k then x else f i) n + f k = sumN f n + x := by
  intro n
  induction n with
  | zero => intro h; omega
  | succ n ih =>
    intro h
    show sumN _ n + (if n = k then x else f n) + f k = sumN f n + f n + x
    by_cases e : k = n
    · rw [← e, sumN_o f k x k (Nat.le_refl k), if_pos rfl]
      omega
    · have := ih (by omega)
      rw [if_neg (fun q => e q.symm)]
      omega
theorem sumN_sm (A : Nat → Int32) (f : Nat → Nat) : ∀ n, (∀ k, k < n → A k = nI (f k)) → smN A n = nI (sumN f n) := by
  intro n
  induction n with
  | zero => intro _; rfl
  | succ n ih =>
    intro h
    show smN A n + A n = nI (sumN f n + f n)
    rw [ih (fun k hk => h k (by omega)), h n (by omega), nI_add]
def AirI (M l : Nat) (a : twS) : Prop := ∃ (s h : Nat → Nat) (m : Nat), (∀ k, k < 12 → a.2.1 13 k = nI (s k)) ∧ (∀ k, k < 12 → a.2.1 14 k = nI (h k) ∧ h k ≤ M) ∧ a.1 7 = nI l ∧ a.1 12 = nI m ∧ sumN s 12 + l = m ∧ m ≤ M
theorem AirI_k {M l : Nat} {I R : Nat → Bool} {a a' : twS} (h : kpt I R a a') (h7 : I 7 = false) (h12 : I 12 = false) (h13 : R 13 = false) (h14 : R 14 = false) (hA : AirI M l a) : AirI M l a' := by
  obtain ⟨s, g, m, e1, e2, e3, e4, e5⟩ := hA
  refine ⟨s, g, m, fun k hk => ?_, fun k hk => ?_, (h.1 7 h7).trans e3, (h.1 12 h12).trans e4, e5⟩
  · rw [h.2 13 h13]; exact e1 k hk
  · rw [h.2 14 h14]; exact e2 k hk
theorem air_burn {M l : Nat} {a : twS} {j v : Nat} (hj : j < 12) (hv : v ≤ 200) (w : Int64) (hA : AirI M l a) : AirI (M + 200) l (twA (twA (twI (twL a w) 12 (a.1 12 + nI v)) 13 (nI j) (a.2.1 13 j + nI v)) 14 (nI j) (a.2.1 14 j + nI v)) := by
  obtain ⟨s, g, m, e1, e2, e3, e4, e5, e6⟩ := hA
  have hc : (nI j).toNatClampNeg = j := tp_c (by omega)
  refine ⟨fun i => if i = j then s j + v else s i, fun i => if i = j then g j + v else g i, m + v, fun k hk => ?_, fun k hk => ?_, e3, ?_, ?_, by omega⟩
  · show upd (a.2.1 13) (nI j).toNatClampNeg (a.2.1 13 j + nI v) k = nI (if k = j then s j + v else s k)
    rw [hc, tp_u]
    by_cases e : k = j
    · rw [if_pos e, if_pos e, e1 j hj, nI_add]
    · rw [if_neg e, if_neg e, e1 k hk]
  · show upd (a.2.1 14) (nI j).toNatClampNeg (a.2.1 14 j + nI v) k = nI (if k = j then g j + v else g k) ∧ (if k = j then g j + v else g k) ≤ M + 200
    rw [hc, tp_u]
    by_cases e : k = j
    · rw [if_pos e, if_pos e, (e2 j hj).1, nI_add]
      have := (e2 j hj).2
      exact ⟨rfl, by omega⟩
    · rw [if_neg e, if_neg e, (e2 k hk).1]
      have := (e2 k hk).2
      exact ⟨rfl, by omega⟩
  · show a.1 12 + nI v = _
    rw [e4, nI_add]
  · have q := sumN_u s j (s j + v) 12 hj
    omega
def smR : Nat → Bool := is1 13
theorem air_shift {M l : Nat} {a : twS} (hM : M ≤ 1000000) (hA : AirI M l a) {j d : Nat} (hj : j < 12) (hd : 0 < d) (hd2 : d < 2 ^ 31) {x : Int32} (hx : seg x ∨ offTube x) : ∃ a' l', f_X0_shift a (nI j) x (a.2.1 13 j / nI d) = some a' ∧ AirI M l' a' ∧ l ≤ l' ∧ kpt (is1 7) (is1 13) a a' ∧ a'.2.2 = a.2.2 := by
  obtain ⟨s, g, m, e1, e2, e3, e4, e5, e6⟩ := hA
  have hc : (nI j).toNatClampNeg = j := tp_c (by omega)
  have hsj := sumN_le s 12 j hj
  have hv : a.2.1 13 j / nI d = nI (s j / d) := by rw [e1 j hj]; exact pk_div (by omega) hd hd2
  have hle : s j / d ≤ s j := Nat.div_le_self _ _
  rw [hv]
  generalize s j / d = w at *
  have q1 := sumN_u s j (s j - w) 12 hj
  rcases hx with ⟨i, hi, rfl⟩ | hx
  · have hci : (nI i).toNatClampNeg = i := tp_c (by omega)
    refine ⟨_, l, tp_shiftS a hj hi (nI w), ?_, Nat.le_refl l, kpt_t (kpt_a a 13 _ _ rfl) (kpt_a _ 13 _ _ rfl), rfl⟩
    have q2 := sumN_u (fun i => if i = j then s j - w else s i) i ((if i = j then s j - w else s i) + w) 12 hi
    refine ⟨fun k => if k = i then (if i = j then s j - w else s i) + w else (if k = j then s j - w else s k), g, m, fun k hk => ?_, e2, e3, e4, ?_, e6⟩
    · show upd (upd (a.2.1 13) (nI j).toNatClampNeg (a.2.1 13 j - nI w)) (nI i).toNatClampNeg ((upd (a.2.1 13) j (a.2.1 13 j - nI w)) i + nI w) k = nI (if k = i then (if i = j then s j - w else s i) + w else (if k = j then s j - w else s k))
      rw [hc, hci]
      have r : ∀ k, k < 12 → upd (a.2.1 13) j (a.2.1 13 j - nI w) k = nI (if k = j then s j - w else s k) := fun k hk => by
        rw [tp_u]
        by_cases e : k = j
        · rw [if_pos e, if_pos e, e1 j hj, tp_sub hle]
        · rw [if_neg e, if_neg e, e1 k hk]
      rw [tp_u]
      by_cases e : k = i
      · rw [if_pos e, if_pos e, r i hi, nI_add]
      · rw [if_neg e, if_neg e, r k hk]
    · omega
  · refine ⟨_, l + w, tp_shiftO a hj hx (nI w), ?_, Nat.le_add_right l w, kpt_t (kpt_a a 13 _ _ rfl) (kpt_i _ 7 _ rfl), rfl⟩
    refine ⟨fun i => if i = j then s j - w else s i, g, m, fun k hk => ?_, e2, ?_, e4, by omega, e6⟩
    · show upd (a.2.1 13) (nI j).toNatClampNeg (a.2.1 13 j - nI w) k = nI (if k = j then s j - w else s k)
      rw [hc, tp_u]
      by_cases e : k = j
      · rw [if_pos e, if_pos e, e1 j hj, tp_sub hle]
      · rw [if_neg e, if_neg e, e1 k hk]
    · show a.1 7 + nI w = _
      rw [e3, nI_add]
theorem sumN_12 (f : Nat → Nat) : sumN f 12 = f 0 + f 1 + f 2 + f 3 + f 4 + f 5 + f 6 + f 7 + f 8 + f 9 + f 10 + f 11 := by
  simp only [sumN]
  omega
theorem air_drift {M l : Nat} {a a' : twS} {d : UInt64} (hM : M ≤ 1000000) (hd : Fok d) (hA : AirI M l a) (h : f_X0_drift a d = some a') : ∃ l', AirI M l' a' ∧ l ≤ l' ∧ kpt (is1 7) (fun j => j == 13 || j == 15) a a' ∧ a'.2.2 = a.2.2 := by
  obtain ⟨s, g, m, e1, e2, e3, e4, e5, e6⟩ := hA
  obtain ⟨y, h1, h2, h3, h4, h5, h6⟩ := tp_drift a d
  rw [h1] at h
  cases h
  obtain ⟨sh, hsh, esh⟩ := fq_share hd
  have hl : ∀ k, k < 12 → a.2.1 13 k * FP.d2i (dAbs d) / 100 = nI (s k * sh / 100) := fun k hk => by
    have q := sumN_le s 12 k hk
    have q2 : s k * sh ≤ 1000000 * 90 := Nat.mul_le_mul (by omega) hsh
    rw [e1 k hk, esh, pk_mul]
    exact pk_div (d := 100) (by omega) (by decide) (by decide)
  have hlk : ∀ k, s k * sh / 100 ≤ s k := fun k => by
    have : s k * sh ≤ s k * 90 := Nat.mul_le_mul (Nat.le_refl _) hsh
    omega
  have kp : kpt (is1 7) (fun j => j == 13 || j == 15) a a' := ⟨fun j q => h4 j (fun e => by rw [e] at q; exact absurd q (by decide)), fun j q => h5 j (fun e => by rw [e] at q; exact absurd q (by decide)) (fun e => by rw [e] at q; exact absurd q (by decide))⟩
  obtain ⟨lv, hlv⟩ : ∃ lv : Nat → Nat, ∀ k, lv k = s k * sh / 100 := ⟨_, fun _ => rfl⟩
  simp only [← hlv] at hl hlk
  obtain ⟨F, hF⟩ : ∃ F : Nat → Int32, F = fun k => a.2.1 13 k * FP.d2i (dAbs d) / 100 := ⟨_, rfl⟩
  have hl : ∀ k, k < 12 → F k = nI (lv k) := fun k hk => by rw [hF]; exact hl k hk
  have h3 : a'.1 7 = a.1 7 + F (if dNon d then 11 else 0) := by rw [hF]; exact h3
  rw [← hF] at h2
  have eh : ∀ k, k < 12 → a'.2.1 14 k = nI (g k) ∧ g k ≤ M := fun k hk => by
    rw [h5 14 (by decide) (by decide)]
    exact e2 k hk
  have l0 := hlk 0; have l1 := hlk 1; have l2 := hlk 2; have l3 := hlk 3; have l4 := hlk 4; have l5 := hlk 5
  have l6 := hlk 6; have l7 := hlk 7; have l8 := hlk 8; have l9 := hlk 9; have l10 := hlk 10; have l11 := hlk 11
  rw [sumN_12] at e5
  by_cases c : dNon d
  · refine ⟨l + lv 11, ⟨fun m => s m - lv m + (if 1 ≤ m then lv (m - 1) else 0), g, m, fun k hk => ?_, eh, ?_, ?_, ?_, e6⟩, Nat.le_add_right _ _, kp, h6⟩
    · show a'.2.1 13 k = nI (s k - lv k + (if 1 ≤ k then lv (k - 1) else 0))
      rw [h2 k hk]
      unfold drf
      rw [if_pos (show decide (dNon d) = true from decide_eq_true c), hl k hk, e1 k hk, tp_sub (hlk k)]
      by_cases ek : 1 ≤ k
      · rw [if_pos ek, if_pos ek, hl (k - 1) (by omega), nI_add]
      · rw [if_neg ek, if_neg ek]
        simp
    · rw [h3, if_pos c, hl 11 (by decide), e3, nI_add]
    · rw [h4 12 (by decide)]
      exact e4
    · rw [sumN_12]
      simp only [show ¬ (1 ≤ 0) by decide, show (1 : Nat) ≤ 1 by decide, show (1 : Nat) ≤ 2 by decide, show (1 : Nat) ≤ 3 by decide, show (1 : Nat) ≤ 4 by decide, show (1 : Nat) ≤ 5 by decide, show (1 : Nat) ≤ 6 by decide, show (1 : Nat) ≤ 7 by decide, show (1 : Nat) ≤ 8 by decide, show (1 : Nat) ≤ 9 by decide, show (1 : Nat) ≤ 10 by decide, show (1 : Nat) ≤ 11 by decide, if_true, if_false, Nat.reduceSub]
      omega
  · refine ⟨l + lv 0, ⟨fun m => s m - lv m + (if m < 11 then lv (m + 1) else 0), g, m, fun k hk => ?_, eh, ?_, ?_, ?_, e6⟩, Nat.le_add_right _ _, kp, h6⟩
    · show a'.2.1 13 k = nI (s k - lv k + (if k < 11 then lv (k + 1) else 0))
      rw [h2 k hk]
      unfold drf
      rw [if_neg (show ¬ decide (dNon d) = true from fun q => c (of_decide_eq_true q)), hl k hk, e1 k hk, tp_sub (hlk k)]
      by_cases ek : k < 11
      · rw [if_pos ek, if_pos ek, hl (k + 1) (by omega), nI_add]
      · rw [if_neg ek, if_neg ek]
        simp
    · rw [h3, if_neg c, hl 0 (by decide), e3, nI_add]
    · rw [h4 12 (by decide)]
      exact e4
    · rw [sumN_12]
      simp only [show ¬ (11 < 11) by decide, show 0 < 11 by decide, show 1 < 11 by decide, show 2 < 11 by decide, show 3 < 11 by decide, show 4 < 11 by decide, show 5 < 11 by decide, show 6 < 11 by decide, show 7 < 11 by decide, show 8 < 11 by decide, show 9 < 11 by decide, show 10 < 11 by decide, if_true, if_false, Nat.reduceAdd]
      omega
theorem air_cool {M l : Nat} (hM : M ≤ 1000000) : ∀ (n : Nat) (v : Int32) (a a' : twS), AirI M l a → f_X0_cool_L2 n v a = some a' → AirI M l a' ∧ kpt no (is1 14) a a' ∧ a'.2.2 = a.2.2 := by
  intro n
  induction n with
  | zero => intro v a a' hA h; cases h
  | succ n ih =>
    intro v a a' hA h
    have h : f_X0_cool_L2b (f_X0_cool_L2 n) v a = some a' := h
    unfold f_X0_cool_L2b at h
    split at h
    · cases h
      exact ⟨hA, kpt_r _ _ _, rfl⟩
    · split at h
      · rename_i c hb
        try rw [if_pos hb, if_pos hb] at h
        have b2 : ¬ (v < 0 ∨ 12 ≤ v.toNatClampNeg) := of_decide_eq_true hb
        obtain ⟨j, hj, rfl⟩ : ∃ j, j < 12 ∧ v = nI j := by
          rcases ix_or v (n := 12) (by decide) with (q | q) | q
          · exact absurd (Or.inl q) b2
          · exact absurd q c
          · exact q
        have hc : (nI j).toNatClampNeg = j := tp_c (by omega)
        have hA2 : AirI M l (twA a 14 (nI j) (a.2.1 14 (nI j).toNatClampNeg - (a.2.1 14 (nI j).toNatClampNeg + 3) / 4)) := by
          obtain ⟨s, g, m, e1, e2, e3, e4, e5, e6⟩ := hA
          refine ⟨s, fun i => if i = j then g j - (g j + 3) / 4 else g i, m, e1, fun k hk => ?_, e3, e4, e5, e6⟩
          have gj := e2 j hj
          have q : (nI (g j) + 3) / 4 = nI ((g j + 3) / 4) := by
            rw [show nI (g j) + 3 = nI (g j + 3) from nI_add (g j) 3]
            exact pk_div (d := 4) (by omega) (by decide) (by decide)
          show _ = nI (if k = j then g j - (g j + 3) / 4 else g k) ∧ (if k = j then g j - (g j + 3) / 4 else g k) ≤ M
          rw [tp_aa, hc]
          by_cases e : k = j
          · rw [if_pos e, if_pos e, gj.1, q, tp_sub (by omega)]
            exact ⟨rfl, by omega⟩
          · rw [if_neg e, if_neg e]
            exact e2 k hk
        have q := ih _ _ _ hA2 h
        exact ⟨q.1, kpt_t (kpt_a a 14 _ _ rfl) q.2.1, q.2.2⟩
      · cases h
def mvR : Nat → Bool := fun j => j == 13 || j == 14 || j == 15
theorem mv13 : ∀ j, mvR j = false → is1 13 j = false := by
  intro j q
  unfold mvR at q
  unfold is1
  simp at q ⊢
  omega
theorem mv14 : ∀ j, mvR j = false → is1 14 j = false := by
  intro j q
  unfold mvR at q
  unfold is1
  simp at q ⊢
  omega
theorem mv15 : ∀ j, mvR j = false → (fun j => j == 13 || j == 15 : Nat → Bool) j = false := by
  intro j q
  unfold mvR at q
  simp at q ⊢
  omega
theorem no7 : ∀ j, is1 7 j = false → no j = false := fun _ _ => rfl
theorem air_45 {M l : Nat} {a a' : twS} (hM : M ≤ 1000000) (hA : AirI M l a) (h0 : seg (a.1 0)) (h : f_X7_moveAir_L45 a = some a') : ∃ l', AirI M l' a' ∧ l ≤ l' ∧ kpt (is1 7) mvR a a' := by
  have h63 : ∀ {l : Nat} {x : twS}, AirI M l x → f_X7_moveAir_L63 x = some a' → AirI M l a' ∧ kpt (is1 7) mvR x a' := by
    intro l x hx h
    unfold f_X7_moveAir_L63 at h
    obtain ⟨y, h1, h⟩ := tw_bd h
    cases h
    obtain ⟨q1, q2, -⟩ := air_cool hM _ _ _ _ hx h1
    exact ⟨q1, kpt_w q2 no7 mv14⟩
  unfold f_X7_moveAir_L45 at h
  split at h
  · obtain ⟨q1, q2⟩ := h63 hA h
    exact ⟨l, q1, Nat.le_refl l, q2⟩
  · obtain ⟨y, h1, h⟩ := tw_bd h
    obtain ⟨j, hj, e0⟩ := h0
    rw [e0] at h1
    unfold f_X0_drawOff at h1
    rw [tp_smokeS a hj] at h1
    simp only [Option.bind_some] at h1
    obtain ⟨x, l', g1, g2, g3, g4, g5⟩ := air_shift (d := 3) hM hA hj (by decide) (by decide) (x := -1) (Or.inr (Or.inl rfl))
    rw [show (nI 3) = (3 : Int32) from rfl] at g1
    rw [g1] at h1
    cases h1
    obtain ⟨q1, q2⟩ := h63 g2 h
    exact ⟨l', q1, g3, kpt_t (kpt_w g4 (fun _ q => q) mv13) q2⟩
theorem air_all {M l : Nat} {a a' : twS} (hM : M ≤ 1000000) (hA : AirI M l a) (h0 : seg (a.1 0)) (h8 : a.1 8 = -1 ∨ seg (a.1 8)) (hd : Fok a.2.2.2) (h : f_X7_moveAir a = some a') : ∃ l', AirI M l' a' ∧ l ≤ l' ∧ kpt (is1 7) mvR a a' := by
  unfold f_X7_moveAir at h
  obtain ⟨y1, h1, h⟩ := tw_bd h
  cases h1
  obtain ⟨y2, h2, h⟩ := tw_bd h
  obtain ⟨l2, g1, g2, g3, g4⟩ := air_drift hM hd hA h2
  have k2 := kpt_w g3 (fun _ q => q) mv15
  have e0 : y2.1 0 = a.1 0 := g3.1 0 rfl
  have e8 : y2.1 8 = a.1 8 := g3.1 8 rfl
  obtain ⟨y3, h3, h⟩ := tw_bd h
  have p3 : y3.2 = y2 := by
    unfold f_X1_isBurning at h3
    split at h3 <;> (cases h3; rfl)
  have p3b : ¬ y3.1 = 0 → ¬ y2.1 8 = -1 := by
    unfold f_X1_isBurning at h3
    split at h3
    · cases h3; intro q; exact absurd rfl q
    · rename_i q; intro _; exact q
  rw [p3] at h
  split at h
  · obtain ⟨l', q1, q2, q3⟩ := air_45 hM g1 (by rw [e0]; exact h0) h
    exact ⟨l', q1, by omega, kpt_t k2 q3⟩
  · rename_i c
    have hb := p3b c
    rw [e8] at hb
    obtain ⟨j, hj, ej⟩ := h8.resolve_left hb
    obtain ⟨y5, h5, h⟩ := tw_bd h
    cases h5
    obtain ⟨y6, h6, h⟩ := tw_bd h
    cases h6
    obtain ⟨y7, h7, h⟩ := tw_bd h
    rw [e8, ej] at h7
    have hx : ∃ l', AirI M l' y7 ∧ l2 ≤ l' ∧ kpt (is1 7) mvR y2 y7 := by
      unfold f_X0_backUp at h7
      rw [tp_abs] at h7
      simp only [Option.bind_some] at h7
      split at h7
      · cases h7
        exact ⟨l2, g1, Nat.le_refl _, kpt_r _ _ _⟩
      · rw [tp_side] at h7
        simp only [Option.bind_some] at h7
        rw [tp_smokeS y2 hj] at h7
        simp only [Option.bind_some] at h7
        obtain ⟨x, l', f1, f2, f3, f4, f5⟩ := air_shift (d := 10) hM g1 hj (by decide) (by decide) (tp_wayR hj y2.2.2.2)
        rw [show (nI 10) = (10 : Int32) from rfl] at f1
        rw [f1] at h7
        cases h7
        exact ⟨l', f2, f3, kpt_w f4 (fun _ q => q) mv13⟩
    obtain ⟨l3, f1, f2, f3⟩ := hx
    obtain ⟨l', q1, q2, q3⟩ := air_45 hM f1 (by rw [f3.1 0 rfl, e0]; exact h0) h
    exact ⟨l', q1, by omega, kpt_t k2 (kpt_t f3 q3)⟩
