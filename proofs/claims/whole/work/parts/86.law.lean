/-! ===== the pure side: the law's loop answers 1 ===== -/
def okT (L i t : Nat) (rec : Int32 → twS → twS → (Nat → Int64) → Option Int32) (X : Option Int32) : Prop := ∃ a' b' w' t' g', X = rec (nI (i + 4)) a' b' w' ∧ t ≤ t' ∧ t' ≤ t + 100 ∧ twR t' (t', g') a' b'
theorem cmp0 (x : Int64) : lg_cmp x x = 0 := by
  unfold lg_cmp
  rw [if_neg (fun q => Int64.lt_irrefl q), if_pos rfl]
theorem upd0 (w : Nat → Int64) (k : Nat) (x : Int64) : vp_updL w k x k = x := if_pos rfl
theorem th36 (b : twS) : f_X8_thrown b = some (b.1 36, b) := rfl
theorem glI {L i t : Nat} {a b : twS} {g : Int32} {w : Nat → Int64} {G : Option (Int32 × (twS × (Nat → Int64)))} {Y : Option (Int32 × twS)} (hk : kI t a b w G Y) (h : twR t (t, g) a b) (rec : Int32 → twS → twS → (Nat → Int64) → Option Int32) : okT L i t rec (G.bind fun y => Y.bind fun z => (f_X8_thrown z.2).bind fun s => (if s.1 = y.1 then (if y.1 = 0 then (if (lg_cmp (y.2.2 (0 : Int32).toNatClampNeg) z.1.toInt64) = 0 then rec (nI (i + 4)) y.2.1 s.2 y.2.2 else some 0) else rec (nI (i + 4)) y.2.1 s.2 y.2.2) else some 0)) := by
  rcases hk with ⟨c, v, hc, rfl, rfl⟩ | ⟨v, a', b', t', rfl, rfl, h36, ht1, ht2, hR⟩
  · refine ⟨a, twI b 36 c, w, t, c, ?_, Nat.le_refl t, by omega, tp_36 h c⟩
    simp only [Option.bind_some, th36]
    rw [tp_i1, if_pos rfl, if_pos rfl, if_neg hc]
  · refine ⟨a', b', vp_updL w (0 : Int32).toNatClampNeg v.toInt64, t', 0, ?_, ht1, ht2, hR⟩
    simp only [Option.bind_some, th36]
    rw [h36, if_pos rfl, if_pos trivial, upd0, if_pos (cmp0 _)]
theorem glV {L i t : Nat} {a b : twS} {g : Int32} {w : Nat → Int64} {G : Option (Int32 × (twS × (Nat → Int64)))} {Y : Option twS} (hk : kV t a b w G Y) (h : twR t (t, g) a b) (rec : Int32 → twS → twS → (Nat → Int64) → Option Int32) : okT L i t rec (G.bind fun y => Y.bind fun z => (f_X8_thrown z).bind fun s => (if s.1 = y.1 then rec (nI (i + 4)) y.2.1 s.2 y.2.2 else some 0)) := by
  rcases hk with ⟨c, hc, rfl, rfl⟩ | ⟨a', b', rfl, rfl, h36, hR⟩
  · refine ⟨a, twI b 36 c, w, t, c, ?_, Nat.le_refl t, by omega, tp_36 h c⟩
    simp only [Option.bind_some, th36]
    rw [tp_i1, if_pos rfl, if_pos rfl]
  · refine ⟨a', b', w, t, 0, ?_, Nat.le_refl t, by omega, hR⟩
    simp only [Option.bind_some, th36]
    rw [h36, if_pos rfl]
theorem glZ {L i t : Nat} {a b : twS} {g : Int32} {w : Nat → Int64} {G : Option (Int32 × (twS × (Nat → Int64)))} {Y : Option (Int32 × twS)} (hk : kZ t a b w G Y) (h : twR t (t, g) a b) (rec : Int32 → twS → twS → (Nat → Int64) → Option Int32) : okT L i t rec (G.bind fun y => Y.bind fun z => (f_X8_thrown z.2).bind fun s => (if s.1 = y.1 then (if y.1 = 0 then (if z.1 = 0 then (if (lg_cmp (y.2.2 (0 : Int32).toNatClampNeg) 0) = 0 then rec (nI (i + 4)) y.2.1 s.2 y.2.2 else some 0) else (if (lg_cmp (y.2.2 (0 : Int32).toNatClampNeg) 1) = 0 then rec (nI (i + 4)) y.2.1 s.2 y.2.2 else some 0)) else rec (nI (i + 4)) y.2.1 s.2 y.2.2) else some 0)) := by
  rcases hk with ⟨c, v, hc, rfl, rfl⟩ | ⟨v, a', b', rfl, rfl, h36, hR⟩
  · refine ⟨a, twI b 36 c, w, t, c, ?_, Nat.le_refl t, by omega, tp_36 h c⟩
    simp only [Option.bind_some, th36]
    rw [tp_i1, if_pos rfl, if_pos rfl, if_neg hc]
  · refine ⟨a', b', vp_updL w (0 : Int32).toNatClampNeg (if v = 0 then 0 else 1), t, 0, ?_, Nat.le_refl t, by omega, hR⟩
    simp only [Option.bind_some, th36]
    rw [h36, if_pos rfl, if_pos trivial, upd0]
    by_cases e : v = 0
    · rw [if_pos e, if_pos e, if_pos (cmp0 _)]
    · rw [if_neg e, if_neg e, if_pos (cmp0 _)]
theorem glQ {L i t : Nat} {a b : twS} {g : Int32} {w : Nat → Int64} {G : Option (Int32 × twS)} {Y : Option (Int32 × twS)} (hk : kQ a b G Y) (h : twR t (t, g) a b) (rec : Int32 → twS → twS → (Nat → Int64) → Option Int32) : okT L i t rec (G.bind fun y => Y.bind fun z => (if y.1 = z.1 then rec (nI (i + 4)) y.2 z.2 w else some 0)) := by
  obtain ⟨v, rfl, rfl⟩ := hk
  refine ⟨a, twI b 36 0, w, t, 0, ?_, Nat.le_refl t, by omega, tp_36 h 0⟩
  simp only [Option.bind_some]
  rw [if_pos trivial]
theorem lq_0 (rec : Int32 → twS → twS → (Nat → Int64) → Option Int32) {L i t : Nat} (hL : L ≤ 2048) (hi : i + 4 ≤ L) (ht : t ≤ 51200) (xs : Nat → Int32) {a b : twS} {g : Int32} (w : Nat → Int64) (h : twR t (t, g) a b) : okT L i t rec (f_law_0 rec L xs (nI i) a b w) := by
  have e1 : nI i + 1 = nI (i + 1) := nI_add i 1
  have e2 : nI i + 2 = nI (i + 2) := nI_add i 2
  have e3 : nI i + 3 = nI (i + 3) := nI_add i 3
  have e4 : nI i + 4 = nI (i + 4) := nI_add i 4
  have b1 : twb (nI (i + 1)) L = true := tp_b (by omega) (by omega)
  have b2 : twb (nI (i + 2)) L = true := tp_b (by omega) (by omega)
  have b3 : twb (nI (i + 3)) L = true := tp_b (by omega) (by omega)
  unfold f_law_0
  simp only [e1, e2, e3, e4, b1, b2, b3, if_true]
  exact glV (q_build (by omega) h w _ _) h rec
theorem lq_1 (rec : Int32 → twS → twS → (Nat → Int64) → Option Int32) {L i t : Nat} (hL : L ≤ 2048) (hi : i + 4 ≤ L) (ht : t ≤ 51200) (xs : Nat → Int32) {a b : twS} {g : Int32} (w : Nat → Int64) (h : twR t (t, g) a b) : okT L i t rec (f_law_1 rec L xs (nI i) a b w) := by
  have e1 : nI i + 1 = nI (i + 1) := nI_add i 1
  have e2 : nI i + 2 = nI (i + 2) := nI_add i 2
  have e3 : nI i + 3 = nI (i + 3) := nI_add i 3
  have e4 : nI i + 4 = nI (i + 4) := nI_add i 4
  have b1 : twb (nI (i + 1)) L = true := tp_b (by omega) (by omega)
  have b2 : twb (nI (i + 2)) L = true := tp_b (by omega) (by omega)
  have b3 : twb (nI (i + 3)) L = true := tp_b (by omega) (by omega)
  unfold f_law_1
  simp only [e1, e2, e3, e4, b1, b2, b3, if_true]
  exact glI (q_people h w _ _) h rec
theorem lq_2 (rec : Int32 → twS → twS → (Nat → Int64) → Option Int32) {L i t : Nat} (hL : L ≤ 2048) (hi : i + 4 ≤ L) (ht : t ≤ 51200) (xs : Nat → Int32) {a b : twS} {g : Int32} (w : Nat → Int64) (h : twR t (t, g) a b) : okT L i t rec (f_law_2 rec L xs (nI i) a b w) := by
  have e1 : nI i + 1 = nI (i + 1) := nI_add i 1
  have e2 : nI i + 2 = nI (i + 2) := nI_add i 2
  have e3 : nI i + 3 = nI (i + 3) := nI_add i 3
  have e4 : nI i + 4 = nI (i + 4) := nI_add i 4
  have b1 : twb (nI (i + 1)) L = true := tp_b (by omega) (by omega)
  have b2 : twb (nI (i + 2)) L = true := tp_b (by omega) (by omega)
  have b3 : twb (nI (i + 3)) L = true := tp_b (by omega) (by omega)
  unfold f_law_2
  simp only [e1, e2, e3, e4, b1, b2, b3, if_true]
  exact glI (q_wind h w _) h rec
theorem lq_3 (rec : Int32 → twS → twS → (Nat → Int64) → Option Int32) {L i t : Nat} (hL : L ≤ 2048) (hi : i + 4 ≤ L) (ht : t ≤ 51200) (xs : Nat → Int32) {a b : twS} {g : Int32} (w : Nat → Int64) (h : twR t (t, g) a b) : okT L i t rec (f_law_3 rec L xs (nI i) a b w) := by
  have e1 : nI i + 1 = nI (i + 1) := nI_add i 1
  have e2 : nI i + 2 = nI (i + 2) := nI_add i 2
  have e3 : nI i + 3 = nI (i + 3) := nI_add i 3
  have e4 : nI i + 4 = nI (i + 4) := nI_add i 4
  have b1 : twb (nI (i + 1)) L = true := tp_b (by omega) (by omega)
  have b2 : twb (nI (i + 2)) L = true := tp_b (by omega) (by omega)
  have b3 : twb (nI (i + 3)) L = true := tp_b (by omega) (by omega)
  unfold f_law_3
  simp only [e1, e2, e3, e4, b1, b2, b3, if_true]
  exact glV (q_fire h w _ _) h rec
theorem lq_4 (rec : Int32 → twS → twS → (Nat → Int64) → Option Int32) {L i t : Nat} (hL : L ≤ 2048) (hi : i + 4 ≤ L) (ht : t ≤ 51200) (xs : Nat → Int32) {a b : twS} {g : Int32} (w : Nat → Int64) (h : twR t (t, g) a b) : okT L i t rec (f_law_4 rec L xs (nI i) a b w) := by
  have e1 : nI i + 1 = nI (i + 1) := nI_add i 1
  have e2 : nI i + 2 = nI (i + 2) := nI_add i 2
  have e3 : nI i + 3 = nI (i + 3) := nI_add i 3
  have e4 : nI i + 4 = nI (i + 4) := nI_add i 4
  have b1 : twb (nI (i + 1)) L = true := tp_b (by omega) (by omega)
  have b2 : twb (nI (i + 2)) L = true := tp_b (by omega) (by omega)
  have b3 : twb (nI (i + 3)) L = true := tp_b (by omega) (by omega)
  unfold f_law_4
  simp only [e1, e2, e3, e4, b1, b2, b3, if_true]
  by_cases hx : xs (nI (i + 2)).toNatClampNeg = 0
  · simp only [if_pos hx]
    exact glZ (q_feed h w _ 0) h rec
  · simp only [if_neg hx]
    exact glZ (q_feed h w _ 1) h rec
theorem lq_5 (rec : Int32 → twS → twS → (Nat → Int64) → Option Int32) {L i t : Nat} (hL : L ≤ 2048) (hi : i + 4 ≤ L) (ht : t ≤ 51200) (xs : Nat → Int32) {a b : twS} {g : Int32} (w : Nat → Int64) (h : twR t (t, g) a b) : okT L i t rec (f_law_5 rec L xs (nI i) a b w) := by
  have e1 : nI i + 1 = nI (i + 1) := nI_add i 1
  have e2 : nI i + 2 = nI (i + 2) := nI_add i 2
  have e3 : nI i + 3 = nI (i + 3) := nI_add i 3
  have e4 : nI i + 4 = nI (i + 4) := nI_add i 4
  have b1 : twb (nI (i + 1)) L = true := tp_b (by omega) (by omega)
  have b2 : twb (nI (i + 2)) L = true := tp_b (by omega) (by omega)
  have b3 : twb (nI (i + 3)) L = true := tp_b (by omega) (by omega)
  unfold f_law_5
  simp only [e1, e2, e3, e4, b1, b2, b3, if_true]
  by_cases hx : xs (nI (i + 2)).toNatClampNeg = 0
  · simp only [if_pos hx]
    exact glI (q_failFan h w _ 0) h rec
  · simp only [if_neg hx]
    exact glI (q_failFan h w _ 1) h rec
theorem lq_6 (rec : Int32 → twS → twS → (Nat → Int64) → Option Int32) {L i t : Nat} (hL : L ≤ 2048) (hi : i + 4 ≤ L) (ht : t ≤ 51200) (xs : Nat → Int32) {a b : twS} {g : Int32} (w : Nat → Int64) (h : twR t (t, g) a b) : okT L i t rec (f_law_6 rec L xs (nI i) a b w) := by
  have e1 : nI i + 1 = nI (i + 1) := nI_add i 1
  have e2 : nI i + 2 = nI (i + 2) := nI_add i 2
  have e3 : nI i + 3 = nI (i + 3) := nI_add i 3
  have e4 : nI i + 4 = nI (i + 4) := nI_add i 4
  have b1 : twb (nI (i + 1)) L = true := tp_b (by omega) (by omega)
  have b2 : twb (nI (i + 2)) L = true := tp_b (by omega) (by omega)
  have b3 : twb (nI (i + 3)) L = true := tp_b (by omega) (by omega)
  unfold f_law_6
  simp only [e1, e2, e3, e4, b1, b2, b3, if_true]
  by_cases hx : xs (nI (i + 2)).toNatClampNeg = 0
  · simp only [if_pos hx]
    exact glZ (q_failDoor h w _ 0 (Or.inl rfl)) h rec
  · simp only [if_neg hx]
    exact glZ (q_failDoor h w _ 1 (Or.inr rfl)) h rec
theorem lq_7 (rec : Int32 → twS → twS → (Nat → Int64) → Option Int32) {L i t : Nat} (hL : L ≤ 2048) (hi : i + 4 ≤ L) (ht : t ≤ 51200) (xs : Nat → Int32) {a b : twS} {g : Int32} (w : Nat → Int64) (h : twR t (t, g) a b) : okT L i t rec (f_law_7 rec L xs (nI i) a b w) := by
  have e1 : nI i + 1 = nI (i + 1) := nI_add i 1
  have e2 : nI i + 2 = nI (i + 2) := nI_add i 2
  have e3 : nI i + 3 = nI (i + 3) := nI_add i 3
  have e4 : nI i + 4 = nI (i + 4) := nI_add i 4
  have b1 : twb (nI (i + 1)) L = true := tp_b (by omega) (by omega)
  have b2 : twb (nI (i + 2)) L = true := tp_b (by omega) (by omega)
  have b3 : twb (nI (i + 3)) L = true := tp_b (by omega) (by omega)
  unfold f_law_7
  simp only [e1, e2, e3, e4, b1, b2, b3, if_true]
  by_cases hx : xs (nI (i + 3)).toNatClampNeg = 0
  · simp only [if_pos hx]
    exact glV (q_failDet h w _ _ 0) h rec
  · simp only [if_neg hx]
    exact glV (q_failDet h w _ _ 1) h rec
theorem lq_8 (rec : Int32 → twS → twS → (Nat → Int64) → Option Int32) {L i t : Nat} (hL : L ≤ 2048) (hi : i + 4 ≤ L) (ht : t ≤ 51200) (xs : Nat → Int32) {a b : twS} {g : Int32} (w : Nat → Int64) (h : twR t (t, g) a b) : okT L i t rec (f_law_8 rec L xs (nI i) a b w) := by
  have e1 : nI i + 1 = nI (i + 1) := nI_add i 1
  have e2 : nI i + 2 = nI (i + 2) := nI_add i 2
  have e3 : nI i + 3 = nI (i + 3) := nI_add i 3
  have e4 : nI i + 4 = nI (i + 4) := nI_add i 4
  have b1 : twb (nI (i + 1)) L = true := tp_b (by omega) (by omega)
  have b2 : twb (nI (i + 2)) L = true := tp_b (by omega) (by omega)
  have b3 : twb (nI (i + 3)) L = true := tp_b (by omega) (by omega)
  unfold f_law_8
  simp only [e1, e2, e3, e4, b1, b2, b3, if_true]
  by_cases hx : xs (nI (i + 3)).toNatClampNeg = 0
  · simp only [if_pos hx]
    exact glI (q_act h w _ _ 0) h rec
  · simp only [if_neg hx]
    exact glI (q_act h w _ _ 1) h rec
theorem lq_9 (rec : Int32 → twS → twS → (Nat → Int64) → Option Int32) {L i t : Nat} (hL : L ≤ 2048) (hi : i + 4 ≤ L) (ht : t ≤ 51200) (xs : Nat → Int32) {a b : twS} {g : Int32} (w : Nat → Int64) (h : twR t (t, g) a b) : okT L i t rec (f_law_9 rec L xs (nI i) a b w) := by
  have e1 : nI i + 1 = nI (i + 1) := nI_add i 1
  have e2 : nI i + 2 = nI (i + 2) := nI_add i 2
  have e3 : nI i + 3 = nI (i + 3) := nI_add i 3
  have e4 : nI i + 4 = nI (i + 4) := nI_add i 4
  have b1 : twb (nI (i + 1)) L = true := tp_b (by omega) (by omega)
  have b2 : twb (nI (i + 2)) L = true := tp_b (by omega) (by omega)
  have b3 : twb (nI (i + 3)) L = true := tp_b (by omega) (by omega)
  unfold f_law_9
  simp only [e1, e2, e3, e4, b1, b2, b3, if_true]
  exact glI (q_command h w _ _) h rec
theorem lq_10 (rec : Int32 → twS → twS → (Nat → Int64) → Option Int32) {L i t : Nat} (hL : L ≤ 2048) (hi : i + 4 ≤ L) (ht : t ≤ 51200) (xs : Nat → Int32) {a b : twS} {g : Int32} (w : Nat → Int64) (h : twR t (t, g) a b) : okT L i t rec (f_law_10 rec L xs (nI i) a b w) := by
  have e1 : nI i + 1 = nI (i + 1) := nI_add i 1
  have e2 : nI i + 2 = nI (i + 2) := nI_add i 2
  have e3 : nI i + 3 = nI (i + 3) := nI_add i 3
  have e4 : nI i + 4 = nI (i + 4) := nI_add i 4
  have b1 : twb (nI (i + 1)) L = true := tp_b (by omega) (by omega)
  have b2 : twb (nI (i + 2)) L = true := tp_b (by omega) (by omega)
  have b3 : twb (nI (i + 3)) L = true := tp_b (by omega) (by omega)
  unfold f_law_10
  simp only [e1, e2, e3, e4, b1, b2, b3, if_true]
  exact glI (q_step (by omega) h w _) h rec
theorem lq_11 (rec : Int32 → twS → twS → (Nat → Int64) → Option Int32) {L i t : Nat} (hL : L ≤ 2048) (hi : i + 4 ≤ L) (ht : t ≤ 51200) (xs : Nat → Int32) {a b : twS} {g : Int32} (w : Nat → Int64) (h : twR t (t, g) a b) : okT L i t rec (f_law_11 rec L xs (nI i) a b w) := by
  have e1 : nI i + 1 = nI (i + 1) := nI_add i 1
  have e2 : nI i + 2 = nI (i + 2) := nI_add i 2
  have e3 : nI i + 3 = nI (i + 3) := nI_add i 3
  have e4 : nI i + 4 = nI (i + 4) := nI_add i 4
  have b1 : twb (nI (i + 1)) L = true := tp_b (by omega) (by omega)
  have b2 : twb (nI (i + 2)) L = true := tp_b (by omega) (by omega)
  have b3 : twb (nI (i + 3)) L = true := tp_b (by omega) (by omega)
  unfold f_law_11
  simp only [e1, e2, e3, e4, b1, b2, b3, if_true]
  exact glI (q_segment h w _ _) h rec
theorem lq_12 (rec : Int32 → twS → twS → (Nat → Int64) → Option Int32) {L i t : Nat} (hL : L ≤ 2048) (hi : i + 4 ≤ L) (ht : t ≤ 51200) (xs : Nat → Int32) {a b : twS} {g : Int32} (w : Nat → Int64) (h : twR t (t, g) a b) : okT L i t rec (f_law_12 rec L xs (nI i) a b w) := by
  have e1 : nI i + 1 = nI (i + 1) := nI_add i 1
  have e2 : nI i + 2 = nI (i + 2) := nI_add i 2
  have e3 : nI i + 3 = nI (i + 3) := nI_add i 3
  have e4 : nI i + 4 = nI (i + 4) := nI_add i 4
  have b1 : twb (nI (i + 1)) L = true := tp_b (by omega) (by omega)
  have b2 : twb (nI (i + 2)) L = true := tp_b (by omega) (by omega)
  have b3 : twb (nI (i + 3)) L = true := tp_b (by omega) (by omega)
  unfold f_law_12
  simp only [e1, e2, e3, e4, b1, b2, b3, if_true]
  exact glQ (q_flow h) h rec
theorem lq_13 (rec : Int32 → twS → twS → (Nat → Int64) → Option Int32) {L i t : Nat} (hL : L ≤ 2048) (hi : i + 4 ≤ L) (ht : t ≤ 51200) (xs : Nat → Int32) {a b : twS} {g : Int32} (w : Nat → Int64) (h : twR t (t, g) a b) : okT L i t rec (f_law_13 rec L xs (nI i) a b w) := by
  have e1 : nI i + 1 = nI (i + 1) := nI_add i 1
  have e2 : nI i + 2 = nI (i + 2) := nI_add i 2
  have e3 : nI i + 3 = nI (i + 3) := nI_add i 3
  have e4 : nI i + 4 = nI (i + 4) := nI_add i 4
  have b1 : twb (nI (i + 1)) L = true := tp_b (by omega) (by omega)
  have b2 : twb (nI (i + 2)) L = true := tp_b (by omega) (by omega)
  have b3 : twb (nI (i + 3)) L = true := tp_b (by omega) (by omega)
  unfold f_law_13
  simp only [e1, e2, e3, e4, b1, b2, b3, if_true]
  exact glI (q_fan h w _) h rec
theorem lq_14 (rec : Int32 → twS → twS → (Nat → Int64) → Option Int32) {L i t : Nat} (hL : L ≤ 2048) (hi : i + 4 ≤ L) (ht : t ≤ 51200) (xs : Nat → Int32) {a b : twS} {g : Int32} (w : Nat → Int64) (h : twR t (t, g) a b) : okT L i t rec (f_law_14 rec L xs (nI i) a b w) := by
  have e1 : nI i + 1 = nI (i + 1) := nI_add i 1
  have e2 : nI i + 2 = nI (i + 2) := nI_add i 2
  have e3 : nI i + 3 = nI (i + 3) := nI_add i 3
  have e4 : nI i + 4 = nI (i + 4) := nI_add i 4
  have b1 : twb (nI (i + 1)) L = true := tp_b (by omega) (by omega)
  have b2 : twb (nI (i + 2)) L = true := tp_b (by omega) (by omega)
  have b3 : twb (nI (i + 3)) L = true := tp_b (by omega) (by omega)
  unfold f_law_14
  simp only [e1, e2, e3, e4, b1, b2, b3, if_true]
  exact glQ (q_alarm h) h rec
theorem lq_15 (rec : Int32 → twS → twS → (Nat → Int64) → Option Int32) {L i t : Nat} (hL : L ≤ 2048) (hi : i + 4 ≤ L) (ht : t ≤ 51200) (xs : Nat → Int32) {a b : twS} {g : Int32} (w : Nat → Int64) (h : twR t (t, g) a b) : okT L i t rec (f_law_15 rec L xs (nI i) a b w) := by
  have e1 : nI i + 1 = nI (i + 1) := nI_add i 1
  have e2 : nI i + 2 = nI (i + 2) := nI_add i 2
  have e3 : nI i + 3 = nI (i + 3) := nI_add i 3
  have e4 : nI i + 4 = nI (i + 4) := nI_add i 4
  have b1 : twb (nI (i + 1)) L = true := tp_b (by omega) (by omega)
  have b2 : twb (nI (i + 2)) L = true := tp_b (by omega) (by omega)
  have b3 : twb (nI (i + 3)) L = true := tp_b (by omega) (by omega)
  unfold f_law_15
  simp only [e1, e2, e3, e4, b1, b2, b3, if_true]
  exact glI (q_done h w _) h rec
theorem lq_16 (rec : Int32 → twS → twS → (Nat → Int64) → Option Int32) {L i t : Nat} (hL : L ≤ 2048) (hi : i + 4 ≤ L) (ht : t ≤ 51200) (xs : Nat → Int32) {a b : twS} {g : Int32} (w : Nat → Int64) (h : twR t (t, g) a b) : okT L i t rec (f_law_16 rec L xs (nI i) a b w) := by
  have e1 : nI i + 1 = nI (i + 1) := nI_add i 1
  have e2 : nI i + 2 = nI (i + 2) := nI_add i 2
  have e3 : nI i + 3 = nI (i + 3) := nI_add i 3
  have e4 : nI i + 4 = nI (i + 4) := nI_add i 4
  have b1 : twb (nI (i + 1)) L = true := tp_b (by omega) (by omega)
  have b2 : twb (nI (i + 2)) L = true := tp_b (by omega) (by omega)
  have b3 : twb (nI (i + 3)) L = true := tp_b (by omega) (by omega)
  unfold f_law_16
  simp only [e1, e2, e3, e4, b1, b2, b3, if_true]
  exact glI (q_person h w _ _) h rec
theorem lq_17 (rec : Int32 → twS → twS → (Nat → Int64) → Option Int32) {L i t : Nat} (hL : L ≤ 2048) (hi : i + 4 ≤ L) (ht : t ≤ 51200) (xs : Nat → Int32) {a b : twS} {g : Int32} (w : Nat → Int64) (h : twR t (t, g) a b) : okT L i t rec (f_law_17 rec L xs (nI i) a b w) := by
  have e1 : nI i + 1 = nI (i + 1) := nI_add i 1
  have e2 : nI i + 2 = nI (i + 2) := nI_add i 2
  have e3 : nI i + 3 = nI (i + 3) := nI_add i 3
  have e4 : nI i + 4 = nI (i + 4) := nI_add i 4
  have b1 : twb (nI (i + 1)) L = true := tp_b (by omega) (by omega)
  have b2 : twb (nI (i + 2)) L = true := tp_b (by omega) (by omega)
  have b3 : twb (nI (i + 3)) L = true := tp_b (by omega) (by omega)
  unfold f_law_17
  simp only [e1, e2, e3, e4, b1, b2, b3, if_true]
  exact glI (q_count h w _) h rec
theorem lq_18 (rec : Int32 → twS → twS → (Nat → Int64) → Option Int32) {L i t : Nat} (hL : L ≤ 2048) (hi : i + 4 ≤ L) (ht : t ≤ 51200) (xs : Nat → Int32) {a b : twS} {g : Int32} (w : Nat → Int64) (h : twR t (t, g) a b) : okT L i t rec (f_law_18 rec L xs (nI i) a b w) := by
  have e1 : nI i + 1 = nI (i + 1) := nI_add i 1
  have e2 : nI i + 2 = nI (i + 2) := nI_add i 2
  have e3 : nI i + 3 = nI (i + 3) := nI_add i 3
  have e4 : nI i + 4 = nI (i + 4) := nI_add i 4
  have b1 : twb (nI (i + 1)) L = true := tp_b (by omega) (by omega)
  have b2 : twb (nI (i + 2)) L = true := tp_b (by omega) (by omega)
  have b3 : twb (nI (i + 3)) L = true := tp_b (by omega) (by omega)
  unfold f_law_18
  simp only [e1, e2, e3, e4, b1, b2, b3, if_true]
  exact glQ (q_gone h) h rec
theorem lq_19 (rec : Int32 → twS → twS → (Nat → Int64) → Option Int32) {L i t : Nat} (hL : L ≤ 2048) (hi : i + 4 ≤ L) (ht : t ≤ 51200) (xs : Nat → Int32) {a b : twS} {g : Int32} (w : Nat → Int64) (h : twR t (t, g) a b) : okT L i t rec (f_law_19 rec L xs (nI i) a b w) := by
  have e1 : nI i + 1 = nI (i + 1) := nI_add i 1
  have e2 : nI i + 2 = nI (i + 2) := nI_add i 2
  have e3 : nI i + 3 = nI (i + 3) := nI_add i 3
  have e4 : nI i + 4 = nI (i + 4) := nI_add i 4
  have b1 : twb (nI (i + 1)) L = true := tp_b (by omega) (by omega)
  have b2 : twb (nI (i + 2)) L = true := tp_b (by omega) (by omega)
  have b3 : twb (nI (i + 3)) L = true := tp_b (by omega) (by omega)
  unfold f_law_19
  simp only [e1, e2, e3, e4, b1, b2, b3, if_true]
  exact glQ (q_balances h) h rec
theorem lq_b (rec : Int32 → twS → twS → (Nat → Int64) → Option Int32) {L i t : Nat} (hL : L ≤ 2048) (hi : i ≤ L) (ht : t ≤ 51200) (xs : Nat → Int32) {a b : twS} {g : Int32} (w : Nat → Int64) (h : twR t (t, g) a b) : f_law_b rec L xs (nI i) a b w = some 1 ∧ L < i + 4 ∨ i + 4 ≤ L ∧ okT L i t rec (f_law_b rec L xs (nI i) a b w) := by
  unfold f_law_b
  have z4 : (4 : Int32).toInt = 4 := by decide
  have hs : (nI L - 4).toInt = (L : Int) - 4 := by
    rw [Int32.toInt_sub, nI_toInt (by omega), z4, Int.bmod_eq_of_le (by omega) (by omega)]
  by_cases c : L < i + 4
  · left
    refine ⟨if_pos ?_, c⟩
    rw [Int32.lt_iff_toInt_lt, hs, nI_toInt (by omega)]
    omega
  · right
    have hi4 : i + 4 ≤ L := by omega
    refine ⟨hi4, ?_⟩
    have hb : twb (nI i) L = true := tp_b (by omega) (by omega)
    rw [if_neg (by rw [Int32.lt_iff_toInt_lt, hs, nI_toInt (by omega)]; omega), if_pos hb]
    generalize xs (nI i).toNatClampNeg &&& 31 = K
    by_cases k0 : K = 0
    · rw [if_pos k0]
      exact lq_0 rec hL hi4 ht xs w h
    rw [if_neg k0]
    by_cases k1 : K = 1
    · rw [if_pos k1]
      exact lq_1 rec hL hi4 ht xs w h
    rw [if_neg k1]
    by_cases k2 : K = 2
    · rw [if_pos k2]
      exact lq_2 rec hL hi4 ht xs w h
    rw [if_neg k2]
    by_cases k3 : K = 3
    · rw [if_pos k3]
      exact lq_3 rec hL hi4 ht xs w h
    rw [if_neg k3]
    by_cases k4 : K = 4
    · rw [if_pos k4]
      exact lq_4 rec hL hi4 ht xs w h
    rw [if_neg k4]
    by_cases k5 : K = 5
    · rw [if_pos k5]
      exact lq_5 rec hL hi4 ht xs w h
    rw [if_neg k5]
    by_cases k6 : K = 6
    · rw [if_pos k6]
      exact lq_6 rec hL hi4 ht xs w h
    rw [if_neg k6]
    by_cases k7 : K = 7
    · rw [if_pos k7]
      exact lq_7 rec hL hi4 ht xs w h
    rw [if_neg k7]
    by_cases k8 : K = 8
    · rw [if_pos k8]
      exact lq_8 rec hL hi4 ht xs w h
    rw [if_neg k8]
    by_cases k9 : K = 9
    · rw [if_pos k9]
      exact lq_9 rec hL hi4 ht xs w h
    rw [if_neg k9]
    by_cases k10 : K = 10
    · rw [if_pos k10]
      exact lq_10 rec hL hi4 ht xs w h
    rw [if_neg k10]
    by_cases k11 : K = 11
    · rw [if_pos k11]
      exact lq_11 rec hL hi4 ht xs w h
    rw [if_neg k11]
    by_cases k12 : K = 12
    · rw [if_pos k12]
      exact lq_12 rec hL hi4 ht xs w h
    rw [if_neg k12]
    by_cases k13 : K = 13
    · rw [if_pos k13]
      exact lq_13 rec hL hi4 ht xs w h
    rw [if_neg k13]
    by_cases k14 : K = 14
    · rw [if_pos k14]
      exact lq_14 rec hL hi4 ht xs w h
    rw [if_neg k14]
    by_cases k15 : K = 15
    · rw [if_pos k15]
      exact lq_15 rec hL hi4 ht xs w h
    rw [if_neg k15]
    by_cases k16 : K = 16
    · rw [if_pos k16]
      exact lq_16 rec hL hi4 ht xs w h
    rw [if_neg k16]
    by_cases k17 : K = 17
    · rw [if_pos k17]
      exact lq_17 rec hL hi4 ht xs w h
    rw [if_neg k17]
    by_cases k18 : K = 18
    · rw [if_pos k18]
      exact lq_18 rec hL hi4 ht xs w h
    rw [if_neg k18]
    by_cases k19 : K = 19
    · rw [if_pos k19]
      exact lq_19 rec hL hi4 ht xs w h
    rw [if_neg k19]
    exact ⟨a, b, w, t, g, by rw [show nI i + 4 = nI (i + 4) from nI_add i 4], Nat.le_refl t, by omega, h⟩
theorem tp_law {L : Nat} (hL : L ≤ 2048) (xs : Nat → Int32) : ∀ (n i t : Nat) (g : Int32) (a b : twS) (w : Nat → Int64), i ≤ L → L < i + 4 * n → t ≤ 25 * i → twR t (t, g) a b → f_law L xs n (nI i) a b w = some 1 := by
  intro n
  induction n with
  | zero =>
    intro i t g a b w h1 h2
    omega
  | succ n ih =>
    intro i t g a b w h1 h2 h3 hR
    show f_law_b (f_law L xs n) L xs (nI i) a b w = some 1
    rcases lq_b (f_law L xs n) hL h1 (by omega) xs w hR with ⟨e, -⟩ | ⟨hi4, a', b', w', t', g', e, ht1, ht2, hR'⟩
    · exact e
    · rw [e]
      exact ih (i + 4) t' g' a' b' w' hi4 (by omega) (by omega) hR'
theorem tp_start : twR 0 (0, 0) twT0 twM0 := by
  refine ⟨⟨fun _ _ => rfl, fun k _ => ⟨rfl, rfl, rfl, Or.inr (Or.inl rfl), Or.inr (Or.inl rfl)⟩⟩, ⟨rfl, rfl, ⟨40, by omega, by decide⟩, Or.inl rfl, rfl, fp_start⟩, ⟨rfl, rfl, rfl, rfl, rfl, ⟨0, Nat.le_refl 0, rfl, rfl⟩, Or.inl rfl⟩, ⟨fun _ _ => ⟨rfl, rfl⟩, rfl, rfl, ⟨6, by omega, rfl⟩, rfl⟩, ⟨fun _ _ => rfl, rfl⟩, fun k hk => ⟨(bit_zero hk).symm, (bit_zero hk).symm, (bit_zero hk).symm⟩, ⟨rfl, Or.inl rfl, rfl, rfl, fun k _ => ⟨rfl, rfl, rfl, ⟨0, by omega, rfl⟩, 0, by omega, rfl⟩, 0, 0, by omega, by omega, rfl, rfl, fun _ => rfl, fun q => absurd rfl q⟩, ⟨rfl, rfl, 0, by omega, rfl, fun _ _ _ => rfl, fun k hk => absurd hk (Nat.not_lt_zero k)⟩, rfl, rfl⟩
theorem tp_all {L : Nat} (hL : L ≤ 2048) (xs : Nat → Int32) (w : Nat → Int64) : f_law L xs 600 0 twT0 twM0 w = some 1 := tp_law hL xs 600 0 0 0 twT0 twM0 w (by omega) (by omega) (by omega) tp_start
