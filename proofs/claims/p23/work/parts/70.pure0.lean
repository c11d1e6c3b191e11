/-! ===== the pure side: states, numbers, loops ===== -/
theorem tp_b {k n : Nat} (h : k < n) (hn : n < 2 ^ 31) : twb (nI k) n = true := decide_eq_true (nI_in h hn)
theorem tp_c {k : Nat} (h : k < 2 ^ 31) : (nI k).toNatClampNeg = k := nI_clamp h
theorem tp_i1 (st : twS) (k : Nat) (v : Int32) (j : Nat) : (twI st k v).1 j = if j = k then v else st.1 j := rfl
theorem tp_i2 (st : twS) (k : Nat) (v : Int32) : (twI st k v).2 = st.2 := rfl
theorem tp_a1 (st : twS) (k : Nat) (i v : Int32) : (twA st k i v).1 = st.1 := rfl
theorem tp_a2 (st : twS) (k : Nat) (i v : Int32) (j : Nat) : (twA st k i v).2.1 j = if j = k then upd (st.2.1 k) i.toNatClampNeg v else st.2.1 j := rfl
theorem tp_aa (st : twS) (k : Nat) (i v : Int32) (m : Nat) : (twA st k i v).2.1 k m = if m = i.toNatClampNeg then v else st.2.1 k m := by
  rw [tp_a2, if_pos rfl]
  rfl
theorem tp_ab (st : twS) (k : Nat) (i v : Int32) {j : Nat} (h : j ≠ k) : (twA st k i v).2.1 j = st.2.1 j := by
  rw [tp_a2, if_neg h]
theorem tp_a3 (st : twS) (k : Nat) (i v : Int32) : (twA st k i v).2.2 = st.2.2 := rfl
theorem tp_l1 (st : twS) (v : Int64) : (twL st v).1 = st.1 := rfl
theorem tp_l2 (st : twS) (v : Int64) : (twL st v).2.1 = st.2.1 := rfl
theorem tp_l3 (st : twS) (v : Int64) : (twL st v).2.2 = (v, st.2.2.2) := rfl
theorem tp_d1 (st : twS) (v : UInt64) : (twD st v).1 = st.1 := rfl
theorem tp_d2 (st : twS) (v : UInt64) : (twD st v).2.1 = st.2.1 := rfl
theorem tp_d3 (st : twS) (v : UInt64) : (twD st v).2.2 = (st.2.2.1, v) := rfl
theorem tp_u (f : Nat → Int32) (k : Nat) (x : Int32) (j : Nat) : upd f k x j = if j = k then x else f j := rfl
theorem tp_s (n : Nat) : nI n + 1 = nI (n + 1) := nI_1 n
theorem tp_z : (0 : Int32) = nI 0 := rfl
theorem tp_n0 : vp_nar .boolean 0 = 0 := rfl
theorem tp_n1 : vp_nar .boolean 1 = 1 := rfl
/-- one loop: at most N - k turns more -/
theorem tp_loop {α ρ : Type} (F : Nat → Nat → α → Option ρ) (N : Nat) (P : Nat → α → Prop) (Q : ρ → Prop)
    (hs : ∀ k a, k < N → P k a → (∃ a1, (∀ n, F (n + 1) k a = F n (k + 1) a1) ∧ P (k + 1) a1) ∨ ∃ r, (∀ n, F (n + 1) k a = some r) ∧ Q r)
    (he : ∀ a, P N a → ∃ r, (∀ n, F (n + 1) N a = some r) ∧ Q r) : ∀ (j k : Nat) (a : α) (n : Nat), k + j = N → j < n → P k a → ∃ r, F n k a = some r ∧ Q r := by
  intro j
  induction j with
  | zero =>
    intro k a n hk hn hP
    obtain ⟨n, rfl⟩ : ∃ m, n = m + 1 := ⟨n - 1, by omega⟩
    have e : k = N := by omega
    subst e
    obtain ⟨r, h1, h2⟩ := he a hP
    exact ⟨r, h1 n, h2⟩
  | succ j ih =>
    intro k a n hk hn hP
    obtain ⟨n, rfl⟩ : ∃ m, n = m + 1 := ⟨n - 1, by omega⟩
    rcases hs k a (by omega) hP with ⟨a1, h1, h2⟩ | ⟨r, h1, h2⟩
    · rw [h1]
      exact ih (k + 1) a1 n (by omega) (by omega) h2
    · exact ⟨r, h1 n, h2⟩
/-- two loops side by side -/
theorem tp_loop2 {α β ρ σ : Type} (F : Nat → Nat → α → Option ρ) (G : Nat → Nat → β → Option σ) (N : Nat) (P : Nat → α → β → Prop) (Q : ρ → σ → Prop)
    (hs : ∀ k a b, k < N → P k a b → (∃ a1 b1, (∀ n, F (n + 1) k a = F n (k + 1) a1) ∧ (∀ n, G (n + 1) k b = G n (k + 1) b1) ∧ P (k + 1) a1 b1) ∨ ∃ r s, (∀ n, F (n + 1) k a = some r) ∧ (∀ n, G (n + 1) k b = some s) ∧ Q r s)
    (he : ∀ a b, P N a b → ∃ r s, (∀ n, F (n + 1) N a = some r) ∧ (∀ n, G (n + 1) N b = some s) ∧ Q r s) : ∀ (j k : Nat) (a : α) (b : β) (n m : Nat), k + j = N → j < n → j < m → P k a b → ∃ r s, F n k a = some r ∧ G m k b = some s ∧ Q r s := by
  intro j
  induction j with
  | zero =>
    intro k a b n m hk hn hm hP
    obtain ⟨n, rfl⟩ : ∃ m, n = m + 1 := ⟨n - 1, by omega⟩
    obtain ⟨m, rfl⟩ : ∃ n, m = n + 1 := ⟨m - 1, by omega⟩
    have e : k = N := by omega
    subst e
    obtain ⟨r, s, h1, h2, h3⟩ := he a b hP
    exact ⟨r, s, h1 n, h2 m, h3⟩
  | succ j ih =>
    intro k a b n m hk hn hm hP
    obtain ⟨n, rfl⟩ : ∃ m, n = m + 1 := ⟨n - 1, by omega⟩
    obtain ⟨m, rfl⟩ : ∃ n, m = n + 1 := ⟨m - 1, by omega⟩
    rcases hs k a b (by omega) hP with ⟨a1, b1, h1, h2, h3⟩ | ⟨r, s, h1, h2, h3⟩
    · rw [h1, h2]
      exact ih (k + 1) a1 b1 n m (by omega) (by omega) (by omega) h3
    · exact ⟨r, s, h1 n, h2 m, h3⟩
/-! the relation of the class's numbers and the reference's -/
def bitI (x : Int32) (k : Nat) : Int32 := (x >>> (nI k &&& 31)) &&& 1
def tri (x : Int32) : Prop := x = -1 ∨ x = 0 ∨ x = 1
def seg (x : Int32) : Prop := ∃ j, j < 12 ∧ x = nI j
def Rfan (A8 A10 A11 A12 B6 B3 B4 B5 : Nat → Int32) : Prop := (∀ k, k < 2 → A8 k = B6 k) ∧ ∀ k, k < 3 → A10 k = B3 k ∧ A11 k = B4 k ∧ A12 k = B5 k ∧ tri (A10 k) ∧ tri (A11 k)
def Rfire (t : Nat) (a8 a9 a10 a11 a12 : Int32) (ag : Int64) (b18 b19 b14 b11 b21 b20 : Int32) : Prop := a8 = b18 ∧ a9 = b19 ∧ a10 = b14 ∧ a11 = b11 ∧ a12 = b21 ∧ (∃ n, n ≤ t ∧ ag = lN n ∧ b20 = nI n) ∧ (a8 = -1 ∨ seg a8 ∧ ∃ z, 1 ≤ z ∧ z ≤ 200 ∧ a9 = nI z)
def Rair (A13 A14 B1 B2 : Nat → Int32) (a7 b22 a0 b9 a1 b10 : Int32) : Prop := (∀ k, k < 12 → A13 k = B1 k ∧ A14 k = B2 k) ∧ a7 = b22 ∧ a0 = b9 ∧ seg a0 ∧ a1 = b10
def Rdet (A9 B7 : Nat → Int32) (x g : Int32) : Prop := (∀ k, k < 36 → A9 k = B7 k) ∧ x = g
def Rdoor (A16 A17 A18 : Nat → Int32) (b6 b7 b8 : Int32) : Prop := ∀ k, k < 12 → A16 k = bitI b6 k ∧ A17 k = bitI b7 k ∧ A18 k = bitI b8 k
def Rchart (t : Nat) (a3 a13 a14 a15 : Int32) (A19 A20 A21 : Nat → Int32) (b24 b25 b29 b30 : Int32) (B8 B9 B10 : Nat → Int32) : Prop := a3 = b24 ∧ (a3 = -1 ∨ seg a3) ∧ a13 = b25 ∧ a14 = b29 ∧ (∀ k, k < 10 → A19 k = B8 k ∧ A20 k = B9 k ∧ A21 k = B10 k ∧ (∃ w, w ≤ 43 ∧ A20 k = nI w) ∧ ∃ z, z < 8 ∧ A19 k = nI z) ∧ ∃ c n, c ≤ 10 ∧ n ≤ c ∧ a13 = nI c ∧ a14 = nI n ∧ (a3 = -1 → n = 0) ∧ (a3 ≠ -1 → n < c → ∃ s w, s ≤ t ∧ w ≤ 43 ∧ t ≤ s + w ∧ a15 = nI s ∧ A20 n = nI w ∧ b30 = nI (s + w))
def Rone (t : Nat) (a22 a23 a24 a25 b11 b12 b13 b14 : Int32) : Prop := a22 = b11 ∧ a25 = b14 ∧ (b11 = 3 → a23 = -1) ∧ (b11 ≠ 3 → a23 = b12) ∧ (∃ s, s ≤ 4 ∧ b11 = nI s) ∧ seg b12 ∧ (b11 = 1 → a24 = b13 ∧ ∃ r, r ≤ t ∧ b13 = nI r)
def Rcrowd (t : Nat) (a16 a2 b31 b13 : Int32) (A22 A23 A24 A25 B11 B12 B13 B14 : Nat → Int32) : Prop := a2 = b13 ∧ a16 = b31 ∧ ∃ p, p ≤ 30 ∧ a16 = nI p ∧ (∀ k, p ≤ k → k < 30 → B11 k = 0) ∧ ∀ k, k < p → Rone t (A22 k) (A23 k) (A24 k) (A25 k) (B11 k) (B12 k) (B13 k) (B14 k)
def dU (x : UInt64) : Int := FP.Core.zval FP.Core.b64 (FP.Core.val64 x)
def Fok (x : UInt64) : Prop := FP.Core.DFin x ∧ -(90 * (2 : Int) ^ 1074) ≤ dU x ∧ dU x ≤ 90 * (2 : Int) ^ 1074
def Rflow (a5 a6 b15 b12 : Int32) (d d' : UInt64) : Prop := a5 = b15 ∧ a6 = b12 ∧ (∃ z : Nat, z ≤ 80 ∧ a5 = nI z - 40) ∧ (a6 = 0 ∨ a6 = 1) ∧ d = d' ∧ Fok d
def twR (t : Nat) (u : Nat × Int32) (a b : twS) : Prop :=
  Rfan (a.2.1 8) (a.2.1 10) (a.2.1 11) (a.2.1 12) (b.2.1 6) (b.2.1 3) (b.2.1 4) (b.2.1 5) ∧
  Rflow (a.1 5) (a.1 6) (b.1 15) (b.1 12) a.2.2.2 b.2.2.2 ∧
  Rfire u.1 (a.1 8) (a.1 9) (a.1 10) (a.1 11) (a.1 12) a.2.2.1 (b.1 18) (b.1 19) (b.1 14) (b.1 11) (b.1 21) (b.1 20) ∧
  Rair (a.2.1 13) (a.2.1 14) (b.2.1 1) (b.2.1 2) (a.1 7) (b.1 22) (a.1 0) (b.1 9) (a.1 1) (b.1 10) ∧
  Rdet (a.2.1 9) (b.2.1 7) (b.1 36) u.2 ∧
  Rdoor (a.2.1 16) (a.2.1 17) (a.2.1 18) (b.1 6) (b.1 7) (b.1 8) ∧
  Rchart t (a.1 3) (a.1 13) (a.1 14) (a.1 15) (a.2.1 19) (a.2.1 20) (a.2.1 21) (b.1 24) (b.1 25) (b.1 29) (b.1 30) (b.2.1 8) (b.2.1 9) (b.2.1 10) ∧
  Rcrowd t (a.1 16) (a.1 2) (b.1 31) (b.1 13) (a.2.1 22) (a.2.1 23) (a.2.1 24) (a.2.1 25) (b.2.1 11) (b.2.1 12) (b.2.1 13) (b.2.1 14) ∧
  a.1 4 = nI t ∧ b.1 0 = nI t
