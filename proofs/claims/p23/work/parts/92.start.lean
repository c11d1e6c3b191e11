theorem tw_ar {args : Array Value} {s : State} {ty : FieldType} (hty : ty = .int ∨ ty = .boolean ∨ ty = .long) (h : (Cond.arrayClass ty).before args s = true) : ∃ cA : ClassId, ArrOfT s cA ty ∧ va_RA s cA ty := by
  obtain ⟨cA, kA, comp, h1, h2, h3⟩ := Cond.arrayClass_spec h
  refine ⟨cA, fun n z => ⟨fun k h => (by cases h), kA, h2, comp, h3⟩, ?_⟩
  rcases hty with rfl | rfl | rfl <;> exact h1
/-! ===== the law: its entry ===== -/
def lwC (c0 c1 c2 c3 c4 c5 c6 c7 : ClassId) (k : Nat) : ClassId := if k = 0 then c0 else if k = 1 then c1 else if k = 2 then c2 else if k = 3 then c3 else if k = 4 then c4 else if k = 5 then c5 else if k = 6 then c6 else c7
def lwI (i0 i1 i2 i3 i4 i5 i6 i7 : Nat → Nat) (k : Nat) : Nat → Nat := if k = 0 then i0 else if k = 1 then i1 else if k = 2 then i2 else if k = 3 then i3 else if k = 4 then i4 else if k = 5 then i5 else if k = 6 then i6 else i7
theorem lw_str {own t : String} {k n : Nat} {s : State} {args : Array Value} (h1 : (Cond.instantiable own n).before args s = true) (h2 : (Cond.stringRef own k t).before args s = true) : ∃ a, vk_R own k t a s := by
  obtain ⟨cC, kC, hfc, -⟩ := Cond.instantiable_spec h1
  obtain ⟨k', cf, i, a, -, -, -, -, -, hev⟩ := Cond.stringRef_spec hfc h2
  exact ⟨a, vk_R.of h2 hev⟩
set_option maxRecDepth 20000 in
theorem whole_start {p : Program} {e : Env} {s : State} {m : MethodId} {below : List Frame} {meth : Method} {c : Code} (l : Launch) (hflags : l.flags = flags0) {b L : Nat} {xs : Nat → Int32} (hL : L ≤ 260) (C0 : lw_At p s m meth c b L xs) : W p l e room_1 s m #[Value.ref b] below meth c s.heap [] 0 0 (lw_Z below #[Value.ref b] s) (entryFrame m ([Value.ref b] : List Value).toArray 14) := by
  obtain ⟨hx, hb, hr, hml, hown, hts, hX, hbl, hlocks, hgv⟩ := C0
  have hq := flat_of_before _ hgv
  have hl0 : l.stackTraces = false := by
    unfold Launch.stackTraces
    rw [hflags]
    decide +kernel
  obtain ⟨cI, hI⟩ := tw_ar (Or.inl rfl) (hts (.arrayClass .int) (by decide +kernel))
  obtain ⟨cZ, hZ⟩ := tw_ar (Or.inr (Or.inl rfl)) (hts (.arrayClass .boolean) (by decide +kernel))
  obtain ⟨c0, i0, u0⟩ := u_known (C := RX0) (T := TX0) (N := 4) (n := 4) hts (by decide +kernel) (hts _ (by decide +kernel))
  obtain ⟨c1, i1, u1⟩ := u_known (C := RX1) (T := TX1) (N := 6) (n := 6) hts (by decide +kernel) (hts _ (by decide +kernel))
  obtain ⟨c2, i2, u2⟩ := u_known (C := RX2) (T := TX2) (N := 6) (n := 6) hts (by decide +kernel) (hts _ (by decide +kernel))
  obtain ⟨c3, i3, u3⟩ := u_known (C := RX3) (T := TX3) (N := 5) (n := 5) hts (by decide +kernel) (hts _ (by decide +kernel))
  obtain ⟨c4, i4, u4⟩ := u_known (C := RX4) (T := TX4) (N := 3) (n := 3) hts (by decide +kernel) (hts _ (by decide +kernel))
  obtain ⟨c5, i5, u5⟩ := u_known (C := RX5) (T := TX5) (N := 3) (n := 3) hts (by decide +kernel) (hts _ (by decide +kernel))
  obtain ⟨c6, i6, u6⟩ := u_known (C := RX6) (T := TX6) (N := 3) (n := 3) hts (by decide +kernel) (hts _ (by decide +kernel))
  obtain ⟨c7, i7, u7⟩ := u_known (C := RX7) (T := TX7) (N := 14) (n := 14) hts (by decide +kernel) (hts _ (by decide +kernel))
  have hK : va_K (lwC c0 c1 c2 c3 c4 c5 c6 c7, lwI i0 i1 i2 i3 i4 i5 i6 i7) vwCl (twY cI cZ) s := by
    refine ⟨fun k q hq => ?_, fun k q hq => ?_⟩
    · match k, hq with
      | 0, hq => cases hq; exact u0
      | 1, hq => cases hq; exact u1
      | 2, hq => cases hq; exact u2
      | 3, hq => cases hq; exact u3
      | 4, hq => cases hq; exact u4
      | 5, hq => cases hq; exact u5
      | 6, hq => cases hq; exact u6
      | 7, hq => cases hq; exact u7
      | k + 8, hq => cases hq
    · match k, hq with
      | 0, hq => cases hq; exact hI
      | 1, hq => cases hq; exact hZ
      | k + 2, hq => cases hq
  have hNs : twNs s := ⟨va_Nw.of rfl (hts _ (by decide +kernel)), va_Nw.of rfl (hts _ (by decide +kernel)), va_Nw.of rfl (hts _ (by decide +kernel))⟩
  have hNi : twNi s := ⟨va_Nw.of rfl (hts _ (by decide +kernel)), va_Nw.of rfl (hts _ (by decide +kernel)), va_Nw.of rfl (hts _ (by decide +kernel)), va_Nw.of rfl (hts _ (by decide +kernel)), va_Nw.of rfl (hts _ (by decide +kernel)), va_Nw.of rfl (hts _ (by decide +kernel)), va_Nw.of rfl (hts _ (by decide +kernel))⟩
  have hNc : twNcs s := ⟨va_Nc.of (hq _ (by decide +kernel)), va_Nc.of (hq _ (by decide +kernel)), va_Nc.of (hq _ (by decide +kernel))⟩
  have hA0 : ∀ a : Nat, a < s.heap.size → ¬ s.heap.size ≤ a := fun a h1 h2 => by omega
  have h7 : (Cond.instantiable RX7 14).before #[Value.ref b] s = true := hts _ (by decide +kernel)
  have X0 : twXf (fun q => s.heap.size ≤ q) s s.heap := ⟨vx_Zqof (hts _ (by decide +kernel)) (hts _ (by decide +kernel)) (hq _ (by decide +kernel)) hA0, vx_Zqof (hts _ (by decide +kernel)) (hts _ (by decide +kernel)) (hq _ (by decide +kernel)) hA0, lw_str h7 (hts _ (by decide +kernel)), lw_str h7 (hts _ (by decide +kernel)), lw_str h7 (hts _ (by decide +kernel)), lw_str h7 (hts _ (by decide +kernel)), va_Nw.of rfl (hts _ (by decide +kernel)), va_Nw.of rfl (hts _ (by decide +kernel)), va_Nw.of rfl (hts _ (by decide +kernel)), va_Nw.of rfl (hts _ (by decide +kernel)), va_Nw.of rfl (hts _ (by decide +kernel)), va_Nw.of rfl (hts _ (by decide +kernel))⟩
  have C : twC p s m #[Value.ref b] meth c cL_law 14 RL wsL_law (lwC c0 c1 c2 c3 c4 c5 c6 c7, lwI i0 i1 i2 i3 i4 i5 i6 i7) (twY cI cZ) (fun q => s.heap.size ≤ q) := ⟨hx, hb, hml, hlocks, hown, fun w h => hts w (wsL_law_in w h), hK, fun q h => h, hNs⟩
  have C2 : twC p s m #[Value.ref b] meth c cL_law 14 RL lw_tbl (lwC c0 c1 c2 c3 c4 c5 c6 c7, lwI i0 i1 i2 i3 i4 i5 i6 i7) (twY cI cZ) (fun q => s.heap.size ≤ q) := ⟨hx, hb, hml, hlocks, hown, hts, hK, fun q h => h, hNs⟩
  have hE : ∀ (pc k n : Nat) (lv : List (Nat × Value)) (ws : va_W), decode cL_law pc = .ok (.ireturn, 1) → k ≤ 160 → n ≤ 1377 → twG p l e room_1 s m #[Value.ref b] below meth c k n (lw_Z below #[Value.ref b] s) (lwC c0 c1 c2 c3 c4 c5 c6 c7, lwI i0 i1 i2 i3 i4 i5 i6 i7) (fun q => s.heap.size ≤ q) 14 ws pc lv [.int 1] := by
    intro pc k n lv ws hdg hk hn H locs ls hl hP hD hS
    refine va_forget (fun q h => hS.2.2 q h) ?_
    refine W.widen hk hn ?_
    refine W.base ?_
    exact lw_ret (Drawn.sameBut.refl s.drawn lw_cs) hx hb hr hlocks hdg
  rw [lg_entry_eq]
  have hlv := lv_entry ([.ref b] : List Value) (n := 14) (Nat.le_of_ble_eq_true rfl)
  suffices h : twG p l e room_1 s m #[Value.ref b] below meth c 0 0 (lw_Z below #[Value.ref b] s) (lwC c0 c1 c2 c3 c4 c5 c6 c7, lwI i0 i1 i2 i3 i4 i5 i6 i7) (fun q => s.heap.size ≤ q) 14 [] 0 [(0, .ref b)] [] from
    h s.heap [] _ hlv (fun k q hk => absurd hk (by simp)) ⟨fun i j p q h => absurd h (by simp), fun k q h => absurd h (by simp)⟩ va_S.rf
  refine tw_new (K := RX7) (T := TX7) (N := 14) (ci := 7) (fs := [.null, .null, .null, .null, .null, .null, .null, .null, .null, .int 0, .int 0, .int 0, .int 0, .int 0]) C2 (by decide +kernel) tyX7 tyX7_ok (by decide +kernel) (by decide +kernel) (by decide +kernel) rfl (by decide +kernel) (Nat.le_of_ble_eq_true rfl) (Nat.le_of_ble_eq_true rfl) dL_law_0 (fun h0 => ?_)
  refine tw_dup C dL_law_3 rfl ?_
  refine tw_kI (N := fun U => twNs U ∧ twNi U) (As := []) (stk := [.ref h0]) (Wr := []) C (fun u => twT cI cZ (fun k => if k = 0 then h0 else u k) twT0) (isC := [0]) (isR := []) (ix := List.range 26) (ki := [0, 1]) (fun u => ⟨rfl, rfl, rfl, rfl, by decide, rfl, rfl⟩) rfl (fun _ _ v h => ⟨h.1.same v, h.2.same v⟩) (fun U hW => ⟨hNs.warm hW, hNi.warm hW⟩) (c_X7_init l _ _ cI cZ h0) (cwI 0 C.hts gL_law_X7_init rfl rfl rfl (hts _ (by decide +kernel)) (hts _ (by decide +kernel)) (hts _ (by decide +kernel)) rfl (by decide +kernel) ⟨Nat.le_of_ble_eq_true rfl, Nat.le_of_ble_eq_true rfl⟩) rfl rfl (Nat.le_of_ble_eq_true rfl) dL_law_4 ⟨Nat.le_of_ble_eq_true rfl, Nat.le_of_ble_eq_true rfl⟩ (fun u => ?_)
  refine tw_astore_n (lv' := [(1, .ref h0), (0, .ref b)]) C dL_law_7 rfl (by decide) rfl ?_
  refine tw_sub (lv' := [(0, .ref b), (1, .ref h0)]) [1, 0] rfl ?_
  obtain ⟨res, hf, hr1⟩ := tq_all hL xs
  exact k_L_law8 (q := fun k => if k = 0 then h0 else u k) C hE hr1 hX hbl (fun h => hA0 b hbl h) X0 hNc hl0 (by omega) (by omega) hf
