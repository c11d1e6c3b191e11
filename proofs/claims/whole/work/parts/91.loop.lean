/-! ===== the law: its loop ===== -/
theorem lw_loop {p : Program} {l : Launch} {e : Env} {s : State} {m : MethodId} {args : Array Value} {below : List Frame} {meth : Method} {c : Code} {Q : State → Prop} {dC : Nat → ClassId} {dI : Nat → Nat → Nat} {cI cZ cJ : ClassId} {q r : Nat → Nat} {o b L : Nat} {xs : Nat → Int32} {A : Nat → Prop} (C : twC p s m args meth c cL_law 7 RL wsL_law (dC, dI) (twY3 cI cZ cJ) A) (hE : ∀ (pc k n : Nat) (lv : List (Nat × Value)) (ws : va_W), decode cL_law pc = .ok (.ireturn, 1) → k ≤ 1070 → n ≤ 8788 → twG p l e room_1 s m args below meth c k n Q (dC, dI) A 7 ws pc lv [.int 1]) (hX : va_X b L xs s s.heap) (hbl : b < s.heap.size) (hbA : ¬ A b) (X0 : twXf A s s.heap) (hNc : twNcs s) (hl0 : l.stackTraces = false) : ∀ (n nc ns : Nat), nc + n ≤ 1070 → ns + 6 * n ≤ 8788 → ∀ (v4 : Int32) (a b9 : twS) (w : Nat → Int64), f_law L xs n v4 a b9 w = some 1 → twG p l e room_1 s m args below meth c nc ns Q (dC, dI) A 7 (twLW cI cZ cJ q r o a b9 w) 23 [(0, .ref b), (1, .ref (q 0)), (2, .ref (r 0)), (3, .ref o), (4, .int v4)] [] := by
  intro n
  induction n with
  | zero =>
    intro nc ns h1 h2 v4 a b9 w hf
    exact absurd (show (none : Option Int32) = some 1 from hf) (by simp)
  | succ n ih =>
    intro nc ns h1 h2 v4 a b9 w hf
    exact k_law_b (rec := f_law L xs n) C hE hX hbl hbA X0 hNc hl0 (by omega) (by omega) (fun v4 a b9 w h => ih (nc + 1) (ns + 6) (by omega) (by omega) v4 a b9 w h) v4 a b9 w hf
