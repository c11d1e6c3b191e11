section
-- ===== PART A: goes FIRST, ahead of the names: the tables' words, and 'selects' of the private methods out of them =====
/-- a private method of a class that the tables say can be made, by its rows of tables_1 -/
def lw_okq (q : MethodName × Nat) : Prop := (q.1.cls ≠ "java/lang/invoke/MethodHandle" ∧ q.1.cls ≠ "java/lang/invoke/VarHandle") ∧ Cond.instantiable q.1.cls q.2 ∈ tables_1 ∧ Cond.privateMethod q.1 ∈ tables_1 ∧ Cond.instanceMethod q.1 ∈ tables_1
theorem lw_p0 : lw_okq (⟨"java/lang/Throwable", "fillInStackTrace", "(I)Ljava/lang/Throwable;"⟩, 6) := ⟨⟨by decide +kernel, by decide +kernel⟩, List.mem_of_getElem? (i := 306) (by decide +kernel), List.mem_of_getElem? (i := 304) (by decide +kernel), List.mem_of_getElem? (i := 305) (by decide +kernel)⟩
theorem lw_p1 : lw_okq (⟨"TubeWatch", "hasPower", "()Z"⟩, 14) := ⟨⟨by decide +kernel, by decide +kernel⟩, List.mem_of_getElem? (i := 19) (by decide +kernel), List.mem_of_getElem? (i := 426) (by decide +kernel), List.mem_of_getElem? (i := 427) (by decide +kernel)⟩
theorem lw_p2 : lw_okq (⟨"TubeWatch", "requireDoor", "(I)V"⟩, 14) := ⟨⟨by decide +kernel, by decide +kernel⟩, List.mem_of_getElem? (i := 19) (by decide +kernel), List.mem_of_getElem? (i := 455) (by decide +kernel), List.mem_of_getElem? (i := 456) (by decide +kernel)⟩
theorem lw_p3 : lw_okq (⟨"TubeWatch", "doStep", "()V"⟩, 14) := ⟨⟨by decide +kernel, by decide +kernel⟩, List.mem_of_getElem? (i := 19) (by decide +kernel), List.mem_of_getElem? (i := 516) (by decide +kernel), List.mem_of_getElem? (i := 517) (by decide +kernel)⟩
theorem lw_p4 : lw_okq (⟨"TubeWatch", "burn", "()V"⟩, 14) := ⟨⟨by decide +kernel, by decide +kernel⟩, List.mem_of_getElem? (i := 19) (by decide +kernel), List.mem_of_getElem? (i := 546) (by decide +kernel), List.mem_of_getElem? (i := 547) (by decide +kernel)⟩
theorem lw_p5 : lw_okq (⟨"TubeWatch", "moveAir", "()V"⟩, 14) := ⟨⟨by decide +kernel, by decide +kernel⟩, List.mem_of_getElem? (i := 19) (by decide +kernel), List.mem_of_getElem? (i := 567) (by decide +kernel), List.mem_of_getElem? (i := 568) (by decide +kernel)⟩
theorem lw_p6 : lw_okq (⟨"TubeWatch$Air", "shift", "(III)V"⟩, 4) := ⟨⟨by decide +kernel, by decide +kernel⟩, List.mem_of_getElem? (i := 61) (by decide +kernel), List.mem_of_getElem? (i := 581) (by decide +kernel), List.mem_of_getElem? (i := 582) (by decide +kernel)⟩
theorem lw_p7 : lw_okq (⟨"TubeWatch", "watch", "()V"⟩, 14) := ⟨⟨by decide +kernel, by decide +kernel⟩, List.mem_of_getElem? (i := 19) (by decide +kernel), List.mem_of_getElem? (i := 602) (by decide +kernel), List.mem_of_getElem? (i := 603) (by decide +kernel)⟩
theorem lw_p8 : lw_okq (⟨"TubeWatch", "tellingIn", "(I)I"⟩, 14) := ⟨⟨by decide +kernel, by decide +kernel⟩, List.mem_of_getElem? (i := 19) (by decide +kernel), List.mem_of_getElem? (i := 606) (by decide +kernel), List.mem_of_getElem? (i := 607) (by decide +kernel)⟩
theorem lw_p9 : lw_okq (⟨"TubeWatch", "detectorWorks", "(II)Z"⟩, 14) := ⟨⟨by decide +kernel, by decide +kernel⟩, List.mem_of_getElem? (i := 19) (by decide +kernel), List.mem_of_getElem? (i := 615) (by decide +kernel), List.mem_of_getElem? (i := 616) (by decide +kernel)⟩
theorem lw_p10 : lw_okq (⟨"TubeWatch", "followChart", "()V"⟩, 14) := ⟨⟨by decide +kernel, by decide +kernel⟩, List.mem_of_getElem? (i := 19) (by decide +kernel), List.mem_of_getElem? (i := 627) (by decide +kernel), List.mem_of_getElem? (i := 628) (by decide +kernel)⟩
theorem lw_p11 : lw_okq (⟨"TubeWatch$Chart", "isAct", "(I)Z"⟩, 6) := ⟨⟨by decide +kernel, by decide +kernel⟩, List.mem_of_getElem? (i := 121) (by decide +kernel), List.mem_of_getElem? (i := 635) (by decide +kernel), List.mem_of_getElem? (i := 636) (by decide +kernel)⟩
theorem lw_p12 : lw_okq (⟨"TubeWatch", "perform", "(I)V"⟩, 14) := ⟨⟨by decide +kernel, by decide +kernel⟩, List.mem_of_getElem? (i := 19) (by decide +kernel), List.mem_of_getElem? (i := 643) (by decide +kernel), List.mem_of_getElem? (i := 644) (by decide +kernel)⟩
theorem lw_p13 : lw_okq (⟨"TubeWatch$Crowd", "liveOne", "(IIZILTubeWatch$Doors;)V"⟩, 5) := ⟨⟨by decide +kernel, by decide +kernel⟩, List.mem_of_getElem? (i := 146) (by decide +kernel), List.mem_of_getElem? (i := 668) (by decide +kernel), List.mem_of_getElem? (i := 669) (by decide +kernel)⟩
theorem lw_p14 : lw_okq (⟨"TubeWatch$Crowd", "isPerson", "(I)Z"⟩, 5) := ⟨⟨by decide +kernel, by decide +kernel⟩, List.mem_of_getElem? (i := 146) (by decide +kernel), List.mem_of_getElem? (i := 672) (by decide +kernel), List.mem_of_getElem? (i := 673) (by decide +kernel)⟩
theorem lw_p15 : lw_okq (⟨"TubeWatch$Crowd", "goOn", "(IILTubeWatch$Doors;)V"⟩, 5) := ⟨⟨by decide +kernel, by decide +kernel⟩, List.mem_of_getElem? (i := 146) (by decide +kernel), List.mem_of_getElem? (i := 676) (by decide +kernel), List.mem_of_getElem? (i := 677) (by decide +kernel)⟩
def lw_privs_1 : List (MethodName × Nat) := [(⟨"java/lang/Throwable", "fillInStackTrace", "(I)Ljava/lang/Throwable;"⟩, 6), (⟨"TubeWatch", "hasPower", "()Z"⟩, 14), (⟨"TubeWatch", "requireDoor", "(I)V"⟩, 14), (⟨"TubeWatch", "doStep", "()V"⟩, 14), (⟨"TubeWatch", "burn", "()V"⟩, 14), (⟨"TubeWatch", "moveAir", "()V"⟩, 14), (⟨"TubeWatch$Air", "shift", "(III)V"⟩, 4), (⟨"TubeWatch", "watch", "()V"⟩, 14), (⟨"TubeWatch", "tellingIn", "(I)I"⟩, 14), (⟨"TubeWatch", "detectorWorks", "(II)Z"⟩, 14), (⟨"TubeWatch", "followChart", "()V"⟩, 14), (⟨"TubeWatch$Chart", "isAct", "(I)Z"⟩, 6), (⟨"TubeWatch", "perform", "(I)V"⟩, 14), (⟨"TubeWatch$Crowd", "liveOne", "(IIZILTubeWatch$Doors;)V"⟩, 5), (⟨"TubeWatch$Crowd", "isPerson", "(I)Z"⟩, 5), (⟨"TubeWatch$Crowd", "goOn", "(IILTubeWatch$Doors;)V"⟩, 5)]
theorem lw_r1 : ∀ q ∈ lw_privs_1, lw_okq q := List.forall_mem_cons.mpr ⟨lw_p0, List.forall_mem_cons.mpr ⟨lw_p1, List.forall_mem_cons.mpr ⟨lw_p2, List.forall_mem_cons.mpr ⟨lw_p3, List.forall_mem_cons.mpr ⟨lw_p4, List.forall_mem_cons.mpr ⟨lw_p5, List.forall_mem_cons.mpr ⟨lw_p6, List.forall_mem_cons.mpr ⟨lw_p7, List.forall_mem_cons.mpr ⟨lw_p8, List.forall_mem_cons.mpr ⟨lw_p9, List.forall_mem_cons.mpr ⟨lw_p10, List.forall_mem_cons.mpr ⟨lw_p11, List.forall_mem_cons.mpr ⟨lw_p12, List.forall_mem_cons.mpr ⟨lw_p13, List.forall_mem_cons.mpr ⟨lw_p14, List.forall_mem_cons.mpr ⟨lw_p15, fun _ h => absurd h List.not_mem_nil⟩⟩⟩⟩⟩⟩⟩⟩⟩⟩⟩⟩⟩⟩⟩⟩
theorem lw_p16 : lw_okq (⟨"TubeWatch", "doorAnswer", "(I)I"⟩, 14) := ⟨⟨by decide +kernel, by decide +kernel⟩, List.mem_of_getElem? (i := 19) (by decide +kernel), List.mem_of_getElem? (i := 696) (by decide +kernel), List.mem_of_getElem? (i := 697) (by decide +kernel)⟩
theorem lw_p17 : lw_okq (⟨"TubeWatchModel", "goes", "(ZZZ)Z"⟩, 37) := ⟨⟨by decide +kernel, by decide +kernel⟩, List.mem_of_getElem? (i := 748) (by decide +kernel), List.mem_of_getElem? (i := 880) (by decide +kernel), List.mem_of_getElem? (i := 881) (by decide +kernel)⟩
theorem lw_p18 : lw_okq (⟨"TubeWatchModel", "hasPower", "()Z"⟩, 37) := ⟨⟨by decide +kernel, by decide +kernel⟩, List.mem_of_getElem? (i := 748) (by decide +kernel), List.mem_of_getElem? (i := 900) (by decide +kernel), List.mem_of_getElem? (i := 901) (by decide +kernel)⟩
theorem lw_p19 : lw_okq (⟨"TubeWatchModel", "doesStep", "()V"⟩, 37) := ⟨⟨by decide +kernel, by decide +kernel⟩, List.mem_of_getElem? (i := 748) (by decide +kernel), List.mem_of_getElem? (i := 934) (by decide +kernel), List.mem_of_getElem? (i := 935) (by decide +kernel)⟩
theorem lw_p20 : lw_okq (⟨"TubeWatchModel", "fans", "()V"⟩, 37) := ⟨⟨by decide +kernel, by decide +kernel⟩, List.mem_of_getElem? (i := 748) (by decide +kernel), List.mem_of_getElem? (i := 938) (by decide +kernel), List.mem_of_getElem? (i := 939) (by decide +kernel)⟩
theorem lw_p21 : lw_okq (⟨"TubeWatchModel", "flows", "()V"⟩, 37) := ⟨⟨by decide +kernel, by decide +kernel⟩, List.mem_of_getElem? (i := 748) (by decide +kernel), List.mem_of_getElem? (i := 942) (by decide +kernel), List.mem_of_getElem? (i := 943) (by decide +kernel)⟩
theorem lw_p22 : lw_okq (⟨"TubeWatchModel", "burns", "()V"⟩, 37) := ⟨⟨by decide +kernel, by decide +kernel⟩, List.mem_of_getElem? (i := 748) (by decide +kernel), List.mem_of_getElem? (i := 947) (by decide +kernel), List.mem_of_getElem? (i := 948) (by decide +kernel)⟩
theorem lw_p23 : lw_okq (⟨"TubeWatchModel", "moves", "()V"⟩, 37) := ⟨⟨by decide +kernel, by decide +kernel⟩, List.mem_of_getElem? (i := 748) (by decide +kernel), List.mem_of_getElem? (i := 951) (by decide +kernel), List.mem_of_getElem? (i := 952) (by decide +kernel)⟩
theorem lw_p24 : lw_okq (⟨"TubeWatchModel", "strength", "()D"⟩, 37) := ⟨⟨by decide +kernel, by decide +kernel⟩, List.mem_of_getElem? (i := 748) (by decide +kernel), List.mem_of_getElem? (i := 955) (by decide +kernel), List.mem_of_getElem? (i := 956) (by decide +kernel)⟩
theorem lw_p25 : lw_okq (⟨"TubeWatchModel", "comes", "(II)V"⟩, 37) := ⟨⟨by decide +kernel, by decide +kernel⟩, List.mem_of_getElem? (i := 748) (by decide +kernel), List.mem_of_getElem? (i := 959) (by decide +kernel), List.mem_of_getElem? (i := 960) (by decide +kernel)⟩
theorem lw_p26 : lw_okq (⟨"TubeWatchModel", "detects", "()V"⟩, 37) := ⟨⟨by decide +kernel, by decide +kernel⟩, List.mem_of_getElem? (i := 748) (by decide +kernel), List.mem_of_getElem? (i := 964) (by decide +kernel), List.mem_of_getElem? (i := 965) (by decide +kernel)⟩
theorem lw_p27 : lw_okq (⟨"TubeWatchModel", "tells", "(I)I"⟩, 37) := ⟨⟨by decide +kernel, by decide +kernel⟩, List.mem_of_getElem? (i := 748) (by decide +kernel), List.mem_of_getElem? (i := 968) (by decide +kernel), List.mem_of_getElem? (i := 969) (by decide +kernel)⟩
theorem lw_p28 : lw_okq (⟨"TubeWatchModel", "personsIn", "(I)I"⟩, 37) := ⟨⟨by decide +kernel, by decide +kernel⟩, List.mem_of_getElem? (i := 748) (by decide +kernel), List.mem_of_getElem? (i := 972) (by decide +kernel), List.mem_of_getElem? (i := 973) (by decide +kernel)⟩
theorem lw_p29 : lw_okq (⟨"TubeWatchModel", "charts", "()V"⟩, 37) := ⟨⟨by decide +kernel, by decide +kernel⟩, List.mem_of_getElem? (i := 748) (by decide +kernel), List.mem_of_getElem? (i := 976) (by decide +kernel), List.mem_of_getElem? (i := 977) (by decide +kernel)⟩
theorem lw_p30 : lw_okq (⟨"TubeWatchModel", "doesAct", "(I)V"⟩, 37) := ⟨⟨by decide +kernel, by decide +kernel⟩, List.mem_of_getElem? (i := 748) (by decide +kernel), List.mem_of_getElem? (i := 980) (by decide +kernel), List.mem_of_getElem? (i := 981) (by decide +kernel)⟩
theorem lw_p31 : lw_okq (⟨"TubeWatchModel", "lives", "(I)V"⟩, 37) := ⟨⟨by decide +kernel, by decide +kernel⟩, List.mem_of_getElem? (i := 748) (by decide +kernel), List.mem_of_getElem? (i := 984) (by decide +kernel), List.mem_of_getElem? (i := 985) (by decide +kernel)⟩
def lw_privs_2 : List (MethodName × Nat) := [(⟨"TubeWatch", "doorAnswer", "(I)I"⟩, 14), (⟨"TubeWatchModel", "goes", "(ZZZ)Z"⟩, 37), (⟨"TubeWatchModel", "hasPower", "()Z"⟩, 37), (⟨"TubeWatchModel", "doesStep", "()V"⟩, 37), (⟨"TubeWatchModel", "fans", "()V"⟩, 37), (⟨"TubeWatchModel", "flows", "()V"⟩, 37), (⟨"TubeWatchModel", "burns", "()V"⟩, 37), (⟨"TubeWatchModel", "moves", "()V"⟩, 37), (⟨"TubeWatchModel", "strength", "()D"⟩, 37), (⟨"TubeWatchModel", "comes", "(II)V"⟩, 37), (⟨"TubeWatchModel", "detects", "()V"⟩, 37), (⟨"TubeWatchModel", "tells", "(I)I"⟩, 37), (⟨"TubeWatchModel", "personsIn", "(I)I"⟩, 37), (⟨"TubeWatchModel", "charts", "()V"⟩, 37), (⟨"TubeWatchModel", "doesAct", "(I)V"⟩, 37), (⟨"TubeWatchModel", "lives", "(I)V"⟩, 37)]
theorem lw_r2 : ∀ q ∈ lw_privs_2, lw_okq q := List.forall_mem_cons.mpr ⟨lw_p16, List.forall_mem_cons.mpr ⟨lw_p17, List.forall_mem_cons.mpr ⟨lw_p18, List.forall_mem_cons.mpr ⟨lw_p19, List.forall_mem_cons.mpr ⟨lw_p20, List.forall_mem_cons.mpr ⟨lw_p21, List.forall_mem_cons.mpr ⟨lw_p22, List.forall_mem_cons.mpr ⟨lw_p23, List.forall_mem_cons.mpr ⟨lw_p24, List.forall_mem_cons.mpr ⟨lw_p25, List.forall_mem_cons.mpr ⟨lw_p26, List.forall_mem_cons.mpr ⟨lw_p27, List.forall_mem_cons.mpr ⟨lw_p28, List.forall_mem_cons.mpr ⟨lw_p29, List.forall_mem_cons.mpr ⟨lw_p30, List.forall_mem_cons.mpr ⟨lw_p31, fun _ h => absurd h List.not_mem_nil⟩⟩⟩⟩⟩⟩⟩⟩⟩⟩⟩⟩⟩⟩⟩⟩
theorem lw_p32 : lw_okq (⟨"TubeWatchModel", "ends", "(II)V"⟩, 37) := ⟨⟨by decide +kernel, by decide +kernel⟩, List.mem_of_getElem? (i := 748) (by decide +kernel), List.mem_of_getElem? (i := 988) (by decide +kernel), List.mem_of_getElem? (i := 989) (by decide +kernel)⟩
theorem lw_p33 : lw_okq (⟨"TubeWatchModel", "walks", "(I)V"⟩, 37) := ⟨⟨by decide +kernel, by decide +kernel⟩, List.mem_of_getElem? (i := 748) (by decide +kernel), List.mem_of_getElem? (i := 992) (by decide +kernel), List.mem_of_getElem? (i := 993) (by decide +kernel)⟩
theorem lw_p34 : lw_okq (⟨"TubeWatchModel", "aim", "(I)I"⟩, 37) := ⟨⟨by decide +kernel, by decide +kernel⟩, List.mem_of_getElem? (i := 748) (by decide +kernel), List.mem_of_getElem? (i := 996) (by decide +kernel), List.mem_of_getElem? (i := 997) (by decide +kernel)⟩
theorem lw_p35 : lw_okq (⟨"TubeWatchModel", "counted", "(I)I"⟩, 37) := ⟨⟨by decide +kernel, by decide +kernel⟩, List.mem_of_getElem? (i := 748) (by decide +kernel), List.mem_of_getElem? (i := 1029) (by decide +kernel), List.mem_of_getElem? (i := 1030) (by decide +kernel)⟩
def lw_privs_3 : List (MethodName × Nat) := [(⟨"TubeWatchModel", "ends", "(II)V"⟩, 37), (⟨"TubeWatchModel", "walks", "(I)V"⟩, 37), (⟨"TubeWatchModel", "aim", "(I)I"⟩, 37), (⟨"TubeWatchModel", "counted", "(I)I"⟩, 37)]
theorem lw_r3 : ∀ q ∈ lw_privs_3, lw_okq q := List.forall_mem_cons.mpr ⟨lw_p32, List.forall_mem_cons.mpr ⟨lw_p33, List.forall_mem_cons.mpr ⟨lw_p34, List.forall_mem_cons.mpr ⟨lw_p35, fun _ h => absurd h List.not_mem_nil⟩⟩⟩⟩
def lw_privs : List (MethodName × Nat) := lw_privs_1 ++ (lw_privs_2 ++ (lw_privs_3))
def lw_tbl : List Cond := k2_sels lw_privs ++ tables_1
theorem lw_privs_ok : ∀ q ∈ lw_privs, lw_okq q := by
  show ∀ q ∈ lw_privs_1 ++ (lw_privs_2 ++ (lw_privs_3)), lw_okq q
  exact List.forall_mem_append.mpr ⟨lw_r1, List.forall_mem_append.mpr ⟨lw_r2, lw_r3⟩⟩
/-- the streams that the claim lets the run draw from -/
abbrev lw_cs : List Choice := [Jvm.Choice.named "NaN.bits"]
theorem lw_bits : nanBits ∈ lw_cs := by first | decide | exact List.mem_cons_self | simp [lw_cs, nanBits]
-- ===== end of PART A; then your names; then what follows =====
end
section
/-! ===== BEGIN words of one list among another's, by their places ===== -/
theorem goodIn_r {big : List Cond} (ws : List Cond) (ps : List Nat) (hp : ws = ps.filterMap (fun i => big[i]?)) (h : ws.all goodWord = true) : GoodIn big ws := by
  intro w hw
  have h1 := List.all_eq_true.mp h w hw
  rw [hp] at hw
  obtain ⟨i, -, hi⟩ := List.mem_filterMap.mp hw
  have hm : w ∈ big := by first | exact List.mem_of_getElem? hi | exact List.getElem?_mem hi
  exact ⟨hm, good_of_word h1⟩
theorem goodIn_app {big a b : List Cond} (ha : GoodIn big a) (hb : GoodIn big b) : GoodIn big (a ++ b) := fun w h => (List.mem_append.mp h).elim (ha w) (hb w)
theorem goodIn_ca {big a b : List Cond} {c : Cond} (ha : GoodIn big (c :: a)) (hb : GoodIn big b) : GoodIn big (c :: (a ++ b)) := fun w h => (List.mem_cons.mp h).elim (fun e => ha w (List.mem_cons.mpr (Or.inl e))) (fun h => (List.mem_append.mp h).elim (fun h => ha w (List.mem_cons.mpr (Or.inr h))) (hb w))
theorem goodIn_sub {big ws : List Cond} (hm : ∀ w ∈ ws, w ∈ big) (h : ws.all goodWord = true) : GoodIn big ws := fun w hw => ⟨hm w hw, good_of_word (List.all_eq_true.mp h w hw)⟩
/-! ===== END ===== -/

/-! ===== BEGIN exceptions that leave a method, and their catching by the caller (launches without stack traces) ===== -/
section VXA
/-! The laws vx_back, vx_callV, vx_callS, vx_callSW, vx_throw0, vx_throwS follow proofs of the library, with one case more: JvmDerived/Free/Laws.lean (Back.of_free), Shelf42/LK1.lean (callV, callS), Shelf/KitTraced.lean (throwNew0V, throwNewS). -/
/-- where a method has thrown q: the class by its name, the cell, what was written, the world -/
def vx_T (XC : String → State → State → Prop) (st : State) (q : Addr) (t : State) (mc ms : Nat) (free : Addr → Prop) : Prop :=
  ∃ (E : String) (ce : Cell) (L : List Loc), XC E st t ∧ t.heap[q]? = some ce ∧ ce.vm = .none ∧ st.vm.findClass E = some ce.cls ∧ st.WarmedH t.vm ∧ st.sameButNew ({ t with vm := st.vm } : State) L mc ms ∧ ∀ z ∈ L, free z.base
def vx_Q (Qc : Array Value → State → Outcome → State → Prop) (XC : String → State → State → Prop) (mc ms : Nat) (free : Addr → Prop) : Array Value → State → Outcome → State → Prop := fun a st o t =>
  (Qc a st o t ∧ ∃ L, FrameEnd st o t L mc ms ∧ ∀ q ∈ L, free q.base) ∨ ∃ q, o = .threw q ∧ vx_T XC st q t mc ms free
/-- a callee that returns or throws -/
def vx_Met (l : Launch) (y : MethodName) (ws : List Cond) (rm : Room) (Pc : Array Value → State → Prop) (Qc : Array Value → State → Outcome → State → Prop) (XC : String → State → State → Prop) (mc ms : Nat) (free : Addr → Prop) : Prop :=
  MetFree l y (headSpec ws rm) Pc (fun _ _ _ _ _ => True) (vx_Q Qc XC mc ms free)
def vx_Post (XC : String → State → State → Prop) (mc ms : Nat) (free : Addr → Prop) : Pt → Array Value → Addr → Pt → Prop := fun A a q B =>
  ∃ (g : JFrame) (mk : MethodId) (t : State) (L : List Loc) (E : String) (ce : Cell), B.U.heap = t.heap ∧ B.U.vm = t.vm ∧ XC E (A.U.calling g mk a) t ∧ t.heap[q]? = some ce ∧ ce.vm = .none ∧ A.U.vm.findClass E = some ce.cls ∧ B.locs = A.locs ++ L ∧ (∀ z ∈ L, free z.base) ∧ B.cells = A.cells + mc ∧ B.slots = A.slots + ms
def vx_Back (l : Launch) (R : Room) (p : Program) (e : Env) (below : List Frame) (s : State) (sargs : Array Value) (y : MethodName) (len W9 : Nat)
    (Pre : Pt → Array Value → Prop) (Post : Pt → Array Value → Option Value → Pt → Prop) (PostX : Pt → Array Value → Addr → Pt → Prop) : Prop :=
  ∀ (m : MethodId) (meth : Method) (c : Code) (A : Pt) (g : JFrame) (ig : Instr) (mk : MethodId) (a : Array Value),
    Stand p l e R s m sargs below meth c A.U A.locs A.cells A.slots → g.method = m → g.locals.size = c.maxLocals → decode c.code g.pc = .ok (ig, len) →
    2 * g.monitorRoom + (g.stack.map fun v => v.category).sum ≤ W9 → A.U.methodNamed? y = some mk → Pre A a →
    (∃ (v : Option Value) (B : Pt), Stand p l e R s m sargs below meth c B.U B.locs B.cells B.slots ∧ Post A a v B ∧
      Steps p.tables e below (doInvoke e (A.U.setTop g) [] mk a).1 (B.U.setTop { g with pc := g.pc + len, stack := v.toList ++ g.stack })) ∨
    (∃ (q : Addr) (B : Pt), Stand p l e R s m sargs below meth c B.U B.locs B.cells B.slots ∧ PostX A a q B ∧
      Steps p.tables e below (doInvoke e (A.U.setTop g) [] mk a).1 ((B.U.setTop g).pushFrame (.throwing q)))
section Payer
variable {l : Launch} {R : Room} {p : Program} {e : Env} {below : List Frame} {s : State} {sargs : Array Value} {y : MethodName} {len W9 : Nat}
theorem vx_back {ws : List Cond} {rm : Room} {Pc : Array Value → State → Prop} {Qc : Array Value → State → Outcome → State → Prop} {XC : String → State → State → Prop} {mc ms : Nat} {free : Addr → Prop} {bytes : ByteArray} {maxL : Nat} {ret : Option FieldType}
    (hM : vx_Met l y ws rm Pc Qc XC mc ms free) (hblind : FrameBlind Pc) (hrc : rm.cells = mc) (hrs : rm.slots = ms)
    (hframes : rm.frames + 1 ≤ R.frames) (hlocals : W9 + (maxL + 11) + rm.locals ≤ R.locals)
    (hws : ∀ w ∈ ws, ∀ a' U, s.WarmedH U.vm → w.before a' U = true) (hcode : Cond.code y bytes maxL ret ∈ ws) (hinit : ∀ a' U, s.WarmedH U.vm → (Cond.initialized y.cls).before a' U = true) :
    vx_Back l R p e below s sargs y len W9 (PreOf R mc ms Pc) (PostOf Qc mc ms free) (vx_Post XC mc ms free) := by
  intro m meth c A g ig mk a X hg hsize hdg hW hn hp
  have h1 : (headSpec ws rm).pre.before a A.U = true := atoms_intro fun w hw => hws w hw _ _ X.warmed
  have h2 : (Cond.code y bytes maxL ret).before a A.U = true := hws _ hcode _ _ X.warmed
  have h3 : (Cond.initialized y.cls).before a A.U = true := hinit _ _ X.warmed
  have h4 : A.cells + (headSpec ws rm).room.cells ≤ R.cells := by rw [show (headSpec ws rm).room.cells = mc from hrc]; exact hp.1
  have h5 : A.slots + (headSpec ws rm).room.slots ≤ R.slots := by rw [show (headSpec ws rm).room.slots = ms from hrs]; exact hp.2.1
  have hPc : Pc a (A.U.calling g mk a) := hblind _ _ _ _ hp.2.2
  obtain ⟨U, Ls, c0, s0⟩ := A
  dsimp only [Pt.U, Pt.locs, Pt.cells, Pt.slots] at h1 h2 h3 h4 h5 X hn hPc ⊢
  obtain ⟨methY, cY, hmY, hcY, -, hlY, -, -, -, -⟩ := Cond.code_spec hn h2
  obtain ⟨kY, hkY, -⟩ := className_of_methodNamed hn
  have hinitY : kY.init = .initialized := Cond.initialized_spec (findClass_of_methodNamed hn) hkY h3
  have h : At U g.method c below := by rw [hg]; exact X.here
  have hlocals9 : W9 + (maxL + 11) + (headSpec ws rm).room.locals ≤ R.locals := hlocals
  have happ : (headSpec ws rm).appliesLoose y e.platform (U.calling g mk a) = true :=
    Spec.appliesLoose_calling (g := g) h hdg hn hkY hinitY
      (X.room_calling (g := g) (R' := (headSpec ws rm).room) hsize hmY hcY hframes (by rw [hlY]; omega) h4 h5) h1
  obtain ⟨mid, hmid⟩ := h.above
  have hfr : (U.setTop g).frames = (.java g :: mid) ++ below := by rw [State.frames_setTop' g h.top, hmid]; rfl
  obtain ⟨o, s₂, hsteps, -, hend, hq⟩ := Steps.callFree hM p X.admits X.cas X.clock (acts := []) hfr happ hPc trivial
  have hq' : vx_Q Qc XC mc ms free a (U.calling g mk a) o s₂ := hq
  rw [State.frames_setTop' g h.top] at hend
  obtain ⟨g₀, hg0⟩ := Option.isSome_iff_exists.mp h.top
  obtain ⟨r, hr⟩ := State.topJava?_eq_some.mp hg0
  have hr' : (({ U with heap := s₂.heap, slotsUsed := s₂.slotsUsed } : State).setVm s₂.vm).frames = .java g₀ :: r := hr
  rcases hq' with ⟨hqc, L, hfe, hL⟩ | ⟨q, rfl, E, ce, L, hx, hce, hcv, hcl, hW₂, hsm, hL⟩
  · obtain ⟨⟨v, rfl⟩, hW₂, e2, q2, q3, q4, q5, q6⟩ := id hfe
    have e3 : s₂ = ({ (U.calling g mk a).setFrames s₂.frames with heap := s₂.heap, slotsUsed := s₂.slotsUsed } : State).setVm s₂.vm := by
      have : s₂ = ({ s₂ with vm := (U.calling g mk a).vm } : State).setVm s₂.vm := rfl
      rw [e2] at this
      exact this
    obtain ⟨c₂, i₂, len₂, hc₂, hd₂, hf₂⟩ := hend
    have hW' : U.WarmedH s₂.vm := hW₂
    have hcc : c₂ = c := by
      have h1 : s₂.code? g.method = U.code? g.method := by
        rw [State.code?_eq, State.code?_eq, hW'.alike.method?]
      exact Option.some.inj (hc₂.symm.trans (h1.trans h.code))
    subst hcc
    have hlen : len₂ = len := by rw [hdg] at hd₂; cases hd₂; rfl
    subst hlen
    have hs₂ : s₂ = (({ U with heap := s₂.heap, slotsUsed := s₂.slotsUsed } : State).setVm s₂.vm).setTop { g with pc := g.pc + len₂, stack := v.toList ++ g.stack } := by
      refine e3.trans ?_
      rw [hf₂, State.calling_eq h.top, State.setFrames_setFrames, State.setTop_of_frames _ hr', hr]
      rfl
    have hsame : U.sameButNew ({ U with heap := s₂.heap, slotsUsed := s₂.slotsUsed } : State) L mc ms := by
      refine ⟨?_, q2, q3, q4, q5, q6⟩
      obtain ⟨t, ht, -⟩ := State.frames_cons hr
      show ({ U with heap := s₂.heap, slotsUsed := s₂.slotsUsed } : State) = { U.setFrames U.frames with heap := s₂.heap, slotsUsed := s₂.slotsUsed }
      rw [State.setFrames_self ht]
    subst hg
    refine Or.inl ⟨v, ⟨(({ U with heap := s₂.heap, slotsUsed := s₂.slotsUsed } : State).setVm s₂.vm), Ls ++ L, c0 + mc, s0 + ms⟩,
      ⟨X.admits, X.cas, X.clock, X.frames, X.room, X.hears, X.method, X.code, (X.here.setHeapUsed s₂.heap s₂.slotsUsed).setVm hW'.alike, X.tail, State.WarmedH.trans X.warmed hW', X.limits, X.bytes, X.same.trans (hsame.setVm s.vm)⟩,
      ⟨g, mk, s₂, L, rfl, rfl, hqc, rfl, hL, rfl, rfl⟩, ?_⟩
    show Steps p.tables e below _ ((({ U with heap := s₂.heap, slotsUsed := s₂.slotsUsed } : State).setVm s₂.vm).setTop { g with pc := g.pc + len₂, stack := v.toList ++ g.stack })
    rw [← hs₂]
    exact hsteps
  · obtain ⟨e2, q2, q3, q4, q5, q6⟩ := id hsm
    have e3 : s₂ = ({ (U.calling g mk a).setFrames s₂.frames with heap := s₂.heap, slotsUsed := s₂.slotsUsed } : State).setVm s₂.vm := by
      have : s₂ = ({ s₂ with vm := (U.calling g mk a).vm } : State).setVm s₂.vm := rfl
      rw [e2] at this
      exact this
    have hf₂ : s₂.frames = .throwing q :: .java g :: U.frames.tail := hend
    have hW' : U.WarmedH s₂.vm := hW₂
    have hs₂ : s₂ = ((({ U with heap := s₂.heap, slotsUsed := s₂.slotsUsed } : State).setVm s₂.vm).setTop g).pushFrame (.throwing q) := by
      refine e3.trans ?_
      rw [hf₂, State.calling_eq h.top, State.setFrames_setFrames, State.pushFrame, State.frames_setTop _ hr', State.setTop_of_frames _ hr', State.setFrames_setFrames, hr]
      rfl
    have hsame : U.sameButNew ({ U with heap := s₂.heap, slotsUsed := s₂.slotsUsed } : State) L mc ms := by
      refine ⟨?_, q2, q3, q4, q5, q6⟩
      obtain ⟨t, ht, -⟩ := State.frames_cons hr
      show ({ U with heap := s₂.heap, slotsUsed := s₂.slotsUsed } : State) = { U.setFrames U.frames with heap := s₂.heap, slotsUsed := s₂.slotsUsed }
      rw [State.setFrames_self ht]
    subst hg
    refine Or.inr ⟨q, ⟨(({ U with heap := s₂.heap, slotsUsed := s₂.slotsUsed } : State).setVm s₂.vm), Ls ++ L, c0 + mc, s0 + ms⟩,
      ⟨X.admits, X.cas, X.clock, X.frames, X.room, X.hears, X.method, X.code, (X.here.setHeapUsed s₂.heap s₂.slotsUsed).setVm hW'.alike, X.tail, State.WarmedH.trans X.warmed hW', X.limits, X.bytes, X.same.trans (hsame.setVm s.vm)⟩,
      ⟨g, mk, s₂, L, E, ce, rfl, rfl, hx, hce, hcv, hcl, rfl, hL, rfl, rfl⟩, ?_⟩
    show Steps p.tables e below _ (((({ U with heap := s₂.heap, slotsUsed := s₂.slotsUsed } : State).setVm s₂.vm).setTop g).pushFrame (.throwing q))
    rw [← hs₂]
    exact hsteps
end Payer
section Calls
variable {p : Program} {l : Launch} {e : Env} {R : Room} {s : State} {m : MethodId} {args : Array Value} {below : List Frame} {meth : Method} {c : Code} {T : State} {locs : List Loc} {cells slots : Nat}
theorem vx_callV (X : Stand p l e R s m args below meth c T locs cells slots) (hexec : p.tables.exec = Jvm.exec) {own C : String} {index : Nat} {y : MethodName} {bytes : ByteArray} {maxL : Nat} {ret : Option FieldType}
    (hown : s.vm.findClass own = some m.cls) (hlink : (Cond.methodLink own index y).before args s = true) (hinst : (Cond.instanceMethod y).before args s = true) (hsel : (Cond.selects C y y).before args s = true)
    (hcode : (Cond.code y bytes maxL ret).before args s = true) (hy : y.cls ≠ "java/lang/invoke/MethodHandle" ∧ y.cls ≠ "java/lang/invoke/VarHandle")
    {W9 : Nat} {Pre : Pt → Array Value → Prop} {Post : Pt → Array Value → Option Value → Pt → Prop} {PostX : Pt → Array Value → Addr → Pt → Prop} (hK : vx_Back l R p e below s args y 3 W9 Pre Post PostX)
    {b : Addr} {cellB : Cell} (hcell : T.heap[b]? = some cellB) (hobj : cellB.vm.isStatics = false) (hcls : s.vm.findClass C = some cellB.cls)
    {g : JFrame} (hg : g.method = m) (hsize : g.locals.size = c.maxLocals) {argsL rest : List Value} (hlen : ∀ sig, parseMethodDescriptor y.desc = some sig → argsL.length = sig.parameters.length)
    (hstack : g.stack = argsL.reverse ++ .ref b :: rest) (hW : 2 * g.monitorRoom + (rest.map fun v => v.category).sum ≤ W9) (hdg : decode c.code g.pc = .ok (.invokevirtual index, 3))
    (hpre : ∀ vm₁, s.WarmedH vm₁ → Pre ⟨T.setVm vm₁, locs, cells, slots⟩ (Value.ref b :: argsL).toArray) :
    (∃ (v : Option Value) (vm₁ : Vm) (B : Pt), s.WarmedH vm₁ ∧ Stand p l e R s m args below meth c B.U B.locs B.cells B.slots ∧ Post ⟨T.setVm vm₁, locs, cells, slots⟩ (Value.ref b :: argsL).toArray v B ∧
      ∀ target, Steps p.tables e below (B.U.setTop { g with pc := g.pc + 3, stack := v.toList ++ rest }) target → Steps p.tables e below (T.setTop g) target) ∨
    (∃ (q : Addr) (vm₁ : Vm) (B : Pt), s.WarmedH vm₁ ∧ Stand p l e R s m args below meth c B.U B.locs B.cells B.slots ∧ PostX ⟨T.setVm vm₁, locs, cells, slots⟩ (Value.ref b :: argsL).toArray q B ∧
      Steps p.tables e below (T.setTop g) ((B.U.setTop { g with stack := rest }).pushFrame (.throwing q))) := by
  obtain ⟨mk, methM, hnamed, hmethM, hstM, habM⟩ := Cond.instanceMethod_spec hinst
  obtain ⟨methM', cM, hmethM', -, -, -, -, -, -, hsigM⟩ := Cond.code_spec hnamed hcode
  cases hmethM.symm.trans hmethM'
  obtain ⟨c2, r2, m2, q1, q2, q3, q4, kP, hkP, hkPi⟩ := Cond.selects_spec hsel
  cases hcls.symm.trans q1
  cases (State.methodFound?_of_named hnamed hy).symm.trans q2
  cases hnamed.symm.trans q3
  have hselP : selectMethod e.platform s.vm cellB.cls mk = .method mk := by rw [Launch.admits_selectMethod X.admits]; exact q4
  obtain ⟨vm₁, X₁, hstep₁⟩ := X.invokevirtual hexec hown hlink hnamed hmethM hstM hkP hkPi hy (a := b) (cell := cellB) hcell
    (fun z h => by rw [h] at hobj; cases hobj) hselP hmethM habM hkP hkPi (g := g) hg (argsL := argsL) (rest := rest) (hlen _ hsigM) hstack hdg
  rcases hK m meth c ⟨T.setVm vm₁, locs, cells, slots⟩ { g with stack := rest } (.invokevirtual index) mk (Value.ref b :: argsL).toArray X₁ hg hsize hdg hW (X₁.named hnamed) (hpre vm₁ X₁.warmed) with ⟨v, B, X', hpost, hsteps⟩ | ⟨q, B, X', hpost, hsteps⟩
  · exact Or.inl ⟨v, vm₁, B, X₁.warmed, X', hpost, fun target h => hstep₁ _ fun acts => by rw [doInvoke_state]; exact hsteps.trans h⟩
  · exact Or.inr ⟨q, vm₁, B, X₁.warmed, X', hpost, hstep₁ _ fun acts => by rw [doInvoke_state]; exact hsteps⟩
theorem vx_callS (X : Stand p l e R s m args below meth c T locs cells slots) (hexec : p.tables.exec = Jvm.exec) {own : String} {index : Nat} {y : MethodName} {bytes : ByteArray} {maxL : Nat} {ret : Option FieldType}
    (hown : s.vm.findClass own = some m.cls) (hlink : (Cond.methodLink own index y).before args s = true) (hstat : (Cond.static y).before args s = true) (hinit : (Cond.initialized y.cls).before args s = true)
    (hcode : (Cond.code y bytes maxL ret).before args s = true) (hy : y.cls ≠ "java/lang/invoke/MethodHandle" ∧ y.cls ≠ "java/lang/invoke/VarHandle")
    {W9 : Nat} {Pre : Pt → Array Value → Prop} {Post : Pt → Array Value → Option Value → Pt → Prop} {PostX : Pt → Array Value → Addr → Pt → Prop} (hK : vx_Back l R p e below s args y 3 W9 Pre Post PostX)
    {g : JFrame} (hg : g.method = m) (hsize : g.locals.size = c.maxLocals) {argsL rest : List Value} (hlen : ∀ sig, parseMethodDescriptor y.desc = some sig → argsL.length = sig.parameters.length)
    (hstack : g.stack = argsL.reverse ++ rest) (hW : 2 * g.monitorRoom + (rest.map fun v => v.category).sum ≤ W9) (hdg : decode c.code g.pc = .ok (.invokestatic index, 3))
    (hpre : ∀ vm₁, s.WarmedH vm₁ → Pre ⟨T.setVm vm₁, locs, cells, slots⟩ argsL.toArray) :
    (∃ (v : Option Value) (vm₁ : Vm) (B : Pt), s.WarmedH vm₁ ∧ Stand p l e R s m args below meth c B.U B.locs B.cells B.slots ∧ Post ⟨T.setVm vm₁, locs, cells, slots⟩ argsL.toArray v B ∧
      ∀ target, Steps p.tables e below (B.U.setTop { g with pc := g.pc + 3, stack := v.toList ++ rest }) target → Steps p.tables e below (T.setTop g) target) ∨
    (∃ (q : Addr) (vm₁ : Vm) (B : Pt), s.WarmedH vm₁ ∧ Stand p l e R s m args below meth c B.U B.locs B.cells B.slots ∧ PostX ⟨T.setVm vm₁, locs, cells, slots⟩ argsL.toArray q B ∧
      Steps p.tables e below (T.setTop g) ((B.U.setTop { g with stack := rest }).pushFrame (.throwing q))) := by
  obtain ⟨mk, hnamed⟩ := Cond.code_named hcode
  obtain ⟨methM, cM, hmethM, -, -, -, -, -, -, hsigM⟩ := Cond.code_spec hnamed hcode
  have hstatic : methM.isStatic = true := Cond.static_spec hnamed hmethM hstat
  obtain ⟨kP, hkP, -⟩ := className_of_methodNamed hnamed
  have hinitP : kP.init = .initialized := Cond.initialized_spec (findClass_of_methodNamed hnamed) hkP hinit
  obtain ⟨vm₁, X₁, hstep₁⟩ := X.invokestatic hexec hown hlink hnamed hmethM hstatic hkP hinitP hy (g := g) hg (argsL := argsL) (rest := rest) (hlen _ hsigM) hstack hdg
  rcases hK m meth c ⟨T.setVm vm₁, locs, cells, slots⟩ { g with stack := rest } (.invokestatic index) mk argsL.toArray X₁ hg hsize hdg hW (X₁.named hnamed) (hpre vm₁ X₁.warmed) with ⟨v, B, X', hpost, hsteps⟩ | ⟨q, B, X', hpost, hsteps⟩
  · exact Or.inl ⟨v, vm₁, B, X₁.warmed, X', hpost, fun target h => hstep₁ _ fun acts => by rw [doInvoke_state]; exact hsteps.trans h⟩
  · exact Or.inr ⟨q, vm₁, B, X₁.warmed, X', hpost, hstep₁ _ fun acts => by rw [doInvoke_state]; exact hsteps⟩
end Calls
theorem vx_cls {s : State} {T : State} {vm₁ : Vm} {E : String} {k : ClassId} (hW : s.WarmedH vm₁) (h : (T.setVm vm₁).vm.findClass E = some k) : s.vm.findClass E = some k := by
  have h1 : vm₁.findClass E = some k := h
  rw [hW.alike.findClass] at h1
  exact h1
/-- the method's frame g, with q thrown over it -/
def vx_W (p : Program) (l : Launch) (e : Env) (R : Room) (s : State) (m : MethodId) (args : Array Value) (below : List Frame) (meth : Method) (c : Code) (H : Heap) (locs : List Loc) (cells slots : Nat) (Q : State → Prop) (g : JFrame) (q : Addr) : Prop :=
  ∀ T : State, T.heap = H → Stand p l e R s m args below meth c T locs cells slots → ∃ t, Steps p.tables e below ((T.setTop g).pushFrame (.throwing q)) t ∧ Q t
def vx_Run (p : Program) (l : Launch) (e : Env) (R : Room) (s : State) (m : MethodId) (args : Array Value) (below : List Frame) (meth : Method) (c : Code) (H : Heap) (locs : List Loc) (cells slots mc ms : Nat) (g : JFrame) (rest : List Value) (Qa : State → Outcome → State → Prop) (XC : String → State → State → Prop) (free : Addr → Prop) : Prop :=
  ∀ T : State, T.heap = H → Stand p l e R s m args below meth c T locs cells slots →
    (∃ (v : Option Value) (st₀ t T' : State) (L : List Loc), st₀.heap = H ∧ Stand p l e R s m args below meth c T' (locs ++ L) (cells + mc) (slots + ms) ∧ (∀ q ∈ L, free q.base) ∧ T'.heap = t.heap ∧ T'.vm = t.vm ∧ Qa st₀ (.returned v) t ∧
      Goes p e below T g T' { g with pc := g.pc + 3, stack := v.toList ++ rest }) ∨
    (∃ (q : Addr) (st₀ t T' : State) (L : List Loc) (E : String) (ce : Cell), st₀.heap = H ∧ Stand p l e R s m args below meth c T' (locs ++ L) (cells + mc) (slots + ms) ∧ (∀ z ∈ L, free z.base) ∧ T'.heap = t.heap ∧ T'.vm = t.vm ∧ XC E st₀ t ∧ t.heap[q]? = some ce ∧ ce.vm = .none ∧ s.vm.findClass E = some ce.cls ∧
      Steps p.tables e below (T.setTop g) ((T'.setTop { g with stack := rest }).pushFrame (.throwing q)))
def vx_X {S : Type} (px : S → Prop) (B : String → S → State → Prop) (A : Nat → Prop) : String → State → State → Prop := fun E st t => ∃ u : S, px u ∧ B E u t ∧ va_F A st t
section Runs
variable {p : Program} {l : Launch} {e : Env} {R : Room} {s : State} {m : MethodId} {args : Array Value} {below : List Frame} {meth : Method} {c : Code} {H : Heap} {locs : List Loc} {cells slots : Nat}
variable {y : MethodName} {bytes cc : ByteArray} {maxL nL mc ms n index : Nat} {ret : Option FieldType} {ws : List Cond} {rm : Room} {Pc : Array Value → State → Prop} {Qc : Array Value → State → Outcome → State → Prop} {XC : String → State → State → Prop} {free : Addr → Prop} {Ts : List Cond} {own C : String} {b : Addr} {As rest : List Value} {g : JFrame}
theorem vx_callBack (cb : CallB R s args own index y bytes maxL ret ws rm mc ms n) (hM : vx_Met l y ws rm Pc Qc XC mc ms free) (hbl : FrameBlind Pc) : vx_Back l R p e below s args y 3 8 (PreOf R mc ms Pc) (PostOf Qc mc ms free) (vx_Post XC mc ms free) := by
  obtain ⟨hrc, hrs, hfr, hlo, hws, hcw, -, hini, -⟩ := cb
  exact vx_back (bytes := bytes) (maxL := maxL) (ret := ret) hM hbl hrc hrs hfr hlo hws hcw (fun a' U hW => word_at hW (Or.inl (by first | rfl | simp [Cond.onTables, Cond.keeps, Cond.steady])) hini)
theorem vx_runV (S : CallFix p m c cc nL s args Ts own) (hM : vx_Met l y ws rm Pc Qc XC mc ms free) (cw : CallW R s args own C index y bytes maxL ret ws rm mc ms n) (hp : PreV s H C b Pc As)
    (hg : g.method = m) (hn : As.length = n) (hsize : g.locals.size = nL) (hstack : g.stack = As.reverse ++ .ref b :: rest) (hW : 2 * g.monitorRoom + (rest.map fun v => v.category).sum ≤ 8) (hdg : decode cc g.pc = .ok (.invokevirtual index, 3)) (hf : cells + mc ≤ R.cells ∧ slots + ms ≤ R.slots) :
    vx_Run p l e R s m args below meth c H locs cells slots mc ms g rest (Qc (Value.ref b :: As).toArray) XC free := by
  have hK : vx_Back l R p e below s args y 3 8 (PreOf R mc ms Pc) (PostOf Qc mc ms free) (vx_Post XC mc ms free) := vx_callBack cw.1 hM hp.1
  obtain ⟨⟨-, -, -, -, -, -, hcode, -, hy, hlen, hl⟩, hin, hse⟩ := cw
  obtain ⟨hx, hb, hml, ho, -⟩ := S
  obtain ⟨-, ⟨cellB, hcB, hoB, hclB⟩, hPc⟩ := hp
  intro T hT X
  rcases vx_callV X hx (C := C) (bytes := bytes) (maxL := maxL) (ret := ret) ho hl hin hse hcode hy hK (by rw [hT]; exact hcB) hoB hclB hg (hsize.trans hml.symm) (argsL := As) (rest := rest) (fun sig h => hn.trans (hlen sig h)) hstack hW (by rw [hb]; exact hdg)
    (fun vm₁ hW₁ => ⟨hf.1, hf.2, hPc (T.setVm vm₁) hT hW₁⟩) with ⟨v, vm₁, ⟨U', l2, c2, s2⟩, hW₁, X', ⟨g', mk, t, L, e1, e2, hq, h1, hL, h2, h3⟩, st⟩ | ⟨q, vm₁, ⟨U', l2, c2, s2⟩, hW₁, X', ⟨g', mk, t, L, E, ce, e1, e2, hq, hce, hcv, hcl, h1, hL, h2, h3⟩, st⟩
  · dsimp only [Pt.U, Pt.locs, Pt.cells, Pt.slots] at X' e1 e2 h1 h2 h3 st
    subst h1; subst h2; subst h3
    exact Or.inl ⟨v, (T.setVm vm₁).calling g' mk (Value.ref b :: As).toArray, t, U', L, hT, X', hL, e1, e2, hq, st⟩
  · dsimp only [Pt.U, Pt.locs, Pt.cells, Pt.slots] at X' e1 e2 h1 h2 h3 st hcl
    subst h1; subst h2; subst h3
    exact Or.inr ⟨q, (T.setVm vm₁).calling g' mk (Value.ref b :: As).toArray, t, U', L, E, ce, hT, X', hL, e1, e2, hq, hce, hcv, vx_cls hW₁ hcl, st⟩
theorem vx_runS (S : CallFix p m c cc nL s args Ts own) (hM : vx_Met l y ws rm Pc Qc XC mc ms free) (cw : CallB R s args own index y bytes maxL ret ws rm mc ms n ∧ (Cond.static y).before args s = true) (hp : PreS s H Pc As)
    (hg : g.method = m) (hn : As.length = n) (hsize : g.locals.size = nL) (hstack : g.stack = As.reverse ++ rest) (hW : 2 * g.monitorRoom + (rest.map fun v => v.category).sum ≤ 8) (hdg : decode cc g.pc = .ok (.invokestatic index, 3)) (hf : cells + mc ≤ R.cells ∧ slots + ms ≤ R.slots) :
    vx_Run p l e R s m args below meth c H locs cells slots mc ms g rest (Qc As.toArray) XC free := by
  have hK : vx_Back l R p e below s args y 3 8 (PreOf R mc ms Pc) (PostOf Qc mc ms free) (vx_Post XC mc ms free) := vx_callBack cw.1 hM hp.1
  obtain ⟨⟨-, -, -, -, -, -, hcode, hini, hy, hlen, hl⟩, hstt⟩ := cw
  obtain ⟨hx, hb, hml, ho, -⟩ := S
  intro T hT X
  rcases vx_callS X hx (bytes := bytes) (maxL := maxL) (ret := ret) ho hl hstt hini hcode hy hK hg (hsize.trans hml.symm) (argsL := As) (rest := rest) (fun sig h => hn.trans (hlen sig h)) hstack hW (by rw [hb]; exact hdg)
    (fun vm₁ hW₁ => ⟨hf.1, hf.2, hp.2 (T.setVm vm₁) hT hW₁⟩) with ⟨v, vm₁, ⟨U', l2, c2, s2⟩, hW₁, X', ⟨g', mk, t, L, e1, e2, hq, h1, hL, h2, h3⟩, st⟩ | ⟨q, vm₁, ⟨U', l2, c2, s2⟩, hW₁, X', ⟨g', mk, t, L, E, ce, e1, e2, hq, hce, hcv, hcl, h1, hL, h2, h3⟩, st⟩
  · dsimp only [Pt.U, Pt.locs, Pt.cells, Pt.slots] at X' e1 e2 h1 h2 h3 st
    subst h1; subst h2; subst h3
    exact Or.inl ⟨v, (T.setVm vm₁).calling g' mk As.toArray, t, U', L, hT, X', hL, e1, e2, hq, st⟩
  · dsimp only [Pt.U, Pt.locs, Pt.cells, Pt.slots] at X' e1 e2 h1 h2 h3 st hcl
    subst h1; subst h2; subst h3
    exact Or.inr ⟨q, (T.setVm vm₁).calling g' mk As.toArray, t, U', L, E, ce, hT, X', hL, e1, e2, hq, hce, hcv, vx_cls hW₁ hcl, st⟩
end Runs
section Rows
variable {p : Program} {l : Launch} {e : Env} {R : Room} {s : State} {m : MethodId} {args : Array Value} {below : List Frame} {meth : Method} {c : Code} {H : Heap} {locs : List Loc} {cells slots : Nat} {Q : State → Prop}
variable {mc ms : Nat} {free : Addr → Prop} {A0 A1 : Nat → Prop} {H0 : Heap} {a : Array Value} {pc : Nat} {ls : Array Slot} {st0 rest : List Value}
theorem vx_keep {st₀ t T' : State} {L : List Loc} (h0 : st₀.heap = H) (e1 : T'.heap = t.heap) (hS : va_S A0 H0 H locs) (hA : ∀ q, q < H.size → A1 q → A0 q) (hf : ∀ q, free q → A0 q) (hL : ∀ q ∈ L, free q.base) (hF : va_F A1 st₀ t) :
    H.size ≤ T'.heap.size ∧ (∀ q : Nat, q < H.size → ¬ A1 q → T'.heap[q]? = H[q]?) ∧ va_S A0 H0 T'.heap (locs ++ L) := by
  obtain ⟨hz, hk⟩ := hF
  rw [h0] at hz hk
  exact ⟨by rw [e1]; exact hz, fun q h1 h2 => by rw [e1]; exact hk q h1 h2,
    ⟨Nat.le_trans hS.1 (by rw [e1]; exact hz), fun q h1 h2 => by rw [e1, hk q (Nat.lt_of_lt_of_le h1 hS.1) (fun z => h2 (hA q (Nat.lt_of_lt_of_le h1 hS.1) z))]; exact hS.2.1 q h1 h2, fun q hq => by
      rcases List.mem_append.mp hq with h | h
      · exact hS.2.2 q h
      · exact hf _ (hL q h)⟩⟩
theorem vx_calli {S SX : Type} {post : Int32 → S → Prop} {px : SX → Prop} {B : S → State → Prop} {BX : String → SX → State → Prop} {AX : Nat → Prop} (hr : vx_Run p l e R s m args below meth c H locs cells slots mc ms (F0 m pc ls st0) rest (va_Qi post B A1 a) (vx_X px BX AX) free) (hS : va_S A0 H0 H locs) (hA : ∀ q, q < H.size → A1 q → A0 q) (hf : ∀ q, free q → A0 q) (hAX : ∀ q, q < H.size → AX q → A0 q)
    (kx : ∀ (E : String) (ce : Cell) (q9 : Addr) (u : SX) (t : State) (H1 : Heap) (locs1 : List Loc), t.heap = H1 → s.vm.Alike t.vm → px u → BX E u t → H.size ≤ H1.size → (∀ q : Nat, q < H.size → ¬ AX q → H1[q]? = H[q]?) → va_S A0 H0 H1 locs1 → H1[q9]? = some ce → ce.vm = .none → s.vm.findClass E = some ce.cls → vx_W p l e R s m args below meth c H1 locs1 (cells + mc) (slots + ms) Q (F0 m pc ls rest) q9)
    (kk : ∀ (r : Int32) (u : S) (t : State) (H1 : Heap) (locs1 : List Loc), t.heap = H1 → s.vm.Alike t.vm → post r u → B u t → H.size ≤ H1.size → (∀ q : Nat, q < H.size → ¬ A1 q → H1[q]? = H[q]?) → va_S A0 H0 H1 locs1 → W p l e R s m args below meth c H1 locs1 (cells + mc) (slots + ms) Q (F0 m (pc + 3) ls (.int r :: rest))) : W p l e R s m args below meth c H locs cells slots Q (F0 m pc ls st0) := by
  intro T hT X
  rcases hr T hT X with ⟨v, st₀, t, T', L, h0, X', hL, e1, e2, ⟨⟨r, u, hv, hp, hb⟩, hF⟩, st⟩ | ⟨q, st₀, t, T', L, E, ce, h0, X', hL, e1, e2, ⟨u, hp, hb, hF⟩, hce, hcv, hcl, st⟩
  · cases hv
    obtain ⟨k1, k2, k3⟩ := vx_keep h0 e1 hS hA hf hL hF
    obtain ⟨t2, a1, b1⟩ := kk r u t T'.heap (locs ++ L) e1.symm (by rw [← e2]; exact X'.warmed.alike) hp hb k1 k2 k3 T' rfl X'
    exact ⟨t2, st t2 a1, b1⟩
  · obtain ⟨k1, k2, k3⟩ := vx_keep h0 e1 hS hAX hf hL hF
    obtain ⟨t2, a1, b1⟩ := kx E ce q u t T'.heap (locs ++ L) e1.symm (by rw [← e2]; exact X'.warmed.alike) hp hb k1 k2 k3 (by rw [e1]; exact hce) hcv hcl T' rfl X'
    exact ⟨t2, st.trans a1, b1⟩
theorem vx_calll {S SX : Type} {post : Int64 → S → Prop} {px : SX → Prop} {B : S → State → Prop} {BX : String → SX → State → Prop} {AX : Nat → Prop} (hr : vx_Run p l e R s m args below meth c H locs cells slots mc ms (F0 m pc ls st0) rest (va_Ql post B A1 a) (vx_X px BX AX) free) (hS : va_S A0 H0 H locs) (hA : ∀ q, q < H.size → A1 q → A0 q) (hf : ∀ q, free q → A0 q) (hAX : ∀ q, q < H.size → AX q → A0 q)
    (kx : ∀ (E : String) (ce : Cell) (q9 : Addr) (u : SX) (t : State) (H1 : Heap) (locs1 : List Loc), t.heap = H1 → s.vm.Alike t.vm → px u → BX E u t → H.size ≤ H1.size → (∀ q : Nat, q < H.size → ¬ AX q → H1[q]? = H[q]?) → va_S A0 H0 H1 locs1 → H1[q9]? = some ce → ce.vm = .none → s.vm.findClass E = some ce.cls → vx_W p l e R s m args below meth c H1 locs1 (cells + mc) (slots + ms) Q (F0 m pc ls rest) q9)
    (kk : ∀ (r : Int64) (u : S) (t : State) (H1 : Heap) (locs1 : List Loc), t.heap = H1 → s.vm.Alike t.vm → post r u → B u t → H.size ≤ H1.size → (∀ q : Nat, q < H.size → ¬ A1 q → H1[q]? = H[q]?) → va_S A0 H0 H1 locs1 → W p l e R s m args below meth c H1 locs1 (cells + mc) (slots + ms) Q (F0 m (pc + 3) ls (.long r :: rest))) : W p l e R s m args below meth c H locs cells slots Q (F0 m pc ls st0) := by
  intro T hT X
  rcases hr T hT X with ⟨v, st₀, t, T', L, h0, X', hL, e1, e2, ⟨⟨r, u, hv, hp, hb⟩, hF⟩, st⟩ | ⟨q, st₀, t, T', L, E, ce, h0, X', hL, e1, e2, ⟨u, hp, hb, hF⟩, hce, hcv, hcl, st⟩
  · cases hv
    obtain ⟨k1, k2, k3⟩ := vx_keep h0 e1 hS hA hf hL hF
    obtain ⟨t2, a1, b1⟩ := kk r u t T'.heap (locs ++ L) e1.symm (by rw [← e2]; exact X'.warmed.alike) hp hb k1 k2 k3 T' rfl X'
    exact ⟨t2, st t2 a1, b1⟩
  · obtain ⟨k1, k2, k3⟩ := vx_keep h0 e1 hS hAX hf hL hF
    obtain ⟨t2, a1, b1⟩ := kx E ce q u t T'.heap (locs ++ L) e1.symm (by rw [← e2]; exact X'.warmed.alike) hp hb k1 k2 k3 (by rw [e1]; exact hce) hcv hcl T' rfl X'
    exact ⟨t2, st.trans a1, b1⟩
theorem vx_callf {S SX : Type} {post : UInt32 → S → Prop} {px : SX → Prop} {B : S → State → Prop} {BX : String → SX → State → Prop} {AX : Nat → Prop} (hr : vx_Run p l e R s m args below meth c H locs cells slots mc ms (F0 m pc ls st0) rest (va_Qf post B A1 a) (vx_X px BX AX) free) (hS : va_S A0 H0 H locs) (hA : ∀ q, q < H.size → A1 q → A0 q) (hf : ∀ q, free q → A0 q) (hAX : ∀ q, q < H.size → AX q → A0 q)
    (kx : ∀ (E : String) (ce : Cell) (q9 : Addr) (u : SX) (t : State) (H1 : Heap) (locs1 : List Loc), t.heap = H1 → s.vm.Alike t.vm → px u → BX E u t → H.size ≤ H1.size → (∀ q : Nat, q < H.size → ¬ AX q → H1[q]? = H[q]?) → va_S A0 H0 H1 locs1 → H1[q9]? = some ce → ce.vm = .none → s.vm.findClass E = some ce.cls → vx_W p l e R s m args below meth c H1 locs1 (cells + mc) (slots + ms) Q (F0 m pc ls rest) q9)
    (kk : ∀ (r : UInt32) (u : S) (t : State) (H1 : Heap) (locs1 : List Loc), t.heap = H1 → s.vm.Alike t.vm → post r u → B u t → H.size ≤ H1.size → (∀ q : Nat, q < H.size → ¬ A1 q → H1[q]? = H[q]?) → va_S A0 H0 H1 locs1 → W p l e R s m args below meth c H1 locs1 (cells + mc) (slots + ms) Q (F0 m (pc + 3) ls (.float r :: rest))) : W p l e R s m args below meth c H locs cells slots Q (F0 m pc ls st0) := by
  intro T hT X
  rcases hr T hT X with ⟨v, st₀, t, T', L, h0, X', hL, e1, e2, ⟨⟨r, u, hv, hp, hb⟩, hF⟩, st⟩ | ⟨q, st₀, t, T', L, E, ce, h0, X', hL, e1, e2, ⟨u, hp, hb, hF⟩, hce, hcv, hcl, st⟩
  · cases hv
    obtain ⟨k1, k2, k3⟩ := vx_keep h0 e1 hS hA hf hL hF
    obtain ⟨t2, a1, b1⟩ := kk r u t T'.heap (locs ++ L) e1.symm (by rw [← e2]; exact X'.warmed.alike) hp hb k1 k2 k3 T' rfl X'
    exact ⟨t2, st t2 a1, b1⟩
  · obtain ⟨k1, k2, k3⟩ := vx_keep h0 e1 hS hAX hf hL hF
    obtain ⟨t2, a1, b1⟩ := kx E ce q u t T'.heap (locs ++ L) e1.symm (by rw [← e2]; exact X'.warmed.alike) hp hb k1 k2 k3 (by rw [e1]; exact hce) hcv hcl T' rfl X'
    exact ⟨t2, st.trans a1, b1⟩
theorem vx_calld {S SX : Type} {post : UInt64 → S → Prop} {px : SX → Prop} {B : S → State → Prop} {BX : String → SX → State → Prop} {AX : Nat → Prop} (hr : vx_Run p l e R s m args below meth c H locs cells slots mc ms (F0 m pc ls st0) rest (va_Qd post B A1 a) (vx_X px BX AX) free) (hS : va_S A0 H0 H locs) (hA : ∀ q, q < H.size → A1 q → A0 q) (hf : ∀ q, free q → A0 q) (hAX : ∀ q, q < H.size → AX q → A0 q)
    (kx : ∀ (E : String) (ce : Cell) (q9 : Addr) (u : SX) (t : State) (H1 : Heap) (locs1 : List Loc), t.heap = H1 → s.vm.Alike t.vm → px u → BX E u t → H.size ≤ H1.size → (∀ q : Nat, q < H.size → ¬ AX q → H1[q]? = H[q]?) → va_S A0 H0 H1 locs1 → H1[q9]? = some ce → ce.vm = .none → s.vm.findClass E = some ce.cls → vx_W p l e R s m args below meth c H1 locs1 (cells + mc) (slots + ms) Q (F0 m pc ls rest) q9)
    (kk : ∀ (r : UInt64) (u : S) (t : State) (H1 : Heap) (locs1 : List Loc), t.heap = H1 → s.vm.Alike t.vm → post r u → B u t → H.size ≤ H1.size → (∀ q : Nat, q < H.size → ¬ A1 q → H1[q]? = H[q]?) → va_S A0 H0 H1 locs1 → W p l e R s m args below meth c H1 locs1 (cells + mc) (slots + ms) Q (F0 m (pc + 3) ls (.double r :: rest))) : W p l e R s m args below meth c H locs cells slots Q (F0 m pc ls st0) := by
  intro T hT X
  rcases hr T hT X with ⟨v, st₀, t, T', L, h0, X', hL, e1, e2, ⟨⟨r, u, hv, hp, hb⟩, hF⟩, st⟩ | ⟨q, st₀, t, T', L, E, ce, h0, X', hL, e1, e2, ⟨u, hp, hb, hF⟩, hce, hcv, hcl, st⟩
  · cases hv
    obtain ⟨k1, k2, k3⟩ := vx_keep h0 e1 hS hA hf hL hF
    obtain ⟨t2, a1, b1⟩ := kk r u t T'.heap (locs ++ L) e1.symm (by rw [← e2]; exact X'.warmed.alike) hp hb k1 k2 k3 T' rfl X'
    exact ⟨t2, st t2 a1, b1⟩
  · obtain ⟨k1, k2, k3⟩ := vx_keep h0 e1 hS hAX hf hL hF
    obtain ⟨t2, a1, b1⟩ := kx E ce q u t T'.heap (locs ++ L) e1.symm (by rw [← e2]; exact X'.warmed.alike) hp hb k1 k2 k3 (by rw [e1]; exact hce) hcv hcl T' rfl X'
    exact ⟨t2, st.trans a1, b1⟩
theorem vx_callv {S SX : Type} {post : S → Prop} {px : SX → Prop} {B : S → State → Prop} {BX : String → SX → State → Prop} {AX : Nat → Prop} (hr : vx_Run p l e R s m args below meth c H locs cells slots mc ms (F0 m pc ls st0) rest (va_Qv post B A1 a) (vx_X px BX AX) free) (hS : va_S A0 H0 H locs) (hA : ∀ q, q < H.size → A1 q → A0 q) (hf : ∀ q, free q → A0 q) (hAX : ∀ q, q < H.size → AX q → A0 q)
    (kx : ∀ (E : String) (ce : Cell) (q9 : Addr) (u : SX) (t : State) (H1 : Heap) (locs1 : List Loc), t.heap = H1 → s.vm.Alike t.vm → px u → BX E u t → H.size ≤ H1.size → (∀ q : Nat, q < H.size → ¬ AX q → H1[q]? = H[q]?) → va_S A0 H0 H1 locs1 → H1[q9]? = some ce → ce.vm = .none → s.vm.findClass E = some ce.cls → vx_W p l e R s m args below meth c H1 locs1 (cells + mc) (slots + ms) Q (F0 m pc ls rest) q9)
    (kk : ∀ (u : S) (t : State) (H1 : Heap) (locs1 : List Loc), t.heap = H1 → s.vm.Alike t.vm → post u → B u t → H.size ≤ H1.size → (∀ q : Nat, q < H.size → ¬ A1 q → H1[q]? = H[q]?) → va_S A0 H0 H1 locs1 → W p l e R s m args below meth c H1 locs1 (cells + mc) (slots + ms) Q (F0 m (pc + 3) ls (rest))) : W p l e R s m args below meth c H locs cells slots Q (F0 m pc ls st0) := by
  intro T hT X
  rcases hr T hT X with ⟨v, st₀, t, T', L, h0, X', hL, e1, e2, ⟨⟨u, hv, hp, hb⟩, hF⟩, st⟩ | ⟨q, st₀, t, T', L, E, ce, h0, X', hL, e1, e2, ⟨u, hp, hb, hF⟩, hce, hcv, hcl, st⟩
  · cases hv
    obtain ⟨k1, k2, k3⟩ := vx_keep h0 e1 hS hA hf hL hF
    obtain ⟨t2, a1, b1⟩ := kk u t T'.heap (locs ++ L) e1.symm (by rw [← e2]; exact X'.warmed.alike) hp hb k1 k2 k3 T' rfl X'
    exact ⟨t2, st t2 a1, b1⟩
  · obtain ⟨k1, k2, k3⟩ := vx_keep h0 e1 hS hAX hf hL hF
    obtain ⟨t2, a1, b1⟩ := kx E ce q u t T'.heap (locs ++ L) e1.symm (by rw [← e2]; exact X'.warmed.alike) hp hb k1 k2 k3 (by rw [e1]; exact hce) hcv hcl T' rfl X'
    exact ⟨t2, st.trans a1, b1⟩
/-- caught by the row x of this method's table; the rows ahead don't take it -/
theorem vx_catch {own name : String} {E : String} {ce : Cell} {q : Addr} (hown : s.vm.findClass own = some m.cls) (pre : List ExceptionTableEntry) (x : ExceptionTableEntry) (suf : List ExceptionTableEntry) (hsplit : c.exceptionTable.toList = pre ++ x :: suf)
    (hpass : ∀ z ∈ pre, covers z pc = false ∨ (z.catchType ≠ 0 ∧ ∃ nm : String, (Cond.classLink own z.catchType nm).before args s = true ∧ va_Nc E nm s)) (hx : covers x pc = true) (h0 : x.catchType ≠ 0)
    (hlink : (Cond.classLink own x.catchType name).before args s = true) (hcast : (Cond.castable E name).before args s = true) (hcell : H[q]? = some ce) (hv : ce.vm = .none) (hcl : s.vm.findClass E = some ce.cls)
    (kk : W p l e R s m args below meth c H locs cells slots Q (F0 m x.handlerPc ls [.ref q])) : vx_W p l e R s m args below meth c H locs cells slots Q (F0 m pc ls rest) q := by
  intro T hT X
  have hpl : e.platform.magicAccessors = ({} : Platform).magicAccessors := by rw [X.admits.platform]
  obtain ⟨c3, c4, hc3, hc4, hasg⟩ := Cond.castable_spec hcast
  cases Option.some.inj (hc3.symm.trans hcl)
  obtain ⟨c5, hc5, hcl5⟩ := Cond.classLink_spec hown hlink e.platform hpl
  cases Option.some.inj (hc4.symm.trans hc5)
  obtain ⟨vm', X', st⟩ := X.thenCaughtThrough q (g := F0 m pc ls rest) rfl (Steps.refl _) (by rw [hT]; exact hcell) (by rw [hv]; rfl) (by obtain ⟨k9, h9, -⟩ := Vm.findClass_spec hcl; exact ⟨k9, h9⟩) pre x suf hsplit
    (fun z hz => by
      rcases hpass z hz with h | ⟨hz0, nm, hl1, hn1⟩
      · exact Or.inl h
      · obtain ⟨c6, hc6, hcl6⟩ := Cond.classLink_spec hown hl1 e.platform hpl
        obtain ⟨a8, b8, h1, h2, h3⟩ := hn1
        cases Option.some.inj (h1.symm.trans hcl)
        cases Option.some.inj (h2.symm.trans hc6)
        exact Or.inr ⟨hz0, _, hcl6, h3⟩) hx (Or.inr ⟨h0, c4, hcl5, hasg⟩)
  obtain ⟨t, a1, b1⟩ := kk (T.setVm vm') hT X'
  exact ⟨t, st.trans a1, b1⟩
end Rows
section Ends
variable {p : Program} {l : Launch} {e : Env} {R : Room} {s : State} {m : MethodId} {args : Array Value} {below : List Frame} {meth : Method} {c : Code} {H : Heap} {locs : List Loc} {cells slots : Nat} {Q : State → Prop}
variable {mc ms : Nat} {free : Addr → Prop} {A0 A1 : Nat → Prop} {H0 : Heap} {a : Array Value} {ls : Array Slot} {st0 rest : List Value}
variable {Qc : Array Value → State → Outcome → State → Prop} {XC : String → State → State → Prop}
/-- what a body that may throw owes at its end -/
def vx_MQ (below : List Frame) (Qc : Array Value → State → Outcome → State → Prop) (XC : String → State → State → Prop) (a : Array Value) (s : State) (mc ms : Nat) (free : Addr → Prop) : State → Prop := fun t =>
  ∃ o, t.status = .running ∧ Ended t below o ∧ vx_Q Qc XC mc ms free a s o t
theorem vx_ret {g : JFrame} {mc ms : Nat} (k : W p l e R s m args below meth c H locs cells slots (MQ below Qc args s mc ms free) g) : W p l e R s m args below meth c H locs cells slots (vx_MQ below Qc XC args s mc ms free) g := by
  intro T hT X
  obtain ⟨t, a1, o, b1, b2, b3, b4⟩ := k T hT X
  exact ⟨t, a1, o, b1, b2, Or.inl ⟨b3, b4⟩⟩
/-- not caught here: it goes on to the caller -/
theorem vx_widen {g : JFrame} {q : Addr} {k n : Nat} (h1 : cells ≤ k) (h2 : slots ≤ n) (kk : vx_W p l e R s m args below meth c H locs k n Q g q) : vx_W p l e R s m args below meth c H locs cells slots Q g q := fun T hT X => kk T hT (stand_widen X h1 h2)
theorem vx_out {pc : Nat} {E : String} {ce : Cell} {q : Addr} {mc ms : Nat} (hout : ∀ x ∈ c.exceptionTable.toList, covers x pc = false) (hlocks : meth.locks = false) (hcell : H[q]? = some ce) (hv : ce.vm = .none) (hcl : s.vm.findClass E = some ce.cls)
    (hx : ∀ t : State, t.heap = H → s.vm.Alike t.vm → XC E s t) (hf : ∀ z ∈ locs, free z.base) (hc : cells ≤ mc) (hs : slots ≤ ms) :
    vx_W p l e R s m args below meth c H locs cells slots (vx_MQ below Qc XC args s mc ms free) (F0 m pc ls rest) q := by
  intro T hT X
  obtain ⟨st1, hrun, hend, hW, hsm⟩ := X.leaveThrown q (g := F0 m pc ls rest) rfl rfl rfl hout hlocks
  have hcell9 : (T.setFrames (.throwing q :: below)).heap[q]? = some ce := by
    show T.heap[q]? = some ce
    rw [hT]; exact hcell
  exact ⟨_, st1, .threw q, hrun, hend, Or.inr ⟨q, rfl, E, ce, locs, hx _ hT hW.alike, hcell9, hv, hcl, hW, hsm.mono hc hs, hf⟩⟩
theorem vx_frame {U : State} {k n : Nat} (h : s.sameButNew ({ U with vm := s.vm } : State) locs k n) : s.heap.size ≤ U.heap.size ∧ ∀ q : Nat, q < s.heap.size → (∀ z ∈ locs, z.base ≠ q) → U.heap[q]? = s.heap[q]? := by
  obtain ⟨-, h2, -, -, -, h6⟩ := h
  refine ⟨h2, fun q hq hz => ?_⟩
  obtain ⟨c9, e1, e2, e3, e4⟩ := h6 q _ (Array.getElem?_eq_getElem hq)
  have hs : c9.slots = (s.heap[q]).slots := Array.ext_getElem? fun i => e4 i fun hm => hz _ hm rfl
  have h9 : c9 = s.heap[q] := by
    rw [hs] at e2
    exact e2
  have e5 : U.heap[q]? = some c9 := e1
  rw [e5, h9, Array.getElem?_eq_getElem hq]
/-- the words of a throw but the four that speak of the heap -/
def vx_no (w : Cond) : Bool := decide (w ≠ .isRef (.static Bundle.tN "UNASSIGNED_STACK" Bundle.steD)) && decide (w ≠ .isRef (.static Bundle.tN "SUPPRESSED_SENTINEL" Bundle.listD)) && decide (w ≠ .laysStatic Bundle.tN "UNASSIGNED_STACK" Bundle.steD) && decide (w ≠ .laysStatic Bundle.tN "SUPPRESSED_SENTINEL" Bundle.listD)
def vx_at0 (own : String) (ic : Nat) (X : String) (names : List String) : List Cond := (Bundle.ownAtoms0 own ic X names).filter vx_no
def vx_atS (own : String) (ic : Nat) (X : String) (names : List String) : List Cond := (Bundle.ownAtoms own ic X names).filter vx_no
/-- a word that the tables alone decide, or a good one -/
def vx_ot (w : Cond) : Bool := w.onTables || goodWord w
theorem vx_ot_at {args a' : Array Value} {s U : State} {w : Cond} (hW : s.WarmedH U.vm) (hvm : s.vm = U.vm) (hg : vx_ot w = true) (h : w.before args s = true) : w.before a' U = true := by
  simp only [vx_ot, Bool.or_eq_true] at hg
  rcases hg with hg | hg
  · exact va_tabs hg hvm h
  · exact word_at hW (good_of_word hg) h
/-- a list's words: the good ones out of the method's own list, the others by premises of their own -/
theorem vx_hat {args : Array Value} {s : State} {L B : List Cond} (h1 : ∀ w ∈ L.filter goodWord, w.before args s = true) (h2 : ∀ w ∈ L.filter (fun w => !goodWord w), w ∈ B) (h3 : ∀ w ∈ B, w.before args s = true) : ∀ w ∈ L, w.before args s = true := by
  intro w hw
  by_cases g : goodWord w = true
  · exact h1 w (List.mem_filter.mpr ⟨hw, g⟩)
  · refine h3 w (h2 w (List.mem_filter.mpr ⟨hw, ?_⟩))
    show (!goodWord w) = true
    cases hgw : goodWord w
    · rfl
    · exact absurd hgw g
theorem vx_c {args : Array Value} {s : State} {w : Cond} {B : List Cond} (h : w.before args s = true) (t : ∀ w ∈ B, w.before args s = true) : ∀ w' ∈ w :: B, w'.before args s = true := fun w' h' => (List.mem_cons.mp h').elim (fun e => by rw [e]; exact h) (t w')
theorem vx_n {args : Array Value} {s : State} : ∀ w ∈ ([] : List Cond), w.before args s = true := fun _ h => nomatch h
theorem vx_own {args : Array Value} {s : State} {L : List Cond} (h1 : ∀ w ∈ L.filter vx_no, w.before args s = true)
    (hU : (Cond.isRef (.static Bundle.tN "UNASSIGNED_STACK" Bundle.steD)).before args s = true) (hN : (Cond.isRef (.static Bundle.tN "SUPPRESSED_SENTINEL" Bundle.listD)).before args s = true)
    (lU : (Cond.laysStatic Bundle.tN "UNASSIGNED_STACK" Bundle.steD).before args s = true) (lN : (Cond.laysStatic Bundle.tN "SUPPRESSED_SENTINEL" Bundle.listD).before args s = true) : ∀ w ∈ L, w.before args s = true := by
  intro w hw
  by_cases e1 : w = .isRef (.static Bundle.tN "UNASSIGNED_STACK" Bundle.steD)
  · rw [e1]; exact hU
  · by_cases e2 : w = .isRef (.static Bundle.tN "SUPPRESSED_SENTINEL" Bundle.listD)
    · rw [e2]; exact hN
    · by_cases e3 : w = .laysStatic Bundle.tN "UNASSIGNED_STACK" Bundle.steD
      · rw [e3]; exact lU
      · by_cases e4 : w = .laysStatic Bundle.tN "SUPPRESSED_SENTINEL" Bundle.listD
        · rw [e4]; exact lN
        · exact h1 w (List.mem_filter.mpr ⟨hw, by unfold vx_no; rw [decide_eq_true e1, decide_eq_true e2, decide_eq_true e3, decide_eq_true e4]; rfl⟩)
/-- where a static field lies, its class's statics cell in H -/
def vx_L (C n d : String) (A : Nat → Prop) (U : State) (H : Heap) : Prop := ∃ (c : ClassId) (k : Class) (i : Nat) (f : Field) (a : Nat) (cell : Cell), U.vm.findClass C = some c ∧ U.fieldFound? C n d = some (c, k, i, f) ∧ f.isStatic = true ∧ k.statics = some a ∧ H[a]? = some cell ∧ cell.vm.isStatics = true ∧ cell.cls = c ∧ f.slot < cell.slots.size ∧ k.staticTypes[f.slot]? = some f.type ∧ ¬ A a
theorem vx_L.moved {C n d : String} {A : Nat → Prop} {u U : State} {H : Heap} (hvm : u.vm.Alike U.vm) (h : vx_L C n d A u H) : vx_L C n d A U H := by
  obtain ⟨c, k, i, f, a, cell, h1, h2, h3, h4, h5, h6, h7, h8, h9, h10⟩ := h
  obtain ⟨k', hi', he⟩ := State.fieldFound?_setVm hvm h2
  exact ⟨c, k', i, f, a, cell, by rw [hvm.findClass]; exact h1, hi', h3, by rw [he]; exact h4, h5, h6, h7, h8, by rw [he]; exact h9, h10⟩
theorem vx_L.kept {C n d : String} {A : Nat → Prop} {U : State} {H H1 : Heap} (h : vx_L C n d A U H) (hq : ∀ a : Nat, a < H.size → ¬ A a → H1[a]? = H[a]?) : vx_L C n d A U H1 := by
  obtain ⟨c, k, i, f, a, cell, h1, h2, h3, h4, h5, h6, h7, h8, h9, h10⟩ := h
  exact ⟨c, k, i, f, a, cell, h1, h2, h3, h4, by rw [hq a (Array.getElem?_eq_some_iff.mp h5).1 h10]; exact h5, h6, h7, h8, h9, h10⟩
theorem vx_L.narrow {C n d : String} {A B : Nat → Prop} {U : State} {H : Heap} (h : vx_L C n d A U H) (hAB : ∀ q, B q → A q) : vx_L C n d B U H := by
  obtain ⟨c, k, i, f, a, cell, h1, h2, h3, h4, h5, h6, h7, h8, h9, h10⟩ := h
  exact ⟨c, k, i, f, a, cell, h1, h2, h3, h4, h5, h6, h7, h8, h9, fun z => h10 (hAB _ z)⟩
theorem vx_L.word {C n d : String} {A : Nat → Prop} {s : State} {args : Array Value} (h : vx_L C n d A s s.heap) : (Cond.laysStatic C n d).before args s = true := by
  obtain ⟨c, k, i, f, a, cell, h1, h2, h3, h4, h5, h6, h7, h8, h9, -⟩ := h
  show (Cond.laysStatic C n d).holds args s none s [] = true
  exact Cond.laysStatic_of h1 h2 h3 h4 h5 h6 h7 h8 h9
/-- .. and what it holds: null or some reference -/
def vx_Zq (C n d : String) (A : Nat → Prop) (U : State) (H : Heap) : Prop := va_Zq C n d A U H ∧ vx_L C n d A U H
theorem vx_Zq.moved {C n d : String} {A : Nat → Prop} {u U : State} {H : Heap} (hvm : u.vm.Alike U.vm) (h : vx_Zq C n d A u H) : vx_Zq C n d A U H := ⟨va_Zq.moved hvm h.1, vx_L.moved hvm h.2⟩
theorem vx_Zq.kept {C n d : String} {A : Nat → Prop} {U : State} {H H1 : Heap} (h : vx_Zq C n d A U H) (hq : ∀ a : Nat, a < H.size → ¬ A a → H1[a]? = H[a]?) : vx_Zq C n d A U H1 := ⟨va_Zq.kept h.1 hq, vx_L.kept h.2 hq⟩
theorem vx_Zq.narrow {C n d : String} {A B : Nat → Prop} {U : State} {H : Heap} (h : vx_Zq C n d A U H) (hAB : ∀ q, B q → A q) : vx_Zq C n d B U H := ⟨va_Zq.narrow h.1 hAB, vx_L.narrow h.2 hAB⟩
theorem vx_Zqof {args : Array Value} {s : State} {C n d : String} {A : Nat → Prop} (hl : (Cond.laysStatic C n d).before args s = true) (hini : (Cond.initialized C).before args s = true) (h : (Cond.isRef (.static C n d)).before args s = true) (hA : ∀ a : Nat, a < s.heap.size → ¬ A a) : vx_Zq C n d A s s.heap := by
  refine ⟨va_Zqof hl hini h hA, ?_⟩
  obtain ⟨c, k, i, f, a, cell, h1, h2, h3, h4, h5, h6, h7, h8, h9⟩ := Cond.laysStatic_spec hl
  exact ⟨c, k, i, f, a, cell, h1, h2, h3, h4, h5, h6, h7, h8, h9, hA a (Array.getElem?_eq_some_iff.mp h5).1⟩
theorem vx_isRef {C n d : String} {v : Value} {A : Nat → Prop} {s : State} {args : Array Value} (h : va_Z C n d v A s s.heap) (hv : v.isRef = true) : (Cond.isRef (.static C n d)).before args s = true := by
  obtain ⟨cf, kf, fi, f, a, cell, h1, h2, h3, h4, h5, h6, h7, -⟩ := h
  have he : (Term.static C n d).eval args s none [] s = some v := by
    simp [Term.eval, State.fieldNamed?, h1, h2, h4, h5, h6, h7]
  simp only [Cond.before, Cond.holds, Cond.value, he]
  cases v <;> simp_all [Value.isRef]
theorem vx_isRefq {C n d : String} {A : Nat → Prop} {s : State} {args : Array Value} (h : va_Zq C n d A s s.heap) : (Cond.isRef (.static C n d)).before args s = true := by
  rcases h with h | ⟨t, h⟩
  · exact vx_isRef h rfl
  · exact vx_isRef h rfl
/-- the same frame, seen from here: as if the method were called anew in this heap -/
theorem vx_rebase {T : State} (X : Stand p l e R s m args below meth c T locs cells slots) {R' : Room} (hf : R'.frames ≤ R.frames) (hl : R'.locals ≤ R.locals) (hc : cells + R'.cells ≤ R.cells) (hs : slots + R'.slots ≤ R.slots) :
    Stand p l e R' ((T.setVm s.vm).setFrames (.invoking m args :: below)) m args below meth c T [] 0 0 := by
  have htop : (T.setVm s.vm).topJava?.isSome := X.here.top
  have hF : ((T.setVm s.vm).setFrames (.invoking m args :: below)).frames = .invoking m args :: below := State.frames_setFrames _ (State.cur_lt_of_top htop)
  obtain ⟨g₀, hg0⟩ := Option.isSome_iff_exists.mp htop
  obtain ⟨r, hr⟩ := State.topJava?_eq_some.mp hg0
  have hl9 : e.platform.stackLimits (T.setVm s.vm).me = e.platform.stackLimits s.me := X.limits
  have hb9 : (T.setVm s.vm).me.stackBytes = s.me.stackBytes := X.bytes
  refine ⟨X.admits, X.cas, X.clock, hF, ?_, X.hears, X.method, X.code, X.here, X.tail, X.warmed, ?_, ?_, ?_⟩
  · have h := X.room
    have hU : ((T.setVm s.vm).setFrames (.invoking m args :: below)).localsInUse = s.localsInUse := by
      rw [State.localsInUse_invoking hF (meth := meth) (c := c) X.method X.code, State.localsInUse_invoking X.frames X.method X.code]
    simp only [State.hasRoom, Bool.and_eq_true, decide_eq_true_eq] at h ⊢
    obtain ⟨⟨⟨⟨h1, h2, h3, h4, h5, h6⟩, h7⟩, h8⟩, h9⟩ := h
    rw [X.frames, List.length_cons] at h2 h3
    have q1 := X.heapSize
    have q2 := X.used
    simp only [hF, hU, List.length_cons, State.stackLimits_setFrames, State.stackBytes_setFrames, hl9, hb9]
    refine ⟨⟨⟨⟨by omega, by omega, by omega, by omega, by omega, h6⟩, ?_⟩, ?_⟩, X.book⟩
    · show T.heap.size + R'.cells ≤ e.platform.maxCells
      omega
    · show T.slotsUsed + R'.slots ≤ e.platform.maxSlots
      omega
  · rw [State.stackLimits_setFrames]; rfl
  · rw [State.stackBytes_setFrames]; rfl
  · refine ⟨?_, Nat.le_refl _, Nat.le_refl _, ?_, ?_, fun a c9 h9 => ⟨c9, h9, rfl, rfl, fun _ _ => rfl⟩⟩
    · obtain ⟨t, ht, -⟩ := State.frames_cons hr
      show T.setVm s.vm = { ((T.setVm s.vm).setFrames (.invoking m args :: below)).setFrames (T.setVm s.vm).frames with heap := T.heap, slotsUsed := T.slotsUsed }
      rw [State.setFrames_setFrames, State.setFrames_self ht]
      rfl
    · show T.slotsUsed = T.slotsUsed + ((T.heap.toList.drop T.heap.size).map (·.slots.size)).sum
      rw [List.drop_eq_nil_of_le (Nat.le_of_eq Array.length_toList)]
      rfl
    · show ((T.heap.toList.drop T.heap.size).map (·.slots.size)).sum ≤ 0
      rw [List.drop_eq_nil_of_le (Nat.le_of_eq Array.length_toList)]
      exact Nat.le_refl _
/-- 'throw new E()': new; dup; invokespecial; athrow -/
theorem vx_throw0 {cc : ByteArray} {pc : Nat} (hexec : p.tables.exec = Jvm.exec) (hb : c.code = cc) (hl : l.stackTraces = false) {own cls : String} {names : List String} {ik ic mc ms : Nat} {A : Nat → Prop}
    (hown : s.vm.findClass own = some m.cls) (hcls : Bundle.fit cls = true) (hnames : ∀ n ∈ names, Bundle.fit n = true)
    (hk : (Cond.classLink own ik cls).before args s = true) (hini : (Cond.initialized cls).before args s = true) (hat : ∀ w ∈ vx_at0 own ic cls names, w.before args s = true)
    (hgood : ∀ w ∈ Cond.classLink own ik cls :: Cond.initialized cls :: vx_at0 own ic cls names, vx_ot w = true)
    (hU : vx_Zq Bundle.tN "UNASSIGNED_STACK" Bundle.steD A s s.heap) (hN : vx_Zq Bundle.tN "SUPPRESSED_SENTINEL" Bundle.listD A s s.heap) (hS : va_S A s.heap H locs) (hsize : ls.size = c.maxLocals)
    (d0 : decode cc pc = .ok (.new ik, 3)) (d3 : decode cc (pc + 3) = .ok (.dup, 1)) (d4 : decode cc (pc + 4) = .ok (.invokespecial ic, 3)) (d7 : decode cc (pc + 7) = .ok (.athrow, 1))
    (hout : ∀ x ∈ c.exceptionTable.toList, covers x (pc + 7) = false)
    (hRframes : names.length + 3 < R.frames) (hRlocals : (rest.map fun v => v.category).sum + (13 * (names.length + 1) + 42) ≤ R.locals) (hRcells : cells + 1 ≤ R.cells) (hRslots : slots + 6 ≤ R.slots) (hlocks : meth.locks = false)
    (hx : ∀ t : State, s.vm.Alike t.vm → H.size ≤ t.heap.size → (∀ q : Nat, q < H.size → t.heap[q]? = H[q]?) → XC cls s t)
    (hf : ∀ z ∈ locs, free z.base) (hc : cells + 1 ≤ mc) (hs : slots + 6 ≤ ms) :
    W p l e R s m args below meth c H locs cells slots (vx_MQ below Qc XC args s mc ms free) (F0 m pc ls rest) := by
  intro T hT X
  have htr : e.platform.stackTraces = false := (show e.platform.stackTraces = l.stackTraces by rw [X.admits.platform]).trans hl
  have Y := vx_rebase X (R' := { frames := R.frames, locals := R.locals, cells := 1, slots := 6 }) (Nat.le_refl _) (Nat.le_refl _) hRcells hRslots
  obtain ⟨s', hA⟩ : ∃ z, z = (T.setVm s.vm).setFrames (.invoking m args :: below) := ⟨_, rfl⟩
  rw [← hA] at Y
  have hvm : s'.vm = s.vm := by rw [hA]; rfl
  have hhp : s'.heap = H := by rw [hA]; exact hT
  have hW0 : s.WarmedH s'.vm := by rw [hvm]; exact State.WarmedH.refl s
  have hat' : ∀ w ∈ vx_at0 own ic cls names, w.before args s' = true := fun w hw => vx_ot_at hW0 hvm.symm (hgood w (List.mem_cons_of_mem _ (List.mem_cons_of_mem _ hw))) (hat w hw)
  have hk' : (Cond.classLink own ik cls).before args s' = true := vx_ot_at hW0 hvm.symm (hgood _ List.mem_cons_self) hk
  have hini' : (Cond.initialized cls).before args s' = true := vx_ot_at hW0 hvm.symm (hgood _ (List.mem_cons_of_mem _ List.mem_cons_self)) hini
  have hU' : vx_Zq Bundle.tN "UNASSIGNED_STACK" Bundle.steD A s' s'.heap := by rw [hhp]; exact vx_Zq.moved hW0.alike (hU.kept hS.2.1)
  have hN' : vx_Zq Bundle.tN "SUPPRESSED_SENTINEL" Bundle.listD A s' s'.heap := by rw [hhp]; exact vx_Zq.moved hW0.alike (hN.kept hS.2.1)
  have h : ∀ w ∈ Bundle.ownAtoms0 own ic cls names, w.before args s' = true := vx_own hat' (vx_isRefq hU'.1) (vx_isRefq hN'.1) hU'.2.word hN'.2.word
  have hown' : s'.vm.findClass own = some m.cls := by rw [hvm]; exact hown
  have hins : (Cond.instantiable cls 6).before args s' = true := h _ (by simp [Bundle.ownAtoms0])
  obtain ⟨vm₁, cX, kX, hfX, hkX, -, -, X₁, st1⟩ := Y.newCold hexec (own := own) (C := cls) (index := ik) (n := 6) hown' hk' hins hini'
    (g := F0 m pc ls rest) rfl (by rw [hb]; exact d0) (Nat.le_refl _) (Nat.le_refl _)
  generalize hT1 : (T.setVm vm₁).pushCell { cls := cX, slots := kX.instanceTypes.map defaultValue, vm := .none } = T1 at X₁ st1
  have hcat : (Value.ref T.heap.size).category = 1 := rfl
  have hcellA : T1.heap[T.heap.size]? = some (freshCell cX kX) := by rw [← hT1]; exact State.heap_pushCell_size _ _
  have d3' : decode c.code (pc + 3) = .ok (.dup, 1) := by rw [hb]; exact d3
  obtain ⟨U, hsteps, hrun, hend, hW, hsame, ce, hce, hO⟩ := X₁.ctorThrow0 hexec htr (own := own) (cls := cls) (names := names) (ic := ic) hown' hcls hnames h (fun x hx => nomatch hx) hfX hkX hcellA (by rw [hhp, hT]; exact Nat.le_refl _)
    (g := { method := m, pc := pc + 4, locals := ls, stack := .ref T.heap.size :: .ref T.heap.size :: rest, locked := none }) rfl hsize rfl rfl (rest := rest) rfl
    (by rw [hb]; exact d4) (by rw [hb]; exact d7) hout hRframes (by simp only [List.map_cons, List.sum_cons, hcat]; omega) hlocks
  obtain ⟨f1, f2⟩ := vx_frame hsame
  rw [hhp] at f1 f2
  have hWs : s.WarmedH U.vm := State.WarmedH.trans hW0 hW
  have hcl : s.vm.findClass cls = some ce.cls := by
    have h9 := hO.cls
    rw [hvm] at h9
    exact h9
  have hall : s.sameButNew ({ U with vm := s.vm } : State) locs mc ms := by
    subst hA
    obtain ⟨e1, e2⟩ := hsame
    rw [State.setFrames_setFrames] at e1
    have h2 : (T.setVm s.vm).sameButNew ({ U with vm := s.vm } : State) [] (0 + 1) (0 + 6) := ⟨e1, e2⟩
    have h3 := X.same.trans h2
    rw [List.append_nil] at h3
    exact h3.mono hc hs
  refine ⟨U, ?_, .threw T.heap.size, hrun, hend, Or.inr ⟨T.heap.size, rfl, cls, ce, locs, hx U hWs.alike f1 (fun q hq => f2 q hq (fun z hz => nomatch hz)), hce, hO.vm, hcl, hWs, hall, hf⟩⟩
  refine st1 _ ?_
  show Steps p.tables e below (T1.setTop { method := m, pc := pc + 3, locals := ls, stack := .ref T.heap.size :: rest, locked := none }) _
  jvm_step X₁.here [X₁.here.top, hexec, d3', Value.category]
  exact hsteps
/-- 'throw new E("text")': new; dup; ldc; invokespecial; athrow -/
theorem vx_throwS {cc : ByteArray} {pc : Nat} (hexec : p.tables.exec = Jvm.exec) (hb : c.code = cc) (hl : l.stackTraces = false) {own cls text : String} {names : List String} {ik is ic mc ms sa : Nat} {A : Nat → Prop}
    (hown : s.vm.findClass own = some m.cls) (hcls : Bundle.fit cls = true) (hnames : ∀ n ∈ names, Bundle.fit n = true)
    (hk : (Cond.classLink own ik cls).before args s = true) (hini : (Cond.initialized cls).before args s = true) (hstr : vk_R own is text sa s) (hat : ∀ w ∈ vx_atS own ic cls names, w.before args s = true)
    (hgood : ∀ w ∈ Cond.classLink own ik cls :: Cond.initialized cls :: vx_atS own ic cls names, vx_ot w = true)
    (hU : vx_Zq Bundle.tN "UNASSIGNED_STACK" Bundle.steD A s s.heap) (hN : vx_Zq Bundle.tN "SUPPRESSED_SENTINEL" Bundle.listD A s s.heap) (hS : va_S A s.heap H locs) (hsize : ls.size = c.maxLocals)
    (d0 : decode cc pc = .ok (.new ik, 3)) (d3 : decode cc (pc + 3) = .ok (.dup, 1)) (d4 : decode cc (pc + 4) = .ok (.ldc is, 2)) (d6 : decode cc (pc + 6) = .ok (.invokespecial ic, 3)) (d9 : decode cc (pc + 9) = .ok (.athrow, 1))
    (hout : ∀ x ∈ c.exceptionTable.toList, covers x (pc + 9) = false)
    (hRframes : names.length + 3 < R.frames) (hRlocals : (rest.map fun v => v.category).sum + (13 * (names.length + 1) + 43) ≤ R.locals) (hRcells : cells + 1 ≤ R.cells) (hRslots : slots + 6 ≤ R.slots) (hlocks : meth.locks = false)
    (hx : ∀ t : State, s.vm.Alike t.vm → H.size ≤ t.heap.size → (∀ q : Nat, q < H.size → t.heap[q]? = H[q]?) → XC cls s t)
    (hf : ∀ z ∈ locs, free z.base) (hc : cells + 1 ≤ mc) (hs : slots + 6 ≤ ms) :
    W p l e R s m args below meth c H locs cells slots (vx_MQ below Qc XC args s mc ms free) (F0 m pc ls rest) := by
  intro T hT X
  have htr : e.platform.stackTraces = false := (show e.platform.stackTraces = l.stackTraces by rw [X.admits.platform]).trans hl
  have Y := vx_rebase X (R' := { frames := R.frames, locals := R.locals, cells := 1, slots := 6 }) (Nat.le_refl _) (Nat.le_refl _) hRcells hRslots
  obtain ⟨s', hA⟩ : ∃ z, z = (T.setVm s.vm).setFrames (.invoking m args :: below) := ⟨_, rfl⟩
  rw [← hA] at Y
  have hvm : s'.vm = s.vm := by rw [hA]; rfl
  have hhp : s'.heap = H := by rw [hA]; exact hT
  have hW0 : s.WarmedH s'.vm := by rw [hvm]; exact State.WarmedH.refl s
  have hat' : ∀ w ∈ vx_atS own ic cls names, w.before args s' = true := fun w hw => vx_ot_at hW0 hvm.symm (hgood w (List.mem_cons_of_mem _ (List.mem_cons_of_mem _ hw))) (hat w hw)
  have hk' : (Cond.classLink own ik cls).before args s' = true := vx_ot_at hW0 hvm.symm (hgood _ List.mem_cons_self) hk
  have hini' : (Cond.initialized cls).before args s' = true := vx_ot_at hW0 hvm.symm (hgood _ (List.mem_cons_of_mem _ List.mem_cons_self)) hini
  have hU' : vx_Zq Bundle.tN "UNASSIGNED_STACK" Bundle.steD A s' s'.heap := by rw [hhp]; exact vx_Zq.moved hW0.alike (hU.kept hS.2.1)
  have hN' : vx_Zq Bundle.tN "SUPPRESSED_SENTINEL" Bundle.listD A s' s'.heap := by rw [hhp]; exact vx_Zq.moved hW0.alike (hN.kept hS.2.1)
  have h : ∀ w ∈ Bundle.ownAtoms own ic cls names, w.before args s' = true := vx_own hat' (vx_isRefq hU'.1) (vx_isRefq hN'.1) hU'.2.word hN'.2.word
  have hown' : s'.vm.findClass own = some m.cls := by rw [hvm]; exact hown
  have hins : (Cond.instantiable cls 6).before args s' = true := h _ (by simp [Bundle.ownAtoms])
  obtain ⟨vm₁, cX, kX, hfX, hkX, -, -, X₁, st1⟩ := Y.newCold hexec (own := own) (C := cls) (index := ik) (n := 6) hown' hk' hins hini'
    (g := F0 m pc ls rest) rfl (by rw [hb]; exact d0) (Nat.le_refl _) (Nat.le_refl _)
  generalize hT1 : (T.setVm vm₁).pushCell { cls := cX, slots := kX.instanceTypes.map defaultValue, vm := .none } = T1 at X₁ st1
  have hcat : (Value.ref T.heap.size).category = 1 := rfl
  have hcellA : T1.heap[T.heap.size]? = some (freshCell cX kX) := by rw [← hT1]; exact State.heap_pushCell_size _ _
  have d3' : decode c.code (pc + 3) = .ok (.dup, 1) := by rw [hb]; exact d3
  have d4' : decode c.code (pc + 4) = .ok (.ldc is, 2) := by rw [hb]; exact d4
  have hstr' : vk_R own is text sa s' := vk_R.warm hW0 hstr
  obtain ⟨U, hsteps, hrun, hend, hW, hsame, ce, hce, hO⟩ := X₁.ctorThrowS hexec htr (own := own) (cls := cls) (names := names) (ic := ic) hown' hcls hnames h (fun x hx => nomatch hx) hfX hkX hcellA (by rw [hhp, hT]; exact Nat.le_refl _) (msg := .ref sa) rfl
    (g := { method := m, pc := pc + 6, locals := ls, stack := .ref sa :: .ref T.heap.size :: .ref T.heap.size :: rest, locked := none }) rfl hsize rfl rfl (rest := rest) rfl
    (by rw [hb]; exact d6) (by rw [hb]; exact d9) hout hRframes (by simp only [List.map_cons, List.sum_cons, hcat]; omega) hlocks
  obtain ⟨f1, f2⟩ := vx_frame hsame
  rw [hhp] at f1 f2
  have hWs : s.WarmedH U.vm := State.WarmedH.trans hW0 hW
  have hcl : s.vm.findClass cls = some ce.cls := by
    have h9 := hO.cls
    rw [hvm] at h9
    exact h9
  have hall : s.sameButNew ({ U with vm := s.vm } : State) locs mc ms := by
    subst hA
    obtain ⟨e1, e2⟩ := hsame
    rw [State.setFrames_setFrames] at e1
    have h2 : (T.setVm s.vm).sameButNew ({ U with vm := s.vm } : State) [] (0 + 1) (0 + 6) := ⟨e1, e2⟩
    have h3 := X.same.trans h2
    rw [List.append_nil] at h3
    exact h3.mono hc hs
  refine ⟨U, ?_, .threw T.heap.size, hrun, hend, Or.inr ⟨T.heap.size, rfl, cls, ce, locs, hx U hWs.alike f1 (fun q hq => f2 q hq (fun z hz => nomatch hz)), hce, hO.vm, hcl, hWs, hall, hf⟩⟩
  refine st1 _ ?_
  show Steps p.tables e below (T1.setTop { method := m, pc := pc + 3, locals := ls, stack := .ref T.heap.size :: rest, locked := none }) _
  jvm_step X₁.here [X₁.here.top, hexec, d3', Value.category]
  exact X₁.ldcString hexec (own := own) (text := text) (index := is) (a := sa) hown' hstr'.1 hstr'.2
    (g := { method := m, pc := pc + 4, locals := ls, stack := .ref T.heap.size :: .ref T.heap.size :: rest, locked := none }) rfl d4' _ hsteps
/-- 'throw new E("text")', the text by a wide index -/
theorem vx_throwSW {cc : ByteArray} {pc : Nat} (hexec : p.tables.exec = Jvm.exec) (hb : c.code = cc) (hl : l.stackTraces = false) {own cls text : String} {names : List String} {ik is ic mc ms sa : Nat} {A : Nat → Prop}
    (hown : s.vm.findClass own = some m.cls) (hcls : Bundle.fit cls = true) (hnames : ∀ n ∈ names, Bundle.fit n = true)
    (hk : (Cond.classLink own ik cls).before args s = true) (hini : (Cond.initialized cls).before args s = true) (hstr : vk_R own is text sa s) (hat : ∀ w ∈ vx_atS own ic cls names, w.before args s = true)
    (hgood : ∀ w ∈ Cond.classLink own ik cls :: Cond.initialized cls :: vx_atS own ic cls names, vx_ot w = true)
    (hU : vx_Zq Bundle.tN "UNASSIGNED_STACK" Bundle.steD A s s.heap) (hN : vx_Zq Bundle.tN "SUPPRESSED_SENTINEL" Bundle.listD A s s.heap) (hS : va_S A s.heap H locs) (hsize : ls.size = c.maxLocals)
    (d0 : decode cc pc = .ok (.new ik, 3)) (d3 : decode cc (pc + 3) = .ok (.dup, 1)) (d4 : decode cc (pc + 4) = .ok (.ldc_w is, 3)) (d7 : decode cc (pc + 7) = .ok (.invokespecial ic, 3)) (d10 : decode cc (pc + 10) = .ok (.athrow, 1))
    (hout : ∀ x ∈ c.exceptionTable.toList, covers x (pc + 10) = false)
    (hRframes : names.length + 3 < R.frames) (hRlocals : (rest.map fun v => v.category).sum + (13 * (names.length + 1) + 43) ≤ R.locals) (hRcells : cells + 1 ≤ R.cells) (hRslots : slots + 6 ≤ R.slots) (hlocks : meth.locks = false)
    (hx : ∀ t : State, s.vm.Alike t.vm → H.size ≤ t.heap.size → (∀ q : Nat, q < H.size → t.heap[q]? = H[q]?) → XC cls s t)
    (hf : ∀ z ∈ locs, free z.base) (hc : cells + 1 ≤ mc) (hs : slots + 6 ≤ ms) :
    W p l e R s m args below meth c H locs cells slots (vx_MQ below Qc XC args s mc ms free) (F0 m pc ls rest) := by
  intro T hT X
  have htr : e.platform.stackTraces = false := (show e.platform.stackTraces = l.stackTraces by rw [X.admits.platform]).trans hl
  have Y := vx_rebase X (R' := { frames := R.frames, locals := R.locals, cells := 1, slots := 6 }) (Nat.le_refl _) (Nat.le_refl _) hRcells hRslots
  obtain ⟨s', hA⟩ : ∃ z, z = (T.setVm s.vm).setFrames (.invoking m args :: below) := ⟨_, rfl⟩
  rw [← hA] at Y
  have hvm : s'.vm = s.vm := by rw [hA]; rfl
  have hhp : s'.heap = H := by rw [hA]; exact hT
  have hW0 : s.WarmedH s'.vm := by rw [hvm]; exact State.WarmedH.refl s
  have hat' : ∀ w ∈ vx_atS own ic cls names, w.before args s' = true := fun w hw => vx_ot_at hW0 hvm.symm (hgood w (List.mem_cons_of_mem _ (List.mem_cons_of_mem _ hw))) (hat w hw)
  have hk' : (Cond.classLink own ik cls).before args s' = true := vx_ot_at hW0 hvm.symm (hgood _ List.mem_cons_self) hk
  have hini' : (Cond.initialized cls).before args s' = true := vx_ot_at hW0 hvm.symm (hgood _ (List.mem_cons_of_mem _ List.mem_cons_self)) hini
  have hU' : vx_Zq Bundle.tN "UNASSIGNED_STACK" Bundle.steD A s' s'.heap := by rw [hhp]; exact vx_Zq.moved hW0.alike (hU.kept hS.2.1)
  have hN' : vx_Zq Bundle.tN "SUPPRESSED_SENTINEL" Bundle.listD A s' s'.heap := by rw [hhp]; exact vx_Zq.moved hW0.alike (hN.kept hS.2.1)
  have h : ∀ w ∈ Bundle.ownAtoms own ic cls names, w.before args s' = true := vx_own hat' (vx_isRefq hU'.1) (vx_isRefq hN'.1) hU'.2.word hN'.2.word
  have hown' : s'.vm.findClass own = some m.cls := by rw [hvm]; exact hown
  have hins : (Cond.instantiable cls 6).before args s' = true := h _ (by simp [Bundle.ownAtoms])
  obtain ⟨vm₁, cX, kX, hfX, hkX, -, -, X₁, st1⟩ := Y.newCold hexec (own := own) (C := cls) (index := ik) (n := 6) hown' hk' hins hini'
    (g := F0 m pc ls rest) rfl (by rw [hb]; exact d0) (Nat.le_refl _) (Nat.le_refl _)
  generalize hT1 : (T.setVm vm₁).pushCell { cls := cX, slots := kX.instanceTypes.map defaultValue, vm := .none } = T1 at X₁ st1
  have hcat : (Value.ref T.heap.size).category = 1 := rfl
  have hcellA : T1.heap[T.heap.size]? = some (freshCell cX kX) := by rw [← hT1]; exact State.heap_pushCell_size _ _
  have d3' : decode c.code (pc + 3) = .ok (.dup, 1) := by rw [hb]; exact d3
  have d4' : decode c.code (pc + 4) = .ok (.ldc_w is, 3) := by rw [hb]; exact d4
  have hstr' : vk_R own is text sa s' := vk_R.warm hW0 hstr
  obtain ⟨U, hsteps, hrun, hend, hW, hsame, ce, hce, hO⟩ := X₁.ctorThrowS hexec htr (own := own) (cls := cls) (names := names) (ic := ic) hown' hcls hnames h (fun x hx => nomatch hx) hfX hkX hcellA (by rw [hhp, hT]; exact Nat.le_refl _) (msg := .ref sa) rfl
    (g := { method := m, pc := pc + 7, locals := ls, stack := .ref sa :: .ref T.heap.size :: .ref T.heap.size :: rest, locked := none }) rfl hsize rfl rfl (rest := rest) rfl
    (by rw [hb]; exact d7) (by rw [hb]; exact d10) hout hRframes (by simp only [List.map_cons, List.sum_cons, hcat]; omega) hlocks
  obtain ⟨f1, f2⟩ := vx_frame hsame
  rw [hhp] at f1 f2
  have hWs : s.WarmedH U.vm := State.WarmedH.trans hW0 hW
  have hcl : s.vm.findClass cls = some ce.cls := by
    have h9 := hO.cls
    rw [hvm] at h9
    exact h9
  have hall : s.sameButNew ({ U with vm := s.vm } : State) locs mc ms := by
    subst hA
    obtain ⟨e1, e2⟩ := hsame
    rw [State.setFrames_setFrames] at e1
    have h2 : (T.setVm s.vm).sameButNew ({ U with vm := s.vm } : State) [] (0 + 1) (0 + 6) := ⟨e1, e2⟩
    have h3 := X.same.trans h2
    rw [List.append_nil] at h3
    exact h3.mono hc hs
  refine ⟨U, ?_, .threw T.heap.size, hrun, hend, Or.inr ⟨T.heap.size, rfl, cls, ce, locs, hx U hWs.alike f1 (fun q hq => f2 q hq (fun z hz => nomatch hz)), hce, hO.vm, hcl, hWs, hall, hf⟩⟩
  refine st1 _ ?_
  show Steps p.tables e below (T1.setTop { method := m, pc := pc + 3, locals := ls, stack := .ref T.heap.size :: rest, locked := none }) _
  jvm_step X₁.here [X₁.here.top, hexec, d3', Value.category]
  exact X₁.ldcStringW hexec (own := own) (text := text) (index := is) (a := sa) hown' hstr'.1 hstr'.2
    (g := { method := m, pc := pc + 4, locals := ls, stack := .ref T.heap.size :: .ref T.heap.size :: rest, locked := none }) rfl d4' _ hsteps
end Ends
section Bodies
variable {l : Launch}
theorem vx_ofW {y : MethodName} {ws ws' : List Cond} {rm : Room} {Pc : Array Value → State → Prop} {Qc : Array Value → State → Outcome → State → Prop} {XC : String → State → State → Prop} {mc ms : Nat} {free : Addr → Prop} {cc : ByteArray} {maxL : Nat} {ret : Option FieldType}
    (hy : plainName y.cls = true) (hw : ws = Cond.code y cc maxL ret :: ws')
    (body : ∀ p e s m args below meth c s₁, BodyLoose p l y (headSpec ws rm) cc maxL ret e s m args below meth c s₁ → c.maxLocals = maxL → (∀ x ∈ c.exceptionTable.toList, False) → Pc args s →
      W p l e (headSpec ws rm).room s m args below meth c s.heap [] 0 0 (vx_MQ below Qc XC args s mc ms free) (entryFrame m args maxL)) : vx_Met l y ws rm Pc Qc XC mc ms free := by
  refine MetFree.of_bodyS (code := cc) (maxLocals := maxL) (ret := ret) hy ?_ ?_
  · intro args s m h hn
    obtain ⟨meth, c, h1, h2, h3, h4, h5, h6, -, -⟩ := Cond.code_spec hn (atoms_spec (ws := ws) h _ (by rw [hw]; exact List.mem_cons_self))
    exact ⟨meth, c, h1, h2, h3, h4, h5, h6⟩
  · intro p e s m args below meth c s₁ B hml hP _
    have hh0 : s₁.heap = s.heap := by rw [B.state]; rfl
    have ht : ∀ x ∈ c.exceptionTable.toList, False := by
      obtain ⟨meth9, c9, h1, h2, -, -, -, -, h7, -⟩ := Cond.code_spec B.named (atoms_spec (ws := ws) B.pre _ (by rw [hw]; exact List.mem_cons_self))
      cases Option.some.inj (h1.symm.trans B.method)
      cases Option.some.inj (h2.symm.trans (Stand.of_body B).code)
      intro x hx
      rw [Array.isEmpty_iff.mp h7] at hx
      cases hx
    obtain ⟨t, a1, o, b1, b2, b3⟩ := body p e s m args below meth c s₁ B hml ht hP s₁ hh0 (Stand.of_body B)
    exact ⟨t, o, a1, b1, b2, b3⟩
/-- the table of a body with handlers -/
theorem vx_table {p : Program} {x y : MethodName} {S : Spec} {cc bytes : ByteArray} {maxL maxL' : Nat} {ret ret' : Option FieldType} {e : Env} {s s₁ : State} {m : MethodId} {args : Array Value} {below : List Frame} {meth : Method} {c : Code} {hh : List (Nat × Nat × Nat × Nat)}
    (B : BodyLoose p l y S cc maxL ret e s m args below meth c s₁) (h : (Cond.codeWith y bytes maxL' ret' hh).before args s = true) : c.exceptionTable.toList = tableOf hh := by
  obtain ⟨m9, meth9, c9, hn9, h1, h2, -, -, h6, -⟩ := Cond.codeWith_spec h
  cases Option.some.inj (hn9.symm.trans B.named)
  cases Option.some.inj (h1.symm.trans B.method)
  cases Option.some.inj (h2.symm.trans (Stand.of_body B).code)
  rw [← h6, table_eq]
end Bodies
end VXA
/-! ===== END ===== -/
/-! ===== BEGIN a static call of a method with an exception table ===== -/
section VXS
variable {p : Program} {l : Launch} {e : Env} {R : Room} {s : State} {m : MethodId} {args : Array Value} {below : List Frame} {meth : Method} {c : Code} {T : State} {H : Heap} {locs : List Loc} {cells slots : Nat}
abbrev vx_CSW (R : Room) (s : State) (args : Array Value) (own : String) (index : Nat) (y : MethodName) (bytes : ByteArray) (maxL : Nat) (ret : Option FieldType) (hh : List (Nat × Nat × Nat × Nat)) (ws : List Cond) (rm : Room) (mc ms n : Nat) : Prop :=
  (rm.cells = mc ∧ rm.slots = ms ∧ rm.frames + 1 ≤ R.frames ∧ 8 + (maxL + 11) + rm.locals ≤ R.locals ∧ (∀ w ∈ ws, ∀ (a' : Array Value) (U : State), s.WarmedH U.vm → w.before a' U = true) ∧ Cond.codeWith y bytes maxL ret hh ∈ ws) ∧
  (Cond.codeWith y bytes maxL ret hh).before args s = true ∧ (Cond.initialized y.cls).before args s = true ∧ (y.cls ≠ "java/lang/invoke/MethodHandle" ∧ y.cls ≠ "java/lang/invoke/VarHandle") ∧
  (∀ sig, parseMethodDescriptor y.desc = some sig → n = sig.parameters.length) ∧ (Cond.methodLink own index y).before args s = true ∧ (Cond.static y).before args s = true
theorem vx_cwSW {own : String} {index maxL mc ms : Nat} {y : MethodName} {bytes : ByteArray} {ret : Option FieldType} {hh : List (Nat × Nat × Nat × Nat)} {Ts ws ws' : List Cond} {rm : Room} (n : Nat) (ht : ∀ w ∈ Ts, w.before args s = true) (hT : GoodIn Ts (va_wsS own index y ws)) (hw : ws = Cond.codeWith y bytes maxL ret hh :: ws') (hrc : rm.cells = mc) (hrs : rm.slots = ms)
    (hd : y.cls ≠ "java/lang/invoke/MethodHandle" ∧ y.cls ≠ "java/lang/invoke/VarHandle" ∧ (parseMethodDescriptor y.desc).map (fun d => d.parameters.length) = some n) (hR : rm.frames + 1 ≤ R.frames ∧ 8 + (maxL + 11) + rm.locals ≤ R.locals) :
    vx_CSW R s args own index y bytes maxL ret hh ws rm mc ms n := by
  have ok : ∀ w ∈ va_wsS own index y ws, w.before args s = true := fun w h => ht w (hT w h).1
  have hG : GoodIn Ts ws := fun w h => hT w (by unfold va_wsS; exact List.mem_append_right _ h)
  have hc : Cond.codeWith y bytes maxL ret hh ∈ ws := by rw [hw]; exact List.mem_cons_self
  refine ⟨⟨hrc, hrs, hR.1, hR.2, pay_in ht hG, hc⟩, ht _ (hG _ hc).1, ok _ (by simp [va_wsS]), ⟨hd.1, hd.2.1⟩, fun sig h => ?_, ok _ (by simp [va_wsS]), ok _ (by simp [va_wsS])⟩
  have h2 := hd.2.2
  rw [h] at h2
  exact (Option.some.inj h2).symm
theorem vx_callSW (X : Stand p l e R s m args below meth c T locs cells slots) (hexec : p.tables.exec = Jvm.exec) {own : String} {index : Nat} {y : MethodName} {bytes : ByteArray} {maxL : Nat} {ret : Option FieldType} {hh : List (Nat × Nat × Nat × Nat)}
    (hown : s.vm.findClass own = some m.cls) (hlink : (Cond.methodLink own index y).before args s = true) (hstat : (Cond.static y).before args s = true) (hinit : (Cond.initialized y.cls).before args s = true)
    (hcode : (Cond.codeWith y bytes maxL ret hh).before args s = true) (hy : y.cls ≠ "java/lang/invoke/MethodHandle" ∧ y.cls ≠ "java/lang/invoke/VarHandle")
    {W9 : Nat} {Pre : Pt → Array Value → Prop} {Post : Pt → Array Value → Option Value → Pt → Prop} (hK : Back l R p e below s args y 3 W9 Pre Post)
    {g : JFrame} (hg : g.method = m) (hsize : g.locals.size = c.maxLocals) {argsL rest : List Value} (hlen : ∀ sig, parseMethodDescriptor y.desc = some sig → argsL.length = sig.parameters.length)
    (hstack : g.stack = argsL.reverse ++ rest) (hW : 2 * g.monitorRoom + (rest.map fun v => v.category).sum ≤ W9) (hdg : decode c.code g.pc = .ok (.invokestatic index, 3))
    (hpre : ∀ vm₁, s.WarmedH vm₁ → Pre ⟨T.setVm vm₁, locs, cells, slots⟩ argsL.toArray) :
    ∃ (v : Option Value) (vm₁ : Vm) (B : Pt), s.WarmedH vm₁ ∧ Stand p l e R s m args below meth c B.U B.locs B.cells B.slots ∧ Post ⟨T.setVm vm₁, locs, cells, slots⟩ argsL.toArray v B ∧
      ∀ target, Steps p.tables e below (B.U.setTop { g with pc := g.pc + 3, stack := v.toList ++ rest }) target → Steps p.tables e below (T.setTop g) target := by
  obtain ⟨mk, methM, cM, hnamed, hmethM, -, -, -, -, -, -, hsigM⟩ := Cond.codeWith_spec hcode
  have hstatic : methM.isStatic = true := Cond.static_spec hnamed hmethM hstat
  obtain ⟨kP, hkP, -⟩ := className_of_methodNamed hnamed
  have hinitP : kP.init = .initialized := Cond.initialized_spec (findClass_of_methodNamed hnamed) hkP hinit
  obtain ⟨vm₁, X₁, hstep₁⟩ := X.invokestatic hexec hown hlink hnamed hmethM hstatic hkP hinitP hy (g := g) hg (argsL := argsL) (rest := rest) (hlen _ hsigM) hstack hdg
  obtain ⟨v, B, X', hpost, hsteps⟩ := hK m meth c ⟨T.setVm vm₁, locs, cells, slots⟩ { g with stack := rest } (.invokestatic index) mk argsL.toArray X₁ hg hsize hdg hW (X₁.named hnamed) (hpre vm₁ X₁.warmed)
  exact ⟨v, vm₁, B, X₁.warmed, X', hpost, fun target h => hstep₁ _ fun acts => by rw [doInvoke_state]; exact hsteps.trans h⟩
theorem vx_runSW {y : MethodName} {bytes cc : ByteArray} {maxL nL mc ms n index : Nat} {ret : Option FieldType} {hh : List (Nat × Nat × Nat × Nat)} {ws : List Cond} {rm : Room} {Pc : Array Value → State → Prop} {Qc : Array Value → State → Outcome → State → Prop} {free : Addr → Prop} {Ts : List Cond} {own : String} {As rest : List Value} {g : JFrame}
    (S : CallFix p m c cc nL s args Ts own) (hM : Met l y ws rm Pc Qc mc ms free) (cw : vx_CSW R s args own index y bytes maxL ret hh ws rm mc ms n) (hp : PreS s H Pc As)
    (hg : g.method = m) (hn : As.length = n) (hsize : g.locals.size = nL) (hstack : g.stack = As.reverse ++ rest) (hW : 2 * g.monitorRoom + (rest.map fun v => v.category).sum ≤ 8) (hdg : decode cc g.pc = .ok (.invokestatic index, 3)) (hf : cells + mc ≤ R.cells ∧ slots + ms ≤ R.slots) :
    va_Run p l e R s m args below meth c H locs cells slots mc ms g rest (Qc As.toArray) (free) := by
  obtain ⟨⟨hrc, hrs, hfr, hlo, hws, hcw⟩, hcode, hini, hy, hlen, hl, hstt⟩ := cw
  have hK : Back l R p e below s args y 3 8 (PreOf R mc ms Pc) (PostOf Qc mc ms free) := va_backW (hh := hh) (bytes := bytes) (maxL := maxL) (ret := ret) hM hp.1 hrc hrs hfr hlo hws hcw (fun a' U hW => word_at hW (Or.inl (by first | rfl | simp [Cond.onTables, Cond.keeps, Cond.steady])) hini)
  obtain ⟨hx, hb, hml, ho, -⟩ := S
  intro T hT X
  obtain ⟨v, vm₁, ⟨U', l2, c2, s2⟩, hW₁, X', ⟨g', mk, t, L, e1, e2, hq, h1, hL, h2, h3⟩, st⟩ := vx_callSW X hx (hh := hh) (bytes := bytes) (maxL := maxL) (ret := ret) ho hl hstt hini hcode hy hK hg (hsize.trans hml.symm) (argsL := As) (rest := rest) (fun sig h => hn.trans (hlen sig h)) hstack hW (by rw [hb]; exact hdg)
    (fun vm₁ hW₁ => ⟨hf.1, hf.2, hp.2 (T.setVm vm₁) hT hW₁⟩)
  dsimp only [Pt.U, Pt.locs, Pt.cells, Pt.slots] at X' e1 e2 h1 h2 h3 st
  subst h1; subst h2; subst h3
  exact ⟨v, (T.setVm vm₁).calling g' mk As.toArray, t, U', L, hT, X', hL, e1, e2, hq, st⟩
/-- not caught here, past rows that name other classes: it goes on to the caller -/
theorem vx_outP {p : Program} {l : Launch} {e : Env} {R : Room} {s : State} {m : MethodId} {args : Array Value} {below : List Frame} {meth : Method} {c : Code} {H : Heap} {locs : List Loc} {cells slots : Nat} {free : Addr → Prop} {ls : Array Slot} {rest : List Value} {Qc : Array Value → State → Outcome → State → Prop} {XC : String → State → State → Prop}
    {pc : Nat} {own E : String} {ce : Cell} {q : Addr} {mc ms : Nat} (hown : s.vm.findClass own = some m.cls) (hlocks : meth.locks = false)
    (hpass : ∀ z ∈ c.exceptionTable.toList, covers z pc = false ∨ (z.catchType ≠ 0 ∧ ∃ nm : String, (Cond.classLink own z.catchType nm).before args s = true ∧ va_Nc E nm s)) (hcell : H[q]? = some ce) (hv : ce.vm = .none) (hcl : s.vm.findClass E = some ce.cls)
    (hx : ∀ t : State, t.heap = H → s.vm.Alike t.vm → XC E s t) (hf : ∀ z ∈ locs, free z.base) (hc : cells ≤ mc) (hs : slots ≤ ms) :
    vx_W p l e R s m args below meth c H locs cells slots (vx_MQ below Qc XC args s mc ms free) (F0 m pc ls rest) q := by
  intro T hT X
  have hpl : e.platform.magicAccessors = ({} : Platform).magicAccessors := by rw [X.admits.platform]
  obtain ⟨vm', hW', X', st⟩ := X.outThrough hlocks q (g := F0 m pc ls rest) rfl rfl rfl (cell := ce) (by rw [hT]; exact hcell) (by rw [hv]; rfl)
    (by obtain ⟨k9, h9, -⟩ := Vm.findClass_spec hcl; exact ⟨k9, h9⟩) (fun z hz => by
      rcases hpass z hz with h | ⟨hz0, nm, hl1, hn1⟩
      · exact Or.inl h
      · obtain ⟨c6, hc6, hcl6⟩ := Cond.classLink_spec hown hl1 e.platform hpl
        obtain ⟨a8, b8, h1, h2, h3⟩ := hn1
        cases Option.some.inj (h1.symm.trans hcl)
        cases Option.some.inj (h2.symm.trans hc6)
        exact Or.inr ⟨hz0, _, hcl6, h3⟩)
  obtain ⟨g₀, hfr⟩ := X'.frames_eq
  have hcell9 : ((T.setVm vm').setFrames (.throwing q :: below)).heap[q]? = some ce := by
    show T.heap[q]? = some ce
    rw [hT]; exact hcell
  have hend : Ended ((T.setVm vm').setFrames (.throwing q :: below)) below (.threw q) := State.frames_setFrames _ (State.cur_lt_of_frames hfr)
  refine ⟨(T.setVm vm').setFrames (.throwing q :: below), ?_, .threw q, X'.here.running, hend, Or.inr ⟨q, rfl, E, ce, locs, hx _ hT (X'.ends _).1.alike, hcell9, hv, hcl, (X'.ends _).1, (X'.ends _).2.mono hc hs, hf⟩⟩
  rw [X.pushThrowing_eq]
  exact st
/-- a thing of a world lies in the heap -/
theorem vx_lt {D : va_G} {cl : List vw_C} {ws : va_W} {H1 : Heap} (h : va_P D cl ws H1) {k : Nat} {q : Nat × va_E} (hk : ws[k]? = some q) : q.1 < H1.size := (h k q hk).lt
end VXS
/-! ===== END ===== -/
/-! ===== BEGIN methods with a table of their own: called by a name, returning or throwing ===== -/
section VXH
/-! vx_backW, vx_callVX, vx_callSX, vx_callVW, vx_runVW, vx_runVX, vx_runSX, vx_ofWH follow the same proofs as their sisters above (Free/Laws.lean, Shelf42/LK1.lean); vx_outP calls Shelf42/NT130.lean (outThrough). -/
section
variable {l : Launch} {R : Room} {p : Program} {e : Env} {below : List Frame} {s : State} {sargs : Array Value} {y : MethodName} {len W9 : Nat}
theorem vx_backW {ws : List Cond} {rm : Room} {Pc : Array Value → State → Prop} {Qc : Array Value → State → Outcome → State → Prop} {XC : String → State → State → Prop} {mc ms : Nat} {free : Addr → Prop} {bytes : ByteArray} {maxL : Nat} {ret : Option FieldType} {hh : List (Nat × Nat × Nat × Nat)}
    (hM : vx_Met l y ws rm Pc Qc XC mc ms free) (hblind : FrameBlind Pc) (hrc : rm.cells = mc) (hrs : rm.slots = ms)
    (hframes : rm.frames + 1 ≤ R.frames) (hlocals : W9 + (maxL + 11) + rm.locals ≤ R.locals)
    (hws : ∀ w ∈ ws, ∀ a' U, s.WarmedH U.vm → w.before a' U = true) (hcode : Cond.codeWith y bytes maxL ret hh ∈ ws) (hinit : ∀ a' U, s.WarmedH U.vm → (Cond.initialized y.cls).before a' U = true) :
    vx_Back l R p e below s sargs y len W9 (PreOf R mc ms Pc) (PostOf Qc mc ms free) (vx_Post XC mc ms free) := by
  intro m meth c A g ig mk a X hg hsize hdg hW hn hp
  have h1 : (headSpec ws rm).pre.before a A.U = true := atoms_intro fun w hw => hws w hw _ _ X.warmed
  have h2 : (Cond.codeWith y bytes maxL ret hh).before a A.U = true := hws _ hcode _ _ X.warmed
  have h3 : (Cond.initialized y.cls).before a A.U = true := hinit _ _ X.warmed
  have h4 : A.cells + (headSpec ws rm).room.cells ≤ R.cells := by rw [show (headSpec ws rm).room.cells = mc from hrc]; exact hp.1
  have h5 : A.slots + (headSpec ws rm).room.slots ≤ R.slots := by rw [show (headSpec ws rm).room.slots = ms from hrs]; exact hp.2.1
  have hPc : Pc a (A.U.calling g mk a) := hblind _ _ _ _ hp.2.2
  obtain ⟨U, Ls, c0, s0⟩ := A
  dsimp only [Pt.U, Pt.locs, Pt.cells, Pt.slots] at h1 h2 h3 h4 h5 X hn hPc ⊢
  obtain ⟨m9, methY, cY, hn9, hmY, hcY, -, hlY, -⟩ := Cond.codeWith_spec h2
  cases Option.some.inj (hn9.symm.trans hn)
  obtain ⟨kY, hkY, -⟩ := className_of_methodNamed hn
  have hinitY : kY.init = .initialized := Cond.initialized_spec (findClass_of_methodNamed hn) hkY h3
  have h : At U g.method c below := by rw [hg]; exact X.here
  have hlocals9 : W9 + (maxL + 11) + (headSpec ws rm).room.locals ≤ R.locals := hlocals
  have happ : (headSpec ws rm).appliesLoose y e.platform (U.calling g mk a) = true :=
    Spec.appliesLoose_calling (g := g) h hdg hn hkY hinitY
      (X.room_calling (g := g) (R' := (headSpec ws rm).room) hsize hmY hcY hframes (by rw [hlY]; omega) h4 h5) h1
  obtain ⟨mid, hmid⟩ := h.above
  have hfr : (U.setTop g).frames = (.java g :: mid) ++ below := by rw [State.frames_setTop' g h.top, hmid]; rfl
  obtain ⟨o, s₂, hsteps, -, hend, hq⟩ := Steps.callFree hM p X.admits X.cas X.clock (acts := []) hfr happ hPc trivial
  have hq' : vx_Q Qc XC mc ms free a (U.calling g mk a) o s₂ := hq
  rw [State.frames_setTop' g h.top] at hend
  obtain ⟨g₀, hg0⟩ := Option.isSome_iff_exists.mp h.top
  obtain ⟨r, hr⟩ := State.topJava?_eq_some.mp hg0
  have hr' : (({ U with heap := s₂.heap, slotsUsed := s₂.slotsUsed } : State).setVm s₂.vm).frames = .java g₀ :: r := hr
  rcases hq' with ⟨hqc, L, hfe, hL⟩ | ⟨q, rfl, E, ce, L, hx, hce, hcv, hcl, hW₂, hsm, hL⟩
  · obtain ⟨⟨v, rfl⟩, hW₂, e2, q2, q3, q4, q5, q6⟩ := id hfe
    have e3 : s₂ = ({ (U.calling g mk a).setFrames s₂.frames with heap := s₂.heap, slotsUsed := s₂.slotsUsed } : State).setVm s₂.vm := by
      have : s₂ = ({ s₂ with vm := (U.calling g mk a).vm } : State).setVm s₂.vm := rfl
      rw [e2] at this
      exact this
    obtain ⟨c₂, i₂, len₂, hc₂, hd₂, hf₂⟩ := hend
    have hW' : U.WarmedH s₂.vm := hW₂
    have hcc : c₂ = c := by
      have h1 : s₂.code? g.method = U.code? g.method := by
        rw [State.code?_eq, State.code?_eq, hW'.alike.method?]
      exact Option.some.inj (hc₂.symm.trans (h1.trans h.code))
    subst hcc
    have hlen : len₂ = len := by rw [hdg] at hd₂; cases hd₂; rfl
    subst hlen
    have hs₂ : s₂ = (({ U with heap := s₂.heap, slotsUsed := s₂.slotsUsed } : State).setVm s₂.vm).setTop { g with pc := g.pc + len₂, stack := v.toList ++ g.stack } := by
      refine e3.trans ?_
      rw [hf₂, State.calling_eq h.top, State.setFrames_setFrames, State.setTop_of_frames _ hr', hr]
      rfl
    have hsame : U.sameButNew ({ U with heap := s₂.heap, slotsUsed := s₂.slotsUsed } : State) L mc ms := by
      refine ⟨?_, q2, q3, q4, q5, q6⟩
      obtain ⟨t, ht, -⟩ := State.frames_cons hr
      show ({ U with heap := s₂.heap, slotsUsed := s₂.slotsUsed } : State) = { U.setFrames U.frames with heap := s₂.heap, slotsUsed := s₂.slotsUsed }
      rw [State.setFrames_self ht]
    subst hg
    refine Or.inl ⟨v, ⟨(({ U with heap := s₂.heap, slotsUsed := s₂.slotsUsed } : State).setVm s₂.vm), Ls ++ L, c0 + mc, s0 + ms⟩,
      ⟨X.admits, X.cas, X.clock, X.frames, X.room, X.hears, X.method, X.code, (X.here.setHeapUsed s₂.heap s₂.slotsUsed).setVm hW'.alike, X.tail, State.WarmedH.trans X.warmed hW', X.limits, X.bytes, X.same.trans (hsame.setVm s.vm)⟩,
      ⟨g, mk, s₂, L, rfl, rfl, hqc, rfl, hL, rfl, rfl⟩, ?_⟩
    show Steps p.tables e below _ ((({ U with heap := s₂.heap, slotsUsed := s₂.slotsUsed } : State).setVm s₂.vm).setTop { g with pc := g.pc + len₂, stack := v.toList ++ g.stack })
    rw [← hs₂]
    exact hsteps
  · obtain ⟨e2, q2, q3, q4, q5, q6⟩ := id hsm
    have e3 : s₂ = ({ (U.calling g mk a).setFrames s₂.frames with heap := s₂.heap, slotsUsed := s₂.slotsUsed } : State).setVm s₂.vm := by
      have : s₂ = ({ s₂ with vm := (U.calling g mk a).vm } : State).setVm s₂.vm := rfl
      rw [e2] at this
      exact this
    have hf₂ : s₂.frames = .throwing q :: .java g :: U.frames.tail := hend
    have hW' : U.WarmedH s₂.vm := hW₂
    have hs₂ : s₂ = ((({ U with heap := s₂.heap, slotsUsed := s₂.slotsUsed } : State).setVm s₂.vm).setTop g).pushFrame (.throwing q) := by
      refine e3.trans ?_
      rw [hf₂, State.calling_eq h.top, State.setFrames_setFrames, State.pushFrame, State.frames_setTop _ hr', State.setTop_of_frames _ hr', State.setFrames_setFrames, hr]
      rfl
    have hsame : U.sameButNew ({ U with heap := s₂.heap, slotsUsed := s₂.slotsUsed } : State) L mc ms := by
      refine ⟨?_, q2, q3, q4, q5, q6⟩
      obtain ⟨t, ht, -⟩ := State.frames_cons hr
      show ({ U with heap := s₂.heap, slotsUsed := s₂.slotsUsed } : State) = { U.setFrames U.frames with heap := s₂.heap, slotsUsed := s₂.slotsUsed }
      rw [State.setFrames_self ht]
    subst hg
    refine Or.inr ⟨q, ⟨(({ U with heap := s₂.heap, slotsUsed := s₂.slotsUsed } : State).setVm s₂.vm), Ls ++ L, c0 + mc, s0 + ms⟩,
      ⟨X.admits, X.cas, X.clock, X.frames, X.room, X.hears, X.method, X.code, (X.here.setHeapUsed s₂.heap s₂.slotsUsed).setVm hW'.alike, X.tail, State.WarmedH.trans X.warmed hW', X.limits, X.bytes, X.same.trans (hsame.setVm s.vm)⟩,
      ⟨g, mk, s₂, L, E, ce, rfl, rfl, hx, hce, hcv, hcl, rfl, hL, rfl, rfl⟩, ?_⟩
    show Steps p.tables e below _ (((({ U with heap := s₂.heap, slotsUsed := s₂.slotsUsed } : State).setVm s₂.vm).setTop g).pushFrame (.throwing q))
    rw [← hs₂]
    exact hsteps
end
variable {p : Program} {l : Launch} {e : Env} {R : Room} {s : State} {m : MethodId} {args : Array Value} {below : List Frame} {meth : Method} {c : Code} {T : State} {H : Heap} {locs : List Loc} {cells slots : Nat}
theorem vx_callVX (X : Stand p l e R s m args below meth c T locs cells slots) (hexec : p.tables.exec = Jvm.exec) {own C : String} {index : Nat} {y : MethodName} {bytes : ByteArray} {maxL : Nat} {ret : Option FieldType} {hh : List (Nat × Nat × Nat × Nat)}
    (hown : s.vm.findClass own = some m.cls) (hlink : (Cond.methodLink own index y).before args s = true) (hinst : (Cond.instanceMethod y).before args s = true) (hsel : (Cond.selects C y y).before args s = true)
    (hcode : (Cond.codeWith y bytes maxL ret hh).before args s = true) (hy : y.cls ≠ "java/lang/invoke/MethodHandle" ∧ y.cls ≠ "java/lang/invoke/VarHandle")
    {W9 : Nat} {Pre : Pt → Array Value → Prop} {Post : Pt → Array Value → Option Value → Pt → Prop} {PostX : Pt → Array Value → Addr → Pt → Prop} (hK : vx_Back l R p e below s args y 3 W9 Pre Post PostX)
    {b : Addr} {cellB : Cell} (hcell : T.heap[b]? = some cellB) (hobj : cellB.vm.isStatics = false) (hcls : s.vm.findClass C = some cellB.cls)
    {g : JFrame} (hg : g.method = m) (hsize : g.locals.size = c.maxLocals) {argsL rest : List Value} (hlen : ∀ sig, parseMethodDescriptor y.desc = some sig → argsL.length = sig.parameters.length)
    (hstack : g.stack = argsL.reverse ++ .ref b :: rest) (hW : 2 * g.monitorRoom + (rest.map fun v => v.category).sum ≤ W9) (hdg : decode c.code g.pc = .ok (.invokevirtual index, 3))
    (hpre : ∀ vm₁, s.WarmedH vm₁ → Pre ⟨T.setVm vm₁, locs, cells, slots⟩ (Value.ref b :: argsL).toArray) :
    (∃ (v : Option Value) (vm₁ : Vm) (B : Pt), s.WarmedH vm₁ ∧ Stand p l e R s m args below meth c B.U B.locs B.cells B.slots ∧ Post ⟨T.setVm vm₁, locs, cells, slots⟩ (Value.ref b :: argsL).toArray v B ∧
      ∀ target, Steps p.tables e below (B.U.setTop { g with pc := g.pc + 3, stack := v.toList ++ rest }) target → Steps p.tables e below (T.setTop g) target) ∨
    (∃ (q : Addr) (vm₁ : Vm) (B : Pt), s.WarmedH vm₁ ∧ Stand p l e R s m args below meth c B.U B.locs B.cells B.slots ∧ PostX ⟨T.setVm vm₁, locs, cells, slots⟩ (Value.ref b :: argsL).toArray q B ∧
      Steps p.tables e below (T.setTop g) ((B.U.setTop { g with stack := rest }).pushFrame (.throwing q))) := by
  obtain ⟨mk, methM, hnamed, hmethM, hstM, habM⟩ := Cond.instanceMethod_spec hinst
  obtain ⟨m8, methM', cM, hn8, hmethM', -, -, -, -, -, -, hsigM⟩ := Cond.codeWith_spec hcode
  cases Option.some.inj (hn8.symm.trans hnamed)
  cases hmethM.symm.trans hmethM'
  obtain ⟨c2, r2, m2, q1, q2, q3, q4, kP, hkP, hkPi⟩ := Cond.selects_spec hsel
  cases hcls.symm.trans q1
  cases (State.methodFound?_of_named hnamed hy).symm.trans q2
  cases hnamed.symm.trans q3
  have hselP : selectMethod e.platform s.vm cellB.cls mk = .method mk := by rw [Launch.admits_selectMethod X.admits]; exact q4
  obtain ⟨vm₁, X₁, hstep₁⟩ := X.invokevirtual hexec hown hlink hnamed hmethM hstM hkP hkPi hy (a := b) (cell := cellB) hcell
    (fun z h => by rw [h] at hobj; cases hobj) hselP hmethM habM hkP hkPi (g := g) hg (argsL := argsL) (rest := rest) (hlen _ hsigM) hstack hdg
  rcases hK m meth c ⟨T.setVm vm₁, locs, cells, slots⟩ { g with stack := rest } (.invokevirtual index) mk (Value.ref b :: argsL).toArray X₁ hg hsize hdg hW (X₁.named hnamed) (hpre vm₁ X₁.warmed) with ⟨v, B, X', hpost, hsteps⟩ | ⟨q, B, X', hpost, hsteps⟩
  · exact Or.inl ⟨v, vm₁, B, X₁.warmed, X', hpost, fun target h => hstep₁ _ fun acts => by rw [doInvoke_state]; exact hsteps.trans h⟩
  · exact Or.inr ⟨q, vm₁, B, X₁.warmed, X', hpost, hstep₁ _ fun acts => by rw [doInvoke_state]; exact hsteps⟩
theorem vx_callSX (X : Stand p l e R s m args below meth c T locs cells slots) (hexec : p.tables.exec = Jvm.exec) {own : String} {index : Nat} {y : MethodName} {bytes : ByteArray} {maxL : Nat} {ret : Option FieldType} {hh : List (Nat × Nat × Nat × Nat)}
    (hown : s.vm.findClass own = some m.cls) (hlink : (Cond.methodLink own index y).before args s = true) (hstat : (Cond.static y).before args s = true) (hinit : (Cond.initialized y.cls).before args s = true)
    (hcode : (Cond.codeWith y bytes maxL ret hh).before args s = true) (hy : y.cls ≠ "java/lang/invoke/MethodHandle" ∧ y.cls ≠ "java/lang/invoke/VarHandle")
    {W9 : Nat} {Pre : Pt → Array Value → Prop} {Post : Pt → Array Value → Option Value → Pt → Prop} {PostX : Pt → Array Value → Addr → Pt → Prop} (hK : vx_Back l R p e below s args y 3 W9 Pre Post PostX)
    {g : JFrame} (hg : g.method = m) (hsize : g.locals.size = c.maxLocals) {argsL rest : List Value} (hlen : ∀ sig, parseMethodDescriptor y.desc = some sig → argsL.length = sig.parameters.length)
    (hstack : g.stack = argsL.reverse ++ rest) (hW : 2 * g.monitorRoom + (rest.map fun v => v.category).sum ≤ W9) (hdg : decode c.code g.pc = .ok (.invokestatic index, 3))
    (hpre : ∀ vm₁, s.WarmedH vm₁ → Pre ⟨T.setVm vm₁, locs, cells, slots⟩ argsL.toArray) :
    (∃ (v : Option Value) (vm₁ : Vm) (B : Pt), s.WarmedH vm₁ ∧ Stand p l e R s m args below meth c B.U B.locs B.cells B.slots ∧ Post ⟨T.setVm vm₁, locs, cells, slots⟩ argsL.toArray v B ∧
      ∀ target, Steps p.tables e below (B.U.setTop { g with pc := g.pc + 3, stack := v.toList ++ rest }) target → Steps p.tables e below (T.setTop g) target) ∨
    (∃ (q : Addr) (vm₁ : Vm) (B : Pt), s.WarmedH vm₁ ∧ Stand p l e R s m args below meth c B.U B.locs B.cells B.slots ∧ PostX ⟨T.setVm vm₁, locs, cells, slots⟩ argsL.toArray q B ∧
      Steps p.tables e below (T.setTop g) ((B.U.setTop { g with stack := rest }).pushFrame (.throwing q))) := by
  obtain ⟨mk, methM, cM, hnamed, hmethM, -, -, -, -, -, -, hsigM⟩ := Cond.codeWith_spec hcode
  have hstatic : methM.isStatic = true := Cond.static_spec hnamed hmethM hstat
  obtain ⟨kP, hkP, -⟩ := className_of_methodNamed hnamed
  have hinitP : kP.init = .initialized := Cond.initialized_spec (findClass_of_methodNamed hnamed) hkP hinit
  obtain ⟨vm₁, X₁, hstep₁⟩ := X.invokestatic hexec hown hlink hnamed hmethM hstatic hkP hinitP hy (g := g) hg (argsL := argsL) (rest := rest) (hlen _ hsigM) hstack hdg
  rcases hK m meth c ⟨T.setVm vm₁, locs, cells, slots⟩ { g with stack := rest } (.invokestatic index) mk argsL.toArray X₁ hg hsize hdg hW (X₁.named hnamed) (hpre vm₁ X₁.warmed) with ⟨v, B, X', hpost, hsteps⟩ | ⟨q, B, X', hpost, hsteps⟩
  · exact Or.inl ⟨v, vm₁, B, X₁.warmed, X', hpost, fun target h => hstep₁ _ fun acts => by rw [doInvoke_state]; exact hsteps.trans h⟩
  · exact Or.inr ⟨q, vm₁, B, X₁.warmed, X', hpost, hstep₁ _ fun acts => by rw [doInvoke_state]; exact hsteps⟩
theorem vx_callVW (X : Stand p l e R s m args below meth c T locs cells slots) (hexec : p.tables.exec = Jvm.exec) {own C : String} {index : Nat} {y : MethodName} {bytes : ByteArray} {maxL : Nat} {ret : Option FieldType} {hh : List (Nat × Nat × Nat × Nat)}
    (hown : s.vm.findClass own = some m.cls) (hlink : (Cond.methodLink own index y).before args s = true) (hinst : (Cond.instanceMethod y).before args s = true) (hsel : (Cond.selects C y y).before args s = true)
    (hcode : (Cond.codeWith y bytes maxL ret hh).before args s = true) (hy : y.cls ≠ "java/lang/invoke/MethodHandle" ∧ y.cls ≠ "java/lang/invoke/VarHandle")
    {W9 : Nat} {Pre : Pt → Array Value → Prop} {Post : Pt → Array Value → Option Value → Pt → Prop} (hK : Back l R p e below s args y 3 W9 Pre Post)
    {b : Addr} {cellB : Cell} (hcell : T.heap[b]? = some cellB) (hobj : cellB.vm.isStatics = false) (hcls : s.vm.findClass C = some cellB.cls)
    {g : JFrame} (hg : g.method = m) (hsize : g.locals.size = c.maxLocals) {argsL rest : List Value} (hlen : ∀ sig, parseMethodDescriptor y.desc = some sig → argsL.length = sig.parameters.length)
    (hstack : g.stack = argsL.reverse ++ .ref b :: rest) (hW : 2 * g.monitorRoom + (rest.map fun v => v.category).sum ≤ W9) (hdg : decode c.code g.pc = .ok (.invokevirtual index, 3))
    (hpre : ∀ vm₁, s.WarmedH vm₁ → Pre ⟨T.setVm vm₁, locs, cells, slots⟩ (Value.ref b :: argsL).toArray) :
    ∃ (v : Option Value) (vm₁ : Vm) (B : Pt), s.WarmedH vm₁ ∧ Stand p l e R s m args below meth c B.U B.locs B.cells B.slots ∧ Post ⟨T.setVm vm₁, locs, cells, slots⟩ (Value.ref b :: argsL).toArray v B ∧
      ∀ target, Steps p.tables e below (B.U.setTop { g with pc := g.pc + 3, stack := v.toList ++ rest }) target → Steps p.tables e below (T.setTop g) target := by
  obtain ⟨mk, methM, hnamed, hmethM, hstM, habM⟩ := Cond.instanceMethod_spec hinst
  obtain ⟨m8, methM', cM, hn8, hmethM', -, -, -, -, -, -, hsigM⟩ := Cond.codeWith_spec hcode
  cases Option.some.inj (hn8.symm.trans hnamed)
  cases hmethM.symm.trans hmethM'
  obtain ⟨c2, r2, m2, q1, q2, q3, q4, kP, hkP, hkPi⟩ := Cond.selects_spec hsel
  cases hcls.symm.trans q1
  cases (State.methodFound?_of_named hnamed hy).symm.trans q2
  cases hnamed.symm.trans q3
  have hselP : selectMethod e.platform s.vm cellB.cls mk = .method mk := by rw [Launch.admits_selectMethod X.admits]; exact q4
  obtain ⟨vm₁, X₁, hstep₁⟩ := X.invokevirtual hexec hown hlink hnamed hmethM hstM hkP hkPi hy (a := b) (cell := cellB) hcell
    (fun z h => by rw [h] at hobj; cases hobj) hselP hmethM habM hkP hkPi (g := g) hg (argsL := argsL) (rest := rest) (hlen _ hsigM) hstack hdg
  obtain ⟨v, B, X', hpost, hsteps⟩ := hK m meth c ⟨T.setVm vm₁, locs, cells, slots⟩ { g with stack := rest } (.invokevirtual index) mk (Value.ref b :: argsL).toArray X₁ hg hsize hdg hW (X₁.named hnamed) (hpre vm₁ X₁.warmed)
  exact ⟨v, vm₁, B, X₁.warmed, X', hpost, fun target h => hstep₁ _ fun acts => by rw [doInvoke_state]; exact hsteps.trans h⟩
abbrev vx_CVW (R : Room) (s : State) (args : Array Value) (own C : String) (index : Nat) (y : MethodName) (bytes : ByteArray) (maxL : Nat) (ret : Option FieldType) (hh : List (Nat × Nat × Nat × Nat)) (ws : List Cond) (rm : Room) (mc ms n : Nat) : Prop :=
  (rm.cells = mc ∧ rm.slots = ms ∧ rm.frames + 1 ≤ R.frames ∧ 8 + (maxL + 11) + rm.locals ≤ R.locals ∧ (∀ w ∈ ws, ∀ (a' : Array Value) (U : State), s.WarmedH U.vm → w.before a' U = true) ∧ Cond.codeWith y bytes maxL ret hh ∈ ws) ∧
  (Cond.codeWith y bytes maxL ret hh).before args s = true ∧ (Cond.initialized y.cls).before args s = true ∧ (y.cls ≠ "java/lang/invoke/MethodHandle" ∧ y.cls ≠ "java/lang/invoke/VarHandle") ∧
  (∀ sig, parseMethodDescriptor y.desc = some sig → n = sig.parameters.length) ∧ (Cond.methodLink own index y).before args s = true ∧ (Cond.instanceMethod y).before args s = true ∧ (Cond.selects C y y).before args s = true
theorem vx_cwVW {own C : String} {index maxL mc ms : Nat} {y : MethodName} {bytes : ByteArray} {ret : Option FieldType} {hh : List (Nat × Nat × Nat × Nat)} {Ts ws ws' : List Cond} {rm : Room} (n : Nat) (ht : ∀ w ∈ Ts, w.before args s = true) (hT : GoodIn Ts (wsV own index C y ws)) (hw : ws = Cond.codeWith y bytes maxL ret hh :: ws') (hrc : rm.cells = mc) (hrs : rm.slots = ms)
    (hd : y.cls = C ∧ y.cls ≠ "java/lang/invoke/MethodHandle" ∧ y.cls ≠ "java/lang/invoke/VarHandle" ∧ (parseMethodDescriptor y.desc).map (fun d => d.parameters.length) = some n) (hR : rm.frames + 1 ≤ R.frames ∧ 8 + (maxL + 11) + rm.locals ≤ R.locals) :
    vx_CVW R s args own C index y bytes maxL ret hh ws rm mc ms n := by
  obtain ⟨hC, hd⟩ := hd
  subst hC
  have ok : ∀ w ∈ wsV own index y.cls y ws, w.before args s = true := fun w h => ht w (hT w h).1
  have hG : GoodIn Ts ws := fun w h => hT w (by unfold wsV; exact List.mem_append_right _ h)
  have hc : Cond.codeWith y bytes maxL ret hh ∈ ws := by rw [hw]; exact List.mem_cons_self
  refine ⟨⟨hrc, hrs, hR.1, hR.2, pay_in ht hG, hc⟩, ht _ (hG _ hc).1, ok _ (by simp [wsV]), ⟨hd.1, hd.2.1⟩, fun sig h => ?_, ok _ (by simp [wsV]), ok _ (by simp [wsV]), ok _ (by simp [wsV])⟩
  have h2 := hd.2.2
  rw [h] at h2
  exact (Option.some.inj h2).symm
theorem vx_runVW {y : MethodName} {bytes cc : ByteArray} {maxL nL mc ms n index : Nat} {ret : Option FieldType} {hh : List (Nat × Nat × Nat × Nat)} {ws : List Cond} {rm : Room} {Pc : Array Value → State → Prop} {Qc : Array Value → State → Outcome → State → Prop} {free : Addr → Prop} {Ts : List Cond} {own C : String} {b : Addr} {As rest : List Value} {g : JFrame}
    (S : CallFix p m c cc nL s args Ts own) (hM : Met l y ws rm Pc Qc mc ms free) (cw : vx_CVW R s args own C index y bytes maxL ret hh ws rm mc ms n) (hp : PreV s H C b Pc As)
    (hg : g.method = m) (hn : As.length = n) (hsize : g.locals.size = nL) (hstack : g.stack = As.reverse ++ .ref b :: rest) (hW : 2 * g.monitorRoom + (rest.map fun v => v.category).sum ≤ 8) (hdg : decode cc g.pc = .ok (.invokevirtual index, 3)) (hf : cells + mc ≤ R.cells ∧ slots + ms ≤ R.slots) :
    va_Run p l e R s m args below meth c H locs cells slots mc ms g rest (Qc (Value.ref b :: As).toArray) free := by
  obtain ⟨⟨hrc, hrs, hfr, hlo, hws, hcw⟩, hcode, hini, hy, hlen, hl, hin, hse⟩ := cw
  have hK : Back l R p e below s args y 3 8 (PreOf R mc ms Pc) (PostOf Qc mc ms free) := va_backW (hh := hh) (bytes := bytes) (maxL := maxL) (ret := ret) hM hp.1 hrc hrs hfr hlo hws hcw (fun a' U hW => word_at hW (Or.inl (by first | rfl | simp [Cond.onTables, Cond.keeps, Cond.steady])) hini)
  obtain ⟨hx, hb, hml, ho, -⟩ := S
  obtain ⟨-, ⟨cellB, hcB, hoB, hclB⟩, hPc⟩ := hp
  intro T hT X
  obtain ⟨v, vm₁, ⟨U', l2, c2, s2⟩, hW₁, X', ⟨g', mk, t, L, e1, e2, hq, h1, hL, h2, h3⟩, st⟩ := vx_callVW X hx (C := C) (hh := hh) (bytes := bytes) (maxL := maxL) (ret := ret) ho hl hin hse hcode hy hK (by rw [hT]; exact hcB) hoB hclB hg (hsize.trans hml.symm) (argsL := As) (rest := rest) (fun sig h => hn.trans (hlen sig h)) hstack hW (by rw [hb]; exact hdg)
    (fun vm₁ hW₁ => ⟨hf.1, hf.2, hPc (T.setVm vm₁) hT hW₁⟩)
  dsimp only [Pt.U, Pt.locs, Pt.cells, Pt.slots] at X' e1 e2 h1 h2 h3 st
  subst h1; subst h2; subst h3
  exact ⟨v, (T.setVm vm₁).calling g' mk (Value.ref b :: As).toArray, t, U', L, hT, X', hL, e1, e2, hq, st⟩
section
variable {y : MethodName} {bytes cc : ByteArray} {maxL nL mc ms n index : Nat} {ret : Option FieldType} {ws : List Cond} {rm : Room} {Pc : Array Value → State → Prop} {Qc : Array Value → State → Outcome → State → Prop} {XC : String → State → State → Prop} {free : Addr → Prop} {Ts : List Cond} {own C : String} {b : Addr} {As rest : List Value} {g : JFrame}
theorem vx_runVX {hh : List (Nat × Nat × Nat × Nat)} (S : CallFix p m c cc nL s args Ts own) (hM : vx_Met l y ws rm Pc Qc XC mc ms free) (cw : vx_CVW R s args own C index y bytes maxL ret hh ws rm mc ms n) (hp : PreV s H C b Pc As)
    (hg : g.method = m) (hn : As.length = n) (hsize : g.locals.size = nL) (hstack : g.stack = As.reverse ++ .ref b :: rest) (hW : 2 * g.monitorRoom + (rest.map fun v => v.category).sum ≤ 8) (hdg : decode cc g.pc = .ok (.invokevirtual index, 3)) (hf : cells + mc ≤ R.cells ∧ slots + ms ≤ R.slots) :
    vx_Run p l e R s m args below meth c H locs cells slots mc ms g rest (Qc (Value.ref b :: As).toArray) XC free := by
  obtain ⟨⟨hrc, hrs, hfr, hlo, hws, hcw⟩, hcode, hini, hy, hlen, hl, hin, hse⟩ := cw
  have hK : vx_Back l R p e below s args y 3 8 (PreOf R mc ms Pc) (PostOf Qc mc ms free) (vx_Post XC mc ms free) := vx_backW (hh := hh) (bytes := bytes) (maxL := maxL) (ret := ret) hM hp.1 hrc hrs hfr hlo hws hcw (fun a' U hW => word_at hW (Or.inl (by first | rfl | simp [Cond.onTables, Cond.keeps, Cond.steady])) hini)
  obtain ⟨hx, hb, hml, ho, -⟩ := S
  obtain ⟨-, ⟨cellB, hcB, hoB, hclB⟩, hPc⟩ := hp
  intro T hT X
  rcases vx_callVX X hx (C := C) (hh := hh) (bytes := bytes) (maxL := maxL) (ret := ret) ho hl hin hse hcode hy hK (by rw [hT]; exact hcB) hoB hclB hg (hsize.trans hml.symm) (argsL := As) (rest := rest) (fun sig h => hn.trans (hlen sig h)) hstack hW (by rw [hb]; exact hdg)
    (fun vm₁ hW₁ => ⟨hf.1, hf.2, hPc (T.setVm vm₁) hT hW₁⟩) with ⟨v, vm₁, ⟨U', l2, c2, s2⟩, hW₁, X', ⟨g', mk, t, L, e1, e2, hq, h1, hL, h2, h3⟩, st⟩ | ⟨q, vm₁, ⟨U', l2, c2, s2⟩, hW₁, X', ⟨g', mk, t, L, E, ce, e1, e2, hq, hce, hcv, hcl, h1, hL, h2, h3⟩, st⟩
  · dsimp only [Pt.U, Pt.locs, Pt.cells, Pt.slots] at X' e1 e2 h1 h2 h3 st
    subst h1; subst h2; subst h3
    exact Or.inl ⟨v, (T.setVm vm₁).calling g' mk (Value.ref b :: As).toArray, t, U', L, hT, X', hL, e1, e2, hq, st⟩
  · dsimp only [Pt.U, Pt.locs, Pt.cells, Pt.slots] at X' e1 e2 h1 h2 h3 st hcl
    subst h1; subst h2; subst h3
    exact Or.inr ⟨q, (T.setVm vm₁).calling g' mk (Value.ref b :: As).toArray, t, U', L, E, ce, hT, X', hL, e1, e2, hq, hce, hcv, vx_cls hW₁ hcl, st⟩
theorem vx_runSX {hh : List (Nat × Nat × Nat × Nat)} (S : CallFix p m c cc nL s args Ts own) (hM : vx_Met l y ws rm Pc Qc XC mc ms free) (cw : vx_CSW R s args own index y bytes maxL ret hh ws rm mc ms n) (hp : PreS s H Pc As)
    (hg : g.method = m) (hn : As.length = n) (hsize : g.locals.size = nL) (hstack : g.stack = As.reverse ++ rest) (hW : 2 * g.monitorRoom + (rest.map fun v => v.category).sum ≤ 8) (hdg : decode cc g.pc = .ok (.invokestatic index, 3)) (hf : cells + mc ≤ R.cells ∧ slots + ms ≤ R.slots) :
    vx_Run p l e R s m args below meth c H locs cells slots mc ms g rest (Qc As.toArray) XC free := by
  obtain ⟨⟨hrc, hrs, hfr, hlo, hws, hcw⟩, hcode, hini, hy, hlen, hl, hstt⟩ := cw
  have hK : vx_Back l R p e below s args y 3 8 (PreOf R mc ms Pc) (PostOf Qc mc ms free) (vx_Post XC mc ms free) := vx_backW (hh := hh) (bytes := bytes) (maxL := maxL) (ret := ret) hM hp.1 hrc hrs hfr hlo hws hcw (fun a' U hW => word_at hW (Or.inl (by first | rfl | simp [Cond.onTables, Cond.keeps, Cond.steady])) hini)
  obtain ⟨hx, hb, hml, ho, -⟩ := S
  intro T hT X
  rcases vx_callSX X hx (hh := hh) (bytes := bytes) (maxL := maxL) (ret := ret) ho hl hstt hini hcode hy hK hg (hsize.trans hml.symm) (argsL := As) (rest := rest) (fun sig h => hn.trans (hlen sig h)) hstack hW (by rw [hb]; exact hdg)
    (fun vm₁ hW₁ => ⟨hf.1, hf.2, hp.2 (T.setVm vm₁) hT hW₁⟩) with ⟨v, vm₁, ⟨U', l2, c2, s2⟩, hW₁, X', ⟨g', mk, t, L, e1, e2, hq, h1, hL, h2, h3⟩, st⟩ | ⟨q, vm₁, ⟨U', l2, c2, s2⟩, hW₁, X', ⟨g', mk, t, L, E, ce, e1, e2, hq, hce, hcv, hcl, h1, hL, h2, h3⟩, st⟩
  · dsimp only [Pt.U, Pt.locs, Pt.cells, Pt.slots] at X' e1 e2 h1 h2 h3 st
    subst h1; subst h2; subst h3
    exact Or.inl ⟨v, (T.setVm vm₁).calling g' mk As.toArray, t, U', L, hT, X', hL, e1, e2, hq, st⟩
  · dsimp only [Pt.U, Pt.locs, Pt.cells, Pt.slots] at X' e1 e2 h1 h2 h3 st hcl
    subst h1; subst h2; subst h3
    exact Or.inr ⟨q, (T.setVm vm₁).calling g' mk As.toArray, t, U', L, E, ce, hT, X', hL, e1, e2, hq, hce, hcv, vx_cls hW₁ hcl, st⟩
end
end VXH
theorem vx_ofWH {l : Launch} {y : MethodName} {ws ws' : List Cond} {rm : Room} {Pc : Array Value → State → Prop} {Qc : Array Value → State → Outcome → State → Prop} {XC : String → State → State → Prop} {mc ms : Nat} {free : Addr → Prop} {cc : ByteArray} {maxL : Nat} {ret : Option FieldType} {hh : List (Nat × Nat × Nat × Nat)}
    (hy : plainName y.cls = true) (hw : ws = Cond.codeWith y cc maxL ret hh :: ws')
    (body : ∀ p e s m args below meth c s₁, BodyLoose p l y (headSpec ws rm) cc maxL ret e s m args below meth c s₁ → c.maxLocals = maxL → Pc args s →
      W p l e (headSpec ws rm).room s m args below meth c s.heap [] 0 0 (vx_MQ below Qc XC args s mc ms free) (entryFrame m args maxL)) : vx_Met l y ws rm Pc Qc XC mc ms free := by
  refine MetFree.of_bodyS (code := cc) (maxLocals := maxL) (ret := ret) hy ?_ ?_
  · intro args s m h hn
    obtain ⟨m9, meth, c, hn9, h1, h2, h3, h4, -, h5, h6, -⟩ := Cond.codeWith_spec (atoms_spec (ws := ws) h _ (by rw [hw]; exact List.mem_cons_self))
    cases hn.symm.trans hn9
    exact ⟨meth, c, h1, h2, h3, h4, h5, h6⟩
  · intro p e s m args below meth c s₁ B hml hP _
    have hh0 : s₁.heap = s.heap := by rw [B.state]; rfl
    obtain ⟨t, a1, o, b1, b2, b3⟩ := body p e s m args below meth c s₁ B hml hP s₁ hh0 (Stand.of_body B)
    exact ⟨t, o, a1, b1, b2, b3⟩
/-! ===== END ===== -/
end
section
/-! ===== BEGIN printed: names, fields, word lists, decode rows ===== -/
def RX0 : String := "TubeWatch$Air"
def TX0 : u_T := fun k => match k with
  | 0 => ("TubeWatch$Air", "smoke", "[I", true)
  | 1 => ("TubeWatch$Air", "heat", "[I", true)
  | 2 => ("TubeWatch$Air", "leaving", "[I", true)
  | _ => ("TubeWatch$Air", "lost", "I", false)
def tyX0 : Nat → FieldType := fun k => match k with
  | 0 => .array .int
  | 1 => .array .int
  | 2 => .array .int
  | _ => .int
abbrev wsX00 : List Cond := u_ws RX0 TX0 4
theorem nmX0 : ∀ a, a < 4 → ∀ b, b < 4 → a ≠ b → (TX0 a).2.1 ≠ (TX0 b).2.1 := by decide +kernel
theorem tyX0_ok : ∀ k, k < 4 → parseFieldDescriptor (TX0 k).2.2.1 = some (tyX0 k) := by decide +kernel
abbrev cX0_init : ByteArray := prog_2_method_1_code
def yX0_init : MethodName := ⟨RX0, "<init>", "()V"⟩
abbrev cX0_feedFrom : ByteArray := prog_2_method_2_code
def yX0_feedFrom : MethodName := ⟨RX0, "feedFrom", "(II)V"⟩
abbrev cX0_drift : ByteArray := prog_2_method_3_code
def yX0_drift : MethodName := ⟨RX0, "drift", "(D)V"⟩
abbrev cX0_backUp : ByteArray := prog_2_method_4_code
def yX0_backUp : MethodName := ⟨RX0, "backUp", "(ID)V"⟩
abbrev cX0_drawOff : ByteArray := prog_2_method_5_code
def yX0_drawOff : MethodName := ⟨RX0, "drawOff", "(I)V"⟩
abbrev cX0_cool : ByteArray := prog_2_method_6_code
def yX0_cool : MethodName := ⟨RX0, "cool", "()V"⟩
abbrev cX0_shift : ByteArray := prog_2_method_7_code
def yX0_shift : MethodName := ⟨RX0, "shift", "(III)V"⟩
abbrev cX0_withoutSign : ByteArray := prog_2_method_8_code
def yX0_withoutSign : MethodName := ⟨RX0, "withoutSign", "(D)D"⟩
abbrev cX0_side : ByteArray := prog_2_method_9_code
def yX0_side : MethodName := ⟨RX0, "side", "(D)I"⟩
abbrev cX0_smokeIn : ByteArray := prog_2_method_10_code
def yX0_smokeIn : MethodName := ⟨RX0, "smokeIn", "(I)I"⟩
abbrev cX0_heatIn : ByteArray := prog_2_method_11_code
def yX0_heatIn : MethodName := ⟨RX0, "heatIn", "(I)I"⟩
abbrev cX0_allSmoke : ByteArray := prog_2_method_12_code
def yX0_allSmoke : MethodName := ⟨RX0, "allSmoke", "()I"⟩
abbrev cX0_lost : ByteArray := prog_2_method_13_code
def yX0_lost : MethodName := ⟨RX0, "lost", "()I"⟩
def RX1 : String := "TubeWatch$Blaze"
def TX1 : u_T := fun k => match k with
  | 0 => ("TubeWatch$Blaze", "site", "I", false)
  | 1 => ("TubeWatch$Blaze", "size", "I", false)
  | 2 => ("TubeWatch$Blaze", "age", "J", false)
  | 3 => ("TubeWatch$Blaze", "water", "I", false)
  | 4 => ("TubeWatch$Blaze", "isFoamOn", "Z", false)
  | _ => ("TubeWatch$Blaze", "made", "I", false)
def tyX1 : Nat → FieldType := fun k => match k with
  | 0 => .int
  | 1 => .int
  | 2 => .long
  | 3 => .int
  | 4 => .boolean
  | _ => .int
abbrev wsX10 : List Cond := u_ws RX1 TX1 6
theorem nmX1 : ∀ a, a < 6 → ∀ b, b < 6 → a ≠ b → (TX1 a).2.1 ≠ (TX1 b).2.1 := by decide +kernel
theorem tyX1_ok : ∀ k, k < 6 → parseFieldDescriptor (TX1 k).2.2.1 = some (tyX1 k) := by decide +kernel
abbrev cX1_init : ByteArray := prog_3_method_1_code
def yX1_init : MethodName := ⟨RX1, "<init>", "()V"⟩
abbrev cX1_isBurning : ByteArray := prog_3_method_2_code
def yX1_isBurning : MethodName := ⟨RX1, "isBurning", "()Z"⟩
abbrev cX1_begin : ByteArray := prog_3_method_3_code
def yX1_begin : MethodName := ⟨RX1, "begin", "(II)V"⟩
abbrev cX1_turnFoamOn : ByteArray := prog_3_method_4_code
def yX1_turnFoamOn : MethodName := ⟨RX1, "turnFoamOn", "()V"⟩
abbrev cX1_burn : ByteArray := prog_3_method_5_code
def yX1_burn : MethodName := ⟨RX1, "burn", "(Z)I"⟩
abbrev cX1_place : ByteArray := prog_3_method_6_code
def yX1_place : MethodName := ⟨RX1, "place", "()I"⟩
abbrev cX1_allMade : ByteArray := prog_3_method_7_code
def yX1_allMade : MethodName := ⟨RX1, "allMade", "()I"⟩
def RX2 : String := "TubeWatch$Chart"
def TX2 : u_T := fun k => match k with
  | 0 => ("TubeWatch$Chart", "kinds", "[I", true)
  | 1 => ("TubeWatch$Chart", "waits", "[I", true)
  | 2 => ("TubeWatch$Chart", "steps", "[I", true)
  | 3 => ("TubeWatch$Chart", "size", "I", false)
  | 4 => ("TubeWatch$Chart", "next", "I", false)
  | _ => ("TubeWatch$Chart", "since", "I", false)
def tyX2 : Nat → FieldType := fun k => match k with
  | 0 => .array .int
  | 1 => .array .int
  | 2 => .array .int
  | 3 => .int
  | 4 => .int
  | _ => .int
abbrev wsX20 : List Cond := u_ws RX2 TX2 6
theorem nmX2 : ∀ a, a < 6 → ∀ b, b < 6 → a ≠ b → (TX2 a).2.1 ≠ (TX2 b).2.1 := by decide +kernel
theorem tyX2_ok : ∀ k, k < 6 → parseFieldDescriptor (TX2 k).2.2.1 = some (tyX2 k) := by decide +kernel
abbrev cX2_init : ByteArray := prog_4_method_1_code
def yX2_init : MethodName := ⟨RX2, "<init>", "()V"⟩
abbrev cX2_hasRoom : ByteArray := prog_4_method_2_code
def yX2_hasRoom : MethodName := ⟨RX2, "hasRoom", "()Z"⟩
abbrev cX2_put : ByteArray := prog_4_method_3_code
def yX2_put : MethodName := ⟨RX2, "put", "(IIZ)I"⟩
abbrev cX2_start : ByteArray := prog_4_method_4_code
def yX2_start : MethodName := ⟨RX2, "start", "(I)V"⟩
abbrev cX2_isDue : ByteArray := prog_4_method_5_code
def yX2_isDue : MethodName := ⟨RX2, "isDue", "(I)Z"⟩
abbrev cX2_finishNext : ByteArray := prog_4_method_6_code
def yX2_finishNext : MethodName := ⟨RX2, "finishNext", "(I)I"⟩
abbrev cX2_stepOf : ByteArray := prog_4_method_7_code
def yX2_stepOf : MethodName := ⟨RX2, "stepOf", "(I)I"⟩
abbrev cX2_isAct : ByteArray := prog_4_method_8_code
def yX2_isAct : MethodName := ⟨RX2, "isAct", "(I)Z"⟩
abbrev cX2_size : ByteArray := prog_4_method_9_code
def yX2_size : MethodName := ⟨RX2, "size", "()I"⟩
def RX3 : String := "TubeWatch$Crowd"
def TX3 : u_T := fun k => match k with
  | 0 => ("TubeWatch$Crowd", "states", "[I", true)
  | 1 => ("TubeWatch$Crowd", "places", "[I", true)
  | 2 => ("TubeWatch$Crowd", "readySteps", "[I", true)
  | 3 => ("TubeWatch$Crowd", "endSteps", "[I", true)
  | _ => ("TubeWatch$Crowd", "size", "I", false)
def tyX3 : Nat → FieldType := fun k => match k with
  | 0 => .array .int
  | 1 => .array .int
  | 2 => .array .int
  | 3 => .array .int
  | _ => .int
abbrev wsX30 : List Cond := u_ws RX3 TX3 5
theorem nmX3 : ∀ a, a < 5 → ∀ b, b < 5 → a ≠ b → (TX3 a).2.1 ≠ (TX3 b).2.1 := by decide +kernel
theorem tyX3_ok : ∀ k, k < 5 → parseFieldDescriptor (TX3 k).2.2.1 = some (tyX3 k) := by decide +kernel
abbrev cX3_init : ByteArray := prog_5_method_1_code
def yX3_init : MethodName := ⟨RX3, "<init>", "()V"⟩
abbrev cX3_hasRoomFor : ByteArray := prog_5_method_2_code
def yX3_hasRoomFor : MethodName := ⟨RX3, "hasRoomFor", "(I)Z"⟩
abbrev cX3_seat : ByteArray := prog_5_method_3_code
def yX3_seat : MethodName := ⟨RX3, "seat", "(II)V"⟩
abbrev cX3_live : ByteArray := prog_5_method_4_code
def yX3_live : MethodName := ⟨RX3, "live", "(IZLTubeWatch$Air;LTubeWatch$Doors;)V"⟩
abbrev cX3_liveOne : ByteArray := prog_5_method_5_code
def yX3_liveOne : MethodName := ⟨RX3, "liveOne", "(IIZILTubeWatch$Doors;)V"⟩
abbrev cX3_goOn : ByteArray := prog_5_method_6_code
def yX3_goOn : MethodName := ⟨RX3, "goOn", "(IILTubeWatch$Doors;)V"⟩
abbrev cX3_howMany : ByteArray := prog_5_method_7_code
def yX3_howMany : MethodName := ⟨RX3, "howMany", "(I)I"⟩
abbrev cX3_insideOf : ByteArray := prog_5_method_8_code
def yX3_insideOf : MethodName := ⟨RX3, "insideOf", "(I)I"⟩
abbrev cX3_stateOf : ByteArray := prog_5_method_9_code
def yX3_stateOf : MethodName := ⟨RX3, "stateOf", "(I)I"⟩
abbrev cX3_segmentOf : ByteArray := prog_5_method_10_code
def yX3_segmentOf : MethodName := ⟨RX3, "segmentOf", "(I)I"⟩
abbrev cX3_endOf : ByteArray := prog_5_method_11_code
def yX3_endOf : MethodName := ⟨RX3, "endOf", "(I)I"⟩
abbrev cX3_isPerson : ByteArray := prog_5_method_12_code
def yX3_isPerson : MethodName := ⟨RX3, "isPerson", "(I)Z"⟩
abbrev cX3_size : ByteArray := prog_5_method_13_code
def yX3_size : MethodName := ⟨RX3, "size", "()I"⟩
def RX4 : String := "TubeWatch$Doors"
def TX4 : u_T := fun k => match k with
  | 0 => ("TubeWatch$Doors", "there", "[Z", true)
  | 1 => ("TubeWatch$Doors", "open", "[Z", true)
  | _ => ("TubeWatch$Doors", "failing", "[Z", true)
def tyX4 : Nat → FieldType := fun k => match k with
  | 0 => .array .boolean
  | 1 => .array .boolean
  | _ => .array .boolean
abbrev wsX40 : List Cond := u_ws RX4 TX4 3
theorem nmX4 : ∀ a, a < 3 → ∀ b, b < 3 → a ≠ b → (TX4 a).2.1 ≠ (TX4 b).2.1 := by decide +kernel
theorem tyX4_ok : ∀ k, k < 3 → parseFieldDescriptor (TX4 k).2.2.1 = some (tyX4 k) := by decide +kernel
abbrev cX4_init : ByteArray := prog_6_method_1_code
def yX4_init : MethodName := ⟨RX4, "<init>", "()V"⟩
abbrev cX4_place : ByteArray := prog_6_method_2_code
def yX4_place : MethodName := ⟨RX4, "place", "(I)V"⟩
abbrev cX4_openAll : ByteArray := prog_6_method_3_code
def yX4_openAll : MethodName := ⟨RX4, "openAll", "()V"⟩
abbrev cX4_setFailing : ByteArray := prog_6_method_4_code
def yX4_setFailing : MethodName := ⟨RX4, "setFailing", "(IZ)V"⟩
abbrev cX4_nearestWay : ByteArray := prog_6_method_5_code
def yX4_nearestWay : MethodName := ⟨RX4, "nearestWay", "(I)I"⟩
abbrev cX4_isThere : ByteArray := prog_6_method_6_code
def yX4_isThere : MethodName := ⟨RX4, "isThere", "(I)Z"⟩
abbrev cX4_isOpen : ByteArray := prog_6_method_7_code
def yX4_isOpen : MethodName := ⟨RX4, "isOpen", "(I)Z"⟩
def RX5 : String := "TubeWatch$Fans"
def TX5 : u_T := fun k => match k with
  | 0 => ("TubeWatch$Fans", "orders", "[I", true)
  | 1 => ("TubeWatch$Fans", "states", "[I", true)
  | _ => ("TubeWatch$Fans", "failing", "[Z", true)
def tyX5 : Nat → FieldType := fun k => match k with
  | 0 => .array .int
  | 1 => .array .int
  | _ => .array .boolean
abbrev wsX50 : List Cond := u_ws RX5 TX5 3
theorem nmX5 : ∀ a, a < 3 → ∀ b, b < 3 → a ≠ b → (TX5 a).2.1 ≠ (TX5 b).2.1 := by decide +kernel
theorem tyX5_ok : ∀ k, k < 3 → parseFieldDescriptor (TX5 k).2.2.1 = some (tyX5 k) := by decide +kernel
abbrev cX5_init : ByteArray := prog_7_method_1_code
def yX5_init : MethodName := ⟨RX5, "<init>", "()V"⟩
abbrev cX5_turn : ByteArray := prog_7_method_2_code
def yX5_turn : MethodName := ⟨RX5, "turn", "(Z)V"⟩
abbrev cX5_oneNearer : ByteArray := prog_7_method_3_code
def yX5_oneNearer : MethodName := ⟨RX5, "oneNearer", "(II)I"⟩
abbrev cX5_push : ByteArray := prog_7_method_4_code
def yX5_push : MethodName := ⟨RX5, "push", "()I"⟩
abbrev cX5_order : ByteArray := prog_7_method_5_code
def yX5_order : MethodName := ⟨RX5, "order", "(II)I"⟩
abbrev cX5_orderAll : ByteArray := prog_7_method_6_code
def yX5_orderAll : MethodName := ⟨RX5, "orderAll", "(I)V"⟩
abbrev cX5_stateOf : ByteArray := prog_7_method_7_code
def yX5_stateOf : MethodName := ⟨RX5, "stateOf", "(I)I"⟩
abbrev cX5_setFailing : ByteArray := prog_7_method_8_code
def yX5_setFailing : MethodName := ⟨RX5, "setFailing", "(IZ)V"⟩
abbrev cX5_isFan : ByteArray := prog_7_method_9_code
def yX5_isFan : MethodName := ⟨RX5, "isFan", "(I)Z"⟩
def RX6 : String := "TubeWatch$Stream"
def TX6 : u_T := fun k => match k with
  | 0 => ("TubeWatch$Stream", "speed", "D", false)
  | 1 => ("TubeWatch$Stream", "breeze", "I", false)
  | _ => ("TubeWatch$Stream", "isTrafficStopped", "Z", false)
def tyX6 : Nat → FieldType := fun k => match k with
  | 0 => .double
  | 1 => .int
  | _ => .boolean
abbrev wsX60 : List Cond := u_ws RX6 TX6 3
theorem nmX6 : ∀ a, a < 3 → ∀ b, b < 3 → a ≠ b → (TX6 a).2.1 ≠ (TX6 b).2.1 := by decide +kernel
theorem tyX6_ok : ∀ k, k < 3 → parseFieldDescriptor (TX6 k).2.2.1 = some (tyX6 k) := by decide +kernel
abbrev cX6_init : ByteArray := prog_8_method_1_code
def yX6_init : MethodName := ⟨RX6, "<init>", "()V"⟩
abbrev cX6_become : ByteArray := prog_8_method_2_code
def yX6_become : MethodName := ⟨RX6, "become", "(I)V"⟩
abbrev cX6_held : ByteArray := prog_8_method_3_code
def yX6_held : MethodName := ⟨RX6, "held", "(D)D"⟩
abbrev cX6_blow : ByteArray := prog_8_method_4_code
def yX6_blow : MethodName := ⟨RX6, "blow", "(I)I"⟩
abbrev cX6_stopTraffic : ByteArray := prog_8_method_5_code
def yX6_stopTraffic : MethodName := ⟨RX6, "stopTraffic", "()V"⟩
abbrev cX6_speed : ByteArray := prog_8_method_6_code
def yX6_speed : MethodName := ⟨RX6, "speed", "()D"⟩
def RX7 : String := "TubeWatch"
def TX7 : u_T := fun k => match k with
  | 0 => ("TubeWatch", "fans", "LTubeWatch$Fans;", true)
  | 1 => ("TubeWatch", "stream", "LTubeWatch$Stream;", true)
  | 2 => ("TubeWatch", "air", "LTubeWatch$Air;", true)
  | 3 => ("TubeWatch", "blaze", "LTubeWatch$Blaze;", true)
  | 4 => ("TubeWatch", "doors", "LTubeWatch$Doors;", true)
  | 5 => ("TubeWatch", "chart", "LTubeWatch$Chart;", true)
  | 6 => ("TubeWatch", "crowd", "LTubeWatch$Crowd;", true)
  | 7 => ("TubeWatch", "downFeeds", "[Z", true)
  | 8 => ("TubeWatch", "failingDetectors", "[Z", true)
  | 9 => ("TubeWatch", "damperSegment", "I", false)
  | 10 => ("TubeWatch", "isDamperOpen", "Z", false)
  | 11 => ("TubeWatch", "isTold", "Z", false)
  | 12 => ("TubeWatch", "alarmSegment", "I", false)
  | _ => ("TubeWatch", "stepsDone", "I", false)
def tyX7 : Nat → FieldType := fun k => match k with
  | 0 => .object "TubeWatch$Fans"
  | 1 => .object "TubeWatch$Stream"
  | 2 => .object "TubeWatch$Air"
  | 3 => .object "TubeWatch$Blaze"
  | 4 => .object "TubeWatch$Doors"
  | 5 => .object "TubeWatch$Chart"
  | 6 => .object "TubeWatch$Crowd"
  | 7 => .array .boolean
  | 8 => .array .boolean
  | 9 => .int
  | 10 => .boolean
  | 11 => .boolean
  | 12 => .int
  | _ => .int
abbrev wsX70 : List Cond := u_ws RX7 TX7 14
theorem nmX7 : ∀ a, a < 14 → ∀ b, b < 14 → a ≠ b → (TX7 a).2.1 ≠ (TX7 b).2.1 := by decide +kernel
theorem tyX7_ok : ∀ k, k < 14 → parseFieldDescriptor (TX7 k).2.2.1 = some (tyX7 k) := by decide +kernel
abbrev cX7_init : ByteArray := prog_1_method_1_code
def yX7_init : MethodName := ⟨RX7, "<init>", "()V"⟩
abbrev cX7_build : ByteArray := prog_1_method_2_code
def yX7_build : MethodName := ⟨RX7, "build", "(II)V"⟩
abbrev cX7_people : ByteArray := prog_1_method_3_code
def yX7_people : MethodName := ⟨RX7, "people", "(II)I"⟩
abbrev cX7_wind : ByteArray := prog_1_method_4_code
def yX7_wind : MethodName := ⟨RX7, "wind", "(I)I"⟩
abbrev cX7_fire : ByteArray := prog_1_method_5_code
def yX7_fire : MethodName := ⟨RX7, "fire", "(II)V"⟩
abbrev cX7_feed : ByteArray := prog_1_method_6_code
def yX7_feed : MethodName := ⟨RX7, "feed", "(IZ)Z"⟩
abbrev cX7_failFan : ByteArray := prog_1_method_7_code
def yX7_failFan : MethodName := ⟨RX7, "failFan", "(IZ)I"⟩
abbrev cX7_failDoor : ByteArray := prog_1_method_8_code
def yX7_failDoor : MethodName := ⟨RX7, "failDoor", "(IZ)Z"⟩
abbrev cX7_failDetector : ByteArray := prog_1_method_9_code
def yX7_failDetector : MethodName := ⟨RX7, "failDetector", "(IIZ)V"⟩
abbrev cX7_act : ByteArray := prog_1_method_10_code
def yX7_act : MethodName := ⟨RX7, "act", "(IIZ)I"⟩
abbrev cX7_command : ByteArray := prog_1_method_11_code
def yX7_command : MethodName := ⟨RX7, "command", "(II)I"⟩
abbrev cX7_step : ByteArray := prog_1_method_12_code
def yX7_step : MethodName := ⟨RX7, "step", "(I)I"⟩
abbrev cX7_segment : ByteArray := prog_1_method_13_code
def yX7_segment : MethodName := ⟨RX7, "segment", "(II)I"⟩
abbrev cX7_flow : ByteArray := prog_1_method_14_code
def yX7_flow : MethodName := ⟨RX7, "flow", "()I"⟩
abbrev cX7_fan : ByteArray := prog_1_method_15_code
def yX7_fan : MethodName := ⟨RX7, "fan", "(I)I"⟩
abbrev cX7_alarm : ByteArray := prog_1_method_16_code
def yX7_alarm : MethodName := ⟨RX7, "alarm", "()I"⟩
abbrev cX7_done : ByteArray := prog_1_method_17_code
def yX7_done : MethodName := ⟨RX7, "done", "(I)I"⟩
abbrev cX7_person : ByteArray := prog_1_method_18_code
def yX7_person : MethodName := ⟨RX7, "person", "(II)I"⟩
abbrev cX7_count : ByteArray := prog_1_method_19_code
def yX7_count : MethodName := ⟨RX7, "count", "(I)I"⟩
abbrev cX7_gone : ByteArray := prog_1_method_20_code
def yX7_gone : MethodName := ⟨RX7, "gone", "()I"⟩
abbrev cX7_balances : ByteArray := prog_1_method_21_code
def yX7_balances : MethodName := ⟨RX7, "balances", "()Z"⟩
abbrev cX7_doStep : ByteArray := prog_1_method_22_code
def yX7_doStep : MethodName := ⟨RX7, "doStep", "()V"⟩
abbrev cX7_burn : ByteArray := prog_1_method_23_code
def yX7_burn : MethodName := ⟨RX7, "burn", "()V"⟩
abbrev cX7_moveAir : ByteArray := prog_1_method_24_code
def yX7_moveAir : MethodName := ⟨RX7, "moveAir", "()V"⟩
abbrev cX7_watch : ByteArray := prog_1_method_25_code
def yX7_watch : MethodName := ⟨RX7, "watch", "()V"⟩
abbrev cX7_followChart : ByteArray := prog_1_method_26_code
def yX7_followChart : MethodName := ⟨RX7, "followChart", "()V"⟩
abbrev cX7_perform : ByteArray := prog_1_method_27_code
def yX7_perform : MethodName := ⟨RX7, "perform", "(I)V"⟩
abbrev cX7_hasPower : ByteArray := prog_1_method_28_code
def yX7_hasPower : MethodName := ⟨RX7, "hasPower", "()Z"⟩
abbrev cX7_tellingIn : ByteArray := prog_1_method_29_code
def yX7_tellingIn : MethodName := ⟨RX7, "tellingIn", "(I)I"⟩
abbrev cX7_detectorWorks : ByteArray := prog_1_method_30_code
def yX7_detectorWorks : MethodName := ⟨RX7, "detectorWorks", "(II)Z"⟩
abbrev cX7_doorAnswer : ByteArray := prog_1_method_31_code
def yX7_doorAnswer : MethodName := ⟨RX7, "doorAnswer", "(I)I"⟩
abbrev cX7_requireDoor : ByteArray := prog_1_method_32_code
def yX7_requireDoor : MethodName := ⟨RX7, "requireDoor", "(I)V"⟩
abbrev cX7_requireSegment : ByteArray := prog_1_method_33_code
def yX7_requireSegment : MethodName := ⟨RX7, "requireSegment", "(I)V"⟩
abbrev cX7_requireIndex : ByteArray := prog_1_method_34_code
def yX7_requireIndex : MethodName := ⟨RX7, "requireIndex", "(II)V"⟩
abbrev cX7_requireRange : ByteArray := prog_1_method_35_code
def yX7_requireRange : MethodName := ⟨RX7, "requireRange", "(III)V"⟩
abbrev cX7_requireState : ByteArray := prog_1_method_36_code
def yX7_requireState : MethodName := ⟨RX7, "requireState", "(Z)V"⟩
abbrev cX7_isSegment : ByteArray := prog_1_method_37_code
def yX7_isSegment : MethodName := ⟨RX7, "isSegment", "(I)Z"⟩
def RX8 : String := "TubeWatchModel"
def TX8 : u_T := fun k => match k with
  | 0 => ("TubeWatchModel", "steps", "I", false)
  | 1 => ("TubeWatchModel", "smoke", "[I", true)
  | 2 => ("TubeWatchModel", "heat", "[I", true)
  | 3 => ("TubeWatchModel", "command", "[I", true)
  | 4 => ("TubeWatchModel", "state", "[I", true)
  | 5 => ("TubeWatchModel", "fails", "[Z", true)
  | 6 => ("TubeWatchModel", "doors", "I", false)
  | 7 => ("TubeWatchModel", "open", "I", false)
  | 8 => ("TubeWatchModel", "stuck", "I", false)
  | 9 => ("TubeWatchModel", "damper", "I", false)
  | 10 => ("TubeWatchModel", "isDamperOpen", "Z", false)
  | 11 => ("TubeWatchModel", "isFoam", "Z", false)
  | 12 => ("TubeWatchModel", "isStopped", "Z", false)
  | 13 => ("TubeWatchModel", "isTold", "Z", false)
  | 14 => ("TubeWatchModel", "water", "I", false)
  | 15 => ("TubeWatchModel", "wind", "I", false)
  | 16 => ("TubeWatchModel", "flow", "D", false)
  | 17 => ("TubeWatchModel", "isDown", "[Z", true)
  | 18 => ("TubeWatchModel", "fire", "I", false)
  | 19 => ("TubeWatchModel", "size", "I", false)
  | 20 => ("TubeWatchModel", "age", "I", false)
  | 21 => ("TubeWatchModel", "made", "I", false)
  | 22 => ("TubeWatchModel", "gone", "I", false)
  | 23 => ("TubeWatchModel", "isDeaf", "[Z", true)
  | 24 => ("TubeWatchModel", "alarm", "I", false)
  | 25 => ("TubeWatchModel", "acts", "I", false)
  | 26 => ("TubeWatchModel", "kind", "[I", true)
  | 27 => ("TubeWatchModel", "waits", "[I", true)
  | 28 => ("TubeWatchModel", "done", "[I", true)
  | 29 => ("TubeWatchModel", "next", "I", false)
  | 30 => ("TubeWatchModel", "due", "I", false)
  | 31 => ("TubeWatchModel", "persons", "I", false)
  | 32 => ("TubeWatchModel", "how", "[I", true)
  | 33 => ("TubeWatchModel", "where", "[I", true)
  | 34 => ("TubeWatchModel", "since", "[I", true)
  | 35 => ("TubeWatchModel", "last", "[I", true)
  | _ => ("TubeWatchModel", "thrown", "I", false)
def tyX8 : Nat → FieldType := fun k => match k with
  | 0 => .int
  | 1 => .array .int
  | 2 => .array .int
  | 3 => .array .int
  | 4 => .array .int
  | 5 => .array .boolean
  | 6 => .int
  | 7 => .int
  | 8 => .int
  | 9 => .int
  | 10 => .boolean
  | 11 => .boolean
  | 12 => .boolean
  | 13 => .boolean
  | 14 => .int
  | 15 => .int
  | 16 => .double
  | 17 => .array .boolean
  | 18 => .int
  | 19 => .int
  | 20 => .int
  | 21 => .int
  | 22 => .int
  | 23 => .array .boolean
  | 24 => .int
  | 25 => .int
  | 26 => .array .int
  | 27 => .array .int
  | 28 => .array .int
  | 29 => .int
  | 30 => .int
  | 31 => .int
  | 32 => .array .int
  | 33 => .array .int
  | 34 => .array .int
  | 35 => .array .int
  | _ => .int
abbrev wsX80 : List Cond := u_ws RX8 TX8 37
theorem nmX8 : ∀ a, a < 37 → ∀ b, b < 37 → a ≠ b → (TX8 a).2.1 ≠ (TX8 b).2.1 := by decide +kernel
theorem tyX8_ok : ∀ k, k < 37 → parseFieldDescriptor (TX8 k).2.2.1 = some (tyX8 k) := by decide +kernel
abbrev cX8_init : ByteArray := prog_10_method_1_code
def yX8_init : MethodName := ⟨RX8, "<init>", "()V"⟩
abbrev cX8_thrown : ByteArray := prog_10_method_2_code
def yX8_thrown : MethodName := ⟨RX8, "thrown", "()I"⟩
abbrev cX8_goes : ByteArray := prog_10_method_3_code
def yX8_goes : MethodName := ⟨RX8, "goes", "(ZZZ)Z"⟩
abbrev cX8_isBetween : ByteArray := prog_10_method_4_code
def yX8_isBetween : MethodName := ⟨RX8, "isBetween", "(III)Z"⟩
abbrev cX8_isSegment : ByteArray := prog_10_method_5_code
def yX8_isSegment : MethodName := ⟨RX8, "isSegment", "(I)Z"⟩
abbrev cX8_isFan : ByteArray := prog_10_method_6_code
def yX8_isFan : MethodName := ⟨RX8, "isFan", "(I)Z"⟩
abbrev cX8_isIn : ByteArray := prog_10_method_7_code
def yX8_isIn : MethodName := ⟨RX8, "isIn", "(II)Z"⟩
abbrev cX8_hasPower : ByteArray := prog_10_method_8_code
def yX8_hasPower : MethodName := ⟨RX8, "hasPower", "()Z"⟩
abbrev cX8_build : ByteArray := prog_10_method_9_code
def yX8_build : MethodName := ⟨RX8, "build", "(II)V"⟩
abbrev cX8_people : ByteArray := prog_10_method_10_code
def yX8_people : MethodName := ⟨RX8, "people", "(II)I"⟩
abbrev cX8_wind : ByteArray := prog_10_method_11_code
def yX8_wind : MethodName := ⟨RX8, "wind", "(I)I"⟩
abbrev cX8_fire : ByteArray := prog_10_method_12_code
def yX8_fire : MethodName := ⟨RX8, "fire", "(II)V"⟩
abbrev cX8_feed : ByteArray := prog_10_method_13_code
def yX8_feed : MethodName := ⟨RX8, "feed", "(IZ)Z"⟩
abbrev cX8_failFan : ByteArray := prog_10_method_14_code
def yX8_failFan : MethodName := ⟨RX8, "failFan", "(IZ)I"⟩
abbrev cX8_failDoor : ByteArray := prog_10_method_15_code
def yX8_failDoor : MethodName := ⟨RX8, "failDoor", "(IZ)Z"⟩
abbrev cX8_failDetector : ByteArray := prog_10_method_16_code
def yX8_failDetector : MethodName := ⟨RX8, "failDetector", "(IIZ)V"⟩
abbrev cX8_act : ByteArray := prog_10_method_17_code
def yX8_act : MethodName := ⟨RX8, "act", "(IIZ)I"⟩
abbrev cX8_command : ByteArray := prog_10_method_18_code
def yX8_command : MethodName := ⟨RX8, "command", "(II)I"⟩
abbrev cX8_doesAct : ByteArray := prog_10_method_19_code
def yX8_doesAct : MethodName := ⟨RX8, "doesAct", "(I)V"⟩
abbrev cX8_fans : ByteArray := prog_10_method_20_code
def yX8_fans : MethodName := ⟨RX8, "fans", "()V"⟩
abbrev cX8_flows : ByteArray := prog_10_method_21_code
def yX8_flows : MethodName := ⟨RX8, "flows", "()V"⟩
abbrev cX8_burns : ByteArray := prog_10_method_22_code
def yX8_burns : MethodName := ⟨RX8, "burns", "()V"⟩
abbrev cX8_strength : ByteArray := prog_10_method_23_code
def yX8_strength : MethodName := ⟨RX8, "strength", "()D"⟩
abbrev cX8_comes : ByteArray := prog_10_method_24_code
def yX8_comes : MethodName := ⟨RX8, "comes", "(II)V"⟩
abbrev cX8_moves : ByteArray := prog_10_method_25_code
def yX8_moves : MethodName := ⟨RX8, "moves", "()V"⟩
abbrev cX8_personsIn : ByteArray := prog_10_method_26_code
def yX8_personsIn : MethodName := ⟨RX8, "personsIn", "(I)I"⟩
abbrev cX8_tells : ByteArray := prog_10_method_27_code
def yX8_tells : MethodName := ⟨RX8, "tells", "(I)I"⟩
abbrev cX8_detects : ByteArray := prog_10_method_28_code
def yX8_detects : MethodName := ⟨RX8, "detects", "()V"⟩
abbrev cX8_charts : ByteArray := prog_10_method_29_code
def yX8_charts : MethodName := ⟨RX8, "charts", "()V"⟩
abbrev cX8_aim : ByteArray := prog_10_method_30_code
def yX8_aim : MethodName := ⟨RX8, "aim", "(I)I"⟩
abbrev cX8_ends : ByteArray := prog_10_method_31_code
def yX8_ends : MethodName := ⟨RX8, "ends", "(II)V"⟩
abbrev cX8_walks : ByteArray := prog_10_method_32_code
def yX8_walks : MethodName := ⟨RX8, "walks", "(I)V"⟩
abbrev cX8_lives : ByteArray := prog_10_method_33_code
def yX8_lives : MethodName := ⟨RX8, "lives", "(I)V"⟩
abbrev cX8_doesStep : ByteArray := prog_10_method_34_code
def yX8_doesStep : MethodName := ⟨RX8, "doesStep", "()V"⟩
abbrev cX8_step : ByteArray := prog_10_method_35_code
def yX8_step : MethodName := ⟨RX8, "step", "(I)I"⟩
abbrev cX8_segment : ByteArray := prog_10_method_36_code
def yX8_segment : MethodName := ⟨RX8, "segment", "(II)I"⟩
abbrev cX8_flow : ByteArray := prog_10_method_37_code
def yX8_flow : MethodName := ⟨RX8, "flow", "()I"⟩
abbrev cX8_fan : ByteArray := prog_10_method_38_code
def yX8_fan : MethodName := ⟨RX8, "fan", "(I)I"⟩
abbrev cX8_alarm : ByteArray := prog_10_method_39_code
def yX8_alarm : MethodName := ⟨RX8, "alarm", "()I"⟩
abbrev cX8_done : ByteArray := prog_10_method_40_code
def yX8_done : MethodName := ⟨RX8, "done", "(I)I"⟩
abbrev cX8_person : ByteArray := prog_10_method_41_code
def yX8_person : MethodName := ⟨RX8, "person", "(II)I"⟩
abbrev cX8_counted : ByteArray := prog_10_method_42_code
def yX8_counted : MethodName := ⟨RX8, "counted", "(I)I"⟩
abbrev cX8_count : ByteArray := prog_10_method_43_code
def yX8_count : MethodName := ⟨RX8, "count", "(I)I"⟩
abbrev cX8_gone : ByteArray := prog_10_method_44_code
def yX8_gone : MethodName := ⟨RX8, "gone", "()I"⟩
abbrev cX8_balances : ByteArray := prog_10_method_45_code
def yX8_balances : MethodName := ⟨RX8, "balances", "()Z"⟩
def RJ6 : String := "java/lang/Integer"
def TJ6 : u_T := fun k => match k with
  | _ => ("", "", "", false)
def tyJ6 : Nat → FieldType := fun k => match k with
  | _ => .int
abbrev wsJ60 : List Cond := u_ws RJ6 TJ6 0
theorem nmJ6 : ∀ a, a < 0 → ∀ b, b < 0 → a ≠ b → (TJ6 a).2.1 ≠ (TJ6 b).2.1 := by decide +kernel
theorem tyJ6_ok : ∀ k, k < 0 → parseFieldDescriptor (TJ6 k).2.2.1 = some (tyJ6 k) := by decide +kernel
abbrev cJ6_compare_7cf53 : ByteArray := prog_15_method_40_code
def yJ6_compare_7cf53 : MethodName := ⟨RJ6, "compare", "(II)I"⟩
def RJ9 : String := "java/lang/Math"
def TJ9 : u_T := fun k => match k with
  | _ => ("", "", "", false)
def tyJ9 : Nat → FieldType := fun k => match k with
  | _ => .int
abbrev wsJ90 : List Cond := u_ws RJ9 TJ9 0
theorem nmJ9 : ∀ a, a < 0 → ∀ b, b < 0 → a ≠ b → (TJ9 a).2.1 ≠ (TJ9 b).2.1 := by decide +kernel
theorem tyJ9_ok : ∀ k, k < 0 → parseFieldDescriptor (TJ9 k).2.2.1 = some (tyJ9 k) := by decide +kernel
abbrev cJ9_abs_0f7a4 : ByteArray := prog_16_method_59_code
def yJ9_abs_0f7a4 : MethodName := ⟨RJ9, "abs", "(I)I"⟩
abbrev cJ9_min_f86c9 : ByteArray := prog_16_method_70_code
def yJ9_min_f86c9 : MethodName := ⟨RJ9, "min", "(JJ)J"⟩
def RJ0 : String := "java/lang/String"
def TJ0 : u_T := fun k => match k with
  | _ => ("", "", "", false)
def tyJ0 : Nat → FieldType := fun k => match k with
  | _ => .int
abbrev wsJ00 : List Cond := u_ws RJ0 TJ0 0
theorem nmJ0 : ∀ a, a < 0 → ∀ b, b < 0 → a ≠ b → (TJ0 a).2.1 ≠ (TJ0 b).2.1 := by decide +kernel
theorem tyJ0_ok : ∀ k, k < 0 → parseFieldDescriptor (TJ0 k).2.2.1 = some (tyJ0 k) := by decide +kernel
def RL : String := "TubeWatchLaw"
abbrev cL_build : ByteArray := method_3_code
def yL_build : MethodName := ⟨RL, "build", "(LTubeWatch;II)I"⟩
abbrev cL_people : ByteArray := method_4_code
def yL_people : MethodName := ⟨RL, "people", "(LTubeWatch;II[J)I"⟩
abbrev cL_wind : ByteArray := method_5_code
def yL_wind : MethodName := ⟨RL, "wind", "(LTubeWatch;I[J)I"⟩
abbrev cL_fire : ByteArray := method_6_code
def yL_fire : MethodName := ⟨RL, "fire", "(LTubeWatch;II)I"⟩
abbrev cL_feed : ByteArray := method_7_code
def yL_feed : MethodName := ⟨RL, "feed", "(LTubeWatch;IZ[J)I"⟩
abbrev cL_failFan : ByteArray := method_8_code
def yL_failFan : MethodName := ⟨RL, "failFan", "(LTubeWatch;IZ[J)I"⟩
abbrev cL_failDoor : ByteArray := method_9_code
def yL_failDoor : MethodName := ⟨RL, "failDoor", "(LTubeWatch;IZ[J)I"⟩
abbrev cL_failDetector : ByteArray := method_10_code
def yL_failDetector : MethodName := ⟨RL, "failDetector", "(LTubeWatch;IIZ)I"⟩
abbrev cL_act : ByteArray := method_11_code
def yL_act : MethodName := ⟨RL, "act", "(LTubeWatch;IIZ[J)I"⟩
abbrev cL_command : ByteArray := method_12_code
def yL_command : MethodName := ⟨RL, "command", "(LTubeWatch;II[J)I"⟩
abbrev cL_step : ByteArray := method_13_code
def yL_step : MethodName := ⟨RL, "step", "(LTubeWatch;I[J)I"⟩
abbrev cL_segment : ByteArray := method_14_code
def yL_segment : MethodName := ⟨RL, "segment", "(LTubeWatch;II[J)I"⟩
abbrev cL_fan : ByteArray := method_15_code
def yL_fan : MethodName := ⟨RL, "fan", "(LTubeWatch;I[J)I"⟩
abbrev cL_done : ByteArray := method_16_code
def yL_done : MethodName := ⟨RL, "done", "(LTubeWatch;I[J)I"⟩
abbrev cL_person : ByteArray := method_17_code
def yL_person : MethodName := ⟨RL, "person", "(LTubeWatch;II[J)I"⟩
abbrev cL_count : ByteArray := method_18_code
def yL_count : MethodName := ⟨RL, "count", "(LTubeWatch;I[J)I"⟩
abbrev cL_law : ByteArray := code
def yL_law : MethodName := ⟨RL, "law", "([I)Z"⟩
def wsX0_init : List Cond := .code yX0_init cX0_init 1 none :: ([.methodLink RX0 3 objectInit, .instanceMethod objectInit, .code objectInit ⟨#[0xb1]⟩ 1 none, .arrayClass .int, .fieldLink RX0 9 "TubeWatch$Air" "smoke" "[I", .fieldLink RX0 15 "TubeWatch$Air" "heat" "[I", .fieldLink RX0 18 "TubeWatch$Air" "leaving" "[I", .fieldLink RX0 21 "TubeWatch$Air" "lost" "I"] ++ wsX00)
def wsX7_isSegment : List Cond := .code yX7_isSegment cX7_isSegment 1 (some .boolean) :: ([])
def wsX0_feedFrom : List Cond := .code yX0_feedFrom cX0_feedFrom 3 none :: ([.fieldLink RX0 9 "TubeWatch$Air" "smoke" "[I", .fieldLink RX0 15 "TubeWatch$Air" "heat" "[I", .static yX7_isSegment, .initialized RX7, .code yX7_isSegment cX7_isSegment 1 (some .boolean)] ++ wsX00)
def wsX0_withoutSign : List Cond := .code yX0_withoutSign cX0_withoutSign 2 (some .double) :: ([])
def wsX0_side : List Cond := .code yX0_side cX0_side 2 (some .int) :: ([])
def wsX0_shift : List Cond := .code yX0_shift cX0_shift 4 none :: ([.fieldLink RX0 9 "TubeWatch$Air" "smoke" "[I", .fieldLink RX0 21 "TubeWatch$Air" "lost" "I", .static yX7_isSegment, .initialized RX7, .code yX7_isSegment cX7_isSegment 1 (some .boolean)] ++ wsX00)
def wsX0_drift : List Cond := .code yX0_drift cX0_drift 5 none :: ([.fieldLink RX0 18 "TubeWatch$Air" "leaving" "[I", .fieldLink RX0 9 "TubeWatch$Air" "smoke" "[I", .methodLink RX0 29 yX0_withoutSign, .static yX0_withoutSign, .initialized RX0, .code yX0_withoutSign cX0_withoutSign 2 (some .double), .methodLink RX0 33 yX0_side, .static yX0_side, .code yX0_side cX0_side 2 (some .int), .methodLink RX0 37 yX0_shift, .instanceMethod yX0_shift, .selects RX0 yX0_shift yX0_shift, .code yX0_shift cX0_shift 4 none, .fieldLink RX0 21 "TubeWatch$Air" "lost" "I", .static yX7_isSegment, .initialized RX7, .code yX7_isSegment cX7_isSegment 1 (some .boolean)] ++ wsX00)
def wsX0_smokeIn : List Cond := .code yX0_smokeIn cX0_smokeIn 2 (some .int) :: ([.fieldLink RX0 9 "TubeWatch$Air" "smoke" "[I", .static yX7_isSegment, .initialized RX7, .code yX7_isSegment cX7_isSegment 1 (some .boolean)] ++ wsX00)
def wsX0_backUp : List Cond := .code yX0_backUp cX0_backUp 4 none :: ([.constantDouble RX0 41 (4629137466983448576), .methodLink RX0 29 yX0_withoutSign, .static yX0_withoutSign, .initialized RX0, .code yX0_withoutSign cX0_withoutSign 2 (some .double), .methodLink RX0 33 yX0_side, .static yX0_side, .code yX0_side cX0_side 2 (some .int), .methodLink RX0 43 yX0_smokeIn, .instanceMethod yX0_smokeIn, .selects RX0 yX0_smokeIn yX0_smokeIn, .code yX0_smokeIn cX0_smokeIn 2 (some .int), .fieldLink RX0 9 "TubeWatch$Air" "smoke" "[I", .static yX7_isSegment, .initialized RX7, .code yX7_isSegment cX7_isSegment 1 (some .boolean), .methodLink RX0 37 yX0_shift, .instanceMethod yX0_shift, .selects RX0 yX0_shift yX0_shift, .code yX0_shift cX0_shift 4 none, .fieldLink RX0 21 "TubeWatch$Air" "lost" "I"] ++ wsX00)
def wsX0_drawOff : List Cond := .code yX0_drawOff cX0_drawOff 2 none :: ([.methodLink RX0 43 yX0_smokeIn, .instanceMethod yX0_smokeIn, .selects RX0 yX0_smokeIn yX0_smokeIn, .initialized RX0, .code yX0_smokeIn cX0_smokeIn 2 (some .int), .fieldLink RX0 9 "TubeWatch$Air" "smoke" "[I", .static yX7_isSegment, .initialized RX7, .code yX7_isSegment cX7_isSegment 1 (some .boolean), .methodLink RX0 37 yX0_shift, .instanceMethod yX0_shift, .selects RX0 yX0_shift yX0_shift, .code yX0_shift cX0_shift 4 none, .fieldLink RX0 21 "TubeWatch$Air" "lost" "I"] ++ wsX00)
def wsX0_cool : List Cond := .code yX0_cool cX0_cool 2 none :: ([.fieldLink RX0 15 "TubeWatch$Air" "heat" "[I"] ++ wsX00)
def wsX0_heatIn : List Cond := .code yX0_heatIn cX0_heatIn 2 (some .int) :: ([.fieldLink RX0 15 "TubeWatch$Air" "heat" "[I", .static yX7_isSegment, .initialized RX7, .code yX7_isSegment cX7_isSegment 1 (some .boolean)] ++ wsX00)
def wsX0_allSmoke : List Cond := .code yX0_allSmoke cX0_allSmoke 3 (some .int) :: ([.fieldLink RX0 9 "TubeWatch$Air" "smoke" "[I"] ++ wsX00)
def wsX0_lost : List Cond := .code yX0_lost cX0_lost 1 (some .int) :: ([.fieldLink RX0 21 "TubeWatch$Air" "lost" "I"] ++ wsX00)
def wsX1_init : List Cond := .code yX1_init cX1_init 1 none :: ([.methodLink RX1 3 objectInit, .instanceMethod objectInit, .code objectInit ⟨#[0xb1]⟩ 1 none, .fieldLink RX1 9 "TubeWatch$Blaze" "site" "I", .fieldLink RX1 15 "TubeWatch$Blaze" "size" "I", .fieldLink RX1 18 "TubeWatch$Blaze" "age" "J", .fieldLink RX1 22 "TubeWatch$Blaze" "water" "I", .fieldLink RX1 25 "TubeWatch$Blaze" "isFoamOn" "Z", .fieldLink RX1 29 "TubeWatch$Blaze" "made" "I"] ++ wsX10)
def wsX1_isBurning : List Cond := .code yX1_isBurning cX1_isBurning 1 (some .boolean) :: ([.fieldLink RX1 9 "TubeWatch$Blaze" "site" "I"] ++ wsX10)
def wsX1_begin : List Cond := .code yX1_begin cX1_begin 3 none :: ([.fieldLink RX1 9 "TubeWatch$Blaze" "site" "I", .fieldLink RX1 15 "TubeWatch$Blaze" "size" "I"] ++ wsX10)
def wsX1_turnFoamOn : List Cond := .code yX1_turnFoamOn cX1_turnFoamOn 1 none :: ([.fieldLink RX1 25 "TubeWatch$Blaze" "isFoamOn" "Z"] ++ wsX10)
def wsX1_burn : List Cond := .code yX1_burn cX1_burn 3 (some .int) :: ([.fieldLink RX1 15 "TubeWatch$Blaze" "size" "I", .fieldLink RX1 18 "TubeWatch$Blaze" "age" "J", .constantLong RX1 32 (4), .methodLink RX1 34 Lib.MathLoose.min_long.x, .static Lib.MathLoose.min_long.x, .initialized "java/lang/Math", .code Lib.MathLoose.min_long.x Lib.MathLoose.min_long.code 4 (some .long), .fieldLink RX1 25 "TubeWatch$Blaze" "isFoamOn" "Z", .fieldLink RX1 22 "TubeWatch$Blaze" "water" "I", .fieldLink RX1 29 "TubeWatch$Blaze" "made" "I"] ++ wsX10)
def wsX1_place : List Cond := .code yX1_place cX1_place 1 (some .int) :: ([.fieldLink RX1 9 "TubeWatch$Blaze" "site" "I"] ++ wsX10)
def wsX1_allMade : List Cond := .code yX1_allMade cX1_allMade 1 (some .int) :: ([.fieldLink RX1 29 "TubeWatch$Blaze" "made" "I"] ++ wsX10)
def wsX2_init : List Cond := .code yX2_init cX2_init 1 none :: ([.methodLink RX2 3 objectInit, .instanceMethod objectInit, .code objectInit ⟨#[0xb1]⟩ 1 none, .arrayClass .int, .fieldLink RX2 9 "TubeWatch$Chart" "kinds" "[I", .fieldLink RX2 15 "TubeWatch$Chart" "waits" "[I", .fieldLink RX2 18 "TubeWatch$Chart" "steps" "[I", .fieldLink RX2 21 "TubeWatch$Chart" "size" "I", .fieldLink RX2 25 "TubeWatch$Chart" "next" "I", .fieldLink RX2 28 "TubeWatch$Chart" "since" "I"] ++ wsX20)
def wsX2_hasRoom : List Cond := .code yX2_hasRoom cX2_hasRoom 1 (some .boolean) :: ([.fieldLink RX2 21 "TubeWatch$Chart" "size" "I"] ++ wsX20)
def wsX2_put : List Cond := .code yX2_put cX2_put 4 (some .int) :: ([.fieldLink RX2 9 "TubeWatch$Chart" "kinds" "[I", .fieldLink RX2 21 "TubeWatch$Chart" "size" "I", .fieldLink RX2 15 "TubeWatch$Chart" "waits" "[I", .fieldLink RX2 18 "TubeWatch$Chart" "steps" "[I", .methodLink RX2 31 yX2_hasRoom, .instanceMethod yX2_hasRoom, .selects RX2 yX2_hasRoom yX2_hasRoom, .initialized RX2, .code yX2_hasRoom cX2_hasRoom 1 (some .boolean)] ++ wsX20)
def wsX2_start : List Cond := .code yX2_start cX2_start 2 none :: ([.fieldLink RX2 28 "TubeWatch$Chart" "since" "I"] ++ wsX20)
def wsX2_isAct : List Cond := .code yX2_isAct cX2_isAct 2 (some .boolean) :: ([.fieldLink RX2 21 "TubeWatch$Chart" "size" "I"] ++ wsX20)
def wsX2_isDue : List Cond := .code yX2_isDue cX2_isDue 2 (some .boolean) :: ([.fieldLink RX2 25 "TubeWatch$Chart" "next" "I", .fieldLink RX2 28 "TubeWatch$Chart" "since" "I", .fieldLink RX2 15 "TubeWatch$Chart" "waits" "[I", .methodLink RX2 35 yX2_isAct, .instanceMethod yX2_isAct, .selects RX2 yX2_isAct yX2_isAct, .initialized RX2, .code yX2_isAct cX2_isAct 2 (some .boolean), .fieldLink RX2 21 "TubeWatch$Chart" "size" "I"] ++ wsX20)
def wsX2_finishNext : List Cond := .code yX2_finishNext cX2_finishNext 3 (some .int) :: ([.fieldLink RX2 25 "TubeWatch$Chart" "next" "I", .fieldLink RX2 9 "TubeWatch$Chart" "kinds" "[I", .fieldLink RX2 18 "TubeWatch$Chart" "steps" "[I", .fieldLink RX2 28 "TubeWatch$Chart" "since" "I", .methodLink RX2 35 yX2_isAct, .instanceMethod yX2_isAct, .selects RX2 yX2_isAct yX2_isAct, .initialized RX2, .code yX2_isAct cX2_isAct 2 (some .boolean), .fieldLink RX2 21 "TubeWatch$Chart" "size" "I"] ++ wsX20)
def wsX2_stepOf : List Cond := .code yX2_stepOf cX2_stepOf 2 (some .int) :: ([.fieldLink RX2 18 "TubeWatch$Chart" "steps" "[I", .methodLink RX2 35 yX2_isAct, .instanceMethod yX2_isAct, .selects RX2 yX2_isAct yX2_isAct, .initialized RX2, .code yX2_isAct cX2_isAct 2 (some .boolean), .fieldLink RX2 21 "TubeWatch$Chart" "size" "I"] ++ wsX20)
def wsX2_size : List Cond := .code yX2_size cX2_size 1 (some .int) :: ([.fieldLink RX2 21 "TubeWatch$Chart" "size" "I"] ++ wsX20)
def wsX3_init : List Cond := .code yX3_init cX3_init 1 none :: ([.methodLink RX3 3 objectInit, .instanceMethod objectInit, .code objectInit ⟨#[0xb1]⟩ 1 none, .arrayClass .int, .fieldLink RX3 9 "TubeWatch$Crowd" "states" "[I", .fieldLink RX3 15 "TubeWatch$Crowd" "places" "[I", .fieldLink RX3 18 "TubeWatch$Crowd" "readySteps" "[I", .fieldLink RX3 21 "TubeWatch$Crowd" "endSteps" "[I", .fieldLink RX3 24 "TubeWatch$Crowd" "size" "I"] ++ wsX30)
def wsX3_hasRoomFor : List Cond := .code yX3_hasRoomFor cX3_hasRoomFor 2 (some .boolean) :: ([.fieldLink RX3 24 "TubeWatch$Crowd" "size" "I"] ++ wsX30)
def wsX3_seat : List Cond := .code yX3_seat cX3_seat 4 none :: ([.fieldLink RX3 24 "TubeWatch$Crowd" "size" "I", .fieldLink RX3 9 "TubeWatch$Crowd" "states" "[I", .fieldLink RX3 15 "TubeWatch$Crowd" "places" "[I", .fieldLink RX3 21 "TubeWatch$Crowd" "endSteps" "[I"] ++ wsX30)
def wsX3_isPerson : List Cond := .code yX3_isPerson cX3_isPerson 2 (some .boolean) :: ([.fieldLink RX3 24 "TubeWatch$Crowd" "size" "I"] ++ wsX30)
def wsX4_nearestWay : List Cond := .code yX4_nearestWay cX4_nearestWay 6 (some .int) :: ([.methodLink RX4 25 Lib.Math.abs.name, .static Lib.Math.abs.name, .initialized "java/lang/Math", .code Lib.Math.abs.name Lib.Math.abs.code 1 (some .int), .fieldLink RX4 15 "TubeWatch$Doors" "open" "[Z"] ++ wsX40)
def wsJ6_compare_7cf53 : List Cond := .code yJ6_compare_7cf53 cJ6_compare_7cf53 2 (some .int) :: ([])
def wsX3_goOn_r1 : List Cond := [Cond.fieldLink RX3 15 "TubeWatch$Crowd" "places" "[I", Cond.fieldLink RX3 9 "TubeWatch$Crowd" "states" "[I", Cond.fieldLink RX3 21 "TubeWatch$Crowd" "endSteps" "[I", Cond.methodLink RX3 38 yX3_isPerson, Cond.instanceMethod yX3_isPerson, Cond.selects RX3 yX3_isPerson yX3_isPerson, Cond.initialized RX3, Cond.code yX3_isPerson cX3_isPerson 2 (some .boolean), Cond.fieldLink RX3 24 "TubeWatch$Crowd" "size" "I", Cond.methodLink RX3 46 yX4_nearestWay, Cond.instanceMethod yX4_nearestWay, Cond.selects RX4 yX4_nearestWay yX4_nearestWay, Cond.initialized RX4, Cond.code yX4_nearestWay cX4_nearestWay 6 (some .int), Cond.methodLink RX4 25 Lib.Math.abs.name, Cond.static Lib.Math.abs.name, Cond.initialized "java/lang/Math", Cond.code Lib.Math.abs.name Lib.Math.abs.code 1 (some .int), Cond.fieldLink RX4 15 "TubeWatch$Doors" "open" "[Z", Cond.methodLink RX3 51 yJ6_compare_7cf53, Cond.static yJ6_compare_7cf53, Cond.initialized RJ6, Cond.code yJ6_compare_7cf53 cJ6_compare_7cf53 2 (some .int), Cond.static yX7_isSegment]
def wsX3_goOn_r2 : List Cond := [Cond.initialized RX7, Cond.code yX7_isSegment cX7_isSegment 1 (some .boolean)]
def wsX3_goOn : List Cond := .code yX3_goOn cX3_goOn 6 none :: ((wsX3_goOn_r1 ++ wsX3_goOn_r2) ++ wsX30 ++ wsX40)
def wsX3_liveOne_r1 : List Cond := [Cond.fieldLink RX3 9 "TubeWatch$Crowd" "states" "[I", Cond.fieldLink RX3 21 "TubeWatch$Crowd" "endSteps" "[I", Cond.fieldLink RX3 18 "TubeWatch$Crowd" "readySteps" "[I", Cond.methodLink RX3 38 yX3_isPerson, Cond.instanceMethod yX3_isPerson, Cond.selects RX3 yX3_isPerson yX3_isPerson, Cond.initialized RX3, Cond.code yX3_isPerson cX3_isPerson 2 (some .boolean), Cond.fieldLink RX3 24 "TubeWatch$Crowd" "size" "I", Cond.methodLink RX3 42 yX3_goOn, Cond.instanceMethod yX3_goOn, Cond.selects RX3 yX3_goOn yX3_goOn, Cond.code yX3_goOn cX3_goOn 6 none, Cond.fieldLink RX3 15 "TubeWatch$Crowd" "places" "[I", Cond.methodLink RX3 46 yX4_nearestWay, Cond.instanceMethod yX4_nearestWay, Cond.selects RX4 yX4_nearestWay yX4_nearestWay, Cond.initialized RX4, Cond.code yX4_nearestWay cX4_nearestWay 6 (some .int), Cond.methodLink RX4 25 Lib.Math.abs.name, Cond.static Lib.Math.abs.name, Cond.initialized "java/lang/Math", Cond.code Lib.Math.abs.name Lib.Math.abs.code 1 (some .int), Cond.fieldLink RX4 15 "TubeWatch$Doors" "open" "[Z"]
def wsX3_liveOne_r2 : List Cond := [Cond.methodLink RX3 51 yJ6_compare_7cf53, Cond.static yJ6_compare_7cf53, Cond.initialized RJ6, Cond.code yJ6_compare_7cf53 cJ6_compare_7cf53 2 (some .int), Cond.static yX7_isSegment, Cond.initialized RX7, Cond.code yX7_isSegment cX7_isSegment 1 (some .boolean)]
def wsX3_liveOne : List Cond := .code yX3_liveOne cX3_liveOne 6 none :: ((wsX3_liveOne_r1 ++ wsX3_liveOne_r2) ++ wsX30 ++ wsX40)
def wsX3_live_r1 : List Cond := [Cond.fieldLink RX3 24 "TubeWatch$Crowd" "size" "I", Cond.fieldLink RX3 9 "TubeWatch$Crowd" "states" "[I", Cond.fieldLink RX3 15 "TubeWatch$Crowd" "places" "[I", Cond.methodLink RX3 28 yX0_smokeIn, Cond.instanceMethod yX0_smokeIn, Cond.selects RX0 yX0_smokeIn yX0_smokeIn, Cond.initialized RX0, Cond.code yX0_smokeIn cX0_smokeIn 2 (some .int), Cond.fieldLink RX0 9 "TubeWatch$Air" "smoke" "[I", Cond.static yX7_isSegment, Cond.initialized RX7, Cond.code yX7_isSegment cX7_isSegment 1 (some .boolean), Cond.methodLink RX3 34 yX3_liveOne, Cond.instanceMethod yX3_liveOne, Cond.selects RX3 yX3_liveOne yX3_liveOne, Cond.initialized RX3, Cond.code yX3_liveOne cX3_liveOne 6 none, Cond.fieldLink RX3 21 "TubeWatch$Crowd" "endSteps" "[I", Cond.fieldLink RX3 18 "TubeWatch$Crowd" "readySteps" "[I", Cond.methodLink RX3 38 yX3_isPerson, Cond.instanceMethod yX3_isPerson, Cond.selects RX3 yX3_isPerson yX3_isPerson, Cond.code yX3_isPerson cX3_isPerson 2 (some .boolean), Cond.methodLink RX3 42 yX3_goOn]
def wsX3_live_r2 : List Cond := [Cond.instanceMethod yX3_goOn, Cond.selects RX3 yX3_goOn yX3_goOn, Cond.code yX3_goOn cX3_goOn 6 none, Cond.methodLink RX3 46 yX4_nearestWay, Cond.instanceMethod yX4_nearestWay, Cond.selects RX4 yX4_nearestWay yX4_nearestWay, Cond.initialized RX4, Cond.code yX4_nearestWay cX4_nearestWay 6 (some .int), Cond.methodLink RX4 25 Lib.Math.abs.name, Cond.static Lib.Math.abs.name, Cond.initialized "java/lang/Math", Cond.code Lib.Math.abs.name Lib.Math.abs.code 1 (some .int), Cond.fieldLink RX4 15 "TubeWatch$Doors" "open" "[Z", Cond.methodLink RX3 51 yJ6_compare_7cf53, Cond.static yJ6_compare_7cf53, Cond.initialized RJ6, Cond.code yJ6_compare_7cf53 cJ6_compare_7cf53 2 (some .int)]
def wsX3_live : List Cond := .code yX3_live cX3_live 6 none :: ((wsX3_live_r1 ++ wsX3_live_r2) ++ wsX30 ++ wsX00 ++ wsX40)
def wsX3_howMany : List Cond := .code yX3_howMany cX3_howMany 4 (some .int) :: ([.fieldLink RX3 24 "TubeWatch$Crowd" "size" "I", .fieldLink RX3 9 "TubeWatch$Crowd" "states" "[I"] ++ wsX30)
def wsX3_insideOf : List Cond := .code yX3_insideOf cX3_insideOf 4 (some .int) :: ([.fieldLink RX3 24 "TubeWatch$Crowd" "size" "I", .fieldLink RX3 15 "TubeWatch$Crowd" "places" "[I"] ++ wsX30)
def wsX3_stateOf : List Cond := .code yX3_stateOf cX3_stateOf 2 (some .int) :: ([.fieldLink RX3 9 "TubeWatch$Crowd" "states" "[I", .methodLink RX3 38 yX3_isPerson, .instanceMethod yX3_isPerson, .selects RX3 yX3_isPerson yX3_isPerson, .initialized RX3, .code yX3_isPerson cX3_isPerson 2 (some .boolean), .fieldLink RX3 24 "TubeWatch$Crowd" "size" "I"] ++ wsX30)
def wsX3_segmentOf : List Cond := .code yX3_segmentOf cX3_segmentOf 2 (some .int) :: ([.fieldLink RX3 15 "TubeWatch$Crowd" "places" "[I", .methodLink RX3 38 yX3_isPerson, .instanceMethod yX3_isPerson, .selects RX3 yX3_isPerson yX3_isPerson, .initialized RX3, .code yX3_isPerson cX3_isPerson 2 (some .boolean), .fieldLink RX3 24 "TubeWatch$Crowd" "size" "I"] ++ wsX30)
def wsX3_endOf : List Cond := .code yX3_endOf cX3_endOf 2 (some .int) :: ([.fieldLink RX3 21 "TubeWatch$Crowd" "endSteps" "[I", .methodLink RX3 38 yX3_isPerson, .instanceMethod yX3_isPerson, .selects RX3 yX3_isPerson yX3_isPerson, .initialized RX3, .code yX3_isPerson cX3_isPerson 2 (some .boolean), .fieldLink RX3 24 "TubeWatch$Crowd" "size" "I"] ++ wsX30)
def wsX3_size : List Cond := .code yX3_size cX3_size 1 (some .int) :: ([.fieldLink RX3 24 "TubeWatch$Crowd" "size" "I"] ++ wsX30)
def wsX4_init : List Cond := .code yX4_init cX4_init 1 none :: ([.methodLink RX4 3 objectInit, .instanceMethod objectInit, .code objectInit ⟨#[0xb1]⟩ 1 none, .arrayClass .boolean, .fieldLink RX4 9 "TubeWatch$Doors" "there" "[Z", .fieldLink RX4 15 "TubeWatch$Doors" "open" "[Z", .fieldLink RX4 18 "TubeWatch$Doors" "failing" "[Z"] ++ wsX40)
def wsX4_place : List Cond := .code yX4_place cX4_place 3 none :: ([.fieldLink RX4 9 "TubeWatch$Doors" "there" "[Z", .fieldLink RX4 15 "TubeWatch$Doors" "open" "[Z", .fieldLink RX4 18 "TubeWatch$Doors" "failing" "[Z"] ++ wsX40)
def wsX4_openAll : List Cond := .code yX4_openAll cX4_openAll 2 none :: ([.fieldLink RX4 9 "TubeWatch$Doors" "there" "[Z", .fieldLink RX4 18 "TubeWatch$Doors" "failing" "[Z", .fieldLink RX4 15 "TubeWatch$Doors" "open" "[Z"] ++ wsX40)
def wsX4_setFailing : List Cond := .code yX4_setFailing cX4_setFailing 3 none :: ([.fieldLink RX4 18 "TubeWatch$Doors" "failing" "[Z", .static yX7_isSegment, .initialized RX7, .code yX7_isSegment cX7_isSegment 1 (some .boolean)] ++ wsX40)
def wsX4_isThere : List Cond := .code yX4_isThere cX4_isThere 2 (some .boolean) :: ([.fieldLink RX4 9 "TubeWatch$Doors" "there" "[Z", .static yX7_isSegment, .initialized RX7, .code yX7_isSegment cX7_isSegment 1 (some .boolean)] ++ wsX40)
def wsX4_isOpen : List Cond := .code yX4_isOpen cX4_isOpen 2 (some .boolean) :: ([.fieldLink RX4 15 "TubeWatch$Doors" "open" "[Z", .static yX7_isSegment, .initialized RX7, .code yX7_isSegment cX7_isSegment 1 (some .boolean)] ++ wsX40)
def wsX5_init : List Cond := .code yX5_init cX5_init 1 none :: ([.methodLink RX5 3 objectInit, .instanceMethod objectInit, .code objectInit ⟨#[0xb1]⟩ 1 none, .arrayClass .int, .fieldLink RX5 9 "TubeWatch$Fans" "orders" "[I", .fieldLink RX5 15 "TubeWatch$Fans" "states" "[I", .arrayClass .boolean, .fieldLink RX5 18 "TubeWatch$Fans" "failing" "[Z"] ++ wsX50)
def wsX5_oneNearer : List Cond := .code yX5_oneNearer cX5_oneNearer 2 (some .int) :: ([.methodLink RX5 26 yJ6_compare_7cf53, .static yJ6_compare_7cf53, .initialized RJ6, .code yJ6_compare_7cf53 cJ6_compare_7cf53 2 (some .int)])
def wsX5_turn : List Cond := .code yX5_turn cX5_turn 3 none :: ([.fieldLink RX5 18 "TubeWatch$Fans" "failing" "[Z", .fieldLink RX5 15 "TubeWatch$Fans" "states" "[I", .fieldLink RX5 9 "TubeWatch$Fans" "orders" "[I", .methodLink RX5 22 yX5_oneNearer, .static yX5_oneNearer, .initialized RX5, .code yX5_oneNearer cX5_oneNearer 2 (some .int), .methodLink RX5 26 yJ6_compare_7cf53, .static yJ6_compare_7cf53, .initialized RJ6, .code yJ6_compare_7cf53 cJ6_compare_7cf53 2 (some .int)] ++ wsX50)
def wsX5_push : List Cond := .code yX5_push cX5_push 3 (some .int) :: ([.fieldLink RX5 15 "TubeWatch$Fans" "states" "[I"] ++ wsX50)
def wsX5_isFan : List Cond := .code yX5_isFan cX5_isFan 1 (some .boolean) :: ([])
def wsX5_order : List Cond := .code yX5_order cX5_order 4 (some .int) :: ([.fieldLink RX5 9 "TubeWatch$Fans" "orders" "[I", .methodLink RX5 31 yX5_isFan, .static yX5_isFan, .initialized RX5, .code yX5_isFan cX5_isFan 1 (some .boolean)] ++ wsX50)
def wsX5_orderAll : List Cond := .code yX5_orderAll cX5_orderAll 3 none :: ([.fieldLink RX5 9 "TubeWatch$Fans" "orders" "[I"] ++ wsX50)
def wsX5_stateOf : List Cond := .code yX5_stateOf cX5_stateOf 2 (some .int) :: ([.fieldLink RX5 15 "TubeWatch$Fans" "states" "[I", .methodLink RX5 31 yX5_isFan, .static yX5_isFan, .initialized RX5, .code yX5_isFan cX5_isFan 1 (some .boolean)] ++ wsX50)
def wsX5_setFailing : List Cond := .code yX5_setFailing cX5_setFailing 3 none :: ([.fieldLink RX5 18 "TubeWatch$Fans" "failing" "[Z", .methodLink RX5 31 yX5_isFan, .static yX5_isFan, .initialized RX5, .code yX5_isFan cX5_isFan 1 (some .boolean)] ++ wsX50)
def wsX6_init : List Cond := .code yX6_init cX6_init 1 none :: ([.methodLink RX6 1 objectInit, .instanceMethod objectInit, .code objectInit ⟨#[0xb1]⟩ 1 none, .fieldLink RX6 7 "TubeWatch$Stream" "speed" "D", .fieldLink RX6 13 "TubeWatch$Stream" "breeze" "I", .fieldLink RX6 17 "TubeWatch$Stream" "isTrafficStopped" "Z"] ++ wsX60)
def wsX6_held : List Cond := .code yX6_held cX6_held 2 (some .double) :: ([.constantDouble RX6 31 (4636033603912859648), .constantDouble RX6 33 (13859405640767635456)])
def wsX6_become : List Cond := .code yX6_become cX6_become 4 none :: ([.constantDouble RX6 21 (4624633867356078080), .fieldLink RX6 13 "TubeWatch$Stream" "breeze" "I", .fieldLink RX6 17 "TubeWatch$Stream" "isTrafficStopped" "Z", .constantDouble RX6 23 (4617315517961601024), .fieldLink RX6 7 "TubeWatch$Stream" "speed" "D", .constantDouble RX6 29 (4616189618054758400), .methodLink RX6 25 yX6_held, .static yX6_held, .initialized RX6, .code yX6_held cX6_held 2 (some .double), .constantDouble RX6 31 (4636033603912859648), .constantDouble RX6 33 (13859405640767635456)] ++ wsX60)
def wsX6_blow : List Cond := .code yX6_blow cX6_blow 3 (some .int) :: ([.fieldLink RX6 13 "TubeWatch$Stream" "breeze" "I"] ++ wsX60)
def wsX6_stopTraffic : List Cond := .code yX6_stopTraffic cX6_stopTraffic 1 none :: ([.fieldLink RX6 17 "TubeWatch$Stream" "isTrafficStopped" "Z"] ++ wsX60)
def wsX6_speed : List Cond := .code yX6_speed cX6_speed 1 (some .double) :: ([.fieldLink RX6 7 "TubeWatch$Stream" "speed" "D"] ++ wsX60)
def wsX7_init_r1 : List Cond := [Cond.methodLink RX7 1 objectInit, Cond.instanceMethod objectInit, Cond.code objectInit ⟨#[0xb1]⟩ 1 none, Cond.classLink RX7 7 RX5, Cond.instantiable RX5 3, Cond.initialized RX5, Cond.fieldLink RX7 10 "TubeWatch" "fans" "LTubeWatch$Fans;", Cond.classLink RX7 16 RX6, Cond.instantiable RX6 3, Cond.initialized RX6, Cond.fieldLink RX7 19 "TubeWatch" "stream" "LTubeWatch$Stream;", Cond.classLink RX7 23 RX0, Cond.instantiable RX0 4, Cond.initialized RX0, Cond.fieldLink RX7 26 "TubeWatch" "air" "LTubeWatch$Air;", Cond.classLink RX7 30 RX1, Cond.instantiable RX1 6, Cond.initialized RX1, Cond.fieldLink RX7 33 "TubeWatch" "blaze" "LTubeWatch$Blaze;", Cond.classLink RX7 37 RX4, Cond.instantiable RX4 3, Cond.initialized RX4, Cond.fieldLink RX7 40 "TubeWatch" "doors" "LTubeWatch$Doors;", Cond.classLink RX7 44 RX2]
def wsX7_init_r2 : List Cond := [Cond.instantiable RX2 6, Cond.initialized RX2, Cond.fieldLink RX7 47 "TubeWatch" "chart" "LTubeWatch$Chart;", Cond.classLink RX7 51 RX3, Cond.instantiable RX3 5, Cond.initialized RX3, Cond.fieldLink RX7 54 "TubeWatch" "crowd" "LTubeWatch$Crowd;", Cond.arrayClass .boolean, Cond.fieldLink RX7 58 "TubeWatch" "downFeeds" "[Z", Cond.fieldLink RX7 62 "TubeWatch" "failingDetectors" "[Z", Cond.fieldLink RX7 65 "TubeWatch" "damperSegment" "I", Cond.fieldLink RX7 69 "TubeWatch" "isDamperOpen" "Z", Cond.fieldLink RX7 73 "TubeWatch" "isTold" "Z", Cond.fieldLink RX7 76 "TubeWatch" "alarmSegment" "I", Cond.fieldLink RX7 79 "TubeWatch" "stepsDone" "I", Cond.instanceMethod yX5_init, Cond.code yX5_init cX5_init 1 none, Cond.methodLink RX5 3 objectInit, Cond.arrayClass .int, Cond.fieldLink RX5 9 "TubeWatch$Fans" "orders" "[I", Cond.fieldLink RX5 15 "TubeWatch$Fans" "states" "[I", Cond.fieldLink RX5 18 "TubeWatch$Fans" "failing" "[Z", Cond.instanceMethod yX6_init, Cond.code yX6_init cX6_init 1 none]
def wsX7_init_r3 : List Cond := [Cond.methodLink RX6 1 objectInit, Cond.fieldLink RX6 7 "TubeWatch$Stream" "speed" "D", Cond.fieldLink RX6 13 "TubeWatch$Stream" "breeze" "I", Cond.fieldLink RX6 17 "TubeWatch$Stream" "isTrafficStopped" "Z", Cond.instanceMethod yX0_init, Cond.code yX0_init cX0_init 1 none, Cond.methodLink RX0 3 objectInit, Cond.fieldLink RX0 9 "TubeWatch$Air" "smoke" "[I", Cond.fieldLink RX0 15 "TubeWatch$Air" "heat" "[I", Cond.fieldLink RX0 18 "TubeWatch$Air" "leaving" "[I", Cond.fieldLink RX0 21 "TubeWatch$Air" "lost" "I", Cond.instanceMethod yX1_init, Cond.code yX1_init cX1_init 1 none, Cond.methodLink RX1 3 objectInit, Cond.fieldLink RX1 9 "TubeWatch$Blaze" "site" "I", Cond.fieldLink RX1 15 "TubeWatch$Blaze" "size" "I", Cond.fieldLink RX1 18 "TubeWatch$Blaze" "age" "J", Cond.fieldLink RX1 22 "TubeWatch$Blaze" "water" "I", Cond.fieldLink RX1 25 "TubeWatch$Blaze" "isFoamOn" "Z", Cond.fieldLink RX1 29 "TubeWatch$Blaze" "made" "I", Cond.instanceMethod yX4_init, Cond.code yX4_init cX4_init 1 none, Cond.methodLink RX4 3 objectInit, Cond.fieldLink RX4 9 "TubeWatch$Doors" "there" "[Z"]
def wsX7_init_r4 : List Cond := [Cond.fieldLink RX4 15 "TubeWatch$Doors" "open" "[Z", Cond.fieldLink RX4 18 "TubeWatch$Doors" "failing" "[Z", Cond.instanceMethod yX2_init, Cond.code yX2_init cX2_init 1 none, Cond.methodLink RX2 3 objectInit, Cond.fieldLink RX2 9 "TubeWatch$Chart" "kinds" "[I", Cond.fieldLink RX2 15 "TubeWatch$Chart" "waits" "[I", Cond.fieldLink RX2 18 "TubeWatch$Chart" "steps" "[I", Cond.fieldLink RX2 21 "TubeWatch$Chart" "size" "I", Cond.fieldLink RX2 25 "TubeWatch$Chart" "next" "I", Cond.fieldLink RX2 28 "TubeWatch$Chart" "since" "I", Cond.instanceMethod yX3_init, Cond.code yX3_init cX3_init 1 none, Cond.methodLink RX3 3 objectInit, Cond.fieldLink RX3 9 "TubeWatch$Crowd" "states" "[I", Cond.fieldLink RX3 15 "TubeWatch$Crowd" "places" "[I", Cond.fieldLink RX3 18 "TubeWatch$Crowd" "readySteps" "[I", Cond.fieldLink RX3 21 "TubeWatch$Crowd" "endSteps" "[I", Cond.fieldLink RX3 24 "TubeWatch$Crowd" "size" "I"]
def wsX7_init : List Cond := .code yX7_init cX7_init 1 none :: ((wsX7_init_r1 ++ (wsX7_init_r2 ++ (wsX7_init_r3 ++ wsX7_init_r4))) ++ wsX50 ++ wsX70 ++ wsX60 ++ wsX00 ++ wsX10 ++ wsX40 ++ wsX20 ++ wsX30)
def wsX7_requireIndex : List Cond := .code yX7_requireIndex cX7_requireIndex 2 none :: ([.classLink RX7 276 "java/lang/IndexOutOfBoundsException", .initialized "java/lang/IndexOutOfBoundsException"] ++ (vx_atS RX7 280 "java/lang/IndexOutOfBoundsException" ["java/lang/RuntimeException", "java/lang/Exception"]).filter goodWord)
def wsX7_requireSegment : List Cond := .code yX7_requireSegment cX7_requireSegment 1 none :: ([.methodLink RX7 120 yX7_requireIndex, .static yX7_requireIndex, .initialized RX7, .code yX7_requireIndex cX7_requireIndex 2 none, .classLink RX7 276 "java/lang/IndexOutOfBoundsException", .initialized "java/lang/IndexOutOfBoundsException"] ++ (vx_atS RX7 280 "java/lang/IndexOutOfBoundsException" ["java/lang/RuntimeException", "java/lang/Exception"]).filter goodWord)
def wsX7_requireRange : List Cond := .code yX7_requireRange cX7_requireRange 3 none :: ([.classLink RX7 285 "java/lang/IllegalArgumentException", .initialized "java/lang/IllegalArgumentException"] ++ (vx_atS RX7 289 "java/lang/IllegalArgumentException" ["java/lang/RuntimeException", "java/lang/Exception"]).filter goodWord)
def wsX7_requireState : List Cond := .code yX7_requireState cX7_requireState 1 none :: ([.classLink RX7 290 "java/lang/IllegalStateException", .initialized "java/lang/IllegalStateException"] ++ (vx_atS RX7 294 "java/lang/IllegalStateException" ["java/lang/RuntimeException", "java/lang/Exception"]).filter goodWord)
def wsX7_build_r1 : List Cond := [Cond.fieldLink RX7 79 "TubeWatch" "stepsDone" "I", Cond.fieldLink RX7 40 "TubeWatch" "doors" "LTubeWatch$Doors;", Cond.fieldLink RX7 65 "TubeWatch" "damperSegment" "I", Cond.fieldLink RX7 69 "TubeWatch" "isDamperOpen" "Z", Cond.methodLink RX7 82 yX7_requireSegment, Cond.static yX7_requireSegment, Cond.initialized RX7, Cond.code yX7_requireSegment cX7_requireSegment 1 none, Cond.methodLink RX7 120 yX7_requireIndex, Cond.static yX7_requireIndex, Cond.code yX7_requireIndex cX7_requireIndex 2 none, Cond.classLink RX7 276 "java/lang/IndexOutOfBoundsException", Cond.initialized "java/lang/IndexOutOfBoundsException", Cond.methodLink RX7 86 yX7_requireRange, Cond.static yX7_requireRange, Cond.code yX7_requireRange cX7_requireRange 3 none, Cond.classLink RX7 285 "java/lang/IllegalArgumentException", Cond.initialized "java/lang/IllegalArgumentException", Cond.methodLink RX7 90 yX7_requireState, Cond.static yX7_requireState, Cond.code yX7_requireState cX7_requireState 1 none, Cond.classLink RX7 290 "java/lang/IllegalStateException", Cond.initialized "java/lang/IllegalStateException", Cond.methodLink RX7 94 yX4_place]
def wsX7_build_r2 : List Cond := [Cond.instanceMethod yX4_place, Cond.selects RX4 yX4_place yX4_place, Cond.initialized RX4, Cond.code yX4_place cX4_place 3 none, Cond.fieldLink RX4 9 "TubeWatch$Doors" "there" "[Z", Cond.fieldLink RX4 15 "TubeWatch$Doors" "open" "[Z", Cond.fieldLink RX4 18 "TubeWatch$Doors" "failing" "[Z"]
def wsX7_build : List Cond := .code yX7_build cX7_build 3 none :: ((wsX7_build_r1 ++ wsX7_build_r2) ++ wsX70 ++ wsX40 ++ (vx_atS RX7 280 "java/lang/IndexOutOfBoundsException" ["java/lang/RuntimeException", "java/lang/Exception"]).filter goodWord ++ (vx_atS RX7 289 "java/lang/IllegalArgumentException" ["java/lang/RuntimeException", "java/lang/Exception"]).filter goodWord ++ (vx_atS RX7 294 "java/lang/IllegalStateException" ["java/lang/RuntimeException", "java/lang/Exception"]).filter goodWord)
def wsX7_people_r1 : List Cond := [Cond.fieldLink RX7 54 "TubeWatch" "crowd" "LTubeWatch$Crowd;", Cond.methodLink RX7 82 yX7_requireSegment, Cond.static yX7_requireSegment, Cond.initialized RX7, Cond.code yX7_requireSegment cX7_requireSegment 1 none, Cond.methodLink RX7 120 yX7_requireIndex, Cond.static yX7_requireIndex, Cond.code yX7_requireIndex cX7_requireIndex 2 none, Cond.classLink RX7 276 "java/lang/IndexOutOfBoundsException", Cond.initialized "java/lang/IndexOutOfBoundsException", Cond.methodLink RX7 86 yX7_requireRange, Cond.static yX7_requireRange, Cond.code yX7_requireRange cX7_requireRange 3 none, Cond.classLink RX7 285 "java/lang/IllegalArgumentException", Cond.initialized "java/lang/IllegalArgumentException", Cond.methodLink RX7 97 yX3_hasRoomFor, Cond.instanceMethod yX3_hasRoomFor, Cond.selects RX3 yX3_hasRoomFor yX3_hasRoomFor, Cond.initialized RX3, Cond.code yX3_hasRoomFor cX3_hasRoomFor 2 (some .boolean), Cond.fieldLink RX3 24 "TubeWatch$Crowd" "size" "I", Cond.methodLink RX7 90 yX7_requireState, Cond.static yX7_requireState, Cond.code yX7_requireState cX7_requireState 1 none]
def wsX7_people_r2 : List Cond := [Cond.classLink RX7 290 "java/lang/IllegalStateException", Cond.initialized "java/lang/IllegalStateException", Cond.methodLink RX7 101 yX3_seat, Cond.instanceMethod yX3_seat, Cond.selects RX3 yX3_seat yX3_seat, Cond.code yX3_seat cX3_seat 4 none, Cond.fieldLink RX3 9 "TubeWatch$Crowd" "states" "[I", Cond.fieldLink RX3 15 "TubeWatch$Crowd" "places" "[I", Cond.fieldLink RX3 21 "TubeWatch$Crowd" "endSteps" "[I", Cond.methodLink RX7 105 yX3_size, Cond.instanceMethod yX3_size, Cond.selects RX3 yX3_size yX3_size, Cond.code yX3_size cX3_size 1 (some .int)]
def wsX7_people : List Cond := .code yX7_people cX7_people 3 (some .int) :: ((wsX7_people_r1 ++ wsX7_people_r2) ++ wsX70 ++ wsX30 ++ (vx_atS RX7 280 "java/lang/IndexOutOfBoundsException" ["java/lang/RuntimeException", "java/lang/Exception"]).filter goodWord ++ (vx_atS RX7 289 "java/lang/IllegalArgumentException" ["java/lang/RuntimeException", "java/lang/Exception"]).filter goodWord ++ (vx_atS RX7 294 "java/lang/IllegalStateException" ["java/lang/RuntimeException", "java/lang/Exception"]).filter goodWord)
def wsX7_wind : List Cond := .code yX7_wind cX7_wind 2 (some .int) :: ([.fieldLink RX7 19 "TubeWatch" "stream" "LTubeWatch$Stream;", .methodLink RX7 86 yX7_requireRange, .static yX7_requireRange, .initialized RX7, .code yX7_requireRange cX7_requireRange 3 none, .classLink RX7 285 "java/lang/IllegalArgumentException", .initialized "java/lang/IllegalArgumentException", .methodLink RX7 109 yX6_blow, .instanceMethod yX6_blow, .selects RX6 yX6_blow yX6_blow, .initialized RX6, .code yX6_blow cX6_blow 3 (some .int), .fieldLink RX6 13 "TubeWatch$Stream" "breeze" "I"] ++ wsX70 ++ wsX60 ++ (vx_atS RX7 289 "java/lang/IllegalArgumentException" ["java/lang/RuntimeException", "java/lang/Exception"]).filter goodWord)
def wsX7_fire_r1 : List Cond := [Cond.fieldLink RX7 33 "TubeWatch" "blaze" "LTubeWatch$Blaze;", Cond.methodLink RX7 82 yX7_requireSegment, Cond.static yX7_requireSegment, Cond.initialized RX7, Cond.code yX7_requireSegment cX7_requireSegment 1 none, Cond.methodLink RX7 120 yX7_requireIndex, Cond.static yX7_requireIndex, Cond.code yX7_requireIndex cX7_requireIndex 2 none, Cond.classLink RX7 276 "java/lang/IndexOutOfBoundsException", Cond.initialized "java/lang/IndexOutOfBoundsException", Cond.methodLink RX7 86 yX7_requireRange, Cond.static yX7_requireRange, Cond.code yX7_requireRange cX7_requireRange 3 none, Cond.classLink RX7 285 "java/lang/IllegalArgumentException", Cond.initialized "java/lang/IllegalArgumentException", Cond.methodLink RX7 113 yX1_isBurning, Cond.instanceMethod yX1_isBurning, Cond.selects RX1 yX1_isBurning yX1_isBurning, Cond.initialized RX1, Cond.code yX1_isBurning cX1_isBurning 1 (some .boolean), Cond.fieldLink RX1 9 "TubeWatch$Blaze" "site" "I", Cond.methodLink RX7 90 yX7_requireState, Cond.static yX7_requireState, Cond.code yX7_requireState cX7_requireState 1 none]
def wsX7_fire_r2 : List Cond := [Cond.classLink RX7 290 "java/lang/IllegalStateException", Cond.initialized "java/lang/IllegalStateException", Cond.methodLink RX7 117 yX1_begin, Cond.instanceMethod yX1_begin, Cond.selects RX1 yX1_begin yX1_begin, Cond.code yX1_begin cX1_begin 3 none, Cond.fieldLink RX1 15 "TubeWatch$Blaze" "size" "I"]
def wsX7_fire : List Cond := .code yX7_fire cX7_fire 3 none :: ((wsX7_fire_r1 ++ wsX7_fire_r2) ++ wsX70 ++ wsX10 ++ (vx_atS RX7 280 "java/lang/IndexOutOfBoundsException" ["java/lang/RuntimeException", "java/lang/Exception"]).filter goodWord ++ (vx_atS RX7 289 "java/lang/IllegalArgumentException" ["java/lang/RuntimeException", "java/lang/Exception"]).filter goodWord ++ (vx_atS RX7 294 "java/lang/IllegalStateException" ["java/lang/RuntimeException", "java/lang/Exception"]).filter goodWord)
def wsX7_hasPower : List Cond := .code yX7_hasPower cX7_hasPower 2 (some .boolean) :: ([.fieldLink RX7 58 "TubeWatch" "downFeeds" "[Z"] ++ wsX70)
def wsX7_feed : List Cond := .code yX7_feed cX7_feed 3 (some .boolean) :: ([.fieldLink RX7 58 "TubeWatch" "downFeeds" "[Z", .methodLink RX7 120 yX7_requireIndex, .static yX7_requireIndex, .initialized RX7, .code yX7_requireIndex cX7_requireIndex 2 none, .classLink RX7 276 "java/lang/IndexOutOfBoundsException", .initialized "java/lang/IndexOutOfBoundsException", .methodLink RX7 123 yX7_hasPower, .instanceMethod yX7_hasPower, .selects RX7 yX7_hasPower yX7_hasPower, .code yX7_hasPower cX7_hasPower 2 (some .boolean)] ++ wsX70 ++ (vx_atS RX7 280 "java/lang/IndexOutOfBoundsException" ["java/lang/RuntimeException", "java/lang/Exception"]).filter goodWord)
def wsX7_failFan : List Cond := .code yX7_failFan cX7_failFan 3 (some .int) :: ([.fieldLink RX7 10 "TubeWatch" "fans" "LTubeWatch$Fans;", .methodLink RX7 120 yX7_requireIndex, .static yX7_requireIndex, .initialized RX7, .code yX7_requireIndex cX7_requireIndex 2 none, .classLink RX7 276 "java/lang/IndexOutOfBoundsException", .initialized "java/lang/IndexOutOfBoundsException", .methodLink RX7 126 yX5_setFailing, .instanceMethod yX5_setFailing, .selects RX5 yX5_setFailing yX5_setFailing, .initialized RX5, .code yX5_setFailing cX5_setFailing 3 none, .fieldLink RX5 18 "TubeWatch$Fans" "failing" "[Z", .methodLink RX5 31 yX5_isFan, .static yX5_isFan, .code yX5_isFan cX5_isFan 1 (some .boolean), .methodLink RX7 130 yX5_stateOf, .instanceMethod yX5_stateOf, .selects RX5 yX5_stateOf yX5_stateOf, .code yX5_stateOf cX5_stateOf 2 (some .int), .fieldLink RX5 15 "TubeWatch$Fans" "states" "[I"] ++ wsX70 ++ wsX50 ++ (vx_atS RX7 280 "java/lang/IndexOutOfBoundsException" ["java/lang/RuntimeException", "java/lang/Exception"]).filter goodWord)
def wsX7_requireDoor : List Cond := .code yX7_requireDoor cX7_requireDoor 2 none :: ([.classLink RX7 276 "java/lang/IndexOutOfBoundsException", .initialized "java/lang/IndexOutOfBoundsException", .fieldLink RX7 40 "TubeWatch" "doors" "LTubeWatch$Doors;", .methodLink RX7 273 yX4_isThere, .instanceMethod yX4_isThere, .selects RX4 yX4_isThere yX4_isThere, .initialized RX4, .code yX4_isThere cX4_isThere 2 (some .boolean), .fieldLink RX4 9 "TubeWatch$Doors" "there" "[Z", .static yX7_isSegment, .initialized RX7, .code yX7_isSegment cX7_isSegment 1 (some .boolean)] ++ wsX70 ++ wsX40 ++ (vx_atS RX7 280 "java/lang/IndexOutOfBoundsException" ["java/lang/RuntimeException", "java/lang/Exception"]).filter goodWord)
def wsX7_failDoor_r1 : List Cond := [Cond.fieldLink RX7 40 "TubeWatch" "doors" "LTubeWatch$Doors;", Cond.methodLink RX7 133 yX7_requireDoor, Cond.instanceMethod yX7_requireDoor, Cond.selects RX7 yX7_requireDoor yX7_requireDoor, Cond.initialized RX7, Cond.code yX7_requireDoor cX7_requireDoor 2 none, Cond.classLink RX7 276 "java/lang/IndexOutOfBoundsException", Cond.initialized "java/lang/IndexOutOfBoundsException", Cond.methodLink RX7 273 yX4_isThere, Cond.instanceMethod yX4_isThere, Cond.selects RX4 yX4_isThere yX4_isThere, Cond.initialized RX4, Cond.code yX4_isThere cX4_isThere 2 (some .boolean), Cond.fieldLink RX4 9 "TubeWatch$Doors" "there" "[Z", Cond.static yX7_isSegment, Cond.code yX7_isSegment cX7_isSegment 1 (some .boolean), Cond.methodLink RX7 136 yX4_setFailing, Cond.instanceMethod yX4_setFailing, Cond.selects RX4 yX4_setFailing yX4_setFailing, Cond.code yX4_setFailing cX4_setFailing 3 none, Cond.fieldLink RX4 18 "TubeWatch$Doors" "failing" "[Z", Cond.methodLink RX7 137 yX4_isOpen, Cond.instanceMethod yX4_isOpen, Cond.selects RX4 yX4_isOpen yX4_isOpen]
def wsX7_failDoor_r2 : List Cond := [Cond.code yX4_isOpen cX4_isOpen 2 (some .boolean), Cond.fieldLink RX4 15 "TubeWatch$Doors" "open" "[Z"]
def wsX7_failDoor : List Cond := .code yX7_failDoor cX7_failDoor 3 (some .boolean) :: ((wsX7_failDoor_r1 ++ wsX7_failDoor_r2) ++ wsX70 ++ wsX40 ++ (vx_atS RX7 280 "java/lang/IndexOutOfBoundsException" ["java/lang/RuntimeException", "java/lang/Exception"]).filter goodWord)
def wsX7_failDetector : List Cond := .code yX7_failDetector cX7_failDetector 4 none :: ([.fieldLink RX7 62 "TubeWatch" "failingDetectors" "[Z", .methodLink RX7 82 yX7_requireSegment, .static yX7_requireSegment, .initialized RX7, .code yX7_requireSegment cX7_requireSegment 1 none, .methodLink RX7 120 yX7_requireIndex, .static yX7_requireIndex, .code yX7_requireIndex cX7_requireIndex 2 none, .classLink RX7 276 "java/lang/IndexOutOfBoundsException", .initialized "java/lang/IndexOutOfBoundsException"] ++ wsX70 ++ (vx_atS RX7 280 "java/lang/IndexOutOfBoundsException" ["java/lang/RuntimeException", "java/lang/Exception"]).filter goodWord)
def wsX7_act_r1 : List Cond := [Cond.fieldLink RX7 76 "TubeWatch" "alarmSegment" "I", Cond.fieldLink RX7 47 "TubeWatch" "chart" "LTubeWatch$Chart;", Cond.methodLink RX7 86 yX7_requireRange, Cond.static yX7_requireRange, Cond.initialized RX7, Cond.code yX7_requireRange cX7_requireRange 3 none, Cond.classLink RX7 285 "java/lang/IllegalArgumentException", Cond.initialized "java/lang/IllegalArgumentException", Cond.methodLink RX7 140 yX2_hasRoom, Cond.instanceMethod yX2_hasRoom, Cond.selects RX2 yX2_hasRoom yX2_hasRoom, Cond.initialized RX2, Cond.code yX2_hasRoom cX2_hasRoom 1 (some .boolean), Cond.fieldLink RX2 21 "TubeWatch$Chart" "size" "I", Cond.methodLink RX7 90 yX7_requireState, Cond.static yX7_requireState, Cond.code yX7_requireState cX7_requireState 1 none, Cond.classLink RX7 290 "java/lang/IllegalStateException", Cond.initialized "java/lang/IllegalStateException", Cond.methodLink RX7 143 yX2_put, Cond.instanceMethod yX2_put, Cond.selects RX2 yX2_put yX2_put, Cond.code yX2_put cX2_put 4 (some .int), Cond.fieldLink RX2 9 "TubeWatch$Chart" "kinds" "[I"]
def wsX7_act_r2 : List Cond := [Cond.fieldLink RX2 15 "TubeWatch$Chart" "waits" "[I", Cond.fieldLink RX2 18 "TubeWatch$Chart" "steps" "[I", Cond.methodLink RX2 31 yX2_hasRoom]
def wsX7_act : List Cond := .code yX7_act cX7_act 4 (some .int) :: ((wsX7_act_r1 ++ wsX7_act_r2) ++ wsX70 ++ wsX20 ++ (vx_atS RX7 289 "java/lang/IllegalArgumentException" ["java/lang/RuntimeException", "java/lang/Exception"]).filter goodWord ++ (vx_atS RX7 294 "java/lang/IllegalStateException" ["java/lang/RuntimeException", "java/lang/Exception"]).filter goodWord)
def wsX7_command : List Cond := .code yX7_command cX7_command 3 (some .int) :: ([.fieldLink RX7 10 "TubeWatch" "fans" "LTubeWatch$Fans;", .methodLink RX7 120 yX7_requireIndex, .static yX7_requireIndex, .initialized RX7, .code yX7_requireIndex cX7_requireIndex 2 none, .classLink RX7 276 "java/lang/IndexOutOfBoundsException", .initialized "java/lang/IndexOutOfBoundsException", .methodLink RX7 86 yX7_requireRange, .static yX7_requireRange, .code yX7_requireRange cX7_requireRange 3 none, .classLink RX7 285 "java/lang/IllegalArgumentException", .initialized "java/lang/IllegalArgumentException", .methodLink RX7 147 yX5_order, .instanceMethod yX5_order, .selects RX5 yX5_order yX5_order, .initialized RX5, .code yX5_order cX5_order 4 (some .int), .fieldLink RX5 9 "TubeWatch$Fans" "orders" "[I", .methodLink RX5 31 yX5_isFan, .static yX5_isFan, .code yX5_isFan cX5_isFan 1 (some .boolean)] ++ wsX70 ++ wsX50 ++ (vx_atS RX7 280 "java/lang/IndexOutOfBoundsException" ["java/lang/RuntimeException", "java/lang/Exception"]).filter goodWord ++ (vx_atS RX7 289 "java/lang/IllegalArgumentException" ["java/lang/RuntimeException", "java/lang/Exception"]).filter goodWord)
def wsX7_burn_r1 : List Cond := [Cond.fieldLink RX7 33 "TubeWatch" "blaze" "LTubeWatch$Blaze;", Cond.fieldLink RX7 26 "TubeWatch" "air" "LTubeWatch$Air;", Cond.methodLink RX7 113 yX1_isBurning, Cond.instanceMethod yX1_isBurning, Cond.selects RX1 yX1_isBurning yX1_isBurning, Cond.initialized RX1, Cond.code yX1_isBurning cX1_isBurning 1 (some .boolean), Cond.fieldLink RX1 9 "TubeWatch$Blaze" "site" "I", Cond.methodLink RX7 223 yX1_place, Cond.instanceMethod yX1_place, Cond.selects RX1 yX1_place yX1_place, Cond.code yX1_place cX1_place 1 (some .int), Cond.methodLink RX7 123 yX7_hasPower, Cond.instanceMethod yX7_hasPower, Cond.selects RX7 yX7_hasPower yX7_hasPower, Cond.initialized RX7, Cond.code yX7_hasPower cX7_hasPower 2 (some .boolean), Cond.fieldLink RX7 58 "TubeWatch" "downFeeds" "[Z", Cond.methodLink RX7 225 yX1_burn, Cond.instanceMethod yX1_burn, Cond.selects RX1 yX1_burn yX1_burn, Cond.code yX1_burn cX1_burn 3 (some .int), Cond.fieldLink RX1 15 "TubeWatch$Blaze" "size" "I", Cond.fieldLink RX1 18 "TubeWatch$Blaze" "age" "J"]
def wsX7_burn_r2 : List Cond := [Cond.constantLong RX1 32 (4), Cond.methodLink RX1 34 Lib.MathLoose.min_long.x, Cond.static Lib.MathLoose.min_long.x, Cond.initialized "java/lang/Math", Cond.code Lib.MathLoose.min_long.x Lib.MathLoose.min_long.code 4 (some .long), Cond.fieldLink RX1 25 "TubeWatch$Blaze" "isFoamOn" "Z", Cond.fieldLink RX1 22 "TubeWatch$Blaze" "water" "I", Cond.fieldLink RX1 29 "TubeWatch$Blaze" "made" "I", Cond.methodLink RX7 228 yX0_feedFrom, Cond.instanceMethod yX0_feedFrom, Cond.selects RX0 yX0_feedFrom yX0_feedFrom, Cond.initialized RX0, Cond.code yX0_feedFrom cX0_feedFrom 3 none, Cond.fieldLink RX0 9 "TubeWatch$Air" "smoke" "[I", Cond.fieldLink RX0 15 "TubeWatch$Air" "heat" "[I", Cond.static yX7_isSegment, Cond.code yX7_isSegment cX7_isSegment 1 (some .boolean)]
def wsX7_burn : List Cond := .code yX7_burn cX7_burn 1 none :: ((wsX7_burn_r1 ++ wsX7_burn_r2) ++ wsX70 ++ wsX10 ++ wsX00)
def wsX7_moveAir_r1 : List Cond := [Cond.fieldLink RX7 26 "TubeWatch" "air" "LTubeWatch$Air;", Cond.fieldLink RX7 19 "TubeWatch" "stream" "LTubeWatch$Stream;", Cond.fieldLink RX7 33 "TubeWatch" "blaze" "LTubeWatch$Blaze;", Cond.fieldLink RX7 69 "TubeWatch" "isDamperOpen" "Z", Cond.fieldLink RX7 65 "TubeWatch" "damperSegment" "I", Cond.methodLink RX7 171 yX6_speed, Cond.instanceMethod yX6_speed, Cond.selects RX6 yX6_speed yX6_speed, Cond.initialized RX6, Cond.code yX6_speed cX6_speed 1 (some .double), Cond.fieldLink RX6 7 "TubeWatch$Stream" "speed" "D", Cond.methodLink RX7 231 yX0_drift, Cond.instanceMethod yX0_drift, Cond.selects RX0 yX0_drift yX0_drift, Cond.initialized RX0, Cond.code yX0_drift cX0_drift 5 none, Cond.fieldLink RX0 18 "TubeWatch$Air" "leaving" "[I", Cond.fieldLink RX0 9 "TubeWatch$Air" "smoke" "[I", Cond.methodLink RX0 29 yX0_withoutSign, Cond.static yX0_withoutSign, Cond.code yX0_withoutSign cX0_withoutSign 2 (some .double), Cond.methodLink RX0 33 yX0_side, Cond.static yX0_side, Cond.code yX0_side cX0_side 2 (some .int)]
def wsX7_moveAir_r2 : List Cond := [Cond.methodLink RX0 37 yX0_shift, Cond.instanceMethod yX0_shift, Cond.selects RX0 yX0_shift yX0_shift, Cond.code yX0_shift cX0_shift 4 none, Cond.fieldLink RX0 21 "TubeWatch$Air" "lost" "I", Cond.static yX7_isSegment, Cond.initialized RX7, Cond.code yX7_isSegment cX7_isSegment 1 (some .boolean), Cond.methodLink RX7 113 yX1_isBurning, Cond.instanceMethod yX1_isBurning, Cond.selects RX1 yX1_isBurning yX1_isBurning, Cond.initialized RX1, Cond.code yX1_isBurning cX1_isBurning 1 (some .boolean), Cond.fieldLink RX1 9 "TubeWatch$Blaze" "site" "I", Cond.methodLink RX7 223 yX1_place, Cond.instanceMethod yX1_place, Cond.selects RX1 yX1_place yX1_place, Cond.code yX1_place cX1_place 1 (some .int), Cond.methodLink RX7 235 yX0_backUp, Cond.instanceMethod yX0_backUp, Cond.selects RX0 yX0_backUp yX0_backUp, Cond.code yX0_backUp cX0_backUp 4 none, Cond.constantDouble RX0 41 (4629137466983448576), Cond.methodLink RX0 43 yX0_smokeIn]
def wsX7_moveAir_r3 : List Cond := [Cond.instanceMethod yX0_smokeIn, Cond.selects RX0 yX0_smokeIn yX0_smokeIn, Cond.code yX0_smokeIn cX0_smokeIn 2 (some .int), Cond.methodLink RX7 239 yX0_drawOff, Cond.instanceMethod yX0_drawOff, Cond.selects RX0 yX0_drawOff yX0_drawOff, Cond.code yX0_drawOff cX0_drawOff 2 none, Cond.methodLink RX7 242 yX0_cool, Cond.instanceMethod yX0_cool, Cond.selects RX0 yX0_cool yX0_cool, Cond.code yX0_cool cX0_cool 2 none, Cond.fieldLink RX0 15 "TubeWatch$Air" "heat" "[I"]
def wsX7_moveAir : List Cond := .code yX7_moveAir cX7_moveAir 1 none :: ((wsX7_moveAir_r1 ++ (wsX7_moveAir_r2 ++ wsX7_moveAir_r3)) ++ wsX70 ++ wsX60 ++ wsX00 ++ wsX10)
def wsX7_detectorWorks : List Cond := .code yX7_detectorWorks cX7_detectorWorks 4 (some .boolean) :: ([.fieldLink RX7 62 "TubeWatch" "failingDetectors" "[Z"] ++ wsX70)
def wsX7_tellingIn_r1 : List Cond := [Cond.fieldLink RX7 26 "TubeWatch" "air" "LTubeWatch$Air;", Cond.fieldLink RX7 54 "TubeWatch" "crowd" "LTubeWatch$Crowd;", Cond.methodLink RX7 154 yX0_smokeIn, Cond.instanceMethod yX0_smokeIn, Cond.selects RX0 yX0_smokeIn yX0_smokeIn, Cond.initialized RX0, Cond.code yX0_smokeIn cX0_smokeIn 2 (some .int), Cond.fieldLink RX0 9 "TubeWatch$Air" "smoke" "[I", Cond.static yX7_isSegment, Cond.initialized RX7, Cond.code yX7_isSegment cX7_isSegment 1 (some .boolean), Cond.methodLink RX7 157 yX0_heatIn, Cond.instanceMethod yX0_heatIn, Cond.selects RX0 yX0_heatIn yX0_heatIn, Cond.code yX0_heatIn cX0_heatIn 2 (some .int), Cond.fieldLink RX0 15 "TubeWatch$Air" "heat" "[I", Cond.methodLink RX7 269 yX7_detectorWorks, Cond.instanceMethod yX7_detectorWorks, Cond.selects RX7 yX7_detectorWorks yX7_detectorWorks, Cond.code yX7_detectorWorks cX7_detectorWorks 4 (some .boolean), Cond.fieldLink RX7 62 "TubeWatch" "failingDetectors" "[Z", Cond.methodLink RX7 163 yX3_insideOf, Cond.instanceMethod yX3_insideOf, Cond.selects RX3 yX3_insideOf yX3_insideOf]
def wsX7_tellingIn_r2 : List Cond := [Cond.initialized RX3, Cond.code yX3_insideOf cX3_insideOf 4 (some .int), Cond.fieldLink RX3 24 "TubeWatch$Crowd" "size" "I", Cond.fieldLink RX3 15 "TubeWatch$Crowd" "places" "[I"]
def wsX7_tellingIn : List Cond := .code yX7_tellingIn cX7_tellingIn 4 (some .int) :: ((wsX7_tellingIn_r1 ++ wsX7_tellingIn_r2) ++ wsX70 ++ wsX00 ++ wsX30)
def wsX7_watch_r1 : List Cond := [Cond.fieldLink RX7 76 "TubeWatch" "alarmSegment" "I", Cond.fieldLink RX7 47 "TubeWatch" "chart" "LTubeWatch$Chart;", Cond.fieldLink RX7 79 "TubeWatch" "stepsDone" "I", Cond.methodLink RX7 160 yX7_tellingIn, Cond.instanceMethod yX7_tellingIn, Cond.selects RX7 yX7_tellingIn yX7_tellingIn, Cond.initialized RX7, Cond.code yX7_tellingIn cX7_tellingIn 4 (some .int), Cond.fieldLink RX7 26 "TubeWatch" "air" "LTubeWatch$Air;", Cond.fieldLink RX7 54 "TubeWatch" "crowd" "LTubeWatch$Crowd;", Cond.methodLink RX7 154 yX0_smokeIn, Cond.instanceMethod yX0_smokeIn, Cond.selects RX0 yX0_smokeIn yX0_smokeIn, Cond.initialized RX0, Cond.code yX0_smokeIn cX0_smokeIn 2 (some .int), Cond.fieldLink RX0 9 "TubeWatch$Air" "smoke" "[I", Cond.static yX7_isSegment, Cond.code yX7_isSegment cX7_isSegment 1 (some .boolean), Cond.methodLink RX7 157 yX0_heatIn, Cond.instanceMethod yX0_heatIn, Cond.selects RX0 yX0_heatIn yX0_heatIn, Cond.code yX0_heatIn cX0_heatIn 2 (some .int), Cond.fieldLink RX0 15 "TubeWatch$Air" "heat" "[I", Cond.methodLink RX7 269 yX7_detectorWorks]
def wsX7_watch_r2 : List Cond := [Cond.instanceMethod yX7_detectorWorks, Cond.selects RX7 yX7_detectorWorks yX7_detectorWorks, Cond.code yX7_detectorWorks cX7_detectorWorks 4 (some .boolean), Cond.fieldLink RX7 62 "TubeWatch" "failingDetectors" "[Z", Cond.methodLink RX7 163 yX3_insideOf, Cond.instanceMethod yX3_insideOf, Cond.selects RX3 yX3_insideOf yX3_insideOf, Cond.initialized RX3, Cond.code yX3_insideOf cX3_insideOf 4 (some .int), Cond.fieldLink RX3 24 "TubeWatch$Crowd" "size" "I", Cond.fieldLink RX3 15 "TubeWatch$Crowd" "places" "[I", Cond.methodLink RX7 245 yX2_start, Cond.instanceMethod yX2_start, Cond.selects RX2 yX2_start yX2_start, Cond.initialized RX2, Cond.code yX2_start cX2_start 2 none, Cond.fieldLink RX2 28 "TubeWatch$Chart" "since" "I"]
def wsX7_watch : List Cond := .code yX7_watch cX7_watch 2 none :: ((wsX7_watch_r1 ++ wsX7_watch_r2) ++ wsX70 ++ wsX00 ++ wsX30 ++ wsX20)
def wsX7_perform_r1 : List Cond := [Cond.fieldLink RX7 19 "TubeWatch" "stream" "LTubeWatch$Stream;", Cond.fieldLink RX7 73 "TubeWatch" "isTold" "Z", Cond.fieldLink RX7 40 "TubeWatch" "doors" "LTubeWatch$Doors;", Cond.fieldLink RX7 10 "TubeWatch" "fans" "LTubeWatch$Fans;", Cond.fieldLink RX7 69 "TubeWatch" "isDamperOpen" "Z", Cond.fieldLink RX7 33 "TubeWatch" "blaze" "LTubeWatch$Blaze;", Cond.methodLink RX7 257 yX6_stopTraffic, Cond.instanceMethod yX6_stopTraffic, Cond.selects RX6 yX6_stopTraffic yX6_stopTraffic, Cond.initialized RX6, Cond.code yX6_stopTraffic cX6_stopTraffic 1 none, Cond.fieldLink RX6 17 "TubeWatch$Stream" "isTrafficStopped" "Z", Cond.methodLink RX7 260 yX4_openAll, Cond.instanceMethod yX4_openAll, Cond.selects RX4 yX4_openAll yX4_openAll, Cond.initialized RX4, Cond.code yX4_openAll cX4_openAll 2 none, Cond.fieldLink RX4 9 "TubeWatch$Doors" "there" "[Z", Cond.fieldLink RX4 18 "TubeWatch$Doors" "failing" "[Z", Cond.fieldLink RX4 15 "TubeWatch$Doors" "open" "[Z", Cond.methodLink RX7 263 yX5_orderAll, Cond.instanceMethod yX5_orderAll, Cond.selects RX5 yX5_orderAll yX5_orderAll, Cond.initialized RX5]
def wsX7_perform_r2 : List Cond := [Cond.code yX5_orderAll cX5_orderAll 3 none, Cond.fieldLink RX5 9 "TubeWatch$Fans" "orders" "[I", Cond.methodLink RX7 266 yX1_turnFoamOn, Cond.instanceMethod yX1_turnFoamOn, Cond.selects RX1 yX1_turnFoamOn yX1_turnFoamOn, Cond.initialized RX1, Cond.code yX1_turnFoamOn cX1_turnFoamOn 1 none, Cond.fieldLink RX1 25 "TubeWatch$Blaze" "isFoamOn" "Z"]
def wsX7_perform : List Cond := .code yX7_perform cX7_perform 2 none :: ((wsX7_perform_r1 ++ wsX7_perform_r2) ++ wsX70 ++ wsX60 ++ wsX40 ++ wsX50 ++ wsX10)
def wsX7_followChart_r1 : List Cond := [Cond.fieldLink RX7 76 "TubeWatch" "alarmSegment" "I", Cond.fieldLink RX7 47 "TubeWatch" "chart" "LTubeWatch$Chart;", Cond.fieldLink RX7 79 "TubeWatch" "stepsDone" "I", Cond.methodLink RX7 248 yX2_isDue, Cond.instanceMethod yX2_isDue, Cond.selects RX2 yX2_isDue yX2_isDue, Cond.initialized RX2, Cond.code yX2_isDue cX2_isDue 2 (some .boolean), Cond.fieldLink RX2 25 "TubeWatch$Chart" "next" "I", Cond.fieldLink RX2 28 "TubeWatch$Chart" "since" "I", Cond.fieldLink RX2 15 "TubeWatch$Chart" "waits" "[I", Cond.methodLink RX2 35 yX2_isAct, Cond.instanceMethod yX2_isAct, Cond.selects RX2 yX2_isAct yX2_isAct, Cond.code yX2_isAct cX2_isAct 2 (some .boolean), Cond.fieldLink RX2 21 "TubeWatch$Chart" "size" "I", Cond.methodLink RX7 251 yX2_finishNext, Cond.instanceMethod yX2_finishNext, Cond.selects RX2 yX2_finishNext yX2_finishNext, Cond.code yX2_finishNext cX2_finishNext 3 (some .int), Cond.fieldLink RX2 9 "TubeWatch$Chart" "kinds" "[I", Cond.fieldLink RX2 18 "TubeWatch$Chart" "steps" "[I", Cond.methodLink RX7 254 yX7_perform, Cond.instanceMethod yX7_perform]
def wsX7_followChart_r2 : List Cond := [Cond.selects RX7 yX7_perform yX7_perform, Cond.initialized RX7, Cond.code yX7_perform cX7_perform 2 none, Cond.fieldLink RX7 19 "TubeWatch" "stream" "LTubeWatch$Stream;", Cond.fieldLink RX7 73 "TubeWatch" "isTold" "Z", Cond.fieldLink RX7 40 "TubeWatch" "doors" "LTubeWatch$Doors;", Cond.fieldLink RX7 10 "TubeWatch" "fans" "LTubeWatch$Fans;", Cond.fieldLink RX7 69 "TubeWatch" "isDamperOpen" "Z", Cond.fieldLink RX7 33 "TubeWatch" "blaze" "LTubeWatch$Blaze;", Cond.methodLink RX7 257 yX6_stopTraffic, Cond.instanceMethod yX6_stopTraffic, Cond.selects RX6 yX6_stopTraffic yX6_stopTraffic, Cond.initialized RX6, Cond.code yX6_stopTraffic cX6_stopTraffic 1 none, Cond.fieldLink RX6 17 "TubeWatch$Stream" "isTrafficStopped" "Z", Cond.methodLink RX7 260 yX4_openAll, Cond.instanceMethod yX4_openAll, Cond.selects RX4 yX4_openAll yX4_openAll, Cond.initialized RX4, Cond.code yX4_openAll cX4_openAll 2 none, Cond.fieldLink RX4 9 "TubeWatch$Doors" "there" "[Z", Cond.fieldLink RX4 18 "TubeWatch$Doors" "failing" "[Z", Cond.fieldLink RX4 15 "TubeWatch$Doors" "open" "[Z", Cond.methodLink RX7 263 yX5_orderAll]
def wsX7_followChart_r3 : List Cond := [Cond.instanceMethod yX5_orderAll, Cond.selects RX5 yX5_orderAll yX5_orderAll, Cond.initialized RX5, Cond.code yX5_orderAll cX5_orderAll 3 none, Cond.fieldLink RX5 9 "TubeWatch$Fans" "orders" "[I", Cond.methodLink RX7 266 yX1_turnFoamOn, Cond.instanceMethod yX1_turnFoamOn, Cond.selects RX1 yX1_turnFoamOn yX1_turnFoamOn, Cond.initialized RX1, Cond.code yX1_turnFoamOn cX1_turnFoamOn 1 none, Cond.fieldLink RX1 25 "TubeWatch$Blaze" "isFoamOn" "Z"]
def wsX7_followChart : List Cond := .code yX7_followChart cX7_followChart 2 none :: ((wsX7_followChart_r1 ++ (wsX7_followChart_r2 ++ wsX7_followChart_r3)) ++ wsX70 ++ wsX20 ++ wsX60 ++ wsX40 ++ wsX50 ++ wsX10)
def wsX7_doStep_r1 : List Cond := [Cond.fieldLink RX7 10 "TubeWatch" "fans" "LTubeWatch$Fans;", Cond.fieldLink RX7 19 "TubeWatch" "stream" "LTubeWatch$Stream;", Cond.fieldLink RX7 54 "TubeWatch" "crowd" "LTubeWatch$Crowd;", Cond.fieldLink RX7 79 "TubeWatch" "stepsDone" "I", Cond.fieldLink RX7 73 "TubeWatch" "isTold" "Z", Cond.fieldLink RX7 26 "TubeWatch" "air" "LTubeWatch$Air;", Cond.fieldLink RX7 40 "TubeWatch" "doors" "LTubeWatch$Doors;", Cond.methodLink RX7 123 yX7_hasPower, Cond.instanceMethod yX7_hasPower, Cond.selects RX7 yX7_hasPower yX7_hasPower, Cond.initialized RX7, Cond.code yX7_hasPower cX7_hasPower 2 (some .boolean), Cond.fieldLink RX7 58 "TubeWatch" "downFeeds" "[Z", Cond.methodLink RX7 198 yX5_turn, Cond.instanceMethod yX5_turn, Cond.selects RX5 yX5_turn yX5_turn, Cond.initialized RX5, Cond.code yX5_turn cX5_turn 3 none, Cond.fieldLink RX5 18 "TubeWatch$Fans" "failing" "[Z", Cond.fieldLink RX5 15 "TubeWatch$Fans" "states" "[I", Cond.fieldLink RX5 9 "TubeWatch$Fans" "orders" "[I", Cond.methodLink RX5 22 yX5_oneNearer, Cond.static yX5_oneNearer, Cond.code yX5_oneNearer cX5_oneNearer 2 (some .int)]
def wsX7_doStep_r2 : List Cond := [Cond.methodLink RX5 26 yJ6_compare_7cf53, Cond.static yJ6_compare_7cf53, Cond.initialized RJ6, Cond.code yJ6_compare_7cf53 cJ6_compare_7cf53 2 (some .int), Cond.methodLink RX7 201 yX5_push, Cond.instanceMethod yX5_push, Cond.selects RX5 yX5_push yX5_push, Cond.code yX5_push cX5_push 3 (some .int), Cond.methodLink RX7 204 yX6_become, Cond.instanceMethod yX6_become, Cond.selects RX6 yX6_become yX6_become, Cond.initialized RX6, Cond.code yX6_become cX6_become 4 none, Cond.constantDouble RX6 21 (4624633867356078080), Cond.fieldLink RX6 13 "TubeWatch$Stream" "breeze" "I", Cond.fieldLink RX6 17 "TubeWatch$Stream" "isTrafficStopped" "Z", Cond.constantDouble RX6 23 (4617315517961601024), Cond.fieldLink RX6 7 "TubeWatch$Stream" "speed" "D", Cond.constantDouble RX6 29 (4616189618054758400), Cond.methodLink RX6 25 yX6_held, Cond.static yX6_held, Cond.code yX6_held cX6_held 2 (some .double), Cond.constantDouble RX6 31 (4636033603912859648), Cond.constantDouble RX6 33 (13859405640767635456)]
def wsX7_doStep_r3 : List Cond := [Cond.methodLink RX7 207 yX7_burn, Cond.instanceMethod yX7_burn, Cond.selects RX7 yX7_burn yX7_burn, Cond.code yX7_burn cX7_burn 1 none, Cond.fieldLink RX7 33 "TubeWatch" "blaze" "LTubeWatch$Blaze;", Cond.methodLink RX7 113 yX1_isBurning, Cond.instanceMethod yX1_isBurning, Cond.selects RX1 yX1_isBurning yX1_isBurning, Cond.initialized RX1, Cond.code yX1_isBurning cX1_isBurning 1 (some .boolean), Cond.fieldLink RX1 9 "TubeWatch$Blaze" "site" "I", Cond.methodLink RX7 223 yX1_place, Cond.instanceMethod yX1_place, Cond.selects RX1 yX1_place yX1_place, Cond.code yX1_place cX1_place 1 (some .int), Cond.methodLink RX7 225 yX1_burn, Cond.instanceMethod yX1_burn, Cond.selects RX1 yX1_burn yX1_burn, Cond.code yX1_burn cX1_burn 3 (some .int), Cond.fieldLink RX1 15 "TubeWatch$Blaze" "size" "I", Cond.fieldLink RX1 18 "TubeWatch$Blaze" "age" "J", Cond.constantLong RX1 32 (4), Cond.methodLink RX1 34 Lib.MathLoose.min_long.x, Cond.static Lib.MathLoose.min_long.x]
def wsX7_doStep_r4 : List Cond := [Cond.initialized "java/lang/Math", Cond.code Lib.MathLoose.min_long.x Lib.MathLoose.min_long.code 4 (some .long), Cond.fieldLink RX1 25 "TubeWatch$Blaze" "isFoamOn" "Z", Cond.fieldLink RX1 22 "TubeWatch$Blaze" "water" "I", Cond.fieldLink RX1 29 "TubeWatch$Blaze" "made" "I", Cond.methodLink RX7 228 yX0_feedFrom, Cond.instanceMethod yX0_feedFrom, Cond.selects RX0 yX0_feedFrom yX0_feedFrom, Cond.initialized RX0, Cond.code yX0_feedFrom cX0_feedFrom 3 none, Cond.fieldLink RX0 9 "TubeWatch$Air" "smoke" "[I", Cond.fieldLink RX0 15 "TubeWatch$Air" "heat" "[I", Cond.static yX7_isSegment, Cond.code yX7_isSegment cX7_isSegment 1 (some .boolean), Cond.methodLink RX7 210 yX7_moveAir, Cond.instanceMethod yX7_moveAir, Cond.selects RX7 yX7_moveAir yX7_moveAir, Cond.code yX7_moveAir cX7_moveAir 1 none, Cond.fieldLink RX7 69 "TubeWatch" "isDamperOpen" "Z", Cond.fieldLink RX7 65 "TubeWatch" "damperSegment" "I", Cond.methodLink RX7 171 yX6_speed, Cond.instanceMethod yX6_speed, Cond.selects RX6 yX6_speed yX6_speed, Cond.code yX6_speed cX6_speed 1 (some .double)]
def wsX7_doStep_r5 : List Cond := [Cond.methodLink RX7 231 yX0_drift, Cond.instanceMethod yX0_drift, Cond.selects RX0 yX0_drift yX0_drift, Cond.code yX0_drift cX0_drift 5 none, Cond.fieldLink RX0 18 "TubeWatch$Air" "leaving" "[I", Cond.methodLink RX0 29 yX0_withoutSign, Cond.static yX0_withoutSign, Cond.code yX0_withoutSign cX0_withoutSign 2 (some .double), Cond.methodLink RX0 33 yX0_side, Cond.static yX0_side, Cond.code yX0_side cX0_side 2 (some .int), Cond.methodLink RX0 37 yX0_shift, Cond.instanceMethod yX0_shift, Cond.selects RX0 yX0_shift yX0_shift, Cond.code yX0_shift cX0_shift 4 none, Cond.fieldLink RX0 21 "TubeWatch$Air" "lost" "I", Cond.methodLink RX7 235 yX0_backUp, Cond.instanceMethod yX0_backUp, Cond.selects RX0 yX0_backUp yX0_backUp, Cond.code yX0_backUp cX0_backUp 4 none, Cond.constantDouble RX0 41 (4629137466983448576), Cond.methodLink RX0 43 yX0_smokeIn, Cond.instanceMethod yX0_smokeIn, Cond.selects RX0 yX0_smokeIn yX0_smokeIn]
def wsX7_doStep_r6 : List Cond := [Cond.code yX0_smokeIn cX0_smokeIn 2 (some .int), Cond.methodLink RX7 239 yX0_drawOff, Cond.instanceMethod yX0_drawOff, Cond.selects RX0 yX0_drawOff yX0_drawOff, Cond.code yX0_drawOff cX0_drawOff 2 none, Cond.methodLink RX7 242 yX0_cool, Cond.instanceMethod yX0_cool, Cond.selects RX0 yX0_cool yX0_cool, Cond.code yX0_cool cX0_cool 2 none, Cond.methodLink RX7 213 yX7_watch, Cond.instanceMethod yX7_watch, Cond.selects RX7 yX7_watch yX7_watch, Cond.code yX7_watch cX7_watch 2 none, Cond.fieldLink RX7 76 "TubeWatch" "alarmSegment" "I", Cond.fieldLink RX7 47 "TubeWatch" "chart" "LTubeWatch$Chart;", Cond.methodLink RX7 160 yX7_tellingIn, Cond.instanceMethod yX7_tellingIn, Cond.selects RX7 yX7_tellingIn yX7_tellingIn, Cond.code yX7_tellingIn cX7_tellingIn 4 (some .int), Cond.methodLink RX7 154 yX0_smokeIn, Cond.methodLink RX7 157 yX0_heatIn, Cond.instanceMethod yX0_heatIn, Cond.selects RX0 yX0_heatIn yX0_heatIn, Cond.code yX0_heatIn cX0_heatIn 2 (some .int)]
def wsX7_doStep_r7 : List Cond := [Cond.methodLink RX7 269 yX7_detectorWorks, Cond.instanceMethod yX7_detectorWorks, Cond.selects RX7 yX7_detectorWorks yX7_detectorWorks, Cond.code yX7_detectorWorks cX7_detectorWorks 4 (some .boolean), Cond.fieldLink RX7 62 "TubeWatch" "failingDetectors" "[Z", Cond.methodLink RX7 163 yX3_insideOf, Cond.instanceMethod yX3_insideOf, Cond.selects RX3 yX3_insideOf yX3_insideOf, Cond.initialized RX3, Cond.code yX3_insideOf cX3_insideOf 4 (some .int), Cond.fieldLink RX3 24 "TubeWatch$Crowd" "size" "I", Cond.fieldLink RX3 15 "TubeWatch$Crowd" "places" "[I", Cond.methodLink RX7 245 yX2_start, Cond.instanceMethod yX2_start, Cond.selects RX2 yX2_start yX2_start, Cond.initialized RX2, Cond.code yX2_start cX2_start 2 none, Cond.fieldLink RX2 28 "TubeWatch$Chart" "since" "I", Cond.methodLink RX7 216 yX7_followChart, Cond.instanceMethod yX7_followChart, Cond.selects RX7 yX7_followChart yX7_followChart, Cond.code yX7_followChart cX7_followChart 2 none, Cond.methodLink RX7 248 yX2_isDue, Cond.instanceMethod yX2_isDue]
def wsX7_doStep_r8 : List Cond := [Cond.selects RX2 yX2_isDue yX2_isDue, Cond.code yX2_isDue cX2_isDue 2 (some .boolean), Cond.fieldLink RX2 25 "TubeWatch$Chart" "next" "I", Cond.fieldLink RX2 15 "TubeWatch$Chart" "waits" "[I", Cond.methodLink RX2 35 yX2_isAct, Cond.instanceMethod yX2_isAct, Cond.selects RX2 yX2_isAct yX2_isAct, Cond.code yX2_isAct cX2_isAct 2 (some .boolean), Cond.fieldLink RX2 21 "TubeWatch$Chart" "size" "I", Cond.methodLink RX7 251 yX2_finishNext, Cond.instanceMethod yX2_finishNext, Cond.selects RX2 yX2_finishNext yX2_finishNext, Cond.code yX2_finishNext cX2_finishNext 3 (some .int), Cond.fieldLink RX2 9 "TubeWatch$Chart" "kinds" "[I", Cond.fieldLink RX2 18 "TubeWatch$Chart" "steps" "[I", Cond.methodLink RX7 254 yX7_perform, Cond.instanceMethod yX7_perform, Cond.selects RX7 yX7_perform yX7_perform, Cond.code yX7_perform cX7_perform 2 none, Cond.methodLink RX7 257 yX6_stopTraffic, Cond.instanceMethod yX6_stopTraffic, Cond.selects RX6 yX6_stopTraffic yX6_stopTraffic, Cond.code yX6_stopTraffic cX6_stopTraffic 1 none, Cond.methodLink RX7 260 yX4_openAll]
def wsX7_doStep_r9 : List Cond := [Cond.instanceMethod yX4_openAll, Cond.selects RX4 yX4_openAll yX4_openAll, Cond.initialized RX4, Cond.code yX4_openAll cX4_openAll 2 none, Cond.fieldLink RX4 9 "TubeWatch$Doors" "there" "[Z", Cond.fieldLink RX4 18 "TubeWatch$Doors" "failing" "[Z", Cond.fieldLink RX4 15 "TubeWatch$Doors" "open" "[Z", Cond.methodLink RX7 263 yX5_orderAll, Cond.instanceMethod yX5_orderAll, Cond.selects RX5 yX5_orderAll yX5_orderAll, Cond.code yX5_orderAll cX5_orderAll 3 none, Cond.methodLink RX7 266 yX1_turnFoamOn, Cond.instanceMethod yX1_turnFoamOn, Cond.selects RX1 yX1_turnFoamOn yX1_turnFoamOn, Cond.code yX1_turnFoamOn cX1_turnFoamOn 1 none, Cond.methodLink RX7 219 yX3_live, Cond.instanceMethod yX3_live, Cond.selects RX3 yX3_live yX3_live, Cond.code yX3_live cX3_live 6 none, Cond.fieldLink RX3 9 "TubeWatch$Crowd" "states" "[I", Cond.methodLink RX3 28 yX0_smokeIn, Cond.methodLink RX3 34 yX3_liveOne, Cond.instanceMethod yX3_liveOne, Cond.selects RX3 yX3_liveOne yX3_liveOne]
def wsX7_doStep_r10 : List Cond := [Cond.code yX3_liveOne cX3_liveOne 6 none, Cond.fieldLink RX3 21 "TubeWatch$Crowd" "endSteps" "[I", Cond.fieldLink RX3 18 "TubeWatch$Crowd" "readySteps" "[I", Cond.methodLink RX3 38 yX3_isPerson, Cond.instanceMethod yX3_isPerson, Cond.selects RX3 yX3_isPerson yX3_isPerson, Cond.code yX3_isPerson cX3_isPerson 2 (some .boolean), Cond.methodLink RX3 42 yX3_goOn, Cond.instanceMethod yX3_goOn, Cond.selects RX3 yX3_goOn yX3_goOn, Cond.code yX3_goOn cX3_goOn 6 none, Cond.methodLink RX3 46 yX4_nearestWay, Cond.instanceMethod yX4_nearestWay, Cond.selects RX4 yX4_nearestWay yX4_nearestWay, Cond.code yX4_nearestWay cX4_nearestWay 6 (some .int), Cond.methodLink RX4 25 Lib.Math.abs.name, Cond.static Lib.Math.abs.name, Cond.code Lib.Math.abs.name Lib.Math.abs.code 1 (some .int), Cond.methodLink RX3 51 yJ6_compare_7cf53]
def wsX7_doStep : List Cond := .code yX7_doStep cX7_doStep 1 none :: ((wsX7_doStep_r1 ++ (wsX7_doStep_r2 ++ (wsX7_doStep_r3 ++ (wsX7_doStep_r4 ++ (wsX7_doStep_r5 ++ (wsX7_doStep_r6 ++ (wsX7_doStep_r7 ++ (wsX7_doStep_r8 ++ (wsX7_doStep_r9 ++ wsX7_doStep_r10))))))))) ++ wsX70 ++ wsX50 ++ wsX60 ++ wsX10 ++ wsX00 ++ wsX30 ++ wsX20 ++ wsX40)
def wsX7_step_r1 : List Cond := [Cond.fieldLink RX7 79 "TubeWatch" "stepsDone" "I", Cond.methodLink RX7 86 yX7_requireRange, Cond.static yX7_requireRange, Cond.initialized RX7, Cond.code yX7_requireRange cX7_requireRange 3 none, Cond.classLink RX7 285 "java/lang/IllegalArgumentException", Cond.initialized "java/lang/IllegalArgumentException", Cond.methodLink RX7 151 yX7_doStep, Cond.instanceMethod yX7_doStep, Cond.selects RX7 yX7_doStep yX7_doStep, Cond.code yX7_doStep cX7_doStep 1 none, Cond.fieldLink RX7 10 "TubeWatch" "fans" "LTubeWatch$Fans;", Cond.fieldLink RX7 19 "TubeWatch" "stream" "LTubeWatch$Stream;", Cond.fieldLink RX7 54 "TubeWatch" "crowd" "LTubeWatch$Crowd;", Cond.fieldLink RX7 73 "TubeWatch" "isTold" "Z", Cond.fieldLink RX7 26 "TubeWatch" "air" "LTubeWatch$Air;", Cond.fieldLink RX7 40 "TubeWatch" "doors" "LTubeWatch$Doors;", Cond.methodLink RX7 123 yX7_hasPower, Cond.instanceMethod yX7_hasPower, Cond.selects RX7 yX7_hasPower yX7_hasPower, Cond.code yX7_hasPower cX7_hasPower 2 (some .boolean), Cond.fieldLink RX7 58 "TubeWatch" "downFeeds" "[Z", Cond.methodLink RX7 198 yX5_turn, Cond.instanceMethod yX5_turn]
def wsX7_step_r2 : List Cond := [Cond.selects RX5 yX5_turn yX5_turn, Cond.initialized RX5, Cond.code yX5_turn cX5_turn 3 none, Cond.fieldLink RX5 18 "TubeWatch$Fans" "failing" "[Z", Cond.fieldLink RX5 15 "TubeWatch$Fans" "states" "[I", Cond.fieldLink RX5 9 "TubeWatch$Fans" "orders" "[I", Cond.methodLink RX5 22 yX5_oneNearer, Cond.static yX5_oneNearer, Cond.code yX5_oneNearer cX5_oneNearer 2 (some .int), Cond.methodLink RX5 26 yJ6_compare_7cf53, Cond.static yJ6_compare_7cf53, Cond.initialized RJ6, Cond.code yJ6_compare_7cf53 cJ6_compare_7cf53 2 (some .int), Cond.methodLink RX7 201 yX5_push, Cond.instanceMethod yX5_push, Cond.selects RX5 yX5_push yX5_push, Cond.code yX5_push cX5_push 3 (some .int), Cond.methodLink RX7 204 yX6_become, Cond.instanceMethod yX6_become, Cond.selects RX6 yX6_become yX6_become, Cond.initialized RX6, Cond.code yX6_become cX6_become 4 none, Cond.constantDouble RX6 21 (4624633867356078080), Cond.fieldLink RX6 13 "TubeWatch$Stream" "breeze" "I"]
def wsX7_step_r3 : List Cond := [Cond.fieldLink RX6 17 "TubeWatch$Stream" "isTrafficStopped" "Z", Cond.constantDouble RX6 23 (4617315517961601024), Cond.fieldLink RX6 7 "TubeWatch$Stream" "speed" "D", Cond.constantDouble RX6 29 (4616189618054758400), Cond.methodLink RX6 25 yX6_held, Cond.static yX6_held, Cond.code yX6_held cX6_held 2 (some .double), Cond.constantDouble RX6 31 (4636033603912859648), Cond.constantDouble RX6 33 (13859405640767635456), Cond.methodLink RX7 207 yX7_burn, Cond.instanceMethod yX7_burn, Cond.selects RX7 yX7_burn yX7_burn, Cond.code yX7_burn cX7_burn 1 none, Cond.fieldLink RX7 33 "TubeWatch" "blaze" "LTubeWatch$Blaze;", Cond.methodLink RX7 113 yX1_isBurning, Cond.instanceMethod yX1_isBurning, Cond.selects RX1 yX1_isBurning yX1_isBurning, Cond.initialized RX1, Cond.code yX1_isBurning cX1_isBurning 1 (some .boolean), Cond.fieldLink RX1 9 "TubeWatch$Blaze" "site" "I", Cond.methodLink RX7 223 yX1_place, Cond.instanceMethod yX1_place, Cond.selects RX1 yX1_place yX1_place, Cond.code yX1_place cX1_place 1 (some .int)]
def wsX7_step_r4 : List Cond := [Cond.methodLink RX7 225 yX1_burn, Cond.instanceMethod yX1_burn, Cond.selects RX1 yX1_burn yX1_burn, Cond.code yX1_burn cX1_burn 3 (some .int), Cond.fieldLink RX1 15 "TubeWatch$Blaze" "size" "I", Cond.fieldLink RX1 18 "TubeWatch$Blaze" "age" "J", Cond.constantLong RX1 32 (4), Cond.methodLink RX1 34 Lib.MathLoose.min_long.x, Cond.static Lib.MathLoose.min_long.x, Cond.initialized "java/lang/Math", Cond.code Lib.MathLoose.min_long.x Lib.MathLoose.min_long.code 4 (some .long), Cond.fieldLink RX1 25 "TubeWatch$Blaze" "isFoamOn" "Z", Cond.fieldLink RX1 22 "TubeWatch$Blaze" "water" "I", Cond.fieldLink RX1 29 "TubeWatch$Blaze" "made" "I", Cond.methodLink RX7 228 yX0_feedFrom, Cond.instanceMethod yX0_feedFrom, Cond.selects RX0 yX0_feedFrom yX0_feedFrom, Cond.initialized RX0, Cond.code yX0_feedFrom cX0_feedFrom 3 none, Cond.fieldLink RX0 9 "TubeWatch$Air" "smoke" "[I", Cond.fieldLink RX0 15 "TubeWatch$Air" "heat" "[I", Cond.static yX7_isSegment, Cond.code yX7_isSegment cX7_isSegment 1 (some .boolean), Cond.methodLink RX7 210 yX7_moveAir]
def wsX7_step_r5 : List Cond := [Cond.instanceMethod yX7_moveAir, Cond.selects RX7 yX7_moveAir yX7_moveAir, Cond.code yX7_moveAir cX7_moveAir 1 none, Cond.fieldLink RX7 69 "TubeWatch" "isDamperOpen" "Z", Cond.fieldLink RX7 65 "TubeWatch" "damperSegment" "I", Cond.methodLink RX7 171 yX6_speed, Cond.instanceMethod yX6_speed, Cond.selects RX6 yX6_speed yX6_speed, Cond.code yX6_speed cX6_speed 1 (some .double), Cond.methodLink RX7 231 yX0_drift, Cond.instanceMethod yX0_drift, Cond.selects RX0 yX0_drift yX0_drift, Cond.code yX0_drift cX0_drift 5 none, Cond.fieldLink RX0 18 "TubeWatch$Air" "leaving" "[I", Cond.methodLink RX0 29 yX0_withoutSign, Cond.static yX0_withoutSign, Cond.code yX0_withoutSign cX0_withoutSign 2 (some .double), Cond.methodLink RX0 33 yX0_side, Cond.static yX0_side, Cond.code yX0_side cX0_side 2 (some .int), Cond.methodLink RX0 37 yX0_shift, Cond.instanceMethod yX0_shift, Cond.selects RX0 yX0_shift yX0_shift, Cond.code yX0_shift cX0_shift 4 none]
def wsX7_step_r6 : List Cond := [Cond.fieldLink RX0 21 "TubeWatch$Air" "lost" "I", Cond.methodLink RX7 235 yX0_backUp, Cond.instanceMethod yX0_backUp, Cond.selects RX0 yX0_backUp yX0_backUp, Cond.code yX0_backUp cX0_backUp 4 none, Cond.constantDouble RX0 41 (4629137466983448576), Cond.methodLink RX0 43 yX0_smokeIn, Cond.instanceMethod yX0_smokeIn, Cond.selects RX0 yX0_smokeIn yX0_smokeIn, Cond.code yX0_smokeIn cX0_smokeIn 2 (some .int), Cond.methodLink RX7 239 yX0_drawOff, Cond.instanceMethod yX0_drawOff, Cond.selects RX0 yX0_drawOff yX0_drawOff, Cond.code yX0_drawOff cX0_drawOff 2 none, Cond.methodLink RX7 242 yX0_cool, Cond.instanceMethod yX0_cool, Cond.selects RX0 yX0_cool yX0_cool, Cond.code yX0_cool cX0_cool 2 none, Cond.methodLink RX7 213 yX7_watch, Cond.instanceMethod yX7_watch, Cond.selects RX7 yX7_watch yX7_watch, Cond.code yX7_watch cX7_watch 2 none, Cond.fieldLink RX7 76 "TubeWatch" "alarmSegment" "I", Cond.fieldLink RX7 47 "TubeWatch" "chart" "LTubeWatch$Chart;"]
def wsX7_step_r7 : List Cond := [Cond.methodLink RX7 160 yX7_tellingIn, Cond.instanceMethod yX7_tellingIn, Cond.selects RX7 yX7_tellingIn yX7_tellingIn, Cond.code yX7_tellingIn cX7_tellingIn 4 (some .int), Cond.methodLink RX7 154 yX0_smokeIn, Cond.methodLink RX7 157 yX0_heatIn, Cond.instanceMethod yX0_heatIn, Cond.selects RX0 yX0_heatIn yX0_heatIn, Cond.code yX0_heatIn cX0_heatIn 2 (some .int), Cond.methodLink RX7 269 yX7_detectorWorks, Cond.instanceMethod yX7_detectorWorks, Cond.selects RX7 yX7_detectorWorks yX7_detectorWorks, Cond.code yX7_detectorWorks cX7_detectorWorks 4 (some .boolean), Cond.fieldLink RX7 62 "TubeWatch" "failingDetectors" "[Z", Cond.methodLink RX7 163 yX3_insideOf, Cond.instanceMethod yX3_insideOf, Cond.selects RX3 yX3_insideOf yX3_insideOf, Cond.initialized RX3, Cond.code yX3_insideOf cX3_insideOf 4 (some .int), Cond.fieldLink RX3 24 "TubeWatch$Crowd" "size" "I", Cond.fieldLink RX3 15 "TubeWatch$Crowd" "places" "[I", Cond.methodLink RX7 245 yX2_start, Cond.instanceMethod yX2_start, Cond.selects RX2 yX2_start yX2_start]
def wsX7_step_r8 : List Cond := [Cond.initialized RX2, Cond.code yX2_start cX2_start 2 none, Cond.fieldLink RX2 28 "TubeWatch$Chart" "since" "I", Cond.methodLink RX7 216 yX7_followChart, Cond.instanceMethod yX7_followChart, Cond.selects RX7 yX7_followChart yX7_followChart, Cond.code yX7_followChart cX7_followChart 2 none, Cond.methodLink RX7 248 yX2_isDue, Cond.instanceMethod yX2_isDue, Cond.selects RX2 yX2_isDue yX2_isDue, Cond.code yX2_isDue cX2_isDue 2 (some .boolean), Cond.fieldLink RX2 25 "TubeWatch$Chart" "next" "I", Cond.fieldLink RX2 15 "TubeWatch$Chart" "waits" "[I", Cond.methodLink RX2 35 yX2_isAct, Cond.instanceMethod yX2_isAct, Cond.selects RX2 yX2_isAct yX2_isAct, Cond.code yX2_isAct cX2_isAct 2 (some .boolean), Cond.fieldLink RX2 21 "TubeWatch$Chart" "size" "I", Cond.methodLink RX7 251 yX2_finishNext, Cond.instanceMethod yX2_finishNext, Cond.selects RX2 yX2_finishNext yX2_finishNext, Cond.code yX2_finishNext cX2_finishNext 3 (some .int), Cond.fieldLink RX2 9 "TubeWatch$Chart" "kinds" "[I", Cond.fieldLink RX2 18 "TubeWatch$Chart" "steps" "[I"]
def wsX7_step_r9 : List Cond := [Cond.methodLink RX7 254 yX7_perform, Cond.instanceMethod yX7_perform, Cond.selects RX7 yX7_perform yX7_perform, Cond.code yX7_perform cX7_perform 2 none, Cond.methodLink RX7 257 yX6_stopTraffic, Cond.instanceMethod yX6_stopTraffic, Cond.selects RX6 yX6_stopTraffic yX6_stopTraffic, Cond.code yX6_stopTraffic cX6_stopTraffic 1 none, Cond.methodLink RX7 260 yX4_openAll, Cond.instanceMethod yX4_openAll, Cond.selects RX4 yX4_openAll yX4_openAll, Cond.initialized RX4, Cond.code yX4_openAll cX4_openAll 2 none, Cond.fieldLink RX4 9 "TubeWatch$Doors" "there" "[Z", Cond.fieldLink RX4 18 "TubeWatch$Doors" "failing" "[Z", Cond.fieldLink RX4 15 "TubeWatch$Doors" "open" "[Z", Cond.methodLink RX7 263 yX5_orderAll, Cond.instanceMethod yX5_orderAll, Cond.selects RX5 yX5_orderAll yX5_orderAll, Cond.code yX5_orderAll cX5_orderAll 3 none, Cond.methodLink RX7 266 yX1_turnFoamOn, Cond.instanceMethod yX1_turnFoamOn, Cond.selects RX1 yX1_turnFoamOn yX1_turnFoamOn, Cond.code yX1_turnFoamOn cX1_turnFoamOn 1 none]
def wsX7_step_r10 : List Cond := [Cond.methodLink RX7 219 yX3_live, Cond.instanceMethod yX3_live, Cond.selects RX3 yX3_live yX3_live, Cond.code yX3_live cX3_live 6 none, Cond.fieldLink RX3 9 "TubeWatch$Crowd" "states" "[I", Cond.methodLink RX3 28 yX0_smokeIn, Cond.methodLink RX3 34 yX3_liveOne, Cond.instanceMethod yX3_liveOne, Cond.selects RX3 yX3_liveOne yX3_liveOne, Cond.code yX3_liveOne cX3_liveOne 6 none, Cond.fieldLink RX3 21 "TubeWatch$Crowd" "endSteps" "[I", Cond.fieldLink RX3 18 "TubeWatch$Crowd" "readySteps" "[I", Cond.methodLink RX3 38 yX3_isPerson, Cond.instanceMethod yX3_isPerson, Cond.selects RX3 yX3_isPerson yX3_isPerson, Cond.code yX3_isPerson cX3_isPerson 2 (some .boolean), Cond.methodLink RX3 42 yX3_goOn, Cond.instanceMethod yX3_goOn, Cond.selects RX3 yX3_goOn yX3_goOn, Cond.code yX3_goOn cX3_goOn 6 none, Cond.methodLink RX3 46 yX4_nearestWay, Cond.instanceMethod yX4_nearestWay, Cond.selects RX4 yX4_nearestWay yX4_nearestWay, Cond.code yX4_nearestWay cX4_nearestWay 6 (some .int)]
def wsX7_step_r11 : List Cond := [Cond.methodLink RX4 25 Lib.Math.abs.name, Cond.static Lib.Math.abs.name, Cond.code Lib.Math.abs.name Lib.Math.abs.code 1 (some .int), Cond.methodLink RX3 51 yJ6_compare_7cf53]
def wsX7_step : List Cond := .code yX7_step cX7_step 3 (some .int) :: ((wsX7_step_r1 ++ (wsX7_step_r2 ++ (wsX7_step_r3 ++ (wsX7_step_r4 ++ (wsX7_step_r5 ++ (wsX7_step_r6 ++ (wsX7_step_r7 ++ (wsX7_step_r8 ++ (wsX7_step_r9 ++ (wsX7_step_r10 ++ wsX7_step_r11)))))))))) ++ wsX70 ++ wsX50 ++ wsX60 ++ wsX10 ++ wsX00 ++ wsX30 ++ wsX20 ++ wsX40 ++ (vx_atS RX7 289 "java/lang/IllegalArgumentException" ["java/lang/RuntimeException", "java/lang/Exception"]).filter goodWord)
def wsX7_doorAnswer : List Cond := .code yX7_doorAnswer cX7_doorAnswer 2 (some .int) :: ([.fieldLink RX7 40 "TubeWatch" "doors" "LTubeWatch$Doors;", .methodLink RX7 273 yX4_isThere, .instanceMethod yX4_isThere, .selects RX4 yX4_isThere yX4_isThere, .initialized RX4, .code yX4_isThere cX4_isThere 2 (some .boolean), .fieldLink RX4 9 "TubeWatch$Doors" "there" "[Z", .static yX7_isSegment, .initialized RX7, .code yX7_isSegment cX7_isSegment 1 (some .boolean), .methodLink RX7 137 yX4_isOpen, .instanceMethod yX4_isOpen, .selects RX4 yX4_isOpen yX4_isOpen, .code yX4_isOpen cX4_isOpen 2 (some .boolean), .fieldLink RX4 15 "TubeWatch$Doors" "open" "[Z"] ++ wsX70 ++ wsX40)
def wsX7_segment_r1 : List Cond := [Cond.fieldLink RX7 26 "TubeWatch" "air" "LTubeWatch$Air;", Cond.fieldLink RX7 54 "TubeWatch" "crowd" "LTubeWatch$Crowd;", Cond.methodLink RX7 82 yX7_requireSegment, Cond.static yX7_requireSegment, Cond.initialized RX7, Cond.code yX7_requireSegment cX7_requireSegment 1 none, Cond.methodLink RX7 120 yX7_requireIndex, Cond.static yX7_requireIndex, Cond.code yX7_requireIndex cX7_requireIndex 2 none, Cond.classLink RX7 276 "java/lang/IndexOutOfBoundsException", Cond.initialized "java/lang/IndexOutOfBoundsException", Cond.methodLink RX7 86 yX7_requireRange, Cond.static yX7_requireRange, Cond.code yX7_requireRange cX7_requireRange 3 none, Cond.classLink RX7 285 "java/lang/IllegalArgumentException", Cond.initialized "java/lang/IllegalArgumentException", Cond.methodLink RX7 154 yX0_smokeIn, Cond.instanceMethod yX0_smokeIn, Cond.selects RX0 yX0_smokeIn yX0_smokeIn, Cond.initialized RX0, Cond.code yX0_smokeIn cX0_smokeIn 2 (some .int), Cond.fieldLink RX0 9 "TubeWatch$Air" "smoke" "[I", Cond.static yX7_isSegment, Cond.code yX7_isSegment cX7_isSegment 1 (some .boolean)]
def wsX7_segment_r2 : List Cond := [Cond.methodLink RX7 157 yX0_heatIn, Cond.instanceMethod yX0_heatIn, Cond.selects RX0 yX0_heatIn yX0_heatIn, Cond.code yX0_heatIn cX0_heatIn 2 (some .int), Cond.fieldLink RX0 15 "TubeWatch$Air" "heat" "[I", Cond.methodLink RX7 160 yX7_tellingIn, Cond.instanceMethod yX7_tellingIn, Cond.selects RX7 yX7_tellingIn yX7_tellingIn, Cond.code yX7_tellingIn cX7_tellingIn 4 (some .int), Cond.methodLink RX7 269 yX7_detectorWorks, Cond.instanceMethod yX7_detectorWorks, Cond.selects RX7 yX7_detectorWorks yX7_detectorWorks, Cond.code yX7_detectorWorks cX7_detectorWorks 4 (some .boolean), Cond.fieldLink RX7 62 "TubeWatch" "failingDetectors" "[Z", Cond.methodLink RX7 163 yX3_insideOf, Cond.instanceMethod yX3_insideOf, Cond.selects RX3 yX3_insideOf yX3_insideOf, Cond.initialized RX3, Cond.code yX3_insideOf cX3_insideOf 4 (some .int), Cond.fieldLink RX3 24 "TubeWatch$Crowd" "size" "I", Cond.fieldLink RX3 15 "TubeWatch$Crowd" "places" "[I", Cond.methodLink RX7 166 yX7_doorAnswer, Cond.instanceMethod yX7_doorAnswer, Cond.selects RX7 yX7_doorAnswer yX7_doorAnswer]
def wsX7_segment_r3 : List Cond := [Cond.code yX7_doorAnswer cX7_doorAnswer 2 (some .int), Cond.fieldLink RX7 40 "TubeWatch" "doors" "LTubeWatch$Doors;", Cond.methodLink RX7 273 yX4_isThere, Cond.instanceMethod yX4_isThere, Cond.selects RX4 yX4_isThere yX4_isThere, Cond.initialized RX4, Cond.code yX4_isThere cX4_isThere 2 (some .boolean), Cond.fieldLink RX4 9 "TubeWatch$Doors" "there" "[Z", Cond.methodLink RX7 137 yX4_isOpen, Cond.instanceMethod yX4_isOpen, Cond.selects RX4 yX4_isOpen yX4_isOpen, Cond.code yX4_isOpen cX4_isOpen 2 (some .boolean), Cond.fieldLink RX4 15 "TubeWatch$Doors" "open" "[Z"]
def wsX7_segment : List Cond := .code yX7_segment cX7_segment 3 (some .int) :: ((wsX7_segment_r1 ++ (wsX7_segment_r2 ++ wsX7_segment_r3)) ++ wsX70 ++ wsX00 ++ wsX30 ++ wsX40 ++ (vx_atS RX7 280 "java/lang/IndexOutOfBoundsException" ["java/lang/RuntimeException", "java/lang/Exception"]).filter goodWord ++ (vx_atS RX7 289 "java/lang/IllegalArgumentException" ["java/lang/RuntimeException", "java/lang/Exception"]).filter goodWord)
def wsX7_flow : List Cond := .code yX7_flow cX7_flow 1 (some .int) :: ([.constantDouble RX7 169 (4636737291354636288), .fieldLink RX7 19 "TubeWatch" "stream" "LTubeWatch$Stream;", .methodLink RX7 171 yX6_speed, .instanceMethod yX6_speed, .selects RX6 yX6_speed yX6_speed, .initialized RX6, .code yX6_speed cX6_speed 1 (some .double), .fieldLink RX6 7 "TubeWatch$Stream" "speed" "D"] ++ wsX70 ++ wsX60)
def wsX7_fan : List Cond := .code yX7_fan cX7_fan 2 (some .int) :: ([.fieldLink RX7 10 "TubeWatch" "fans" "LTubeWatch$Fans;", .methodLink RX7 120 yX7_requireIndex, .static yX7_requireIndex, .initialized RX7, .code yX7_requireIndex cX7_requireIndex 2 none, .classLink RX7 276 "java/lang/IndexOutOfBoundsException", .initialized "java/lang/IndexOutOfBoundsException", .methodLink RX7 130 yX5_stateOf, .instanceMethod yX5_stateOf, .selects RX5 yX5_stateOf yX5_stateOf, .initialized RX5, .code yX5_stateOf cX5_stateOf 2 (some .int), .fieldLink RX5 15 "TubeWatch$Fans" "states" "[I", .methodLink RX5 31 yX5_isFan, .static yX5_isFan, .code yX5_isFan cX5_isFan 1 (some .boolean)] ++ wsX70 ++ wsX50 ++ (vx_atS RX7 280 "java/lang/IndexOutOfBoundsException" ["java/lang/RuntimeException", "java/lang/Exception"]).filter goodWord)
def wsX7_alarm : List Cond := .code yX7_alarm cX7_alarm 1 (some .int) :: ([.fieldLink RX7 76 "TubeWatch" "alarmSegment" "I"] ++ wsX70)
def wsX7_done : List Cond := .code yX7_done cX7_done 2 (some .int) :: ([.fieldLink RX7 47 "TubeWatch" "chart" "LTubeWatch$Chart;", .methodLink RX7 175 yX2_size, .instanceMethod yX2_size, .selects RX2 yX2_size yX2_size, .initialized RX2, .code yX2_size cX2_size 1 (some .int), .fieldLink RX2 21 "TubeWatch$Chart" "size" "I", .methodLink RX7 120 yX7_requireIndex, .static yX7_requireIndex, .initialized RX7, .code yX7_requireIndex cX7_requireIndex 2 none, .classLink RX7 276 "java/lang/IndexOutOfBoundsException", .initialized "java/lang/IndexOutOfBoundsException", .methodLink RX7 176 yX2_stepOf, .instanceMethod yX2_stepOf, .selects RX2 yX2_stepOf yX2_stepOf, .code yX2_stepOf cX2_stepOf 2 (some .int), .fieldLink RX2 18 "TubeWatch$Chart" "steps" "[I", .methodLink RX2 35 yX2_isAct, .instanceMethod yX2_isAct, .selects RX2 yX2_isAct yX2_isAct, .code yX2_isAct cX2_isAct 2 (some .boolean)] ++ wsX70 ++ wsX20 ++ (vx_atS RX7 280 "java/lang/IndexOutOfBoundsException" ["java/lang/RuntimeException", "java/lang/Exception"]).filter goodWord)
def wsX7_person_r1 : List Cond := [Cond.fieldLink RX7 54 "TubeWatch" "crowd" "LTubeWatch$Crowd;", Cond.methodLink RX7 105 yX3_size, Cond.instanceMethod yX3_size, Cond.selects RX3 yX3_size yX3_size, Cond.initialized RX3, Cond.code yX3_size cX3_size 1 (some .int), Cond.fieldLink RX3 24 "TubeWatch$Crowd" "size" "I", Cond.methodLink RX7 120 yX7_requireIndex, Cond.static yX7_requireIndex, Cond.initialized RX7, Cond.code yX7_requireIndex cX7_requireIndex 2 none, Cond.classLink RX7 276 "java/lang/IndexOutOfBoundsException", Cond.initialized "java/lang/IndexOutOfBoundsException", Cond.methodLink RX7 86 yX7_requireRange, Cond.static yX7_requireRange, Cond.code yX7_requireRange cX7_requireRange 3 none, Cond.classLink RX7 285 "java/lang/IllegalArgumentException", Cond.initialized "java/lang/IllegalArgumentException", Cond.methodLink RX7 179 yX3_stateOf, Cond.instanceMethod yX3_stateOf, Cond.selects RX3 yX3_stateOf yX3_stateOf, Cond.code yX3_stateOf cX3_stateOf 2 (some .int), Cond.fieldLink RX3 9 "TubeWatch$Crowd" "states" "[I", Cond.methodLink RX3 38 yX3_isPerson]
def wsX7_person_r2 : List Cond := [Cond.instanceMethod yX3_isPerson, Cond.selects RX3 yX3_isPerson yX3_isPerson, Cond.code yX3_isPerson cX3_isPerson 2 (some .boolean), Cond.methodLink RX7 180 yX3_segmentOf, Cond.instanceMethod yX3_segmentOf, Cond.selects RX3 yX3_segmentOf yX3_segmentOf, Cond.code yX3_segmentOf cX3_segmentOf 2 (some .int), Cond.fieldLink RX3 15 "TubeWatch$Crowd" "places" "[I", Cond.methodLink RX7 183 yX3_endOf, Cond.instanceMethod yX3_endOf, Cond.selects RX3 yX3_endOf yX3_endOf, Cond.code yX3_endOf cX3_endOf 2 (some .int), Cond.fieldLink RX3 21 "TubeWatch$Crowd" "endSteps" "[I"]
def wsX7_person : List Cond := .code yX7_person cX7_person 3 (some .int) :: ((wsX7_person_r1 ++ wsX7_person_r2) ++ wsX70 ++ wsX30 ++ (vx_atS RX7 280 "java/lang/IndexOutOfBoundsException" ["java/lang/RuntimeException", "java/lang/Exception"]).filter goodWord ++ (vx_atS RX7 289 "java/lang/IllegalArgumentException" ["java/lang/RuntimeException", "java/lang/Exception"]).filter goodWord)
def wsX7_count : List Cond := .code yX7_count cX7_count 2 (some .int) :: ([.fieldLink RX7 54 "TubeWatch" "crowd" "LTubeWatch$Crowd;", .methodLink RX7 86 yX7_requireRange, .static yX7_requireRange, .initialized RX7, .code yX7_requireRange cX7_requireRange 3 none, .classLink RX7 285 "java/lang/IllegalArgumentException", .initialized "java/lang/IllegalArgumentException", .methodLink RX7 186 yX3_howMany, .instanceMethod yX3_howMany, .selects RX3 yX3_howMany yX3_howMany, .initialized RX3, .code yX3_howMany cX3_howMany 4 (some .int), .fieldLink RX3 24 "TubeWatch$Crowd" "size" "I", .fieldLink RX3 9 "TubeWatch$Crowd" "states" "[I"] ++ wsX70 ++ wsX30 ++ (vx_atS RX7 289 "java/lang/IllegalArgumentException" ["java/lang/RuntimeException", "java/lang/Exception"]).filter goodWord)
def wsX7_gone : List Cond := .code yX7_gone cX7_gone 1 (some .int) :: ([.fieldLink RX7 26 "TubeWatch" "air" "LTubeWatch$Air;", .methodLink RX7 189 yX0_lost, .instanceMethod yX0_lost, .selects RX0 yX0_lost yX0_lost, .initialized RX0, .code yX0_lost cX0_lost 1 (some .int), .fieldLink RX0 21 "TubeWatch$Air" "lost" "I"] ++ wsX70 ++ wsX00)
def wsX7_balances_r1 : List Cond := [Cond.fieldLink RX7 54 "TubeWatch" "crowd" "LTubeWatch$Crowd;", Cond.fieldLink RX7 26 "TubeWatch" "air" "LTubeWatch$Air;", Cond.fieldLink RX7 33 "TubeWatch" "blaze" "LTubeWatch$Blaze;", Cond.methodLink RX7 186 yX3_howMany, Cond.instanceMethod yX3_howMany, Cond.selects RX3 yX3_howMany yX3_howMany, Cond.initialized RX3, Cond.code yX3_howMany cX3_howMany 4 (some .int), Cond.fieldLink RX3 24 "TubeWatch$Crowd" "size" "I", Cond.fieldLink RX3 9 "TubeWatch$Crowd" "states" "[I", Cond.methodLink RX7 105 yX3_size, Cond.instanceMethod yX3_size, Cond.selects RX3 yX3_size yX3_size, Cond.code yX3_size cX3_size 1 (some .int), Cond.methodLink RX7 192 yX0_allSmoke, Cond.instanceMethod yX0_allSmoke, Cond.selects RX0 yX0_allSmoke yX0_allSmoke, Cond.initialized RX0, Cond.code yX0_allSmoke cX0_allSmoke 3 (some .int), Cond.fieldLink RX0 9 "TubeWatch$Air" "smoke" "[I", Cond.methodLink RX7 189 yX0_lost, Cond.instanceMethod yX0_lost, Cond.selects RX0 yX0_lost yX0_lost, Cond.code yX0_lost cX0_lost 1 (some .int)]
def wsX7_balances_r2 : List Cond := [Cond.fieldLink RX0 21 "TubeWatch$Air" "lost" "I", Cond.methodLink RX7 195 yX1_allMade, Cond.instanceMethod yX1_allMade, Cond.selects RX1 yX1_allMade yX1_allMade, Cond.initialized RX1, Cond.code yX1_allMade cX1_allMade 1 (some .int), Cond.fieldLink RX1 29 "TubeWatch$Blaze" "made" "I"]
def wsX7_balances : List Cond := .code yX7_balances cX7_balances 3 (some .boolean) :: ((wsX7_balances_r1 ++ wsX7_balances_r2) ++ wsX70 ++ wsX30 ++ wsX00 ++ wsX10)
def wsX8_init : List Cond := .code yX8_init cX8_init 1 none :: ([.methodLink RX8 1 objectInit, .instanceMethod objectInit, .code objectInit ⟨#[0xb1]⟩ 1 none, .arrayClass .int, .fieldLink RX8 7 "TubeWatchModel" "smoke" "[I", .fieldLink RX8 13 "TubeWatchModel" "heat" "[I", .fieldLink RX8 16 "TubeWatchModel" "command" "[I", .fieldLink RX8 19 "TubeWatchModel" "state" "[I", .arrayClass .boolean, .fieldLink RX8 22 "TubeWatchModel" "fails" "[Z", .fieldLink RX8 26 "TubeWatchModel" "damper" "I", .fieldLink RX8 30 "TubeWatchModel" "water" "I", .fieldLink RX8 33 "TubeWatchModel" "isDown" "[Z", .fieldLink RX8 36 "TubeWatchModel" "fire" "I", .fieldLink RX8 39 "TubeWatchModel" "isDeaf" "[Z", .fieldLink RX8 42 "TubeWatchModel" "alarm" "I", .fieldLink RX8 45 "TubeWatchModel" "kind" "[I", .fieldLink RX8 48 "TubeWatchModel" "waits" "[I", .fieldLink RX8 51 "TubeWatchModel" "done" "[I", .fieldLink RX8 54 "TubeWatchModel" "how" "[I", .fieldLink RX8 57 "TubeWatchModel" "where" "[I", .fieldLink RX8 60 "TubeWatchModel" "since" "[I", .fieldLink RX8 63 "TubeWatchModel" "last" "[I"] ++ wsX80)
def wsX8_thrown : List Cond := .code yX8_thrown cX8_thrown 1 (some .int) :: ([.fieldLink RX8 66 "TubeWatchModel" "thrown" "I"] ++ wsX80)
def wsX8_goes : List Cond := .code yX8_goes cX8_goes 4 (some .boolean) :: ([.fieldLink RX8 66 "TubeWatchModel" "thrown" "I"] ++ wsX80)
def wsX8_isBetween : List Cond := .code yX8_isBetween cX8_isBetween 3 (some .boolean) :: ([])
def wsX8_isSegment : List Cond := .code yX8_isSegment cX8_isSegment 1 (some .boolean) :: ([.methodLink RX8 69 yX8_isBetween, .static yX8_isBetween, .initialized RX8, .code yX8_isBetween cX8_isBetween 3 (some .boolean)])
def wsX8_isFan : List Cond := .code yX8_isFan cX8_isFan 1 (some .boolean) :: ([.methodLink RX8 69 yX8_isBetween, .static yX8_isBetween, .initialized RX8, .code yX8_isBetween cX8_isBetween 3 (some .boolean)])
def wsX8_isIn : List Cond := .code yX8_isIn cX8_isIn 2 (some .boolean) :: ([])
def wsX8_hasPower : List Cond := .code yX8_hasPower cX8_hasPower 1 (some .boolean) :: ([.fieldLink RX8 33 "TubeWatchModel" "isDown" "[Z"] ++ wsX80)
def wsX8_build : List Cond := .code yX8_build cX8_build 3 none :: ([.fieldLink RX8 77 "TubeWatchModel" "steps" "I", .fieldLink RX8 84 "TubeWatchModel" "doors" "I", .fieldLink RX8 87 "TubeWatchModel" "open" "I", .fieldLink RX8 90 "TubeWatchModel" "stuck" "I", .fieldLink RX8 26 "TubeWatchModel" "damper" "I", .fieldLink RX8 93 "TubeWatchModel" "isDamperOpen" "Z", .methodLink RX8 73 yX8_isSegment, .static yX8_isSegment, .initialized RX8, .code yX8_isSegment cX8_isSegment 1 (some .boolean), .methodLink RX8 69 yX8_isBetween, .static yX8_isBetween, .code yX8_isBetween cX8_isBetween 3 (some .boolean), .methodLink RX8 80 yX8_goes, .instanceMethod yX8_goes, .selects RX8 yX8_goes yX8_goes, .code yX8_goes cX8_goes 4 (some .boolean), .fieldLink RX8 66 "TubeWatchModel" "thrown" "I"] ++ wsX80)
def wsX8_people : List Cond := .code yX8_people cX8_people 5 (some .int) :: ([.fieldLink RX8 97 "TubeWatchModel" "persons" "I", .fieldLink RX8 57 "TubeWatchModel" "where" "[I", .fieldLink RX8 63 "TubeWatchModel" "last" "[I", .methodLink RX8 69 yX8_isBetween, .static yX8_isBetween, .initialized RX8, .code yX8_isBetween cX8_isBetween 3 (some .boolean), .methodLink RX8 73 yX8_isSegment, .static yX8_isSegment, .code yX8_isSegment cX8_isSegment 1 (some .boolean), .methodLink RX8 80 yX8_goes, .instanceMethod yX8_goes, .selects RX8 yX8_goes yX8_goes, .code yX8_goes cX8_goes 4 (some .boolean), .fieldLink RX8 66 "TubeWatchModel" "thrown" "I"] ++ wsX80)
def wsX8_wind : List Cond := .code yX8_wind cX8_wind 3 (some .int) :: ([.fieldLink RX8 100 "TubeWatchModel" "wind" "I", .methodLink RX8 69 yX8_isBetween, .static yX8_isBetween, .initialized RX8, .code yX8_isBetween cX8_isBetween 3 (some .boolean), .methodLink RX8 80 yX8_goes, .instanceMethod yX8_goes, .selects RX8 yX8_goes yX8_goes, .code yX8_goes cX8_goes 4 (some .boolean), .fieldLink RX8 66 "TubeWatchModel" "thrown" "I"] ++ wsX80)
def wsX8_fire : List Cond := .code yX8_fire cX8_fire 3 none :: ([.fieldLink RX8 36 "TubeWatchModel" "fire" "I", .fieldLink RX8 103 "TubeWatchModel" "size" "I", .methodLink RX8 73 yX8_isSegment, .static yX8_isSegment, .initialized RX8, .code yX8_isSegment cX8_isSegment 1 (some .boolean), .methodLink RX8 69 yX8_isBetween, .static yX8_isBetween, .code yX8_isBetween cX8_isBetween 3 (some .boolean), .methodLink RX8 80 yX8_goes, .instanceMethod yX8_goes, .selects RX8 yX8_goes yX8_goes, .code yX8_goes cX8_goes 4 (some .boolean), .fieldLink RX8 66 "TubeWatchModel" "thrown" "I"] ++ wsX80)
def wsX8_feed : List Cond := .code yX8_feed cX8_feed 3 (some .boolean) :: ([.fieldLink RX8 33 "TubeWatchModel" "isDown" "[Z", .methodLink RX8 69 yX8_isBetween, .static yX8_isBetween, .initialized RX8, .code yX8_isBetween cX8_isBetween 3 (some .boolean), .methodLink RX8 80 yX8_goes, .instanceMethod yX8_goes, .selects RX8 yX8_goes yX8_goes, .code yX8_goes cX8_goes 4 (some .boolean), .fieldLink RX8 66 "TubeWatchModel" "thrown" "I", .methodLink RX8 106 yX8_hasPower, .instanceMethod yX8_hasPower, .selects RX8 yX8_hasPower yX8_hasPower, .code yX8_hasPower cX8_hasPower 1 (some .boolean)] ++ wsX80)
def wsX8_failFan : List Cond := .code yX8_failFan cX8_failFan 3 (some .int) :: ([.fieldLink RX8 22 "TubeWatchModel" "fails" "[Z", .fieldLink RX8 19 "TubeWatchModel" "state" "[I", .methodLink RX8 110 yX8_isFan, .static yX8_isFan, .initialized RX8, .code yX8_isFan cX8_isFan 1 (some .boolean), .methodLink RX8 69 yX8_isBetween, .static yX8_isBetween, .code yX8_isBetween cX8_isBetween 3 (some .boolean), .methodLink RX8 80 yX8_goes, .instanceMethod yX8_goes, .selects RX8 yX8_goes yX8_goes, .code yX8_goes cX8_goes 4 (some .boolean), .fieldLink RX8 66 "TubeWatchModel" "thrown" "I"] ++ wsX80)
def wsX8_failDoor : List Cond := .code yX8_failDoor cX8_failDoor 3 (some .boolean) :: ([.fieldLink RX8 84 "TubeWatchModel" "doors" "I", .fieldLink RX8 90 "TubeWatchModel" "stuck" "I", .fieldLink RX8 87 "TubeWatchModel" "open" "I", .methodLink RX8 73 yX8_isSegment, .static yX8_isSegment, .initialized RX8, .code yX8_isSegment cX8_isSegment 1 (some .boolean), .methodLink RX8 69 yX8_isBetween, .static yX8_isBetween, .code yX8_isBetween cX8_isBetween 3 (some .boolean), .methodLink RX8 113 yX8_isIn, .static yX8_isIn, .code yX8_isIn cX8_isIn 2 (some .boolean), .methodLink RX8 80 yX8_goes, .instanceMethod yX8_goes, .selects RX8 yX8_goes yX8_goes, .code yX8_goes cX8_goes 4 (some .boolean), .fieldLink RX8 66 "TubeWatchModel" "thrown" "I"] ++ wsX80)
def wsX8_failDetector : List Cond := .code yX8_failDetector cX8_failDetector 4 none :: ([.fieldLink RX8 39 "TubeWatchModel" "isDeaf" "[Z", .methodLink RX8 73 yX8_isSegment, .static yX8_isSegment, .initialized RX8, .code yX8_isSegment cX8_isSegment 1 (some .boolean), .methodLink RX8 69 yX8_isBetween, .static yX8_isBetween, .code yX8_isBetween cX8_isBetween 3 (some .boolean), .methodLink RX8 80 yX8_goes, .instanceMethod yX8_goes, .selects RX8 yX8_goes yX8_goes, .code yX8_goes cX8_goes 4 (some .boolean), .fieldLink RX8 66 "TubeWatchModel" "thrown" "I"] ++ wsX80)
def wsX8_act : List Cond := .code yX8_act cX8_act 4 (some .int) :: ([.fieldLink RX8 117 "TubeWatchModel" "acts" "I", .fieldLink RX8 42 "TubeWatchModel" "alarm" "I", .fieldLink RX8 45 "TubeWatchModel" "kind" "[I", .fieldLink RX8 48 "TubeWatchModel" "waits" "[I", .fieldLink RX8 51 "TubeWatchModel" "done" "[I", .methodLink RX8 69 yX8_isBetween, .static yX8_isBetween, .initialized RX8, .code yX8_isBetween cX8_isBetween 3 (some .boolean), .methodLink RX8 80 yX8_goes, .instanceMethod yX8_goes, .selects RX8 yX8_goes yX8_goes, .code yX8_goes cX8_goes 4 (some .boolean), .fieldLink RX8 66 "TubeWatchModel" "thrown" "I"] ++ wsX80)
def wsX8_command : List Cond := .code yX8_command cX8_command 4 (some .int) :: ([.fieldLink RX8 16 "TubeWatchModel" "command" "[I", .methodLink RX8 110 yX8_isFan, .static yX8_isFan, .initialized RX8, .code yX8_isFan cX8_isFan 1 (some .boolean), .methodLink RX8 69 yX8_isBetween, .static yX8_isBetween, .code yX8_isBetween cX8_isBetween 3 (some .boolean), .methodLink RX8 80 yX8_goes, .instanceMethod yX8_goes, .selects RX8 yX8_goes yX8_goes, .code yX8_goes cX8_goes 4 (some .boolean), .fieldLink RX8 66 "TubeWatchModel" "thrown" "I"] ++ wsX80)
def wsX8_doesAct : List Cond := .code yX8_doesAct cX8_doesAct 3 none :: ([.fieldLink RX8 120 "TubeWatchModel" "isStopped" "Z", .fieldLink RX8 123 "TubeWatchModel" "isTold" "Z", .fieldLink RX8 87 "TubeWatchModel" "open" "I", .fieldLink RX8 84 "TubeWatchModel" "doors" "I", .fieldLink RX8 90 "TubeWatchModel" "stuck" "I", .fieldLink RX8 93 "TubeWatchModel" "isDamperOpen" "Z", .fieldLink RX8 126 "TubeWatchModel" "isFoam" "Z", .fieldLink RX8 16 "TubeWatchModel" "command" "[I"] ++ wsX80)
def wsX8_fans : List Cond := .code yX8_fans cX8_fans 3 none :: ([.fieldLink RX8 16 "TubeWatchModel" "command" "[I", .fieldLink RX8 22 "TubeWatchModel" "fails" "[Z", .fieldLink RX8 19 "TubeWatchModel" "state" "[I", .methodLink RX8 106 yX8_hasPower, .instanceMethod yX8_hasPower, .selects RX8 yX8_hasPower yX8_hasPower, .initialized RX8, .code yX8_hasPower cX8_hasPower 1 (some .boolean), .fieldLink RX8 33 "TubeWatchModel" "isDown" "[Z"] ++ wsX80)
def wsX8_flows : List Cond := .code yX8_flows cX8_flows 2 none :: ([.fieldLink RX8 19 "TubeWatchModel" "state" "[I", .fieldLink RX8 100 "TubeWatchModel" "wind" "I", .fieldLink RX8 120 "TubeWatchModel" "isStopped" "Z", .fieldLink RX8 129 "TubeWatchModel" "flow" "D", .constantDouble RX8 133 (4616189618054758400)] ++ wsX80)
def wsX8_burns : List Cond := .code yX8_burns cX8_burns 2 none :: ([.fieldLink RX8 36 "TubeWatchModel" "fire" "I", .fieldLink RX8 135 "TubeWatchModel" "age" "I", .fieldLink RX8 103 "TubeWatchModel" "size" "I", .fieldLink RX8 126 "TubeWatchModel" "isFoam" "Z", .fieldLink RX8 30 "TubeWatchModel" "water" "I", .fieldLink RX8 7 "TubeWatchModel" "smoke" "[I", .fieldLink RX8 13 "TubeWatchModel" "heat" "[I", .fieldLink RX8 138 "TubeWatchModel" "made" "I", .methodLink RX8 106 yX8_hasPower, .instanceMethod yX8_hasPower, .selects RX8 yX8_hasPower yX8_hasPower, .initialized RX8, .code yX8_hasPower cX8_hasPower 1 (some .boolean), .fieldLink RX8 33 "TubeWatchModel" "isDown" "[Z"] ++ wsX80)
def wsX8_strength : List Cond := .code yX8_strength cX8_strength 1 (some .double) :: ([.fieldLink RX8 129 "TubeWatchModel" "flow" "D"] ++ wsX80)
def wsX8_comes : List Cond := .code yX8_comes cX8_comes 3 none :: ([.fieldLink RX8 7 "TubeWatchModel" "smoke" "[I", .fieldLink RX8 141 "TubeWatchModel" "gone" "I", .methodLink RX8 73 yX8_isSegment, .static yX8_isSegment, .initialized RX8, .code yX8_isSegment cX8_isSegment 1 (some .boolean), .methodLink RX8 69 yX8_isBetween, .static yX8_isBetween, .code yX8_isBetween cX8_isBetween 3 (some .boolean)] ++ wsX80)
def wsX8_moves : List Cond := .code yX8_moves cX8_moves 7 none :: ([.fieldLink RX8 129 "TubeWatchModel" "flow" "D", .fieldLink RX8 7 "TubeWatchModel" "smoke" "[I", .fieldLink RX8 36 "TubeWatchModel" "fire" "I", .constantDouble RX8 152 (4629137466983448576), .fieldLink RX8 93 "TubeWatchModel" "isDamperOpen" "Z", .fieldLink RX8 26 "TubeWatchModel" "damper" "I", .fieldLink RX8 141 "TubeWatchModel" "gone" "I", .fieldLink RX8 13 "TubeWatchModel" "heat" "[I", .methodLink RX8 144 yX8_strength, .instanceMethod yX8_strength, .selects RX8 yX8_strength yX8_strength, .initialized RX8, .code yX8_strength cX8_strength 1 (some .double), .methodLink RX8 148 yX8_comes, .instanceMethod yX8_comes, .selects RX8 yX8_comes yX8_comes, .code yX8_comes cX8_comes 3 none, .methodLink RX8 73 yX8_isSegment, .static yX8_isSegment, .code yX8_isSegment cX8_isSegment 1 (some .boolean), .methodLink RX8 69 yX8_isBetween, .static yX8_isBetween, .code yX8_isBetween cX8_isBetween 3 (some .boolean)] ++ wsX80)
def wsX8_personsIn : List Cond := .code yX8_personsIn cX8_personsIn 4 (some .int) :: ([.fieldLink RX8 97 "TubeWatchModel" "persons" "I", .fieldLink RX8 54 "TubeWatchModel" "how" "[I", .fieldLink RX8 57 "TubeWatchModel" "where" "[I"] ++ wsX80)
def wsX8_tells : List Cond := .code yX8_tells cX8_tells 3 (some .int) :: ([.fieldLink RX8 13 "TubeWatchModel" "heat" "[I", .fieldLink RX8 39 "TubeWatchModel" "isDeaf" "[Z", .fieldLink RX8 7 "TubeWatchModel" "smoke" "[I", .methodLink RX8 154 yX8_personsIn, .instanceMethod yX8_personsIn, .selects RX8 yX8_personsIn yX8_personsIn, .initialized RX8, .code yX8_personsIn cX8_personsIn 4 (some .int), .fieldLink RX8 97 "TubeWatchModel" "persons" "I", .fieldLink RX8 54 "TubeWatchModel" "how" "[I", .fieldLink RX8 57 "TubeWatchModel" "where" "[I"] ++ wsX80)
def wsX8_detects : List Cond := .code yX8_detects cX8_detects 2 none :: ([.fieldLink RX8 42 "TubeWatchModel" "alarm" "I", .fieldLink RX8 77 "TubeWatchModel" "steps" "I", .fieldLink RX8 48 "TubeWatchModel" "waits" "[I", .fieldLink RX8 161 "TubeWatchModel" "due" "I", .methodLink RX8 158 yX8_tells, .instanceMethod yX8_tells, .selects RX8 yX8_tells yX8_tells, .initialized RX8, .code yX8_tells cX8_tells 3 (some .int), .fieldLink RX8 13 "TubeWatchModel" "heat" "[I", .fieldLink RX8 39 "TubeWatchModel" "isDeaf" "[Z", .fieldLink RX8 7 "TubeWatchModel" "smoke" "[I", .methodLink RX8 154 yX8_personsIn, .instanceMethod yX8_personsIn, .selects RX8 yX8_personsIn yX8_personsIn, .code yX8_personsIn cX8_personsIn 4 (some .int), .fieldLink RX8 97 "TubeWatchModel" "persons" "I", .fieldLink RX8 54 "TubeWatchModel" "how" "[I", .fieldLink RX8 57 "TubeWatchModel" "where" "[I"] ++ wsX80)
def wsX8_charts : List Cond := .code yX8_charts cX8_charts 1 none :: ([.fieldLink RX8 42 "TubeWatchModel" "alarm" "I", .fieldLink RX8 164 "TubeWatchModel" "next" "I", .fieldLink RX8 117 "TubeWatchModel" "acts" "I", .fieldLink RX8 161 "TubeWatchModel" "due" "I", .fieldLink RX8 77 "TubeWatchModel" "steps" "I", .fieldLink RX8 45 "TubeWatchModel" "kind" "[I", .fieldLink RX8 51 "TubeWatchModel" "done" "[I", .fieldLink RX8 48 "TubeWatchModel" "waits" "[I", .methodLink RX8 167 yX8_doesAct, .instanceMethod yX8_doesAct, .selects RX8 yX8_doesAct yX8_doesAct, .initialized RX8, .code yX8_doesAct cX8_doesAct 3 none, .fieldLink RX8 120 "TubeWatchModel" "isStopped" "Z", .fieldLink RX8 123 "TubeWatchModel" "isTold" "Z", .fieldLink RX8 87 "TubeWatchModel" "open" "I", .fieldLink RX8 84 "TubeWatchModel" "doors" "I", .fieldLink RX8 90 "TubeWatchModel" "stuck" "I", .fieldLink RX8 93 "TubeWatchModel" "isDamperOpen" "Z", .fieldLink RX8 126 "TubeWatchModel" "isFoam" "Z", .fieldLink RX8 16 "TubeWatchModel" "command" "[I"] ++ wsX80)
def wsX8_aim : List Cond := .code yX8_aim cX8_aim 7 (some .int) :: ([.fieldLink RX8 87 "TubeWatchModel" "open" "I", .methodLink RX8 113 yX8_isIn, .static yX8_isIn, .initialized RX8, .code yX8_isIn cX8_isIn 2 (some .boolean)] ++ wsX80)
def wsX8_ends : List Cond := .code yX8_ends cX8_ends 3 none :: ([.fieldLink RX8 54 "TubeWatchModel" "how" "[I", .fieldLink RX8 63 "TubeWatchModel" "last" "[I", .fieldLink RX8 77 "TubeWatchModel" "steps" "I"] ++ wsX80)
def wsX8_walks : List Cond := .code yX8_walks cX8_walks 5 none :: ([.fieldLink RX8 57 "TubeWatchModel" "where" "[I", .fieldLink RX8 7 "TubeWatchModel" "smoke" "[I", .fieldLink RX8 77 "TubeWatchModel" "steps" "I", .methodLink RX8 171 yX8_aim, .instanceMethod yX8_aim, .selects RX8 yX8_aim yX8_aim, .initialized RX8, .code yX8_aim cX8_aim 7 (some .int), .fieldLink RX8 87 "TubeWatchModel" "open" "I", .methodLink RX8 113 yX8_isIn, .static yX8_isIn, .code yX8_isIn cX8_isIn 2 (some .boolean), .methodLink RX8 73 yX8_isSegment, .static yX8_isSegment, .code yX8_isSegment cX8_isSegment 1 (some .boolean), .methodLink RX8 69 yX8_isBetween, .static yX8_isBetween, .code yX8_isBetween cX8_isBetween 3 (some .boolean), .methodLink RX8 174 yX8_ends, .instanceMethod yX8_ends, .selects RX8 yX8_ends yX8_ends, .code yX8_ends cX8_ends 3 none, .fieldLink RX8 54 "TubeWatchModel" "how" "[I", .fieldLink RX8 63 "TubeWatchModel" "last" "[I"] ++ wsX80)
def wsX8_lives_r1 : List Cond := [Cond.fieldLink RX8 7 "TubeWatchModel" "smoke" "[I", Cond.fieldLink RX8 57 "TubeWatchModel" "where" "[I", Cond.fieldLink RX8 54 "TubeWatchModel" "how" "[I", Cond.fieldLink RX8 123 "TubeWatchModel" "isTold" "Z", Cond.fieldLink RX8 60 "TubeWatchModel" "since" "[I", Cond.fieldLink RX8 77 "TubeWatchModel" "steps" "I", Cond.methodLink RX8 174 yX8_ends, Cond.instanceMethod yX8_ends, Cond.selects RX8 yX8_ends yX8_ends, Cond.initialized RX8, Cond.code yX8_ends cX8_ends 3 none, Cond.fieldLink RX8 63 "TubeWatchModel" "last" "[I", Cond.methodLink RX8 177 yX8_walks, Cond.instanceMethod yX8_walks, Cond.selects RX8 yX8_walks yX8_walks, Cond.code yX8_walks cX8_walks 5 none, Cond.methodLink RX8 171 yX8_aim, Cond.instanceMethod yX8_aim, Cond.selects RX8 yX8_aim yX8_aim, Cond.code yX8_aim cX8_aim 7 (some .int), Cond.fieldLink RX8 87 "TubeWatchModel" "open" "I", Cond.methodLink RX8 113 yX8_isIn, Cond.static yX8_isIn, Cond.code yX8_isIn cX8_isIn 2 (some .boolean)]
def wsX8_lives_r2 : List Cond := [Cond.methodLink RX8 73 yX8_isSegment, Cond.static yX8_isSegment, Cond.code yX8_isSegment cX8_isSegment 1 (some .boolean), Cond.methodLink RX8 69 yX8_isBetween, Cond.static yX8_isBetween, Cond.code yX8_isBetween cX8_isBetween 3 (some .boolean)]
def wsX8_lives : List Cond := .code yX8_lives cX8_lives 4 none :: ((wsX8_lives_r1 ++ wsX8_lives_r2) ++ wsX80)
def wsX8_doesStep_r1 : List Cond := [Cond.fieldLink RX8 97 "TubeWatchModel" "persons" "I", Cond.fieldLink RX8 54 "TubeWatchModel" "how" "[I", Cond.fieldLink RX8 77 "TubeWatchModel" "steps" "I", Cond.methodLink RX8 180 yX8_fans, Cond.instanceMethod yX8_fans, Cond.selects RX8 yX8_fans yX8_fans, Cond.initialized RX8, Cond.code yX8_fans cX8_fans 3 none, Cond.fieldLink RX8 16 "TubeWatchModel" "command" "[I", Cond.fieldLink RX8 22 "TubeWatchModel" "fails" "[Z", Cond.fieldLink RX8 19 "TubeWatchModel" "state" "[I", Cond.methodLink RX8 106 yX8_hasPower, Cond.instanceMethod yX8_hasPower, Cond.selects RX8 yX8_hasPower yX8_hasPower, Cond.code yX8_hasPower cX8_hasPower 1 (some .boolean), Cond.fieldLink RX8 33 "TubeWatchModel" "isDown" "[Z", Cond.methodLink RX8 183 yX8_flows, Cond.instanceMethod yX8_flows, Cond.selects RX8 yX8_flows yX8_flows, Cond.code yX8_flows cX8_flows 2 none, Cond.fieldLink RX8 100 "TubeWatchModel" "wind" "I", Cond.fieldLink RX8 120 "TubeWatchModel" "isStopped" "Z", Cond.fieldLink RX8 129 "TubeWatchModel" "flow" "D", Cond.constantDouble RX8 133 (4616189618054758400)]
def wsX8_doesStep_r2 : List Cond := [Cond.methodLink RX8 186 yX8_burns, Cond.instanceMethod yX8_burns, Cond.selects RX8 yX8_burns yX8_burns, Cond.code yX8_burns cX8_burns 2 none, Cond.fieldLink RX8 36 "TubeWatchModel" "fire" "I", Cond.fieldLink RX8 135 "TubeWatchModel" "age" "I", Cond.fieldLink RX8 103 "TubeWatchModel" "size" "I", Cond.fieldLink RX8 126 "TubeWatchModel" "isFoam" "Z", Cond.fieldLink RX8 30 "TubeWatchModel" "water" "I", Cond.fieldLink RX8 7 "TubeWatchModel" "smoke" "[I", Cond.fieldLink RX8 13 "TubeWatchModel" "heat" "[I", Cond.fieldLink RX8 138 "TubeWatchModel" "made" "I", Cond.methodLink RX8 189 yX8_moves, Cond.instanceMethod yX8_moves, Cond.selects RX8 yX8_moves yX8_moves, Cond.code yX8_moves cX8_moves 7 none, Cond.constantDouble RX8 152 (4629137466983448576), Cond.fieldLink RX8 93 "TubeWatchModel" "isDamperOpen" "Z", Cond.fieldLink RX8 26 "TubeWatchModel" "damper" "I", Cond.fieldLink RX8 141 "TubeWatchModel" "gone" "I", Cond.methodLink RX8 144 yX8_strength, Cond.instanceMethod yX8_strength, Cond.selects RX8 yX8_strength yX8_strength, Cond.code yX8_strength cX8_strength 1 (some .double)]
def wsX8_doesStep_r3 : List Cond := [Cond.methodLink RX8 148 yX8_comes, Cond.instanceMethod yX8_comes, Cond.selects RX8 yX8_comes yX8_comes, Cond.code yX8_comes cX8_comes 3 none, Cond.methodLink RX8 73 yX8_isSegment, Cond.static yX8_isSegment, Cond.code yX8_isSegment cX8_isSegment 1 (some .boolean), Cond.methodLink RX8 69 yX8_isBetween, Cond.static yX8_isBetween, Cond.code yX8_isBetween cX8_isBetween 3 (some .boolean), Cond.methodLink RX8 192 yX8_detects, Cond.instanceMethod yX8_detects, Cond.selects RX8 yX8_detects yX8_detects, Cond.code yX8_detects cX8_detects 2 none, Cond.fieldLink RX8 42 "TubeWatchModel" "alarm" "I", Cond.fieldLink RX8 48 "TubeWatchModel" "waits" "[I", Cond.fieldLink RX8 161 "TubeWatchModel" "due" "I", Cond.methodLink RX8 158 yX8_tells, Cond.instanceMethod yX8_tells, Cond.selects RX8 yX8_tells yX8_tells, Cond.code yX8_tells cX8_tells 3 (some .int), Cond.fieldLink RX8 39 "TubeWatchModel" "isDeaf" "[Z", Cond.methodLink RX8 154 yX8_personsIn, Cond.instanceMethod yX8_personsIn]
def wsX8_doesStep_r4 : List Cond := [Cond.selects RX8 yX8_personsIn yX8_personsIn, Cond.code yX8_personsIn cX8_personsIn 4 (some .int), Cond.fieldLink RX8 57 "TubeWatchModel" "where" "[I", Cond.methodLink RX8 195 yX8_charts, Cond.instanceMethod yX8_charts, Cond.selects RX8 yX8_charts yX8_charts, Cond.code yX8_charts cX8_charts 1 none, Cond.fieldLink RX8 164 "TubeWatchModel" "next" "I", Cond.fieldLink RX8 117 "TubeWatchModel" "acts" "I", Cond.fieldLink RX8 45 "TubeWatchModel" "kind" "[I", Cond.fieldLink RX8 51 "TubeWatchModel" "done" "[I", Cond.methodLink RX8 167 yX8_doesAct, Cond.instanceMethod yX8_doesAct, Cond.selects RX8 yX8_doesAct yX8_doesAct, Cond.code yX8_doesAct cX8_doesAct 3 none, Cond.fieldLink RX8 123 "TubeWatchModel" "isTold" "Z", Cond.fieldLink RX8 87 "TubeWatchModel" "open" "I", Cond.fieldLink RX8 84 "TubeWatchModel" "doors" "I", Cond.fieldLink RX8 90 "TubeWatchModel" "stuck" "I", Cond.methodLink RX8 198 yX8_lives, Cond.instanceMethod yX8_lives, Cond.selects RX8 yX8_lives yX8_lives, Cond.code yX8_lives cX8_lives 4 none, Cond.fieldLink RX8 60 "TubeWatchModel" "since" "[I"]
def wsX8_doesStep_r5 : List Cond := [Cond.methodLink RX8 174 yX8_ends, Cond.instanceMethod yX8_ends, Cond.selects RX8 yX8_ends yX8_ends, Cond.code yX8_ends cX8_ends 3 none, Cond.fieldLink RX8 63 "TubeWatchModel" "last" "[I", Cond.methodLink RX8 177 yX8_walks, Cond.instanceMethod yX8_walks, Cond.selects RX8 yX8_walks yX8_walks, Cond.code yX8_walks cX8_walks 5 none, Cond.methodLink RX8 171 yX8_aim, Cond.instanceMethod yX8_aim, Cond.selects RX8 yX8_aim yX8_aim, Cond.code yX8_aim cX8_aim 7 (some .int), Cond.methodLink RX8 113 yX8_isIn, Cond.static yX8_isIn, Cond.code yX8_isIn cX8_isIn 2 (some .boolean)]
def wsX8_doesStep : List Cond := .code yX8_doesStep cX8_doesStep 2 none :: ((wsX8_doesStep_r1 ++ (wsX8_doesStep_r2 ++ (wsX8_doesStep_r3 ++ (wsX8_doesStep_r4 ++ wsX8_doesStep_r5)))) ++ wsX80)
def wsX8_step_r1 : List Cond := [Cond.fieldLink RX8 77 "TubeWatchModel" "steps" "I", Cond.methodLink RX8 69 yX8_isBetween, Cond.static yX8_isBetween, Cond.initialized RX8, Cond.code yX8_isBetween cX8_isBetween 3 (some .boolean), Cond.methodLink RX8 80 yX8_goes, Cond.instanceMethod yX8_goes, Cond.selects RX8 yX8_goes yX8_goes, Cond.code yX8_goes cX8_goes 4 (some .boolean), Cond.fieldLink RX8 66 "TubeWatchModel" "thrown" "I", Cond.methodLink RX8 201 yX8_doesStep, Cond.instanceMethod yX8_doesStep, Cond.selects RX8 yX8_doesStep yX8_doesStep, Cond.code yX8_doesStep cX8_doesStep 2 none, Cond.fieldLink RX8 97 "TubeWatchModel" "persons" "I", Cond.fieldLink RX8 54 "TubeWatchModel" "how" "[I", Cond.methodLink RX8 180 yX8_fans, Cond.instanceMethod yX8_fans, Cond.selects RX8 yX8_fans yX8_fans, Cond.code yX8_fans cX8_fans 3 none, Cond.fieldLink RX8 16 "TubeWatchModel" "command" "[I", Cond.fieldLink RX8 22 "TubeWatchModel" "fails" "[Z", Cond.fieldLink RX8 19 "TubeWatchModel" "state" "[I", Cond.methodLink RX8 106 yX8_hasPower]
def wsX8_step_r2 : List Cond := [Cond.instanceMethod yX8_hasPower, Cond.selects RX8 yX8_hasPower yX8_hasPower, Cond.code yX8_hasPower cX8_hasPower 1 (some .boolean), Cond.fieldLink RX8 33 "TubeWatchModel" "isDown" "[Z", Cond.methodLink RX8 183 yX8_flows, Cond.instanceMethod yX8_flows, Cond.selects RX8 yX8_flows yX8_flows, Cond.code yX8_flows cX8_flows 2 none, Cond.fieldLink RX8 100 "TubeWatchModel" "wind" "I", Cond.fieldLink RX8 120 "TubeWatchModel" "isStopped" "Z", Cond.fieldLink RX8 129 "TubeWatchModel" "flow" "D", Cond.constantDouble RX8 133 (4616189618054758400), Cond.methodLink RX8 186 yX8_burns, Cond.instanceMethod yX8_burns, Cond.selects RX8 yX8_burns yX8_burns, Cond.code yX8_burns cX8_burns 2 none, Cond.fieldLink RX8 36 "TubeWatchModel" "fire" "I", Cond.fieldLink RX8 135 "TubeWatchModel" "age" "I", Cond.fieldLink RX8 103 "TubeWatchModel" "size" "I", Cond.fieldLink RX8 126 "TubeWatchModel" "isFoam" "Z", Cond.fieldLink RX8 30 "TubeWatchModel" "water" "I", Cond.fieldLink RX8 7 "TubeWatchModel" "smoke" "[I", Cond.fieldLink RX8 13 "TubeWatchModel" "heat" "[I", Cond.fieldLink RX8 138 "TubeWatchModel" "made" "I"]
def wsX8_step_r3 : List Cond := [Cond.methodLink RX8 189 yX8_moves, Cond.instanceMethod yX8_moves, Cond.selects RX8 yX8_moves yX8_moves, Cond.code yX8_moves cX8_moves 7 none, Cond.constantDouble RX8 152 (4629137466983448576), Cond.fieldLink RX8 93 "TubeWatchModel" "isDamperOpen" "Z", Cond.fieldLink RX8 26 "TubeWatchModel" "damper" "I", Cond.fieldLink RX8 141 "TubeWatchModel" "gone" "I", Cond.methodLink RX8 144 yX8_strength, Cond.instanceMethod yX8_strength, Cond.selects RX8 yX8_strength yX8_strength, Cond.code yX8_strength cX8_strength 1 (some .double), Cond.methodLink RX8 148 yX8_comes, Cond.instanceMethod yX8_comes, Cond.selects RX8 yX8_comes yX8_comes, Cond.code yX8_comes cX8_comes 3 none, Cond.methodLink RX8 73 yX8_isSegment, Cond.static yX8_isSegment, Cond.code yX8_isSegment cX8_isSegment 1 (some .boolean), Cond.methodLink RX8 192 yX8_detects, Cond.instanceMethod yX8_detects, Cond.selects RX8 yX8_detects yX8_detects, Cond.code yX8_detects cX8_detects 2 none, Cond.fieldLink RX8 42 "TubeWatchModel" "alarm" "I"]
def wsX8_step_r4 : List Cond := [Cond.fieldLink RX8 48 "TubeWatchModel" "waits" "[I", Cond.fieldLink RX8 161 "TubeWatchModel" "due" "I", Cond.methodLink RX8 158 yX8_tells, Cond.instanceMethod yX8_tells, Cond.selects RX8 yX8_tells yX8_tells, Cond.code yX8_tells cX8_tells 3 (some .int), Cond.fieldLink RX8 39 "TubeWatchModel" "isDeaf" "[Z", Cond.methodLink RX8 154 yX8_personsIn, Cond.instanceMethod yX8_personsIn, Cond.selects RX8 yX8_personsIn yX8_personsIn, Cond.code yX8_personsIn cX8_personsIn 4 (some .int), Cond.fieldLink RX8 57 "TubeWatchModel" "where" "[I", Cond.methodLink RX8 195 yX8_charts, Cond.instanceMethod yX8_charts, Cond.selects RX8 yX8_charts yX8_charts, Cond.code yX8_charts cX8_charts 1 none, Cond.fieldLink RX8 164 "TubeWatchModel" "next" "I", Cond.fieldLink RX8 117 "TubeWatchModel" "acts" "I", Cond.fieldLink RX8 45 "TubeWatchModel" "kind" "[I", Cond.fieldLink RX8 51 "TubeWatchModel" "done" "[I", Cond.methodLink RX8 167 yX8_doesAct, Cond.instanceMethod yX8_doesAct, Cond.selects RX8 yX8_doesAct yX8_doesAct, Cond.code yX8_doesAct cX8_doesAct 3 none]
def wsX8_step_r5 : List Cond := [Cond.fieldLink RX8 123 "TubeWatchModel" "isTold" "Z", Cond.fieldLink RX8 87 "TubeWatchModel" "open" "I", Cond.fieldLink RX8 84 "TubeWatchModel" "doors" "I", Cond.fieldLink RX8 90 "TubeWatchModel" "stuck" "I", Cond.methodLink RX8 198 yX8_lives, Cond.instanceMethod yX8_lives, Cond.selects RX8 yX8_lives yX8_lives, Cond.code yX8_lives cX8_lives 4 none, Cond.fieldLink RX8 60 "TubeWatchModel" "since" "[I", Cond.methodLink RX8 174 yX8_ends, Cond.instanceMethod yX8_ends, Cond.selects RX8 yX8_ends yX8_ends, Cond.code yX8_ends cX8_ends 3 none, Cond.fieldLink RX8 63 "TubeWatchModel" "last" "[I", Cond.methodLink RX8 177 yX8_walks, Cond.instanceMethod yX8_walks, Cond.selects RX8 yX8_walks yX8_walks, Cond.code yX8_walks cX8_walks 5 none, Cond.methodLink RX8 171 yX8_aim, Cond.instanceMethod yX8_aim, Cond.selects RX8 yX8_aim yX8_aim, Cond.code yX8_aim cX8_aim 7 (some .int), Cond.methodLink RX8 113 yX8_isIn, Cond.static yX8_isIn]
def wsX8_step_r6 : List Cond := [Cond.code yX8_isIn cX8_isIn 2 (some .boolean)]
def wsX8_step : List Cond := .code yX8_step cX8_step 3 (some .int) :: ((wsX8_step_r1 ++ (wsX8_step_r2 ++ (wsX8_step_r3 ++ (wsX8_step_r4 ++ (wsX8_step_r5 ++ wsX8_step_r6))))) ++ wsX80)
def wsX8_segment_r1 : List Cond := [Cond.fieldLink RX8 7 "TubeWatchModel" "smoke" "[I", Cond.fieldLink RX8 13 "TubeWatchModel" "heat" "[I", Cond.fieldLink RX8 84 "TubeWatchModel" "doors" "I", Cond.fieldLink RX8 87 "TubeWatchModel" "open" "I", Cond.methodLink RX8 73 yX8_isSegment, Cond.static yX8_isSegment, Cond.initialized RX8, Cond.code yX8_isSegment cX8_isSegment 1 (some .boolean), Cond.methodLink RX8 69 yX8_isBetween, Cond.static yX8_isBetween, Cond.code yX8_isBetween cX8_isBetween 3 (some .boolean), Cond.methodLink RX8 80 yX8_goes, Cond.instanceMethod yX8_goes, Cond.selects RX8 yX8_goes yX8_goes, Cond.code yX8_goes cX8_goes 4 (some .boolean), Cond.fieldLink RX8 66 "TubeWatchModel" "thrown" "I", Cond.methodLink RX8 158 yX8_tells, Cond.instanceMethod yX8_tells, Cond.selects RX8 yX8_tells yX8_tells, Cond.code yX8_tells cX8_tells 3 (some .int), Cond.fieldLink RX8 39 "TubeWatchModel" "isDeaf" "[Z", Cond.methodLink RX8 154 yX8_personsIn, Cond.instanceMethod yX8_personsIn, Cond.selects RX8 yX8_personsIn yX8_personsIn]
def wsX8_segment_r2 : List Cond := [Cond.code yX8_personsIn cX8_personsIn 4 (some .int), Cond.fieldLink RX8 97 "TubeWatchModel" "persons" "I", Cond.fieldLink RX8 54 "TubeWatchModel" "how" "[I", Cond.fieldLink RX8 57 "TubeWatchModel" "where" "[I", Cond.methodLink RX8 113 yX8_isIn, Cond.static yX8_isIn, Cond.code yX8_isIn cX8_isIn 2 (some .boolean)]
def wsX8_segment : List Cond := .code yX8_segment cX8_segment 3 (some .int) :: ((wsX8_segment_r1 ++ wsX8_segment_r2) ++ wsX80)
def wsX8_flow : List Cond := .code yX8_flow cX8_flow 1 (some .int) :: ([.fieldLink RX8 66 "TubeWatchModel" "thrown" "I", .constantDouble RX8 204 (4636737291354636288), .fieldLink RX8 129 "TubeWatchModel" "flow" "D"] ++ wsX80)
def wsX8_fan : List Cond := .code yX8_fan cX8_fan 2 (some .int) :: ([.fieldLink RX8 19 "TubeWatchModel" "state" "[I", .methodLink RX8 110 yX8_isFan, .static yX8_isFan, .initialized RX8, .code yX8_isFan cX8_isFan 1 (some .boolean), .methodLink RX8 69 yX8_isBetween, .static yX8_isBetween, .code yX8_isBetween cX8_isBetween 3 (some .boolean), .methodLink RX8 80 yX8_goes, .instanceMethod yX8_goes, .selects RX8 yX8_goes yX8_goes, .code yX8_goes cX8_goes 4 (some .boolean), .fieldLink RX8 66 "TubeWatchModel" "thrown" "I"] ++ wsX80)
def wsX8_alarm : List Cond := .code yX8_alarm cX8_alarm 1 (some .int) :: ([.fieldLink RX8 66 "TubeWatchModel" "thrown" "I", .fieldLink RX8 42 "TubeWatchModel" "alarm" "I"] ++ wsX80)
def wsX8_done : List Cond := .code yX8_done cX8_done 2 (some .int) :: ([.fieldLink RX8 117 "TubeWatchModel" "acts" "I", .fieldLink RX8 51 "TubeWatchModel" "done" "[I", .methodLink RX8 69 yX8_isBetween, .static yX8_isBetween, .initialized RX8, .code yX8_isBetween cX8_isBetween 3 (some .boolean), .methodLink RX8 80 yX8_goes, .instanceMethod yX8_goes, .selects RX8 yX8_goes yX8_goes, .code yX8_goes cX8_goes 4 (some .boolean), .fieldLink RX8 66 "TubeWatchModel" "thrown" "I"] ++ wsX80)
def wsX8_person : List Cond := .code yX8_person cX8_person 3 (some .int) :: ([.fieldLink RX8 97 "TubeWatchModel" "persons" "I", .fieldLink RX8 54 "TubeWatchModel" "how" "[I", .fieldLink RX8 63 "TubeWatchModel" "last" "[I", .fieldLink RX8 57 "TubeWatchModel" "where" "[I", .methodLink RX8 69 yX8_isBetween, .static yX8_isBetween, .initialized RX8, .code yX8_isBetween cX8_isBetween 3 (some .boolean), .methodLink RX8 80 yX8_goes, .instanceMethod yX8_goes, .selects RX8 yX8_goes yX8_goes, .code yX8_goes cX8_goes 4 (some .boolean), .fieldLink RX8 66 "TubeWatchModel" "thrown" "I"] ++ wsX80)
def wsX8_counted : List Cond := .code yX8_counted cX8_counted 4 (some .int) :: ([.fieldLink RX8 97 "TubeWatchModel" "persons" "I", .fieldLink RX8 54 "TubeWatchModel" "how" "[I"] ++ wsX80)
def wsX8_count : List Cond := .code yX8_count cX8_count 2 (some .int) :: ([.methodLink RX8 69 yX8_isBetween, .static yX8_isBetween, .initialized RX8, .code yX8_isBetween cX8_isBetween 3 (some .boolean), .methodLink RX8 80 yX8_goes, .instanceMethod yX8_goes, .selects RX8 yX8_goes yX8_goes, .code yX8_goes cX8_goes 4 (some .boolean), .fieldLink RX8 66 "TubeWatchModel" "thrown" "I", .methodLink RX8 206 yX8_counted, .instanceMethod yX8_counted, .selects RX8 yX8_counted yX8_counted, .code yX8_counted cX8_counted 4 (some .int), .fieldLink RX8 97 "TubeWatchModel" "persons" "I", .fieldLink RX8 54 "TubeWatchModel" "how" "[I"] ++ wsX80)
def wsX8_gone : List Cond := .code yX8_gone cX8_gone 1 (some .int) :: ([.fieldLink RX8 66 "TubeWatchModel" "thrown" "I", .fieldLink RX8 141 "TubeWatchModel" "gone" "I"] ++ wsX80)
def wsX8_balances : List Cond := .code yX8_balances cX8_balances 4 (some .boolean) :: ([.fieldLink RX8 66 "TubeWatchModel" "thrown" "I", .fieldLink RX8 141 "TubeWatchModel" "gone" "I", .fieldLink RX8 7 "TubeWatchModel" "smoke" "[I", .fieldLink RX8 138 "TubeWatchModel" "made" "I", .fieldLink RX8 97 "TubeWatchModel" "persons" "I", .methodLink RX8 206 yX8_counted, .instanceMethod yX8_counted, .selects RX8 yX8_counted yX8_counted, .initialized RX8, .code yX8_counted cX8_counted 4 (some .int), .fieldLink RX8 54 "TubeWatchModel" "how" "[I"] ++ wsX80)
def wsJ9_abs_0f7a4 : List Cond := .code yJ9_abs_0f7a4 cJ9_abs_0f7a4 1 (some .int) :: ([])
def wsJ9_min_f86c9 : List Cond := .code yJ9_min_f86c9 cJ9_min_f86c9 4 (some .long) :: ([])
def wsL_build_r1 : List Cond := [Cond.classLink RL 13 "java/lang/IndexOutOfBoundsException", Cond.classLink RL 15 "java/lang/IllegalArgumentException", Cond.classLink RL 17 "java/lang/IllegalStateException", Cond.methodLink RL 7 yX7_build, Cond.instanceMethod yX7_build, Cond.selects RX7 yX7_build yX7_build, Cond.initialized RX7, Cond.code yX7_build cX7_build 3 none, Cond.fieldLink RX7 79 "TubeWatch" "stepsDone" "I", Cond.fieldLink RX7 40 "TubeWatch" "doors" "LTubeWatch$Doors;", Cond.fieldLink RX7 65 "TubeWatch" "damperSegment" "I", Cond.fieldLink RX7 69 "TubeWatch" "isDamperOpen" "Z", Cond.methodLink RX7 82 yX7_requireSegment, Cond.static yX7_requireSegment, Cond.code yX7_requireSegment cX7_requireSegment 1 none, Cond.methodLink RX7 120 yX7_requireIndex, Cond.static yX7_requireIndex, Cond.code yX7_requireIndex cX7_requireIndex 2 none, Cond.classLink RX7 276 "java/lang/IndexOutOfBoundsException", Cond.initialized "java/lang/IndexOutOfBoundsException", Cond.methodLink RX7 86 yX7_requireRange, Cond.static yX7_requireRange, Cond.code yX7_requireRange cX7_requireRange 3 none, Cond.classLink RX7 285 "java/lang/IllegalArgumentException"]
def wsL_build_r2 : List Cond := [Cond.initialized "java/lang/IllegalArgumentException", Cond.methodLink RX7 90 yX7_requireState, Cond.static yX7_requireState, Cond.code yX7_requireState cX7_requireState 1 none, Cond.classLink RX7 290 "java/lang/IllegalStateException", Cond.initialized "java/lang/IllegalStateException", Cond.methodLink RX7 94 yX4_place, Cond.instanceMethod yX4_place, Cond.selects RX4 yX4_place yX4_place, Cond.initialized RX4, Cond.code yX4_place cX4_place 3 none, Cond.fieldLink RX4 9 "TubeWatch$Doors" "there" "[Z", Cond.fieldLink RX4 15 "TubeWatch$Doors" "open" "[Z", Cond.fieldLink RX4 18 "TubeWatch$Doors" "failing" "[Z"]
def wsL_build : List Cond := .codeWith yL_build cL_build 4 (some .int) [(0, 6, 9, 13), (0, 6, 12, 15), (0, 6, 15, 17)] :: ((wsL_build_r1 ++ wsL_build_r2) ++ wsX70 ++ wsX40 ++ (vx_atS RX7 280 "java/lang/IndexOutOfBoundsException" ["java/lang/RuntimeException", "java/lang/Exception"]).filter goodWord ++ (vx_atS RX7 289 "java/lang/IllegalArgumentException" ["java/lang/RuntimeException", "java/lang/Exception"]).filter goodWord ++ (vx_atS RX7 294 "java/lang/IllegalStateException" ["java/lang/RuntimeException", "java/lang/Exception"]).filter goodWord)
def wsL_people_r1 : List Cond := [Cond.classLink RL 13 "java/lang/IndexOutOfBoundsException", Cond.classLink RL 15 "java/lang/IllegalArgumentException", Cond.classLink RL 17 "java/lang/IllegalStateException", Cond.methodLink RL 19 yX7_people, Cond.instanceMethod yX7_people, Cond.selects RX7 yX7_people yX7_people, Cond.initialized RX7, Cond.code yX7_people cX7_people 3 (some .int), Cond.fieldLink RX7 54 "TubeWatch" "crowd" "LTubeWatch$Crowd;", Cond.methodLink RX7 82 yX7_requireSegment, Cond.static yX7_requireSegment, Cond.code yX7_requireSegment cX7_requireSegment 1 none, Cond.methodLink RX7 120 yX7_requireIndex, Cond.static yX7_requireIndex, Cond.code yX7_requireIndex cX7_requireIndex 2 none, Cond.classLink RX7 276 "java/lang/IndexOutOfBoundsException", Cond.initialized "java/lang/IndexOutOfBoundsException", Cond.methodLink RX7 86 yX7_requireRange, Cond.static yX7_requireRange, Cond.code yX7_requireRange cX7_requireRange 3 none, Cond.classLink RX7 285 "java/lang/IllegalArgumentException", Cond.initialized "java/lang/IllegalArgumentException", Cond.methodLink RX7 97 yX3_hasRoomFor, Cond.instanceMethod yX3_hasRoomFor]
def wsL_people_r2 : List Cond := [Cond.selects RX3 yX3_hasRoomFor yX3_hasRoomFor, Cond.initialized RX3, Cond.code yX3_hasRoomFor cX3_hasRoomFor 2 (some .boolean), Cond.fieldLink RX3 24 "TubeWatch$Crowd" "size" "I", Cond.methodLink RX7 90 yX7_requireState, Cond.static yX7_requireState, Cond.code yX7_requireState cX7_requireState 1 none, Cond.classLink RX7 290 "java/lang/IllegalStateException", Cond.initialized "java/lang/IllegalStateException", Cond.methodLink RX7 101 yX3_seat, Cond.instanceMethod yX3_seat, Cond.selects RX3 yX3_seat yX3_seat, Cond.code yX3_seat cX3_seat 4 none, Cond.fieldLink RX3 9 "TubeWatch$Crowd" "states" "[I", Cond.fieldLink RX3 15 "TubeWatch$Crowd" "places" "[I", Cond.fieldLink RX3 21 "TubeWatch$Crowd" "endSteps" "[I", Cond.methodLink RX7 105 yX3_size, Cond.instanceMethod yX3_size, Cond.selects RX3 yX3_size yX3_size, Cond.code yX3_size cX3_size 1 (some .int)]
def wsL_people : List Cond := .codeWith yL_people cL_people 5 (some .int) [(0, 10, 13, 13), (0, 10, 17, 15), (0, 10, 21, 17)] :: ((wsL_people_r1 ++ wsL_people_r2) ++ wsX70 ++ wsX30 ++ (vx_atS RX7 280 "java/lang/IndexOutOfBoundsException" ["java/lang/RuntimeException", "java/lang/Exception"]).filter goodWord ++ (vx_atS RX7 289 "java/lang/IllegalArgumentException" ["java/lang/RuntimeException", "java/lang/Exception"]).filter goodWord ++ (vx_atS RX7 294 "java/lang/IllegalStateException" ["java/lang/RuntimeException", "java/lang/Exception"]).filter goodWord)
def wsL_wind : List Cond := .codeWith yL_wind cL_wind 4 (some .int) [(0, 9, 12, 15)] :: ([.classLink RL 15 "java/lang/IllegalArgumentException", .methodLink RL 23 yX7_wind, .instanceMethod yX7_wind, .selects RX7 yX7_wind yX7_wind, .initialized RX7, .code yX7_wind cX7_wind 2 (some .int), .fieldLink RX7 19 "TubeWatch" "stream" "LTubeWatch$Stream;", .methodLink RX7 86 yX7_requireRange, .static yX7_requireRange, .code yX7_requireRange cX7_requireRange 3 none, .classLink RX7 285 "java/lang/IllegalArgumentException", .initialized "java/lang/IllegalArgumentException", .methodLink RX7 109 yX6_blow, .instanceMethod yX6_blow, .selects RX6 yX6_blow yX6_blow, .initialized RX6, .code yX6_blow cX6_blow 3 (some .int), .fieldLink RX6 13 "TubeWatch$Stream" "breeze" "I"] ++ wsX70 ++ wsX60 ++ (vx_atS RX7 289 "java/lang/IllegalArgumentException" ["java/lang/RuntimeException", "java/lang/Exception"]).filter goodWord)
def wsL_fire_r1 : List Cond := [Cond.classLink RL 13 "java/lang/IndexOutOfBoundsException", Cond.classLink RL 15 "java/lang/IllegalArgumentException", Cond.classLink RL 17 "java/lang/IllegalStateException", Cond.methodLink RL 27 yX7_fire, Cond.instanceMethod yX7_fire, Cond.selects RX7 yX7_fire yX7_fire, Cond.initialized RX7, Cond.code yX7_fire cX7_fire 3 none, Cond.fieldLink RX7 33 "TubeWatch" "blaze" "LTubeWatch$Blaze;", Cond.methodLink RX7 82 yX7_requireSegment, Cond.static yX7_requireSegment, Cond.code yX7_requireSegment cX7_requireSegment 1 none, Cond.methodLink RX7 120 yX7_requireIndex, Cond.static yX7_requireIndex, Cond.code yX7_requireIndex cX7_requireIndex 2 none, Cond.classLink RX7 276 "java/lang/IndexOutOfBoundsException", Cond.initialized "java/lang/IndexOutOfBoundsException", Cond.methodLink RX7 86 yX7_requireRange, Cond.static yX7_requireRange, Cond.code yX7_requireRange cX7_requireRange 3 none, Cond.classLink RX7 285 "java/lang/IllegalArgumentException", Cond.initialized "java/lang/IllegalArgumentException", Cond.methodLink RX7 113 yX1_isBurning, Cond.instanceMethod yX1_isBurning]
def wsL_fire_r2 : List Cond := [Cond.selects RX1 yX1_isBurning yX1_isBurning, Cond.initialized RX1, Cond.code yX1_isBurning cX1_isBurning 1 (some .boolean), Cond.fieldLink RX1 9 "TubeWatch$Blaze" "site" "I", Cond.methodLink RX7 90 yX7_requireState, Cond.static yX7_requireState, Cond.code yX7_requireState cX7_requireState 1 none, Cond.classLink RX7 290 "java/lang/IllegalStateException", Cond.initialized "java/lang/IllegalStateException", Cond.methodLink RX7 117 yX1_begin, Cond.instanceMethod yX1_begin, Cond.selects RX1 yX1_begin yX1_begin, Cond.code yX1_begin cX1_begin 3 none, Cond.fieldLink RX1 15 "TubeWatch$Blaze" "size" "I"]
def wsL_fire : List Cond := .codeWith yL_fire cL_fire 4 (some .int) [(0, 6, 9, 13), (0, 6, 12, 15), (0, 6, 15, 17)] :: ((wsL_fire_r1 ++ wsL_fire_r2) ++ wsX70 ++ wsX10 ++ (vx_atS RX7 280 "java/lang/IndexOutOfBoundsException" ["java/lang/RuntimeException", "java/lang/Exception"]).filter goodWord ++ (vx_atS RX7 289 "java/lang/IllegalArgumentException" ["java/lang/RuntimeException", "java/lang/Exception"]).filter goodWord ++ (vx_atS RX7 294 "java/lang/IllegalStateException" ["java/lang/RuntimeException", "java/lang/Exception"]).filter goodWord)
def wsL_feed : List Cond := .codeWith yL_feed cL_feed 5 (some .int) [(0, 17, 20, 13)] :: ([.classLink RL 13 "java/lang/IndexOutOfBoundsException", .methodLink RL 30 yX7_feed, .instanceMethod yX7_feed, .selects RX7 yX7_feed yX7_feed, .initialized RX7, .code yX7_feed cX7_feed 3 (some .boolean), .fieldLink RX7 58 "TubeWatch" "downFeeds" "[Z", .methodLink RX7 120 yX7_requireIndex, .static yX7_requireIndex, .code yX7_requireIndex cX7_requireIndex 2 none, .classLink RX7 276 "java/lang/IndexOutOfBoundsException", .initialized "java/lang/IndexOutOfBoundsException", .methodLink RX7 123 yX7_hasPower, .instanceMethod yX7_hasPower, .selects RX7 yX7_hasPower yX7_hasPower, .code yX7_hasPower cX7_hasPower 2 (some .boolean)] ++ wsX70 ++ (vx_atS RX7 280 "java/lang/IndexOutOfBoundsException" ["java/lang/RuntimeException", "java/lang/Exception"]).filter goodWord)
def wsL_failFan_r1 : List Cond := [Cond.classLink RL 13 "java/lang/IndexOutOfBoundsException", Cond.methodLink RL 34 yX7_failFan, Cond.instanceMethod yX7_failFan, Cond.selects RX7 yX7_failFan yX7_failFan, Cond.initialized RX7, Cond.code yX7_failFan cX7_failFan 3 (some .int), Cond.fieldLink RX7 10 "TubeWatch" "fans" "LTubeWatch$Fans;", Cond.methodLink RX7 120 yX7_requireIndex, Cond.static yX7_requireIndex, Cond.code yX7_requireIndex cX7_requireIndex 2 none, Cond.classLink RX7 276 "java/lang/IndexOutOfBoundsException", Cond.initialized "java/lang/IndexOutOfBoundsException", Cond.methodLink RX7 126 yX5_setFailing, Cond.instanceMethod yX5_setFailing, Cond.selects RX5 yX5_setFailing yX5_setFailing, Cond.initialized RX5, Cond.code yX5_setFailing cX5_setFailing 3 none, Cond.fieldLink RX5 18 "TubeWatch$Fans" "failing" "[Z", Cond.methodLink RX5 31 yX5_isFan, Cond.static yX5_isFan, Cond.code yX5_isFan cX5_isFan 1 (some .boolean), Cond.methodLink RX7 130 yX5_stateOf, Cond.instanceMethod yX5_stateOf, Cond.selects RX5 yX5_stateOf yX5_stateOf]
def wsL_failFan_r2 : List Cond := [Cond.code yX5_stateOf cX5_stateOf 2 (some .int), Cond.fieldLink RX5 15 "TubeWatch$Fans" "states" "[I"]
def wsL_failFan : List Cond := .codeWith yL_failFan cL_failFan 5 (some .int) [(0, 10, 13, 13)] :: ((wsL_failFan_r1 ++ wsL_failFan_r2) ++ wsX70 ++ wsX50 ++ (vx_atS RX7 280 "java/lang/IndexOutOfBoundsException" ["java/lang/RuntimeException", "java/lang/Exception"]).filter goodWord)
def wsL_failDoor_r1 : List Cond := [Cond.classLink RL 13 "java/lang/IndexOutOfBoundsException", Cond.methodLink RL 38 yX7_failDoor, Cond.instanceMethod yX7_failDoor, Cond.selects RX7 yX7_failDoor yX7_failDoor, Cond.initialized RX7, Cond.code yX7_failDoor cX7_failDoor 3 (some .boolean), Cond.fieldLink RX7 40 "TubeWatch" "doors" "LTubeWatch$Doors;", Cond.methodLink RX7 133 yX7_requireDoor, Cond.instanceMethod yX7_requireDoor, Cond.selects RX7 yX7_requireDoor yX7_requireDoor, Cond.code yX7_requireDoor cX7_requireDoor 2 none, Cond.classLink RX7 276 "java/lang/IndexOutOfBoundsException", Cond.initialized "java/lang/IndexOutOfBoundsException", Cond.methodLink RX7 273 yX4_isThere, Cond.instanceMethod yX4_isThere, Cond.selects RX4 yX4_isThere yX4_isThere, Cond.initialized RX4, Cond.code yX4_isThere cX4_isThere 2 (some .boolean), Cond.fieldLink RX4 9 "TubeWatch$Doors" "there" "[Z", Cond.static yX7_isSegment, Cond.code yX7_isSegment cX7_isSegment 1 (some .boolean), Cond.methodLink RX7 136 yX4_setFailing, Cond.instanceMethod yX4_setFailing, Cond.selects RX4 yX4_setFailing yX4_setFailing]
def wsL_failDoor_r2 : List Cond := [Cond.code yX4_setFailing cX4_setFailing 3 none, Cond.fieldLink RX4 18 "TubeWatch$Doors" "failing" "[Z", Cond.methodLink RX7 137 yX4_isOpen, Cond.instanceMethod yX4_isOpen, Cond.selects RX4 yX4_isOpen yX4_isOpen, Cond.code yX4_isOpen cX4_isOpen 2 (some .boolean), Cond.fieldLink RX4 15 "TubeWatch$Doors" "open" "[Z"]
def wsL_failDoor : List Cond := .codeWith yL_failDoor cL_failDoor 5 (some .int) [(0, 17, 20, 13)] :: ((wsL_failDoor_r1 ++ wsL_failDoor_r2) ++ wsX70 ++ wsX40 ++ (vx_atS RX7 280 "java/lang/IndexOutOfBoundsException" ["java/lang/RuntimeException", "java/lang/Exception"]).filter goodWord)
def wsL_failDetector : List Cond := .codeWith yL_failDetector cL_failDetector 5 (some .int) [(0, 7, 10, 13)] :: ([.classLink RL 13 "java/lang/IndexOutOfBoundsException", .methodLink RL 41 yX7_failDetector, .instanceMethod yX7_failDetector, .selects RX7 yX7_failDetector yX7_failDetector, .initialized RX7, .code yX7_failDetector cX7_failDetector 4 none, .fieldLink RX7 62 "TubeWatch" "failingDetectors" "[Z", .methodLink RX7 82 yX7_requireSegment, .static yX7_requireSegment, .code yX7_requireSegment cX7_requireSegment 1 none, .methodLink RX7 120 yX7_requireIndex, .static yX7_requireIndex, .code yX7_requireIndex cX7_requireIndex 2 none, .classLink RX7 276 "java/lang/IndexOutOfBoundsException", .initialized "java/lang/IndexOutOfBoundsException"] ++ wsX70 ++ (vx_atS RX7 280 "java/lang/IndexOutOfBoundsException" ["java/lang/RuntimeException", "java/lang/Exception"]).filter goodWord)
def wsL_act_r1 : List Cond := [Cond.classLink RL 15 "java/lang/IllegalArgumentException", Cond.classLink RL 17 "java/lang/IllegalStateException", Cond.methodLink RL 45 yX7_act, Cond.instanceMethod yX7_act, Cond.selects RX7 yX7_act yX7_act, Cond.initialized RX7, Cond.code yX7_act cX7_act 4 (some .int), Cond.fieldLink RX7 76 "TubeWatch" "alarmSegment" "I", Cond.fieldLink RX7 47 "TubeWatch" "chart" "LTubeWatch$Chart;", Cond.methodLink RX7 86 yX7_requireRange, Cond.static yX7_requireRange, Cond.code yX7_requireRange cX7_requireRange 3 none, Cond.classLink RX7 285 "java/lang/IllegalArgumentException", Cond.initialized "java/lang/IllegalArgumentException", Cond.methodLink RX7 140 yX2_hasRoom, Cond.instanceMethod yX2_hasRoom, Cond.selects RX2 yX2_hasRoom yX2_hasRoom, Cond.initialized RX2, Cond.code yX2_hasRoom cX2_hasRoom 1 (some .boolean), Cond.fieldLink RX2 21 "TubeWatch$Chart" "size" "I", Cond.methodLink RX7 90 yX7_requireState, Cond.static yX7_requireState, Cond.code yX7_requireState cX7_requireState 1 none, Cond.classLink RX7 290 "java/lang/IllegalStateException"]
def wsL_act_r2 : List Cond := [Cond.initialized "java/lang/IllegalStateException", Cond.methodLink RX7 143 yX2_put, Cond.instanceMethod yX2_put, Cond.selects RX2 yX2_put yX2_put, Cond.code yX2_put cX2_put 4 (some .int), Cond.fieldLink RX2 9 "TubeWatch$Chart" "kinds" "[I", Cond.fieldLink RX2 15 "TubeWatch$Chart" "waits" "[I", Cond.fieldLink RX2 18 "TubeWatch$Chart" "steps" "[I", Cond.methodLink RX2 31 yX2_hasRoom]
def wsL_act : List Cond := .codeWith yL_act cL_act 6 (some .int) [(0, 12, 15, 15), (0, 12, 19, 17)] :: ((wsL_act_r1 ++ wsL_act_r2) ++ wsX70 ++ wsX20 ++ (vx_atS RX7 289 "java/lang/IllegalArgumentException" ["java/lang/RuntimeException", "java/lang/Exception"]).filter goodWord ++ (vx_atS RX7 294 "java/lang/IllegalStateException" ["java/lang/RuntimeException", "java/lang/Exception"]).filter goodWord)
def wsL_command_r1 : List Cond := [Cond.classLink RL 13 "java/lang/IndexOutOfBoundsException", Cond.classLink RL 15 "java/lang/IllegalArgumentException", Cond.methodLink RL 49 yX7_command, Cond.instanceMethod yX7_command, Cond.selects RX7 yX7_command yX7_command, Cond.initialized RX7, Cond.code yX7_command cX7_command 3 (some .int), Cond.fieldLink RX7 10 "TubeWatch" "fans" "LTubeWatch$Fans;", Cond.methodLink RX7 120 yX7_requireIndex, Cond.static yX7_requireIndex, Cond.code yX7_requireIndex cX7_requireIndex 2 none, Cond.classLink RX7 276 "java/lang/IndexOutOfBoundsException", Cond.initialized "java/lang/IndexOutOfBoundsException", Cond.methodLink RX7 86 yX7_requireRange, Cond.static yX7_requireRange, Cond.code yX7_requireRange cX7_requireRange 3 none, Cond.classLink RX7 285 "java/lang/IllegalArgumentException", Cond.initialized "java/lang/IllegalArgumentException", Cond.methodLink RX7 147 yX5_order, Cond.instanceMethod yX5_order, Cond.selects RX5 yX5_order yX5_order, Cond.initialized RX5, Cond.code yX5_order cX5_order 4 (some .int), Cond.fieldLink RX5 9 "TubeWatch$Fans" "orders" "[I"]
def wsL_command_r2 : List Cond := [Cond.methodLink RX5 31 yX5_isFan, Cond.static yX5_isFan, Cond.code yX5_isFan cX5_isFan 1 (some .boolean)]
def wsL_command : List Cond := .codeWith yL_command cL_command 5 (some .int) [(0, 10, 13, 13), (0, 10, 17, 15)] :: ((wsL_command_r1 ++ wsL_command_r2) ++ wsX70 ++ wsX50 ++ (vx_atS RX7 280 "java/lang/IndexOutOfBoundsException" ["java/lang/RuntimeException", "java/lang/Exception"]).filter goodWord ++ (vx_atS RX7 289 "java/lang/IllegalArgumentException" ["java/lang/RuntimeException", "java/lang/Exception"]).filter goodWord)
def wsL_step_r1 : List Cond := [Cond.classLink RL 15 "java/lang/IllegalArgumentException", Cond.methodLink RL 52 yX7_step, Cond.instanceMethod yX7_step, Cond.selects RX7 yX7_step yX7_step, Cond.initialized RX7, Cond.code yX7_step cX7_step 3 (some .int), Cond.fieldLink RX7 79 "TubeWatch" "stepsDone" "I", Cond.methodLink RX7 86 yX7_requireRange, Cond.static yX7_requireRange, Cond.code yX7_requireRange cX7_requireRange 3 none, Cond.classLink RX7 285 "java/lang/IllegalArgumentException", Cond.initialized "java/lang/IllegalArgumentException", Cond.methodLink RX7 151 yX7_doStep, Cond.instanceMethod yX7_doStep, Cond.selects RX7 yX7_doStep yX7_doStep, Cond.code yX7_doStep cX7_doStep 1 none, Cond.fieldLink RX7 10 "TubeWatch" "fans" "LTubeWatch$Fans;", Cond.fieldLink RX7 19 "TubeWatch" "stream" "LTubeWatch$Stream;", Cond.fieldLink RX7 54 "TubeWatch" "crowd" "LTubeWatch$Crowd;", Cond.fieldLink RX7 73 "TubeWatch" "isTold" "Z", Cond.fieldLink RX7 26 "TubeWatch" "air" "LTubeWatch$Air;", Cond.fieldLink RX7 40 "TubeWatch" "doors" "LTubeWatch$Doors;", Cond.methodLink RX7 123 yX7_hasPower, Cond.instanceMethod yX7_hasPower]
def wsL_step_r2 : List Cond := [Cond.selects RX7 yX7_hasPower yX7_hasPower, Cond.code yX7_hasPower cX7_hasPower 2 (some .boolean), Cond.fieldLink RX7 58 "TubeWatch" "downFeeds" "[Z", Cond.methodLink RX7 198 yX5_turn, Cond.instanceMethod yX5_turn, Cond.selects RX5 yX5_turn yX5_turn, Cond.initialized RX5, Cond.code yX5_turn cX5_turn 3 none, Cond.fieldLink RX5 18 "TubeWatch$Fans" "failing" "[Z", Cond.fieldLink RX5 15 "TubeWatch$Fans" "states" "[I", Cond.fieldLink RX5 9 "TubeWatch$Fans" "orders" "[I", Cond.methodLink RX5 22 yX5_oneNearer, Cond.static yX5_oneNearer, Cond.code yX5_oneNearer cX5_oneNearer 2 (some .int), Cond.methodLink RX5 26 yJ6_compare_7cf53, Cond.static yJ6_compare_7cf53, Cond.initialized RJ6, Cond.code yJ6_compare_7cf53 cJ6_compare_7cf53 2 (some .int), Cond.methodLink RX7 201 yX5_push, Cond.instanceMethod yX5_push, Cond.selects RX5 yX5_push yX5_push, Cond.code yX5_push cX5_push 3 (some .int), Cond.methodLink RX7 204 yX6_become, Cond.instanceMethod yX6_become]
def wsL_step_r3 : List Cond := [Cond.selects RX6 yX6_become yX6_become, Cond.initialized RX6, Cond.code yX6_become cX6_become 4 none, Cond.constantDouble RX6 21 (4624633867356078080), Cond.fieldLink RX6 13 "TubeWatch$Stream" "breeze" "I", Cond.fieldLink RX6 17 "TubeWatch$Stream" "isTrafficStopped" "Z", Cond.constantDouble RX6 23 (4617315517961601024), Cond.fieldLink RX6 7 "TubeWatch$Stream" "speed" "D", Cond.constantDouble RX6 29 (4616189618054758400), Cond.methodLink RX6 25 yX6_held, Cond.static yX6_held, Cond.code yX6_held cX6_held 2 (some .double), Cond.constantDouble RX6 31 (4636033603912859648), Cond.constantDouble RX6 33 (13859405640767635456), Cond.methodLink RX7 207 yX7_burn, Cond.instanceMethod yX7_burn, Cond.selects RX7 yX7_burn yX7_burn, Cond.code yX7_burn cX7_burn 1 none, Cond.fieldLink RX7 33 "TubeWatch" "blaze" "LTubeWatch$Blaze;", Cond.methodLink RX7 113 yX1_isBurning, Cond.instanceMethod yX1_isBurning, Cond.selects RX1 yX1_isBurning yX1_isBurning, Cond.initialized RX1, Cond.code yX1_isBurning cX1_isBurning 1 (some .boolean)]
def wsL_step_r4 : List Cond := [Cond.fieldLink RX1 9 "TubeWatch$Blaze" "site" "I", Cond.methodLink RX7 223 yX1_place, Cond.instanceMethod yX1_place, Cond.selects RX1 yX1_place yX1_place, Cond.code yX1_place cX1_place 1 (some .int), Cond.methodLink RX7 225 yX1_burn, Cond.instanceMethod yX1_burn, Cond.selects RX1 yX1_burn yX1_burn, Cond.code yX1_burn cX1_burn 3 (some .int), Cond.fieldLink RX1 15 "TubeWatch$Blaze" "size" "I", Cond.fieldLink RX1 18 "TubeWatch$Blaze" "age" "J", Cond.constantLong RX1 32 (4), Cond.methodLink RX1 34 Lib.MathLoose.min_long.x, Cond.static Lib.MathLoose.min_long.x, Cond.initialized "java/lang/Math", Cond.code Lib.MathLoose.min_long.x Lib.MathLoose.min_long.code 4 (some .long), Cond.fieldLink RX1 25 "TubeWatch$Blaze" "isFoamOn" "Z", Cond.fieldLink RX1 22 "TubeWatch$Blaze" "water" "I", Cond.fieldLink RX1 29 "TubeWatch$Blaze" "made" "I", Cond.methodLink RX7 228 yX0_feedFrom, Cond.instanceMethod yX0_feedFrom, Cond.selects RX0 yX0_feedFrom yX0_feedFrom, Cond.initialized RX0, Cond.code yX0_feedFrom cX0_feedFrom 3 none]
def wsL_step_r5 : List Cond := [Cond.fieldLink RX0 9 "TubeWatch$Air" "smoke" "[I", Cond.fieldLink RX0 15 "TubeWatch$Air" "heat" "[I", Cond.static yX7_isSegment, Cond.code yX7_isSegment cX7_isSegment 1 (some .boolean), Cond.methodLink RX7 210 yX7_moveAir, Cond.instanceMethod yX7_moveAir, Cond.selects RX7 yX7_moveAir yX7_moveAir, Cond.code yX7_moveAir cX7_moveAir 1 none, Cond.fieldLink RX7 69 "TubeWatch" "isDamperOpen" "Z", Cond.fieldLink RX7 65 "TubeWatch" "damperSegment" "I", Cond.methodLink RX7 171 yX6_speed, Cond.instanceMethod yX6_speed, Cond.selects RX6 yX6_speed yX6_speed, Cond.code yX6_speed cX6_speed 1 (some .double), Cond.methodLink RX7 231 yX0_drift, Cond.instanceMethod yX0_drift, Cond.selects RX0 yX0_drift yX0_drift, Cond.code yX0_drift cX0_drift 5 none, Cond.fieldLink RX0 18 "TubeWatch$Air" "leaving" "[I", Cond.methodLink RX0 29 yX0_withoutSign, Cond.static yX0_withoutSign, Cond.code yX0_withoutSign cX0_withoutSign 2 (some .double), Cond.methodLink RX0 33 yX0_side, Cond.static yX0_side]
def wsL_step_r6 : List Cond := [Cond.code yX0_side cX0_side 2 (some .int), Cond.methodLink RX0 37 yX0_shift, Cond.instanceMethod yX0_shift, Cond.selects RX0 yX0_shift yX0_shift, Cond.code yX0_shift cX0_shift 4 none, Cond.fieldLink RX0 21 "TubeWatch$Air" "lost" "I", Cond.methodLink RX7 235 yX0_backUp, Cond.instanceMethod yX0_backUp, Cond.selects RX0 yX0_backUp yX0_backUp, Cond.code yX0_backUp cX0_backUp 4 none, Cond.constantDouble RX0 41 (4629137466983448576), Cond.methodLink RX0 43 yX0_smokeIn, Cond.instanceMethod yX0_smokeIn, Cond.selects RX0 yX0_smokeIn yX0_smokeIn, Cond.code yX0_smokeIn cX0_smokeIn 2 (some .int), Cond.methodLink RX7 239 yX0_drawOff, Cond.instanceMethod yX0_drawOff, Cond.selects RX0 yX0_drawOff yX0_drawOff, Cond.code yX0_drawOff cX0_drawOff 2 none, Cond.methodLink RX7 242 yX0_cool, Cond.instanceMethod yX0_cool, Cond.selects RX0 yX0_cool yX0_cool, Cond.code yX0_cool cX0_cool 2 none, Cond.methodLink RX7 213 yX7_watch]
def wsL_step_r7 : List Cond := [Cond.instanceMethod yX7_watch, Cond.selects RX7 yX7_watch yX7_watch, Cond.code yX7_watch cX7_watch 2 none, Cond.fieldLink RX7 76 "TubeWatch" "alarmSegment" "I", Cond.fieldLink RX7 47 "TubeWatch" "chart" "LTubeWatch$Chart;", Cond.methodLink RX7 160 yX7_tellingIn, Cond.instanceMethod yX7_tellingIn, Cond.selects RX7 yX7_tellingIn yX7_tellingIn, Cond.code yX7_tellingIn cX7_tellingIn 4 (some .int), Cond.methodLink RX7 154 yX0_smokeIn, Cond.methodLink RX7 157 yX0_heatIn, Cond.instanceMethod yX0_heatIn, Cond.selects RX0 yX0_heatIn yX0_heatIn, Cond.code yX0_heatIn cX0_heatIn 2 (some .int), Cond.methodLink RX7 269 yX7_detectorWorks, Cond.instanceMethod yX7_detectorWorks, Cond.selects RX7 yX7_detectorWorks yX7_detectorWorks, Cond.code yX7_detectorWorks cX7_detectorWorks 4 (some .boolean), Cond.fieldLink RX7 62 "TubeWatch" "failingDetectors" "[Z", Cond.methodLink RX7 163 yX3_insideOf, Cond.instanceMethod yX3_insideOf, Cond.selects RX3 yX3_insideOf yX3_insideOf, Cond.initialized RX3, Cond.code yX3_insideOf cX3_insideOf 4 (some .int)]
def wsL_step_r8 : List Cond := [Cond.fieldLink RX3 24 "TubeWatch$Crowd" "size" "I", Cond.fieldLink RX3 15 "TubeWatch$Crowd" "places" "[I", Cond.methodLink RX7 245 yX2_start, Cond.instanceMethod yX2_start, Cond.selects RX2 yX2_start yX2_start, Cond.initialized RX2, Cond.code yX2_start cX2_start 2 none, Cond.fieldLink RX2 28 "TubeWatch$Chart" "since" "I", Cond.methodLink RX7 216 yX7_followChart, Cond.instanceMethod yX7_followChart, Cond.selects RX7 yX7_followChart yX7_followChart, Cond.code yX7_followChart cX7_followChart 2 none, Cond.methodLink RX7 248 yX2_isDue, Cond.instanceMethod yX2_isDue, Cond.selects RX2 yX2_isDue yX2_isDue, Cond.code yX2_isDue cX2_isDue 2 (some .boolean), Cond.fieldLink RX2 25 "TubeWatch$Chart" "next" "I", Cond.fieldLink RX2 15 "TubeWatch$Chart" "waits" "[I", Cond.methodLink RX2 35 yX2_isAct, Cond.instanceMethod yX2_isAct, Cond.selects RX2 yX2_isAct yX2_isAct, Cond.code yX2_isAct cX2_isAct 2 (some .boolean), Cond.fieldLink RX2 21 "TubeWatch$Chart" "size" "I", Cond.methodLink RX7 251 yX2_finishNext]
def wsL_step_r9 : List Cond := [Cond.instanceMethod yX2_finishNext, Cond.selects RX2 yX2_finishNext yX2_finishNext, Cond.code yX2_finishNext cX2_finishNext 3 (some .int), Cond.fieldLink RX2 9 "TubeWatch$Chart" "kinds" "[I", Cond.fieldLink RX2 18 "TubeWatch$Chart" "steps" "[I", Cond.methodLink RX7 254 yX7_perform, Cond.instanceMethod yX7_perform, Cond.selects RX7 yX7_perform yX7_perform, Cond.code yX7_perform cX7_perform 2 none, Cond.methodLink RX7 257 yX6_stopTraffic, Cond.instanceMethod yX6_stopTraffic, Cond.selects RX6 yX6_stopTraffic yX6_stopTraffic, Cond.code yX6_stopTraffic cX6_stopTraffic 1 none, Cond.methodLink RX7 260 yX4_openAll, Cond.instanceMethod yX4_openAll, Cond.selects RX4 yX4_openAll yX4_openAll, Cond.initialized RX4, Cond.code yX4_openAll cX4_openAll 2 none, Cond.fieldLink RX4 9 "TubeWatch$Doors" "there" "[Z", Cond.fieldLink RX4 18 "TubeWatch$Doors" "failing" "[Z", Cond.fieldLink RX4 15 "TubeWatch$Doors" "open" "[Z", Cond.methodLink RX7 263 yX5_orderAll, Cond.instanceMethod yX5_orderAll, Cond.selects RX5 yX5_orderAll yX5_orderAll]
def wsL_step_r10 : List Cond := [Cond.code yX5_orderAll cX5_orderAll 3 none, Cond.methodLink RX7 266 yX1_turnFoamOn, Cond.instanceMethod yX1_turnFoamOn, Cond.selects RX1 yX1_turnFoamOn yX1_turnFoamOn, Cond.code yX1_turnFoamOn cX1_turnFoamOn 1 none, Cond.methodLink RX7 219 yX3_live, Cond.instanceMethod yX3_live, Cond.selects RX3 yX3_live yX3_live, Cond.code yX3_live cX3_live 6 none, Cond.fieldLink RX3 9 "TubeWatch$Crowd" "states" "[I", Cond.methodLink RX3 28 yX0_smokeIn, Cond.methodLink RX3 34 yX3_liveOne, Cond.instanceMethod yX3_liveOne, Cond.selects RX3 yX3_liveOne yX3_liveOne, Cond.code yX3_liveOne cX3_liveOne 6 none, Cond.fieldLink RX3 21 "TubeWatch$Crowd" "endSteps" "[I", Cond.fieldLink RX3 18 "TubeWatch$Crowd" "readySteps" "[I", Cond.methodLink RX3 38 yX3_isPerson, Cond.instanceMethod yX3_isPerson, Cond.selects RX3 yX3_isPerson yX3_isPerson, Cond.code yX3_isPerson cX3_isPerson 2 (some .boolean), Cond.methodLink RX3 42 yX3_goOn, Cond.instanceMethod yX3_goOn, Cond.selects RX3 yX3_goOn yX3_goOn]
def wsL_step_r11 : List Cond := [Cond.code yX3_goOn cX3_goOn 6 none, Cond.methodLink RX3 46 yX4_nearestWay, Cond.instanceMethod yX4_nearestWay, Cond.selects RX4 yX4_nearestWay yX4_nearestWay, Cond.code yX4_nearestWay cX4_nearestWay 6 (some .int), Cond.methodLink RX4 25 Lib.Math.abs.name, Cond.static Lib.Math.abs.name, Cond.code Lib.Math.abs.name Lib.Math.abs.code 1 (some .int), Cond.methodLink RX3 51 yJ6_compare_7cf53]
def wsL_step : List Cond := .codeWith yL_step cL_step 4 (some .int) [(0, 9, 12, 15)] :: ((wsL_step_r1 ++ (wsL_step_r2 ++ (wsL_step_r3 ++ (wsL_step_r4 ++ (wsL_step_r5 ++ (wsL_step_r6 ++ (wsL_step_r7 ++ (wsL_step_r8 ++ (wsL_step_r9 ++ (wsL_step_r10 ++ wsL_step_r11)))))))))) ++ wsX70 ++ wsX50 ++ wsX60 ++ wsX10 ++ wsX00 ++ wsX30 ++ wsX20 ++ wsX40 ++ (vx_atS RX7 289 "java/lang/IllegalArgumentException" ["java/lang/RuntimeException", "java/lang/Exception"]).filter goodWord)
def wsL_segment_r1 : List Cond := [Cond.classLink RL 13 "java/lang/IndexOutOfBoundsException", Cond.classLink RL 15 "java/lang/IllegalArgumentException", Cond.methodLink RL 55 yX7_segment, Cond.instanceMethod yX7_segment, Cond.selects RX7 yX7_segment yX7_segment, Cond.initialized RX7, Cond.code yX7_segment cX7_segment 3 (some .int), Cond.fieldLink RX7 26 "TubeWatch" "air" "LTubeWatch$Air;", Cond.fieldLink RX7 54 "TubeWatch" "crowd" "LTubeWatch$Crowd;", Cond.methodLink RX7 82 yX7_requireSegment, Cond.static yX7_requireSegment, Cond.code yX7_requireSegment cX7_requireSegment 1 none, Cond.methodLink RX7 120 yX7_requireIndex, Cond.static yX7_requireIndex, Cond.code yX7_requireIndex cX7_requireIndex 2 none, Cond.classLink RX7 276 "java/lang/IndexOutOfBoundsException", Cond.initialized "java/lang/IndexOutOfBoundsException", Cond.methodLink RX7 86 yX7_requireRange, Cond.static yX7_requireRange, Cond.code yX7_requireRange cX7_requireRange 3 none, Cond.classLink RX7 285 "java/lang/IllegalArgumentException", Cond.initialized "java/lang/IllegalArgumentException", Cond.methodLink RX7 154 yX0_smokeIn, Cond.instanceMethod yX0_smokeIn]
def wsL_segment_r2 : List Cond := [Cond.selects RX0 yX0_smokeIn yX0_smokeIn, Cond.initialized RX0, Cond.code yX0_smokeIn cX0_smokeIn 2 (some .int), Cond.fieldLink RX0 9 "TubeWatch$Air" "smoke" "[I", Cond.static yX7_isSegment, Cond.code yX7_isSegment cX7_isSegment 1 (some .boolean), Cond.methodLink RX7 157 yX0_heatIn, Cond.instanceMethod yX0_heatIn, Cond.selects RX0 yX0_heatIn yX0_heatIn, Cond.code yX0_heatIn cX0_heatIn 2 (some .int), Cond.fieldLink RX0 15 "TubeWatch$Air" "heat" "[I", Cond.methodLink RX7 160 yX7_tellingIn, Cond.instanceMethod yX7_tellingIn, Cond.selects RX7 yX7_tellingIn yX7_tellingIn, Cond.code yX7_tellingIn cX7_tellingIn 4 (some .int), Cond.methodLink RX7 269 yX7_detectorWorks, Cond.instanceMethod yX7_detectorWorks, Cond.selects RX7 yX7_detectorWorks yX7_detectorWorks, Cond.code yX7_detectorWorks cX7_detectorWorks 4 (some .boolean), Cond.fieldLink RX7 62 "TubeWatch" "failingDetectors" "[Z", Cond.methodLink RX7 163 yX3_insideOf, Cond.instanceMethod yX3_insideOf, Cond.selects RX3 yX3_insideOf yX3_insideOf, Cond.initialized RX3]
def wsL_segment_r3 : List Cond := [Cond.code yX3_insideOf cX3_insideOf 4 (some .int), Cond.fieldLink RX3 24 "TubeWatch$Crowd" "size" "I", Cond.fieldLink RX3 15 "TubeWatch$Crowd" "places" "[I", Cond.methodLink RX7 166 yX7_doorAnswer, Cond.instanceMethod yX7_doorAnswer, Cond.selects RX7 yX7_doorAnswer yX7_doorAnswer, Cond.code yX7_doorAnswer cX7_doorAnswer 2 (some .int), Cond.fieldLink RX7 40 "TubeWatch" "doors" "LTubeWatch$Doors;", Cond.methodLink RX7 273 yX4_isThere, Cond.instanceMethod yX4_isThere, Cond.selects RX4 yX4_isThere yX4_isThere, Cond.initialized RX4, Cond.code yX4_isThere cX4_isThere 2 (some .boolean), Cond.fieldLink RX4 9 "TubeWatch$Doors" "there" "[Z", Cond.methodLink RX7 137 yX4_isOpen, Cond.instanceMethod yX4_isOpen, Cond.selects RX4 yX4_isOpen yX4_isOpen, Cond.code yX4_isOpen cX4_isOpen 2 (some .boolean), Cond.fieldLink RX4 15 "TubeWatch$Doors" "open" "[Z"]
def wsL_segment : List Cond := .codeWith yL_segment cL_segment 5 (some .int) [(0, 10, 13, 13), (0, 10, 17, 15)] :: ((wsL_segment_r1 ++ (wsL_segment_r2 ++ wsL_segment_r3)) ++ wsX70 ++ wsX00 ++ wsX30 ++ wsX40 ++ (vx_atS RX7 280 "java/lang/IndexOutOfBoundsException" ["java/lang/RuntimeException", "java/lang/Exception"]).filter goodWord ++ (vx_atS RX7 289 "java/lang/IllegalArgumentException" ["java/lang/RuntimeException", "java/lang/Exception"]).filter goodWord)
def wsL_fan : List Cond := .codeWith yL_fan cL_fan 4 (some .int) [(0, 9, 12, 13)] :: ([.classLink RL 13 "java/lang/IndexOutOfBoundsException", .methodLink RL 58 yX7_fan, .instanceMethod yX7_fan, .selects RX7 yX7_fan yX7_fan, .initialized RX7, .code yX7_fan cX7_fan 2 (some .int), .fieldLink RX7 10 "TubeWatch" "fans" "LTubeWatch$Fans;", .methodLink RX7 120 yX7_requireIndex, .static yX7_requireIndex, .code yX7_requireIndex cX7_requireIndex 2 none, .classLink RX7 276 "java/lang/IndexOutOfBoundsException", .initialized "java/lang/IndexOutOfBoundsException", .methodLink RX7 130 yX5_stateOf, .instanceMethod yX5_stateOf, .selects RX5 yX5_stateOf yX5_stateOf, .initialized RX5, .code yX5_stateOf cX5_stateOf 2 (some .int), .fieldLink RX5 15 "TubeWatch$Fans" "states" "[I", .methodLink RX5 31 yX5_isFan, .static yX5_isFan, .code yX5_isFan cX5_isFan 1 (some .boolean)] ++ wsX70 ++ wsX50 ++ (vx_atS RX7 280 "java/lang/IndexOutOfBoundsException" ["java/lang/RuntimeException", "java/lang/Exception"]).filter goodWord)
def wsL_done_r1 : List Cond := [Cond.classLink RL 13 "java/lang/IndexOutOfBoundsException", Cond.methodLink RL 61 yX7_done, Cond.instanceMethod yX7_done, Cond.selects RX7 yX7_done yX7_done, Cond.initialized RX7, Cond.code yX7_done cX7_done 2 (some .int), Cond.fieldLink RX7 47 "TubeWatch" "chart" "LTubeWatch$Chart;", Cond.methodLink RX7 175 yX2_size, Cond.instanceMethod yX2_size, Cond.selects RX2 yX2_size yX2_size, Cond.initialized RX2, Cond.code yX2_size cX2_size 1 (some .int), Cond.fieldLink RX2 21 "TubeWatch$Chart" "size" "I", Cond.methodLink RX7 120 yX7_requireIndex, Cond.static yX7_requireIndex, Cond.code yX7_requireIndex cX7_requireIndex 2 none, Cond.classLink RX7 276 "java/lang/IndexOutOfBoundsException", Cond.initialized "java/lang/IndexOutOfBoundsException", Cond.methodLink RX7 176 yX2_stepOf, Cond.instanceMethod yX2_stepOf, Cond.selects RX2 yX2_stepOf yX2_stepOf, Cond.code yX2_stepOf cX2_stepOf 2 (some .int), Cond.fieldLink RX2 18 "TubeWatch$Chart" "steps" "[I", Cond.methodLink RX2 35 yX2_isAct]
def wsL_done_r2 : List Cond := [Cond.instanceMethod yX2_isAct, Cond.selects RX2 yX2_isAct yX2_isAct, Cond.code yX2_isAct cX2_isAct 2 (some .boolean)]
def wsL_done : List Cond := .codeWith yL_done cL_done 4 (some .int) [(0, 9, 12, 13)] :: ((wsL_done_r1 ++ wsL_done_r2) ++ wsX70 ++ wsX20 ++ (vx_atS RX7 280 "java/lang/IndexOutOfBoundsException" ["java/lang/RuntimeException", "java/lang/Exception"]).filter goodWord)
def wsL_person_r1 : List Cond := [Cond.classLink RL 13 "java/lang/IndexOutOfBoundsException", Cond.classLink RL 15 "java/lang/IllegalArgumentException", Cond.methodLink RL 64 yX7_person, Cond.instanceMethod yX7_person, Cond.selects RX7 yX7_person yX7_person, Cond.initialized RX7, Cond.code yX7_person cX7_person 3 (some .int), Cond.fieldLink RX7 54 "TubeWatch" "crowd" "LTubeWatch$Crowd;", Cond.methodLink RX7 105 yX3_size, Cond.instanceMethod yX3_size, Cond.selects RX3 yX3_size yX3_size, Cond.initialized RX3, Cond.code yX3_size cX3_size 1 (some .int), Cond.fieldLink RX3 24 "TubeWatch$Crowd" "size" "I", Cond.methodLink RX7 120 yX7_requireIndex, Cond.static yX7_requireIndex, Cond.code yX7_requireIndex cX7_requireIndex 2 none, Cond.classLink RX7 276 "java/lang/IndexOutOfBoundsException", Cond.initialized "java/lang/IndexOutOfBoundsException", Cond.methodLink RX7 86 yX7_requireRange, Cond.static yX7_requireRange, Cond.code yX7_requireRange cX7_requireRange 3 none, Cond.classLink RX7 285 "java/lang/IllegalArgumentException", Cond.initialized "java/lang/IllegalArgumentException"]
def wsL_person_r2 : List Cond := [Cond.methodLink RX7 179 yX3_stateOf, Cond.instanceMethod yX3_stateOf, Cond.selects RX3 yX3_stateOf yX3_stateOf, Cond.code yX3_stateOf cX3_stateOf 2 (some .int), Cond.fieldLink RX3 9 "TubeWatch$Crowd" "states" "[I", Cond.methodLink RX3 38 yX3_isPerson, Cond.instanceMethod yX3_isPerson, Cond.selects RX3 yX3_isPerson yX3_isPerson, Cond.code yX3_isPerson cX3_isPerson 2 (some .boolean), Cond.methodLink RX7 180 yX3_segmentOf, Cond.instanceMethod yX3_segmentOf, Cond.selects RX3 yX3_segmentOf yX3_segmentOf, Cond.code yX3_segmentOf cX3_segmentOf 2 (some .int), Cond.fieldLink RX3 15 "TubeWatch$Crowd" "places" "[I", Cond.methodLink RX7 183 yX3_endOf, Cond.instanceMethod yX3_endOf, Cond.selects RX3 yX3_endOf yX3_endOf, Cond.code yX3_endOf cX3_endOf 2 (some .int), Cond.fieldLink RX3 21 "TubeWatch$Crowd" "endSteps" "[I"]
def wsL_person : List Cond := .codeWith yL_person cL_person 5 (some .int) [(0, 10, 13, 13), (0, 10, 17, 15)] :: ((wsL_person_r1 ++ wsL_person_r2) ++ wsX70 ++ wsX30 ++ (vx_atS RX7 280 "java/lang/IndexOutOfBoundsException" ["java/lang/RuntimeException", "java/lang/Exception"]).filter goodWord ++ (vx_atS RX7 289 "java/lang/IllegalArgumentException" ["java/lang/RuntimeException", "java/lang/Exception"]).filter goodWord)
def wsL_count : List Cond := .codeWith yL_count cL_count 4 (some .int) [(0, 9, 12, 15)] :: ([.classLink RL 15 "java/lang/IllegalArgumentException", .methodLink RL 67 yX7_count, .instanceMethod yX7_count, .selects RX7 yX7_count yX7_count, .initialized RX7, .code yX7_count cX7_count 2 (some .int), .fieldLink RX7 54 "TubeWatch" "crowd" "LTubeWatch$Crowd;", .methodLink RX7 86 yX7_requireRange, .static yX7_requireRange, .code yX7_requireRange cX7_requireRange 3 none, .classLink RX7 285 "java/lang/IllegalArgumentException", .initialized "java/lang/IllegalArgumentException", .methodLink RX7 186 yX3_howMany, .instanceMethod yX3_howMany, .selects RX3 yX3_howMany yX3_howMany, .initialized RX3, .code yX3_howMany cX3_howMany 4 (some .int), .fieldLink RX3 24 "TubeWatch$Crowd" "size" "I", .fieldLink RX3 9 "TubeWatch$Crowd" "states" "[I"] ++ wsX70 ++ wsX30 ++ (vx_atS RX7 289 "java/lang/IllegalArgumentException" ["java/lang/RuntimeException", "java/lang/Exception"]).filter goodWord)
def wsL_law0_r1 : List Cond := [Cond.classLink RL 8 RX7, Cond.instantiable RX7 14, Cond.initialized RX7, Cond.classLink RL 71 RX8, Cond.instantiable RX8 37, Cond.initialized RX8, Cond.arrayClass .long, Cond.methodLink RL 70 yX7_init, Cond.instanceMethod yX7_init, Cond.code yX7_init cX7_init 1 none, Cond.methodLink RX7 1 objectInit, Cond.instanceMethod objectInit, Cond.code objectInit ⟨#[0xb1]⟩ 1 none, Cond.classLink RX7 7 RX5, Cond.instantiable RX5 3, Cond.initialized RX5, Cond.fieldLink RX7 10 "TubeWatch" "fans" "LTubeWatch$Fans;", Cond.classLink RX7 16 RX6, Cond.instantiable RX6 3, Cond.initialized RX6, Cond.fieldLink RX7 19 "TubeWatch" "stream" "LTubeWatch$Stream;", Cond.classLink RX7 23 RX0, Cond.instantiable RX0 4, Cond.initialized RX0]
def wsL_law0_r2 : List Cond := [Cond.fieldLink RX7 26 "TubeWatch" "air" "LTubeWatch$Air;", Cond.classLink RX7 30 RX1, Cond.instantiable RX1 6, Cond.initialized RX1, Cond.fieldLink RX7 33 "TubeWatch" "blaze" "LTubeWatch$Blaze;", Cond.classLink RX7 37 RX4, Cond.instantiable RX4 3, Cond.initialized RX4, Cond.fieldLink RX7 40 "TubeWatch" "doors" "LTubeWatch$Doors;", Cond.classLink RX7 44 RX2, Cond.instantiable RX2 6, Cond.initialized RX2, Cond.fieldLink RX7 47 "TubeWatch" "chart" "LTubeWatch$Chart;", Cond.classLink RX7 51 RX3, Cond.instantiable RX3 5, Cond.initialized RX3, Cond.fieldLink RX7 54 "TubeWatch" "crowd" "LTubeWatch$Crowd;", Cond.arrayClass .boolean, Cond.fieldLink RX7 58 "TubeWatch" "downFeeds" "[Z", Cond.fieldLink RX7 62 "TubeWatch" "failingDetectors" "[Z", Cond.fieldLink RX7 65 "TubeWatch" "damperSegment" "I", Cond.fieldLink RX7 69 "TubeWatch" "isDamperOpen" "Z", Cond.fieldLink RX7 73 "TubeWatch" "isTold" "Z", Cond.fieldLink RX7 76 "TubeWatch" "alarmSegment" "I"]
def wsL_law0_r3 : List Cond := [Cond.fieldLink RX7 79 "TubeWatch" "stepsDone" "I", Cond.instanceMethod yX5_init, Cond.code yX5_init cX5_init 1 none, Cond.methodLink RX5 3 objectInit, Cond.arrayClass .int, Cond.fieldLink RX5 9 "TubeWatch$Fans" "orders" "[I", Cond.fieldLink RX5 15 "TubeWatch$Fans" "states" "[I", Cond.fieldLink RX5 18 "TubeWatch$Fans" "failing" "[Z", Cond.instanceMethod yX6_init, Cond.code yX6_init cX6_init 1 none, Cond.methodLink RX6 1 objectInit, Cond.fieldLink RX6 7 "TubeWatch$Stream" "speed" "D", Cond.fieldLink RX6 13 "TubeWatch$Stream" "breeze" "I", Cond.fieldLink RX6 17 "TubeWatch$Stream" "isTrafficStopped" "Z", Cond.instanceMethod yX0_init, Cond.code yX0_init cX0_init 1 none, Cond.methodLink RX0 3 objectInit, Cond.fieldLink RX0 9 "TubeWatch$Air" "smoke" "[I", Cond.fieldLink RX0 15 "TubeWatch$Air" "heat" "[I", Cond.fieldLink RX0 18 "TubeWatch$Air" "leaving" "[I", Cond.fieldLink RX0 21 "TubeWatch$Air" "lost" "I", Cond.instanceMethod yX1_init, Cond.code yX1_init cX1_init 1 none, Cond.methodLink RX1 3 objectInit]
def wsL_law0_r4 : List Cond := [Cond.fieldLink RX1 9 "TubeWatch$Blaze" "site" "I", Cond.fieldLink RX1 15 "TubeWatch$Blaze" "size" "I", Cond.fieldLink RX1 18 "TubeWatch$Blaze" "age" "J", Cond.fieldLink RX1 22 "TubeWatch$Blaze" "water" "I", Cond.fieldLink RX1 25 "TubeWatch$Blaze" "isFoamOn" "Z", Cond.fieldLink RX1 29 "TubeWatch$Blaze" "made" "I", Cond.instanceMethod yX4_init, Cond.code yX4_init cX4_init 1 none, Cond.methodLink RX4 3 objectInit, Cond.fieldLink RX4 9 "TubeWatch$Doors" "there" "[Z", Cond.fieldLink RX4 15 "TubeWatch$Doors" "open" "[Z", Cond.fieldLink RX4 18 "TubeWatch$Doors" "failing" "[Z", Cond.instanceMethod yX2_init, Cond.code yX2_init cX2_init 1 none, Cond.methodLink RX2 3 objectInit, Cond.fieldLink RX2 9 "TubeWatch$Chart" "kinds" "[I", Cond.fieldLink RX2 15 "TubeWatch$Chart" "waits" "[I", Cond.fieldLink RX2 18 "TubeWatch$Chart" "steps" "[I", Cond.fieldLink RX2 21 "TubeWatch$Chart" "size" "I", Cond.fieldLink RX2 25 "TubeWatch$Chart" "next" "I", Cond.fieldLink RX2 28 "TubeWatch$Chart" "since" "I", Cond.instanceMethod yX3_init, Cond.code yX3_init cX3_init 1 none, Cond.methodLink RX3 3 objectInit]
def wsL_law0_r5 : List Cond := [Cond.fieldLink RX3 9 "TubeWatch$Crowd" "states" "[I", Cond.fieldLink RX3 15 "TubeWatch$Crowd" "places" "[I", Cond.fieldLink RX3 18 "TubeWatch$Crowd" "readySteps" "[I", Cond.fieldLink RX3 21 "TubeWatch$Crowd" "endSteps" "[I", Cond.fieldLink RX3 24 "TubeWatch$Crowd" "size" "I", Cond.methodLink RL 73 yX8_init, Cond.instanceMethod yX8_init, Cond.code yX8_init cX8_init 1 none, Cond.methodLink RX8 1 objectInit, Cond.fieldLink RX8 7 "TubeWatchModel" "smoke" "[I", Cond.fieldLink RX8 13 "TubeWatchModel" "heat" "[I", Cond.fieldLink RX8 16 "TubeWatchModel" "command" "[I", Cond.fieldLink RX8 19 "TubeWatchModel" "state" "[I", Cond.fieldLink RX8 22 "TubeWatchModel" "fails" "[Z", Cond.fieldLink RX8 26 "TubeWatchModel" "damper" "I", Cond.fieldLink RX8 30 "TubeWatchModel" "water" "I", Cond.fieldLink RX8 33 "TubeWatchModel" "isDown" "[Z", Cond.fieldLink RX8 36 "TubeWatchModel" "fire" "I", Cond.fieldLink RX8 39 "TubeWatchModel" "isDeaf" "[Z", Cond.fieldLink RX8 42 "TubeWatchModel" "alarm" "I", Cond.fieldLink RX8 45 "TubeWatchModel" "kind" "[I", Cond.fieldLink RX8 48 "TubeWatchModel" "waits" "[I", Cond.fieldLink RX8 51 "TubeWatchModel" "done" "[I", Cond.fieldLink RX8 54 "TubeWatchModel" "how" "[I"]
def wsL_law0_r6 : List Cond := [Cond.fieldLink RX8 57 "TubeWatchModel" "where" "[I", Cond.fieldLink RX8 60 "TubeWatchModel" "since" "[I", Cond.fieldLink RX8 63 "TubeWatchModel" "last" "[I", Cond.methodLink RL 74 yL_build, Cond.static yL_build, Cond.initialized RL, Cond.codeWith yL_build cL_build 4 (some .int) [(0, 6, 9, 13), (0, 6, 12, 15), (0, 6, 15, 17)], Cond.classLink RL 13 "java/lang/IndexOutOfBoundsException", Cond.classLink RL 15 "java/lang/IllegalArgumentException", Cond.classLink RL 17 "java/lang/IllegalStateException", Cond.methodLink RL 7 yX7_build, Cond.instanceMethod yX7_build, Cond.selects RX7 yX7_build yX7_build, Cond.code yX7_build cX7_build 3 none, Cond.methodLink RX7 82 yX7_requireSegment, Cond.static yX7_requireSegment, Cond.code yX7_requireSegment cX7_requireSegment 1 none, Cond.methodLink RX7 120 yX7_requireIndex, Cond.static yX7_requireIndex, Cond.code yX7_requireIndex cX7_requireIndex 2 none, Cond.classLink RX7 276 "java/lang/IndexOutOfBoundsException", Cond.initialized "java/lang/IndexOutOfBoundsException", Cond.methodLink RX7 86 yX7_requireRange, Cond.static yX7_requireRange]
def wsL_law0_r7 : List Cond := [Cond.code yX7_requireRange cX7_requireRange 3 none, Cond.classLink RX7 285 "java/lang/IllegalArgumentException", Cond.initialized "java/lang/IllegalArgumentException", Cond.methodLink RX7 90 yX7_requireState, Cond.static yX7_requireState, Cond.code yX7_requireState cX7_requireState 1 none, Cond.classLink RX7 290 "java/lang/IllegalStateException", Cond.initialized "java/lang/IllegalStateException", Cond.methodLink RX7 94 yX4_place, Cond.instanceMethod yX4_place, Cond.selects RX4 yX4_place yX4_place, Cond.code yX4_place cX4_place 3 none, Cond.methodLink RL 79 yX8_build, Cond.instanceMethod yX8_build, Cond.selects RX8 yX8_build yX8_build, Cond.code yX8_build cX8_build 3 none, Cond.fieldLink RX8 77 "TubeWatchModel" "steps" "I", Cond.fieldLink RX8 84 "TubeWatchModel" "doors" "I", Cond.fieldLink RX8 87 "TubeWatchModel" "open" "I", Cond.fieldLink RX8 90 "TubeWatchModel" "stuck" "I", Cond.fieldLink RX8 93 "TubeWatchModel" "isDamperOpen" "Z", Cond.methodLink RX8 73 yX8_isSegment, Cond.static yX8_isSegment, Cond.code yX8_isSegment cX8_isSegment 1 (some .boolean)]
def wsL_law0_r8 : List Cond := [Cond.methodLink RX8 69 yX8_isBetween, Cond.static yX8_isBetween, Cond.code yX8_isBetween cX8_isBetween 3 (some .boolean), Cond.methodLink RX8 80 yX8_goes, Cond.instanceMethod yX8_goes, Cond.selects RX8 yX8_goes yX8_goes, Cond.code yX8_goes cX8_goes 4 (some .boolean), Cond.fieldLink RX8 66 "TubeWatchModel" "thrown" "I", Cond.methodLink RL 80 yX8_thrown, Cond.instanceMethod yX8_thrown, Cond.selects RX8 yX8_thrown yX8_thrown, Cond.code yX8_thrown cX8_thrown 1 (some .int), Cond.methodLink RL 84 yL_people, Cond.static yL_people, Cond.codeWith yL_people cL_people 5 (some .int) [(0, 10, 13, 13), (0, 10, 17, 15), (0, 10, 21, 17)], Cond.methodLink RL 19 yX7_people, Cond.instanceMethod yX7_people, Cond.selects RX7 yX7_people yX7_people, Cond.code yX7_people cX7_people 3 (some .int), Cond.methodLink RX7 97 yX3_hasRoomFor, Cond.instanceMethod yX3_hasRoomFor, Cond.selects RX3 yX3_hasRoomFor yX3_hasRoomFor, Cond.code yX3_hasRoomFor cX3_hasRoomFor 2 (some .boolean), Cond.methodLink RX7 101 yX3_seat]
def wsL_law0_r9 : List Cond := [Cond.instanceMethod yX3_seat, Cond.selects RX3 yX3_seat yX3_seat, Cond.code yX3_seat cX3_seat 4 none, Cond.methodLink RX7 105 yX3_size, Cond.instanceMethod yX3_size, Cond.selects RX3 yX3_size yX3_size, Cond.code yX3_size cX3_size 1 (some .int), Cond.methodLink RL 87 yX8_people, Cond.instanceMethod yX8_people, Cond.selects RX8 yX8_people yX8_people, Cond.code yX8_people cX8_people 5 (some .int), Cond.fieldLink RX8 97 "TubeWatchModel" "persons" "I", Cond.methodLink RL 88 yL_wind, Cond.static yL_wind, Cond.codeWith yL_wind cL_wind 4 (some .int) [(0, 9, 12, 15)], Cond.methodLink RL 23 yX7_wind, Cond.instanceMethod yX7_wind, Cond.selects RX7 yX7_wind yX7_wind, Cond.code yX7_wind cX7_wind 2 (some .int), Cond.methodLink RX7 109 yX6_blow, Cond.instanceMethod yX6_blow, Cond.selects RX6 yX6_blow yX6_blow, Cond.code yX6_blow cX6_blow 3 (some .int), Cond.methodLink RL 91 yX8_wind]
def wsL_law0_r10 : List Cond := [Cond.instanceMethod yX8_wind, Cond.selects RX8 yX8_wind yX8_wind, Cond.code yX8_wind cX8_wind 3 (some .int), Cond.fieldLink RX8 100 "TubeWatchModel" "wind" "I", Cond.methodLink RL 92 yL_fire, Cond.static yL_fire, Cond.codeWith yL_fire cL_fire 4 (some .int) [(0, 6, 9, 13), (0, 6, 12, 15), (0, 6, 15, 17)], Cond.methodLink RL 27 yX7_fire, Cond.instanceMethod yX7_fire, Cond.selects RX7 yX7_fire yX7_fire, Cond.code yX7_fire cX7_fire 3 none, Cond.methodLink RX7 113 yX1_isBurning, Cond.instanceMethod yX1_isBurning, Cond.selects RX1 yX1_isBurning yX1_isBurning, Cond.code yX1_isBurning cX1_isBurning 1 (some .boolean), Cond.methodLink RX7 117 yX1_begin, Cond.instanceMethod yX1_begin, Cond.selects RX1 yX1_begin yX1_begin, Cond.code yX1_begin cX1_begin 3 none, Cond.methodLink RL 94 yX8_fire, Cond.instanceMethod yX8_fire, Cond.selects RX8 yX8_fire yX8_fire, Cond.code yX8_fire cX8_fire 3 none, Cond.fieldLink RX8 103 "TubeWatchModel" "size" "I"]
def wsL_law0_r11 : List Cond := [Cond.methodLink RL 95 yL_feed, Cond.static yL_feed, Cond.codeWith yL_feed cL_feed 5 (some .int) [(0, 17, 20, 13)], Cond.methodLink RL 30 yX7_feed, Cond.instanceMethod yX7_feed, Cond.selects RX7 yX7_feed yX7_feed, Cond.code yX7_feed cX7_feed 3 (some .boolean), Cond.methodLink RX7 123 yX7_hasPower, Cond.instanceMethod yX7_hasPower, Cond.selects RX7 yX7_hasPower yX7_hasPower, Cond.code yX7_hasPower cX7_hasPower 2 (some .boolean), Cond.methodLink RL 98 yX8_feed, Cond.instanceMethod yX8_feed, Cond.selects RX8 yX8_feed yX8_feed, Cond.code yX8_feed cX8_feed 3 (some .boolean), Cond.methodLink RX8 106 yX8_hasPower, Cond.instanceMethod yX8_hasPower, Cond.selects RX8 yX8_hasPower yX8_hasPower, Cond.code yX8_hasPower cX8_hasPower 1 (some .boolean), Cond.methodLink RL 99 yL_failFan, Cond.static yL_failFan, Cond.codeWith yL_failFan cL_failFan 5 (some .int) [(0, 10, 13, 13)], Cond.methodLink RL 34 yX7_failFan, Cond.instanceMethod yX7_failFan]
def wsL_law0_r12 : List Cond := [Cond.selects RX7 yX7_failFan yX7_failFan, Cond.code yX7_failFan cX7_failFan 3 (some .int), Cond.methodLink RX7 126 yX5_setFailing, Cond.instanceMethod yX5_setFailing, Cond.selects RX5 yX5_setFailing yX5_setFailing, Cond.code yX5_setFailing cX5_setFailing 3 none, Cond.methodLink RX5 31 yX5_isFan, Cond.static yX5_isFan, Cond.code yX5_isFan cX5_isFan 1 (some .boolean), Cond.methodLink RX7 130 yX5_stateOf, Cond.instanceMethod yX5_stateOf, Cond.selects RX5 yX5_stateOf yX5_stateOf, Cond.code yX5_stateOf cX5_stateOf 2 (some .int), Cond.methodLink RL 101 yX8_failFan, Cond.instanceMethod yX8_failFan, Cond.selects RX8 yX8_failFan yX8_failFan, Cond.code yX8_failFan cX8_failFan 3 (some .int), Cond.methodLink RX8 110 yX8_isFan, Cond.static yX8_isFan, Cond.code yX8_isFan cX8_isFan 1 (some .boolean), Cond.methodLink RL 102 yL_failDoor, Cond.static yL_failDoor, Cond.codeWith yL_failDoor cL_failDoor 5 (some .int) [(0, 17, 20, 13)], Cond.methodLink RL 38 yX7_failDoor]
def wsL_law0_r13 : List Cond := [Cond.instanceMethod yX7_failDoor, Cond.selects RX7 yX7_failDoor yX7_failDoor, Cond.code yX7_failDoor cX7_failDoor 3 (some .boolean), Cond.methodLink RX7 133 yX7_requireDoor, Cond.instanceMethod yX7_requireDoor, Cond.selects RX7 yX7_requireDoor yX7_requireDoor, Cond.code yX7_requireDoor cX7_requireDoor 2 none, Cond.methodLink RX7 273 yX4_isThere, Cond.instanceMethod yX4_isThere, Cond.selects RX4 yX4_isThere yX4_isThere, Cond.code yX4_isThere cX4_isThere 2 (some .boolean), Cond.static yX7_isSegment, Cond.code yX7_isSegment cX7_isSegment 1 (some .boolean), Cond.methodLink RX7 136 yX4_setFailing, Cond.instanceMethod yX4_setFailing, Cond.selects RX4 yX4_setFailing yX4_setFailing, Cond.code yX4_setFailing cX4_setFailing 3 none, Cond.methodLink RX7 137 yX4_isOpen, Cond.instanceMethod yX4_isOpen, Cond.selects RX4 yX4_isOpen yX4_isOpen, Cond.code yX4_isOpen cX4_isOpen 2 (some .boolean), Cond.methodLink RL 104 yX8_failDoor, Cond.instanceMethod yX8_failDoor, Cond.selects RX8 yX8_failDoor yX8_failDoor]
def wsL_law0_r14 : List Cond := [Cond.code yX8_failDoor cX8_failDoor 3 (some .boolean), Cond.methodLink RX8 113 yX8_isIn, Cond.static yX8_isIn, Cond.code yX8_isIn cX8_isIn 2 (some .boolean), Cond.methodLink RL 105 yL_failDetector, Cond.static yL_failDetector, Cond.codeWith yL_failDetector cL_failDetector 5 (some .int) [(0, 7, 10, 13)], Cond.methodLink RL 41 yX7_failDetector, Cond.instanceMethod yX7_failDetector, Cond.selects RX7 yX7_failDetector yX7_failDetector, Cond.code yX7_failDetector cX7_failDetector 4 none, Cond.methodLink RL 108 yX8_failDetector, Cond.instanceMethod yX8_failDetector, Cond.selects RX8 yX8_failDetector yX8_failDetector, Cond.code yX8_failDetector cX8_failDetector 4 none, Cond.methodLink RL 109 yL_act, Cond.static yL_act, Cond.codeWith yL_act cL_act 6 (some .int) [(0, 12, 15, 15), (0, 12, 19, 17)], Cond.methodLink RL 45 yX7_act, Cond.instanceMethod yX7_act, Cond.selects RX7 yX7_act yX7_act, Cond.code yX7_act cX7_act 4 (some .int), Cond.methodLink RX7 140 yX2_hasRoom, Cond.instanceMethod yX2_hasRoom]
def wsL_law0_r15 : List Cond := [Cond.selects RX2 yX2_hasRoom yX2_hasRoom, Cond.code yX2_hasRoom cX2_hasRoom 1 (some .boolean), Cond.methodLink RX7 143 yX2_put, Cond.instanceMethod yX2_put, Cond.selects RX2 yX2_put yX2_put, Cond.code yX2_put cX2_put 4 (some .int), Cond.methodLink RX2 31 yX2_hasRoom, Cond.methodLink RL 112 yX8_act, Cond.instanceMethod yX8_act, Cond.selects RX8 yX8_act yX8_act, Cond.code yX8_act cX8_act 4 (some .int), Cond.fieldLink RX8 117 "TubeWatchModel" "acts" "I", Cond.methodLink RL 113 yL_command, Cond.static yL_command, Cond.codeWith yL_command cL_command 5 (some .int) [(0, 10, 13, 13), (0, 10, 17, 15)], Cond.methodLink RL 49 yX7_command, Cond.instanceMethod yX7_command, Cond.selects RX7 yX7_command yX7_command, Cond.code yX7_command cX7_command 3 (some .int), Cond.methodLink RX7 147 yX5_order, Cond.instanceMethod yX5_order, Cond.selects RX5 yX5_order yX5_order, Cond.code yX5_order cX5_order 4 (some .int), Cond.methodLink RL 115 yX8_command]
def wsL_law0_r16 : List Cond := [Cond.instanceMethod yX8_command, Cond.selects RX8 yX8_command yX8_command, Cond.code yX8_command cX8_command 4 (some .int), Cond.methodLink RL 116 yL_step, Cond.static yL_step, Cond.codeWith yL_step cL_step 4 (some .int) [(0, 9, 12, 15)], Cond.methodLink RL 52 yX7_step, Cond.instanceMethod yX7_step, Cond.selects RX7 yX7_step yX7_step, Cond.code yX7_step cX7_step 3 (some .int), Cond.methodLink RX7 151 yX7_doStep, Cond.instanceMethod yX7_doStep, Cond.selects RX7 yX7_doStep yX7_doStep, Cond.code yX7_doStep cX7_doStep 1 none, Cond.methodLink RX7 198 yX5_turn, Cond.instanceMethod yX5_turn, Cond.selects RX5 yX5_turn yX5_turn, Cond.code yX5_turn cX5_turn 3 none, Cond.methodLink RX5 22 yX5_oneNearer, Cond.static yX5_oneNearer, Cond.code yX5_oneNearer cX5_oneNearer 2 (some .int), Cond.methodLink RX5 26 yJ6_compare_7cf53, Cond.static yJ6_compare_7cf53, Cond.initialized RJ6]
def wsL_law0_r17 : List Cond := [Cond.code yJ6_compare_7cf53 cJ6_compare_7cf53 2 (some .int), Cond.methodLink RX7 201 yX5_push, Cond.instanceMethod yX5_push, Cond.selects RX5 yX5_push yX5_push, Cond.code yX5_push cX5_push 3 (some .int), Cond.methodLink RX7 204 yX6_become, Cond.instanceMethod yX6_become, Cond.selects RX6 yX6_become yX6_become, Cond.code yX6_become cX6_become 4 none, Cond.constantDouble RX6 21 (4624633867356078080), Cond.constantDouble RX6 23 (4617315517961601024), Cond.constantDouble RX6 29 (4616189618054758400), Cond.methodLink RX6 25 yX6_held, Cond.static yX6_held, Cond.code yX6_held cX6_held 2 (some .double), Cond.constantDouble RX6 31 (4636033603912859648), Cond.constantDouble RX6 33 (13859405640767635456), Cond.methodLink RX7 207 yX7_burn, Cond.instanceMethod yX7_burn, Cond.selects RX7 yX7_burn yX7_burn, Cond.code yX7_burn cX7_burn 1 none, Cond.methodLink RX7 223 yX1_place, Cond.instanceMethod yX1_place, Cond.selects RX1 yX1_place yX1_place]
def wsL_law0_r18 : List Cond := [Cond.code yX1_place cX1_place 1 (some .int), Cond.methodLink RX7 225 yX1_burn, Cond.instanceMethod yX1_burn, Cond.selects RX1 yX1_burn yX1_burn, Cond.code yX1_burn cX1_burn 3 (some .int), Cond.constantLong RX1 32 (4), Cond.methodLink RX1 34 Lib.MathLoose.min_long.x, Cond.static Lib.MathLoose.min_long.x, Cond.initialized "java/lang/Math", Cond.code Lib.MathLoose.min_long.x Lib.MathLoose.min_long.code 4 (some .long), Cond.methodLink RX7 228 yX0_feedFrom, Cond.instanceMethod yX0_feedFrom, Cond.selects RX0 yX0_feedFrom yX0_feedFrom, Cond.code yX0_feedFrom cX0_feedFrom 3 none, Cond.methodLink RX7 210 yX7_moveAir, Cond.instanceMethod yX7_moveAir, Cond.selects RX7 yX7_moveAir yX7_moveAir, Cond.code yX7_moveAir cX7_moveAir 1 none, Cond.methodLink RX7 171 yX6_speed, Cond.instanceMethod yX6_speed, Cond.selects RX6 yX6_speed yX6_speed, Cond.code yX6_speed cX6_speed 1 (some .double), Cond.methodLink RX7 231 yX0_drift, Cond.instanceMethod yX0_drift]
def wsL_law0_r19 : List Cond := [Cond.selects RX0 yX0_drift yX0_drift, Cond.code yX0_drift cX0_drift 5 none, Cond.methodLink RX0 29 yX0_withoutSign, Cond.static yX0_withoutSign, Cond.code yX0_withoutSign cX0_withoutSign 2 (some .double), Cond.methodLink RX0 33 yX0_side, Cond.static yX0_side, Cond.code yX0_side cX0_side 2 (some .int), Cond.methodLink RX0 37 yX0_shift, Cond.instanceMethod yX0_shift, Cond.selects RX0 yX0_shift yX0_shift, Cond.code yX0_shift cX0_shift 4 none, Cond.methodLink RX7 235 yX0_backUp, Cond.instanceMethod yX0_backUp, Cond.selects RX0 yX0_backUp yX0_backUp, Cond.code yX0_backUp cX0_backUp 4 none, Cond.constantDouble RX0 41 (4629137466983448576), Cond.methodLink RX0 43 yX0_smokeIn, Cond.instanceMethod yX0_smokeIn, Cond.selects RX0 yX0_smokeIn yX0_smokeIn, Cond.code yX0_smokeIn cX0_smokeIn 2 (some .int), Cond.methodLink RX7 239 yX0_drawOff, Cond.instanceMethod yX0_drawOff, Cond.selects RX0 yX0_drawOff yX0_drawOff]
def wsL_law0_r20 : List Cond := [Cond.code yX0_drawOff cX0_drawOff 2 none, Cond.methodLink RX7 242 yX0_cool, Cond.instanceMethod yX0_cool, Cond.selects RX0 yX0_cool yX0_cool, Cond.code yX0_cool cX0_cool 2 none, Cond.methodLink RX7 213 yX7_watch, Cond.instanceMethod yX7_watch, Cond.selects RX7 yX7_watch yX7_watch, Cond.code yX7_watch cX7_watch 2 none, Cond.methodLink RX7 160 yX7_tellingIn, Cond.instanceMethod yX7_tellingIn, Cond.selects RX7 yX7_tellingIn yX7_tellingIn, Cond.code yX7_tellingIn cX7_tellingIn 4 (some .int), Cond.methodLink RX7 154 yX0_smokeIn, Cond.methodLink RX7 157 yX0_heatIn, Cond.instanceMethod yX0_heatIn, Cond.selects RX0 yX0_heatIn yX0_heatIn, Cond.code yX0_heatIn cX0_heatIn 2 (some .int), Cond.methodLink RX7 269 yX7_detectorWorks, Cond.instanceMethod yX7_detectorWorks, Cond.selects RX7 yX7_detectorWorks yX7_detectorWorks, Cond.code yX7_detectorWorks cX7_detectorWorks 4 (some .boolean), Cond.methodLink RX7 163 yX3_insideOf, Cond.instanceMethod yX3_insideOf]
def wsL_law0_r21 : List Cond := [Cond.selects RX3 yX3_insideOf yX3_insideOf, Cond.code yX3_insideOf cX3_insideOf 4 (some .int), Cond.methodLink RX7 245 yX2_start, Cond.instanceMethod yX2_start, Cond.selects RX2 yX2_start yX2_start, Cond.code yX2_start cX2_start 2 none, Cond.methodLink RX7 216 yX7_followChart, Cond.instanceMethod yX7_followChart, Cond.selects RX7 yX7_followChart yX7_followChart, Cond.code yX7_followChart cX7_followChart 2 none, Cond.methodLink RX7 248 yX2_isDue, Cond.instanceMethod yX2_isDue, Cond.selects RX2 yX2_isDue yX2_isDue, Cond.code yX2_isDue cX2_isDue 2 (some .boolean), Cond.methodLink RX2 35 yX2_isAct, Cond.instanceMethod yX2_isAct, Cond.selects RX2 yX2_isAct yX2_isAct, Cond.code yX2_isAct cX2_isAct 2 (some .boolean), Cond.methodLink RX7 251 yX2_finishNext, Cond.instanceMethod yX2_finishNext, Cond.selects RX2 yX2_finishNext yX2_finishNext, Cond.code yX2_finishNext cX2_finishNext 3 (some .int), Cond.methodLink RX7 254 yX7_perform, Cond.instanceMethod yX7_perform]
def wsL_law0_r22 : List Cond := [Cond.selects RX7 yX7_perform yX7_perform, Cond.code yX7_perform cX7_perform 2 none, Cond.methodLink RX7 257 yX6_stopTraffic, Cond.instanceMethod yX6_stopTraffic, Cond.selects RX6 yX6_stopTraffic yX6_stopTraffic, Cond.code yX6_stopTraffic cX6_stopTraffic 1 none, Cond.methodLink RX7 260 yX4_openAll, Cond.instanceMethod yX4_openAll, Cond.selects RX4 yX4_openAll yX4_openAll, Cond.code yX4_openAll cX4_openAll 2 none, Cond.methodLink RX7 263 yX5_orderAll, Cond.instanceMethod yX5_orderAll, Cond.selects RX5 yX5_orderAll yX5_orderAll, Cond.code yX5_orderAll cX5_orderAll 3 none, Cond.methodLink RX7 266 yX1_turnFoamOn, Cond.instanceMethod yX1_turnFoamOn, Cond.selects RX1 yX1_turnFoamOn yX1_turnFoamOn, Cond.code yX1_turnFoamOn cX1_turnFoamOn 1 none, Cond.methodLink RX7 219 yX3_live, Cond.instanceMethod yX3_live, Cond.selects RX3 yX3_live yX3_live, Cond.code yX3_live cX3_live 6 none, Cond.methodLink RX3 28 yX0_smokeIn, Cond.methodLink RX3 34 yX3_liveOne]
def wsL_law0_r23 : List Cond := [Cond.instanceMethod yX3_liveOne, Cond.selects RX3 yX3_liveOne yX3_liveOne, Cond.code yX3_liveOne cX3_liveOne 6 none, Cond.methodLink RX3 38 yX3_isPerson, Cond.instanceMethod yX3_isPerson, Cond.selects RX3 yX3_isPerson yX3_isPerson, Cond.code yX3_isPerson cX3_isPerson 2 (some .boolean), Cond.methodLink RX3 42 yX3_goOn, Cond.instanceMethod yX3_goOn, Cond.selects RX3 yX3_goOn yX3_goOn, Cond.code yX3_goOn cX3_goOn 6 none, Cond.methodLink RX3 46 yX4_nearestWay, Cond.instanceMethod yX4_nearestWay, Cond.selects RX4 yX4_nearestWay yX4_nearestWay, Cond.code yX4_nearestWay cX4_nearestWay 6 (some .int), Cond.methodLink RX4 25 Lib.Math.abs.name, Cond.static Lib.Math.abs.name, Cond.code Lib.Math.abs.name Lib.Math.abs.code 1 (some .int), Cond.methodLink RX3 51 yJ6_compare_7cf53, Cond.methodLink RL 118 yX8_step, Cond.instanceMethod yX8_step, Cond.selects RX8 yX8_step yX8_step, Cond.code yX8_step cX8_step 3 (some .int), Cond.methodLink RX8 201 yX8_doesStep]
def wsL_law0_r24 : List Cond := [Cond.instanceMethod yX8_doesStep, Cond.selects RX8 yX8_doesStep yX8_doesStep, Cond.code yX8_doesStep cX8_doesStep 2 none, Cond.methodLink RX8 180 yX8_fans, Cond.instanceMethod yX8_fans, Cond.selects RX8 yX8_fans yX8_fans, Cond.code yX8_fans cX8_fans 3 none, Cond.methodLink RX8 183 yX8_flows, Cond.instanceMethod yX8_flows, Cond.selects RX8 yX8_flows yX8_flows, Cond.code yX8_flows cX8_flows 2 none, Cond.fieldLink RX8 120 "TubeWatchModel" "isStopped" "Z", Cond.fieldLink RX8 129 "TubeWatchModel" "flow" "D", Cond.constantDouble RX8 133 (4616189618054758400), Cond.methodLink RX8 186 yX8_burns, Cond.instanceMethod yX8_burns, Cond.selects RX8 yX8_burns yX8_burns, Cond.code yX8_burns cX8_burns 2 none, Cond.fieldLink RX8 135 "TubeWatchModel" "age" "I", Cond.fieldLink RX8 126 "TubeWatchModel" "isFoam" "Z", Cond.fieldLink RX8 138 "TubeWatchModel" "made" "I", Cond.methodLink RX8 189 yX8_moves, Cond.instanceMethod yX8_moves, Cond.selects RX8 yX8_moves yX8_moves]
def wsL_law0_r25 : List Cond := [Cond.code yX8_moves cX8_moves 7 none, Cond.constantDouble RX8 152 (4629137466983448576), Cond.fieldLink RX8 141 "TubeWatchModel" "gone" "I", Cond.methodLink RX8 144 yX8_strength, Cond.instanceMethod yX8_strength, Cond.selects RX8 yX8_strength yX8_strength, Cond.code yX8_strength cX8_strength 1 (some .double), Cond.methodLink RX8 148 yX8_comes, Cond.instanceMethod yX8_comes, Cond.selects RX8 yX8_comes yX8_comes, Cond.code yX8_comes cX8_comes 3 none, Cond.methodLink RX8 192 yX8_detects, Cond.instanceMethod yX8_detects, Cond.selects RX8 yX8_detects yX8_detects, Cond.code yX8_detects cX8_detects 2 none, Cond.fieldLink RX8 161 "TubeWatchModel" "due" "I", Cond.methodLink RX8 158 yX8_tells, Cond.instanceMethod yX8_tells, Cond.selects RX8 yX8_tells yX8_tells, Cond.code yX8_tells cX8_tells 3 (some .int), Cond.methodLink RX8 154 yX8_personsIn, Cond.instanceMethod yX8_personsIn, Cond.selects RX8 yX8_personsIn yX8_personsIn, Cond.code yX8_personsIn cX8_personsIn 4 (some .int)]
def wsL_law0_r26 : List Cond := [Cond.methodLink RX8 195 yX8_charts, Cond.instanceMethod yX8_charts, Cond.selects RX8 yX8_charts yX8_charts, Cond.code yX8_charts cX8_charts 1 none, Cond.fieldLink RX8 164 "TubeWatchModel" "next" "I", Cond.methodLink RX8 167 yX8_doesAct, Cond.instanceMethod yX8_doesAct, Cond.selects RX8 yX8_doesAct yX8_doesAct, Cond.code yX8_doesAct cX8_doesAct 3 none, Cond.fieldLink RX8 123 "TubeWatchModel" "isTold" "Z", Cond.methodLink RX8 198 yX8_lives, Cond.instanceMethod yX8_lives, Cond.selects RX8 yX8_lives yX8_lives, Cond.code yX8_lives cX8_lives 4 none, Cond.methodLink RX8 174 yX8_ends, Cond.instanceMethod yX8_ends, Cond.selects RX8 yX8_ends yX8_ends, Cond.code yX8_ends cX8_ends 3 none, Cond.methodLink RX8 177 yX8_walks, Cond.instanceMethod yX8_walks, Cond.selects RX8 yX8_walks yX8_walks, Cond.code yX8_walks cX8_walks 5 none, Cond.methodLink RX8 171 yX8_aim, Cond.instanceMethod yX8_aim]
def wsL_law0_r27 : List Cond := [Cond.selects RX8 yX8_aim yX8_aim, Cond.code yX8_aim cX8_aim 7 (some .int), Cond.methodLink RL 119 yL_segment, Cond.static yL_segment, Cond.codeWith yL_segment cL_segment 5 (some .int) [(0, 10, 13, 13), (0, 10, 17, 15)], Cond.methodLink RL 55 yX7_segment, Cond.instanceMethod yX7_segment, Cond.selects RX7 yX7_segment yX7_segment, Cond.code yX7_segment cX7_segment 3 (some .int), Cond.methodLink RX7 166 yX7_doorAnswer, Cond.instanceMethod yX7_doorAnswer, Cond.selects RX7 yX7_doorAnswer yX7_doorAnswer, Cond.code yX7_doorAnswer cX7_doorAnswer 2 (some .int), Cond.methodLink RL 121 yX8_segment, Cond.instanceMethod yX8_segment, Cond.selects RX8 yX8_segment yX8_segment, Cond.code yX8_segment cX8_segment 3 (some .int), Cond.methodLink RL 122 yX7_flow, Cond.instanceMethod yX7_flow, Cond.selects RX7 yX7_flow yX7_flow, Cond.code yX7_flow cX7_flow 1 (some .int), Cond.constantDouble RX7 169 (4636737291354636288), Cond.methodLink RL 125 yX8_flow, Cond.instanceMethod yX8_flow]
def wsL_law0_r28 : List Cond := [Cond.selects RX8 yX8_flow yX8_flow, Cond.code yX8_flow cX8_flow 1 (some .int), Cond.constantDouble RX8 204 (4636737291354636288), Cond.methodLink RL 126 yL_fan, Cond.static yL_fan, Cond.codeWith yL_fan cL_fan 4 (some .int) [(0, 9, 12, 13)], Cond.methodLink RL 58 yX7_fan, Cond.instanceMethod yX7_fan, Cond.selects RX7 yX7_fan yX7_fan, Cond.code yX7_fan cX7_fan 2 (some .int), Cond.methodLink RL 128 yX8_fan, Cond.instanceMethod yX8_fan, Cond.selects RX8 yX8_fan yX8_fan, Cond.code yX8_fan cX8_fan 2 (some .int), Cond.methodLink RL 129 yX7_alarm, Cond.instanceMethod yX7_alarm, Cond.selects RX7 yX7_alarm yX7_alarm, Cond.code yX7_alarm cX7_alarm 1 (some .int), Cond.methodLink RL 132 yX8_alarm, Cond.instanceMethod yX8_alarm, Cond.selects RX8 yX8_alarm yX8_alarm, Cond.code yX8_alarm cX8_alarm 1 (some .int), Cond.methodLink RL 133 yL_done, Cond.static yL_done]
def wsL_law0_r29 : List Cond := [Cond.codeWith yL_done cL_done 4 (some .int) [(0, 9, 12, 13)], Cond.methodLink RL 61 yX7_done, Cond.instanceMethod yX7_done, Cond.selects RX7 yX7_done yX7_done, Cond.code yX7_done cX7_done 2 (some .int), Cond.methodLink RX7 175 yX2_size, Cond.instanceMethod yX2_size, Cond.selects RX2 yX2_size yX2_size, Cond.code yX2_size cX2_size 1 (some .int), Cond.methodLink RX7 176 yX2_stepOf, Cond.instanceMethod yX2_stepOf, Cond.selects RX2 yX2_stepOf yX2_stepOf, Cond.code yX2_stepOf cX2_stepOf 2 (some .int), Cond.methodLink RL 135 yX8_done, Cond.instanceMethod yX8_done, Cond.selects RX8 yX8_done yX8_done, Cond.code yX8_done cX8_done 2 (some .int), Cond.methodLink RL 136 yL_person, Cond.static yL_person, Cond.codeWith yL_person cL_person 5 (some .int) [(0, 10, 13, 13), (0, 10, 17, 15)], Cond.methodLink RL 64 yX7_person, Cond.instanceMethod yX7_person, Cond.selects RX7 yX7_person yX7_person, Cond.code yX7_person cX7_person 3 (some .int)]
def wsL_law0_r30 : List Cond := [Cond.methodLink RX7 179 yX3_stateOf, Cond.instanceMethod yX3_stateOf, Cond.selects RX3 yX3_stateOf yX3_stateOf, Cond.code yX3_stateOf cX3_stateOf 2 (some .int), Cond.methodLink RX7 180 yX3_segmentOf, Cond.instanceMethod yX3_segmentOf, Cond.selects RX3 yX3_segmentOf yX3_segmentOf, Cond.code yX3_segmentOf cX3_segmentOf 2 (some .int), Cond.methodLink RX7 183 yX3_endOf, Cond.instanceMethod yX3_endOf, Cond.selects RX3 yX3_endOf yX3_endOf, Cond.code yX3_endOf cX3_endOf 2 (some .int), Cond.methodLink RL 138 yX8_person, Cond.instanceMethod yX8_person, Cond.selects RX8 yX8_person yX8_person, Cond.code yX8_person cX8_person 3 (some .int), Cond.methodLink RL 139 yL_count, Cond.static yL_count, Cond.codeWith yL_count cL_count 4 (some .int) [(0, 9, 12, 15)], Cond.methodLink RL 67 yX7_count, Cond.instanceMethod yX7_count, Cond.selects RX7 yX7_count yX7_count, Cond.code yX7_count cX7_count 2 (some .int), Cond.methodLink RX7 186 yX3_howMany]
def wsL_law0_r31 : List Cond := [Cond.instanceMethod yX3_howMany, Cond.selects RX3 yX3_howMany yX3_howMany, Cond.code yX3_howMany cX3_howMany 4 (some .int), Cond.methodLink RL 141 yX8_count, Cond.instanceMethod yX8_count, Cond.selects RX8 yX8_count yX8_count, Cond.code yX8_count cX8_count 2 (some .int), Cond.methodLink RX8 206 yX8_counted, Cond.instanceMethod yX8_counted, Cond.selects RX8 yX8_counted yX8_counted, Cond.code yX8_counted cX8_counted 4 (some .int), Cond.methodLink RL 142 yX7_gone, Cond.instanceMethod yX7_gone, Cond.selects RX7 yX7_gone yX7_gone, Cond.code yX7_gone cX7_gone 1 (some .int), Cond.methodLink RX7 189 yX0_lost, Cond.instanceMethod yX0_lost, Cond.selects RX0 yX0_lost yX0_lost, Cond.code yX0_lost cX0_lost 1 (some .int), Cond.methodLink RL 145 yX8_gone, Cond.instanceMethod yX8_gone, Cond.selects RX8 yX8_gone yX8_gone, Cond.code yX8_gone cX8_gone 1 (some .int), Cond.methodLink RL 146 yX7_balances]
def wsL_law0_r32 : List Cond := [Cond.instanceMethod yX7_balances, Cond.selects RX7 yX7_balances yX7_balances, Cond.code yX7_balances cX7_balances 3 (some .boolean), Cond.methodLink RX7 192 yX0_allSmoke, Cond.instanceMethod yX0_allSmoke, Cond.selects RX0 yX0_allSmoke yX0_allSmoke, Cond.code yX0_allSmoke cX0_allSmoke 3 (some .int), Cond.methodLink RX7 195 yX1_allMade, Cond.instanceMethod yX1_allMade, Cond.selects RX1 yX1_allMade yX1_allMade, Cond.code yX1_allMade cX1_allMade 1 (some .int), Cond.methodLink RL 150 yX8_balances, Cond.instanceMethod yX8_balances, Cond.selects RX8 yX8_balances yX8_balances, Cond.code yX8_balances cX8_balances 4 (some .boolean)]
def wsL_law0 : List Cond := (wsL_law0_r1 ++ (wsL_law0_r2 ++ (wsL_law0_r3 ++ (wsL_law0_r4 ++ (wsL_law0_r5 ++ (wsL_law0_r6 ++ (wsL_law0_r7 ++ (wsL_law0_r8 ++ (wsL_law0_r9 ++ (wsL_law0_r10 ++ (wsL_law0_r11 ++ (wsL_law0_r12 ++ (wsL_law0_r13 ++ (wsL_law0_r14 ++ (wsL_law0_r15 ++ (wsL_law0_r16 ++ (wsL_law0_r17 ++ (wsL_law0_r18 ++ (wsL_law0_r19 ++ (wsL_law0_r20 ++ (wsL_law0_r21 ++ (wsL_law0_r22 ++ (wsL_law0_r23 ++ (wsL_law0_r24 ++ (wsL_law0_r25 ++ (wsL_law0_r26 ++ (wsL_law0_r27 ++ (wsL_law0_r28 ++ (wsL_law0_r29 ++ (wsL_law0_r30 ++ (wsL_law0_r31 ++ wsL_law0_r32))))))))))))))))))))))))))))))) ++ wsX70 ++ wsX80 ++ wsX50 ++ wsX60 ++ wsX00 ++ wsX10 ++ wsX40 ++ wsX20 ++ wsX30 ++ ([] : List Cond)
def wsL_law : List Cond := wsL_law0 ++ (vx_atS RX7 280 "java/lang/IndexOutOfBoundsException" ["java/lang/RuntimeException", "java/lang/Exception"]).filter goodWord ++ (vx_atS RX7 289 "java/lang/IllegalArgumentException" ["java/lang/RuntimeException", "java/lang/Exception"]).filter goodWord ++ (vx_atS RX7 294 "java/lang/IllegalStateException" ["java/lang/RuntimeException", "java/lang/Exception"]).filter goodWord
end
section
theorem lw_mS {w : Cond} (h : w ∈ k2_sels lw_privs) : w ∈ lw_tbl := List.mem_append_left _ h
theorem lw_m1 {w : Cond} (h : w ∈ tables_1_1) : w ∈ lw_tbl := List.mem_append_right _ (show w ∈ tables_1 from List.mem_append_left _ h)
theorem lw_m2 {w : Cond} (h : w ∈ tables_1_2) : w ∈ lw_tbl := List.mem_append_right _ (show w ∈ tables_1 from List.mem_append_right _ (List.mem_append_left _ h))
theorem lw_m3 {w : Cond} (h : w ∈ tables_1_3) : w ∈ lw_tbl := List.mem_append_right _ (show w ∈ tables_1 from List.mem_append_right _ (List.mem_append_right _ (List.mem_append_left _ h)))
theorem lw_m4 {w : Cond} (h : w ∈ tables_1_4) : w ∈ lw_tbl := List.mem_append_right _ (show w ∈ tables_1 from List.mem_append_right _ (List.mem_append_right _ (List.mem_append_right _ (List.mem_append_left _ h))))
theorem lw_m5 {w : Cond} (h : w ∈ tables_1_5) : w ∈ lw_tbl := List.mem_append_right _ (show w ∈ tables_1 from List.mem_append_right _ (List.mem_append_right _ (List.mem_append_right _ (List.mem_append_right _ h))))
set_option maxRecDepth 20000 in
theorem wsL_law0_r1_in : ∀ w ∈ wsL_law0_r1, w ∈ lw_tbl := List.forall_mem_cons.mpr ⟨lw_m1 (List.mem_of_getElem? (i := 18) (by decide +kernel)), List.forall_mem_cons.mpr ⟨lw_m1 (List.mem_of_getElem? (i := 19) (by decide +kernel)), List.forall_mem_cons.mpr ⟨lw_m1 (List.mem_of_getElem? (i := 1) (by decide +kernel)), List.forall_mem_cons.mpr ⟨lw_m4 (List.mem_of_getElem? (i := 27) (by decide +kernel)), List.forall_mem_cons.mpr ⟨lw_m4 (List.mem_of_getElem? (i := 28) (by decide +kernel)), List.forall_mem_cons.mpr ⟨lw_m1 (List.mem_of_getElem? (i := 9) (by decide +kernel)), List.forall_mem_cons.mpr ⟨lw_m5 (List.mem_of_getElem? (i := 80) (by decide +kernel)), List.forall_mem_cons.mpr ⟨lw_m1 (List.mem_of_getElem? (i := 20) (by decide +kernel)), List.forall_mem_cons.mpr ⟨lw_m1 (List.mem_of_getElem? (i := 21) (by decide +kernel)), List.forall_mem_cons.mpr ⟨lw_m1 (List.mem_of_getElem? (i := 22) rfl), List.forall_mem_cons.mpr ⟨lw_m1 (List.mem_of_getElem? (i := 23) (by decide +kernel)), List.forall_mem_cons.mpr ⟨lw_m1 (List.mem_of_getElem? (i := 24) (by decide +kernel)), List.forall_mem_cons.mpr ⟨lw_m1 (List.mem_of_getElem? (i := 25) rfl), List.forall_mem_cons.mpr ⟨lw_m1 (List.mem_of_getElem? (i := 26) (by decide +kernel)), List.forall_mem_cons.mpr ⟨lw_m1 (List.mem_of_getElem? (i := 27) (by decide +kernel)), List.forall_mem_cons.mpr ⟨lw_m1 (List.mem_of_getElem? (i := 2) (by decide +kernel)), List.forall_mem_cons.mpr ⟨lw_m1 (List.mem_of_getElem? (i := 167) (by decide +kernel)), List.forall_mem_cons.mpr ⟨lw_m1 (List.mem_of_getElem? (i := 44) (by decide +kernel)), List.forall_mem_cons.mpr ⟨lw_m1 (List.mem_of_getElem? (i := 45) (by decide +kernel)), List.forall_mem_cons.mpr ⟨lw_m1 (List.mem_of_getElem? (i := 3) (by decide +kernel)), List.forall_mem_cons.mpr ⟨lw_m1 (List.mem_of_getElem? (i := 168) (by decide +kernel)), List.forall_mem_cons.mpr ⟨lw_m1 (List.mem_of_getElem? (i := 60) (by decide +kernel)), List.forall_mem_cons.mpr ⟨lw_m1 (List.mem_of_getElem? (i := 61) (by decide +kernel)), List.forall_mem_cons.mpr ⟨lw_m1 (List.mem_of_getElem? (i := 4) (by decide +kernel)), fun _ h => absurd h List.not_mem_nil⟩⟩⟩⟩⟩⟩⟩⟩⟩⟩⟩⟩⟩⟩⟩⟩⟩⟩⟩⟩⟩⟩⟩⟩
set_option maxRecDepth 20000 in
theorem wsL_law0_r2_in : ∀ w ∈ wsL_law0_r2, w ∈ lw_tbl := List.forall_mem_cons.mpr ⟨lw_m1 (List.mem_of_getElem? (i := 169) (by decide +kernel)), List.forall_mem_cons.mpr ⟨lw_m1 (List.mem_of_getElem? (i := 79) (by decide +kernel)), List.forall_mem_cons.mpr ⟨lw_m1 (List.mem_of_getElem? (i := 80) (by decide +kernel)), List.forall_mem_cons.mpr ⟨lw_m1 (List.mem_of_getElem? (i := 5) (by decide +kernel)), List.forall_mem_cons.mpr ⟨lw_m1 (List.mem_of_getElem? (i := 170) (by decide +kernel)), List.forall_mem_cons.mpr ⟨lw_m1 (List.mem_of_getElem? (i := 104) (by decide +kernel)), List.forall_mem_cons.mpr ⟨lw_m1 (List.mem_of_getElem? (i := 105) (by decide +kernel)), List.forall_mem_cons.mpr ⟨lw_m1 (List.mem_of_getElem? (i := 6) (by decide +kernel)), List.forall_mem_cons.mpr ⟨lw_m1 (List.mem_of_getElem? (i := 171) (by decide +kernel)), List.forall_mem_cons.mpr ⟨lw_m1 (List.mem_of_getElem? (i := 120) (by decide +kernel)), List.forall_mem_cons.mpr ⟨lw_m1 (List.mem_of_getElem? (i := 121) (by decide +kernel)), List.forall_mem_cons.mpr ⟨lw_m1 (List.mem_of_getElem? (i := 7) (by decide +kernel)), List.forall_mem_cons.mpr ⟨lw_m1 (List.mem_of_getElem? (i := 172) (by decide +kernel)), List.forall_mem_cons.mpr ⟨lw_m1 (List.mem_of_getElem? (i := 145) (by decide +kernel)), List.forall_mem_cons.mpr ⟨lw_m1 (List.mem_of_getElem? (i := 146) (by decide +kernel)), List.forall_mem_cons.mpr ⟨lw_m1 (List.mem_of_getElem? (i := 8) (by decide +kernel)), List.forall_mem_cons.mpr ⟨lw_m1 (List.mem_of_getElem? (i := 173) (by decide +kernel)), List.forall_mem_cons.mpr ⟨lw_m1 (List.mem_of_getElem? (i := 43) (by decide +kernel)), List.forall_mem_cons.mpr ⟨lw_m1 (List.mem_of_getElem? (i := 174) (by decide +kernel)), List.forall_mem_cons.mpr ⟨lw_m1 (List.mem_of_getElem? (i := 175) (by decide +kernel)), List.forall_mem_cons.mpr ⟨lw_m1 (List.mem_of_getElem? (i := 176) (by decide +kernel)), List.forall_mem_cons.mpr ⟨lw_m1 (List.mem_of_getElem? (i := 177) (by decide +kernel)), List.forall_mem_cons.mpr ⟨lw_m1 (List.mem_of_getElem? (i := 178) (by decide +kernel)), List.forall_mem_cons.mpr ⟨lw_m1 (List.mem_of_getElem? (i := 179) (by decide +kernel)), fun _ h => absurd h List.not_mem_nil⟩⟩⟩⟩⟩⟩⟩⟩⟩⟩⟩⟩⟩⟩⟩⟩⟩⟩⟩⟩⟩⟩⟩⟩
set_option maxRecDepth 20000 in
theorem wsL_law0_r3_in : ∀ w ∈ wsL_law0_r3, w ∈ lw_tbl := List.forall_mem_cons.mpr ⟨lw_m1 (List.mem_of_getElem? (i := 180) (by decide +kernel)), List.forall_mem_cons.mpr ⟨lw_m1 (List.mem_of_getElem? (i := 29) (by decide +kernel)), List.forall_mem_cons.mpr ⟨lw_m1 (List.mem_of_getElem? (i := 30) rfl), List.forall_mem_cons.mpr ⟨lw_m1 (List.mem_of_getElem? (i := 31) (by decide +kernel)), List.forall_mem_cons.mpr ⟨lw_m1 (List.mem_of_getElem? (i := 42) (by decide +kernel)), List.forall_mem_cons.mpr ⟨lw_m1 (List.mem_of_getElem? (i := 32) (by decide +kernel)), List.forall_mem_cons.mpr ⟨lw_m1 (List.mem_of_getElem? (i := 33) (by decide +kernel)), List.forall_mem_cons.mpr ⟨lw_m1 (List.mem_of_getElem? (i := 34) (by decide +kernel)), List.forall_mem_cons.mpr ⟨lw_m1 (List.mem_of_getElem? (i := 47) (by decide +kernel)), List.forall_mem_cons.mpr ⟨lw_m1 (List.mem_of_getElem? (i := 48) rfl), List.forall_mem_cons.mpr ⟨lw_m1 (List.mem_of_getElem? (i := 49) (by decide +kernel)), List.forall_mem_cons.mpr ⟨lw_m1 (List.mem_of_getElem? (i := 50) (by decide +kernel)), List.forall_mem_cons.mpr ⟨lw_m1 (List.mem_of_getElem? (i := 51) (by decide +kernel)), List.forall_mem_cons.mpr ⟨lw_m1 (List.mem_of_getElem? (i := 52) (by decide +kernel)), List.forall_mem_cons.mpr ⟨lw_m1 (List.mem_of_getElem? (i := 63) (by decide +kernel)), List.forall_mem_cons.mpr ⟨lw_m1 (List.mem_of_getElem? (i := 64) rfl), List.forall_mem_cons.mpr ⟨lw_m1 (List.mem_of_getElem? (i := 65) (by decide +kernel)), List.forall_mem_cons.mpr ⟨lw_m1 (List.mem_of_getElem? (i := 66) (by decide +kernel)), List.forall_mem_cons.mpr ⟨lw_m1 (List.mem_of_getElem? (i := 67) (by decide +kernel)), List.forall_mem_cons.mpr ⟨lw_m1 (List.mem_of_getElem? (i := 68) (by decide +kernel)), List.forall_mem_cons.mpr ⟨lw_m1 (List.mem_of_getElem? (i := 69) (by decide +kernel)), List.forall_mem_cons.mpr ⟨lw_m1 (List.mem_of_getElem? (i := 82) (by decide +kernel)), List.forall_mem_cons.mpr ⟨lw_m1 (List.mem_of_getElem? (i := 83) rfl), List.forall_mem_cons.mpr ⟨lw_m1 (List.mem_of_getElem? (i := 84) (by decide +kernel)), fun _ h => absurd h List.not_mem_nil⟩⟩⟩⟩⟩⟩⟩⟩⟩⟩⟩⟩⟩⟩⟩⟩⟩⟩⟩⟩⟩⟩⟩⟩
set_option maxRecDepth 20000 in
theorem wsL_law0_r4_in : ∀ w ∈ wsL_law0_r4, w ∈ lw_tbl := List.forall_mem_cons.mpr ⟨lw_m1 (List.mem_of_getElem? (i := 85) (by decide +kernel)), List.forall_mem_cons.mpr ⟨lw_m1 (List.mem_of_getElem? (i := 86) (by decide +kernel)), List.forall_mem_cons.mpr ⟨lw_m1 (List.mem_of_getElem? (i := 87) (by decide +kernel)), List.forall_mem_cons.mpr ⟨lw_m1 (List.mem_of_getElem? (i := 88) (by decide +kernel)), List.forall_mem_cons.mpr ⟨lw_m1 (List.mem_of_getElem? (i := 89) (by decide +kernel)), List.forall_mem_cons.mpr ⟨lw_m1 (List.mem_of_getElem? (i := 90) (by decide +kernel)), List.forall_mem_cons.mpr ⟨lw_m1 (List.mem_of_getElem? (i := 107) (by decide +kernel)), List.forall_mem_cons.mpr ⟨lw_m1 (List.mem_of_getElem? (i := 108) rfl), List.forall_mem_cons.mpr ⟨lw_m1 (List.mem_of_getElem? (i := 109) (by decide +kernel)), List.forall_mem_cons.mpr ⟨lw_m1 (List.mem_of_getElem? (i := 110) (by decide +kernel)), List.forall_mem_cons.mpr ⟨lw_m1 (List.mem_of_getElem? (i := 111) (by decide +kernel)), List.forall_mem_cons.mpr ⟨lw_m1 (List.mem_of_getElem? (i := 112) (by decide +kernel)), List.forall_mem_cons.mpr ⟨lw_m1 (List.mem_of_getElem? (i := 123) (by decide +kernel)), List.forall_mem_cons.mpr ⟨lw_m1 (List.mem_of_getElem? (i := 124) rfl), List.forall_mem_cons.mpr ⟨lw_m1 (List.mem_of_getElem? (i := 125) (by decide +kernel)), List.forall_mem_cons.mpr ⟨lw_m1 (List.mem_of_getElem? (i := 126) (by decide +kernel)), List.forall_mem_cons.mpr ⟨lw_m1 (List.mem_of_getElem? (i := 127) (by decide +kernel)), List.forall_mem_cons.mpr ⟨lw_m1 (List.mem_of_getElem? (i := 128) (by decide +kernel)), List.forall_mem_cons.mpr ⟨lw_m1 (List.mem_of_getElem? (i := 129) (by decide +kernel)), List.forall_mem_cons.mpr ⟨lw_m1 (List.mem_of_getElem? (i := 130) (by decide +kernel)), List.forall_mem_cons.mpr ⟨lw_m1 (List.mem_of_getElem? (i := 131) (by decide +kernel)), List.forall_mem_cons.mpr ⟨lw_m1 (List.mem_of_getElem? (i := 148) (by decide +kernel)), List.forall_mem_cons.mpr ⟨lw_m1 (List.mem_of_getElem? (i := 149) rfl), List.forall_mem_cons.mpr ⟨lw_m1 (List.mem_of_getElem? (i := 150) (by decide +kernel)), fun _ h => absurd h List.not_mem_nil⟩⟩⟩⟩⟩⟩⟩⟩⟩⟩⟩⟩⟩⟩⟩⟩⟩⟩⟩⟩⟩⟩⟩⟩
set_option maxRecDepth 20000 in
theorem wsL_law0_r5_in : ∀ w ∈ wsL_law0_r5, w ∈ lw_tbl := List.forall_mem_cons.mpr ⟨lw_m1 (List.mem_of_getElem? (i := 151) (by decide +kernel)), List.forall_mem_cons.mpr ⟨lw_m1 (List.mem_of_getElem? (i := 152) (by decide +kernel)), List.forall_mem_cons.mpr ⟨lw_m1 (List.mem_of_getElem? (i := 153) (by decide +kernel)), List.forall_mem_cons.mpr ⟨lw_m1 (List.mem_of_getElem? (i := 154) (by decide +kernel)), List.forall_mem_cons.mpr ⟨lw_m1 (List.mem_of_getElem? (i := 155) (by decide +kernel)), List.forall_mem_cons.mpr ⟨lw_m4 (List.mem_of_getElem? (i := 29) (by decide +kernel)), List.forall_mem_cons.mpr ⟨lw_m4 (List.mem_of_getElem? (i := 30) (by decide +kernel)), List.forall_mem_cons.mpr ⟨lw_m4 (List.mem_of_getElem? (i := 31) rfl), List.forall_mem_cons.mpr ⟨lw_m4 (List.mem_of_getElem? (i := 32) (by decide +kernel)), List.forall_mem_cons.mpr ⟨lw_m4 (List.mem_of_getElem? (i := 34) (by decide +kernel)), List.forall_mem_cons.mpr ⟨lw_m4 (List.mem_of_getElem? (i := 35) (by decide +kernel)), List.forall_mem_cons.mpr ⟨lw_m4 (List.mem_of_getElem? (i := 36) (by decide +kernel)), List.forall_mem_cons.mpr ⟨lw_m4 (List.mem_of_getElem? (i := 37) (by decide +kernel)), List.forall_mem_cons.mpr ⟨lw_m4 (List.mem_of_getElem? (i := 38) (by decide +kernel)), List.forall_mem_cons.mpr ⟨lw_m4 (List.mem_of_getElem? (i := 42) (by decide +kernel)), List.forall_mem_cons.mpr ⟨lw_m4 (List.mem_of_getElem? (i := 47) (by decide +kernel)), List.forall_mem_cons.mpr ⟨lw_m4 (List.mem_of_getElem? (i := 50) (by decide +kernel)), List.forall_mem_cons.mpr ⟨lw_m4 (List.mem_of_getElem? (i := 51) (by decide +kernel)), List.forall_mem_cons.mpr ⟨lw_m4 (List.mem_of_getElem? (i := 56) (by decide +kernel)), List.forall_mem_cons.mpr ⟨lw_m4 (List.mem_of_getElem? (i := 57) (by decide +kernel)), List.forall_mem_cons.mpr ⟨lw_m4 (List.mem_of_getElem? (i := 59) (by decide +kernel)), List.forall_mem_cons.mpr ⟨lw_m4 (List.mem_of_getElem? (i := 60) (by decide +kernel)), List.forall_mem_cons.mpr ⟨lw_m4 (List.mem_of_getElem? (i := 61) (by decide +kernel)), List.forall_mem_cons.mpr ⟨lw_m4 (List.mem_of_getElem? (i := 65) (by decide +kernel)), fun _ h => absurd h List.not_mem_nil⟩⟩⟩⟩⟩⟩⟩⟩⟩⟩⟩⟩⟩⟩⟩⟩⟩⟩⟩⟩⟩⟩⟩⟩
set_option maxRecDepth 20000 in
theorem wsL_law0_r6_in : ∀ w ∈ wsL_law0_r6, w ∈ lw_tbl := List.forall_mem_cons.mpr ⟨lw_m4 (List.mem_of_getElem? (i := 66) (by decide +kernel)), List.forall_mem_cons.mpr ⟨lw_m4 (List.mem_of_getElem? (i := 67) (by decide +kernel)), List.forall_mem_cons.mpr ⟨lw_m4 (List.mem_of_getElem? (i := 68) (by decide +kernel)), List.forall_mem_cons.mpr ⟨lw_m2 (List.mem_of_getElem? (i := 11) (by decide +kernel)), List.forall_mem_cons.mpr ⟨lw_m2 (List.mem_of_getElem? (i := 12) (by decide +kernel)), List.forall_mem_cons.mpr ⟨lw_m1 (List.mem_of_getElem? (i := 0) (by decide +kernel)), List.forall_mem_cons.mpr ⟨lw_m2 (List.mem_of_getElem? (i := 13) rfl), List.forall_mem_cons.mpr ⟨lw_m2 (List.mem_of_getElem? (i := 14) (by decide +kernel)), List.forall_mem_cons.mpr ⟨lw_m2 (List.mem_of_getElem? (i := 15) (by decide +kernel)), List.forall_mem_cons.mpr ⟨lw_m2 (List.mem_of_getElem? (i := 16) (by decide +kernel)), List.forall_mem_cons.mpr ⟨lw_m2 (List.mem_of_getElem? (i := 17) (by decide +kernel)), List.forall_mem_cons.mpr ⟨lw_m2 (List.mem_of_getElem? (i := 18) (by decide +kernel)), List.forall_mem_cons.mpr ⟨lw_m2 (List.mem_of_getElem? (i := 19) (by decide +kernel)), List.forall_mem_cons.mpr ⟨lw_m2 (List.mem_of_getElem? (i := 20) rfl), List.forall_mem_cons.mpr ⟨lw_m2 (List.mem_of_getElem? (i := 21) (by decide +kernel)), List.forall_mem_cons.mpr ⟨lw_m2 (List.mem_of_getElem? (i := 22) (by decide +kernel)), List.forall_mem_cons.mpr ⟨lw_m2 (List.mem_of_getElem? (i := 23) rfl), List.forall_mem_cons.mpr ⟨lw_m2 (List.mem_of_getElem? (i := 24) (by decide +kernel)), List.forall_mem_cons.mpr ⟨lw_m2 (List.mem_of_getElem? (i := 25) (by decide +kernel)), List.forall_mem_cons.mpr ⟨lw_m2 (List.mem_of_getElem? (i := 26) rfl), List.forall_mem_cons.mpr ⟨lw_m2 (List.mem_of_getElem? (i := 27) (by decide +kernel)), List.forall_mem_cons.mpr ⟨lw_m1 (List.mem_of_getElem? (i := 13) (by decide +kernel)), List.forall_mem_cons.mpr ⟨lw_m2 (List.mem_of_getElem? (i := 95) (by decide +kernel)), List.forall_mem_cons.mpr ⟨lw_m2 (List.mem_of_getElem? (i := 96) (by decide +kernel)), fun _ h => absurd h List.not_mem_nil⟩⟩⟩⟩⟩⟩⟩⟩⟩⟩⟩⟩⟩⟩⟩⟩⟩⟩⟩⟩⟩⟩⟩⟩
set_option maxRecDepth 20000 in
theorem wsL_law0_r7_in : ∀ w ∈ wsL_law0_r7, w ∈ lw_tbl := List.forall_mem_cons.mpr ⟨lw_m2 (List.mem_of_getElem? (i := 97) rfl), List.forall_mem_cons.mpr ⟨lw_m2 (List.mem_of_getElem? (i := 98) (by decide +kernel)), List.forall_mem_cons.mpr ⟨lw_m1 (List.mem_of_getElem? (i := 14) (by decide +kernel)), List.forall_mem_cons.mpr ⟨lw_m2 (List.mem_of_getElem? (i := 114) (by decide +kernel)), List.forall_mem_cons.mpr ⟨lw_m2 (List.mem_of_getElem? (i := 115) (by decide +kernel)), List.forall_mem_cons.mpr ⟨lw_m2 (List.mem_of_getElem? (i := 116) rfl), List.forall_mem_cons.mpr ⟨lw_m2 (List.mem_of_getElem? (i := 117) (by decide +kernel)), List.forall_mem_cons.mpr ⟨lw_m1 (List.mem_of_getElem? (i := 15) (by decide +kernel)), List.forall_mem_cons.mpr ⟨lw_m2 (List.mem_of_getElem? (i := 133) (by decide +kernel)), List.forall_mem_cons.mpr ⟨lw_m2 (List.mem_of_getElem? (i := 134) (by decide +kernel)), List.forall_mem_cons.mpr ⟨lw_m2 (List.mem_of_getElem? (i := 135) (by decide +kernel)), List.forall_mem_cons.mpr ⟨lw_m2 (List.mem_of_getElem? (i := 136) rfl), List.forall_mem_cons.mpr ⟨lw_m4 (List.mem_of_getElem? (i := 149) (by decide +kernel)), List.forall_mem_cons.mpr ⟨lw_m4 (List.mem_of_getElem? (i := 150) (by decide +kernel)), List.forall_mem_cons.mpr ⟨lw_m4 (List.mem_of_getElem? (i := 151) (by decide +kernel)), List.forall_mem_cons.mpr ⟨lw_m4 (List.mem_of_getElem? (i := 152) rfl), List.forall_mem_cons.mpr ⟨lw_m4 (List.mem_of_getElem? (i := 33) (by decide +kernel)), List.forall_mem_cons.mpr ⟨lw_m4 (List.mem_of_getElem? (i := 39) (by decide +kernel)), List.forall_mem_cons.mpr ⟨lw_m4 (List.mem_of_getElem? (i := 40) (by decide +kernel)), List.forall_mem_cons.mpr ⟨lw_m4 (List.mem_of_getElem? (i := 41) (by decide +kernel)), List.forall_mem_cons.mpr ⟨lw_m4 (List.mem_of_getElem? (i := 43) (by decide +kernel)), List.forall_mem_cons.mpr ⟨lw_m4 (List.mem_of_getElem? (i := 153) (by decide +kernel)), List.forall_mem_cons.mpr ⟨lw_m4 (List.mem_of_getElem? (i := 154) (by decide +kernel)), List.forall_mem_cons.mpr ⟨lw_m4 (List.mem_of_getElem? (i := 155) rfl), fun _ h => absurd h List.not_mem_nil⟩⟩⟩⟩⟩⟩⟩⟩⟩⟩⟩⟩⟩⟩⟩⟩⟩⟩⟩⟩⟩⟩⟩⟩
set_option maxRecDepth 20000 in
theorem wsL_law0_r8_in : ∀ w ∈ wsL_law0_r8, w ∈ lw_tbl := List.forall_mem_cons.mpr ⟨lw_m4 (List.mem_of_getElem? (i := 156) (by decide +kernel)), List.forall_mem_cons.mpr ⟨lw_m4 (List.mem_of_getElem? (i := 157) (by decide +kernel)), List.forall_mem_cons.mpr ⟨lw_m4 (List.mem_of_getElem? (i := 158) rfl), List.forall_mem_cons.mpr ⟨lw_m4 (List.mem_of_getElem? (i := 159) (by decide +kernel)), List.forall_mem_cons.mpr ⟨lw_m4 (List.mem_of_getElem? (i := 161) (by decide +kernel)), List.forall_mem_cons.mpr ⟨lw_mS (List.mem_of_getElem? (i := 17) (by decide +kernel)), List.forall_mem_cons.mpr ⟨lw_m4 (List.mem_of_getElem? (i := 162) rfl), List.forall_mem_cons.mpr ⟨lw_m4 (List.mem_of_getElem? (i := 69) (by decide +kernel)), List.forall_mem_cons.mpr ⟨lw_m4 (List.mem_of_getElem? (i := 145) (by decide +kernel)), List.forall_mem_cons.mpr ⟨lw_m4 (List.mem_of_getElem? (i := 146) (by decide +kernel)), List.forall_mem_cons.mpr ⟨lw_m4 (List.mem_of_getElem? (i := 147) (by decide +kernel)), List.forall_mem_cons.mpr ⟨lw_m4 (List.mem_of_getElem? (i := 148) rfl), List.forall_mem_cons.mpr ⟨lw_m2 (List.mem_of_getElem? (i := 137) (by decide +kernel)), List.forall_mem_cons.mpr ⟨lw_m2 (List.mem_of_getElem? (i := 138) (by decide +kernel)), List.forall_mem_cons.mpr ⟨lw_m2 (List.mem_of_getElem? (i := 139) rfl), List.forall_mem_cons.mpr ⟨lw_m2 (List.mem_of_getElem? (i := 140) (by decide +kernel)), List.forall_mem_cons.mpr ⟨lw_m2 (List.mem_of_getElem? (i := 141) (by decide +kernel)), List.forall_mem_cons.mpr ⟨lw_m2 (List.mem_of_getElem? (i := 142) (by decide +kernel)), List.forall_mem_cons.mpr ⟨lw_m2 (List.mem_of_getElem? (i := 143) rfl), List.forall_mem_cons.mpr ⟨lw_m2 (List.mem_of_getElem? (i := 144) (by decide +kernel)), List.forall_mem_cons.mpr ⟨lw_m2 (List.mem_of_getElem? (i := 145) (by decide +kernel)), List.forall_mem_cons.mpr ⟨lw_m2 (List.mem_of_getElem? (i := 146) (by decide +kernel)), List.forall_mem_cons.mpr ⟨lw_m2 (List.mem_of_getElem? (i := 147) rfl), List.forall_mem_cons.mpr ⟨lw_m2 (List.mem_of_getElem? (i := 148) (by decide +kernel)), fun _ h => absurd h List.not_mem_nil⟩⟩⟩⟩⟩⟩⟩⟩⟩⟩⟩⟩⟩⟩⟩⟩⟩⟩⟩⟩⟩⟩⟩⟩
set_option maxRecDepth 20000 in
theorem wsL_law0_r9_in : ∀ w ∈ wsL_law0_r9, w ∈ lw_tbl := List.forall_mem_cons.mpr ⟨lw_m2 (List.mem_of_getElem? (i := 149) (by decide +kernel)), List.forall_mem_cons.mpr ⟨lw_m2 (List.mem_of_getElem? (i := 150) (by decide +kernel)), List.forall_mem_cons.mpr ⟨lw_m2 (List.mem_of_getElem? (i := 151) rfl), List.forall_mem_cons.mpr ⟨lw_m1 (List.mem_of_getElem? (i := 239) (by decide +kernel)), List.forall_mem_cons.mpr ⟨lw_m2 (List.mem_of_getElem? (i := 0) (by decide +kernel)), List.forall_mem_cons.mpr ⟨lw_m2 (List.mem_of_getElem? (i := 1) (by decide +kernel)), List.forall_mem_cons.mpr ⟨lw_m2 (List.mem_of_getElem? (i := 2) rfl), List.forall_mem_cons.mpr ⟨lw_m4 (List.mem_of_getElem? (i := 163) (by decide +kernel)), List.forall_mem_cons.mpr ⟨lw_m4 (List.mem_of_getElem? (i := 164) (by decide +kernel)), List.forall_mem_cons.mpr ⟨lw_m4 (List.mem_of_getElem? (i := 165) (by decide +kernel)), List.forall_mem_cons.mpr ⟨lw_m4 (List.mem_of_getElem? (i := 166) rfl), List.forall_mem_cons.mpr ⟨lw_m4 (List.mem_of_getElem? (i := 64) (by decide +kernel)), List.forall_mem_cons.mpr ⟨lw_m2 (List.mem_of_getElem? (i := 152) (by decide +kernel)), List.forall_mem_cons.mpr ⟨lw_m2 (List.mem_of_getElem? (i := 153) (by decide +kernel)), List.forall_mem_cons.mpr ⟨lw_m2 (List.mem_of_getElem? (i := 154) rfl), List.forall_mem_cons.mpr ⟨lw_m2 (List.mem_of_getElem? (i := 155) (by decide +kernel)), List.forall_mem_cons.mpr ⟨lw_m2 (List.mem_of_getElem? (i := 156) (by decide +kernel)), List.forall_mem_cons.mpr ⟨lw_m2 (List.mem_of_getElem? (i := 157) (by decide +kernel)), List.forall_mem_cons.mpr ⟨lw_m2 (List.mem_of_getElem? (i := 158) rfl), List.forall_mem_cons.mpr ⟨lw_m2 (List.mem_of_getElem? (i := 159) (by decide +kernel)), List.forall_mem_cons.mpr ⟨lw_m2 (List.mem_of_getElem? (i := 160) (by decide +kernel)), List.forall_mem_cons.mpr ⟨lw_m2 (List.mem_of_getElem? (i := 161) (by decide +kernel)), List.forall_mem_cons.mpr ⟨lw_m2 (List.mem_of_getElem? (i := 162) rfl), List.forall_mem_cons.mpr ⟨lw_m4 (List.mem_of_getElem? (i := 167) (by decide +kernel)), fun _ h => absurd h List.not_mem_nil⟩⟩⟩⟩⟩⟩⟩⟩⟩⟩⟩⟩⟩⟩⟩⟩⟩⟩⟩⟩⟩⟩⟩⟩
set_option maxRecDepth 20000 in
theorem wsL_law0_r10_in : ∀ w ∈ wsL_law0_r10, w ∈ lw_tbl := List.forall_mem_cons.mpr ⟨lw_m4 (List.mem_of_getElem? (i := 168) (by decide +kernel)), List.forall_mem_cons.mpr ⟨lw_m4 (List.mem_of_getElem? (i := 169) (by decide +kernel)), List.forall_mem_cons.mpr ⟨lw_m4 (List.mem_of_getElem? (i := 170) rfl), List.forall_mem_cons.mpr ⟨lw_m4 (List.mem_of_getElem? (i := 48) (by decide +kernel)), List.forall_mem_cons.mpr ⟨lw_m2 (List.mem_of_getElem? (i := 163) (by decide +kernel)), List.forall_mem_cons.mpr ⟨lw_m2 (List.mem_of_getElem? (i := 164) (by decide +kernel)), List.forall_mem_cons.mpr ⟨lw_m2 (List.mem_of_getElem? (i := 165) rfl), List.forall_mem_cons.mpr ⟨lw_m2 (List.mem_of_getElem? (i := 166) (by decide +kernel)), List.forall_mem_cons.mpr ⟨lw_m2 (List.mem_of_getElem? (i := 167) (by decide +kernel)), List.forall_mem_cons.mpr ⟨lw_m2 (List.mem_of_getElem? (i := 168) (by decide +kernel)), List.forall_mem_cons.mpr ⟨lw_m2 (List.mem_of_getElem? (i := 169) rfl), List.forall_mem_cons.mpr ⟨lw_m2 (List.mem_of_getElem? (i := 170) (by decide +kernel)), List.forall_mem_cons.mpr ⟨lw_m2 (List.mem_of_getElem? (i := 171) (by decide +kernel)), List.forall_mem_cons.mpr ⟨lw_m2 (List.mem_of_getElem? (i := 172) (by decide +kernel)), List.forall_mem_cons.mpr ⟨lw_m2 (List.mem_of_getElem? (i := 173) rfl), List.forall_mem_cons.mpr ⟨lw_m2 (List.mem_of_getElem? (i := 174) (by decide +kernel)), List.forall_mem_cons.mpr ⟨lw_m2 (List.mem_of_getElem? (i := 175) (by decide +kernel)), List.forall_mem_cons.mpr ⟨lw_m2 (List.mem_of_getElem? (i := 176) (by decide +kernel)), List.forall_mem_cons.mpr ⟨lw_m2 (List.mem_of_getElem? (i := 177) rfl), List.forall_mem_cons.mpr ⟨lw_m4 (List.mem_of_getElem? (i := 171) (by decide +kernel)), List.forall_mem_cons.mpr ⟨lw_m4 (List.mem_of_getElem? (i := 172) (by decide +kernel)), List.forall_mem_cons.mpr ⟨lw_m4 (List.mem_of_getElem? (i := 173) (by decide +kernel)), List.forall_mem_cons.mpr ⟨lw_m4 (List.mem_of_getElem? (i := 174) rfl), List.forall_mem_cons.mpr ⟨lw_m4 (List.mem_of_getElem? (i := 52) (by decide +kernel)), fun _ h => absurd h List.not_mem_nil⟩⟩⟩⟩⟩⟩⟩⟩⟩⟩⟩⟩⟩⟩⟩⟩⟩⟩⟩⟩⟩⟩⟩⟩
set_option maxRecDepth 20000 in
theorem wsL_law0_r11_in : ∀ w ∈ wsL_law0_r11, w ∈ lw_tbl := List.forall_mem_cons.mpr ⟨lw_m2 (List.mem_of_getElem? (i := 178) (by decide +kernel)), List.forall_mem_cons.mpr ⟨lw_m2 (List.mem_of_getElem? (i := 179) (by decide +kernel)), List.forall_mem_cons.mpr ⟨lw_m2 (List.mem_of_getElem? (i := 180) rfl), List.forall_mem_cons.mpr ⟨lw_m2 (List.mem_of_getElem? (i := 181) (by decide +kernel)), List.forall_mem_cons.mpr ⟨lw_m2 (List.mem_of_getElem? (i := 182) (by decide +kernel)), List.forall_mem_cons.mpr ⟨lw_m2 (List.mem_of_getElem? (i := 183) (by decide +kernel)), List.forall_mem_cons.mpr ⟨lw_m2 (List.mem_of_getElem? (i := 184) rfl), List.forall_mem_cons.mpr ⟨lw_m2 (List.mem_of_getElem? (i := 185) (by decide +kernel)), List.forall_mem_cons.mpr ⟨lw_m2 (List.mem_of_getElem? (i := 187) (by decide +kernel)), List.forall_mem_cons.mpr ⟨lw_mS (List.mem_of_getElem? (i := 1) (by decide +kernel)), List.forall_mem_cons.mpr ⟨lw_m2 (List.mem_of_getElem? (i := 188) rfl), List.forall_mem_cons.mpr ⟨lw_m4 (List.mem_of_getElem? (i := 175) (by decide +kernel)), List.forall_mem_cons.mpr ⟨lw_m4 (List.mem_of_getElem? (i := 176) (by decide +kernel)), List.forall_mem_cons.mpr ⟨lw_m4 (List.mem_of_getElem? (i := 177) (by decide +kernel)), List.forall_mem_cons.mpr ⟨lw_m4 (List.mem_of_getElem? (i := 178) rfl), List.forall_mem_cons.mpr ⟨lw_m4 (List.mem_of_getElem? (i := 179) (by decide +kernel)), List.forall_mem_cons.mpr ⟨lw_m4 (List.mem_of_getElem? (i := 181) (by decide +kernel)), List.forall_mem_cons.mpr ⟨lw_mS (List.mem_of_getElem? (i := 18) (by decide +kernel)), List.forall_mem_cons.mpr ⟨lw_m4 (List.mem_of_getElem? (i := 182) rfl), List.forall_mem_cons.mpr ⟨lw_m2 (List.mem_of_getElem? (i := 189) (by decide +kernel)), List.forall_mem_cons.mpr ⟨lw_m2 (List.mem_of_getElem? (i := 190) (by decide +kernel)), List.forall_mem_cons.mpr ⟨lw_m2 (List.mem_of_getElem? (i := 191) rfl), List.forall_mem_cons.mpr ⟨lw_m2 (List.mem_of_getElem? (i := 192) (by decide +kernel)), List.forall_mem_cons.mpr ⟨lw_m2 (List.mem_of_getElem? (i := 193) (by decide +kernel)), fun _ h => absurd h List.not_mem_nil⟩⟩⟩⟩⟩⟩⟩⟩⟩⟩⟩⟩⟩⟩⟩⟩⟩⟩⟩⟩⟩⟩⟩⟩
set_option maxRecDepth 20000 in
theorem wsL_law0_r12_in : ∀ w ∈ wsL_law0_r12, w ∈ lw_tbl := List.forall_mem_cons.mpr ⟨lw_m2 (List.mem_of_getElem? (i := 194) (by decide +kernel)), List.forall_mem_cons.mpr ⟨lw_m2 (List.mem_of_getElem? (i := 195) rfl), List.forall_mem_cons.mpr ⟨lw_m2 (List.mem_of_getElem? (i := 196) (by decide +kernel)), List.forall_mem_cons.mpr ⟨lw_m2 (List.mem_of_getElem? (i := 197) (by decide +kernel)), List.forall_mem_cons.mpr ⟨lw_m2 (List.mem_of_getElem? (i := 198) (by decide +kernel)), List.forall_mem_cons.mpr ⟨lw_m2 (List.mem_of_getElem? (i := 199) rfl), List.forall_mem_cons.mpr ⟨lw_m2 (List.mem_of_getElem? (i := 200) (by decide +kernel)), List.forall_mem_cons.mpr ⟨lw_m2 (List.mem_of_getElem? (i := 201) (by decide +kernel)), List.forall_mem_cons.mpr ⟨lw_m2 (List.mem_of_getElem? (i := 202) rfl), List.forall_mem_cons.mpr ⟨lw_m2 (List.mem_of_getElem? (i := 203) (by decide +kernel)), List.forall_mem_cons.mpr ⟨lw_m2 (List.mem_of_getElem? (i := 204) (by decide +kernel)), List.forall_mem_cons.mpr ⟨lw_m2 (List.mem_of_getElem? (i := 205) (by decide +kernel)), List.forall_mem_cons.mpr ⟨lw_m2 (List.mem_of_getElem? (i := 206) rfl), List.forall_mem_cons.mpr ⟨lw_m4 (List.mem_of_getElem? (i := 183) (by decide +kernel)), List.forall_mem_cons.mpr ⟨lw_m4 (List.mem_of_getElem? (i := 184) (by decide +kernel)), List.forall_mem_cons.mpr ⟨lw_m4 (List.mem_of_getElem? (i := 185) (by decide +kernel)), List.forall_mem_cons.mpr ⟨lw_m4 (List.mem_of_getElem? (i := 186) rfl), List.forall_mem_cons.mpr ⟨lw_m4 (List.mem_of_getElem? (i := 187) (by decide +kernel)), List.forall_mem_cons.mpr ⟨lw_m4 (List.mem_of_getElem? (i := 188) (by decide +kernel)), List.forall_mem_cons.mpr ⟨lw_m4 (List.mem_of_getElem? (i := 189) rfl), List.forall_mem_cons.mpr ⟨lw_m2 (List.mem_of_getElem? (i := 207) (by decide +kernel)), List.forall_mem_cons.mpr ⟨lw_m2 (List.mem_of_getElem? (i := 208) (by decide +kernel)), List.forall_mem_cons.mpr ⟨lw_m2 (List.mem_of_getElem? (i := 209) rfl), List.forall_mem_cons.mpr ⟨lw_m2 (List.mem_of_getElem? (i := 210) (by decide +kernel)), fun _ h => absurd h List.not_mem_nil⟩⟩⟩⟩⟩⟩⟩⟩⟩⟩⟩⟩⟩⟩⟩⟩⟩⟩⟩⟩⟩⟩⟩⟩
set_option maxRecDepth 20000 in
theorem wsL_law0_r13_in : ∀ w ∈ wsL_law0_r13, w ∈ lw_tbl := List.forall_mem_cons.mpr ⟨lw_m2 (List.mem_of_getElem? (i := 211) (by decide +kernel)), List.forall_mem_cons.mpr ⟨lw_m2 (List.mem_of_getElem? (i := 212) (by decide +kernel)), List.forall_mem_cons.mpr ⟨lw_m2 (List.mem_of_getElem? (i := 213) rfl), List.forall_mem_cons.mpr ⟨lw_m2 (List.mem_of_getElem? (i := 214) (by decide +kernel)), List.forall_mem_cons.mpr ⟨lw_m2 (List.mem_of_getElem? (i := 216) (by decide +kernel)), List.forall_mem_cons.mpr ⟨lw_mS (List.mem_of_getElem? (i := 2) (by decide +kernel)), List.forall_mem_cons.mpr ⟨lw_m2 (List.mem_of_getElem? (i := 217) rfl), List.forall_mem_cons.mpr ⟨lw_m2 (List.mem_of_getElem? (i := 218) (by decide +kernel)), List.forall_mem_cons.mpr ⟨lw_m2 (List.mem_of_getElem? (i := 219) (by decide +kernel)), List.forall_mem_cons.mpr ⟨lw_m2 (List.mem_of_getElem? (i := 220) (by decide +kernel)), List.forall_mem_cons.mpr ⟨lw_m2 (List.mem_of_getElem? (i := 221) rfl), List.forall_mem_cons.mpr ⟨lw_m2 (List.mem_of_getElem? (i := 223) (by decide +kernel)), List.forall_mem_cons.mpr ⟨lw_m2 (List.mem_of_getElem? (i := 224) rfl), List.forall_mem_cons.mpr ⟨lw_m2 (List.mem_of_getElem? (i := 226) (by decide +kernel)), List.forall_mem_cons.mpr ⟨lw_m2 (List.mem_of_getElem? (i := 227) (by decide +kernel)), List.forall_mem_cons.mpr ⟨lw_m2 (List.mem_of_getElem? (i := 228) (by decide +kernel)), List.forall_mem_cons.mpr ⟨lw_m2 (List.mem_of_getElem? (i := 229) rfl), List.forall_mem_cons.mpr ⟨lw_m2 (List.mem_of_getElem? (i := 230) (by decide +kernel)), List.forall_mem_cons.mpr ⟨lw_m2 (List.mem_of_getElem? (i := 231) (by decide +kernel)), List.forall_mem_cons.mpr ⟨lw_m2 (List.mem_of_getElem? (i := 232) (by decide +kernel)), List.forall_mem_cons.mpr ⟨lw_m2 (List.mem_of_getElem? (i := 233) rfl), List.forall_mem_cons.mpr ⟨lw_m4 (List.mem_of_getElem? (i := 190) (by decide +kernel)), List.forall_mem_cons.mpr ⟨lw_m4 (List.mem_of_getElem? (i := 191) (by decide +kernel)), List.forall_mem_cons.mpr ⟨lw_m4 (List.mem_of_getElem? (i := 192) (by decide +kernel)), fun _ h => absurd h List.not_mem_nil⟩⟩⟩⟩⟩⟩⟩⟩⟩⟩⟩⟩⟩⟩⟩⟩⟩⟩⟩⟩⟩⟩⟩⟩
set_option maxRecDepth 20000 in
theorem wsL_law0_r14_in : ∀ w ∈ wsL_law0_r14, w ∈ lw_tbl := List.forall_mem_cons.mpr ⟨lw_m4 (List.mem_of_getElem? (i := 193) rfl), List.forall_mem_cons.mpr ⟨lw_m4 (List.mem_of_getElem? (i := 194) (by decide +kernel)), List.forall_mem_cons.mpr ⟨lw_m4 (List.mem_of_getElem? (i := 195) (by decide +kernel)), List.forall_mem_cons.mpr ⟨lw_m4 (List.mem_of_getElem? (i := 196) rfl), List.forall_mem_cons.mpr ⟨lw_m2 (List.mem_of_getElem? (i := 234) (by decide +kernel)), List.forall_mem_cons.mpr ⟨lw_m2 (List.mem_of_getElem? (i := 235) (by decide +kernel)), List.forall_mem_cons.mpr ⟨lw_m2 (List.mem_of_getElem? (i := 236) rfl), List.forall_mem_cons.mpr ⟨lw_m2 (List.mem_of_getElem? (i := 237) (by decide +kernel)), List.forall_mem_cons.mpr ⟨lw_m2 (List.mem_of_getElem? (i := 238) (by decide +kernel)), List.forall_mem_cons.mpr ⟨lw_m2 (List.mem_of_getElem? (i := 239) (by decide +kernel)), List.forall_mem_cons.mpr ⟨lw_m3 (List.mem_of_getElem? (i := 0) rfl), List.forall_mem_cons.mpr ⟨lw_m4 (List.mem_of_getElem? (i := 197) (by decide +kernel)), List.forall_mem_cons.mpr ⟨lw_m4 (List.mem_of_getElem? (i := 198) (by decide +kernel)), List.forall_mem_cons.mpr ⟨lw_m4 (List.mem_of_getElem? (i := 199) (by decide +kernel)), List.forall_mem_cons.mpr ⟨lw_m4 (List.mem_of_getElem? (i := 200) rfl), List.forall_mem_cons.mpr ⟨lw_m3 (List.mem_of_getElem? (i := 1) (by decide +kernel)), List.forall_mem_cons.mpr ⟨lw_m3 (List.mem_of_getElem? (i := 2) (by decide +kernel)), List.forall_mem_cons.mpr ⟨lw_m3 (List.mem_of_getElem? (i := 3) rfl), List.forall_mem_cons.mpr ⟨lw_m3 (List.mem_of_getElem? (i := 4) (by decide +kernel)), List.forall_mem_cons.mpr ⟨lw_m3 (List.mem_of_getElem? (i := 5) (by decide +kernel)), List.forall_mem_cons.mpr ⟨lw_m3 (List.mem_of_getElem? (i := 6) (by decide +kernel)), List.forall_mem_cons.mpr ⟨lw_m3 (List.mem_of_getElem? (i := 7) rfl), List.forall_mem_cons.mpr ⟨lw_m3 (List.mem_of_getElem? (i := 8) (by decide +kernel)), List.forall_mem_cons.mpr ⟨lw_m3 (List.mem_of_getElem? (i := 9) (by decide +kernel)), fun _ h => absurd h List.not_mem_nil⟩⟩⟩⟩⟩⟩⟩⟩⟩⟩⟩⟩⟩⟩⟩⟩⟩⟩⟩⟩⟩⟩⟩⟩
set_option maxRecDepth 20000 in
theorem wsL_law0_r15_in : ∀ w ∈ wsL_law0_r15, w ∈ lw_tbl := List.forall_mem_cons.mpr ⟨lw_m3 (List.mem_of_getElem? (i := 10) (by decide +kernel)), List.forall_mem_cons.mpr ⟨lw_m3 (List.mem_of_getElem? (i := 11) rfl), List.forall_mem_cons.mpr ⟨lw_m3 (List.mem_of_getElem? (i := 12) (by decide +kernel)), List.forall_mem_cons.mpr ⟨lw_m3 (List.mem_of_getElem? (i := 13) (by decide +kernel)), List.forall_mem_cons.mpr ⟨lw_m3 (List.mem_of_getElem? (i := 14) (by decide +kernel)), List.forall_mem_cons.mpr ⟨lw_m3 (List.mem_of_getElem? (i := 15) rfl), List.forall_mem_cons.mpr ⟨lw_m3 (List.mem_of_getElem? (i := 16) (by decide +kernel)), List.forall_mem_cons.mpr ⟨lw_m4 (List.mem_of_getElem? (i := 201) (by decide +kernel)), List.forall_mem_cons.mpr ⟨lw_m4 (List.mem_of_getElem? (i := 202) (by decide +kernel)), List.forall_mem_cons.mpr ⟨lw_m4 (List.mem_of_getElem? (i := 203) (by decide +kernel)), List.forall_mem_cons.mpr ⟨lw_m4 (List.mem_of_getElem? (i := 204) rfl), List.forall_mem_cons.mpr ⟨lw_m4 (List.mem_of_getElem? (i := 58) (by decide +kernel)), List.forall_mem_cons.mpr ⟨lw_m3 (List.mem_of_getElem? (i := 17) (by decide +kernel)), List.forall_mem_cons.mpr ⟨lw_m3 (List.mem_of_getElem? (i := 18) (by decide +kernel)), List.forall_mem_cons.mpr ⟨lw_m3 (List.mem_of_getElem? (i := 19) rfl), List.forall_mem_cons.mpr ⟨lw_m3 (List.mem_of_getElem? (i := 20) (by decide +kernel)), List.forall_mem_cons.mpr ⟨lw_m3 (List.mem_of_getElem? (i := 21) (by decide +kernel)), List.forall_mem_cons.mpr ⟨lw_m3 (List.mem_of_getElem? (i := 22) (by decide +kernel)), List.forall_mem_cons.mpr ⟨lw_m3 (List.mem_of_getElem? (i := 23) rfl), List.forall_mem_cons.mpr ⟨lw_m3 (List.mem_of_getElem? (i := 24) (by decide +kernel)), List.forall_mem_cons.mpr ⟨lw_m3 (List.mem_of_getElem? (i := 25) (by decide +kernel)), List.forall_mem_cons.mpr ⟨lw_m3 (List.mem_of_getElem? (i := 26) (by decide +kernel)), List.forall_mem_cons.mpr ⟨lw_m3 (List.mem_of_getElem? (i := 27) rfl), List.forall_mem_cons.mpr ⟨lw_m4 (List.mem_of_getElem? (i := 205) (by decide +kernel)), fun _ h => absurd h List.not_mem_nil⟩⟩⟩⟩⟩⟩⟩⟩⟩⟩⟩⟩⟩⟩⟩⟩⟩⟩⟩⟩⟩⟩⟩⟩
set_option maxRecDepth 20000 in
theorem wsL_law0_r16_in : ∀ w ∈ wsL_law0_r16, w ∈ lw_tbl := List.forall_mem_cons.mpr ⟨lw_m4 (List.mem_of_getElem? (i := 206) (by decide +kernel)), List.forall_mem_cons.mpr ⟨lw_m4 (List.mem_of_getElem? (i := 207) (by decide +kernel)), List.forall_mem_cons.mpr ⟨lw_m4 (List.mem_of_getElem? (i := 208) rfl), List.forall_mem_cons.mpr ⟨lw_m3 (List.mem_of_getElem? (i := 28) (by decide +kernel)), List.forall_mem_cons.mpr ⟨lw_m3 (List.mem_of_getElem? (i := 29) (by decide +kernel)), List.forall_mem_cons.mpr ⟨lw_m3 (List.mem_of_getElem? (i := 30) rfl), List.forall_mem_cons.mpr ⟨lw_m3 (List.mem_of_getElem? (i := 31) (by decide +kernel)), List.forall_mem_cons.mpr ⟨lw_m3 (List.mem_of_getElem? (i := 32) (by decide +kernel)), List.forall_mem_cons.mpr ⟨lw_m3 (List.mem_of_getElem? (i := 33) (by decide +kernel)), List.forall_mem_cons.mpr ⟨lw_m3 (List.mem_of_getElem? (i := 34) rfl), List.forall_mem_cons.mpr ⟨lw_m3 (List.mem_of_getElem? (i := 35) (by decide +kernel)), List.forall_mem_cons.mpr ⟨lw_m3 (List.mem_of_getElem? (i := 37) (by decide +kernel)), List.forall_mem_cons.mpr ⟨lw_mS (List.mem_of_getElem? (i := 3) (by decide +kernel)), List.forall_mem_cons.mpr ⟨lw_m3 (List.mem_of_getElem? (i := 38) rfl), List.forall_mem_cons.mpr ⟨lw_m3 (List.mem_of_getElem? (i := 39) (by decide +kernel)), List.forall_mem_cons.mpr ⟨lw_m3 (List.mem_of_getElem? (i := 40) (by decide +kernel)), List.forall_mem_cons.mpr ⟨lw_m3 (List.mem_of_getElem? (i := 41) (by decide +kernel)), List.forall_mem_cons.mpr ⟨lw_m3 (List.mem_of_getElem? (i := 42) rfl), List.forall_mem_cons.mpr ⟨lw_m3 (List.mem_of_getElem? (i := 43) (by decide +kernel)), List.forall_mem_cons.mpr ⟨lw_m3 (List.mem_of_getElem? (i := 44) (by decide +kernel)), List.forall_mem_cons.mpr ⟨lw_m3 (List.mem_of_getElem? (i := 45) rfl), List.forall_mem_cons.mpr ⟨lw_m3 (List.mem_of_getElem? (i := 46) (by decide +kernel)), List.forall_mem_cons.mpr ⟨lw_m3 (List.mem_of_getElem? (i := 47) (by decide +kernel)), List.forall_mem_cons.mpr ⟨lw_m1 (List.mem_of_getElem? (i := 16) (by decide +kernel)), fun _ h => absurd h List.not_mem_nil⟩⟩⟩⟩⟩⟩⟩⟩⟩⟩⟩⟩⟩⟩⟩⟩⟩⟩⟩⟩⟩⟩⟩⟩
set_option maxRecDepth 20000 in
theorem wsL_law0_r17_in : ∀ w ∈ wsL_law0_r17, w ∈ lw_tbl := List.forall_mem_cons.mpr ⟨lw_m3 (List.mem_of_getElem? (i := 48) rfl), List.forall_mem_cons.mpr ⟨lw_m3 (List.mem_of_getElem? (i := 49) (by decide +kernel)), List.forall_mem_cons.mpr ⟨lw_m3 (List.mem_of_getElem? (i := 50) (by decide +kernel)), List.forall_mem_cons.mpr ⟨lw_m3 (List.mem_of_getElem? (i := 51) (by decide +kernel)), List.forall_mem_cons.mpr ⟨lw_m3 (List.mem_of_getElem? (i := 52) rfl), List.forall_mem_cons.mpr ⟨lw_m3 (List.mem_of_getElem? (i := 53) (by decide +kernel)), List.forall_mem_cons.mpr ⟨lw_m3 (List.mem_of_getElem? (i := 54) (by decide +kernel)), List.forall_mem_cons.mpr ⟨lw_m3 (List.mem_of_getElem? (i := 55) (by decide +kernel)), List.forall_mem_cons.mpr ⟨lw_m3 (List.mem_of_getElem? (i := 56) rfl), List.forall_mem_cons.mpr ⟨lw_m3 (List.mem_of_getElem? (i := 57) (by decide +kernel)), List.forall_mem_cons.mpr ⟨lw_m3 (List.mem_of_getElem? (i := 58) (by decide +kernel)), List.forall_mem_cons.mpr ⟨lw_m3 (List.mem_of_getElem? (i := 64) (by decide +kernel)), List.forall_mem_cons.mpr ⟨lw_m3 (List.mem_of_getElem? (i := 59) (by decide +kernel)), List.forall_mem_cons.mpr ⟨lw_m3 (List.mem_of_getElem? (i := 60) (by decide +kernel)), List.forall_mem_cons.mpr ⟨lw_m3 (List.mem_of_getElem? (i := 61) rfl), List.forall_mem_cons.mpr ⟨lw_m3 (List.mem_of_getElem? (i := 62) (by decide +kernel)), List.forall_mem_cons.mpr ⟨lw_m3 (List.mem_of_getElem? (i := 63) (by decide +kernel)), List.forall_mem_cons.mpr ⟨lw_m3 (List.mem_of_getElem? (i := 65) (by decide +kernel)), List.forall_mem_cons.mpr ⟨lw_m3 (List.mem_of_getElem? (i := 67) (by decide +kernel)), List.forall_mem_cons.mpr ⟨lw_mS (List.mem_of_getElem? (i := 4) (by decide +kernel)), List.forall_mem_cons.mpr ⟨lw_m3 (List.mem_of_getElem? (i := 68) rfl), List.forall_mem_cons.mpr ⟨lw_m3 (List.mem_of_getElem? (i := 69) (by decide +kernel)), List.forall_mem_cons.mpr ⟨lw_m3 (List.mem_of_getElem? (i := 70) (by decide +kernel)), List.forall_mem_cons.mpr ⟨lw_m3 (List.mem_of_getElem? (i := 71) (by decide +kernel)), fun _ h => absurd h List.not_mem_nil⟩⟩⟩⟩⟩⟩⟩⟩⟩⟩⟩⟩⟩⟩⟩⟩⟩⟩⟩⟩⟩⟩⟩⟩
set_option maxRecDepth 20000 in
theorem wsL_law0_r18_in : ∀ w ∈ wsL_law0_r18, w ∈ lw_tbl := List.forall_mem_cons.mpr ⟨lw_m3 (List.mem_of_getElem? (i := 72) rfl), List.forall_mem_cons.mpr ⟨lw_m3 (List.mem_of_getElem? (i := 73) (by decide +kernel)), List.forall_mem_cons.mpr ⟨lw_m3 (List.mem_of_getElem? (i := 74) (by decide +kernel)), List.forall_mem_cons.mpr ⟨lw_m3 (List.mem_of_getElem? (i := 75) (by decide +kernel)), List.forall_mem_cons.mpr ⟨lw_m3 (List.mem_of_getElem? (i := 76) rfl), List.forall_mem_cons.mpr ⟨lw_m3 (List.mem_of_getElem? (i := 77) (by decide +kernel)), List.forall_mem_cons.mpr ⟨lw_m3 (List.mem_of_getElem? (i := 78) (by decide +kernel)), List.forall_mem_cons.mpr ⟨lw_m3 (List.mem_of_getElem? (i := 79) (by decide +kernel)), List.forall_mem_cons.mpr ⟨lw_m1 (List.mem_of_getElem? (i := 17) (by decide +kernel)), List.forall_mem_cons.mpr ⟨lw_m3 (List.mem_of_getElem? (i := 80) rfl), List.forall_mem_cons.mpr ⟨lw_m3 (List.mem_of_getElem? (i := 81) (by decide +kernel)), List.forall_mem_cons.mpr ⟨lw_m3 (List.mem_of_getElem? (i := 82) (by decide +kernel)), List.forall_mem_cons.mpr ⟨lw_m3 (List.mem_of_getElem? (i := 83) (by decide +kernel)), List.forall_mem_cons.mpr ⟨lw_m3 (List.mem_of_getElem? (i := 84) rfl), List.forall_mem_cons.mpr ⟨lw_m3 (List.mem_of_getElem? (i := 86) (by decide +kernel)), List.forall_mem_cons.mpr ⟨lw_m3 (List.mem_of_getElem? (i := 88) (by decide +kernel)), List.forall_mem_cons.mpr ⟨lw_mS (List.mem_of_getElem? (i := 5) (by decide +kernel)), List.forall_mem_cons.mpr ⟨lw_m3 (List.mem_of_getElem? (i := 89) rfl), List.forall_mem_cons.mpr ⟨lw_m1 (List.mem_of_getElem? (i := 215) (by decide +kernel)), List.forall_mem_cons.mpr ⟨lw_m1 (List.mem_of_getElem? (i := 216) (by decide +kernel)), List.forall_mem_cons.mpr ⟨lw_m1 (List.mem_of_getElem? (i := 217) (by decide +kernel)), List.forall_mem_cons.mpr ⟨lw_m1 (List.mem_of_getElem? (i := 218) rfl), List.forall_mem_cons.mpr ⟨lw_m3 (List.mem_of_getElem? (i := 90) (by decide +kernel)), List.forall_mem_cons.mpr ⟨lw_m3 (List.mem_of_getElem? (i := 91) (by decide +kernel)), fun _ h => absurd h List.not_mem_nil⟩⟩⟩⟩⟩⟩⟩⟩⟩⟩⟩⟩⟩⟩⟩⟩⟩⟩⟩⟩⟩⟩⟩⟩
set_option maxRecDepth 20000 in
theorem wsL_law0_r19_in : ∀ w ∈ wsL_law0_r19, w ∈ lw_tbl := List.forall_mem_cons.mpr ⟨lw_m3 (List.mem_of_getElem? (i := 92) (by decide +kernel)), List.forall_mem_cons.mpr ⟨lw_m3 (List.mem_of_getElem? (i := 93) rfl), List.forall_mem_cons.mpr ⟨lw_m3 (List.mem_of_getElem? (i := 94) (by decide +kernel)), List.forall_mem_cons.mpr ⟨lw_m3 (List.mem_of_getElem? (i := 95) (by decide +kernel)), List.forall_mem_cons.mpr ⟨lw_m3 (List.mem_of_getElem? (i := 96) rfl), List.forall_mem_cons.mpr ⟨lw_m3 (List.mem_of_getElem? (i := 97) (by decide +kernel)), List.forall_mem_cons.mpr ⟨lw_m3 (List.mem_of_getElem? (i := 98) (by decide +kernel)), List.forall_mem_cons.mpr ⟨lw_m3 (List.mem_of_getElem? (i := 99) rfl), List.forall_mem_cons.mpr ⟨lw_m3 (List.mem_of_getElem? (i := 100) (by decide +kernel)), List.forall_mem_cons.mpr ⟨lw_m3 (List.mem_of_getElem? (i := 102) (by decide +kernel)), List.forall_mem_cons.mpr ⟨lw_mS (List.mem_of_getElem? (i := 6) (by decide +kernel)), List.forall_mem_cons.mpr ⟨lw_m3 (List.mem_of_getElem? (i := 103) rfl), List.forall_mem_cons.mpr ⟨lw_m3 (List.mem_of_getElem? (i := 104) (by decide +kernel)), List.forall_mem_cons.mpr ⟨lw_m3 (List.mem_of_getElem? (i := 105) (by decide +kernel)), List.forall_mem_cons.mpr ⟨lw_m3 (List.mem_of_getElem? (i := 106) (by decide +kernel)), List.forall_mem_cons.mpr ⟨lw_m3 (List.mem_of_getElem? (i := 107) rfl), List.forall_mem_cons.mpr ⟨lw_m3 (List.mem_of_getElem? (i := 108) (by decide +kernel)), List.forall_mem_cons.mpr ⟨lw_m3 (List.mem_of_getElem? (i := 109) (by decide +kernel)), List.forall_mem_cons.mpr ⟨lw_m3 (List.mem_of_getElem? (i := 110) (by decide +kernel)), List.forall_mem_cons.mpr ⟨lw_m3 (List.mem_of_getElem? (i := 111) (by decide +kernel)), List.forall_mem_cons.mpr ⟨lw_m3 (List.mem_of_getElem? (i := 112) rfl), List.forall_mem_cons.mpr ⟨lw_m3 (List.mem_of_getElem? (i := 113) (by decide +kernel)), List.forall_mem_cons.mpr ⟨lw_m3 (List.mem_of_getElem? (i := 114) (by decide +kernel)), List.forall_mem_cons.mpr ⟨lw_m3 (List.mem_of_getElem? (i := 115) (by decide +kernel)), fun _ h => absurd h List.not_mem_nil⟩⟩⟩⟩⟩⟩⟩⟩⟩⟩⟩⟩⟩⟩⟩⟩⟩⟩⟩⟩⟩⟩⟩⟩
set_option maxRecDepth 20000 in
theorem wsL_law0_r20_in : ∀ w ∈ wsL_law0_r20, w ∈ lw_tbl := List.forall_mem_cons.mpr ⟨lw_m3 (List.mem_of_getElem? (i := 116) rfl), List.forall_mem_cons.mpr ⟨lw_m3 (List.mem_of_getElem? (i := 117) (by decide +kernel)), List.forall_mem_cons.mpr ⟨lw_m3 (List.mem_of_getElem? (i := 118) (by decide +kernel)), List.forall_mem_cons.mpr ⟨lw_m3 (List.mem_of_getElem? (i := 119) (by decide +kernel)), List.forall_mem_cons.mpr ⟨lw_m3 (List.mem_of_getElem? (i := 120) rfl), List.forall_mem_cons.mpr ⟨lw_m3 (List.mem_of_getElem? (i := 121) (by decide +kernel)), List.forall_mem_cons.mpr ⟨lw_m3 (List.mem_of_getElem? (i := 123) (by decide +kernel)), List.forall_mem_cons.mpr ⟨lw_mS (List.mem_of_getElem? (i := 7) (by decide +kernel)), List.forall_mem_cons.mpr ⟨lw_m3 (List.mem_of_getElem? (i := 124) rfl), List.forall_mem_cons.mpr ⟨lw_m3 (List.mem_of_getElem? (i := 125) (by decide +kernel)), List.forall_mem_cons.mpr ⟨lw_m3 (List.mem_of_getElem? (i := 127) (by decide +kernel)), List.forall_mem_cons.mpr ⟨lw_mS (List.mem_of_getElem? (i := 8) (by decide +kernel)), List.forall_mem_cons.mpr ⟨lw_m3 (List.mem_of_getElem? (i := 128) rfl), List.forall_mem_cons.mpr ⟨lw_m3 (List.mem_of_getElem? (i := 129) (by decide +kernel)), List.forall_mem_cons.mpr ⟨lw_m3 (List.mem_of_getElem? (i := 130) (by decide +kernel)), List.forall_mem_cons.mpr ⟨lw_m3 (List.mem_of_getElem? (i := 131) (by decide +kernel)), List.forall_mem_cons.mpr ⟨lw_m3 (List.mem_of_getElem? (i := 132) (by decide +kernel)), List.forall_mem_cons.mpr ⟨lw_m3 (List.mem_of_getElem? (i := 133) rfl), List.forall_mem_cons.mpr ⟨lw_m3 (List.mem_of_getElem? (i := 134) (by decide +kernel)), List.forall_mem_cons.mpr ⟨lw_m3 (List.mem_of_getElem? (i := 136) (by decide +kernel)), List.forall_mem_cons.mpr ⟨lw_mS (List.mem_of_getElem? (i := 9) (by decide +kernel)), List.forall_mem_cons.mpr ⟨lw_m3 (List.mem_of_getElem? (i := 137) rfl), List.forall_mem_cons.mpr ⟨lw_m3 (List.mem_of_getElem? (i := 138) (by decide +kernel)), List.forall_mem_cons.mpr ⟨lw_m3 (List.mem_of_getElem? (i := 139) (by decide +kernel)), fun _ h => absurd h List.not_mem_nil⟩⟩⟩⟩⟩⟩⟩⟩⟩⟩⟩⟩⟩⟩⟩⟩⟩⟩⟩⟩⟩⟩⟩⟩
set_option maxRecDepth 20000 in
theorem wsL_law0_r21_in : ∀ w ∈ wsL_law0_r21, w ∈ lw_tbl := List.forall_mem_cons.mpr ⟨lw_m3 (List.mem_of_getElem? (i := 140) (by decide +kernel)), List.forall_mem_cons.mpr ⟨lw_m3 (List.mem_of_getElem? (i := 141) rfl), List.forall_mem_cons.mpr ⟨lw_m3 (List.mem_of_getElem? (i := 142) (by decide +kernel)), List.forall_mem_cons.mpr ⟨lw_m3 (List.mem_of_getElem? (i := 143) (by decide +kernel)), List.forall_mem_cons.mpr ⟨lw_m3 (List.mem_of_getElem? (i := 144) (by decide +kernel)), List.forall_mem_cons.mpr ⟨lw_m3 (List.mem_of_getElem? (i := 145) rfl), List.forall_mem_cons.mpr ⟨lw_m3 (List.mem_of_getElem? (i := 146) (by decide +kernel)), List.forall_mem_cons.mpr ⟨lw_m3 (List.mem_of_getElem? (i := 148) (by decide +kernel)), List.forall_mem_cons.mpr ⟨lw_mS (List.mem_of_getElem? (i := 10) (by decide +kernel)), List.forall_mem_cons.mpr ⟨lw_m3 (List.mem_of_getElem? (i := 149) rfl), List.forall_mem_cons.mpr ⟨lw_m3 (List.mem_of_getElem? (i := 150) (by decide +kernel)), List.forall_mem_cons.mpr ⟨lw_m3 (List.mem_of_getElem? (i := 151) (by decide +kernel)), List.forall_mem_cons.mpr ⟨lw_m3 (List.mem_of_getElem? (i := 152) (by decide +kernel)), List.forall_mem_cons.mpr ⟨lw_m3 (List.mem_of_getElem? (i := 153) rfl), List.forall_mem_cons.mpr ⟨lw_m3 (List.mem_of_getElem? (i := 154) (by decide +kernel)), List.forall_mem_cons.mpr ⟨lw_m3 (List.mem_of_getElem? (i := 156) (by decide +kernel)), List.forall_mem_cons.mpr ⟨lw_mS (List.mem_of_getElem? (i := 11) (by decide +kernel)), List.forall_mem_cons.mpr ⟨lw_m3 (List.mem_of_getElem? (i := 157) rfl), List.forall_mem_cons.mpr ⟨lw_m3 (List.mem_of_getElem? (i := 158) (by decide +kernel)), List.forall_mem_cons.mpr ⟨lw_m3 (List.mem_of_getElem? (i := 159) (by decide +kernel)), List.forall_mem_cons.mpr ⟨lw_m3 (List.mem_of_getElem? (i := 160) (by decide +kernel)), List.forall_mem_cons.mpr ⟨lw_m3 (List.mem_of_getElem? (i := 161) rfl), List.forall_mem_cons.mpr ⟨lw_m3 (List.mem_of_getElem? (i := 162) (by decide +kernel)), List.forall_mem_cons.mpr ⟨lw_m3 (List.mem_of_getElem? (i := 164) (by decide +kernel)), fun _ h => absurd h List.not_mem_nil⟩⟩⟩⟩⟩⟩⟩⟩⟩⟩⟩⟩⟩⟩⟩⟩⟩⟩⟩⟩⟩⟩⟩⟩
set_option maxRecDepth 20000 in
theorem wsL_law0_r22_in : ∀ w ∈ wsL_law0_r22, w ∈ lw_tbl := List.forall_mem_cons.mpr ⟨lw_mS (List.mem_of_getElem? (i := 12) (by decide +kernel)), List.forall_mem_cons.mpr ⟨lw_m3 (List.mem_of_getElem? (i := 165) rfl), List.forall_mem_cons.mpr ⟨lw_m3 (List.mem_of_getElem? (i := 166) (by decide +kernel)), List.forall_mem_cons.mpr ⟨lw_m3 (List.mem_of_getElem? (i := 167) (by decide +kernel)), List.forall_mem_cons.mpr ⟨lw_m3 (List.mem_of_getElem? (i := 168) (by decide +kernel)), List.forall_mem_cons.mpr ⟨lw_m3 (List.mem_of_getElem? (i := 169) rfl), List.forall_mem_cons.mpr ⟨lw_m3 (List.mem_of_getElem? (i := 170) (by decide +kernel)), List.forall_mem_cons.mpr ⟨lw_m3 (List.mem_of_getElem? (i := 171) (by decide +kernel)), List.forall_mem_cons.mpr ⟨lw_m3 (List.mem_of_getElem? (i := 172) (by decide +kernel)), List.forall_mem_cons.mpr ⟨lw_m3 (List.mem_of_getElem? (i := 173) rfl), List.forall_mem_cons.mpr ⟨lw_m3 (List.mem_of_getElem? (i := 174) (by decide +kernel)), List.forall_mem_cons.mpr ⟨lw_m3 (List.mem_of_getElem? (i := 175) (by decide +kernel)), List.forall_mem_cons.mpr ⟨lw_m3 (List.mem_of_getElem? (i := 176) (by decide +kernel)), List.forall_mem_cons.mpr ⟨lw_m3 (List.mem_of_getElem? (i := 177) rfl), List.forall_mem_cons.mpr ⟨lw_m3 (List.mem_of_getElem? (i := 178) (by decide +kernel)), List.forall_mem_cons.mpr ⟨lw_m3 (List.mem_of_getElem? (i := 179) (by decide +kernel)), List.forall_mem_cons.mpr ⟨lw_m3 (List.mem_of_getElem? (i := 180) (by decide +kernel)), List.forall_mem_cons.mpr ⟨lw_m3 (List.mem_of_getElem? (i := 181) rfl), List.forall_mem_cons.mpr ⟨lw_m3 (List.mem_of_getElem? (i := 182) (by decide +kernel)), List.forall_mem_cons.mpr ⟨lw_m3 (List.mem_of_getElem? (i := 183) (by decide +kernel)), List.forall_mem_cons.mpr ⟨lw_m3 (List.mem_of_getElem? (i := 184) (by decide +kernel)), List.forall_mem_cons.mpr ⟨lw_m3 (List.mem_of_getElem? (i := 185) rfl), List.forall_mem_cons.mpr ⟨lw_m3 (List.mem_of_getElem? (i := 186) (by decide +kernel)), List.forall_mem_cons.mpr ⟨lw_m3 (List.mem_of_getElem? (i := 187) (by decide +kernel)), fun _ h => absurd h List.not_mem_nil⟩⟩⟩⟩⟩⟩⟩⟩⟩⟩⟩⟩⟩⟩⟩⟩⟩⟩⟩⟩⟩⟩⟩⟩
set_option maxRecDepth 20000 in
theorem wsL_law0_r23_in : ∀ w ∈ wsL_law0_r23, w ∈ lw_tbl := List.forall_mem_cons.mpr ⟨lw_m3 (List.mem_of_getElem? (i := 189) (by decide +kernel)), List.forall_mem_cons.mpr ⟨lw_mS (List.mem_of_getElem? (i := 13) (by decide +kernel)), List.forall_mem_cons.mpr ⟨lw_m3 (List.mem_of_getElem? (i := 190) rfl), List.forall_mem_cons.mpr ⟨lw_m3 (List.mem_of_getElem? (i := 191) (by decide +kernel)), List.forall_mem_cons.mpr ⟨lw_m3 (List.mem_of_getElem? (i := 193) (by decide +kernel)), List.forall_mem_cons.mpr ⟨lw_mS (List.mem_of_getElem? (i := 14) (by decide +kernel)), List.forall_mem_cons.mpr ⟨lw_m3 (List.mem_of_getElem? (i := 194) rfl), List.forall_mem_cons.mpr ⟨lw_m3 (List.mem_of_getElem? (i := 195) (by decide +kernel)), List.forall_mem_cons.mpr ⟨lw_m3 (List.mem_of_getElem? (i := 197) (by decide +kernel)), List.forall_mem_cons.mpr ⟨lw_mS (List.mem_of_getElem? (i := 15) (by decide +kernel)), List.forall_mem_cons.mpr ⟨lw_m3 (List.mem_of_getElem? (i := 198) rfl), List.forall_mem_cons.mpr ⟨lw_m3 (List.mem_of_getElem? (i := 199) (by decide +kernel)), List.forall_mem_cons.mpr ⟨lw_m3 (List.mem_of_getElem? (i := 200) (by decide +kernel)), List.forall_mem_cons.mpr ⟨lw_m3 (List.mem_of_getElem? (i := 201) (by decide +kernel)), List.forall_mem_cons.mpr ⟨lw_m3 (List.mem_of_getElem? (i := 202) rfl), List.forall_mem_cons.mpr ⟨lw_m3 (List.mem_of_getElem? (i := 203) (by decide +kernel)), List.forall_mem_cons.mpr ⟨lw_m3 (List.mem_of_getElem? (i := 204) (by decide +kernel)), List.forall_mem_cons.mpr ⟨lw_m3 (List.mem_of_getElem? (i := 205) rfl), List.forall_mem_cons.mpr ⟨lw_m3 (List.mem_of_getElem? (i := 206) (by decide +kernel)), List.forall_mem_cons.mpr ⟨lw_m4 (List.mem_of_getElem? (i := 209) (by decide +kernel)), List.forall_mem_cons.mpr ⟨lw_m4 (List.mem_of_getElem? (i := 210) (by decide +kernel)), List.forall_mem_cons.mpr ⟨lw_m4 (List.mem_of_getElem? (i := 211) (by decide +kernel)), List.forall_mem_cons.mpr ⟨lw_m4 (List.mem_of_getElem? (i := 212) rfl), List.forall_mem_cons.mpr ⟨lw_m4 (List.mem_of_getElem? (i := 213) (by decide +kernel)), fun _ h => absurd h List.not_mem_nil⟩⟩⟩⟩⟩⟩⟩⟩⟩⟩⟩⟩⟩⟩⟩⟩⟩⟩⟩⟩⟩⟩⟩⟩
set_option maxRecDepth 20000 in
theorem wsL_law0_r24_in : ∀ w ∈ wsL_law0_r24, w ∈ lw_tbl := List.forall_mem_cons.mpr ⟨lw_m4 (List.mem_of_getElem? (i := 215) (by decide +kernel)), List.forall_mem_cons.mpr ⟨lw_mS (List.mem_of_getElem? (i := 19) (by decide +kernel)), List.forall_mem_cons.mpr ⟨lw_m4 (List.mem_of_getElem? (i := 216) rfl), List.forall_mem_cons.mpr ⟨lw_m4 (List.mem_of_getElem? (i := 217) (by decide +kernel)), List.forall_mem_cons.mpr ⟨lw_m4 (List.mem_of_getElem? (i := 219) (by decide +kernel)), List.forall_mem_cons.mpr ⟨lw_mS (List.mem_of_getElem? (i := 20) (by decide +kernel)), List.forall_mem_cons.mpr ⟨lw_m4 (List.mem_of_getElem? (i := 220) rfl), List.forall_mem_cons.mpr ⟨lw_m4 (List.mem_of_getElem? (i := 221) (by decide +kernel)), List.forall_mem_cons.mpr ⟨lw_m4 (List.mem_of_getElem? (i := 223) (by decide +kernel)), List.forall_mem_cons.mpr ⟨lw_mS (List.mem_of_getElem? (i := 21) (by decide +kernel)), List.forall_mem_cons.mpr ⟨lw_m4 (List.mem_of_getElem? (i := 224) rfl), List.forall_mem_cons.mpr ⟨lw_m4 (List.mem_of_getElem? (i := 45) (by decide +kernel)), List.forall_mem_cons.mpr ⟨lw_m4 (List.mem_of_getElem? (i := 49) (by decide +kernel)), List.forall_mem_cons.mpr ⟨lw_m4 (List.mem_of_getElem? (i := 225) (by decide +kernel)), List.forall_mem_cons.mpr ⟨lw_m4 (List.mem_of_getElem? (i := 226) (by decide +kernel)), List.forall_mem_cons.mpr ⟨lw_m4 (List.mem_of_getElem? (i := 228) (by decide +kernel)), List.forall_mem_cons.mpr ⟨lw_mS (List.mem_of_getElem? (i := 22) (by decide +kernel)), List.forall_mem_cons.mpr ⟨lw_m4 (List.mem_of_getElem? (i := 229) rfl), List.forall_mem_cons.mpr ⟨lw_m4 (List.mem_of_getElem? (i := 53) (by decide +kernel)), List.forall_mem_cons.mpr ⟨lw_m4 (List.mem_of_getElem? (i := 44) (by decide +kernel)), List.forall_mem_cons.mpr ⟨lw_m4 (List.mem_of_getElem? (i := 54) (by decide +kernel)), List.forall_mem_cons.mpr ⟨lw_m4 (List.mem_of_getElem? (i := 230) (by decide +kernel)), List.forall_mem_cons.mpr ⟨lw_m4 (List.mem_of_getElem? (i := 232) (by decide +kernel)), List.forall_mem_cons.mpr ⟨lw_mS (List.mem_of_getElem? (i := 23) (by decide +kernel)), fun _ h => absurd h List.not_mem_nil⟩⟩⟩⟩⟩⟩⟩⟩⟩⟩⟩⟩⟩⟩⟩⟩⟩⟩⟩⟩⟩⟩⟩⟩
set_option maxRecDepth 20000 in
theorem wsL_law0_r25_in : ∀ w ∈ wsL_law0_r25, w ∈ lw_tbl := List.forall_mem_cons.mpr ⟨lw_m4 (List.mem_of_getElem? (i := 233) rfl), List.forall_mem_cons.mpr ⟨lw_m5 (List.mem_of_getElem? (i := 2) (by decide +kernel)), List.forall_mem_cons.mpr ⟨lw_m4 (List.mem_of_getElem? (i := 55) (by decide +kernel)), List.forall_mem_cons.mpr ⟨lw_m4 (List.mem_of_getElem? (i := 234) (by decide +kernel)), List.forall_mem_cons.mpr ⟨lw_m4 (List.mem_of_getElem? (i := 236) (by decide +kernel)), List.forall_mem_cons.mpr ⟨lw_mS (List.mem_of_getElem? (i := 24) (by decide +kernel)), List.forall_mem_cons.mpr ⟨lw_m4 (List.mem_of_getElem? (i := 237) rfl), List.forall_mem_cons.mpr ⟨lw_m4 (List.mem_of_getElem? (i := 238) (by decide +kernel)), List.forall_mem_cons.mpr ⟨lw_m5 (List.mem_of_getElem? (i := 0) (by decide +kernel)), List.forall_mem_cons.mpr ⟨lw_mS (List.mem_of_getElem? (i := 25) (by decide +kernel)), List.forall_mem_cons.mpr ⟨lw_m5 (List.mem_of_getElem? (i := 1) rfl), List.forall_mem_cons.mpr ⟨lw_m5 (List.mem_of_getElem? (i := 3) (by decide +kernel)), List.forall_mem_cons.mpr ⟨lw_m5 (List.mem_of_getElem? (i := 5) (by decide +kernel)), List.forall_mem_cons.mpr ⟨lw_mS (List.mem_of_getElem? (i := 26) (by decide +kernel)), List.forall_mem_cons.mpr ⟨lw_m5 (List.mem_of_getElem? (i := 6) rfl), List.forall_mem_cons.mpr ⟨lw_m4 (List.mem_of_getElem? (i := 63) (by decide +kernel)), List.forall_mem_cons.mpr ⟨lw_m5 (List.mem_of_getElem? (i := 7) (by decide +kernel)), List.forall_mem_cons.mpr ⟨lw_m5 (List.mem_of_getElem? (i := 9) (by decide +kernel)), List.forall_mem_cons.mpr ⟨lw_mS (List.mem_of_getElem? (i := 27) (by decide +kernel)), List.forall_mem_cons.mpr ⟨lw_m5 (List.mem_of_getElem? (i := 10) rfl), List.forall_mem_cons.mpr ⟨lw_m5 (List.mem_of_getElem? (i := 11) (by decide +kernel)), List.forall_mem_cons.mpr ⟨lw_m5 (List.mem_of_getElem? (i := 13) (by decide +kernel)), List.forall_mem_cons.mpr ⟨lw_mS (List.mem_of_getElem? (i := 28) (by decide +kernel)), List.forall_mem_cons.mpr ⟨lw_m5 (List.mem_of_getElem? (i := 14) rfl), fun _ h => absurd h List.not_mem_nil⟩⟩⟩⟩⟩⟩⟩⟩⟩⟩⟩⟩⟩⟩⟩⟩⟩⟩⟩⟩⟩⟩⟩⟩
set_option maxRecDepth 20000 in
theorem wsL_law0_r26_in : ∀ w ∈ wsL_law0_r26, w ∈ lw_tbl := List.forall_mem_cons.mpr ⟨lw_m5 (List.mem_of_getElem? (i := 15) (by decide +kernel)), List.forall_mem_cons.mpr ⟨lw_m5 (List.mem_of_getElem? (i := 17) (by decide +kernel)), List.forall_mem_cons.mpr ⟨lw_mS (List.mem_of_getElem? (i := 29) (by decide +kernel)), List.forall_mem_cons.mpr ⟨lw_m5 (List.mem_of_getElem? (i := 18) rfl), List.forall_mem_cons.mpr ⟨lw_m4 (List.mem_of_getElem? (i := 62) (by decide +kernel)), List.forall_mem_cons.mpr ⟨lw_m5 (List.mem_of_getElem? (i := 19) (by decide +kernel)), List.forall_mem_cons.mpr ⟨lw_m5 (List.mem_of_getElem? (i := 21) (by decide +kernel)), List.forall_mem_cons.mpr ⟨lw_mS (List.mem_of_getElem? (i := 30) (by decide +kernel)), List.forall_mem_cons.mpr ⟨lw_m5 (List.mem_of_getElem? (i := 22) rfl), List.forall_mem_cons.mpr ⟨lw_m4 (List.mem_of_getElem? (i := 46) (by decide +kernel)), List.forall_mem_cons.mpr ⟨lw_m5 (List.mem_of_getElem? (i := 23) (by decide +kernel)), List.forall_mem_cons.mpr ⟨lw_m5 (List.mem_of_getElem? (i := 25) (by decide +kernel)), List.forall_mem_cons.mpr ⟨lw_mS (List.mem_of_getElem? (i := 31) (by decide +kernel)), List.forall_mem_cons.mpr ⟨lw_m5 (List.mem_of_getElem? (i := 26) rfl), List.forall_mem_cons.mpr ⟨lw_m5 (List.mem_of_getElem? (i := 27) (by decide +kernel)), List.forall_mem_cons.mpr ⟨lw_m5 (List.mem_of_getElem? (i := 29) (by decide +kernel)), List.forall_mem_cons.mpr ⟨lw_mS (List.mem_of_getElem? (i := 32) (by decide +kernel)), List.forall_mem_cons.mpr ⟨lw_m5 (List.mem_of_getElem? (i := 30) rfl), List.forall_mem_cons.mpr ⟨lw_m5 (List.mem_of_getElem? (i := 31) (by decide +kernel)), List.forall_mem_cons.mpr ⟨lw_m5 (List.mem_of_getElem? (i := 33) (by decide +kernel)), List.forall_mem_cons.mpr ⟨lw_mS (List.mem_of_getElem? (i := 33) (by decide +kernel)), List.forall_mem_cons.mpr ⟨lw_m5 (List.mem_of_getElem? (i := 34) rfl), List.forall_mem_cons.mpr ⟨lw_m5 (List.mem_of_getElem? (i := 35) (by decide +kernel)), List.forall_mem_cons.mpr ⟨lw_m5 (List.mem_of_getElem? (i := 37) (by decide +kernel)), fun _ h => absurd h List.not_mem_nil⟩⟩⟩⟩⟩⟩⟩⟩⟩⟩⟩⟩⟩⟩⟩⟩⟩⟩⟩⟩⟩⟩⟩⟩
set_option maxRecDepth 20000 in
theorem wsL_law0_r27_in : ∀ w ∈ wsL_law0_r27, w ∈ lw_tbl := List.forall_mem_cons.mpr ⟨lw_mS (List.mem_of_getElem? (i := 34) (by decide +kernel)), List.forall_mem_cons.mpr ⟨lw_m5 (List.mem_of_getElem? (i := 38) rfl), List.forall_mem_cons.mpr ⟨lw_m3 (List.mem_of_getElem? (i := 208) (by decide +kernel)), List.forall_mem_cons.mpr ⟨lw_m3 (List.mem_of_getElem? (i := 209) (by decide +kernel)), List.forall_mem_cons.mpr ⟨lw_m3 (List.mem_of_getElem? (i := 210) rfl), List.forall_mem_cons.mpr ⟨lw_m3 (List.mem_of_getElem? (i := 211) (by decide +kernel)), List.forall_mem_cons.mpr ⟨lw_m3 (List.mem_of_getElem? (i := 212) (by decide +kernel)), List.forall_mem_cons.mpr ⟨lw_m3 (List.mem_of_getElem? (i := 213) (by decide +kernel)), List.forall_mem_cons.mpr ⟨lw_m3 (List.mem_of_getElem? (i := 214) rfl), List.forall_mem_cons.mpr ⟨lw_m3 (List.mem_of_getElem? (i := 215) (by decide +kernel)), List.forall_mem_cons.mpr ⟨lw_m3 (List.mem_of_getElem? (i := 217) (by decide +kernel)), List.forall_mem_cons.mpr ⟨lw_mS (List.mem_of_getElem? (i := 16) (by decide +kernel)), List.forall_mem_cons.mpr ⟨lw_m3 (List.mem_of_getElem? (i := 218) rfl), List.forall_mem_cons.mpr ⟨lw_m5 (List.mem_of_getElem? (i := 39) (by decide +kernel)), List.forall_mem_cons.mpr ⟨lw_m5 (List.mem_of_getElem? (i := 40) (by decide +kernel)), List.forall_mem_cons.mpr ⟨lw_m5 (List.mem_of_getElem? (i := 41) (by decide +kernel)), List.forall_mem_cons.mpr ⟨lw_m5 (List.mem_of_getElem? (i := 42) rfl), List.forall_mem_cons.mpr ⟨lw_m1 (List.mem_of_getElem? (i := 210) (by decide +kernel)), List.forall_mem_cons.mpr ⟨lw_m1 (List.mem_of_getElem? (i := 211) (by decide +kernel)), List.forall_mem_cons.mpr ⟨lw_m1 (List.mem_of_getElem? (i := 212) (by decide +kernel)), List.forall_mem_cons.mpr ⟨lw_m1 (List.mem_of_getElem? (i := 213) rfl), List.forall_mem_cons.mpr ⟨lw_m1 (List.mem_of_getElem? (i := 214) (by decide +kernel)), List.forall_mem_cons.mpr ⟨lw_m5 (List.mem_of_getElem? (i := 43) (by decide +kernel)), List.forall_mem_cons.mpr ⟨lw_m5 (List.mem_of_getElem? (i := 44) (by decide +kernel)), fun _ h => absurd h List.not_mem_nil⟩⟩⟩⟩⟩⟩⟩⟩⟩⟩⟩⟩⟩⟩⟩⟩⟩⟩⟩⟩⟩⟩⟩⟩
set_option maxRecDepth 20000 in
theorem wsL_law0_r28_in : ∀ w ∈ wsL_law0_r28, w ∈ lw_tbl := List.forall_mem_cons.mpr ⟨lw_m5 (List.mem_of_getElem? (i := 45) (by decide +kernel)), List.forall_mem_cons.mpr ⟨lw_m5 (List.mem_of_getElem? (i := 46) rfl), List.forall_mem_cons.mpr ⟨lw_m5 (List.mem_of_getElem? (i := 47) (by decide +kernel)), List.forall_mem_cons.mpr ⟨lw_m3 (List.mem_of_getElem? (i := 219) (by decide +kernel)), List.forall_mem_cons.mpr ⟨lw_m3 (List.mem_of_getElem? (i := 220) (by decide +kernel)), List.forall_mem_cons.mpr ⟨lw_m3 (List.mem_of_getElem? (i := 221) rfl), List.forall_mem_cons.mpr ⟨lw_m3 (List.mem_of_getElem? (i := 222) (by decide +kernel)), List.forall_mem_cons.mpr ⟨lw_m3 (List.mem_of_getElem? (i := 223) (by decide +kernel)), List.forall_mem_cons.mpr ⟨lw_m3 (List.mem_of_getElem? (i := 224) (by decide +kernel)), List.forall_mem_cons.mpr ⟨lw_m3 (List.mem_of_getElem? (i := 225) rfl), List.forall_mem_cons.mpr ⟨lw_m5 (List.mem_of_getElem? (i := 48) (by decide +kernel)), List.forall_mem_cons.mpr ⟨lw_m5 (List.mem_of_getElem? (i := 49) (by decide +kernel)), List.forall_mem_cons.mpr ⟨lw_m5 (List.mem_of_getElem? (i := 50) (by decide +kernel)), List.forall_mem_cons.mpr ⟨lw_m5 (List.mem_of_getElem? (i := 51) rfl), List.forall_mem_cons.mpr ⟨lw_m1 (List.mem_of_getElem? (i := 219) (by decide +kernel)), List.forall_mem_cons.mpr ⟨lw_m1 (List.mem_of_getElem? (i := 220) (by decide +kernel)), List.forall_mem_cons.mpr ⟨lw_m1 (List.mem_of_getElem? (i := 221) (by decide +kernel)), List.forall_mem_cons.mpr ⟨lw_m1 (List.mem_of_getElem? (i := 222) rfl), List.forall_mem_cons.mpr ⟨lw_m5 (List.mem_of_getElem? (i := 52) (by decide +kernel)), List.forall_mem_cons.mpr ⟨lw_m5 (List.mem_of_getElem? (i := 53) (by decide +kernel)), List.forall_mem_cons.mpr ⟨lw_m5 (List.mem_of_getElem? (i := 54) (by decide +kernel)), List.forall_mem_cons.mpr ⟨lw_m5 (List.mem_of_getElem? (i := 55) rfl), List.forall_mem_cons.mpr ⟨lw_m3 (List.mem_of_getElem? (i := 226) (by decide +kernel)), List.forall_mem_cons.mpr ⟨lw_m3 (List.mem_of_getElem? (i := 227) (by decide +kernel)), fun _ h => absurd h List.not_mem_nil⟩⟩⟩⟩⟩⟩⟩⟩⟩⟩⟩⟩⟩⟩⟩⟩⟩⟩⟩⟩⟩⟩⟩⟩
set_option maxRecDepth 20000 in
theorem wsL_law0_r29_in : ∀ w ∈ wsL_law0_r29, w ∈ lw_tbl := List.forall_mem_cons.mpr ⟨lw_m3 (List.mem_of_getElem? (i := 228) rfl), List.forall_mem_cons.mpr ⟨lw_m3 (List.mem_of_getElem? (i := 229) (by decide +kernel)), List.forall_mem_cons.mpr ⟨lw_m3 (List.mem_of_getElem? (i := 230) (by decide +kernel)), List.forall_mem_cons.mpr ⟨lw_m3 (List.mem_of_getElem? (i := 231) (by decide +kernel)), List.forall_mem_cons.mpr ⟨lw_m3 (List.mem_of_getElem? (i := 232) rfl), List.forall_mem_cons.mpr ⟨lw_m3 (List.mem_of_getElem? (i := 233) (by decide +kernel)), List.forall_mem_cons.mpr ⟨lw_m3 (List.mem_of_getElem? (i := 234) (by decide +kernel)), List.forall_mem_cons.mpr ⟨lw_m3 (List.mem_of_getElem? (i := 235) (by decide +kernel)), List.forall_mem_cons.mpr ⟨lw_m3 (List.mem_of_getElem? (i := 236) rfl), List.forall_mem_cons.mpr ⟨lw_m3 (List.mem_of_getElem? (i := 237) (by decide +kernel)), List.forall_mem_cons.mpr ⟨lw_m3 (List.mem_of_getElem? (i := 238) (by decide +kernel)), List.forall_mem_cons.mpr ⟨lw_m3 (List.mem_of_getElem? (i := 239) (by decide +kernel)), List.forall_mem_cons.mpr ⟨lw_m4 (List.mem_of_getElem? (i := 0) rfl), List.forall_mem_cons.mpr ⟨lw_m5 (List.mem_of_getElem? (i := 56) (by decide +kernel)), List.forall_mem_cons.mpr ⟨lw_m5 (List.mem_of_getElem? (i := 57) (by decide +kernel)), List.forall_mem_cons.mpr ⟨lw_m5 (List.mem_of_getElem? (i := 58) (by decide +kernel)), List.forall_mem_cons.mpr ⟨lw_m5 (List.mem_of_getElem? (i := 59) rfl), List.forall_mem_cons.mpr ⟨lw_m4 (List.mem_of_getElem? (i := 1) (by decide +kernel)), List.forall_mem_cons.mpr ⟨lw_m4 (List.mem_of_getElem? (i := 2) (by decide +kernel)), List.forall_mem_cons.mpr ⟨lw_m4 (List.mem_of_getElem? (i := 3) rfl), List.forall_mem_cons.mpr ⟨lw_m4 (List.mem_of_getElem? (i := 4) (by decide +kernel)), List.forall_mem_cons.mpr ⟨lw_m4 (List.mem_of_getElem? (i := 5) (by decide +kernel)), List.forall_mem_cons.mpr ⟨lw_m4 (List.mem_of_getElem? (i := 6) (by decide +kernel)), List.forall_mem_cons.mpr ⟨lw_m4 (List.mem_of_getElem? (i := 7) rfl), fun _ h => absurd h List.not_mem_nil⟩⟩⟩⟩⟩⟩⟩⟩⟩⟩⟩⟩⟩⟩⟩⟩⟩⟩⟩⟩⟩⟩⟩⟩
set_option maxRecDepth 20000 in
theorem wsL_law0_r30_in : ∀ w ∈ wsL_law0_r30, w ∈ lw_tbl := List.forall_mem_cons.mpr ⟨lw_m4 (List.mem_of_getElem? (i := 8) (by decide +kernel)), List.forall_mem_cons.mpr ⟨lw_m4 (List.mem_of_getElem? (i := 9) (by decide +kernel)), List.forall_mem_cons.mpr ⟨lw_m4 (List.mem_of_getElem? (i := 10) (by decide +kernel)), List.forall_mem_cons.mpr ⟨lw_m4 (List.mem_of_getElem? (i := 11) rfl), List.forall_mem_cons.mpr ⟨lw_m4 (List.mem_of_getElem? (i := 12) (by decide +kernel)), List.forall_mem_cons.mpr ⟨lw_m4 (List.mem_of_getElem? (i := 13) (by decide +kernel)), List.forall_mem_cons.mpr ⟨lw_m4 (List.mem_of_getElem? (i := 14) (by decide +kernel)), List.forall_mem_cons.mpr ⟨lw_m4 (List.mem_of_getElem? (i := 15) rfl), List.forall_mem_cons.mpr ⟨lw_m4 (List.mem_of_getElem? (i := 16) (by decide +kernel)), List.forall_mem_cons.mpr ⟨lw_m4 (List.mem_of_getElem? (i := 17) (by decide +kernel)), List.forall_mem_cons.mpr ⟨lw_m4 (List.mem_of_getElem? (i := 18) (by decide +kernel)), List.forall_mem_cons.mpr ⟨lw_m4 (List.mem_of_getElem? (i := 19) rfl), List.forall_mem_cons.mpr ⟨lw_m5 (List.mem_of_getElem? (i := 60) (by decide +kernel)), List.forall_mem_cons.mpr ⟨lw_m5 (List.mem_of_getElem? (i := 61) (by decide +kernel)), List.forall_mem_cons.mpr ⟨lw_m5 (List.mem_of_getElem? (i := 62) (by decide +kernel)), List.forall_mem_cons.mpr ⟨lw_m5 (List.mem_of_getElem? (i := 63) rfl), List.forall_mem_cons.mpr ⟨lw_m4 (List.mem_of_getElem? (i := 20) (by decide +kernel)), List.forall_mem_cons.mpr ⟨lw_m4 (List.mem_of_getElem? (i := 21) (by decide +kernel)), List.forall_mem_cons.mpr ⟨lw_m4 (List.mem_of_getElem? (i := 22) rfl), List.forall_mem_cons.mpr ⟨lw_m4 (List.mem_of_getElem? (i := 23) (by decide +kernel)), List.forall_mem_cons.mpr ⟨lw_m4 (List.mem_of_getElem? (i := 24) (by decide +kernel)), List.forall_mem_cons.mpr ⟨lw_m4 (List.mem_of_getElem? (i := 25) (by decide +kernel)), List.forall_mem_cons.mpr ⟨lw_m4 (List.mem_of_getElem? (i := 26) rfl), List.forall_mem_cons.mpr ⟨lw_m1 (List.mem_of_getElem? (i := 235) (by decide +kernel)), fun _ h => absurd h List.not_mem_nil⟩⟩⟩⟩⟩⟩⟩⟩⟩⟩⟩⟩⟩⟩⟩⟩⟩⟩⟩⟩⟩⟩⟩⟩
set_option maxRecDepth 20000 in
theorem wsL_law0_r31_in : ∀ w ∈ wsL_law0_r31, w ∈ lw_tbl := List.forall_mem_cons.mpr ⟨lw_m1 (List.mem_of_getElem? (i := 236) (by decide +kernel)), List.forall_mem_cons.mpr ⟨lw_m1 (List.mem_of_getElem? (i := 237) (by decide +kernel)), List.forall_mem_cons.mpr ⟨lw_m1 (List.mem_of_getElem? (i := 238) rfl), List.forall_mem_cons.mpr ⟨lw_m5 (List.mem_of_getElem? (i := 64) (by decide +kernel)), List.forall_mem_cons.mpr ⟨lw_m5 (List.mem_of_getElem? (i := 65) (by decide +kernel)), List.forall_mem_cons.mpr ⟨lw_m5 (List.mem_of_getElem? (i := 66) (by decide +kernel)), List.forall_mem_cons.mpr ⟨lw_m5 (List.mem_of_getElem? (i := 67) rfl), List.forall_mem_cons.mpr ⟨lw_m5 (List.mem_of_getElem? (i := 68) (by decide +kernel)), List.forall_mem_cons.mpr ⟨lw_m5 (List.mem_of_getElem? (i := 70) (by decide +kernel)), List.forall_mem_cons.mpr ⟨lw_mS (List.mem_of_getElem? (i := 35) (by decide +kernel)), List.forall_mem_cons.mpr ⟨lw_m5 (List.mem_of_getElem? (i := 71) rfl), List.forall_mem_cons.mpr ⟨lw_m1 (List.mem_of_getElem? (i := 223) (by decide +kernel)), List.forall_mem_cons.mpr ⟨lw_m1 (List.mem_of_getElem? (i := 224) (by decide +kernel)), List.forall_mem_cons.mpr ⟨lw_m1 (List.mem_of_getElem? (i := 225) (by decide +kernel)), List.forall_mem_cons.mpr ⟨lw_m1 (List.mem_of_getElem? (i := 226) rfl), List.forall_mem_cons.mpr ⟨lw_m1 (List.mem_of_getElem? (i := 227) (by decide +kernel)), List.forall_mem_cons.mpr ⟨lw_m1 (List.mem_of_getElem? (i := 228) (by decide +kernel)), List.forall_mem_cons.mpr ⟨lw_m1 (List.mem_of_getElem? (i := 229) (by decide +kernel)), List.forall_mem_cons.mpr ⟨lw_m1 (List.mem_of_getElem? (i := 230) rfl), List.forall_mem_cons.mpr ⟨lw_m5 (List.mem_of_getElem? (i := 72) (by decide +kernel)), List.forall_mem_cons.mpr ⟨lw_m5 (List.mem_of_getElem? (i := 73) (by decide +kernel)), List.forall_mem_cons.mpr ⟨lw_m5 (List.mem_of_getElem? (i := 74) (by decide +kernel)), List.forall_mem_cons.mpr ⟨lw_m5 (List.mem_of_getElem? (i := 75) rfl), List.forall_mem_cons.mpr ⟨lw_m1 (List.mem_of_getElem? (i := 231) (by decide +kernel)), fun _ h => absurd h List.not_mem_nil⟩⟩⟩⟩⟩⟩⟩⟩⟩⟩⟩⟩⟩⟩⟩⟩⟩⟩⟩⟩⟩⟩⟩⟩
set_option maxRecDepth 20000 in
theorem wsL_law0_r32_in : ∀ w ∈ wsL_law0_r32, w ∈ lw_tbl := List.forall_mem_cons.mpr ⟨lw_m1 (List.mem_of_getElem? (i := 232) (by decide +kernel)), List.forall_mem_cons.mpr ⟨lw_m1 (List.mem_of_getElem? (i := 233) (by decide +kernel)), List.forall_mem_cons.mpr ⟨lw_m1 (List.mem_of_getElem? (i := 234) rfl), List.forall_mem_cons.mpr ⟨lw_m2 (List.mem_of_getElem? (i := 3) (by decide +kernel)), List.forall_mem_cons.mpr ⟨lw_m2 (List.mem_of_getElem? (i := 4) (by decide +kernel)), List.forall_mem_cons.mpr ⟨lw_m2 (List.mem_of_getElem? (i := 5) (by decide +kernel)), List.forall_mem_cons.mpr ⟨lw_m2 (List.mem_of_getElem? (i := 6) rfl), List.forall_mem_cons.mpr ⟨lw_m2 (List.mem_of_getElem? (i := 7) (by decide +kernel)), List.forall_mem_cons.mpr ⟨lw_m2 (List.mem_of_getElem? (i := 8) (by decide +kernel)), List.forall_mem_cons.mpr ⟨lw_m2 (List.mem_of_getElem? (i := 9) (by decide +kernel)), List.forall_mem_cons.mpr ⟨lw_m2 (List.mem_of_getElem? (i := 10) rfl), List.forall_mem_cons.mpr ⟨lw_m5 (List.mem_of_getElem? (i := 76) (by decide +kernel)), List.forall_mem_cons.mpr ⟨lw_m5 (List.mem_of_getElem? (i := 77) (by decide +kernel)), List.forall_mem_cons.mpr ⟨lw_m5 (List.mem_of_getElem? (i := 78) (by decide +kernel)), List.forall_mem_cons.mpr ⟨lw_m5 (List.mem_of_getElem? (i := 79) rfl), fun _ h => absurd h List.not_mem_nil⟩⟩⟩⟩⟩⟩⟩⟩⟩⟩⟩⟩⟩⟩⟩
theorem lw_wsX70_in : ∀ w ∈ wsX70, w ∈ lw_tbl := by decide +kernel
theorem lw_wsX80_in : ∀ w ∈ wsX80, w ∈ lw_tbl := by decide +kernel
theorem lw_wsX50_in : ∀ w ∈ wsX50, w ∈ lw_tbl := by decide +kernel
theorem lw_wsX60_in : ∀ w ∈ wsX60, w ∈ lw_tbl := by decide +kernel
theorem lw_wsX00_in : ∀ w ∈ wsX00, w ∈ lw_tbl := by decide +kernel
theorem lw_wsX10_in : ∀ w ∈ wsX10, w ∈ lw_tbl := by decide +kernel
theorem lw_wsX40_in : ∀ w ∈ wsX40, w ∈ lw_tbl := by decide +kernel
theorem lw_wsX20_in : ∀ w ∈ wsX20, w ∈ lw_tbl := by decide +kernel
theorem lw_wsX30_in : ∀ w ∈ wsX30, w ∈ lw_tbl := by decide +kernel
theorem wsL_law_in0 : ∀ w ∈ wsL_law0, w ∈ lw_tbl := List.forall_mem_append.mpr ⟨List.forall_mem_append.mpr ⟨List.forall_mem_append.mpr ⟨List.forall_mem_append.mpr ⟨List.forall_mem_append.mpr ⟨List.forall_mem_append.mpr ⟨List.forall_mem_append.mpr ⟨List.forall_mem_append.mpr ⟨List.forall_mem_append.mpr ⟨List.forall_mem_append.mpr ⟨List.forall_mem_append.mpr ⟨wsL_law0_r1_in, List.forall_mem_append.mpr ⟨wsL_law0_r2_in, List.forall_mem_append.mpr ⟨wsL_law0_r3_in, List.forall_mem_append.mpr ⟨wsL_law0_r4_in, List.forall_mem_append.mpr ⟨wsL_law0_r5_in, List.forall_mem_append.mpr ⟨wsL_law0_r6_in, List.forall_mem_append.mpr ⟨wsL_law0_r7_in, List.forall_mem_append.mpr ⟨wsL_law0_r8_in, List.forall_mem_append.mpr ⟨wsL_law0_r9_in, List.forall_mem_append.mpr ⟨wsL_law0_r10_in, List.forall_mem_append.mpr ⟨wsL_law0_r11_in, List.forall_mem_append.mpr ⟨wsL_law0_r12_in, List.forall_mem_append.mpr ⟨wsL_law0_r13_in, List.forall_mem_append.mpr ⟨wsL_law0_r14_in, List.forall_mem_append.mpr ⟨wsL_law0_r15_in, List.forall_mem_append.mpr ⟨wsL_law0_r16_in, List.forall_mem_append.mpr ⟨wsL_law0_r17_in, List.forall_mem_append.mpr ⟨wsL_law0_r18_in, List.forall_mem_append.mpr ⟨wsL_law0_r19_in, List.forall_mem_append.mpr ⟨wsL_law0_r20_in, List.forall_mem_append.mpr ⟨wsL_law0_r21_in, List.forall_mem_append.mpr ⟨wsL_law0_r22_in, List.forall_mem_append.mpr ⟨wsL_law0_r23_in, List.forall_mem_append.mpr ⟨wsL_law0_r24_in, List.forall_mem_append.mpr ⟨wsL_law0_r25_in, List.forall_mem_append.mpr ⟨wsL_law0_r26_in, List.forall_mem_append.mpr ⟨wsL_law0_r27_in, List.forall_mem_append.mpr ⟨wsL_law0_r28_in, List.forall_mem_append.mpr ⟨wsL_law0_r29_in, List.forall_mem_append.mpr ⟨wsL_law0_r30_in, List.forall_mem_append.mpr ⟨wsL_law0_r31_in, wsL_law0_r32_in⟩⟩⟩⟩⟩⟩⟩⟩⟩⟩⟩⟩⟩⟩⟩⟩⟩⟩⟩⟩⟩⟩⟩⟩⟩⟩⟩⟩⟩⟩⟩, lw_wsX70_in⟩, lw_wsX80_in⟩, lw_wsX50_in⟩, lw_wsX60_in⟩, lw_wsX00_in⟩, lw_wsX10_in⟩, lw_wsX40_in⟩, lw_wsX20_in⟩, lw_wsX30_in⟩, fun _ h => absurd h List.not_mem_nil⟩
end
section
theorem wsL_law_x0 : ∀ w ∈ (vx_atS RX7 280 "java/lang/IndexOutOfBoundsException" ["java/lang/RuntimeException", "java/lang/Exception"]).filter goodWord, w ∈ lw_tbl := by decide +kernel
theorem wsL_law_x1 : ∀ w ∈ (vx_atS RX7 289 "java/lang/IllegalArgumentException" ["java/lang/RuntimeException", "java/lang/Exception"]).filter goodWord, w ∈ lw_tbl := by decide +kernel
theorem wsL_law_x2 : ∀ w ∈ (vx_atS RX7 294 "java/lang/IllegalStateException" ["java/lang/RuntimeException", "java/lang/Exception"]).filter goodWord, w ∈ lw_tbl := by decide +kernel
theorem wsL_law_in : ∀ w ∈ wsL_law, w ∈ lw_tbl := fun w h => (List.mem_append.mp h).elim (fun h => (List.mem_append.mp h).elim (fun h => (List.mem_append.mp h).elim (fun h => wsL_law_in0 w h) (fun h => wsL_law_x0 w h)) (fun h => wsL_law_x1 w h)) (fun h => wsL_law_x2 w h)
theorem inlX0 : ∀ w ∈ wsX00, w ∈ wsL_law := fun _ h => List.mem_append_left _ (List.mem_append_left _ (List.mem_append_left _ (List.mem_append_left _ (List.mem_append_left _ (List.mem_append_left _ (List.mem_append_left _ (List.mem_append_left _ (List.mem_append_right _ h))))))))
theorem inX0 : ∀ w ∈ wsX00, w ∈ lw_tbl := fun w h => wsL_law_in w (inlX0 w h)
theorem inlX1 : ∀ w ∈ wsX10, w ∈ wsL_law := fun _ h => List.mem_append_left _ (List.mem_append_left _ (List.mem_append_left _ (List.mem_append_left _ (List.mem_append_left _ (List.mem_append_left _ (List.mem_append_left _ (List.mem_append_right _ h)))))))
theorem inX1 : ∀ w ∈ wsX10, w ∈ lw_tbl := fun w h => wsL_law_in w (inlX1 w h)
theorem inlX2 : ∀ w ∈ wsX20, w ∈ wsL_law := fun _ h => List.mem_append_left _ (List.mem_append_left _ (List.mem_append_left _ (List.mem_append_left _ (List.mem_append_left _ (List.mem_append_right _ h)))))
theorem inX2 : ∀ w ∈ wsX20, w ∈ lw_tbl := fun w h => wsL_law_in w (inlX2 w h)
theorem inlX3 : ∀ w ∈ wsX30, w ∈ wsL_law := fun _ h => List.mem_append_left _ (List.mem_append_left _ (List.mem_append_left _ (List.mem_append_left _ (List.mem_append_right _ h))))
theorem inX3 : ∀ w ∈ wsX30, w ∈ lw_tbl := fun w h => wsL_law_in w (inlX3 w h)
theorem inlX4 : ∀ w ∈ wsX40, w ∈ wsL_law := fun _ h => List.mem_append_left _ (List.mem_append_left _ (List.mem_append_left _ (List.mem_append_left _ (List.mem_append_left _ (List.mem_append_left _ (List.mem_append_right _ h))))))
theorem inX4 : ∀ w ∈ wsX40, w ∈ lw_tbl := fun w h => wsL_law_in w (inlX4 w h)
theorem inlX5 : ∀ w ∈ wsX50, w ∈ wsL_law := fun _ h => List.mem_append_left _ (List.mem_append_left _ (List.mem_append_left _ (List.mem_append_left _ (List.mem_append_left _ (List.mem_append_left _ (List.mem_append_left _ (List.mem_append_left _ (List.mem_append_left _ (List.mem_append_left _ (List.mem_append_right _ h))))))))))
theorem inX5 : ∀ w ∈ wsX50, w ∈ lw_tbl := fun w h => wsL_law_in w (inlX5 w h)
theorem inlX6 : ∀ w ∈ wsX60, w ∈ wsL_law := fun _ h => List.mem_append_left _ (List.mem_append_left _ (List.mem_append_left _ (List.mem_append_left _ (List.mem_append_left _ (List.mem_append_left _ (List.mem_append_left _ (List.mem_append_left _ (List.mem_append_left _ (List.mem_append_right _ h)))))))))
theorem inX6 : ∀ w ∈ wsX60, w ∈ lw_tbl := fun w h => wsL_law_in w (inlX6 w h)
theorem inlX7 : ∀ w ∈ wsX70, w ∈ wsL_law := fun _ h => List.mem_append_left _ (List.mem_append_left _ (List.mem_append_left _ (List.mem_append_left _ (List.mem_append_left _ (List.mem_append_left _ (List.mem_append_left _ (List.mem_append_left _ (List.mem_append_left _ (List.mem_append_left _ (List.mem_append_left _ (List.mem_append_left _ (List.mem_append_right _ h))))))))))))
theorem inX7 : ∀ w ∈ wsX70, w ∈ lw_tbl := fun w h => wsL_law_in w (inlX7 w h)
theorem inlX8 : ∀ w ∈ wsX80, w ∈ wsL_law := fun _ h => List.mem_append_left _ (List.mem_append_left _ (List.mem_append_left _ (List.mem_append_left _ (List.mem_append_left _ (List.mem_append_left _ (List.mem_append_left _ (List.mem_append_left _ (List.mem_append_left _ (List.mem_append_left _ (List.mem_append_left _ (List.mem_append_right _ h)))))))))))
theorem inX8 : ∀ w ∈ wsX80, w ∈ lw_tbl := fun w h => wsL_law_in w (inlX8 w h)
theorem inJ6 : ∀ w ∈ wsJ60, w ∈ lw_tbl := by decide +kernel
theorem inJ9 : ∀ w ∈ wsJ90, w ∈ lw_tbl := by decide +kernel
theorem inJ0 : ∀ w ∈ wsJ00, w ∈ lw_tbl := by decide +kernel
end
section
theorem dX0_init_0 : decode cX0_init 0 = .ok (.aload_n 0, 1) := by decide +kernel
theorem dX0_init_1 : decode cX0_init 1 = .ok (.invokespecial 3, 3) := by decide +kernel
theorem dX0_init_4 : decode cX0_init 4 = .ok (.aload_n 0, 1) := by decide +kernel
theorem dX0_init_5 : decode cX0_init 5 = .ok (.bipush 12, 2) := by decide +kernel
theorem dX0_init_7 : decode cX0_init 7 = .ok (.newarray .int, 2) := by decide +kernel
theorem dX0_init_9 : decode cX0_init 9 = .ok (.putfield 9, 3) := by decide +kernel
theorem dX0_init_12 : decode cX0_init 12 = .ok (.aload_n 0, 1) := by decide +kernel
theorem dX0_init_13 : decode cX0_init 13 = .ok (.bipush 12, 2) := by decide +kernel
theorem dX0_init_15 : decode cX0_init 15 = .ok (.newarray .int, 2) := by decide +kernel
theorem dX0_init_17 : decode cX0_init 17 = .ok (.putfield 15, 3) := by decide +kernel
theorem dX0_init_20 : decode cX0_init 20 = .ok (.aload_n 0, 1) := by decide +kernel
theorem dX0_init_21 : decode cX0_init 21 = .ok (.bipush 12, 2) := by decide +kernel
theorem dX0_init_23 : decode cX0_init 23 = .ok (.newarray .int, 2) := by decide +kernel
theorem dX0_init_25 : decode cX0_init 25 = .ok (.putfield 18, 3) := by decide +kernel
theorem dX0_init_28 : decode cX0_init 28 = .ok (.aload_n 0, 1) := by decide +kernel
theorem dX0_init_29 : decode cX0_init 29 = .ok (.iconst 0, 1) := by decide +kernel
theorem dX0_init_30 : decode cX0_init 30 = .ok (.putfield 21, 3) := by decide +kernel
theorem dX0_init_33 : decode cX0_init 33 = .ok (.return_, 1) := by decide +kernel
set_option maxRecDepth 20000 in
theorem ggX0_feedFrom_X7_isSegment : GoodIn wsX0_feedFrom wsX7_isSegment := goodIn_r _ [5] (by decide +kernel) (by decide +kernel)
set_option maxRecDepth 20000 in
theorem gX0_feedFrom_X7_isSegment_n25 : GoodIn wsX0_feedFrom (wsX7_isSegment) := ggX0_feedFrom_X7_isSegment
theorem dX0_feedFrom_0 : decode cX0_feedFrom 0 = .ok (.iload_n 1, 1) := by decide +kernel
theorem dX0_feedFrom_1 : decode cX0_feedFrom 1 = .ok (.invokestatic 25, 3) := by decide +kernel
theorem dX0_feedFrom_4 : decode cX0_feedFrom 4 = .ok (.ifCond .eq 23, 3) := by decide +kernel
theorem dX0_feedFrom_7 : decode cX0_feedFrom 7 = .ok (.aload_n 0, 1) := by decide +kernel
theorem dX0_feedFrom_8 : decode cX0_feedFrom 8 = .ok (.getfield 9, 3) := by decide +kernel
theorem dX0_feedFrom_11 : decode cX0_feedFrom 11 = .ok (.iload_n 1, 1) := by decide +kernel
theorem dX0_feedFrom_12 : decode cX0_feedFrom 12 = .ok (.dup2, 1) := by decide +kernel
theorem dX0_feedFrom_13 : decode cX0_feedFrom 13 = .ok (.iaload, 1) := by decide +kernel
theorem dX0_feedFrom_14 : decode cX0_feedFrom 14 = .ok (.iload_n 2, 1) := by decide +kernel
theorem dX0_feedFrom_15 : decode cX0_feedFrom 15 = .ok (.iadd, 1) := by decide +kernel
theorem dX0_feedFrom_16 : decode cX0_feedFrom 16 = .ok (.iastore, 1) := by decide +kernel
theorem dX0_feedFrom_17 : decode cX0_feedFrom 17 = .ok (.aload_n 0, 1) := by decide +kernel
theorem dX0_feedFrom_18 : decode cX0_feedFrom 18 = .ok (.getfield 15, 3) := by decide +kernel
theorem dX0_feedFrom_21 : decode cX0_feedFrom 21 = .ok (.iload_n 1, 1) := by decide +kernel
theorem dX0_feedFrom_22 : decode cX0_feedFrom 22 = .ok (.dup2, 1) := by decide +kernel
theorem dX0_feedFrom_23 : decode cX0_feedFrom 23 = .ok (.iaload, 1) := by decide +kernel
theorem dX0_feedFrom_24 : decode cX0_feedFrom 24 = .ok (.iload_n 2, 1) := by decide +kernel
theorem dX0_feedFrom_25 : decode cX0_feedFrom 25 = .ok (.iadd, 1) := by decide +kernel
theorem dX0_feedFrom_26 : decode cX0_feedFrom 26 = .ok (.iastore, 1) := by decide +kernel
theorem dX0_feedFrom_27 : decode cX0_feedFrom 27 = .ok (.return_, 1) := by decide +kernel
set_option maxRecDepth 20000 in
theorem ggX0_drift_X0_withoutSign : GoodIn wsX0_drift wsX0_withoutSign := goodIn_r _ [6] (by decide +kernel) (by decide +kernel)
set_option maxRecDepth 20000 in
theorem gX0_drift_X0_withoutSign : GoodIn wsX0_drift (va_wsS RX0 29 yX0_withoutSign wsX0_withoutSign) := goodIn_app (goodIn_of _ (by decide +kernel)) ggX0_drift_X0_withoutSign
set_option maxRecDepth 20000 in
theorem ggX0_drift_X0_side : GoodIn wsX0_drift wsX0_side := goodIn_r _ [9] (by decide +kernel) (by decide +kernel)
set_option maxRecDepth 20000 in
theorem gX0_drift_X0_side : GoodIn wsX0_drift (va_wsS RX0 33 yX0_side wsX0_side) := goodIn_app (goodIn_of _ (by decide +kernel)) ggX0_drift_X0_side
set_option maxRecDepth 20000 in
theorem ggX0_drift_X0_shift : GoodIn wsX0_drift wsX0_shift := goodIn_r _ [13, 2, 14, 15, 16, 17, 18, 19, 20, 21] (by decide +kernel) (by decide +kernel)
set_option maxRecDepth 20000 in
theorem gX0_drift_X0_shift : GoodIn wsX0_drift (wsV RX0 37 RX0 yX0_shift wsX0_shift) := goodIn_app (goodIn_of _ (by decide +kernel)) ggX0_drift_X0_shift
theorem dX0_drift_0 : decode cX0_drift 0 = .ok (.dload_n 1, 1) := by decide +kernel
theorem dX0_drift_1 : decode cX0_drift 1 = .ok (.invokestatic 29, 3) := by decide +kernel
theorem dX0_drift_4 : decode cX0_drift 4 = .ok (.d2i, 1) := by decide +kernel
theorem dX0_drift_5 : decode cX0_drift 5 = .ok (.istore_n 3, 1) := by decide +kernel
theorem dX0_drift_6 : decode cX0_drift 6 = .ok (.iconst 0, 1) := by decide +kernel
theorem dX0_drift_7 : decode cX0_drift 7 = .ok (.istore 4, 2) := by decide +kernel
theorem dX0_drift_9 : decode cX0_drift 9 = .ok (.iload 4, 2) := by decide +kernel
theorem dX0_drift_11 : decode cX0_drift 11 = .ok (.bipush 12, 2) := by decide +kernel
theorem dX0_drift_13 : decode cX0_drift 13 = .ok (.if_icmp .ge 28, 3) := by decide +kernel
theorem dX0_drift_16 : decode cX0_drift 16 = .ok (.aload_n 0, 1) := by decide +kernel
theorem dX0_drift_17 : decode cX0_drift 17 = .ok (.getfield 18, 3) := by decide +kernel
theorem dX0_drift_20 : decode cX0_drift 20 = .ok (.iload 4, 2) := by decide +kernel
theorem dX0_drift_22 : decode cX0_drift 22 = .ok (.aload_n 0, 1) := by decide +kernel
theorem dX0_drift_23 : decode cX0_drift 23 = .ok (.getfield 9, 3) := by decide +kernel
theorem dX0_drift_26 : decode cX0_drift 26 = .ok (.iload 4, 2) := by decide +kernel
theorem dX0_drift_28 : decode cX0_drift 28 = .ok (.iaload, 1) := by decide +kernel
theorem dX0_drift_29 : decode cX0_drift 29 = .ok (.iload_n 3, 1) := by decide +kernel
theorem dX0_drift_30 : decode cX0_drift 30 = .ok (.imul, 1) := by decide +kernel
theorem dX0_drift_31 : decode cX0_drift 31 = .ok (.bipush 100, 2) := by decide +kernel
theorem dX0_drift_33 : decode cX0_drift 33 = .ok (.idiv, 1) := by decide +kernel
theorem dX0_drift_34 : decode cX0_drift 34 = .ok (.iastore, 1) := by decide +kernel
theorem dX0_drift_35 : decode cX0_drift 35 = .ok (.iinc 4 1, 3) := by decide +kernel
theorem dX0_drift_38 : decode cX0_drift 38 = .ok (.goto (-29), 3) := by decide +kernel
theorem dX0_drift_41 : decode cX0_drift 41 = .ok (.iconst 0, 1) := by decide +kernel
theorem dX0_drift_42 : decode cX0_drift 42 = .ok (.istore 4, 2) := by decide +kernel
theorem dX0_drift_44 : decode cX0_drift 44 = .ok (.iload 4, 2) := by decide +kernel
theorem dX0_drift_46 : decode cX0_drift 46 = .ok (.bipush 12, 2) := by decide +kernel
theorem dX0_drift_48 : decode cX0_drift 48 = .ok (.if_icmp .ge 29, 3) := by decide +kernel
theorem dX0_drift_51 : decode cX0_drift 51 = .ok (.aload_n 0, 1) := by decide +kernel
theorem dX0_drift_52 : decode cX0_drift 52 = .ok (.iload 4, 2) := by decide +kernel
theorem dX0_drift_54 : decode cX0_drift 54 = .ok (.iload 4, 2) := by decide +kernel
theorem dX0_drift_56 : decode cX0_drift 56 = .ok (.dload_n 1, 1) := by decide +kernel
theorem dX0_drift_57 : decode cX0_drift 57 = .ok (.invokestatic 33, 3) := by decide +kernel
theorem dX0_drift_60 : decode cX0_drift 60 = .ok (.iadd, 1) := by decide +kernel
theorem dX0_drift_61 : decode cX0_drift 61 = .ok (.aload_n 0, 1) := by decide +kernel
theorem dX0_drift_62 : decode cX0_drift 62 = .ok (.getfield 18, 3) := by decide +kernel
theorem dX0_drift_65 : decode cX0_drift 65 = .ok (.iload 4, 2) := by decide +kernel
theorem dX0_drift_67 : decode cX0_drift 67 = .ok (.iaload, 1) := by decide +kernel
theorem dX0_drift_68 : decode cX0_drift 68 = .ok (.invokevirtual 37, 3) := by decide +kernel
theorem dX0_drift_71 : decode cX0_drift 71 = .ok (.iinc 4 1, 3) := by decide +kernel
theorem dX0_drift_74 : decode cX0_drift 74 = .ok (.goto (-30), 3) := by decide +kernel
theorem dX0_drift_77 : decode cX0_drift 77 = .ok (.return_, 1) := by decide +kernel
set_option maxRecDepth 20000 in
theorem ggX0_backUp_X0_withoutSign : GoodIn wsX0_backUp wsX0_withoutSign := goodIn_r _ [5] (by decide +kernel) (by decide +kernel)
set_option maxRecDepth 20000 in
theorem gX0_backUp_X0_withoutSign : GoodIn wsX0_backUp (va_wsS RX0 29 yX0_withoutSign wsX0_withoutSign) := goodIn_app (goodIn_of _ (by decide +kernel)) ggX0_backUp_X0_withoutSign
set_option maxRecDepth 20000 in
theorem ggX0_backUp_X0_side : GoodIn wsX0_backUp wsX0_side := goodIn_r _ [8] (by decide +kernel) (by decide +kernel)
set_option maxRecDepth 20000 in
theorem gX0_backUp_X0_side : GoodIn wsX0_backUp (va_wsS RX0 33 yX0_side wsX0_side) := goodIn_app (goodIn_of _ (by decide +kernel)) ggX0_backUp_X0_side
set_option maxRecDepth 20000 in
theorem ggX0_backUp_X0_smokeIn : GoodIn wsX0_backUp wsX0_smokeIn := goodIn_r _ [12, 13, 14, 15, 16, 22, 23, 24, 25] (by decide +kernel) (by decide +kernel)
set_option maxRecDepth 20000 in
theorem gX0_backUp_X0_smokeIn : GoodIn wsX0_backUp (wsV RX0 43 RX0 yX0_smokeIn wsX0_smokeIn) := goodIn_app (goodIn_of _ (by decide +kernel)) ggX0_backUp_X0_smokeIn
set_option maxRecDepth 20000 in
theorem ggX0_backUp_X0_shift : GoodIn wsX0_backUp wsX0_shift := goodIn_r _ [20, 13, 21, 14, 15, 16, 22, 23, 24, 25] (by decide +kernel) (by decide +kernel)
set_option maxRecDepth 20000 in
theorem gX0_backUp_X0_shift : GoodIn wsX0_backUp (wsV RX0 37 RX0 yX0_shift wsX0_shift) := goodIn_app (goodIn_of _ (by decide +kernel)) ggX0_backUp_X0_shift
theorem dX0_backUp_0 : decode cX0_backUp 0 = .ok (.dload_n 2, 1) := by decide +kernel
theorem dX0_backUp_1 : decode cX0_backUp 1 = .ok (.invokestatic 29, 3) := by decide +kernel
theorem dX0_backUp_4 : decode cX0_backUp 4 = .ok (.ldc2_w 41, 3) := by decide +kernel
theorem dX0_backUp_7 : decode cX0_backUp 7 = .ok (.dcmp .g, 1) := by decide +kernel
theorem dX0_backUp_8 : decode cX0_backUp 8 = .ok (.ifCond .ge 22, 3) := by decide +kernel
theorem dX0_backUp_11 : decode cX0_backUp 11 = .ok (.aload_n 0, 1) := by decide +kernel
theorem dX0_backUp_12 : decode cX0_backUp 12 = .ok (.iload_n 1, 1) := by decide +kernel
theorem dX0_backUp_13 : decode cX0_backUp 13 = .ok (.iload_n 1, 1) := by decide +kernel
theorem dX0_backUp_14 : decode cX0_backUp 14 = .ok (.dload_n 2, 1) := by decide +kernel
theorem dX0_backUp_15 : decode cX0_backUp 15 = .ok (.invokestatic 33, 3) := by decide +kernel
theorem dX0_backUp_18 : decode cX0_backUp 18 = .ok (.isub, 1) := by decide +kernel
theorem dX0_backUp_19 : decode cX0_backUp 19 = .ok (.aload_n 0, 1) := by decide +kernel
theorem dX0_backUp_20 : decode cX0_backUp 20 = .ok (.iload_n 1, 1) := by decide +kernel
theorem dX0_backUp_21 : decode cX0_backUp 21 = .ok (.invokevirtual 43, 3) := by decide +kernel
theorem dX0_backUp_24 : decode cX0_backUp 24 = .ok (.bipush 10, 2) := by decide +kernel
theorem dX0_backUp_26 : decode cX0_backUp 26 = .ok (.idiv, 1) := by decide +kernel
theorem dX0_backUp_27 : decode cX0_backUp 27 = .ok (.invokevirtual 37, 3) := by decide +kernel
theorem dX0_backUp_30 : decode cX0_backUp 30 = .ok (.return_, 1) := by decide +kernel
set_option maxRecDepth 20000 in
theorem ggX0_drawOff_X0_smokeIn : GoodIn wsX0_drawOff wsX0_smokeIn := goodIn_r _ [5, 6, 7, 8, 9, 15, 16, 17, 18] (by decide +kernel) (by decide +kernel)
set_option maxRecDepth 20000 in
theorem gX0_drawOff_X0_smokeIn : GoodIn wsX0_drawOff (wsV RX0 43 RX0 yX0_smokeIn wsX0_smokeIn) := goodIn_app (goodIn_of _ (by decide +kernel)) ggX0_drawOff_X0_smokeIn
set_option maxRecDepth 20000 in
theorem ggX0_drawOff_X0_shift : GoodIn wsX0_drawOff wsX0_shift := goodIn_r _ [13, 6, 14, 7, 8, 9, 15, 16, 17, 18] (by decide +kernel) (by decide +kernel)
set_option maxRecDepth 20000 in
theorem gX0_drawOff_X0_shift : GoodIn wsX0_drawOff (wsV RX0 37 RX0 yX0_shift wsX0_shift) := goodIn_app (goodIn_of _ (by decide +kernel)) ggX0_drawOff_X0_shift
theorem dX0_drawOff_0 : decode cX0_drawOff 0 = .ok (.aload_n 0, 1) := by decide +kernel
theorem dX0_drawOff_1 : decode cX0_drawOff 1 = .ok (.iload_n 1, 1) := by decide +kernel
theorem dX0_drawOff_2 : decode cX0_drawOff 2 = .ok (.iconst (-1), 1) := by decide +kernel
theorem dX0_drawOff_3 : decode cX0_drawOff 3 = .ok (.aload_n 0, 1) := by decide +kernel
theorem dX0_drawOff_4 : decode cX0_drawOff 4 = .ok (.iload_n 1, 1) := by decide +kernel
theorem dX0_drawOff_5 : decode cX0_drawOff 5 = .ok (.invokevirtual 43, 3) := by decide +kernel
theorem dX0_drawOff_8 : decode cX0_drawOff 8 = .ok (.iconst 3, 1) := by decide +kernel
theorem dX0_drawOff_9 : decode cX0_drawOff 9 = .ok (.idiv, 1) := by decide +kernel
theorem dX0_drawOff_10 : decode cX0_drawOff 10 = .ok (.invokevirtual 37, 3) := by decide +kernel
theorem dX0_drawOff_13 : decode cX0_drawOff 13 = .ok (.return_, 1) := by decide +kernel
theorem dX0_cool_0 : decode cX0_cool 0 = .ok (.iconst 0, 1) := by decide +kernel
theorem dX0_cool_1 : decode cX0_cool 1 = .ok (.istore_n 1, 1) := by decide +kernel
theorem dX0_cool_2 : decode cX0_cool 2 = .ok (.iload_n 1, 1) := by decide +kernel
theorem dX0_cool_3 : decode cX0_cool 3 = .ok (.bipush 12, 2) := by decide +kernel
theorem dX0_cool_5 : decode cX0_cool 5 = .ok (.if_icmp .ge 28, 3) := by decide +kernel
theorem dX0_cool_8 : decode cX0_cool 8 = .ok (.aload_n 0, 1) := by decide +kernel
theorem dX0_cool_9 : decode cX0_cool 9 = .ok (.getfield 15, 3) := by decide +kernel
theorem dX0_cool_12 : decode cX0_cool 12 = .ok (.iload_n 1, 1) := by decide +kernel
theorem dX0_cool_13 : decode cX0_cool 13 = .ok (.dup2, 1) := by decide +kernel
theorem dX0_cool_14 : decode cX0_cool 14 = .ok (.iaload, 1) := by decide +kernel
theorem dX0_cool_15 : decode cX0_cool 15 = .ok (.aload_n 0, 1) := by decide +kernel
theorem dX0_cool_16 : decode cX0_cool 16 = .ok (.getfield 15, 3) := by decide +kernel
theorem dX0_cool_19 : decode cX0_cool 19 = .ok (.iload_n 1, 1) := by decide +kernel
theorem dX0_cool_20 : decode cX0_cool 20 = .ok (.iaload, 1) := by decide +kernel
theorem dX0_cool_21 : decode cX0_cool 21 = .ok (.iconst 3, 1) := by decide +kernel
theorem dX0_cool_22 : decode cX0_cool 22 = .ok (.iadd, 1) := by decide +kernel
theorem dX0_cool_23 : decode cX0_cool 23 = .ok (.iconst 4, 1) := by decide +kernel
theorem dX0_cool_24 : decode cX0_cool 24 = .ok (.idiv, 1) := by decide +kernel
theorem dX0_cool_25 : decode cX0_cool 25 = .ok (.isub, 1) := by decide +kernel
theorem dX0_cool_26 : decode cX0_cool 26 = .ok (.iastore, 1) := by decide +kernel
theorem dX0_cool_27 : decode cX0_cool 27 = .ok (.iinc 1 1, 3) := by decide +kernel
theorem dX0_cool_30 : decode cX0_cool 30 = .ok (.goto (-28), 3) := by decide +kernel
theorem dX0_cool_33 : decode cX0_cool 33 = .ok (.return_, 1) := by decide +kernel
set_option maxRecDepth 20000 in
theorem ggX0_shift_X7_isSegment : GoodIn wsX0_shift wsX7_isSegment := goodIn_r _ [5] (by decide +kernel) (by decide +kernel)
set_option maxRecDepth 20000 in
theorem gX0_shift_X7_isSegment_n25 : GoodIn wsX0_shift (wsX7_isSegment) := ggX0_shift_X7_isSegment
theorem dX0_shift_0 : decode cX0_shift 0 = .ok (.iload_n 1, 1) := by decide +kernel
theorem dX0_shift_1 : decode cX0_shift 1 = .ok (.invokestatic 25, 3) := by decide +kernel
theorem dX0_shift_4 : decode cX0_shift 4 = .ok (.ifCond .ne 4, 3) := by decide +kernel
theorem dX0_shift_7 : decode cX0_shift 7 = .ok (.return_, 1) := by decide +kernel
theorem dX0_shift_8 : decode cX0_shift 8 = .ok (.aload_n 0, 1) := by decide +kernel
theorem dX0_shift_9 : decode cX0_shift 9 = .ok (.getfield 9, 3) := by decide +kernel
theorem dX0_shift_12 : decode cX0_shift 12 = .ok (.iload_n 1, 1) := by decide +kernel
theorem dX0_shift_13 : decode cX0_shift 13 = .ok (.dup2, 1) := by decide +kernel
theorem dX0_shift_14 : decode cX0_shift 14 = .ok (.iaload, 1) := by decide +kernel
theorem dX0_shift_15 : decode cX0_shift 15 = .ok (.iload_n 3, 1) := by decide +kernel
theorem dX0_shift_16 : decode cX0_shift 16 = .ok (.isub, 1) := by decide +kernel
theorem dX0_shift_17 : decode cX0_shift 17 = .ok (.iastore, 1) := by decide +kernel
theorem dX0_shift_18 : decode cX0_shift 18 = .ok (.iload_n 2, 1) := by decide +kernel
theorem dX0_shift_19 : decode cX0_shift 19 = .ok (.invokestatic 25, 3) := by decide +kernel
theorem dX0_shift_22 : decode cX0_shift 22 = .ok (.ifCond .eq 16, 3) := by decide +kernel
theorem dX0_shift_25 : decode cX0_shift 25 = .ok (.aload_n 0, 1) := by decide +kernel
theorem dX0_shift_26 : decode cX0_shift 26 = .ok (.getfield 9, 3) := by decide +kernel
theorem dX0_shift_29 : decode cX0_shift 29 = .ok (.iload_n 2, 1) := by decide +kernel
theorem dX0_shift_30 : decode cX0_shift 30 = .ok (.dup2, 1) := by decide +kernel
theorem dX0_shift_31 : decode cX0_shift 31 = .ok (.iaload, 1) := by decide +kernel
theorem dX0_shift_32 : decode cX0_shift 32 = .ok (.iload_n 3, 1) := by decide +kernel
theorem dX0_shift_33 : decode cX0_shift 33 = .ok (.iadd, 1) := by decide +kernel
theorem dX0_shift_34 : decode cX0_shift 34 = .ok (.iastore, 1) := by decide +kernel
theorem dX0_shift_35 : decode cX0_shift 35 = .ok (.goto 13, 3) := by decide +kernel
theorem dX0_shift_38 : decode cX0_shift 38 = .ok (.aload_n 0, 1) := by decide +kernel
theorem dX0_shift_39 : decode cX0_shift 39 = .ok (.dup, 1) := by decide +kernel
theorem dX0_shift_40 : decode cX0_shift 40 = .ok (.getfield 21, 3) := by decide +kernel
theorem dX0_shift_43 : decode cX0_shift 43 = .ok (.iload_n 3, 1) := by decide +kernel
theorem dX0_shift_44 : decode cX0_shift 44 = .ok (.iadd, 1) := by decide +kernel
theorem dX0_shift_45 : decode cX0_shift 45 = .ok (.putfield 21, 3) := by decide +kernel
theorem dX0_shift_48 : decode cX0_shift 48 = .ok (.return_, 1) := by decide +kernel
theorem dX0_withoutSign_0 : decode cX0_withoutSign 0 = .ok (.dload_n 0, 1) := by decide +kernel
theorem dX0_withoutSign_1 : decode cX0_withoutSign 1 = .ok (.dconst 0, 1) := by decide +kernel
theorem dX0_withoutSign_2 : decode cX0_withoutSign 2 = .ok (.dcmp .g, 1) := by decide +kernel
theorem dX0_withoutSign_3 : decode cX0_withoutSign 3 = .ok (.ifCond .ge 8, 3) := by decide +kernel
theorem dX0_withoutSign_6 : decode cX0_withoutSign 6 = .ok (.dload_n 0, 1) := by decide +kernel
theorem dX0_withoutSign_7 : decode cX0_withoutSign 7 = .ok (.dneg, 1) := by decide +kernel
theorem dX0_withoutSign_8 : decode cX0_withoutSign 8 = .ok (.goto 4, 3) := by decide +kernel
theorem dX0_withoutSign_11 : decode cX0_withoutSign 11 = .ok (.dload_n 0, 1) := by decide +kernel
theorem dX0_withoutSign_12 : decode cX0_withoutSign 12 = .ok (.dreturn, 1) := by decide +kernel
theorem dX0_side_0 : decode cX0_side 0 = .ok (.dload_n 0, 1) := by decide +kernel
theorem dX0_side_1 : decode cX0_side 1 = .ok (.dconst 0, 1) := by decide +kernel
theorem dX0_side_2 : decode cX0_side 2 = .ok (.dcmp .g, 1) := by decide +kernel
theorem dX0_side_3 : decode cX0_side 3 = .ok (.ifCond .ge 7, 3) := by decide +kernel
theorem dX0_side_6 : decode cX0_side 6 = .ok (.iconst (-1), 1) := by decide +kernel
theorem dX0_side_7 : decode cX0_side 7 = .ok (.goto 4, 3) := by decide +kernel
theorem dX0_side_10 : decode cX0_side 10 = .ok (.iconst 1, 1) := by decide +kernel
theorem dX0_side_11 : decode cX0_side 11 = .ok (.ireturn, 1) := by decide +kernel
set_option maxRecDepth 20000 in
theorem ggX0_smokeIn_X7_isSegment : GoodIn wsX0_smokeIn wsX7_isSegment := goodIn_r _ [4] (by decide +kernel) (by decide +kernel)
set_option maxRecDepth 20000 in
theorem gX0_smokeIn_X7_isSegment_n25 : GoodIn wsX0_smokeIn (wsX7_isSegment) := ggX0_smokeIn_X7_isSegment
theorem dX0_smokeIn_0 : decode cX0_smokeIn 0 = .ok (.iload_n 1, 1) := by decide +kernel
theorem dX0_smokeIn_1 : decode cX0_smokeIn 1 = .ok (.invokestatic 25, 3) := by decide +kernel
theorem dX0_smokeIn_4 : decode cX0_smokeIn 4 = .ok (.ifCond .eq 12, 3) := by decide +kernel
theorem dX0_smokeIn_7 : decode cX0_smokeIn 7 = .ok (.aload_n 0, 1) := by decide +kernel
theorem dX0_smokeIn_8 : decode cX0_smokeIn 8 = .ok (.getfield 9, 3) := by decide +kernel
theorem dX0_smokeIn_11 : decode cX0_smokeIn 11 = .ok (.iload_n 1, 1) := by decide +kernel
theorem dX0_smokeIn_12 : decode cX0_smokeIn 12 = .ok (.iaload, 1) := by decide +kernel
theorem dX0_smokeIn_13 : decode cX0_smokeIn 13 = .ok (.goto 4, 3) := by decide +kernel
theorem dX0_smokeIn_16 : decode cX0_smokeIn 16 = .ok (.iconst 0, 1) := by decide +kernel
theorem dX0_smokeIn_17 : decode cX0_smokeIn 17 = .ok (.ireturn, 1) := by decide +kernel
set_option maxRecDepth 20000 in
theorem ggX0_heatIn_X7_isSegment : GoodIn wsX0_heatIn wsX7_isSegment := goodIn_r _ [4] (by decide +kernel) (by decide +kernel)
set_option maxRecDepth 20000 in
theorem gX0_heatIn_X7_isSegment_n25 : GoodIn wsX0_heatIn (wsX7_isSegment) := ggX0_heatIn_X7_isSegment
theorem dX0_heatIn_0 : decode cX0_heatIn 0 = .ok (.iload_n 1, 1) := by decide +kernel
theorem dX0_heatIn_1 : decode cX0_heatIn 1 = .ok (.invokestatic 25, 3) := by decide +kernel
theorem dX0_heatIn_4 : decode cX0_heatIn 4 = .ok (.ifCond .eq 12, 3) := by decide +kernel
theorem dX0_heatIn_7 : decode cX0_heatIn 7 = .ok (.aload_n 0, 1) := by decide +kernel
theorem dX0_heatIn_8 : decode cX0_heatIn 8 = .ok (.getfield 15, 3) := by decide +kernel
theorem dX0_heatIn_11 : decode cX0_heatIn 11 = .ok (.iload_n 1, 1) := by decide +kernel
theorem dX0_heatIn_12 : decode cX0_heatIn 12 = .ok (.iaload, 1) := by decide +kernel
theorem dX0_heatIn_13 : decode cX0_heatIn 13 = .ok (.goto 4, 3) := by decide +kernel
theorem dX0_heatIn_16 : decode cX0_heatIn 16 = .ok (.iconst 0, 1) := by decide +kernel
theorem dX0_heatIn_17 : decode cX0_heatIn 17 = .ok (.ireturn, 1) := by decide +kernel
theorem dX0_allSmoke_0 : decode cX0_allSmoke 0 = .ok (.iconst 0, 1) := by decide +kernel
theorem dX0_allSmoke_1 : decode cX0_allSmoke 1 = .ok (.istore_n 1, 1) := by decide +kernel
theorem dX0_allSmoke_2 : decode cX0_allSmoke 2 = .ok (.iconst 0, 1) := by decide +kernel
theorem dX0_allSmoke_3 : decode cX0_allSmoke 3 = .ok (.istore_n 2, 1) := by decide +kernel
theorem dX0_allSmoke_4 : decode cX0_allSmoke 4 = .ok (.iload_n 2, 1) := by decide +kernel
theorem dX0_allSmoke_5 : decode cX0_allSmoke 5 = .ok (.bipush 12, 2) := by decide +kernel
theorem dX0_allSmoke_7 : decode cX0_allSmoke 7 = .ok (.if_icmp .ge 18, 3) := by decide +kernel
theorem dX0_allSmoke_10 : decode cX0_allSmoke 10 = .ok (.iload_n 1, 1) := by decide +kernel
theorem dX0_allSmoke_11 : decode cX0_allSmoke 11 = .ok (.aload_n 0, 1) := by decide +kernel
theorem dX0_allSmoke_12 : decode cX0_allSmoke 12 = .ok (.getfield 9, 3) := by decide +kernel
theorem dX0_allSmoke_15 : decode cX0_allSmoke 15 = .ok (.iload_n 2, 1) := by decide +kernel
theorem dX0_allSmoke_16 : decode cX0_allSmoke 16 = .ok (.iaload, 1) := by decide +kernel
theorem dX0_allSmoke_17 : decode cX0_allSmoke 17 = .ok (.iadd, 1) := by decide +kernel
theorem dX0_allSmoke_18 : decode cX0_allSmoke 18 = .ok (.istore_n 1, 1) := by decide +kernel
theorem dX0_allSmoke_19 : decode cX0_allSmoke 19 = .ok (.iinc 2 1, 3) := by decide +kernel
theorem dX0_allSmoke_22 : decode cX0_allSmoke 22 = .ok (.goto (-18), 3) := by decide +kernel
theorem dX0_allSmoke_25 : decode cX0_allSmoke 25 = .ok (.iload_n 1, 1) := by decide +kernel
theorem dX0_allSmoke_26 : decode cX0_allSmoke 26 = .ok (.ireturn, 1) := by decide +kernel
theorem dX0_lost_0 : decode cX0_lost 0 = .ok (.aload_n 0, 1) := by decide +kernel
theorem dX0_lost_1 : decode cX0_lost 1 = .ok (.getfield 21, 3) := by decide +kernel
theorem dX0_lost_4 : decode cX0_lost 4 = .ok (.ireturn, 1) := by decide +kernel
theorem dX1_init_0 : decode cX1_init 0 = .ok (.aload_n 0, 1) := by decide +kernel
theorem dX1_init_1 : decode cX1_init 1 = .ok (.invokespecial 3, 3) := by decide +kernel
theorem dX1_init_4 : decode cX1_init 4 = .ok (.aload_n 0, 1) := by decide +kernel
theorem dX1_init_5 : decode cX1_init 5 = .ok (.iconst (-1), 1) := by decide +kernel
theorem dX1_init_6 : decode cX1_init 6 = .ok (.putfield 9, 3) := by decide +kernel
theorem dX1_init_9 : decode cX1_init 9 = .ok (.aload_n 0, 1) := by decide +kernel
theorem dX1_init_10 : decode cX1_init 10 = .ok (.iconst 0, 1) := by decide +kernel
theorem dX1_init_11 : decode cX1_init 11 = .ok (.putfield 15, 3) := by decide +kernel
theorem dX1_init_14 : decode cX1_init 14 = .ok (.aload_n 0, 1) := by decide +kernel
theorem dX1_init_15 : decode cX1_init 15 = .ok (.lconst 0, 1) := by decide +kernel
theorem dX1_init_16 : decode cX1_init 16 = .ok (.putfield 18, 3) := by decide +kernel
theorem dX1_init_19 : decode cX1_init 19 = .ok (.aload_n 0, 1) := by decide +kernel
theorem dX1_init_20 : decode cX1_init 20 = .ok (.bipush 30, 2) := by decide +kernel
theorem dX1_init_22 : decode cX1_init 22 = .ok (.putfield 22, 3) := by decide +kernel
theorem dX1_init_25 : decode cX1_init 25 = .ok (.aload_n 0, 1) := by decide +kernel
theorem dX1_init_26 : decode cX1_init 26 = .ok (.iconst 0, 1) := by decide +kernel
theorem dX1_init_27 : decode cX1_init 27 = .ok (.putfield 25, 3) := by decide +kernel
theorem dX1_init_30 : decode cX1_init 30 = .ok (.aload_n 0, 1) := by decide +kernel
theorem dX1_init_31 : decode cX1_init 31 = .ok (.iconst 0, 1) := by decide +kernel
theorem dX1_init_32 : decode cX1_init 32 = .ok (.putfield 29, 3) := by decide +kernel
theorem dX1_init_35 : decode cX1_init 35 = .ok (.return_, 1) := by decide +kernel
theorem dX1_isBurning_0 : decode cX1_isBurning 0 = .ok (.aload_n 0, 1) := by decide +kernel
theorem dX1_isBurning_1 : decode cX1_isBurning 1 = .ok (.getfield 9, 3) := by decide +kernel
theorem dX1_isBurning_4 : decode cX1_isBurning 4 = .ok (.iconst (-1), 1) := by decide +kernel
theorem dX1_isBurning_5 : decode cX1_isBurning 5 = .ok (.if_icmp .eq 7, 3) := by decide +kernel
theorem dX1_isBurning_8 : decode cX1_isBurning 8 = .ok (.iconst 1, 1) := by decide +kernel
theorem dX1_isBurning_9 : decode cX1_isBurning 9 = .ok (.goto 4, 3) := by decide +kernel
theorem dX1_isBurning_12 : decode cX1_isBurning 12 = .ok (.iconst 0, 1) := by decide +kernel
theorem dX1_isBurning_13 : decode cX1_isBurning 13 = .ok (.ireturn, 1) := by decide +kernel
theorem dX1_begin_0 : decode cX1_begin 0 = .ok (.aload_n 0, 1) := by decide +kernel
theorem dX1_begin_1 : decode cX1_begin 1 = .ok (.iload_n 1, 1) := by decide +kernel
theorem dX1_begin_2 : decode cX1_begin 2 = .ok (.putfield 9, 3) := by decide +kernel
theorem dX1_begin_5 : decode cX1_begin 5 = .ok (.aload_n 0, 1) := by decide +kernel
theorem dX1_begin_6 : decode cX1_begin 6 = .ok (.iload_n 2, 1) := by decide +kernel
theorem dX1_begin_7 : decode cX1_begin 7 = .ok (.putfield 15, 3) := by decide +kernel
theorem dX1_begin_10 : decode cX1_begin 10 = .ok (.return_, 1) := by decide +kernel
theorem dX1_turnFoamOn_0 : decode cX1_turnFoamOn 0 = .ok (.aload_n 0, 1) := by decide +kernel
theorem dX1_turnFoamOn_1 : decode cX1_turnFoamOn 1 = .ok (.iconst 1, 1) := by decide +kernel
theorem dX1_turnFoamOn_2 : decode cX1_turnFoamOn 2 = .ok (.putfield 25, 3) := by decide +kernel
theorem dX1_turnFoamOn_5 : decode cX1_turnFoamOn 5 = .ok (.return_, 1) := by decide +kernel
theorem dX1_burn_0 : decode cX1_burn 0 = .ok (.aload_n 0, 1) := by decide +kernel
theorem dX1_burn_1 : decode cX1_burn 1 = .ok (.getfield 15, 3) := by decide +kernel
theorem dX1_burn_4 : decode cX1_burn 4 = .ok (.i2l, 1) := by decide +kernel
theorem dX1_burn_5 : decode cX1_burn 5 = .ok (.lconst 1, 1) := by decide +kernel
theorem dX1_burn_6 : decode cX1_burn 6 = .ok (.aload_n 0, 1) := by decide +kernel
theorem dX1_burn_7 : decode cX1_burn 7 = .ok (.getfield 18, 3) := by decide +kernel
theorem dX1_burn_10 : decode cX1_burn 10 = .ok (.aload_n 0, 1) := by decide +kernel
theorem dX1_burn_11 : decode cX1_burn 11 = .ok (.getfield 18, 3) := by decide +kernel
theorem dX1_burn_14 : decode cX1_burn 14 = .ok (.lmul, 1) := by decide +kernel
theorem dX1_burn_15 : decode cX1_burn 15 = .ok (.ldc2_w 32, 3) := by decide +kernel
theorem dX1_burn_18 : decode cX1_burn 18 = .ok (.ldiv, 1) := by decide +kernel
theorem dX1_burn_19 : decode cX1_burn 19 = .ok (.ladd, 1) := by decide +kernel
theorem dX1_burn_20 : decode cX1_burn 20 = .ok (.invokestatic 34, 3) := by decide +kernel
theorem dX1_burn_23 : decode cX1_burn 23 = .ok (.l2i, 1) := by decide +kernel
theorem dX1_burn_24 : decode cX1_burn 24 = .ok (.istore_n 2, 1) := by decide +kernel
theorem dX1_burn_25 : decode cX1_burn 25 = .ok (.aload_n 0, 1) := by decide +kernel
theorem dX1_burn_26 : decode cX1_burn 26 = .ok (.getfield 25, 3) := by decide +kernel
theorem dX1_burn_29 : decode cX1_burn 29 = .ok (.ifCond .eq 28, 3) := by decide +kernel
theorem dX1_burn_32 : decode cX1_burn 32 = .ok (.iload_n 1, 1) := by decide +kernel
theorem dX1_burn_33 : decode cX1_burn 33 = .ok (.ifCond .eq 24, 3) := by decide +kernel
theorem dX1_burn_36 : decode cX1_burn 36 = .ok (.aload_n 0, 1) := by decide +kernel
theorem dX1_burn_37 : decode cX1_burn 37 = .ok (.getfield 22, 3) := by decide +kernel
theorem dX1_burn_40 : decode cX1_burn 40 = .ok (.ifCond .le 17, 3) := by decide +kernel
theorem dX1_burn_43 : decode cX1_burn 43 = .ok (.aload_n 0, 1) := by decide +kernel
theorem dX1_burn_44 : decode cX1_burn 44 = .ok (.dup, 1) := by decide +kernel
theorem dX1_burn_45 : decode cX1_burn 45 = .ok (.getfield 22, 3) := by decide +kernel
theorem dX1_burn_48 : decode cX1_burn 48 = .ok (.iconst 1, 1) := by decide +kernel
theorem dX1_burn_49 : decode cX1_burn 49 = .ok (.isub, 1) := by decide +kernel
theorem dX1_burn_50 : decode cX1_burn 50 = .ok (.putfield 22, 3) := by decide +kernel
theorem dX1_burn_53 : decode cX1_burn 53 = .ok (.iload_n 2, 1) := by decide +kernel
theorem dX1_burn_54 : decode cX1_burn 54 = .ok (.iconst 2, 1) := by decide +kernel
theorem dX1_burn_55 : decode cX1_burn 55 = .ok (.idiv, 1) := by decide +kernel
theorem dX1_burn_56 : decode cX1_burn 56 = .ok (.istore_n 2, 1) := by decide +kernel
theorem dX1_burn_57 : decode cX1_burn 57 = .ok (.aload_n 0, 1) := by decide +kernel
theorem dX1_burn_58 : decode cX1_burn 58 = .ok (.dup, 1) := by decide +kernel
theorem dX1_burn_59 : decode cX1_burn 59 = .ok (.getfield 18, 3) := by decide +kernel
theorem dX1_burn_62 : decode cX1_burn 62 = .ok (.lconst 1, 1) := by decide +kernel
theorem dX1_burn_63 : decode cX1_burn 63 = .ok (.ladd, 1) := by decide +kernel
theorem dX1_burn_64 : decode cX1_burn 64 = .ok (.putfield 18, 3) := by decide +kernel
theorem dX1_burn_67 : decode cX1_burn 67 = .ok (.aload_n 0, 1) := by decide +kernel
theorem dX1_burn_68 : decode cX1_burn 68 = .ok (.dup, 1) := by decide +kernel
theorem dX1_burn_69 : decode cX1_burn 69 = .ok (.getfield 29, 3) := by decide +kernel
theorem dX1_burn_72 : decode cX1_burn 72 = .ok (.iload_n 2, 1) := by decide +kernel
theorem dX1_burn_73 : decode cX1_burn 73 = .ok (.iadd, 1) := by decide +kernel
theorem dX1_burn_74 : decode cX1_burn 74 = .ok (.putfield 29, 3) := by decide +kernel
theorem dX1_burn_77 : decode cX1_burn 77 = .ok (.iload_n 2, 1) := by decide +kernel
theorem dX1_burn_78 : decode cX1_burn 78 = .ok (.ireturn, 1) := by decide +kernel
theorem dX1_place_0 : decode cX1_place 0 = .ok (.aload_n 0, 1) := by decide +kernel
theorem dX1_place_1 : decode cX1_place 1 = .ok (.getfield 9, 3) := by decide +kernel
theorem dX1_place_4 : decode cX1_place 4 = .ok (.ireturn, 1) := by decide +kernel
theorem dX1_allMade_0 : decode cX1_allMade 0 = .ok (.aload_n 0, 1) := by decide +kernel
theorem dX1_allMade_1 : decode cX1_allMade 1 = .ok (.getfield 29, 3) := by decide +kernel
theorem dX1_allMade_4 : decode cX1_allMade 4 = .ok (.ireturn, 1) := by decide +kernel
theorem dX2_init_0 : decode cX2_init 0 = .ok (.aload_n 0, 1) := by decide +kernel
theorem dX2_init_1 : decode cX2_init 1 = .ok (.invokespecial 3, 3) := by decide +kernel
theorem dX2_init_4 : decode cX2_init 4 = .ok (.aload_n 0, 1) := by decide +kernel
theorem dX2_init_5 : decode cX2_init 5 = .ok (.bipush 10, 2) := by decide +kernel
theorem dX2_init_7 : decode cX2_init 7 = .ok (.newarray .int, 2) := by decide +kernel
theorem dX2_init_9 : decode cX2_init 9 = .ok (.putfield 9, 3) := by decide +kernel
theorem dX2_init_12 : decode cX2_init 12 = .ok (.aload_n 0, 1) := by decide +kernel
theorem dX2_init_13 : decode cX2_init 13 = .ok (.bipush 10, 2) := by decide +kernel
theorem dX2_init_15 : decode cX2_init 15 = .ok (.newarray .int, 2) := by decide +kernel
theorem dX2_init_17 : decode cX2_init 17 = .ok (.putfield 15, 3) := by decide +kernel
theorem dX2_init_20 : decode cX2_init 20 = .ok (.aload_n 0, 1) := by decide +kernel
theorem dX2_init_21 : decode cX2_init 21 = .ok (.bipush 10, 2) := by decide +kernel
theorem dX2_init_23 : decode cX2_init 23 = .ok (.newarray .int, 2) := by decide +kernel
theorem dX2_init_25 : decode cX2_init 25 = .ok (.putfield 18, 3) := by decide +kernel
theorem dX2_init_28 : decode cX2_init 28 = .ok (.aload_n 0, 1) := by decide +kernel
theorem dX2_init_29 : decode cX2_init 29 = .ok (.iconst 0, 1) := by decide +kernel
theorem dX2_init_30 : decode cX2_init 30 = .ok (.putfield 21, 3) := by decide +kernel
theorem dX2_init_33 : decode cX2_init 33 = .ok (.aload_n 0, 1) := by decide +kernel
theorem dX2_init_34 : decode cX2_init 34 = .ok (.iconst 0, 1) := by decide +kernel
theorem dX2_init_35 : decode cX2_init 35 = .ok (.putfield 25, 3) := by decide +kernel
theorem dX2_init_38 : decode cX2_init 38 = .ok (.aload_n 0, 1) := by decide +kernel
theorem dX2_init_39 : decode cX2_init 39 = .ok (.iconst 0, 1) := by decide +kernel
theorem dX2_init_40 : decode cX2_init 40 = .ok (.putfield 28, 3) := by decide +kernel
theorem dX2_init_43 : decode cX2_init 43 = .ok (.return_, 1) := by decide +kernel
theorem dX2_hasRoom_0 : decode cX2_hasRoom 0 = .ok (.aload_n 0, 1) := by decide +kernel
theorem dX2_hasRoom_1 : decode cX2_hasRoom 1 = .ok (.getfield 21, 3) := by decide +kernel
theorem dX2_hasRoom_4 : decode cX2_hasRoom 4 = .ok (.bipush 10, 2) := by decide +kernel
theorem dX2_hasRoom_6 : decode cX2_hasRoom 6 = .ok (.if_icmp .ge 7, 3) := by decide +kernel
theorem dX2_hasRoom_9 : decode cX2_hasRoom 9 = .ok (.iconst 1, 1) := by decide +kernel
theorem dX2_hasRoom_10 : decode cX2_hasRoom 10 = .ok (.goto 4, 3) := by decide +kernel
theorem dX2_hasRoom_13 : decode cX2_hasRoom 13 = .ok (.iconst 0, 1) := by decide +kernel
theorem dX2_hasRoom_14 : decode cX2_hasRoom 14 = .ok (.ireturn, 1) := by decide +kernel
set_option maxRecDepth 20000 in
theorem ggX2_put_X2_hasRoom : GoodIn wsX2_put wsX2_hasRoom := goodIn_r _ [9, 2, 10, 11, 12, 13, 14, 15] (by decide +kernel) (by decide +kernel)
set_option maxRecDepth 20000 in
theorem gX2_put_X2_hasRoom : GoodIn wsX2_put (wsV RX2 31 RX2 yX2_hasRoom wsX2_hasRoom) := goodIn_app (goodIn_of _ (by decide +kernel)) ggX2_put_X2_hasRoom
theorem dX2_put_0 : decode cX2_put 0 = .ok (.aload_n 0, 1) := by decide +kernel
theorem dX2_put_1 : decode cX2_put 1 = .ok (.invokevirtual 31, 3) := by decide +kernel
theorem dX2_put_4 : decode cX2_put 4 = .ok (.ifCond .ne 5, 3) := by decide +kernel
theorem dX2_put_7 : decode cX2_put 7 = .ok (.iconst (-1), 1) := by decide +kernel
theorem dX2_put_8 : decode cX2_put 8 = .ok (.ireturn, 1) := by decide +kernel
theorem dX2_put_9 : decode cX2_put 9 = .ok (.aload_n 0, 1) := by decide +kernel
theorem dX2_put_10 : decode cX2_put 10 = .ok (.getfield 9, 3) := by decide +kernel
theorem dX2_put_13 : decode cX2_put 13 = .ok (.aload_n 0, 1) := by decide +kernel
theorem dX2_put_14 : decode cX2_put 14 = .ok (.getfield 21, 3) := by decide +kernel
theorem dX2_put_17 : decode cX2_put 17 = .ok (.iload_n 1, 1) := by decide +kernel
theorem dX2_put_18 : decode cX2_put 18 = .ok (.iastore, 1) := by decide +kernel
theorem dX2_put_19 : decode cX2_put 19 = .ok (.aload_n 0, 1) := by decide +kernel
theorem dX2_put_20 : decode cX2_put 20 = .ok (.getfield 15, 3) := by decide +kernel
theorem dX2_put_23 : decode cX2_put 23 = .ok (.aload_n 0, 1) := by decide +kernel
theorem dX2_put_24 : decode cX2_put 24 = .ok (.getfield 21, 3) := by decide +kernel
theorem dX2_put_27 : decode cX2_put 27 = .ok (.iload_n 3, 1) := by decide +kernel
theorem dX2_put_28 : decode cX2_put 28 = .ok (.ifCond .eq 11, 3) := by decide +kernel
theorem dX2_put_31 : decode cX2_put 31 = .ok (.iconst 2, 1) := by decide +kernel
theorem dX2_put_32 : decode cX2_put 32 = .ok (.iload_n 2, 1) := by decide +kernel
theorem dX2_put_33 : decode cX2_put 33 = .ok (.imul, 1) := by decide +kernel
theorem dX2_put_34 : decode cX2_put 34 = .ok (.iconst 3, 1) := by decide +kernel
theorem dX2_put_35 : decode cX2_put 35 = .ok (.iadd, 1) := by decide +kernel
theorem dX2_put_36 : decode cX2_put 36 = .ok (.goto 4, 3) := by decide +kernel
theorem dX2_put_39 : decode cX2_put 39 = .ok (.iload_n 2, 1) := by decide +kernel
theorem dX2_put_40 : decode cX2_put 40 = .ok (.iastore, 1) := by decide +kernel
theorem dX2_put_41 : decode cX2_put 41 = .ok (.aload_n 0, 1) := by decide +kernel
theorem dX2_put_42 : decode cX2_put 42 = .ok (.getfield 18, 3) := by decide +kernel
theorem dX2_put_45 : decode cX2_put 45 = .ok (.aload_n 0, 1) := by decide +kernel
theorem dX2_put_46 : decode cX2_put 46 = .ok (.getfield 21, 3) := by decide +kernel
theorem dX2_put_49 : decode cX2_put 49 = .ok (.iconst (-1), 1) := by decide +kernel
theorem dX2_put_50 : decode cX2_put 50 = .ok (.iastore, 1) := by decide +kernel
theorem dX2_put_51 : decode cX2_put 51 = .ok (.aload_n 0, 1) := by decide +kernel
theorem dX2_put_52 : decode cX2_put 52 = .ok (.dup, 1) := by decide +kernel
theorem dX2_put_53 : decode cX2_put 53 = .ok (.getfield 21, 3) := by decide +kernel
theorem dX2_put_56 : decode cX2_put 56 = .ok (.iconst 1, 1) := by decide +kernel
theorem dX2_put_57 : decode cX2_put 57 = .ok (.iadd, 1) := by decide +kernel
theorem dX2_put_58 : decode cX2_put 58 = .ok (.putfield 21, 3) := by decide +kernel
theorem dX2_put_61 : decode cX2_put 61 = .ok (.aload_n 0, 1) := by decide +kernel
theorem dX2_put_62 : decode cX2_put 62 = .ok (.getfield 21, 3) := by decide +kernel
theorem dX2_put_65 : decode cX2_put 65 = .ok (.iconst 1, 1) := by decide +kernel
theorem dX2_put_66 : decode cX2_put 66 = .ok (.isub, 1) := by decide +kernel
theorem dX2_put_67 : decode cX2_put 67 = .ok (.ireturn, 1) := by decide +kernel
theorem dX2_start_0 : decode cX2_start 0 = .ok (.aload_n 0, 1) := by decide +kernel
theorem dX2_start_1 : decode cX2_start 1 = .ok (.iload_n 1, 1) := by decide +kernel
theorem dX2_start_2 : decode cX2_start 2 = .ok (.putfield 28, 3) := by decide +kernel
theorem dX2_start_5 : decode cX2_start 5 = .ok (.return_, 1) := by decide +kernel
set_option maxRecDepth 20000 in
theorem ggX2_isDue_X2_isAct : GoodIn wsX2_isDue wsX2_isAct := goodIn_r _ [8, 9, 10, 11, 12, 13, 14, 15] (by decide +kernel) (by decide +kernel)
set_option maxRecDepth 20000 in
theorem gX2_isDue_X2_isAct : GoodIn wsX2_isDue (wsV RX2 35 RX2 yX2_isAct wsX2_isAct) := goodIn_app (goodIn_of _ (by decide +kernel)) ggX2_isDue_X2_isAct
theorem dX2_isDue_0 : decode cX2_isDue 0 = .ok (.aload_n 0, 1) := by decide +kernel
theorem dX2_isDue_1 : decode cX2_isDue 1 = .ok (.aload_n 0, 1) := by decide +kernel
theorem dX2_isDue_2 : decode cX2_isDue 2 = .ok (.getfield 25, 3) := by decide +kernel
theorem dX2_isDue_5 : decode cX2_isDue 5 = .ok (.invokevirtual 35, 3) := by decide +kernel
theorem dX2_isDue_8 : decode cX2_isDue 8 = .ok (.ifCond .eq 25, 3) := by decide +kernel
theorem dX2_isDue_11 : decode cX2_isDue 11 = .ok (.iload_n 1, 1) := by decide +kernel
theorem dX2_isDue_12 : decode cX2_isDue 12 = .ok (.aload_n 0, 1) := by decide +kernel
theorem dX2_isDue_13 : decode cX2_isDue 13 = .ok (.getfield 28, 3) := by decide +kernel
theorem dX2_isDue_16 : decode cX2_isDue 16 = .ok (.isub, 1) := by decide +kernel
theorem dX2_isDue_17 : decode cX2_isDue 17 = .ok (.aload_n 0, 1) := by decide +kernel
theorem dX2_isDue_18 : decode cX2_isDue 18 = .ok (.getfield 15, 3) := by decide +kernel
theorem dX2_isDue_21 : decode cX2_isDue 21 = .ok (.aload_n 0, 1) := by decide +kernel
theorem dX2_isDue_22 : decode cX2_isDue 22 = .ok (.getfield 25, 3) := by decide +kernel
theorem dX2_isDue_25 : decode cX2_isDue 25 = .ok (.iaload, 1) := by decide +kernel
theorem dX2_isDue_26 : decode cX2_isDue 26 = .ok (.if_icmp .lt 7, 3) := by decide +kernel
theorem dX2_isDue_29 : decode cX2_isDue 29 = .ok (.iconst 1, 1) := by decide +kernel
theorem dX2_isDue_30 : decode cX2_isDue 30 = .ok (.goto 4, 3) := by decide +kernel
theorem dX2_isDue_33 : decode cX2_isDue 33 = .ok (.iconst 0, 1) := by decide +kernel
theorem dX2_isDue_34 : decode cX2_isDue 34 = .ok (.ireturn, 1) := by decide +kernel
set_option maxRecDepth 20000 in
theorem ggX2_finishNext_X2_isAct : GoodIn wsX2_finishNext wsX2_isAct := goodIn_r _ [9, 10, 11, 12, 13, 14, 15, 16] (by decide +kernel) (by decide +kernel)
set_option maxRecDepth 20000 in
theorem gX2_finishNext_X2_isAct : GoodIn wsX2_finishNext (wsV RX2 35 RX2 yX2_isAct wsX2_isAct) := goodIn_app (goodIn_of _ (by decide +kernel)) ggX2_finishNext_X2_isAct
theorem dX2_finishNext_0 : decode cX2_finishNext 0 = .ok (.aload_n 0, 1) := by decide +kernel
theorem dX2_finishNext_1 : decode cX2_finishNext 1 = .ok (.aload_n 0, 1) := by decide +kernel
theorem dX2_finishNext_2 : decode cX2_finishNext 2 = .ok (.getfield 25, 3) := by decide +kernel
theorem dX2_finishNext_5 : decode cX2_finishNext 5 = .ok (.invokevirtual 35, 3) := by decide +kernel
theorem dX2_finishNext_8 : decode cX2_finishNext 8 = .ok (.ifCond .ne 5, 3) := by decide +kernel
theorem dX2_finishNext_11 : decode cX2_finishNext 11 = .ok (.iconst (-1), 1) := by decide +kernel
theorem dX2_finishNext_12 : decode cX2_finishNext 12 = .ok (.ireturn, 1) := by decide +kernel
theorem dX2_finishNext_13 : decode cX2_finishNext 13 = .ok (.aload_n 0, 1) := by decide +kernel
theorem dX2_finishNext_14 : decode cX2_finishNext 14 = .ok (.getfield 9, 3) := by decide +kernel
theorem dX2_finishNext_17 : decode cX2_finishNext 17 = .ok (.aload_n 0, 1) := by decide +kernel
theorem dX2_finishNext_18 : decode cX2_finishNext 18 = .ok (.getfield 25, 3) := by decide +kernel
theorem dX2_finishNext_21 : decode cX2_finishNext 21 = .ok (.iaload, 1) := by decide +kernel
theorem dX2_finishNext_22 : decode cX2_finishNext 22 = .ok (.istore_n 2, 1) := by decide +kernel
theorem dX2_finishNext_23 : decode cX2_finishNext 23 = .ok (.aload_n 0, 1) := by decide +kernel
theorem dX2_finishNext_24 : decode cX2_finishNext 24 = .ok (.getfield 18, 3) := by decide +kernel
theorem dX2_finishNext_27 : decode cX2_finishNext 27 = .ok (.aload_n 0, 1) := by decide +kernel
theorem dX2_finishNext_28 : decode cX2_finishNext 28 = .ok (.getfield 25, 3) := by decide +kernel
theorem dX2_finishNext_31 : decode cX2_finishNext 31 = .ok (.iload_n 1, 1) := by decide +kernel
theorem dX2_finishNext_32 : decode cX2_finishNext 32 = .ok (.iastore, 1) := by decide +kernel
theorem dX2_finishNext_33 : decode cX2_finishNext 33 = .ok (.aload_n 0, 1) := by decide +kernel
theorem dX2_finishNext_34 : decode cX2_finishNext 34 = .ok (.iload_n 1, 1) := by decide +kernel
theorem dX2_finishNext_35 : decode cX2_finishNext 35 = .ok (.putfield 28, 3) := by decide +kernel
theorem dX2_finishNext_38 : decode cX2_finishNext 38 = .ok (.aload_n 0, 1) := by decide +kernel
theorem dX2_finishNext_39 : decode cX2_finishNext 39 = .ok (.dup, 1) := by decide +kernel
theorem dX2_finishNext_40 : decode cX2_finishNext 40 = .ok (.getfield 25, 3) := by decide +kernel
theorem dX2_finishNext_43 : decode cX2_finishNext 43 = .ok (.iconst 1, 1) := by decide +kernel
theorem dX2_finishNext_44 : decode cX2_finishNext 44 = .ok (.iadd, 1) := by decide +kernel
theorem dX2_finishNext_45 : decode cX2_finishNext 45 = .ok (.putfield 25, 3) := by decide +kernel
theorem dX2_finishNext_48 : decode cX2_finishNext 48 = .ok (.iload_n 2, 1) := by decide +kernel
theorem dX2_finishNext_49 : decode cX2_finishNext 49 = .ok (.ireturn, 1) := by decide +kernel
set_option maxRecDepth 20000 in
theorem ggX2_stepOf_X2_isAct : GoodIn wsX2_stepOf wsX2_isAct := goodIn_r _ [6, 7, 8, 9, 10, 11, 12, 13] (by decide +kernel) (by decide +kernel)
set_option maxRecDepth 20000 in
theorem gX2_stepOf_X2_isAct : GoodIn wsX2_stepOf (wsV RX2 35 RX2 yX2_isAct wsX2_isAct) := goodIn_app (goodIn_of _ (by decide +kernel)) ggX2_stepOf_X2_isAct
theorem dX2_stepOf_0 : decode cX2_stepOf 0 = .ok (.aload_n 0, 1) := by decide +kernel
theorem dX2_stepOf_1 : decode cX2_stepOf 1 = .ok (.iload_n 1, 1) := by decide +kernel
theorem dX2_stepOf_2 : decode cX2_stepOf 2 = .ok (.invokevirtual 35, 3) := by decide +kernel
theorem dX2_stepOf_5 : decode cX2_stepOf 5 = .ok (.ifCond .eq 12, 3) := by decide +kernel
theorem dX2_stepOf_8 : decode cX2_stepOf 8 = .ok (.aload_n 0, 1) := by decide +kernel
theorem dX2_stepOf_9 : decode cX2_stepOf 9 = .ok (.getfield 18, 3) := by decide +kernel
theorem dX2_stepOf_12 : decode cX2_stepOf 12 = .ok (.iload_n 1, 1) := by decide +kernel
theorem dX2_stepOf_13 : decode cX2_stepOf 13 = .ok (.iaload, 1) := by decide +kernel
theorem dX2_stepOf_14 : decode cX2_stepOf 14 = .ok (.goto 4, 3) := by decide +kernel
theorem dX2_stepOf_17 : decode cX2_stepOf 17 = .ok (.iconst (-1), 1) := by decide +kernel
theorem dX2_stepOf_18 : decode cX2_stepOf 18 = .ok (.ireturn, 1) := by decide +kernel
theorem dX2_isAct_0 : decode cX2_isAct 0 = .ok (.iload_n 1, 1) := by decide +kernel
theorem dX2_isAct_1 : decode cX2_isAct 1 = .ok (.ifCond .lt 21, 3) := by decide +kernel
theorem dX2_isAct_4 : decode cX2_isAct 4 = .ok (.iload_n 1, 1) := by decide +kernel
theorem dX2_isAct_5 : decode cX2_isAct 5 = .ok (.aload_n 0, 1) := by decide +kernel
theorem dX2_isAct_6 : decode cX2_isAct 6 = .ok (.getfield 21, 3) := by decide +kernel
theorem dX2_isAct_9 : decode cX2_isAct 9 = .ok (.if_icmp .ge 13, 3) := by decide +kernel
theorem dX2_isAct_12 : decode cX2_isAct 12 = .ok (.iload_n 1, 1) := by decide +kernel
theorem dX2_isAct_13 : decode cX2_isAct 13 = .ok (.bipush 10, 2) := by decide +kernel
theorem dX2_isAct_15 : decode cX2_isAct 15 = .ok (.if_icmp .ge 7, 3) := by decide +kernel
theorem dX2_isAct_18 : decode cX2_isAct 18 = .ok (.iconst 1, 1) := by decide +kernel
theorem dX2_isAct_19 : decode cX2_isAct 19 = .ok (.goto 4, 3) := by decide +kernel
theorem dX2_isAct_22 : decode cX2_isAct 22 = .ok (.iconst 0, 1) := by decide +kernel
theorem dX2_isAct_23 : decode cX2_isAct 23 = .ok (.ireturn, 1) := by decide +kernel
theorem dX2_size_0 : decode cX2_size 0 = .ok (.aload_n 0, 1) := by decide +kernel
theorem dX2_size_1 : decode cX2_size 1 = .ok (.getfield 21, 3) := by decide +kernel
theorem dX2_size_4 : decode cX2_size 4 = .ok (.ireturn, 1) := by decide +kernel
theorem dX3_init_0 : decode cX3_init 0 = .ok (.aload_n 0, 1) := by decide +kernel
theorem dX3_init_1 : decode cX3_init 1 = .ok (.invokespecial 3, 3) := by decide +kernel
theorem dX3_init_4 : decode cX3_init 4 = .ok (.aload_n 0, 1) := by decide +kernel
theorem dX3_init_5 : decode cX3_init 5 = .ok (.bipush 30, 2) := by decide +kernel
theorem dX3_init_7 : decode cX3_init 7 = .ok (.newarray .int, 2) := by decide +kernel
theorem dX3_init_9 : decode cX3_init 9 = .ok (.putfield 9, 3) := by decide +kernel
theorem dX3_init_12 : decode cX3_init 12 = .ok (.aload_n 0, 1) := by decide +kernel
theorem dX3_init_13 : decode cX3_init 13 = .ok (.bipush 30, 2) := by decide +kernel
theorem dX3_init_15 : decode cX3_init 15 = .ok (.newarray .int, 2) := by decide +kernel
theorem dX3_init_17 : decode cX3_init 17 = .ok (.putfield 15, 3) := by decide +kernel
theorem dX3_init_20 : decode cX3_init 20 = .ok (.aload_n 0, 1) := by decide +kernel
theorem dX3_init_21 : decode cX3_init 21 = .ok (.bipush 30, 2) := by decide +kernel
theorem dX3_init_23 : decode cX3_init 23 = .ok (.newarray .int, 2) := by decide +kernel
theorem dX3_init_25 : decode cX3_init 25 = .ok (.putfield 18, 3) := by decide +kernel
theorem dX3_init_28 : decode cX3_init 28 = .ok (.aload_n 0, 1) := by decide +kernel
theorem dX3_init_29 : decode cX3_init 29 = .ok (.bipush 30, 2) := by decide +kernel
theorem dX3_init_31 : decode cX3_init 31 = .ok (.newarray .int, 2) := by decide +kernel
theorem dX3_init_33 : decode cX3_init 33 = .ok (.putfield 21, 3) := by decide +kernel
theorem dX3_init_36 : decode cX3_init 36 = .ok (.aload_n 0, 1) := by decide +kernel
theorem dX3_init_37 : decode cX3_init 37 = .ok (.iconst 0, 1) := by decide +kernel
theorem dX3_init_38 : decode cX3_init 38 = .ok (.putfield 24, 3) := by decide +kernel
theorem dX3_init_41 : decode cX3_init 41 = .ok (.return_, 1) := by decide +kernel
theorem dX3_hasRoomFor_0 : decode cX3_hasRoomFor 0 = .ok (.iload_n 1, 1) := by decide +kernel
theorem dX3_hasRoomFor_1 : decode cX3_hasRoomFor 1 = .ok (.bipush 30, 2) := by decide +kernel
theorem dX3_hasRoomFor_3 : decode cX3_hasRoomFor 3 = .ok (.aload_n 0, 1) := by decide +kernel
theorem dX3_hasRoomFor_4 : decode cX3_hasRoomFor 4 = .ok (.getfield 24, 3) := by decide +kernel
theorem dX3_hasRoomFor_7 : decode cX3_hasRoomFor 7 = .ok (.isub, 1) := by decide +kernel
theorem dX3_hasRoomFor_8 : decode cX3_hasRoomFor 8 = .ok (.if_icmp .gt 7, 3) := by decide +kernel
theorem dX3_hasRoomFor_11 : decode cX3_hasRoomFor 11 = .ok (.iconst 1, 1) := by decide +kernel
theorem dX3_hasRoomFor_12 : decode cX3_hasRoomFor 12 = .ok (.goto 4, 3) := by decide +kernel
theorem dX3_hasRoomFor_15 : decode cX3_hasRoomFor 15 = .ok (.iconst 0, 1) := by decide +kernel
theorem dX3_hasRoomFor_16 : decode cX3_hasRoomFor 16 = .ok (.ireturn, 1) := by decide +kernel
theorem dX3_seat_0 : decode cX3_seat 0 = .ok (.iconst 0, 1) := by decide +kernel
theorem dX3_seat_1 : decode cX3_seat 1 = .ok (.istore_n 3, 1) := by decide +kernel
theorem dX3_seat_2 : decode cX3_seat 2 = .ok (.iload_n 3, 1) := by decide +kernel
theorem dX3_seat_3 : decode cX3_seat 3 = .ok (.iload_n 2, 1) := by decide +kernel
theorem dX3_seat_4 : decode cX3_seat 4 = .ok (.if_icmp .ge 58, 3) := by decide +kernel
theorem dX3_seat_7 : decode cX3_seat 7 = .ok (.aload_n 0, 1) := by decide +kernel
theorem dX3_seat_8 : decode cX3_seat 8 = .ok (.getfield 24, 3) := by decide +kernel
theorem dX3_seat_11 : decode cX3_seat 11 = .ok (.bipush 30, 2) := by decide +kernel
theorem dX3_seat_13 : decode cX3_seat 13 = .ok (.if_icmp .ge 49, 3) := by decide +kernel
theorem dX3_seat_16 : decode cX3_seat 16 = .ok (.aload_n 0, 1) := by decide +kernel
theorem dX3_seat_17 : decode cX3_seat 17 = .ok (.getfield 9, 3) := by decide +kernel
theorem dX3_seat_20 : decode cX3_seat 20 = .ok (.aload_n 0, 1) := by decide +kernel
theorem dX3_seat_21 : decode cX3_seat 21 = .ok (.getfield 24, 3) := by decide +kernel
theorem dX3_seat_24 : decode cX3_seat 24 = .ok (.iconst 0, 1) := by decide +kernel
theorem dX3_seat_25 : decode cX3_seat 25 = .ok (.iastore, 1) := by decide +kernel
theorem dX3_seat_26 : decode cX3_seat 26 = .ok (.aload_n 0, 1) := by decide +kernel
theorem dX3_seat_27 : decode cX3_seat 27 = .ok (.getfield 15, 3) := by decide +kernel
theorem dX3_seat_30 : decode cX3_seat 30 = .ok (.aload_n 0, 1) := by decide +kernel
theorem dX3_seat_31 : decode cX3_seat 31 = .ok (.getfield 24, 3) := by decide +kernel
theorem dX3_seat_34 : decode cX3_seat 34 = .ok (.iload_n 1, 1) := by decide +kernel
theorem dX3_seat_35 : decode cX3_seat 35 = .ok (.iastore, 1) := by decide +kernel
theorem dX3_seat_36 : decode cX3_seat 36 = .ok (.aload_n 0, 1) := by decide +kernel
theorem dX3_seat_37 : decode cX3_seat 37 = .ok (.getfield 21, 3) := by decide +kernel
theorem dX3_seat_40 : decode cX3_seat 40 = .ok (.aload_n 0, 1) := by decide +kernel
theorem dX3_seat_41 : decode cX3_seat 41 = .ok (.getfield 24, 3) := by decide +kernel
theorem dX3_seat_44 : decode cX3_seat 44 = .ok (.iconst (-1), 1) := by decide +kernel
theorem dX3_seat_45 : decode cX3_seat 45 = .ok (.iastore, 1) := by decide +kernel
theorem dX3_seat_46 : decode cX3_seat 46 = .ok (.aload_n 0, 1) := by decide +kernel
theorem dX3_seat_47 : decode cX3_seat 47 = .ok (.dup, 1) := by decide +kernel
theorem dX3_seat_48 : decode cX3_seat 48 = .ok (.getfield 24, 3) := by decide +kernel
theorem dX3_seat_51 : decode cX3_seat 51 = .ok (.iconst 1, 1) := by decide +kernel
theorem dX3_seat_52 : decode cX3_seat 52 = .ok (.iadd, 1) := by decide +kernel
theorem dX3_seat_53 : decode cX3_seat 53 = .ok (.putfield 24, 3) := by decide +kernel
theorem dX3_seat_56 : decode cX3_seat 56 = .ok (.iinc 3 1, 3) := by decide +kernel
theorem dX3_seat_59 : decode cX3_seat 59 = .ok (.goto (-57), 3) := by decide +kernel
theorem dX3_seat_62 : decode cX3_seat 62 = .ok (.return_, 1) := by decide +kernel
set_option maxRecDepth 20000 in
theorem ggX3_live_X0_smokeIn : GoodIn wsX3_live wsX0_smokeIn := goodIn_r _ [8, 9, 10, 11, 12, 47, 48, 49, 50] (by decide +kernel) (by decide +kernel)
set_option maxRecDepth 20000 in
theorem gX3_live_X0_smokeIn : GoodIn wsX3_live (wsV RX3 28 RX0 yX0_smokeIn wsX0_smokeIn) := goodIn_app (goodIn_of _ (by decide +kernel)) ggX3_live_X0_smokeIn
set_option maxRecDepth 20000 in
theorem ggX3_live_X3_liveOne : GoodIn wsX3_live wsX3_liveOne := goodIn_r _ [17, 2, 18, 19, 20, 21, 22, 16, 23, 1, 24, 25, 26, 27, 3, 28, 29, 30, 31, 32, 33, 34, 35, 36, 37, 38, 39, 40, 41, 10, 11, 12, 42, 43, 44, 45, 46, 51, 52, 53] (by decide +kernel) (by decide +kernel)
set_option maxRecDepth 20000 in
theorem gX3_live_X3_liveOne : GoodIn wsX3_live (wsV RX3 34 RX3 yX3_liveOne wsX3_liveOne) := goodIn_app (goodIn_of _ (by decide +kernel)) ggX3_live_X3_liveOne
theorem dX3_live_0 : decode cX3_live 0 = .ok (.iconst 0, 1) := by decide +kernel
theorem dX3_live_1 : decode cX3_live 1 = .ok (.istore 5, 2) := by decide +kernel
theorem dX3_live_3 : decode cX3_live 3 = .ok (.iload 5, 2) := by decide +kernel
theorem dX3_live_5 : decode cX3_live 5 = .ok (.aload_n 0, 1) := by decide +kernel
theorem dX3_live_6 : decode cX3_live 6 = .ok (.getfield 24, 3) := by decide +kernel
theorem dX3_live_9 : decode cX3_live 9 = .ok (.if_icmp .ge 59, 3) := by decide +kernel
theorem dX3_live_12 : decode cX3_live 12 = .ok (.iload 5, 2) := by decide +kernel
theorem dX3_live_14 : decode cX3_live 14 = .ok (.bipush 30, 2) := by decide +kernel
theorem dX3_live_16 : decode cX3_live 16 = .ok (.if_icmp .ge 52, 3) := by decide +kernel
theorem dX3_live_19 : decode cX3_live 19 = .ok (.aload_n 0, 1) := by decide +kernel
theorem dX3_live_20 : decode cX3_live 20 = .ok (.getfield 9, 3) := by decide +kernel
theorem dX3_live_23 : decode cX3_live 23 = .ok (.iload 5, 2) := by decide +kernel
theorem dX3_live_25 : decode cX3_live 25 = .ok (.iaload, 1) := by decide +kernel
theorem dX3_live_26 : decode cX3_live 26 = .ok (.iconst 3, 1) := by decide +kernel
theorem dX3_live_27 : decode cX3_live 27 = .ok (.if_icmp .eq 35, 3) := by decide +kernel
theorem dX3_live_30 : decode cX3_live 30 = .ok (.aload_n 0, 1) := by decide +kernel
theorem dX3_live_31 : decode cX3_live 31 = .ok (.getfield 9, 3) := by decide +kernel
theorem dX3_live_34 : decode cX3_live 34 = .ok (.iload 5, 2) := by decide +kernel
theorem dX3_live_36 : decode cX3_live 36 = .ok (.iaload, 1) := by decide +kernel
theorem dX3_live_37 : decode cX3_live 37 = .ok (.iconst 4, 1) := by decide +kernel
theorem dX3_live_38 : decode cX3_live 38 = .ok (.if_icmp .eq 24, 3) := by decide +kernel
theorem dX3_live_41 : decode cX3_live 41 = .ok (.aload_n 0, 1) := by decide +kernel
theorem dX3_live_42 : decode cX3_live 42 = .ok (.iload 5, 2) := by decide +kernel
theorem dX3_live_44 : decode cX3_live 44 = .ok (.iload_n 1, 1) := by decide +kernel
theorem dX3_live_45 : decode cX3_live 45 = .ok (.iload_n 2, 1) := by decide +kernel
theorem dX3_live_46 : decode cX3_live 46 = .ok (.aload_n 3, 1) := by decide +kernel
theorem dX3_live_47 : decode cX3_live 47 = .ok (.aload_n 0, 1) := by decide +kernel
theorem dX3_live_48 : decode cX3_live 48 = .ok (.getfield 15, 3) := by decide +kernel
theorem dX3_live_51 : decode cX3_live 51 = .ok (.iload 5, 2) := by decide +kernel
theorem dX3_live_53 : decode cX3_live 53 = .ok (.iaload, 1) := by decide +kernel
theorem dX3_live_54 : decode cX3_live 54 = .ok (.invokevirtual 28, 3) := by decide +kernel
theorem dX3_live_57 : decode cX3_live 57 = .ok (.aload 4, 2) := by decide +kernel
theorem dX3_live_59 : decode cX3_live 59 = .ok (.invokevirtual 34, 3) := by decide +kernel
theorem dX3_live_62 : decode cX3_live 62 = .ok (.iinc 5 1, 3) := by decide +kernel
theorem dX3_live_65 : decode cX3_live 65 = .ok (.goto (-62), 3) := by decide +kernel
theorem dX3_live_68 : decode cX3_live 68 = .ok (.return_, 1) := by decide +kernel
set_option maxRecDepth 20000 in
theorem ggX3_liveOne_X3_isPerson : GoodIn wsX3_liveOne wsX3_isPerson := goodIn_r _ [8, 9, 32, 33, 34, 35, 36] (by decide +kernel) (by decide +kernel)
set_option maxRecDepth 20000 in
theorem gX3_liveOne_X3_isPerson : GoodIn wsX3_liveOne (wsV RX3 38 RX3 yX3_isPerson wsX3_isPerson) := goodIn_app (goodIn_of _ (by decide +kernel)) ggX3_liveOne_X3_isPerson
set_option maxRecDepth 20000 in
theorem ggX3_liveOne_X3_goOn : GoodIn wsX3_liveOne wsX3_goOn := goodIn_r _ [13, 14, 1, 2, 4, 5, 6, 7, 8, 9, 15, 16, 17, 18, 19, 20, 21, 22, 23, 24, 25, 26, 27, 28, 29, 30, 31, 32, 33, 34, 35, 36, 37, 38, 39] (by decide +kernel) (by decide +kernel)
set_option maxRecDepth 20000 in
theorem gX3_liveOne_X3_goOn : GoodIn wsX3_liveOne (wsV RX3 42 RX3 yX3_goOn wsX3_goOn) := goodIn_app (goodIn_of _ (by decide +kernel)) ggX3_liveOne_X3_goOn
theorem dX3_liveOne_0 : decode cX3_liveOne 0 = .ok (.aload_n 0, 1) := by decide +kernel
theorem dX3_liveOne_1 : decode cX3_liveOne 1 = .ok (.iload_n 1, 1) := by decide +kernel
theorem dX3_liveOne_2 : decode cX3_liveOne 2 = .ok (.invokevirtual 38, 3) := by decide +kernel
theorem dX3_liveOne_5 : decode cX3_liveOne 5 = .ok (.ifCond .ne 4, 3) := by decide +kernel
theorem dX3_liveOne_8 : decode cX3_liveOne 8 = .ok (.return_, 1) := by decide +kernel
theorem dX3_liveOne_9 : decode cX3_liveOne 9 = .ok (.iload 4, 2) := by decide +kernel
theorem dX3_liveOne_11 : decode cX3_liveOne 11 = .ok (.bipush 100, 2) := by decide +kernel
theorem dX3_liveOne_13 : decode cX3_liveOne 13 = .ok (.if_icmp .lt 18, 3) := by decide +kernel
theorem dX3_liveOne_16 : decode cX3_liveOne 16 = .ok (.aload_n 0, 1) := by decide +kernel
theorem dX3_liveOne_17 : decode cX3_liveOne 17 = .ok (.getfield 9, 3) := by decide +kernel
theorem dX3_liveOne_20 : decode cX3_liveOne 20 = .ok (.iload_n 1, 1) := by decide +kernel
theorem dX3_liveOne_21 : decode cX3_liveOne 21 = .ok (.iconst 4, 1) := by decide +kernel
theorem dX3_liveOne_22 : decode cX3_liveOne 22 = .ok (.iastore, 1) := by decide +kernel
theorem dX3_liveOne_23 : decode cX3_liveOne 23 = .ok (.aload_n 0, 1) := by decide +kernel
theorem dX3_liveOne_24 : decode cX3_liveOne 24 = .ok (.getfield 21, 3) := by decide +kernel
theorem dX3_liveOne_27 : decode cX3_liveOne 27 = .ok (.iload_n 1, 1) := by decide +kernel
theorem dX3_liveOne_28 : decode cX3_liveOne 28 = .ok (.iload_n 2, 1) := by decide +kernel
theorem dX3_liveOne_29 : decode cX3_liveOne 29 = .ok (.iastore, 1) := by decide +kernel
theorem dX3_liveOne_30 : decode cX3_liveOne 30 = .ok (.return_, 1) := by decide +kernel
theorem dX3_liveOne_31 : decode cX3_liveOne 31 = .ok (.aload_n 0, 1) := by decide +kernel
theorem dX3_liveOne_32 : decode cX3_liveOne 32 = .ok (.getfield 9, 3) := by decide +kernel
theorem dX3_liveOne_35 : decode cX3_liveOne 35 = .ok (.iload_n 1, 1) := by decide +kernel
theorem dX3_liveOne_36 : decode cX3_liveOne 36 = .ok (.iaload, 1) := by decide +kernel
theorem dX3_liveOne_37 : decode cX3_liveOne 37 = .ok (.ifCond .ne 28, 3) := by decide +kernel
theorem dX3_liveOne_40 : decode cX3_liveOne 40 = .ok (.iload_n 3, 1) := by decide +kernel
theorem dX3_liveOne_41 : decode cX3_liveOne 41 = .ok (.ifCond .ne 10, 3) := by decide +kernel
theorem dX3_liveOne_44 : decode cX3_liveOne 44 = .ok (.iload 4, 2) := by decide +kernel
theorem dX3_liveOne_46 : decode cX3_liveOne 46 = .ok (.bipush 10, 2) := by decide +kernel
theorem dX3_liveOne_48 : decode cX3_liveOne 48 = .ok (.if_icmp .lt 17, 3) := by decide +kernel
theorem dX3_liveOne_51 : decode cX3_liveOne 51 = .ok (.aload_n 0, 1) := by decide +kernel
theorem dX3_liveOne_52 : decode cX3_liveOne 52 = .ok (.getfield 9, 3) := by decide +kernel
theorem dX3_liveOne_55 : decode cX3_liveOne 55 = .ok (.iload_n 1, 1) := by decide +kernel
theorem dX3_liveOne_56 : decode cX3_liveOne 56 = .ok (.iconst 1, 1) := by decide +kernel
theorem dX3_liveOne_57 : decode cX3_liveOne 57 = .ok (.iastore, 1) := by decide +kernel
theorem dX3_liveOne_58 : decode cX3_liveOne 58 = .ok (.aload_n 0, 1) := by decide +kernel
theorem dX3_liveOne_59 : decode cX3_liveOne 59 = .ok (.getfield 18, 3) := by decide +kernel
theorem dX3_liveOne_62 : decode cX3_liveOne 62 = .ok (.iload_n 1, 1) := by decide +kernel
theorem dX3_liveOne_63 : decode cX3_liveOne 63 = .ok (.iload_n 2, 1) := by decide +kernel
theorem dX3_liveOne_64 : decode cX3_liveOne 64 = .ok (.iastore, 1) := by decide +kernel
theorem dX3_liveOne_65 : decode cX3_liveOne 65 = .ok (.aload_n 0, 1) := by decide +kernel
theorem dX3_liveOne_66 : decode cX3_liveOne 66 = .ok (.getfield 9, 3) := by decide +kernel
theorem dX3_liveOne_69 : decode cX3_liveOne 69 = .ok (.iload_n 1, 1) := by decide +kernel
theorem dX3_liveOne_70 : decode cX3_liveOne 70 = .ok (.iaload, 1) := by decide +kernel
theorem dX3_liveOne_71 : decode cX3_liveOne 71 = .ok (.iconst 1, 1) := by decide +kernel
theorem dX3_liveOne_72 : decode cX3_liveOne 72 = .ok (.if_icmp .ne 22, 3) := by decide +kernel
theorem dX3_liveOne_75 : decode cX3_liveOne 75 = .ok (.iload_n 2, 1) := by decide +kernel
theorem dX3_liveOne_76 : decode cX3_liveOne 76 = .ok (.aload_n 0, 1) := by decide +kernel
theorem dX3_liveOne_77 : decode cX3_liveOne 77 = .ok (.getfield 18, 3) := by decide +kernel
theorem dX3_liveOne_80 : decode cX3_liveOne 80 = .ok (.iload_n 1, 1) := by decide +kernel
theorem dX3_liveOne_81 : decode cX3_liveOne 81 = .ok (.iaload, 1) := by decide +kernel
theorem dX3_liveOne_82 : decode cX3_liveOne 82 = .ok (.isub, 1) := by decide +kernel
theorem dX3_liveOne_83 : decode cX3_liveOne 83 = .ok (.iconst 3, 1) := by decide +kernel
theorem dX3_liveOne_84 : decode cX3_liveOne 84 = .ok (.if_icmp .lt 10, 3) := by decide +kernel
theorem dX3_liveOne_87 : decode cX3_liveOne 87 = .ok (.aload_n 0, 1) := by decide +kernel
theorem dX3_liveOne_88 : decode cX3_liveOne 88 = .ok (.getfield 9, 3) := by decide +kernel
theorem dX3_liveOne_91 : decode cX3_liveOne 91 = .ok (.iload_n 1, 1) := by decide +kernel
theorem dX3_liveOne_92 : decode cX3_liveOne 92 = .ok (.iconst 2, 1) := by decide +kernel
theorem dX3_liveOne_93 : decode cX3_liveOne 93 = .ok (.iastore, 1) := by decide +kernel
theorem dX3_liveOne_94 : decode cX3_liveOne 94 = .ok (.aload_n 0, 1) := by decide +kernel
theorem dX3_liveOne_95 : decode cX3_liveOne 95 = .ok (.getfield 9, 3) := by decide +kernel
theorem dX3_liveOne_98 : decode cX3_liveOne 98 = .ok (.iload_n 1, 1) := by decide +kernel
theorem dX3_liveOne_99 : decode cX3_liveOne 99 = .ok (.iaload, 1) := by decide +kernel
theorem dX3_liveOne_100 : decode cX3_liveOne 100 = .ok (.iconst 2, 1) := by decide +kernel
theorem dX3_liveOne_101 : decode cX3_liveOne 101 = .ok (.if_icmp .ne 24, 3) := by decide +kernel
theorem dX3_liveOne_104 : decode cX3_liveOne 104 = .ok (.iload 4, 2) := by decide +kernel
theorem dX3_liveOne_106 : decode cX3_liveOne 106 = .ok (.bipush 40, 2) := by decide +kernel
theorem dX3_liveOne_108 : decode cX3_liveOne 108 = .ok (.if_icmp .lt 9, 3) := by decide +kernel
theorem dX3_liveOne_111 : decode cX3_liveOne 111 = .ok (.iload_n 2, 1) := by decide +kernel
theorem dX3_liveOne_112 : decode cX3_liveOne 112 = .ok (.iconst 2, 1) := by decide +kernel
theorem dX3_liveOne_113 : decode cX3_liveOne 113 = .ok (.irem, 1) := by decide +kernel
theorem dX3_liveOne_114 : decode cX3_liveOne 114 = .ok (.ifCond .ne 11, 3) := by decide +kernel
theorem dX3_liveOne_117 : decode cX3_liveOne 117 = .ok (.aload_n 0, 1) := by decide +kernel
theorem dX3_liveOne_118 : decode cX3_liveOne 118 = .ok (.iload_n 1, 1) := by decide +kernel
theorem dX3_liveOne_119 : decode cX3_liveOne 119 = .ok (.iload_n 2, 1) := by decide +kernel
theorem dX3_liveOne_120 : decode cX3_liveOne 120 = .ok (.aload 5, 2) := by decide +kernel
theorem dX3_liveOne_122 : decode cX3_liveOne 122 = .ok (.invokevirtual 42, 3) := by decide +kernel
theorem dX3_liveOne_125 : decode cX3_liveOne 125 = .ok (.return_, 1) := by decide +kernel
set_option maxRecDepth 20000 in
theorem ggX3_goOn_X3_isPerson : GoodIn wsX3_goOn wsX3_isPerson := goodIn_r _ [8, 9, 27, 28, 29, 30, 31] (by decide +kernel) (by decide +kernel)
set_option maxRecDepth 20000 in
theorem gX3_goOn_X3_isPerson : GoodIn wsX3_goOn (wsV RX3 38 RX3 yX3_isPerson wsX3_isPerson) := goodIn_app (goodIn_of _ (by decide +kernel)) ggX3_goOn_X3_isPerson
set_option maxRecDepth 20000 in
theorem ggX3_goOn_X4_nearestWay : GoodIn wsX3_goOn wsX4_nearestWay := goodIn_r _ [14, 15, 16, 17, 18, 19, 32, 33, 34] (by decide +kernel) (by decide +kernel)
set_option maxRecDepth 20000 in
theorem gX3_goOn_X4_nearestWay : GoodIn wsX3_goOn (wsV RX3 46 RX4 yX4_nearestWay wsX4_nearestWay) := goodIn_app (goodIn_of _ (by decide +kernel)) ggX3_goOn_X4_nearestWay
set_option maxRecDepth 20000 in
theorem ggX3_goOn_J6_compare_7cf53 : GoodIn wsX3_goOn wsJ6_compare_7cf53 := goodIn_r _ [23] (by decide +kernel) (by decide +kernel)
set_option maxRecDepth 20000 in
theorem gX3_goOn_J6_compare_7cf53 : GoodIn wsX3_goOn (va_wsS RX3 51 yJ6_compare_7cf53 wsJ6_compare_7cf53) := goodIn_app (goodIn_of _ (by decide +kernel)) ggX3_goOn_J6_compare_7cf53
set_option maxRecDepth 20000 in
theorem ggX3_goOn_X7_isSegment : GoodIn wsX3_goOn wsX7_isSegment := goodIn_r _ [26] (by decide +kernel) (by decide +kernel)
set_option maxRecDepth 20000 in
theorem gX3_goOn_X7_isSegment_n57 : GoodIn wsX3_goOn (wsX7_isSegment) := ggX3_goOn_X7_isSegment
theorem dX3_goOn_0 : decode cX3_goOn 0 = .ok (.aload_n 0, 1) := by decide +kernel
theorem dX3_goOn_1 : decode cX3_goOn 1 = .ok (.iload_n 1, 1) := by decide +kernel
theorem dX3_goOn_2 : decode cX3_goOn 2 = .ok (.invokevirtual 38, 3) := by decide +kernel
theorem dX3_goOn_5 : decode cX3_goOn 5 = .ok (.ifCond .ne 4, 3) := by decide +kernel
theorem dX3_goOn_8 : decode cX3_goOn 8 = .ok (.return_, 1) := by decide +kernel
theorem dX3_goOn_9 : decode cX3_goOn 9 = .ok (.aload_n 0, 1) := by decide +kernel
theorem dX3_goOn_10 : decode cX3_goOn 10 = .ok (.getfield 15, 3) := by decide +kernel
theorem dX3_goOn_13 : decode cX3_goOn 13 = .ok (.iload_n 1, 1) := by decide +kernel
theorem dX3_goOn_14 : decode cX3_goOn 14 = .ok (.iaload, 1) := by decide +kernel
theorem dX3_goOn_15 : decode cX3_goOn 15 = .ok (.istore 4, 2) := by decide +kernel
theorem dX3_goOn_17 : decode cX3_goOn 17 = .ok (.iload 4, 2) := by decide +kernel
theorem dX3_goOn_19 : decode cX3_goOn 19 = .ok (.aload_n 3, 1) := by decide +kernel
theorem dX3_goOn_20 : decode cX3_goOn 20 = .ok (.iload 4, 2) := by decide +kernel
theorem dX3_goOn_22 : decode cX3_goOn 22 = .ok (.invokevirtual 46, 3) := by decide +kernel
theorem dX3_goOn_25 : decode cX3_goOn 25 = .ok (.iload 4, 2) := by decide +kernel
theorem dX3_goOn_27 : decode cX3_goOn 27 = .ok (.invokestatic 51, 3) := by decide +kernel
theorem dX3_goOn_30 : decode cX3_goOn 30 = .ok (.iadd, 1) := by decide +kernel
theorem dX3_goOn_31 : decode cX3_goOn 31 = .ok (.istore 5, 2) := by decide +kernel
theorem dX3_goOn_33 : decode cX3_goOn 33 = .ok (.iload 5, 2) := by decide +kernel
theorem dX3_goOn_35 : decode cX3_goOn 35 = .ok (.iload 4, 2) := by decide +kernel
theorem dX3_goOn_37 : decode cX3_goOn 37 = .ok (.if_icmp .eq 11, 3) := by decide +kernel
theorem dX3_goOn_40 : decode cX3_goOn 40 = .ok (.iload 5, 2) := by decide +kernel
theorem dX3_goOn_42 : decode cX3_goOn 42 = .ok (.invokestatic 57, 3) := by decide +kernel
theorem dX3_goOn_45 : decode cX3_goOn 45 = .ok (.ifCond .ne 27, 3) := by decide +kernel
theorem dX3_goOn_48 : decode cX3_goOn 48 = .ok (.aload_n 0, 1) := by decide +kernel
theorem dX3_goOn_49 : decode cX3_goOn 49 = .ok (.getfield 9, 3) := by decide +kernel
theorem dX3_goOn_52 : decode cX3_goOn 52 = .ok (.iload_n 1, 1) := by decide +kernel
theorem dX3_goOn_53 : decode cX3_goOn 53 = .ok (.iconst 3, 1) := by decide +kernel
theorem dX3_goOn_54 : decode cX3_goOn 54 = .ok (.iastore, 1) := by decide +kernel
theorem dX3_goOn_55 : decode cX3_goOn 55 = .ok (.aload_n 0, 1) := by decide +kernel
theorem dX3_goOn_56 : decode cX3_goOn 56 = .ok (.getfield 21, 3) := by decide +kernel
theorem dX3_goOn_59 : decode cX3_goOn 59 = .ok (.iload_n 1, 1) := by decide +kernel
theorem dX3_goOn_60 : decode cX3_goOn 60 = .ok (.iload_n 2, 1) := by decide +kernel
theorem dX3_goOn_61 : decode cX3_goOn 61 = .ok (.iastore, 1) := by decide +kernel
theorem dX3_goOn_62 : decode cX3_goOn 62 = .ok (.aload_n 0, 1) := by decide +kernel
theorem dX3_goOn_63 : decode cX3_goOn 63 = .ok (.getfield 15, 3) := by decide +kernel
theorem dX3_goOn_66 : decode cX3_goOn 66 = .ok (.iload_n 1, 1) := by decide +kernel
theorem dX3_goOn_67 : decode cX3_goOn 67 = .ok (.iconst (-1), 1) := by decide +kernel
theorem dX3_goOn_68 : decode cX3_goOn 68 = .ok (.iastore, 1) := by decide +kernel
theorem dX3_goOn_69 : decode cX3_goOn 69 = .ok (.goto 11, 3) := by decide +kernel
theorem dX3_goOn_72 : decode cX3_goOn 72 = .ok (.aload_n 0, 1) := by decide +kernel
theorem dX3_goOn_73 : decode cX3_goOn 73 = .ok (.getfield 15, 3) := by decide +kernel
theorem dX3_goOn_76 : decode cX3_goOn 76 = .ok (.iload_n 1, 1) := by decide +kernel
theorem dX3_goOn_77 : decode cX3_goOn 77 = .ok (.iload 5, 2) := by decide +kernel
theorem dX3_goOn_79 : decode cX3_goOn 79 = .ok (.iastore, 1) := by decide +kernel
theorem dX3_goOn_80 : decode cX3_goOn 80 = .ok (.return_, 1) := by decide +kernel
theorem dX3_howMany_0 : decode cX3_howMany 0 = .ok (.iconst 0, 1) := by decide +kernel
theorem dX3_howMany_1 : decode cX3_howMany 1 = .ok (.istore_n 2, 1) := by decide +kernel
theorem dX3_howMany_2 : decode cX3_howMany 2 = .ok (.iconst 0, 1) := by decide +kernel
theorem dX3_howMany_3 : decode cX3_howMany 3 = .ok (.istore_n 3, 1) := by decide +kernel
theorem dX3_howMany_4 : decode cX3_howMany 4 = .ok (.iload_n 3, 1) := by decide +kernel
theorem dX3_howMany_5 : decode cX3_howMany 5 = .ok (.aload_n 0, 1) := by decide +kernel
theorem dX3_howMany_6 : decode cX3_howMany 6 = .ok (.getfield 24, 3) := by decide +kernel
theorem dX3_howMany_9 : decode cX3_howMany 9 = .ok (.if_icmp .ge 28, 3) := by decide +kernel
theorem dX3_howMany_12 : decode cX3_howMany 12 = .ok (.iload_n 3, 1) := by decide +kernel
theorem dX3_howMany_13 : decode cX3_howMany 13 = .ok (.bipush 30, 2) := by decide +kernel
theorem dX3_howMany_15 : decode cX3_howMany 15 = .ok (.if_icmp .ge 22, 3) := by decide +kernel
theorem dX3_howMany_18 : decode cX3_howMany 18 = .ok (.aload_n 0, 1) := by decide +kernel
theorem dX3_howMany_19 : decode cX3_howMany 19 = .ok (.getfield 9, 3) := by decide +kernel
theorem dX3_howMany_22 : decode cX3_howMany 22 = .ok (.iload_n 3, 1) := by decide +kernel
theorem dX3_howMany_23 : decode cX3_howMany 23 = .ok (.iaload, 1) := by decide +kernel
theorem dX3_howMany_24 : decode cX3_howMany 24 = .ok (.iload_n 1, 1) := by decide +kernel
theorem dX3_howMany_25 : decode cX3_howMany 25 = .ok (.if_icmp .ne 6, 3) := by decide +kernel
theorem dX3_howMany_28 : decode cX3_howMany 28 = .ok (.iinc 2 1, 3) := by decide +kernel
theorem dX3_howMany_31 : decode cX3_howMany 31 = .ok (.iinc 3 1, 3) := by decide +kernel
theorem dX3_howMany_34 : decode cX3_howMany 34 = .ok (.goto (-30), 3) := by decide +kernel
theorem dX3_howMany_37 : decode cX3_howMany 37 = .ok (.iload_n 2, 1) := by decide +kernel
theorem dX3_howMany_38 : decode cX3_howMany 38 = .ok (.ireturn, 1) := by decide +kernel
theorem dX3_insideOf_0 : decode cX3_insideOf 0 = .ok (.iconst 0, 1) := by decide +kernel
theorem dX3_insideOf_1 : decode cX3_insideOf 1 = .ok (.istore_n 2, 1) := by decide +kernel
theorem dX3_insideOf_2 : decode cX3_insideOf 2 = .ok (.iconst 0, 1) := by decide +kernel
theorem dX3_insideOf_3 : decode cX3_insideOf 3 = .ok (.istore_n 3, 1) := by decide +kernel
theorem dX3_insideOf_4 : decode cX3_insideOf 4 = .ok (.iload_n 3, 1) := by decide +kernel
theorem dX3_insideOf_5 : decode cX3_insideOf 5 = .ok (.aload_n 0, 1) := by decide +kernel
theorem dX3_insideOf_6 : decode cX3_insideOf 6 = .ok (.getfield 24, 3) := by decide +kernel
theorem dX3_insideOf_9 : decode cX3_insideOf 9 = .ok (.if_icmp .ge 28, 3) := by decide +kernel
theorem dX3_insideOf_12 : decode cX3_insideOf 12 = .ok (.iload_n 3, 1) := by decide +kernel
theorem dX3_insideOf_13 : decode cX3_insideOf 13 = .ok (.bipush 30, 2) := by decide +kernel
theorem dX3_insideOf_15 : decode cX3_insideOf 15 = .ok (.if_icmp .ge 22, 3) := by decide +kernel
theorem dX3_insideOf_18 : decode cX3_insideOf 18 = .ok (.aload_n 0, 1) := by decide +kernel
theorem dX3_insideOf_19 : decode cX3_insideOf 19 = .ok (.getfield 15, 3) := by decide +kernel
theorem dX3_insideOf_22 : decode cX3_insideOf 22 = .ok (.iload_n 3, 1) := by decide +kernel
theorem dX3_insideOf_23 : decode cX3_insideOf 23 = .ok (.iaload, 1) := by decide +kernel
theorem dX3_insideOf_24 : decode cX3_insideOf 24 = .ok (.iload_n 1, 1) := by decide +kernel
theorem dX3_insideOf_25 : decode cX3_insideOf 25 = .ok (.if_icmp .ne 6, 3) := by decide +kernel
theorem dX3_insideOf_28 : decode cX3_insideOf 28 = .ok (.iinc 2 1, 3) := by decide +kernel
theorem dX3_insideOf_31 : decode cX3_insideOf 31 = .ok (.iinc 3 1, 3) := by decide +kernel
theorem dX3_insideOf_34 : decode cX3_insideOf 34 = .ok (.goto (-30), 3) := by decide +kernel
theorem dX3_insideOf_37 : decode cX3_insideOf 37 = .ok (.iload_n 2, 1) := by decide +kernel
theorem dX3_insideOf_38 : decode cX3_insideOf 38 = .ok (.ireturn, 1) := by decide +kernel
set_option maxRecDepth 20000 in
theorem ggX3_stateOf_X3_isPerson : GoodIn wsX3_stateOf wsX3_isPerson := goodIn_r _ [6, 7, 8, 9, 10, 11, 12] (by decide +kernel) (by decide +kernel)
set_option maxRecDepth 20000 in
theorem gX3_stateOf_X3_isPerson : GoodIn wsX3_stateOf (wsV RX3 38 RX3 yX3_isPerson wsX3_isPerson) := goodIn_app (goodIn_of _ (by decide +kernel)) ggX3_stateOf_X3_isPerson
theorem dX3_stateOf_0 : decode cX3_stateOf 0 = .ok (.aload_n 0, 1) := by decide +kernel
theorem dX3_stateOf_1 : decode cX3_stateOf 1 = .ok (.iload_n 1, 1) := by decide +kernel
theorem dX3_stateOf_2 : decode cX3_stateOf 2 = .ok (.invokevirtual 38, 3) := by decide +kernel
theorem dX3_stateOf_5 : decode cX3_stateOf 5 = .ok (.ifCond .eq 12, 3) := by decide +kernel
theorem dX3_stateOf_8 : decode cX3_stateOf 8 = .ok (.aload_n 0, 1) := by decide +kernel
theorem dX3_stateOf_9 : decode cX3_stateOf 9 = .ok (.getfield 9, 3) := by decide +kernel
theorem dX3_stateOf_12 : decode cX3_stateOf 12 = .ok (.iload_n 1, 1) := by decide +kernel
theorem dX3_stateOf_13 : decode cX3_stateOf 13 = .ok (.iaload, 1) := by decide +kernel
theorem dX3_stateOf_14 : decode cX3_stateOf 14 = .ok (.goto 4, 3) := by decide +kernel
theorem dX3_stateOf_17 : decode cX3_stateOf 17 = .ok (.iconst 0, 1) := by decide +kernel
theorem dX3_stateOf_18 : decode cX3_stateOf 18 = .ok (.ireturn, 1) := by decide +kernel
set_option maxRecDepth 20000 in
theorem ggX3_segmentOf_X3_isPerson : GoodIn wsX3_segmentOf wsX3_isPerson := goodIn_r _ [6, 7, 8, 9, 10, 11, 12] (by decide +kernel) (by decide +kernel)
set_option maxRecDepth 20000 in
theorem gX3_segmentOf_X3_isPerson : GoodIn wsX3_segmentOf (wsV RX3 38 RX3 yX3_isPerson wsX3_isPerson) := goodIn_app (goodIn_of _ (by decide +kernel)) ggX3_segmentOf_X3_isPerson
theorem dX3_segmentOf_0 : decode cX3_segmentOf 0 = .ok (.aload_n 0, 1) := by decide +kernel
theorem dX3_segmentOf_1 : decode cX3_segmentOf 1 = .ok (.iload_n 1, 1) := by decide +kernel
theorem dX3_segmentOf_2 : decode cX3_segmentOf 2 = .ok (.invokevirtual 38, 3) := by decide +kernel
theorem dX3_segmentOf_5 : decode cX3_segmentOf 5 = .ok (.ifCond .eq 12, 3) := by decide +kernel
theorem dX3_segmentOf_8 : decode cX3_segmentOf 8 = .ok (.aload_n 0, 1) := by decide +kernel
theorem dX3_segmentOf_9 : decode cX3_segmentOf 9 = .ok (.getfield 15, 3) := by decide +kernel
theorem dX3_segmentOf_12 : decode cX3_segmentOf 12 = .ok (.iload_n 1, 1) := by decide +kernel
theorem dX3_segmentOf_13 : decode cX3_segmentOf 13 = .ok (.iaload, 1) := by decide +kernel
theorem dX3_segmentOf_14 : decode cX3_segmentOf 14 = .ok (.goto 4, 3) := by decide +kernel
theorem dX3_segmentOf_17 : decode cX3_segmentOf 17 = .ok (.iconst (-1), 1) := by decide +kernel
theorem dX3_segmentOf_18 : decode cX3_segmentOf 18 = .ok (.ireturn, 1) := by decide +kernel
set_option maxRecDepth 20000 in
theorem ggX3_endOf_X3_isPerson : GoodIn wsX3_endOf wsX3_isPerson := goodIn_r _ [6, 7, 8, 9, 10, 11, 12] (by decide +kernel) (by decide +kernel)
set_option maxRecDepth 20000 in
theorem gX3_endOf_X3_isPerson : GoodIn wsX3_endOf (wsV RX3 38 RX3 yX3_isPerson wsX3_isPerson) := goodIn_app (goodIn_of _ (by decide +kernel)) ggX3_endOf_X3_isPerson
theorem dX3_endOf_0 : decode cX3_endOf 0 = .ok (.aload_n 0, 1) := by decide +kernel
theorem dX3_endOf_1 : decode cX3_endOf 1 = .ok (.iload_n 1, 1) := by decide +kernel
theorem dX3_endOf_2 : decode cX3_endOf 2 = .ok (.invokevirtual 38, 3) := by decide +kernel
theorem dX3_endOf_5 : decode cX3_endOf 5 = .ok (.ifCond .eq 12, 3) := by decide +kernel
theorem dX3_endOf_8 : decode cX3_endOf 8 = .ok (.aload_n 0, 1) := by decide +kernel
theorem dX3_endOf_9 : decode cX3_endOf 9 = .ok (.getfield 21, 3) := by decide +kernel
theorem dX3_endOf_12 : decode cX3_endOf 12 = .ok (.iload_n 1, 1) := by decide +kernel
theorem dX3_endOf_13 : decode cX3_endOf 13 = .ok (.iaload, 1) := by decide +kernel
theorem dX3_endOf_14 : decode cX3_endOf 14 = .ok (.goto 4, 3) := by decide +kernel
theorem dX3_endOf_17 : decode cX3_endOf 17 = .ok (.iconst (-1), 1) := by decide +kernel
theorem dX3_endOf_18 : decode cX3_endOf 18 = .ok (.ireturn, 1) := by decide +kernel
theorem dX3_isPerson_0 : decode cX3_isPerson 0 = .ok (.iload_n 1, 1) := by decide +kernel
theorem dX3_isPerson_1 : decode cX3_isPerson 1 = .ok (.ifCond .lt 21, 3) := by decide +kernel
theorem dX3_isPerson_4 : decode cX3_isPerson 4 = .ok (.iload_n 1, 1) := by decide +kernel
theorem dX3_isPerson_5 : decode cX3_isPerson 5 = .ok (.aload_n 0, 1) := by decide +kernel
theorem dX3_isPerson_6 : decode cX3_isPerson 6 = .ok (.getfield 24, 3) := by decide +kernel
theorem dX3_isPerson_9 : decode cX3_isPerson 9 = .ok (.if_icmp .ge 13, 3) := by decide +kernel
theorem dX3_isPerson_12 : decode cX3_isPerson 12 = .ok (.iload_n 1, 1) := by decide +kernel
theorem dX3_isPerson_13 : decode cX3_isPerson 13 = .ok (.bipush 30, 2) := by decide +kernel
theorem dX3_isPerson_15 : decode cX3_isPerson 15 = .ok (.if_icmp .ge 7, 3) := by decide +kernel
theorem dX3_isPerson_18 : decode cX3_isPerson 18 = .ok (.iconst 1, 1) := by decide +kernel
theorem dX3_isPerson_19 : decode cX3_isPerson 19 = .ok (.goto 4, 3) := by decide +kernel
theorem dX3_isPerson_22 : decode cX3_isPerson 22 = .ok (.iconst 0, 1) := by decide +kernel
theorem dX3_isPerson_23 : decode cX3_isPerson 23 = .ok (.ireturn, 1) := by decide +kernel
theorem dX3_size_0 : decode cX3_size 0 = .ok (.aload_n 0, 1) := by decide +kernel
theorem dX3_size_1 : decode cX3_size 1 = .ok (.getfield 24, 3) := by decide +kernel
theorem dX3_size_4 : decode cX3_size 4 = .ok (.ireturn, 1) := by decide +kernel
theorem dX4_init_0 : decode cX4_init 0 = .ok (.aload_n 0, 1) := by decide +kernel
theorem dX4_init_1 : decode cX4_init 1 = .ok (.invokespecial 3, 3) := by decide +kernel
theorem dX4_init_4 : decode cX4_init 4 = .ok (.aload_n 0, 1) := by decide +kernel
theorem dX4_init_5 : decode cX4_init 5 = .ok (.bipush 12, 2) := by decide +kernel
theorem dX4_init_7 : decode cX4_init 7 = .ok (.newarray .boolean, 2) := by decide +kernel
theorem dX4_init_9 : decode cX4_init 9 = .ok (.putfield 9, 3) := by decide +kernel
theorem dX4_init_12 : decode cX4_init 12 = .ok (.aload_n 0, 1) := by decide +kernel
theorem dX4_init_13 : decode cX4_init 13 = .ok (.bipush 12, 2) := by decide +kernel
theorem dX4_init_15 : decode cX4_init 15 = .ok (.newarray .boolean, 2) := by decide +kernel
theorem dX4_init_17 : decode cX4_init 17 = .ok (.putfield 15, 3) := by decide +kernel
theorem dX4_init_20 : decode cX4_init 20 = .ok (.aload_n 0, 1) := by decide +kernel
theorem dX4_init_21 : decode cX4_init 21 = .ok (.bipush 12, 2) := by decide +kernel
theorem dX4_init_23 : decode cX4_init 23 = .ok (.newarray .boolean, 2) := by decide +kernel
theorem dX4_init_25 : decode cX4_init 25 = .ok (.putfield 18, 3) := by decide +kernel
theorem dX4_init_28 : decode cX4_init 28 = .ok (.return_, 1) := by decide +kernel
theorem dX4_place_0 : decode cX4_place 0 = .ok (.iconst 0, 1) := by decide +kernel
theorem dX4_place_1 : decode cX4_place 1 = .ok (.istore_n 2, 1) := by decide +kernel
theorem dX4_place_2 : decode cX4_place 2 = .ok (.iload_n 2, 1) := by decide +kernel
theorem dX4_place_3 : decode cX4_place 3 = .ok (.bipush 12, 2) := by decide +kernel
theorem dX4_place_5 : decode cX4_place 5 = .ok (.if_icmp .ge 43, 3) := by decide +kernel
theorem dX4_place_8 : decode cX4_place 8 = .ok (.aload_n 0, 1) := by decide +kernel
theorem dX4_place_9 : decode cX4_place 9 = .ok (.getfield 9, 3) := by decide +kernel
theorem dX4_place_12 : decode cX4_place 12 = .ok (.iload_n 2, 1) := by decide +kernel
theorem dX4_place_13 : decode cX4_place 13 = .ok (.iload_n 1, 1) := by decide +kernel
theorem dX4_place_14 : decode cX4_place 14 = .ok (.iload_n 2, 1) := by decide +kernel
theorem dX4_place_15 : decode cX4_place 15 = .ok (.ishr, 1) := by decide +kernel
theorem dX4_place_16 : decode cX4_place 16 = .ok (.iconst 1, 1) := by decide +kernel
theorem dX4_place_17 : decode cX4_place 17 = .ok (.iand, 1) := by decide +kernel
theorem dX4_place_18 : decode cX4_place 18 = .ok (.iconst 1, 1) := by decide +kernel
theorem dX4_place_19 : decode cX4_place 19 = .ok (.if_icmp .ne 7, 3) := by decide +kernel
theorem dX4_place_22 : decode cX4_place 22 = .ok (.iconst 1, 1) := by decide +kernel
theorem dX4_place_23 : decode cX4_place 23 = .ok (.goto 4, 3) := by decide +kernel
theorem dX4_place_26 : decode cX4_place 26 = .ok (.iconst 0, 1) := by decide +kernel
theorem dX4_place_27 : decode cX4_place 27 = .ok (.bastore, 1) := by decide +kernel
theorem dX4_place_28 : decode cX4_place 28 = .ok (.aload_n 0, 1) := by decide +kernel
theorem dX4_place_29 : decode cX4_place 29 = .ok (.getfield 15, 3) := by decide +kernel
theorem dX4_place_32 : decode cX4_place 32 = .ok (.iload_n 2, 1) := by decide +kernel
theorem dX4_place_33 : decode cX4_place 33 = .ok (.iconst 0, 1) := by decide +kernel
theorem dX4_place_34 : decode cX4_place 34 = .ok (.bastore, 1) := by decide +kernel
theorem dX4_place_35 : decode cX4_place 35 = .ok (.aload_n 0, 1) := by decide +kernel
theorem dX4_place_36 : decode cX4_place 36 = .ok (.getfield 18, 3) := by decide +kernel
theorem dX4_place_39 : decode cX4_place 39 = .ok (.iload_n 2, 1) := by decide +kernel
theorem dX4_place_40 : decode cX4_place 40 = .ok (.iconst 0, 1) := by decide +kernel
theorem dX4_place_41 : decode cX4_place 41 = .ok (.bastore, 1) := by decide +kernel
theorem dX4_place_42 : decode cX4_place 42 = .ok (.iinc 2 1, 3) := by decide +kernel
theorem dX4_place_45 : decode cX4_place 45 = .ok (.goto (-43), 3) := by decide +kernel
theorem dX4_place_48 : decode cX4_place 48 = .ok (.return_, 1) := by decide +kernel
theorem dX4_openAll_0 : decode cX4_openAll 0 = .ok (.iconst 0, 1) := by decide +kernel
theorem dX4_openAll_1 : decode cX4_openAll 1 = .ok (.istore_n 1, 1) := by decide +kernel
theorem dX4_openAll_2 : decode cX4_openAll 2 = .ok (.iload_n 1, 1) := by decide +kernel
theorem dX4_openAll_3 : decode cX4_openAll 3 = .ok (.bipush 12, 2) := by decide +kernel
theorem dX4_openAll_5 : decode cX4_openAll 5 = .ok (.if_icmp .ge 34, 3) := by decide +kernel
theorem dX4_openAll_8 : decode cX4_openAll 8 = .ok (.aload_n 0, 1) := by decide +kernel
theorem dX4_openAll_9 : decode cX4_openAll 9 = .ok (.getfield 9, 3) := by decide +kernel
theorem dX4_openAll_12 : decode cX4_openAll 12 = .ok (.iload_n 1, 1) := by decide +kernel
theorem dX4_openAll_13 : decode cX4_openAll 13 = .ok (.baload, 1) := by decide +kernel
theorem dX4_openAll_14 : decode cX4_openAll 14 = .ok (.ifCond .eq 19, 3) := by decide +kernel
theorem dX4_openAll_17 : decode cX4_openAll 17 = .ok (.aload_n 0, 1) := by decide +kernel
theorem dX4_openAll_18 : decode cX4_openAll 18 = .ok (.getfield 18, 3) := by decide +kernel
theorem dX4_openAll_21 : decode cX4_openAll 21 = .ok (.iload_n 1, 1) := by decide +kernel
theorem dX4_openAll_22 : decode cX4_openAll 22 = .ok (.baload, 1) := by decide +kernel
theorem dX4_openAll_23 : decode cX4_openAll 23 = .ok (.ifCond .ne 10, 3) := by decide +kernel
theorem dX4_openAll_26 : decode cX4_openAll 26 = .ok (.aload_n 0, 1) := by decide +kernel
theorem dX4_openAll_27 : decode cX4_openAll 27 = .ok (.getfield 15, 3) := by decide +kernel
theorem dX4_openAll_30 : decode cX4_openAll 30 = .ok (.iload_n 1, 1) := by decide +kernel
theorem dX4_openAll_31 : decode cX4_openAll 31 = .ok (.iconst 1, 1) := by decide +kernel
theorem dX4_openAll_32 : decode cX4_openAll 32 = .ok (.bastore, 1) := by decide +kernel
theorem dX4_openAll_33 : decode cX4_openAll 33 = .ok (.iinc 1 1, 3) := by decide +kernel
theorem dX4_openAll_36 : decode cX4_openAll 36 = .ok (.goto (-34), 3) := by decide +kernel
theorem dX4_openAll_39 : decode cX4_openAll 39 = .ok (.return_, 1) := by decide +kernel
set_option maxRecDepth 20000 in
theorem ggX4_setFailing_X7_isSegment : GoodIn wsX4_setFailing wsX7_isSegment := goodIn_r _ [4] (by decide +kernel) (by decide +kernel)
set_option maxRecDepth 20000 in
theorem gX4_setFailing_X7_isSegment_n21 : GoodIn wsX4_setFailing (wsX7_isSegment) := ggX4_setFailing_X7_isSegment
theorem dX4_setFailing_0 : decode cX4_setFailing 0 = .ok (.iload_n 1, 1) := by decide +kernel
theorem dX4_setFailing_1 : decode cX4_setFailing 1 = .ok (.invokestatic 21, 3) := by decide +kernel
theorem dX4_setFailing_4 : decode cX4_setFailing 4 = .ok (.ifCond .eq 10, 3) := by decide +kernel
theorem dX4_setFailing_7 : decode cX4_setFailing 7 = .ok (.aload_n 0, 1) := by decide +kernel
theorem dX4_setFailing_8 : decode cX4_setFailing 8 = .ok (.getfield 18, 3) := by decide +kernel
theorem dX4_setFailing_11 : decode cX4_setFailing 11 = .ok (.iload_n 1, 1) := by decide +kernel
theorem dX4_setFailing_12 : decode cX4_setFailing 12 = .ok (.iload_n 2, 1) := by decide +kernel
theorem dX4_setFailing_13 : decode cX4_setFailing 13 = .ok (.bastore, 1) := by decide +kernel
theorem dX4_setFailing_14 : decode cX4_setFailing 14 = .ok (.return_, 1) := by decide +kernel
theorem dX4_nearestWay_0 : decode cX4_nearestWay 0 = .ok (.iconst (-1), 1) := by decide +kernel
theorem dX4_nearestWay_1 : decode cX4_nearestWay 1 = .ok (.istore_n 2, 1) := by decide +kernel
theorem dX4_nearestWay_2 : decode cX4_nearestWay 2 = .ok (.bipush 13, 2) := by decide +kernel
theorem dX4_nearestWay_4 : decode cX4_nearestWay 4 = .ok (.istore_n 3, 1) := by decide +kernel
theorem dX4_nearestWay_5 : decode cX4_nearestWay 5 = .ok (.iconst 0, 1) := by decide +kernel
theorem dX4_nearestWay_6 : decode cX4_nearestWay 6 = .ok (.istore 4, 2) := by decide +kernel
theorem dX4_nearestWay_8 : decode cX4_nearestWay 8 = .ok (.iload 4, 2) := by decide +kernel
theorem dX4_nearestWay_10 : decode cX4_nearestWay 10 = .ok (.bipush 12, 2) := by decide +kernel
theorem dX4_nearestWay_12 : decode cX4_nearestWay 12 = .ok (.if_icmp .ge 40, 3) := by decide +kernel
theorem dX4_nearestWay_15 : decode cX4_nearestWay 15 = .ok (.iload 4, 2) := by decide +kernel
theorem dX4_nearestWay_17 : decode cX4_nearestWay 17 = .ok (.iload_n 1, 1) := by decide +kernel
theorem dX4_nearestWay_18 : decode cX4_nearestWay 18 = .ok (.isub, 1) := by decide +kernel
theorem dX4_nearestWay_19 : decode cX4_nearestWay 19 = .ok (.invokestatic 25, 3) := by decide +kernel
theorem dX4_nearestWay_22 : decode cX4_nearestWay 22 = .ok (.istore 5, 2) := by decide +kernel
theorem dX4_nearestWay_24 : decode cX4_nearestWay 24 = .ok (.aload_n 0, 1) := by decide +kernel
theorem dX4_nearestWay_25 : decode cX4_nearestWay 25 = .ok (.getfield 15, 3) := by decide +kernel
theorem dX4_nearestWay_28 : decode cX4_nearestWay 28 = .ok (.iload 4, 2) := by decide +kernel
theorem dX4_nearestWay_30 : decode cX4_nearestWay 30 = .ok (.baload, 1) := by decide +kernel
theorem dX4_nearestWay_31 : decode cX4_nearestWay 31 = .ok (.ifCond .eq 15, 3) := by decide +kernel
theorem dX4_nearestWay_34 : decode cX4_nearestWay 34 = .ok (.iload 5, 2) := by decide +kernel
theorem dX4_nearestWay_36 : decode cX4_nearestWay 36 = .ok (.iload_n 3, 1) := by decide +kernel
theorem dX4_nearestWay_37 : decode cX4_nearestWay 37 = .ok (.if_icmp .ge 9, 3) := by decide +kernel
theorem dX4_nearestWay_40 : decode cX4_nearestWay 40 = .ok (.iload 4, 2) := by decide +kernel
theorem dX4_nearestWay_42 : decode cX4_nearestWay 42 = .ok (.istore_n 2, 1) := by decide +kernel
theorem dX4_nearestWay_43 : decode cX4_nearestWay 43 = .ok (.iload 5, 2) := by decide +kernel
theorem dX4_nearestWay_45 : decode cX4_nearestWay 45 = .ok (.istore_n 3, 1) := by decide +kernel
theorem dX4_nearestWay_46 : decode cX4_nearestWay 46 = .ok (.iinc 4 1, 3) := by decide +kernel
theorem dX4_nearestWay_49 : decode cX4_nearestWay 49 = .ok (.goto (-41), 3) := by decide +kernel
theorem dX4_nearestWay_52 : decode cX4_nearestWay 52 = .ok (.iload_n 1, 1) := by decide +kernel
theorem dX4_nearestWay_53 : decode cX4_nearestWay 53 = .ok (.iconst 1, 1) := by decide +kernel
theorem dX4_nearestWay_54 : decode cX4_nearestWay 54 = .ok (.iadd, 1) := by decide +kernel
theorem dX4_nearestWay_55 : decode cX4_nearestWay 55 = .ok (.iload_n 3, 1) := by decide +kernel
theorem dX4_nearestWay_56 : decode cX4_nearestWay 56 = .ok (.if_icmp .ge 9, 3) := by decide +kernel
theorem dX4_nearestWay_59 : decode cX4_nearestWay 59 = .ok (.iconst (-1), 1) := by decide +kernel
theorem dX4_nearestWay_60 : decode cX4_nearestWay 60 = .ok (.istore_n 2, 1) := by decide +kernel
theorem dX4_nearestWay_61 : decode cX4_nearestWay 61 = .ok (.iload_n 1, 1) := by decide +kernel
theorem dX4_nearestWay_62 : decode cX4_nearestWay 62 = .ok (.iconst 1, 1) := by decide +kernel
theorem dX4_nearestWay_63 : decode cX4_nearestWay 63 = .ok (.iadd, 1) := by decide +kernel
theorem dX4_nearestWay_64 : decode cX4_nearestWay 64 = .ok (.istore_n 3, 1) := by decide +kernel
theorem dX4_nearestWay_65 : decode cX4_nearestWay 65 = .ok (.bipush 12, 2) := by decide +kernel
theorem dX4_nearestWay_67 : decode cX4_nearestWay 67 = .ok (.iload_n 1, 1) := by decide +kernel
theorem dX4_nearestWay_68 : decode cX4_nearestWay 68 = .ok (.isub, 1) := by decide +kernel
theorem dX4_nearestWay_69 : decode cX4_nearestWay 69 = .ok (.iload_n 3, 1) := by decide +kernel
theorem dX4_nearestWay_70 : decode cX4_nearestWay 70 = .ok (.if_icmp .ge 8, 3) := by decide +kernel
theorem dX4_nearestWay_73 : decode cX4_nearestWay 73 = .ok (.bipush 12, 2) := by decide +kernel
theorem dX4_nearestWay_75 : decode cX4_nearestWay 75 = .ok (.goto 4, 3) := by decide +kernel
theorem dX4_nearestWay_78 : decode cX4_nearestWay 78 = .ok (.iload_n 2, 1) := by decide +kernel
theorem dX4_nearestWay_79 : decode cX4_nearestWay 79 = .ok (.ireturn, 1) := by decide +kernel
set_option maxRecDepth 20000 in
theorem ggX4_isThere_X7_isSegment : GoodIn wsX4_isThere wsX7_isSegment := goodIn_r _ [4] (by decide +kernel) (by decide +kernel)
set_option maxRecDepth 20000 in
theorem gX4_isThere_X7_isSegment_n21 : GoodIn wsX4_isThere (wsX7_isSegment) := ggX4_isThere_X7_isSegment
theorem dX4_isThere_0 : decode cX4_isThere 0 = .ok (.iload_n 1, 1) := by decide +kernel
theorem dX4_isThere_1 : decode cX4_isThere 1 = .ok (.invokestatic 21, 3) := by decide +kernel
theorem dX4_isThere_4 : decode cX4_isThere 4 = .ok (.ifCond .eq 16, 3) := by decide +kernel
theorem dX4_isThere_7 : decode cX4_isThere 7 = .ok (.aload_n 0, 1) := by decide +kernel
theorem dX4_isThere_8 : decode cX4_isThere 8 = .ok (.getfield 9, 3) := by decide +kernel
theorem dX4_isThere_11 : decode cX4_isThere 11 = .ok (.iload_n 1, 1) := by decide +kernel
theorem dX4_isThere_12 : decode cX4_isThere 12 = .ok (.baload, 1) := by decide +kernel
theorem dX4_isThere_13 : decode cX4_isThere 13 = .ok (.ifCond .eq 7, 3) := by decide +kernel
theorem dX4_isThere_16 : decode cX4_isThere 16 = .ok (.iconst 1, 1) := by decide +kernel
theorem dX4_isThere_17 : decode cX4_isThere 17 = .ok (.goto 4, 3) := by decide +kernel
theorem dX4_isThere_20 : decode cX4_isThere 20 = .ok (.iconst 0, 1) := by decide +kernel
theorem dX4_isThere_21 : decode cX4_isThere 21 = .ok (.ireturn, 1) := by decide +kernel
set_option maxRecDepth 20000 in
theorem ggX4_isOpen_X7_isSegment : GoodIn wsX4_isOpen wsX7_isSegment := goodIn_r _ [4] (by decide +kernel) (by decide +kernel)
set_option maxRecDepth 20000 in
theorem gX4_isOpen_X7_isSegment_n21 : GoodIn wsX4_isOpen (wsX7_isSegment) := ggX4_isOpen_X7_isSegment
theorem dX4_isOpen_0 : decode cX4_isOpen 0 = .ok (.iload_n 1, 1) := by decide +kernel
theorem dX4_isOpen_1 : decode cX4_isOpen 1 = .ok (.invokestatic 21, 3) := by decide +kernel
theorem dX4_isOpen_4 : decode cX4_isOpen 4 = .ok (.ifCond .eq 16, 3) := by decide +kernel
theorem dX4_isOpen_7 : decode cX4_isOpen 7 = .ok (.aload_n 0, 1) := by decide +kernel
theorem dX4_isOpen_8 : decode cX4_isOpen 8 = .ok (.getfield 15, 3) := by decide +kernel
theorem dX4_isOpen_11 : decode cX4_isOpen 11 = .ok (.iload_n 1, 1) := by decide +kernel
theorem dX4_isOpen_12 : decode cX4_isOpen 12 = .ok (.baload, 1) := by decide +kernel
theorem dX4_isOpen_13 : decode cX4_isOpen 13 = .ok (.ifCond .eq 7, 3) := by decide +kernel
theorem dX4_isOpen_16 : decode cX4_isOpen 16 = .ok (.iconst 1, 1) := by decide +kernel
theorem dX4_isOpen_17 : decode cX4_isOpen 17 = .ok (.goto 4, 3) := by decide +kernel
theorem dX4_isOpen_20 : decode cX4_isOpen 20 = .ok (.iconst 0, 1) := by decide +kernel
theorem dX4_isOpen_21 : decode cX4_isOpen 21 = .ok (.ireturn, 1) := by decide +kernel
theorem dX5_init_0 : decode cX5_init 0 = .ok (.aload_n 0, 1) := by decide +kernel
theorem dX5_init_1 : decode cX5_init 1 = .ok (.invokespecial 3, 3) := by decide +kernel
theorem dX5_init_4 : decode cX5_init 4 = .ok (.aload_n 0, 1) := by decide +kernel
theorem dX5_init_5 : decode cX5_init 5 = .ok (.iconst 3, 1) := by decide +kernel
theorem dX5_init_6 : decode cX5_init 6 = .ok (.newarray .int, 2) := by decide +kernel
theorem dX5_init_8 : decode cX5_init 8 = .ok (.putfield 9, 3) := by decide +kernel
theorem dX5_init_11 : decode cX5_init 11 = .ok (.aload_n 0, 1) := by decide +kernel
theorem dX5_init_12 : decode cX5_init 12 = .ok (.iconst 3, 1) := by decide +kernel
theorem dX5_init_13 : decode cX5_init 13 = .ok (.newarray .int, 2) := by decide +kernel
theorem dX5_init_15 : decode cX5_init 15 = .ok (.putfield 15, 3) := by decide +kernel
theorem dX5_init_18 : decode cX5_init 18 = .ok (.aload_n 0, 1) := by decide +kernel
theorem dX5_init_19 : decode cX5_init 19 = .ok (.iconst 3, 1) := by decide +kernel
theorem dX5_init_20 : decode cX5_init 20 = .ok (.newarray .boolean, 2) := by decide +kernel
theorem dX5_init_22 : decode cX5_init 22 = .ok (.putfield 18, 3) := by decide +kernel
theorem dX5_init_25 : decode cX5_init 25 = .ok (.return_, 1) := by decide +kernel
set_option maxRecDepth 20000 in
theorem ggX5_turn_X5_oneNearer : GoodIn wsX5_turn wsX5_oneNearer := goodIn_r _ [7, 8, 9, 10, 11] (by decide +kernel) (by decide +kernel)
set_option maxRecDepth 20000 in
theorem gX5_turn_X5_oneNearer : GoodIn wsX5_turn (va_wsS RX5 22 yX5_oneNearer wsX5_oneNearer) := goodIn_app (goodIn_of _ (by decide +kernel)) ggX5_turn_X5_oneNearer
theorem dX5_turn_0 : decode cX5_turn 0 = .ok (.iconst 0, 1) := by decide +kernel
theorem dX5_turn_1 : decode cX5_turn 1 = .ok (.istore_n 2, 1) := by decide +kernel
theorem dX5_turn_2 : decode cX5_turn 2 = .ok (.iload_n 2, 1) := by decide +kernel
theorem dX5_turn_3 : decode cX5_turn 3 = .ok (.iconst 3, 1) := by decide +kernel
theorem dX5_turn_4 : decode cX5_turn 4 = .ok (.if_icmp .ge 47, 3) := by decide +kernel
theorem dX5_turn_7 : decode cX5_turn 7 = .ok (.aload_n 0, 1) := by decide +kernel
theorem dX5_turn_8 : decode cX5_turn 8 = .ok (.getfield 18, 3) := by decide +kernel
theorem dX5_turn_11 : decode cX5_turn 11 = .ok (.iload_n 2, 1) := by decide +kernel
theorem dX5_turn_12 : decode cX5_turn 12 = .ok (.baload, 1) := by decide +kernel
theorem dX5_turn_13 : decode cX5_turn 13 = .ok (.ifCond .ne 32, 3) := by decide +kernel
theorem dX5_turn_16 : decode cX5_turn 16 = .ok (.aload_n 0, 1) := by decide +kernel
theorem dX5_turn_17 : decode cX5_turn 17 = .ok (.getfield 15, 3) := by decide +kernel
theorem dX5_turn_20 : decode cX5_turn 20 = .ok (.iload_n 2, 1) := by decide +kernel
theorem dX5_turn_21 : decode cX5_turn 21 = .ok (.aload_n 0, 1) := by decide +kernel
theorem dX5_turn_22 : decode cX5_turn 22 = .ok (.getfield 15, 3) := by decide +kernel
theorem dX5_turn_25 : decode cX5_turn 25 = .ok (.iload_n 2, 1) := by decide +kernel
theorem dX5_turn_26 : decode cX5_turn 26 = .ok (.iaload, 1) := by decide +kernel
theorem dX5_turn_27 : decode cX5_turn 27 = .ok (.iload_n 1, 1) := by decide +kernel
theorem dX5_turn_28 : decode cX5_turn 28 = .ok (.ifCond .eq 12, 3) := by decide +kernel
theorem dX5_turn_31 : decode cX5_turn 31 = .ok (.aload_n 0, 1) := by decide +kernel
theorem dX5_turn_32 : decode cX5_turn 32 = .ok (.getfield 9, 3) := by decide +kernel
theorem dX5_turn_35 : decode cX5_turn 35 = .ok (.iload_n 2, 1) := by decide +kernel
theorem dX5_turn_36 : decode cX5_turn 36 = .ok (.iaload, 1) := by decide +kernel
theorem dX5_turn_37 : decode cX5_turn 37 = .ok (.goto 4, 3) := by decide +kernel
theorem dX5_turn_40 : decode cX5_turn 40 = .ok (.iconst 0, 1) := by decide +kernel
theorem dX5_turn_41 : decode cX5_turn 41 = .ok (.invokestatic 22, 3) := by decide +kernel
theorem dX5_turn_44 : decode cX5_turn 44 = .ok (.iastore, 1) := by decide +kernel
theorem dX5_turn_45 : decode cX5_turn 45 = .ok (.iinc 2 1, 3) := by decide +kernel
theorem dX5_turn_48 : decode cX5_turn 48 = .ok (.goto (-46), 3) := by decide +kernel
theorem dX5_turn_51 : decode cX5_turn 51 = .ok (.return_, 1) := by decide +kernel
set_option maxRecDepth 20000 in
theorem ggX5_oneNearer_J6_compare_7cf53 : GoodIn wsX5_oneNearer wsJ6_compare_7cf53 := goodIn_r _ [4] (by decide +kernel) (by decide +kernel)
set_option maxRecDepth 20000 in
theorem gX5_oneNearer_J6_compare_7cf53 : GoodIn wsX5_oneNearer (va_wsS RX5 26 yJ6_compare_7cf53 wsJ6_compare_7cf53) := goodIn_app (goodIn_of _ (by decide +kernel)) ggX5_oneNearer_J6_compare_7cf53
theorem dX5_oneNearer_0 : decode cX5_oneNearer 0 = .ok (.iload_n 0, 1) := by decide +kernel
theorem dX5_oneNearer_1 : decode cX5_oneNearer 1 = .ok (.iload_n 1, 1) := by decide +kernel
theorem dX5_oneNearer_2 : decode cX5_oneNearer 2 = .ok (.iload_n 0, 1) := by decide +kernel
theorem dX5_oneNearer_3 : decode cX5_oneNearer 3 = .ok (.invokestatic 26, 3) := by decide +kernel
theorem dX5_oneNearer_6 : decode cX5_oneNearer 6 = .ok (.iadd, 1) := by decide +kernel
theorem dX5_oneNearer_7 : decode cX5_oneNearer 7 = .ok (.ireturn, 1) := by decide +kernel
theorem dX5_push_0 : decode cX5_push 0 = .ok (.iconst 0, 1) := by decide +kernel
theorem dX5_push_1 : decode cX5_push 1 = .ok (.istore_n 1, 1) := by decide +kernel
theorem dX5_push_2 : decode cX5_push 2 = .ok (.iconst 0, 1) := by decide +kernel
theorem dX5_push_3 : decode cX5_push 3 = .ok (.istore_n 2, 1) := by decide +kernel
theorem dX5_push_4 : decode cX5_push 4 = .ok (.iload_n 2, 1) := by decide +kernel
theorem dX5_push_5 : decode cX5_push 5 = .ok (.iconst 3, 1) := by decide +kernel
theorem dX5_push_6 : decode cX5_push 6 = .ok (.if_icmp .ge 18, 3) := by decide +kernel
theorem dX5_push_9 : decode cX5_push 9 = .ok (.iload_n 1, 1) := by decide +kernel
theorem dX5_push_10 : decode cX5_push 10 = .ok (.aload_n 0, 1) := by decide +kernel
theorem dX5_push_11 : decode cX5_push 11 = .ok (.getfield 15, 3) := by decide +kernel
theorem dX5_push_14 : decode cX5_push 14 = .ok (.iload_n 2, 1) := by decide +kernel
theorem dX5_push_15 : decode cX5_push 15 = .ok (.iaload, 1) := by decide +kernel
theorem dX5_push_16 : decode cX5_push 16 = .ok (.iadd, 1) := by decide +kernel
theorem dX5_push_17 : decode cX5_push 17 = .ok (.istore_n 1, 1) := by decide +kernel
theorem dX5_push_18 : decode cX5_push 18 = .ok (.iinc 2 1, 3) := by decide +kernel
theorem dX5_push_21 : decode cX5_push 21 = .ok (.goto (-17), 3) := by decide +kernel
theorem dX5_push_24 : decode cX5_push 24 = .ok (.iload_n 1, 1) := by decide +kernel
theorem dX5_push_25 : decode cX5_push 25 = .ok (.ireturn, 1) := by decide +kernel
set_option maxRecDepth 20000 in
theorem ggX5_order_X5_isFan : GoodIn wsX5_order wsX5_isFan := goodIn_r _ [5] (by decide +kernel) (by decide +kernel)
set_option maxRecDepth 20000 in
theorem gX5_order_X5_isFan : GoodIn wsX5_order (va_wsS RX5 31 yX5_isFan wsX5_isFan) := goodIn_app (goodIn_of _ (by decide +kernel)) ggX5_order_X5_isFan
theorem dX5_order_0 : decode cX5_order 0 = .ok (.iload_n 1, 1) := by decide +kernel
theorem dX5_order_1 : decode cX5_order 1 = .ok (.invokestatic 31, 3) := by decide +kernel
theorem dX5_order_4 : decode cX5_order 4 = .ok (.ifCond .ne 5, 3) := by decide +kernel
theorem dX5_order_7 : decode cX5_order 7 = .ok (.iconst 0, 1) := by decide +kernel
theorem dX5_order_8 : decode cX5_order 8 = .ok (.ireturn, 1) := by decide +kernel
theorem dX5_order_9 : decode cX5_order 9 = .ok (.aload_n 0, 1) := by decide +kernel
theorem dX5_order_10 : decode cX5_order 10 = .ok (.getfield 9, 3) := by decide +kernel
theorem dX5_order_13 : decode cX5_order 13 = .ok (.iload_n 1, 1) := by decide +kernel
theorem dX5_order_14 : decode cX5_order 14 = .ok (.iaload, 1) := by decide +kernel
theorem dX5_order_15 : decode cX5_order 15 = .ok (.istore_n 3, 1) := by decide +kernel
theorem dX5_order_16 : decode cX5_order 16 = .ok (.aload_n 0, 1) := by decide +kernel
theorem dX5_order_17 : decode cX5_order 17 = .ok (.getfield 9, 3) := by decide +kernel
theorem dX5_order_20 : decode cX5_order 20 = .ok (.iload_n 1, 1) := by decide +kernel
theorem dX5_order_21 : decode cX5_order 21 = .ok (.iload_n 2, 1) := by decide +kernel
theorem dX5_order_22 : decode cX5_order 22 = .ok (.iastore, 1) := by decide +kernel
theorem dX5_order_23 : decode cX5_order 23 = .ok (.iload_n 3, 1) := by decide +kernel
theorem dX5_order_24 : decode cX5_order 24 = .ok (.ireturn, 1) := by decide +kernel
theorem dX5_orderAll_0 : decode cX5_orderAll 0 = .ok (.iconst 0, 1) := by decide +kernel
theorem dX5_orderAll_1 : decode cX5_orderAll 1 = .ok (.istore_n 2, 1) := by decide +kernel
theorem dX5_orderAll_2 : decode cX5_orderAll 2 = .ok (.iload_n 2, 1) := by decide +kernel
theorem dX5_orderAll_3 : decode cX5_orderAll 3 = .ok (.iconst 3, 1) := by decide +kernel
theorem dX5_orderAll_4 : decode cX5_orderAll 4 = .ok (.if_icmp .ge 16, 3) := by decide +kernel
theorem dX5_orderAll_7 : decode cX5_orderAll 7 = .ok (.aload_n 0, 1) := by decide +kernel
theorem dX5_orderAll_8 : decode cX5_orderAll 8 = .ok (.getfield 9, 3) := by decide +kernel
theorem dX5_orderAll_11 : decode cX5_orderAll 11 = .ok (.iload_n 2, 1) := by decide +kernel
theorem dX5_orderAll_12 : decode cX5_orderAll 12 = .ok (.iload_n 1, 1) := by decide +kernel
theorem dX5_orderAll_13 : decode cX5_orderAll 13 = .ok (.iastore, 1) := by decide +kernel
theorem dX5_orderAll_14 : decode cX5_orderAll 14 = .ok (.iinc 2 1, 3) := by decide +kernel
theorem dX5_orderAll_17 : decode cX5_orderAll 17 = .ok (.goto (-15), 3) := by decide +kernel
theorem dX5_orderAll_20 : decode cX5_orderAll 20 = .ok (.return_, 1) := by decide +kernel
set_option maxRecDepth 20000 in
theorem ggX5_stateOf_X5_isFan : GoodIn wsX5_stateOf wsX5_isFan := goodIn_r _ [5] (by decide +kernel) (by decide +kernel)
set_option maxRecDepth 20000 in
theorem gX5_stateOf_X5_isFan : GoodIn wsX5_stateOf (va_wsS RX5 31 yX5_isFan wsX5_isFan) := goodIn_app (goodIn_of _ (by decide +kernel)) ggX5_stateOf_X5_isFan
theorem dX5_stateOf_0 : decode cX5_stateOf 0 = .ok (.iload_n 1, 1) := by decide +kernel
theorem dX5_stateOf_1 : decode cX5_stateOf 1 = .ok (.invokestatic 31, 3) := by decide +kernel
theorem dX5_stateOf_4 : decode cX5_stateOf 4 = .ok (.ifCond .eq 12, 3) := by decide +kernel
theorem dX5_stateOf_7 : decode cX5_stateOf 7 = .ok (.aload_n 0, 1) := by decide +kernel
theorem dX5_stateOf_8 : decode cX5_stateOf 8 = .ok (.getfield 15, 3) := by decide +kernel
theorem dX5_stateOf_11 : decode cX5_stateOf 11 = .ok (.iload_n 1, 1) := by decide +kernel
theorem dX5_stateOf_12 : decode cX5_stateOf 12 = .ok (.iaload, 1) := by decide +kernel
theorem dX5_stateOf_13 : decode cX5_stateOf 13 = .ok (.goto 4, 3) := by decide +kernel
theorem dX5_stateOf_16 : decode cX5_stateOf 16 = .ok (.iconst 0, 1) := by decide +kernel
theorem dX5_stateOf_17 : decode cX5_stateOf 17 = .ok (.ireturn, 1) := by decide +kernel
set_option maxRecDepth 20000 in
theorem ggX5_setFailing_X5_isFan : GoodIn wsX5_setFailing wsX5_isFan := goodIn_r _ [5] (by decide +kernel) (by decide +kernel)
set_option maxRecDepth 20000 in
theorem gX5_setFailing_X5_isFan : GoodIn wsX5_setFailing (va_wsS RX5 31 yX5_isFan wsX5_isFan) := goodIn_app (goodIn_of _ (by decide +kernel)) ggX5_setFailing_X5_isFan
theorem dX5_setFailing_0 : decode cX5_setFailing 0 = .ok (.iload_n 1, 1) := by decide +kernel
theorem dX5_setFailing_1 : decode cX5_setFailing 1 = .ok (.invokestatic 31, 3) := by decide +kernel
theorem dX5_setFailing_4 : decode cX5_setFailing 4 = .ok (.ifCond .eq 10, 3) := by decide +kernel
theorem dX5_setFailing_7 : decode cX5_setFailing 7 = .ok (.aload_n 0, 1) := by decide +kernel
theorem dX5_setFailing_8 : decode cX5_setFailing 8 = .ok (.getfield 18, 3) := by decide +kernel
theorem dX5_setFailing_11 : decode cX5_setFailing 11 = .ok (.iload_n 1, 1) := by decide +kernel
theorem dX5_setFailing_12 : decode cX5_setFailing 12 = .ok (.iload_n 2, 1) := by decide +kernel
theorem dX5_setFailing_13 : decode cX5_setFailing 13 = .ok (.bastore, 1) := by decide +kernel
theorem dX5_setFailing_14 : decode cX5_setFailing 14 = .ok (.return_, 1) := by decide +kernel
theorem dX5_isFan_0 : decode cX5_isFan 0 = .ok (.iload_n 0, 1) := by decide +kernel
theorem dX5_isFan_1 : decode cX5_isFan 1 = .ok (.ifCond .lt 12, 3) := by decide +kernel
theorem dX5_isFan_4 : decode cX5_isFan 4 = .ok (.iload_n 0, 1) := by decide +kernel
theorem dX5_isFan_5 : decode cX5_isFan 5 = .ok (.iconst 3, 1) := by decide +kernel
theorem dX5_isFan_6 : decode cX5_isFan 6 = .ok (.if_icmp .ge 7, 3) := by decide +kernel
theorem dX5_isFan_9 : decode cX5_isFan 9 = .ok (.iconst 1, 1) := by decide +kernel
theorem dX5_isFan_10 : decode cX5_isFan 10 = .ok (.goto 4, 3) := by decide +kernel
theorem dX5_isFan_13 : decode cX5_isFan 13 = .ok (.iconst 0, 1) := by decide +kernel
theorem dX5_isFan_14 : decode cX5_isFan 14 = .ok (.ireturn, 1) := by decide +kernel
theorem dX6_init_0 : decode cX6_init 0 = .ok (.aload_n 0, 1) := by decide +kernel
theorem dX6_init_1 : decode cX6_init 1 = .ok (.invokespecial 1, 3) := by decide +kernel
theorem dX6_init_4 : decode cX6_init 4 = .ok (.aload_n 0, 1) := by decide +kernel
theorem dX6_init_5 : decode cX6_init 5 = .ok (.dconst 0, 1) := by decide +kernel
theorem dX6_init_6 : decode cX6_init 6 = .ok (.putfield 7, 3) := by decide +kernel
theorem dX6_init_9 : decode cX6_init 9 = .ok (.aload_n 0, 1) := by decide +kernel
theorem dX6_init_10 : decode cX6_init 10 = .ok (.iconst 0, 1) := by decide +kernel
theorem dX6_init_11 : decode cX6_init 11 = .ok (.putfield 13, 3) := by decide +kernel
theorem dX6_init_14 : decode cX6_init 14 = .ok (.aload_n 0, 1) := by decide +kernel
theorem dX6_init_15 : decode cX6_init 15 = .ok (.iconst 0, 1) := by decide +kernel
theorem dX6_init_16 : decode cX6_init 16 = .ok (.putfield 17, 3) := by decide +kernel
theorem dX6_init_19 : decode cX6_init 19 = .ok (.return_, 1) := by decide +kernel
set_option maxRecDepth 20000 in
theorem ggX6_become_X6_held : GoodIn wsX6_become wsX6_held := goodIn_r _ [10, 11, 12] (by decide +kernel) (by decide +kernel)
set_option maxRecDepth 20000 in
theorem gX6_become_X6_held : GoodIn wsX6_become (va_wsS RX6 25 yX6_held wsX6_held) := goodIn_app (goodIn_of _ (by decide +kernel)) ggX6_become_X6_held
theorem dX6_become_0 : decode cX6_become 0 = .ok (.ldc2_w 21, 3) := by decide +kernel
theorem dX6_become_3 : decode cX6_become 3 = .ok (.iload_n 1, 1) := by decide +kernel
theorem dX6_become_4 : decode cX6_become 4 = .ok (.i2d, 1) := by decide +kernel
theorem dX6_become_5 : decode cX6_become 5 = .ok (.dmul, 1) := by decide +kernel
theorem dX6_become_6 : decode cX6_become 6 = .ok (.aload_n 0, 1) := by decide +kernel
theorem dX6_become_7 : decode cX6_become 7 = .ok (.getfield 13, 3) := by decide +kernel
theorem dX6_become_10 : decode cX6_become 10 = .ok (.i2d, 1) := by decide +kernel
theorem dX6_become_11 : decode cX6_become 11 = .ok (.dadd, 1) := by decide +kernel
theorem dX6_become_12 : decode cX6_become 12 = .ok (.aload_n 0, 1) := by decide +kernel
theorem dX6_become_13 : decode cX6_become 13 = .ok (.getfield 17, 3) := by decide +kernel
theorem dX6_become_16 : decode cX6_become 16 = .ok (.ifCond .eq 7, 3) := by decide +kernel
theorem dX6_become_19 : decode cX6_become 19 = .ok (.dconst 0, 1) := by decide +kernel
theorem dX6_become_20 : decode cX6_become 20 = .ok (.goto 6, 3) := by decide +kernel
theorem dX6_become_23 : decode cX6_become 23 = .ok (.ldc2_w 23, 3) := by decide +kernel
theorem dX6_become_26 : decode cX6_become 26 = .ok (.dadd, 1) := by decide +kernel
theorem dX6_become_27 : decode cX6_become 27 = .ok (.dstore_n 2, 1) := by decide +kernel
theorem dX6_become_28 : decode cX6_become 28 = .ok (.aload_n 0, 1) := by decide +kernel
theorem dX6_become_29 : decode cX6_become 29 = .ok (.aload_n 0, 1) := by decide +kernel
theorem dX6_become_30 : decode cX6_become 30 = .ok (.getfield 7, 3) := by decide +kernel
theorem dX6_become_33 : decode cX6_become 33 = .ok (.dload_n 2, 1) := by decide +kernel
theorem dX6_become_34 : decode cX6_become 34 = .ok (.invokestatic 25, 3) := by decide +kernel
theorem dX6_become_37 : decode cX6_become 37 = .ok (.aload_n 0, 1) := by decide +kernel
theorem dX6_become_38 : decode cX6_become 38 = .ok (.getfield 7, 3) := by decide +kernel
theorem dX6_become_41 : decode cX6_become 41 = .ok (.dsub, 1) := by decide +kernel
theorem dX6_become_42 : decode cX6_become 42 = .ok (.ldc2_w 29, 3) := by decide +kernel
theorem dX6_become_45 : decode cX6_become 45 = .ok (.ddiv, 1) := by decide +kernel
theorem dX6_become_46 : decode cX6_become 46 = .ok (.dadd, 1) := by decide +kernel
theorem dX6_become_47 : decode cX6_become 47 = .ok (.putfield 7, 3) := by decide +kernel
theorem dX6_become_50 : decode cX6_become 50 = .ok (.return_, 1) := by decide +kernel
theorem dX6_held_0 : decode cX6_held 0 = .ok (.dload_n 0, 1) := by decide +kernel
theorem dX6_held_1 : decode cX6_held 1 = .ok (.ldc2_w 31, 3) := by decide +kernel
theorem dX6_held_4 : decode cX6_held 4 = .ok (.dcmp .l, 1) := by decide +kernel
theorem dX6_held_5 : decode cX6_held 5 = .ok (.ifCond .le 7, 3) := by decide +kernel
theorem dX6_held_8 : decode cX6_held 8 = .ok (.ldc2_w 31, 3) := by decide +kernel
theorem dX6_held_11 : decode cX6_held 11 = .ok (.dreturn, 1) := by decide +kernel
theorem dX6_held_12 : decode cX6_held 12 = .ok (.dload_n 0, 1) := by decide +kernel
theorem dX6_held_13 : decode cX6_held 13 = .ok (.ldc2_w 33, 3) := by decide +kernel
theorem dX6_held_16 : decode cX6_held 16 = .ok (.dcmp .g, 1) := by decide +kernel
theorem dX6_held_17 : decode cX6_held 17 = .ok (.ifCond .ge 9, 3) := by decide +kernel
theorem dX6_held_20 : decode cX6_held 20 = .ok (.ldc2_w 33, 3) := by decide +kernel
theorem dX6_held_23 : decode cX6_held 23 = .ok (.goto 4, 3) := by decide +kernel
theorem dX6_held_26 : decode cX6_held 26 = .ok (.dload_n 0, 1) := by decide +kernel
theorem dX6_held_27 : decode cX6_held 27 = .ok (.dreturn, 1) := by decide +kernel
theorem dX6_blow_0 : decode cX6_blow 0 = .ok (.aload_n 0, 1) := by decide +kernel
theorem dX6_blow_1 : decode cX6_blow 1 = .ok (.getfield 13, 3) := by decide +kernel
theorem dX6_blow_4 : decode cX6_blow 4 = .ok (.istore_n 2, 1) := by decide +kernel
theorem dX6_blow_5 : decode cX6_blow 5 = .ok (.aload_n 0, 1) := by decide +kernel
theorem dX6_blow_6 : decode cX6_blow 6 = .ok (.iload_n 1, 1) := by decide +kernel
theorem dX6_blow_7 : decode cX6_blow 7 = .ok (.putfield 13, 3) := by decide +kernel
theorem dX6_blow_10 : decode cX6_blow 10 = .ok (.iload_n 2, 1) := by decide +kernel
theorem dX6_blow_11 : decode cX6_blow 11 = .ok (.ireturn, 1) := by decide +kernel
theorem dX6_stopTraffic_0 : decode cX6_stopTraffic 0 = .ok (.aload_n 0, 1) := by decide +kernel
theorem dX6_stopTraffic_1 : decode cX6_stopTraffic 1 = .ok (.iconst 1, 1) := by decide +kernel
theorem dX6_stopTraffic_2 : decode cX6_stopTraffic 2 = .ok (.putfield 17, 3) := by decide +kernel
theorem dX6_stopTraffic_5 : decode cX6_stopTraffic 5 = .ok (.return_, 1) := by decide +kernel
theorem dX6_speed_0 : decode cX6_speed 0 = .ok (.aload_n 0, 1) := by decide +kernel
theorem dX6_speed_1 : decode cX6_speed 1 = .ok (.getfield 7, 3) := by decide +kernel
theorem dX6_speed_4 : decode cX6_speed 4 = .ok (.dreturn, 1) := by decide +kernel
set_option maxRecDepth 20000 in
theorem ggX7_init_X5_init : GoodIn wsX7_init wsX5_init := goodIn_r _ [41, 42, 2, 3, 43, 44, 45, 32, 46, 92, 93, 94] (by decide +kernel) (by decide +kernel)
set_option maxRecDepth 20000 in
theorem gX7_init_X5_init_n9 : GoodIn wsX7_init (wsX5_init) := ggX7_init_X5_init
set_option maxRecDepth 20000 in
theorem ggX7_init_X6_init : GoodIn wsX7_init wsX6_init := goodIn_r _ [48, 49, 2, 3, 50, 51, 52, 109, 110, 111] (by decide +kernel) (by decide +kernel)
set_option maxRecDepth 20000 in
theorem gX7_init_X6_init_n18 : GoodIn wsX7_init (wsX6_init) := ggX7_init_X6_init
set_option maxRecDepth 20000 in
theorem ggX7_init_X0_init : GoodIn wsX7_init wsX0_init := goodIn_r _ [54, 55, 2, 3, 43, 56, 57, 58, 59, 112, 113, 114, 115] (by decide +kernel) (by decide +kernel)
set_option maxRecDepth 20000 in
theorem gX7_init_X0_init_n25 : GoodIn wsX7_init (wsX0_init) := ggX7_init_X0_init
set_option maxRecDepth 20000 in
theorem ggX7_init_X1_init : GoodIn wsX7_init wsX1_init := goodIn_r _ [61, 62, 2, 3, 63, 64, 65, 66, 67, 68, 116, 117, 118, 119, 120, 121] (by decide +kernel) (by decide +kernel)
set_option maxRecDepth 20000 in
theorem gX7_init_X1_init_n32 : GoodIn wsX7_init (wsX1_init) := ggX7_init_X1_init
set_option maxRecDepth 20000 in
theorem ggX7_init_X4_init : GoodIn wsX7_init wsX4_init := goodIn_r _ [70, 71, 2, 3, 32, 72, 73, 74, 122, 123, 124] (by decide +kernel) (by decide +kernel)
set_option maxRecDepth 20000 in
theorem gX7_init_X4_init_n39 : GoodIn wsX7_init (wsX4_init) := ggX7_init_X4_init
set_option maxRecDepth 20000 in
theorem ggX7_init_X2_init : GoodIn wsX7_init wsX2_init := goodIn_r _ [76, 77, 2, 3, 43, 78, 79, 80, 81, 82, 83, 125, 126, 127, 128, 129, 130] (by decide +kernel) (by decide +kernel)
set_option maxRecDepth 20000 in
theorem gX7_init_X2_init_n46 : GoodIn wsX7_init (wsX2_init) := ggX7_init_X2_init
set_option maxRecDepth 20000 in
theorem ggX7_init_X3_init : GoodIn wsX7_init wsX3_init := goodIn_r _ [85, 86, 2, 3, 43, 87, 88, 89, 90, 91, 131, 132, 133, 134, 135] (by decide +kernel) (by decide +kernel)
set_option maxRecDepth 20000 in
theorem gX7_init_X3_init_n53 : GoodIn wsX7_init (wsX3_init) := ggX7_init_X3_init
theorem dX7_init_0 : decode cX7_init 0 = .ok (.aload_n 0, 1) := by decide +kernel
theorem dX7_init_1 : decode cX7_init 1 = .ok (.invokespecial 1, 3) := by decide +kernel
theorem dX7_init_4 : decode cX7_init 4 = .ok (.aload_n 0, 1) := by decide +kernel
theorem dX7_init_5 : decode cX7_init 5 = .ok (.new 7, 3) := by decide +kernel
theorem dX7_init_8 : decode cX7_init 8 = .ok (.dup, 1) := by decide +kernel
theorem dX7_init_9 : decode cX7_init 9 = .ok (.invokespecial 9, 3) := by decide +kernel
theorem dX7_init_12 : decode cX7_init 12 = .ok (.putfield 10, 3) := by decide +kernel
theorem dX7_init_15 : decode cX7_init 15 = .ok (.aload_n 0, 1) := by decide +kernel
theorem dX7_init_16 : decode cX7_init 16 = .ok (.new 16, 3) := by decide +kernel
theorem dX7_init_19 : decode cX7_init 19 = .ok (.dup, 1) := by decide +kernel
theorem dX7_init_20 : decode cX7_init 20 = .ok (.invokespecial 18, 3) := by decide +kernel
theorem dX7_init_23 : decode cX7_init 23 = .ok (.putfield 19, 3) := by decide +kernel
theorem dX7_init_26 : decode cX7_init 26 = .ok (.aload_n 0, 1) := by decide +kernel
theorem dX7_init_27 : decode cX7_init 27 = .ok (.new 23, 3) := by decide +kernel
theorem dX7_init_30 : decode cX7_init 30 = .ok (.dup, 1) := by decide +kernel
theorem dX7_init_31 : decode cX7_init 31 = .ok (.invokespecial 25, 3) := by decide +kernel
theorem dX7_init_34 : decode cX7_init 34 = .ok (.putfield 26, 3) := by decide +kernel
theorem dX7_init_37 : decode cX7_init 37 = .ok (.aload_n 0, 1) := by decide +kernel
theorem dX7_init_38 : decode cX7_init 38 = .ok (.new 30, 3) := by decide +kernel
theorem dX7_init_41 : decode cX7_init 41 = .ok (.dup, 1) := by decide +kernel
theorem dX7_init_42 : decode cX7_init 42 = .ok (.invokespecial 32, 3) := by decide +kernel
theorem dX7_init_45 : decode cX7_init 45 = .ok (.putfield 33, 3) := by decide +kernel
theorem dX7_init_48 : decode cX7_init 48 = .ok (.aload_n 0, 1) := by decide +kernel
theorem dX7_init_49 : decode cX7_init 49 = .ok (.new 37, 3) := by decide +kernel
theorem dX7_init_52 : decode cX7_init 52 = .ok (.dup, 1) := by decide +kernel
theorem dX7_init_53 : decode cX7_init 53 = .ok (.invokespecial 39, 3) := by decide +kernel
theorem dX7_init_56 : decode cX7_init 56 = .ok (.putfield 40, 3) := by decide +kernel
theorem dX7_init_59 : decode cX7_init 59 = .ok (.aload_n 0, 1) := by decide +kernel
theorem dX7_init_60 : decode cX7_init 60 = .ok (.new 44, 3) := by decide +kernel
theorem dX7_init_63 : decode cX7_init 63 = .ok (.dup, 1) := by decide +kernel
theorem dX7_init_64 : decode cX7_init 64 = .ok (.invokespecial 46, 3) := by decide +kernel
theorem dX7_init_67 : decode cX7_init 67 = .ok (.putfield 47, 3) := by decide +kernel
theorem dX7_init_70 : decode cX7_init 70 = .ok (.aload_n 0, 1) := by decide +kernel
theorem dX7_init_71 : decode cX7_init 71 = .ok (.new 51, 3) := by decide +kernel
theorem dX7_init_74 : decode cX7_init 74 = .ok (.dup, 1) := by decide +kernel
theorem dX7_init_75 : decode cX7_init 75 = .ok (.invokespecial 53, 3) := by decide +kernel
theorem dX7_init_78 : decode cX7_init 78 = .ok (.putfield 54, 3) := by decide +kernel
theorem dX7_init_81 : decode cX7_init 81 = .ok (.aload_n 0, 1) := by decide +kernel
theorem dX7_init_82 : decode cX7_init 82 = .ok (.iconst 2, 1) := by decide +kernel
theorem dX7_init_83 : decode cX7_init 83 = .ok (.newarray .boolean, 2) := by decide +kernel
theorem dX7_init_85 : decode cX7_init 85 = .ok (.putfield 58, 3) := by decide +kernel
theorem dX7_init_88 : decode cX7_init 88 = .ok (.aload_n 0, 1) := by decide +kernel
theorem dX7_init_89 : decode cX7_init 89 = .ok (.bipush 36, 2) := by decide +kernel
theorem dX7_init_91 : decode cX7_init 91 = .ok (.newarray .boolean, 2) := by decide +kernel
theorem dX7_init_93 : decode cX7_init 93 = .ok (.putfield 62, 3) := by decide +kernel
theorem dX7_init_96 : decode cX7_init 96 = .ok (.aload_n 0, 1) := by decide +kernel
theorem dX7_init_97 : decode cX7_init 97 = .ok (.bipush 6, 2) := by decide +kernel
theorem dX7_init_99 : decode cX7_init 99 = .ok (.putfield 65, 3) := by decide +kernel
theorem dX7_init_102 : decode cX7_init 102 = .ok (.aload_n 0, 1) := by decide +kernel
theorem dX7_init_103 : decode cX7_init 103 = .ok (.iconst 0, 1) := by decide +kernel
theorem dX7_init_104 : decode cX7_init 104 = .ok (.putfield 69, 3) := by decide +kernel
theorem dX7_init_107 : decode cX7_init 107 = .ok (.aload_n 0, 1) := by decide +kernel
theorem dX7_init_108 : decode cX7_init 108 = .ok (.iconst 0, 1) := by decide +kernel
theorem dX7_init_109 : decode cX7_init 109 = .ok (.putfield 73, 3) := by decide +kernel
theorem dX7_init_112 : decode cX7_init 112 = .ok (.aload_n 0, 1) := by decide +kernel
theorem dX7_init_113 : decode cX7_init 113 = .ok (.iconst (-1), 1) := by decide +kernel
theorem dX7_init_114 : decode cX7_init 114 = .ok (.putfield 76, 3) := by decide +kernel
theorem dX7_init_117 : decode cX7_init 117 = .ok (.aload_n 0, 1) := by decide +kernel
theorem dX7_init_118 : decode cX7_init 118 = .ok (.iconst 0, 1) := by decide +kernel
theorem dX7_init_119 : decode cX7_init 119 = .ok (.putfield 79, 3) := by decide +kernel
theorem dX7_init_122 : decode cX7_init 122 = .ok (.return_, 1) := by decide +kernel
set_option maxRecDepth 20000 in
theorem ggX7_build_X7_requireSegment : GoodIn wsX7_build wsX7_requireSegment := goodIn_ca (goodIn_r _ [8, 9, 10, 7, 11, 12, 13] (by decide +kernel) (by decide +kernel)) (goodIn_sub (fun _ h => List.mem_cons_of_mem _ (List.mem_append_left _ (List.mem_append_left _ (List.mem_append_right _ h)))) (by decide +kernel))
set_option maxRecDepth 20000 in
theorem gX7_build_X7_requireSegment : GoodIn wsX7_build (va_wsS RX7 82 yX7_requireSegment wsX7_requireSegment) := goodIn_app (goodIn_of _ (by decide +kernel)) ggX7_build_X7_requireSegment
set_option maxRecDepth 20000 in
theorem ggX7_build_X7_requireRange : GoodIn wsX7_build wsX7_requireRange := goodIn_ca (goodIn_r _ [16, 17, 18] (by decide +kernel) (by decide +kernel)) (goodIn_sub (fun _ h => List.mem_cons_of_mem _ (List.mem_append_left _ (List.mem_append_right _ h))) (by decide +kernel))
set_option maxRecDepth 20000 in
theorem gX7_build_X7_requireRange : GoodIn wsX7_build (va_wsS RX7 86 yX7_requireRange wsX7_requireRange) := goodIn_app (goodIn_of _ (by decide +kernel)) ggX7_build_X7_requireRange
set_option maxRecDepth 20000 in
theorem ggX7_build_X7_requireState : GoodIn wsX7_build wsX7_requireState := goodIn_ca (goodIn_r _ [21, 22, 23] (by decide +kernel) (by decide +kernel)) (goodIn_sub (fun _ h => List.mem_cons_of_mem _ (List.mem_append_right _ h)) (by decide +kernel))
set_option maxRecDepth 20000 in
theorem gX7_build_X7_requireState : GoodIn wsX7_build (va_wsS RX7 90 yX7_requireState wsX7_requireState) := goodIn_app (goodIn_of _ (by decide +kernel)) ggX7_build_X7_requireState
set_option maxRecDepth 20000 in
theorem ggX7_build_X4_place : GoodIn wsX7_build wsX4_place := goodIn_r _ [28, 29, 30, 31, 46, 47, 48] (by decide +kernel) (by decide +kernel)
set_option maxRecDepth 20000 in
theorem gX7_build_X4_place : GoodIn wsX7_build (wsV RX7 94 RX4 yX4_place wsX4_place) := goodIn_app (goodIn_of _ (by decide +kernel)) ggX7_build_X4_place
theorem dX7_build_0 : decode cX7_build 0 = .ok (.iload_n 2, 1) := by decide +kernel
theorem dX7_build_1 : decode cX7_build 1 = .ok (.invokestatic 82, 3) := by decide +kernel
theorem dX7_build_4 : decode cX7_build 4 = .ok (.iload_n 1, 1) := by decide +kernel
theorem dX7_build_5 : decode cX7_build 5 = .ok (.iconst 0, 1) := by decide +kernel
theorem dX7_build_6 : decode cX7_build 6 = .ok (.sipush 4095, 3) := by decide +kernel
theorem dX7_build_9 : decode cX7_build 9 = .ok (.invokestatic 86, 3) := by decide +kernel
theorem dX7_build_12 : decode cX7_build 12 = .ok (.aload_n 0, 1) := by decide +kernel
theorem dX7_build_13 : decode cX7_build 13 = .ok (.getfield 79, 3) := by decide +kernel
theorem dX7_build_16 : decode cX7_build 16 = .ok (.ifCond .ne 7, 3) := by decide +kernel
theorem dX7_build_19 : decode cX7_build 19 = .ok (.iconst 1, 1) := by decide +kernel
theorem dX7_build_20 : decode cX7_build 20 = .ok (.goto 4, 3) := by decide +kernel
theorem dX7_build_23 : decode cX7_build 23 = .ok (.iconst 0, 1) := by decide +kernel
theorem dX7_build_24 : decode cX7_build 24 = .ok (.invokestatic 90, 3) := by decide +kernel
theorem dX7_build_27 : decode cX7_build 27 = .ok (.aload_n 0, 1) := by decide +kernel
theorem dX7_build_28 : decode cX7_build 28 = .ok (.getfield 40, 3) := by decide +kernel
theorem dX7_build_31 : decode cX7_build 31 = .ok (.iload_n 1, 1) := by decide +kernel
theorem dX7_build_32 : decode cX7_build 32 = .ok (.invokevirtual 94, 3) := by decide +kernel
theorem dX7_build_35 : decode cX7_build 35 = .ok (.aload_n 0, 1) := by decide +kernel
theorem dX7_build_36 : decode cX7_build 36 = .ok (.iload_n 2, 1) := by decide +kernel
theorem dX7_build_37 : decode cX7_build 37 = .ok (.putfield 65, 3) := by decide +kernel
theorem dX7_build_40 : decode cX7_build 40 = .ok (.aload_n 0, 1) := by decide +kernel
theorem dX7_build_41 : decode cX7_build 41 = .ok (.iconst 0, 1) := by decide +kernel
theorem dX7_build_42 : decode cX7_build 42 = .ok (.putfield 69, 3) := by decide +kernel
theorem dX7_build_45 : decode cX7_build 45 = .ok (.return_, 1) := by decide +kernel
set_option maxRecDepth 20000 in
theorem ggX7_people_X7_requireSegment : GoodIn wsX7_people wsX7_requireSegment := goodIn_ca (goodIn_r _ [5, 6, 7, 4, 8, 9, 10] (by decide +kernel) (by decide +kernel)) (goodIn_sub (fun _ h => List.mem_cons_of_mem _ (List.mem_append_left _ (List.mem_append_left _ (List.mem_append_right _ h)))) (by decide +kernel))
set_option maxRecDepth 20000 in
theorem gX7_people_X7_requireSegment : GoodIn wsX7_people (va_wsS RX7 82 yX7_requireSegment wsX7_requireSegment) := goodIn_app (goodIn_of _ (by decide +kernel)) ggX7_people_X7_requireSegment
set_option maxRecDepth 20000 in
theorem ggX7_people_X7_requireRange : GoodIn wsX7_people wsX7_requireRange := goodIn_ca (goodIn_r _ [13, 14, 15] (by decide +kernel) (by decide +kernel)) (goodIn_sub (fun _ h => List.mem_cons_of_mem _ (List.mem_append_left _ (List.mem_append_right _ h))) (by decide +kernel))
set_option maxRecDepth 20000 in
theorem gX7_people_X7_requireRange : GoodIn wsX7_people (va_wsS RX7 86 yX7_requireRange wsX7_requireRange) := goodIn_app (goodIn_of _ (by decide +kernel)) ggX7_people_X7_requireRange
set_option maxRecDepth 20000 in
theorem ggX7_people_X3_hasRoomFor : GoodIn wsX7_people wsX3_hasRoomFor := goodIn_r _ [20, 21, 52, 53, 54, 55, 56] (by decide +kernel) (by decide +kernel)
set_option maxRecDepth 20000 in
theorem gX7_people_X3_hasRoomFor : GoodIn wsX7_people (wsV RX7 97 RX3 yX3_hasRoomFor wsX3_hasRoomFor) := goodIn_app (goodIn_of _ (by decide +kernel)) ggX7_people_X3_hasRoomFor
set_option maxRecDepth 20000 in
theorem ggX7_people_X7_requireState : GoodIn wsX7_people wsX7_requireState := goodIn_ca (goodIn_r _ [24, 25, 26] (by decide +kernel) (by decide +kernel)) (goodIn_sub (fun _ h => List.mem_cons_of_mem _ (List.mem_append_right _ h)) (by decide +kernel))
set_option maxRecDepth 20000 in
theorem gX7_people_X7_requireState : GoodIn wsX7_people (va_wsS RX7 90 yX7_requireState wsX7_requireState) := goodIn_app (goodIn_of _ (by decide +kernel)) ggX7_people_X7_requireState
set_option maxRecDepth 20000 in
theorem ggX7_people_X3_seat : GoodIn wsX7_people wsX3_seat := goodIn_r _ [30, 21, 31, 32, 33, 52, 53, 54, 55, 56] (by decide +kernel) (by decide +kernel)
set_option maxRecDepth 20000 in
theorem gX7_people_X3_seat : GoodIn wsX7_people (wsV RX7 101 RX3 yX3_seat wsX3_seat) := goodIn_app (goodIn_of _ (by decide +kernel)) ggX7_people_X3_seat
set_option maxRecDepth 20000 in
theorem ggX7_people_X3_size : GoodIn wsX7_people wsX3_size := goodIn_r _ [37, 21, 52, 53, 54, 55, 56] (by decide +kernel) (by decide +kernel)
set_option maxRecDepth 20000 in
theorem gX7_people_X3_size : GoodIn wsX7_people (wsV RX7 105 RX3 yX3_size wsX3_size) := goodIn_app (goodIn_of _ (by decide +kernel)) ggX7_people_X3_size
theorem dX7_people_0 : decode cX7_people 0 = .ok (.iload_n 1, 1) := by decide +kernel
theorem dX7_people_1 : decode cX7_people 1 = .ok (.invokestatic 82, 3) := by decide +kernel
theorem dX7_people_4 : decode cX7_people 4 = .ok (.iload_n 2, 1) := by decide +kernel
theorem dX7_people_5 : decode cX7_people 5 = .ok (.iconst 1, 1) := by decide +kernel
theorem dX7_people_6 : decode cX7_people 6 = .ok (.bipush 30, 2) := by decide +kernel
theorem dX7_people_8 : decode cX7_people 8 = .ok (.invokestatic 86, 3) := by decide +kernel
theorem dX7_people_11 : decode cX7_people 11 = .ok (.aload_n 0, 1) := by decide +kernel
theorem dX7_people_12 : decode cX7_people 12 = .ok (.getfield 54, 3) := by decide +kernel
theorem dX7_people_15 : decode cX7_people 15 = .ok (.iload_n 2, 1) := by decide +kernel
theorem dX7_people_16 : decode cX7_people 16 = .ok (.invokevirtual 97, 3) := by decide +kernel
theorem dX7_people_19 : decode cX7_people 19 = .ok (.invokestatic 90, 3) := by decide +kernel
theorem dX7_people_22 : decode cX7_people 22 = .ok (.aload_n 0, 1) := by decide +kernel
theorem dX7_people_23 : decode cX7_people 23 = .ok (.getfield 54, 3) := by decide +kernel
theorem dX7_people_26 : decode cX7_people 26 = .ok (.iload_n 1, 1) := by decide +kernel
theorem dX7_people_27 : decode cX7_people 27 = .ok (.iload_n 2, 1) := by decide +kernel
theorem dX7_people_28 : decode cX7_people 28 = .ok (.invokevirtual 101, 3) := by decide +kernel
theorem dX7_people_31 : decode cX7_people 31 = .ok (.aload_n 0, 1) := by decide +kernel
theorem dX7_people_32 : decode cX7_people 32 = .ok (.getfield 54, 3) := by decide +kernel
theorem dX7_people_35 : decode cX7_people 35 = .ok (.invokevirtual 105, 3) := by decide +kernel
theorem dX7_people_38 : decode cX7_people 38 = .ok (.ireturn, 1) := by decide +kernel
set_option maxRecDepth 20000 in
theorem ggX7_wind_X7_requireRange : GoodIn wsX7_wind wsX7_requireRange := goodIn_ca (goodIn_r _ [5, 6, 7] (by decide +kernel) (by decide +kernel)) (goodIn_sub (fun _ h => List.mem_cons_of_mem _ (List.mem_append_right _ h)) (by decide +kernel))
set_option maxRecDepth 20000 in
theorem gX7_wind_X7_requireRange : GoodIn wsX7_wind (va_wsS RX7 86 yX7_requireRange wsX7_requireRange) := goodIn_app (goodIn_of _ (by decide +kernel)) ggX7_wind_X7_requireRange
set_option maxRecDepth 20000 in
theorem ggX7_wind_X6_blow : GoodIn wsX7_wind wsX6_blow := goodIn_r _ [12, 13, 28, 29, 30] (by decide +kernel) (by decide +kernel)
set_option maxRecDepth 20000 in
theorem gX7_wind_X6_blow : GoodIn wsX7_wind (wsV RX7 109 RX6 yX6_blow wsX6_blow) := goodIn_app (goodIn_of _ (by decide +kernel)) ggX7_wind_X6_blow
theorem dX7_wind_0 : decode cX7_wind 0 = .ok (.iload_n 1, 1) := by decide +kernel
theorem dX7_wind_1 : decode cX7_wind 1 = .ok (.bipush (-40), 2) := by decide +kernel
theorem dX7_wind_3 : decode cX7_wind 3 = .ok (.bipush 40, 2) := by decide +kernel
theorem dX7_wind_5 : decode cX7_wind 5 = .ok (.invokestatic 86, 3) := by decide +kernel
theorem dX7_wind_8 : decode cX7_wind 8 = .ok (.aload_n 0, 1) := by decide +kernel
theorem dX7_wind_9 : decode cX7_wind 9 = .ok (.getfield 19, 3) := by decide +kernel
theorem dX7_wind_12 : decode cX7_wind 12 = .ok (.iload_n 1, 1) := by decide +kernel
theorem dX7_wind_13 : decode cX7_wind 13 = .ok (.invokevirtual 109, 3) := by decide +kernel
theorem dX7_wind_16 : decode cX7_wind 16 = .ok (.ireturn, 1) := by decide +kernel
set_option maxRecDepth 20000 in
theorem ggX7_fire_X7_requireSegment : GoodIn wsX7_fire wsX7_requireSegment := goodIn_ca (goodIn_r _ [5, 6, 7, 4, 8, 9, 10] (by decide +kernel) (by decide +kernel)) (goodIn_sub (fun _ h => List.mem_cons_of_mem _ (List.mem_append_left _ (List.mem_append_left _ (List.mem_append_right _ h)))) (by decide +kernel))
set_option maxRecDepth 20000 in
theorem gX7_fire_X7_requireSegment : GoodIn wsX7_fire (va_wsS RX7 82 yX7_requireSegment wsX7_requireSegment) := goodIn_app (goodIn_of _ (by decide +kernel)) ggX7_fire_X7_requireSegment
set_option maxRecDepth 20000 in
theorem ggX7_fire_X7_requireRange : GoodIn wsX7_fire wsX7_requireRange := goodIn_ca (goodIn_r _ [13, 14, 15] (by decide +kernel) (by decide +kernel)) (goodIn_sub (fun _ h => List.mem_cons_of_mem _ (List.mem_append_left _ (List.mem_append_right _ h))) (by decide +kernel))
set_option maxRecDepth 20000 in
theorem gX7_fire_X7_requireRange : GoodIn wsX7_fire (va_wsS RX7 86 yX7_requireRange wsX7_requireRange) := goodIn_app (goodIn_of _ (by decide +kernel)) ggX7_fire_X7_requireRange
set_option maxRecDepth 20000 in
theorem ggX7_fire_X1_isBurning : GoodIn wsX7_fire wsX1_isBurning := goodIn_r _ [20, 21, 46, 47, 48, 49, 50, 51] (by decide +kernel) (by decide +kernel)
set_option maxRecDepth 20000 in
theorem gX7_fire_X1_isBurning : GoodIn wsX7_fire (wsV RX7 113 RX1 yX1_isBurning wsX1_isBurning) := goodIn_app (goodIn_of _ (by decide +kernel)) ggX7_fire_X1_isBurning
set_option maxRecDepth 20000 in
theorem ggX7_fire_X7_requireState : GoodIn wsX7_fire wsX7_requireState := goodIn_ca (goodIn_r _ [24, 25, 26] (by decide +kernel) (by decide +kernel)) (goodIn_sub (fun _ h => List.mem_cons_of_mem _ (List.mem_append_right _ h)) (by decide +kernel))
set_option maxRecDepth 20000 in
theorem gX7_fire_X7_requireState : GoodIn wsX7_fire (va_wsS RX7 90 yX7_requireState wsX7_requireState) := goodIn_app (goodIn_of _ (by decide +kernel)) ggX7_fire_X7_requireState
set_option maxRecDepth 20000 in
theorem ggX7_fire_X1_begin : GoodIn wsX7_fire wsX1_begin := goodIn_r _ [30, 21, 31, 46, 47, 48, 49, 50, 51] (by decide +kernel) (by decide +kernel)
set_option maxRecDepth 20000 in
theorem gX7_fire_X1_begin : GoodIn wsX7_fire (wsV RX7 117 RX1 yX1_begin wsX1_begin) := goodIn_app (goodIn_of _ (by decide +kernel)) ggX7_fire_X1_begin
theorem dX7_fire_0 : decode cX7_fire 0 = .ok (.iload_n 1, 1) := by decide +kernel
theorem dX7_fire_1 : decode cX7_fire 1 = .ok (.invokestatic 82, 3) := by decide +kernel
theorem dX7_fire_4 : decode cX7_fire 4 = .ok (.iload_n 2, 1) := by decide +kernel
theorem dX7_fire_5 : decode cX7_fire 5 = .ok (.iconst 1, 1) := by decide +kernel
theorem dX7_fire_6 : decode cX7_fire 6 = .ok (.sipush 200, 3) := by decide +kernel
theorem dX7_fire_9 : decode cX7_fire 9 = .ok (.invokestatic 86, 3) := by decide +kernel
theorem dX7_fire_12 : decode cX7_fire 12 = .ok (.aload_n 0, 1) := by decide +kernel
end
section
theorem dX7_fire_13 : decode cX7_fire 13 = .ok (.getfield 33, 3) := by decide +kernel
theorem dX7_fire_16 : decode cX7_fire 16 = .ok (.invokevirtual 113, 3) := by decide +kernel
theorem dX7_fire_19 : decode cX7_fire 19 = .ok (.ifCond .ne 7, 3) := by decide +kernel
theorem dX7_fire_22 : decode cX7_fire 22 = .ok (.iconst 1, 1) := by decide +kernel
theorem dX7_fire_23 : decode cX7_fire 23 = .ok (.goto 4, 3) := by decide +kernel
theorem dX7_fire_26 : decode cX7_fire 26 = .ok (.iconst 0, 1) := by decide +kernel
theorem dX7_fire_27 : decode cX7_fire 27 = .ok (.invokestatic 90, 3) := by decide +kernel
theorem dX7_fire_30 : decode cX7_fire 30 = .ok (.aload_n 0, 1) := by decide +kernel
theorem dX7_fire_31 : decode cX7_fire 31 = .ok (.getfield 33, 3) := by decide +kernel
theorem dX7_fire_34 : decode cX7_fire 34 = .ok (.iload_n 1, 1) := by decide +kernel
theorem dX7_fire_35 : decode cX7_fire 35 = .ok (.iload_n 2, 1) := by decide +kernel
theorem dX7_fire_36 : decode cX7_fire 36 = .ok (.invokevirtual 117, 3) := by decide +kernel
theorem dX7_fire_39 : decode cX7_fire 39 = .ok (.return_, 1) := by decide +kernel
set_option maxRecDepth 20000 in
theorem ggX7_feed_X7_requireIndex : GoodIn wsX7_feed wsX7_requireIndex := goodIn_ca (goodIn_r _ [5, 6, 7] (by decide +kernel) (by decide +kernel)) (goodIn_sub (fun _ h => List.mem_cons_of_mem _ (List.mem_append_right _ h)) (by decide +kernel))
set_option maxRecDepth 20000 in
theorem gX7_feed_X7_requireIndex : GoodIn wsX7_feed (va_wsS RX7 120 yX7_requireIndex wsX7_requireIndex) := goodIn_app (goodIn_of _ (by decide +kernel)) ggX7_feed_X7_requireIndex
set_option maxRecDepth 20000 in
theorem ggX7_feed_X7_hasPower : GoodIn wsX7_feed wsX7_hasPower := goodIn_r _ [11, 1, 12, 13, 14, 15, 16, 17, 18, 19, 20, 21, 22, 23, 24, 25] (by decide +kernel) (by decide +kernel)
set_option maxRecDepth 20000 in
theorem gX7_feed_X7_hasPower : GoodIn wsX7_feed (wsV RX7 123 RX7 yX7_hasPower wsX7_hasPower) := goodIn_app (goodIn_of _ (by decide +kernel)) ggX7_feed_X7_hasPower
theorem dX7_feed_0 : decode cX7_feed 0 = .ok (.iload_n 1, 1) := by decide +kernel
theorem dX7_feed_1 : decode cX7_feed 1 = .ok (.iconst 2, 1) := by decide +kernel
theorem dX7_feed_2 : decode cX7_feed 2 = .ok (.invokestatic 120, 3) := by decide +kernel
theorem dX7_feed_5 : decode cX7_feed 5 = .ok (.aload_n 0, 1) := by decide +kernel
theorem dX7_feed_6 : decode cX7_feed 6 = .ok (.getfield 58, 3) := by decide +kernel
theorem dX7_feed_9 : decode cX7_feed 9 = .ok (.iload_n 1, 1) := by decide +kernel
theorem dX7_feed_10 : decode cX7_feed 10 = .ok (.iload_n 2, 1) := by decide +kernel
theorem dX7_feed_11 : decode cX7_feed 11 = .ok (.ifCond .ne 7, 3) := by decide +kernel
theorem dX7_feed_14 : decode cX7_feed 14 = .ok (.iconst 1, 1) := by decide +kernel
theorem dX7_feed_15 : decode cX7_feed 15 = .ok (.goto 4, 3) := by decide +kernel
theorem dX7_feed_18 : decode cX7_feed 18 = .ok (.iconst 0, 1) := by decide +kernel
theorem dX7_feed_19 : decode cX7_feed 19 = .ok (.bastore, 1) := by decide +kernel
theorem dX7_feed_20 : decode cX7_feed 20 = .ok (.aload_n 0, 1) := by decide +kernel
theorem dX7_feed_21 : decode cX7_feed 21 = .ok (.invokevirtual 123, 3) := by decide +kernel
theorem dX7_feed_24 : decode cX7_feed 24 = .ok (.ireturn, 1) := by decide +kernel
set_option maxRecDepth 20000 in
theorem ggX7_failFan_X7_requireIndex : GoodIn wsX7_failFan wsX7_requireIndex := goodIn_ca (goodIn_r _ [5, 6, 7] (by decide +kernel) (by decide +kernel)) (goodIn_sub (fun _ h => List.mem_cons_of_mem _ (List.mem_append_right _ h)) (by decide +kernel))
set_option maxRecDepth 20000 in
theorem gX7_failFan_X7_requireIndex : GoodIn wsX7_failFan (va_wsS RX7 120 yX7_requireIndex wsX7_requireIndex) := goodIn_app (goodIn_of _ (by decide +kernel)) ggX7_failFan_X7_requireIndex
set_option maxRecDepth 20000 in
theorem ggX7_failFan_X5_setFailing : GoodIn wsX7_failFan wsX5_setFailing := goodIn_r _ [12, 13, 14, 15, 11, 16, 36, 37, 38] (by decide +kernel) (by decide +kernel)
set_option maxRecDepth 20000 in
theorem gX7_failFan_X5_setFailing : GoodIn wsX7_failFan (wsV RX7 126 RX5 yX5_setFailing wsX5_setFailing) := goodIn_app (goodIn_of _ (by decide +kernel)) ggX7_failFan_X5_setFailing
set_option maxRecDepth 20000 in
theorem ggX7_failFan_X5_stateOf : GoodIn wsX7_failFan wsX5_stateOf := goodIn_r _ [20, 21, 14, 15, 11, 16, 36, 37, 38] (by decide +kernel) (by decide +kernel)
set_option maxRecDepth 20000 in
theorem gX7_failFan_X5_stateOf : GoodIn wsX7_failFan (wsV RX7 130 RX5 yX5_stateOf wsX5_stateOf) := goodIn_app (goodIn_of _ (by decide +kernel)) ggX7_failFan_X5_stateOf
theorem dX7_failFan_0 : decode cX7_failFan 0 = .ok (.iload_n 1, 1) := by decide +kernel
theorem dX7_failFan_1 : decode cX7_failFan 1 = .ok (.iconst 3, 1) := by decide +kernel
theorem dX7_failFan_2 : decode cX7_failFan 2 = .ok (.invokestatic 120, 3) := by decide +kernel
theorem dX7_failFan_5 : decode cX7_failFan 5 = .ok (.aload_n 0, 1) := by decide +kernel
theorem dX7_failFan_6 : decode cX7_failFan 6 = .ok (.getfield 10, 3) := by decide +kernel
theorem dX7_failFan_9 : decode cX7_failFan 9 = .ok (.iload_n 1, 1) := by decide +kernel
theorem dX7_failFan_10 : decode cX7_failFan 10 = .ok (.iload_n 2, 1) := by decide +kernel
theorem dX7_failFan_11 : decode cX7_failFan 11 = .ok (.invokevirtual 126, 3) := by decide +kernel
theorem dX7_failFan_14 : decode cX7_failFan 14 = .ok (.aload_n 0, 1) := by decide +kernel
theorem dX7_failFan_15 : decode cX7_failFan 15 = .ok (.getfield 10, 3) := by decide +kernel
theorem dX7_failFan_18 : decode cX7_failFan 18 = .ok (.iload_n 1, 1) := by decide +kernel
theorem dX7_failFan_19 : decode cX7_failFan 19 = .ok (.invokevirtual 130, 3) := by decide +kernel
theorem dX7_failFan_22 : decode cX7_failFan 22 = .ok (.ireturn, 1) := by decide +kernel
set_option maxRecDepth 20000 in
theorem ggX7_failDoor_X7_requireDoor : GoodIn wsX7_failDoor wsX7_requireDoor := goodIn_ca (goodIn_r _ [6, 7, 8, 1, 9, 10, 11, 12, 13, 14, 15, 5, 16, 27, 28, 29, 30, 31, 32, 33, 34, 35, 36, 37, 38, 39, 40, 41, 42, 43] (by decide +kernel) (by decide +kernel)) (goodIn_sub (fun _ h => List.mem_cons_of_mem _ (List.mem_append_right _ h)) (by decide +kernel))
set_option maxRecDepth 20000 in
theorem gX7_failDoor_X7_requireDoor : GoodIn wsX7_failDoor (wsV RX7 133 RX7 yX7_requireDoor wsX7_requireDoor) := goodIn_app (goodIn_of _ (by decide +kernel)) ggX7_failDoor_X7_requireDoor
set_option maxRecDepth 20000 in
theorem ggX7_failDoor_X4_setFailing : GoodIn wsX7_failDoor wsX4_setFailing := goodIn_r _ [20, 21, 15, 5, 16, 41, 42, 43] (by decide +kernel) (by decide +kernel)
set_option maxRecDepth 20000 in
theorem gX7_failDoor_X4_setFailing : GoodIn wsX7_failDoor (wsV RX7 136 RX4 yX4_setFailing wsX4_setFailing) := goodIn_app (goodIn_of _ (by decide +kernel)) ggX7_failDoor_X4_setFailing
set_option maxRecDepth 20000 in
theorem ggX7_failDoor_X4_isOpen : GoodIn wsX7_failDoor wsX4_isOpen := goodIn_r _ [25, 26, 15, 5, 16, 41, 42, 43] (by decide +kernel) (by decide +kernel)
set_option maxRecDepth 20000 in
theorem gX7_failDoor_X4_isOpen : GoodIn wsX7_failDoor (wsV RX7 137 RX4 yX4_isOpen wsX4_isOpen) := goodIn_app (goodIn_of _ (by decide +kernel)) ggX7_failDoor_X4_isOpen
theorem dX7_failDoor_0 : decode cX7_failDoor 0 = .ok (.aload_n 0, 1) := by decide +kernel
theorem dX7_failDoor_1 : decode cX7_failDoor 1 = .ok (.iload_n 1, 1) := by decide +kernel
theorem dX7_failDoor_2 : decode cX7_failDoor 2 = .ok (.invokevirtual 133, 3) := by decide +kernel
theorem dX7_failDoor_5 : decode cX7_failDoor 5 = .ok (.aload_n 0, 1) := by decide +kernel
theorem dX7_failDoor_6 : decode cX7_failDoor 6 = .ok (.getfield 40, 3) := by decide +kernel
theorem dX7_failDoor_9 : decode cX7_failDoor 9 = .ok (.iload_n 1, 1) := by decide +kernel
theorem dX7_failDoor_10 : decode cX7_failDoor 10 = .ok (.iload_n 2, 1) := by decide +kernel
theorem dX7_failDoor_11 : decode cX7_failDoor 11 = .ok (.invokevirtual 136, 3) := by decide +kernel
theorem dX7_failDoor_14 : decode cX7_failDoor 14 = .ok (.aload_n 0, 1) := by decide +kernel
theorem dX7_failDoor_15 : decode cX7_failDoor 15 = .ok (.getfield 40, 3) := by decide +kernel
theorem dX7_failDoor_18 : decode cX7_failDoor 18 = .ok (.iload_n 1, 1) := by decide +kernel
theorem dX7_failDoor_19 : decode cX7_failDoor 19 = .ok (.invokevirtual 137, 3) := by decide +kernel
theorem dX7_failDoor_22 : decode cX7_failDoor 22 = .ok (.ireturn, 1) := by decide +kernel
set_option maxRecDepth 20000 in
theorem ggX7_failDetector_X7_requireSegment : GoodIn wsX7_failDetector wsX7_requireSegment := goodIn_ca (goodIn_r _ [5, 6, 7, 4, 8, 9, 10] (by decide +kernel) (by decide +kernel)) (goodIn_sub (fun _ h => List.mem_cons_of_mem _ (List.mem_append_right _ h)) (by decide +kernel))
set_option maxRecDepth 20000 in
theorem gX7_failDetector_X7_requireSegment : GoodIn wsX7_failDetector (va_wsS RX7 82 yX7_requireSegment wsX7_requireSegment) := goodIn_app (goodIn_of _ (by decide +kernel)) ggX7_failDetector_X7_requireSegment
set_option maxRecDepth 20000 in
theorem ggX7_failDetector_X7_requireIndex : GoodIn wsX7_failDetector wsX7_requireIndex := goodIn_ca (goodIn_r _ [8, 9, 10] (by decide +kernel) (by decide +kernel)) (goodIn_sub (fun _ h => List.mem_cons_of_mem _ (List.mem_append_right _ h)) (by decide +kernel))
set_option maxRecDepth 20000 in
theorem gX7_failDetector_X7_requireIndex : GoodIn wsX7_failDetector (va_wsS RX7 120 yX7_requireIndex wsX7_requireIndex) := goodIn_app (goodIn_of _ (by decide +kernel)) ggX7_failDetector_X7_requireIndex
theorem dX7_failDetector_0 : decode cX7_failDetector 0 = .ok (.iload_n 1, 1) := by decide +kernel
theorem dX7_failDetector_1 : decode cX7_failDetector 1 = .ok (.invokestatic 82, 3) := by decide +kernel
theorem dX7_failDetector_4 : decode cX7_failDetector 4 = .ok (.iload_n 2, 1) := by decide +kernel
theorem dX7_failDetector_5 : decode cX7_failDetector 5 = .ok (.iconst 3, 1) := by decide +kernel
theorem dX7_failDetector_6 : decode cX7_failDetector 6 = .ok (.invokestatic 120, 3) := by decide +kernel
theorem dX7_failDetector_9 : decode cX7_failDetector 9 = .ok (.aload_n 0, 1) := by decide +kernel
theorem dX7_failDetector_10 : decode cX7_failDetector 10 = .ok (.getfield 62, 3) := by decide +kernel
theorem dX7_failDetector_13 : decode cX7_failDetector 13 = .ok (.iload_n 1, 1) := by decide +kernel
theorem dX7_failDetector_14 : decode cX7_failDetector 14 = .ok (.iconst 3, 1) := by decide +kernel
theorem dX7_failDetector_15 : decode cX7_failDetector 15 = .ok (.imul, 1) := by decide +kernel
theorem dX7_failDetector_16 : decode cX7_failDetector 16 = .ok (.iload_n 2, 1) := by decide +kernel
theorem dX7_failDetector_17 : decode cX7_failDetector 17 = .ok (.iadd, 1) := by decide +kernel
theorem dX7_failDetector_18 : decode cX7_failDetector 18 = .ok (.iload_n 3, 1) := by decide +kernel
theorem dX7_failDetector_19 : decode cX7_failDetector 19 = .ok (.bastore, 1) := by decide +kernel
theorem dX7_failDetector_20 : decode cX7_failDetector 20 = .ok (.return_, 1) := by decide +kernel
set_option maxRecDepth 20000 in
theorem ggX7_act_X7_requireRange : GoodIn wsX7_act wsX7_requireRange := goodIn_ca (goodIn_r _ [6, 7, 8] (by decide +kernel) (by decide +kernel)) (goodIn_sub (fun _ h => List.mem_cons_of_mem _ (List.mem_append_left _ (List.mem_append_right _ h))) (by decide +kernel))
set_option maxRecDepth 20000 in
theorem gX7_act_X7_requireRange : GoodIn wsX7_act (va_wsS RX7 86 yX7_requireRange wsX7_requireRange) := goodIn_app (goodIn_of _ (by decide +kernel)) ggX7_act_X7_requireRange
set_option maxRecDepth 20000 in
theorem ggX7_act_X2_hasRoom : GoodIn wsX7_act wsX2_hasRoom := goodIn_r _ [13, 14, 42, 43, 44, 45, 46, 47] (by decide +kernel) (by decide +kernel)
set_option maxRecDepth 20000 in
theorem gX7_act_X2_hasRoom : GoodIn wsX7_act (wsV RX7 140 RX2 yX2_hasRoom wsX2_hasRoom) := goodIn_app (goodIn_of _ (by decide +kernel)) ggX7_act_X2_hasRoom
set_option maxRecDepth 20000 in
theorem ggX7_act_X7_requireState : GoodIn wsX7_act wsX7_requireState := goodIn_ca (goodIn_r _ [17, 18, 19] (by decide +kernel) (by decide +kernel)) (goodIn_sub (fun _ h => List.mem_cons_of_mem _ (List.mem_append_right _ h)) (by decide +kernel))
set_option maxRecDepth 20000 in
theorem gX7_act_X7_requireState : GoodIn wsX7_act (va_wsS RX7 90 yX7_requireState wsX7_requireState) := goodIn_app (goodIn_of _ (by decide +kernel)) ggX7_act_X7_requireState
set_option maxRecDepth 20000 in
theorem ggX7_act_X2_put : GoodIn wsX7_act wsX2_put := goodIn_r _ [23, 24, 14, 25, 26, 27, 10, 11, 12, 13, 42, 43, 44, 45, 46, 47] (by decide +kernel) (by decide +kernel)
set_option maxRecDepth 20000 in
theorem gX7_act_X2_put : GoodIn wsX7_act (wsV RX7 143 RX2 yX2_put wsX2_put) := goodIn_app (goodIn_of _ (by decide +kernel)) ggX7_act_X2_put
theorem dX7_act_0 : decode cX7_act 0 = .ok (.iload_n 1, 1) := by decide +kernel
theorem dX7_act_1 : decode cX7_act 1 = .ok (.iconst 0, 1) := by decide +kernel
theorem dX7_act_2 : decode cX7_act 2 = .ok (.bipush 7, 2) := by decide +kernel
theorem dX7_act_4 : decode cX7_act 4 = .ok (.invokestatic 86, 3) := by decide +kernel
theorem dX7_act_7 : decode cX7_act 7 = .ok (.iload_n 2, 1) := by decide +kernel
theorem dX7_act_8 : decode cX7_act 8 = .ok (.iconst 0, 1) := by decide +kernel
theorem dX7_act_9 : decode cX7_act 9 = .ok (.bipush 20, 2) := by decide +kernel
theorem dX7_act_11 : decode cX7_act 11 = .ok (.invokestatic 86, 3) := by decide +kernel
theorem dX7_act_14 : decode cX7_act 14 = .ok (.aload_n 0, 1) := by decide +kernel
theorem dX7_act_15 : decode cX7_act 15 = .ok (.getfield 76, 3) := by decide +kernel
theorem dX7_act_18 : decode cX7_act 18 = .ok (.iconst (-1), 1) := by decide +kernel
theorem dX7_act_19 : decode cX7_act 19 = .ok (.if_icmp .ne 17, 3) := by decide +kernel
theorem dX7_act_22 : decode cX7_act 22 = .ok (.aload_n 0, 1) := by decide +kernel
theorem dX7_act_23 : decode cX7_act 23 = .ok (.getfield 47, 3) := by decide +kernel
theorem dX7_act_26 : decode cX7_act 26 = .ok (.invokevirtual 140, 3) := by decide +kernel
theorem dX7_act_29 : decode cX7_act 29 = .ok (.ifCond .eq 7, 3) := by decide +kernel
theorem dX7_act_32 : decode cX7_act 32 = .ok (.iconst 1, 1) := by decide +kernel
theorem dX7_act_33 : decode cX7_act 33 = .ok (.goto 4, 3) := by decide +kernel
theorem dX7_act_36 : decode cX7_act 36 = .ok (.iconst 0, 1) := by decide +kernel
theorem dX7_act_37 : decode cX7_act 37 = .ok (.invokestatic 90, 3) := by decide +kernel
theorem dX7_act_40 : decode cX7_act 40 = .ok (.aload_n 0, 1) := by decide +kernel
theorem dX7_act_41 : decode cX7_act 41 = .ok (.getfield 47, 3) := by decide +kernel
theorem dX7_act_44 : decode cX7_act 44 = .ok (.iload_n 1, 1) := by decide +kernel
theorem dX7_act_45 : decode cX7_act 45 = .ok (.iload_n 2, 1) := by decide +kernel
theorem dX7_act_46 : decode cX7_act 46 = .ok (.iload_n 3, 1) := by decide +kernel
theorem dX7_act_47 : decode cX7_act 47 = .ok (.invokevirtual 143, 3) := by decide +kernel
theorem dX7_act_50 : decode cX7_act 50 = .ok (.ireturn, 1) := by decide +kernel
set_option maxRecDepth 20000 in
theorem ggX7_command_X7_requireIndex : GoodIn wsX7_command wsX7_requireIndex := goodIn_ca (goodIn_r _ [5, 6, 7] (by decide +kernel) (by decide +kernel)) (goodIn_sub (fun _ h => List.mem_cons_of_mem _ (List.mem_append_left _ (List.mem_append_right _ h))) (by decide +kernel))
set_option maxRecDepth 20000 in
theorem gX7_command_X7_requireIndex : GoodIn wsX7_command (va_wsS RX7 120 yX7_requireIndex wsX7_requireIndex) := goodIn_app (goodIn_of _ (by decide +kernel)) ggX7_command_X7_requireIndex
set_option maxRecDepth 20000 in
theorem ggX7_command_X7_requireRange : GoodIn wsX7_command wsX7_requireRange := goodIn_ca (goodIn_r _ [10, 11, 12] (by decide +kernel) (by decide +kernel)) (goodIn_sub (fun _ h => List.mem_cons_of_mem _ (List.mem_append_right _ h)) (by decide +kernel))
set_option maxRecDepth 20000 in
theorem gX7_command_X7_requireRange : GoodIn wsX7_command (va_wsS RX7 86 yX7_requireRange wsX7_requireRange) := goodIn_app (goodIn_of _ (by decide +kernel)) ggX7_command_X7_requireRange
set_option maxRecDepth 20000 in
theorem ggX7_command_X5_order : GoodIn wsX7_command wsX5_order := goodIn_r _ [17, 18, 19, 20, 16, 21, 36, 37, 38] (by decide +kernel) (by decide +kernel)
set_option maxRecDepth 20000 in
theorem gX7_command_X5_order : GoodIn wsX7_command (wsV RX7 147 RX5 yX5_order wsX5_order) := goodIn_app (goodIn_of _ (by decide +kernel)) ggX7_command_X5_order
theorem dX7_command_0 : decode cX7_command 0 = .ok (.iload_n 1, 1) := by decide +kernel
theorem dX7_command_1 : decode cX7_command 1 = .ok (.iconst 3, 1) := by decide +kernel
theorem dX7_command_2 : decode cX7_command 2 = .ok (.invokestatic 120, 3) := by decide +kernel
theorem dX7_command_5 : decode cX7_command 5 = .ok (.iload_n 2, 1) := by decide +kernel
theorem dX7_command_6 : decode cX7_command 6 = .ok (.iconst (-1), 1) := by decide +kernel
theorem dX7_command_7 : decode cX7_command 7 = .ok (.iconst 1, 1) := by decide +kernel
theorem dX7_command_8 : decode cX7_command 8 = .ok (.invokestatic 86, 3) := by decide +kernel
theorem dX7_command_11 : decode cX7_command 11 = .ok (.aload_n 0, 1) := by decide +kernel
theorem dX7_command_12 : decode cX7_command 12 = .ok (.getfield 10, 3) := by decide +kernel
theorem dX7_command_15 : decode cX7_command 15 = .ok (.iload_n 1, 1) := by decide +kernel
theorem dX7_command_16 : decode cX7_command 16 = .ok (.iload_n 2, 1) := by decide +kernel
theorem dX7_command_17 : decode cX7_command 17 = .ok (.invokevirtual 147, 3) := by decide +kernel
theorem dX7_command_20 : decode cX7_command 20 = .ok (.ireturn, 1) := by decide +kernel
set_option maxRecDepth 20000 in
theorem ggX7_step_X7_requireRange : GoodIn wsX7_step wsX7_requireRange := goodIn_ca (goodIn_r _ [5, 6, 7] (by decide +kernel) (by decide +kernel)) (goodIn_sub (fun _ h => List.mem_cons_of_mem _ (List.mem_append_right _ h)) (by decide +kernel))
set_option maxRecDepth 20000 in
theorem gX7_step_X7_requireRange : GoodIn wsX7_step (va_wsS RX7 86 yX7_requireRange wsX7_requireRange) := goodIn_app (goodIn_of _ (by decide +kernel)) ggX7_step_X7_requireRange
set_option maxRecDepth 20000 in
theorem ggX7_step_X7_doStep : GoodIn wsX7_step wsX7_doStep := goodIn_r _ [11, 12, 13, 14, 1, 15, 16, 17, 18, 19, 20, 4, 21, 22, 23, 24, 25, 26, 27, 28, 29, 30, 31, 32, 33, 34, 35, 36, 37, 38, 39, 40, 41, 42, 43, 44, 45, 46, 47, 48, 49, 50, 51, 52, 53, 54, 55, 56, 57, 58, 59, 60, 61, 62, 63, 64, 65, 66, 67, 68, 69, 70, 71, 72, 73, 74, 75, 76, 77, 78, 79, 80, 81, 82, 83, 84, 85, 86, 87, 88, 89, 90, 91, 92, 93, 94, 95, 96, 97, 98, 99, 100, 101, 102, 103, 104, 105, 106, 107, 108, 109, 110, 111, 112, 113, 114, 115, 116, 117, 118, 119, 120, 121, 122, 123, 124, 125, 126, 127, 128, 129, 130, 131, 132, 133, 134, 135, 136, 137, 138, 139, 140, 141, 142, 143, 144, 145, 146, 147, 148, 149, 150, 151, 152, 153, 154, 155, 156, 157, 158, 159, 160, 161, 162, 163, 164, 165, 166, 167, 168, 169, 170, 171, 172, 173, 174, 175, 176, 177, 178, 179, 180, 181, 182, 183, 184, 185, 186, 187, 188, 189, 190, 191, 192, 193, 194, 195, 196, 197, 198, 199, 200, 201, 202, 203, 204, 205, 206, 207, 208, 209, 210, 211, 212, 213, 214, 215, 216, 217, 218, 219, 220, 221, 222, 223, 224, 225, 226, 227, 228, 229, 230, 231, 232, 233, 234, 235, 236, 237, 238, 239, 240, 241, 242, 243, 244, 245, 246, 247, 248, 249, 250, 251, 252, 253, 254, 255, 256, 257, 258, 259, 260, 261, 262, 263, 264, 265, 266, 267, 268, 269, 270, 271, 272, 273, 274, 275, 276, 277, 278, 279, 280, 281, 282, 283, 284, 285, 286, 287, 288] (by decide +kernel) (by decide +kernel)
set_option maxRecDepth 20000 in
theorem gX7_step_X7_doStep : GoodIn wsX7_step (wsV RX7 151 RX7 yX7_doStep wsX7_doStep) := goodIn_app (goodIn_of _ (by decide +kernel)) ggX7_step_X7_doStep
theorem dX7_step_0 : decode cX7_step 0 = .ok (.iload_n 1, 1) := by decide +kernel
theorem dX7_step_1 : decode cX7_step 1 = .ok (.iconst 1, 1) := by decide +kernel
theorem dX7_step_2 : decode cX7_step 2 = .ok (.bipush 100, 2) := by decide +kernel
theorem dX7_step_4 : decode cX7_step 4 = .ok (.invokestatic 86, 3) := by decide +kernel
theorem dX7_step_7 : decode cX7_step 7 = .ok (.iconst 0, 1) := by decide +kernel
theorem dX7_step_8 : decode cX7_step 8 = .ok (.istore_n 2, 1) := by decide +kernel
theorem dX7_step_9 : decode cX7_step 9 = .ok (.iload_n 2, 1) := by decide +kernel
theorem dX7_step_10 : decode cX7_step 10 = .ok (.iload_n 1, 1) := by decide +kernel
theorem dX7_step_11 : decode cX7_step 11 = .ok (.if_icmp .ge 13, 3) := by decide +kernel
theorem dX7_step_14 : decode cX7_step 14 = .ok (.aload_n 0, 1) := by decide +kernel
theorem dX7_step_15 : decode cX7_step 15 = .ok (.invokevirtual 151, 3) := by decide +kernel
theorem dX7_step_18 : decode cX7_step 18 = .ok (.iinc 2 1, 3) := by decide +kernel
theorem dX7_step_21 : decode cX7_step 21 = .ok (.goto (-12), 3) := by decide +kernel
theorem dX7_step_24 : decode cX7_step 24 = .ok (.aload_n 0, 1) := by decide +kernel
theorem dX7_step_25 : decode cX7_step 25 = .ok (.getfield 79, 3) := by decide +kernel
theorem dX7_step_28 : decode cX7_step 28 = .ok (.ireturn, 1) := by decide +kernel
set_option maxRecDepth 20000 in
theorem ggX7_segment_X7_requireSegment : GoodIn wsX7_segment wsX7_requireSegment := goodIn_ca (goodIn_r _ [6, 7, 8, 5, 9, 10, 11] (by decide +kernel) (by decide +kernel)) (goodIn_sub (fun _ h => List.mem_cons_of_mem _ (List.mem_append_left _ (List.mem_append_right _ h))) (by decide +kernel))
set_option maxRecDepth 20000 in
theorem gX7_segment_X7_requireSegment : GoodIn wsX7_segment (va_wsS RX7 82 yX7_requireSegment wsX7_requireSegment) := goodIn_app (goodIn_of _ (by decide +kernel)) ggX7_segment_X7_requireSegment
set_option maxRecDepth 20000 in
theorem ggX7_segment_X7_requireRange : GoodIn wsX7_segment wsX7_requireRange := goodIn_ca (goodIn_r _ [14, 15, 16] (by decide +kernel) (by decide +kernel)) (goodIn_sub (fun _ h => List.mem_cons_of_mem _ (List.mem_append_right _ h)) (by decide +kernel))
set_option maxRecDepth 20000 in
theorem gX7_segment_X7_requireRange : GoodIn wsX7_segment (va_wsS RX7 86 yX7_requireRange wsX7_requireRange) := goodIn_app (goodIn_of _ (by decide +kernel)) ggX7_segment_X7_requireRange
set_option maxRecDepth 20000 in
theorem ggX7_segment_X0_smokeIn : GoodIn wsX7_segment wsX0_smokeIn := goodIn_r _ [21, 22, 23, 5, 24, 76, 77, 78, 79] (by decide +kernel) (by decide +kernel)
set_option maxRecDepth 20000 in
theorem gX7_segment_X0_smokeIn : GoodIn wsX7_segment (wsV RX7 154 RX0 yX0_smokeIn wsX0_smokeIn) := goodIn_app (goodIn_of _ (by decide +kernel)) ggX7_segment_X0_smokeIn
set_option maxRecDepth 20000 in
theorem ggX7_segment_X0_heatIn : GoodIn wsX7_segment wsX0_heatIn := goodIn_r _ [28, 29, 23, 5, 24, 76, 77, 78, 79] (by decide +kernel) (by decide +kernel)
set_option maxRecDepth 20000 in
theorem gX7_segment_X0_heatIn : GoodIn wsX7_segment (wsV RX7 157 RX0 yX0_heatIn wsX0_heatIn) := goodIn_app (goodIn_of _ (by decide +kernel)) ggX7_segment_X0_heatIn
set_option maxRecDepth 20000 in
theorem ggX7_segment_X7_tellingIn : GoodIn wsX7_segment wsX7_tellingIn := goodIn_r _ [33, 1, 2, 17, 18, 19, 20, 21, 22, 23, 5, 24, 25, 26, 27, 28, 29, 34, 35, 36, 37, 38, 39, 40, 41, 42, 43, 44, 45, 62, 63, 64, 65, 66, 67, 68, 69, 70, 71, 72, 73, 74, 75, 76, 77, 78, 79, 80, 81, 82, 83, 84] (by decide +kernel) (by decide +kernel)
set_option maxRecDepth 20000 in
theorem gX7_segment_X7_tellingIn : GoodIn wsX7_segment (wsV RX7 160 RX7 yX7_tellingIn wsX7_tellingIn) := goodIn_app (goodIn_of _ (by decide +kernel)) ggX7_segment_X7_tellingIn
set_option maxRecDepth 20000 in
theorem ggX7_segment_X3_insideOf : GoodIn wsX7_segment wsX3_insideOf := goodIn_r _ [43, 44, 45, 80, 81, 82, 83, 84] (by decide +kernel) (by decide +kernel)
set_option maxRecDepth 20000 in
theorem gX7_segment_X3_insideOf : GoodIn wsX7_segment (wsV RX7 163 RX3 yX3_insideOf wsX3_insideOf) := goodIn_app (goodIn_of _ (by decide +kernel)) ggX7_segment_X3_insideOf
set_option maxRecDepth 20000 in
theorem ggX7_segment_X7_doorAnswer : GoodIn wsX7_segment wsX7_doorAnswer := goodIn_r _ [49, 50, 51, 52, 53, 54, 55, 56, 23, 5, 24, 57, 58, 59, 60, 61, 62, 63, 64, 65, 66, 67, 68, 69, 70, 71, 72, 73, 74, 75, 85, 86, 87] (by decide +kernel) (by decide +kernel)
set_option maxRecDepth 20000 in
theorem gX7_segment_X7_doorAnswer : GoodIn wsX7_segment (wsV RX7 166 RX7 yX7_doorAnswer wsX7_doorAnswer) := goodIn_app (goodIn_of _ (by decide +kernel)) ggX7_segment_X7_doorAnswer
theorem dX7_segment_0 : decode cX7_segment 0 = .ok (.iload_n 1, 1) := by decide +kernel
theorem dX7_segment_1 : decode cX7_segment 1 = .ok (.invokestatic 82, 3) := by decide +kernel
theorem dX7_segment_4 : decode cX7_segment 4 = .ok (.iload_n 2, 1) := by decide +kernel
theorem dX7_segment_5 : decode cX7_segment 5 = .ok (.iconst 0, 1) := by decide +kernel
theorem dX7_segment_6 : decode cX7_segment 6 = .ok (.iconst 4, 1) := by decide +kernel
theorem dX7_segment_7 : decode cX7_segment 7 = .ok (.invokestatic 86, 3) := by decide +kernel
theorem dX7_segment_10 : decode cX7_segment 10 = .ok (.iload_n 2, 1) := by decide +kernel
theorem dX7_segment_11 : decode cX7_segment 11 = .ok (.tableswitch 62 0 3 #[29, 38, 47, 53], 29) := by decide +kernel
theorem dX7_segment_40 : decode cX7_segment 40 = .ok (.aload_n 0, 1) := by decide +kernel
theorem dX7_segment_41 : decode cX7_segment 41 = .ok (.getfield 26, 3) := by decide +kernel
theorem dX7_segment_44 : decode cX7_segment 44 = .ok (.iload_n 1, 1) := by decide +kernel
theorem dX7_segment_45 : decode cX7_segment 45 = .ok (.invokevirtual 154, 3) := by decide +kernel
theorem dX7_segment_48 : decode cX7_segment 48 = .ok (.ireturn, 1) := by decide +kernel
theorem dX7_segment_49 : decode cX7_segment 49 = .ok (.aload_n 0, 1) := by decide +kernel
theorem dX7_segment_50 : decode cX7_segment 50 = .ok (.getfield 26, 3) := by decide +kernel
theorem dX7_segment_53 : decode cX7_segment 53 = .ok (.iload_n 1, 1) := by decide +kernel
theorem dX7_segment_54 : decode cX7_segment 54 = .ok (.invokevirtual 157, 3) := by decide +kernel
theorem dX7_segment_57 : decode cX7_segment 57 = .ok (.ireturn, 1) := by decide +kernel
theorem dX7_segment_58 : decode cX7_segment 58 = .ok (.aload_n 0, 1) := by decide +kernel
theorem dX7_segment_59 : decode cX7_segment 59 = .ok (.iload_n 1, 1) := by decide +kernel
theorem dX7_segment_60 : decode cX7_segment 60 = .ok (.invokevirtual 160, 3) := by decide +kernel
theorem dX7_segment_63 : decode cX7_segment 63 = .ok (.ireturn, 1) := by decide +kernel
theorem dX7_segment_64 : decode cX7_segment 64 = .ok (.aload_n 0, 1) := by decide +kernel
theorem dX7_segment_65 : decode cX7_segment 65 = .ok (.getfield 54, 3) := by decide +kernel
theorem dX7_segment_68 : decode cX7_segment 68 = .ok (.iload_n 1, 1) := by decide +kernel
theorem dX7_segment_69 : decode cX7_segment 69 = .ok (.invokevirtual 163, 3) := by decide +kernel
theorem dX7_segment_72 : decode cX7_segment 72 = .ok (.ireturn, 1) := by decide +kernel
theorem dX7_segment_73 : decode cX7_segment 73 = .ok (.aload_n 0, 1) := by decide +kernel
theorem dX7_segment_74 : decode cX7_segment 74 = .ok (.iload_n 1, 1) := by decide +kernel
theorem dX7_segment_75 : decode cX7_segment 75 = .ok (.invokevirtual 166, 3) := by decide +kernel
theorem dX7_segment_78 : decode cX7_segment 78 = .ok (.ireturn, 1) := by decide +kernel
set_option maxRecDepth 20000 in
theorem ggX7_flow_X6_speed : GoodIn wsX7_flow wsX6_speed := goodIn_r _ [7, 8, 23, 24, 25] (by decide +kernel) (by decide +kernel)
set_option maxRecDepth 20000 in
theorem gX7_flow_X6_speed : GoodIn wsX7_flow (wsV RX7 171 RX6 yX6_speed wsX6_speed) := goodIn_app (goodIn_of _ (by decide +kernel)) ggX7_flow_X6_speed
theorem dX7_flow_0 : decode cX7_flow 0 = .ok (.ldc2_w 169, 3) := by decide +kernel
theorem dX7_flow_3 : decode cX7_flow 3 = .ok (.aload_n 0, 1) := by decide +kernel
theorem dX7_flow_4 : decode cX7_flow 4 = .ok (.getfield 19, 3) := by decide +kernel
theorem dX7_flow_7 : decode cX7_flow 7 = .ok (.invokevirtual 171, 3) := by decide +kernel
theorem dX7_flow_10 : decode cX7_flow 10 = .ok (.dmul, 1) := by decide +kernel
theorem dX7_flow_11 : decode cX7_flow 11 = .ok (.d2i, 1) := by decide +kernel
theorem dX7_flow_12 : decode cX7_flow 12 = .ok (.ireturn, 1) := by decide +kernel
set_option maxRecDepth 20000 in
theorem ggX7_fan_X7_requireIndex : GoodIn wsX7_fan wsX7_requireIndex := goodIn_ca (goodIn_r _ [5, 6, 7] (by decide +kernel) (by decide +kernel)) (goodIn_sub (fun _ h => List.mem_cons_of_mem _ (List.mem_append_right _ h)) (by decide +kernel))
set_option maxRecDepth 20000 in
theorem gX7_fan_X7_requireIndex : GoodIn wsX7_fan (va_wsS RX7 120 yX7_requireIndex wsX7_requireIndex) := goodIn_app (goodIn_of _ (by decide +kernel)) ggX7_fan_X7_requireIndex
set_option maxRecDepth 20000 in
theorem ggX7_fan_X5_stateOf : GoodIn wsX7_fan wsX5_stateOf := goodIn_r _ [12, 13, 14, 15, 11, 16, 31, 32, 33] (by decide +kernel) (by decide +kernel)
set_option maxRecDepth 20000 in
theorem gX7_fan_X5_stateOf : GoodIn wsX7_fan (wsV RX7 130 RX5 yX5_stateOf wsX5_stateOf) := goodIn_app (goodIn_of _ (by decide +kernel)) ggX7_fan_X5_stateOf
theorem dX7_fan_0 : decode cX7_fan 0 = .ok (.iload_n 1, 1) := by decide +kernel
theorem dX7_fan_1 : decode cX7_fan 1 = .ok (.iconst 3, 1) := by decide +kernel
theorem dX7_fan_2 : decode cX7_fan 2 = .ok (.invokestatic 120, 3) := by decide +kernel
theorem dX7_fan_5 : decode cX7_fan 5 = .ok (.aload_n 0, 1) := by decide +kernel
theorem dX7_fan_6 : decode cX7_fan 6 = .ok (.getfield 10, 3) := by decide +kernel
theorem dX7_fan_9 : decode cX7_fan 9 = .ok (.iload_n 1, 1) := by decide +kernel
theorem dX7_fan_10 : decode cX7_fan 10 = .ok (.invokevirtual 130, 3) := by decide +kernel
theorem dX7_fan_13 : decode cX7_fan 13 = .ok (.ireturn, 1) := by decide +kernel
theorem dX7_alarm_0 : decode cX7_alarm 0 = .ok (.aload_n 0, 1) := by decide +kernel
theorem dX7_alarm_1 : decode cX7_alarm 1 = .ok (.getfield 76, 3) := by decide +kernel
theorem dX7_alarm_4 : decode cX7_alarm 4 = .ok (.ireturn, 1) := by decide +kernel
set_option maxRecDepth 20000 in
theorem ggX7_done_X2_size : GoodIn wsX7_done wsX2_size := goodIn_r _ [6, 7, 37, 38, 39, 40, 41, 42] (by decide +kernel) (by decide +kernel)
set_option maxRecDepth 20000 in
theorem gX7_done_X2_size : GoodIn wsX7_done (wsV RX7 175 RX2 yX2_size wsX2_size) := goodIn_app (goodIn_of _ (by decide +kernel)) ggX7_done_X2_size
set_option maxRecDepth 20000 in
theorem ggX7_done_X7_requireIndex : GoodIn wsX7_done wsX7_requireIndex := goodIn_ca (goodIn_r _ [11, 12, 13] (by decide +kernel) (by decide +kernel)) (goodIn_sub (fun _ h => List.mem_cons_of_mem _ (List.mem_append_right _ h)) (by decide +kernel))
set_option maxRecDepth 20000 in
theorem gX7_done_X7_requireIndex : GoodIn wsX7_done (va_wsS RX7 120 yX7_requireIndex wsX7_requireIndex) := goodIn_app (goodIn_of _ (by decide +kernel)) ggX7_done_X7_requireIndex
set_option maxRecDepth 20000 in
theorem ggX7_done_X2_stepOf : GoodIn wsX7_done wsX2_stepOf := goodIn_r _ [17, 18, 19, 20, 21, 5, 22, 7, 37, 38, 39, 40, 41, 42] (by decide +kernel) (by decide +kernel)
set_option maxRecDepth 20000 in
theorem gX7_done_X2_stepOf : GoodIn wsX7_done (wsV RX7 176 RX2 yX2_stepOf wsX2_stepOf) := goodIn_app (goodIn_of _ (by decide +kernel)) ggX7_done_X2_stepOf
theorem dX7_done_0 : decode cX7_done 0 = .ok (.iload_n 1, 1) := by decide +kernel
theorem dX7_done_1 : decode cX7_done 1 = .ok (.aload_n 0, 1) := by decide +kernel
theorem dX7_done_2 : decode cX7_done 2 = .ok (.getfield 47, 3) := by decide +kernel
theorem dX7_done_5 : decode cX7_done 5 = .ok (.invokevirtual 175, 3) := by decide +kernel
theorem dX7_done_8 : decode cX7_done 8 = .ok (.invokestatic 120, 3) := by decide +kernel
theorem dX7_done_11 : decode cX7_done 11 = .ok (.aload_n 0, 1) := by decide +kernel
theorem dX7_done_12 : decode cX7_done 12 = .ok (.getfield 47, 3) := by decide +kernel
theorem dX7_done_15 : decode cX7_done 15 = .ok (.iload_n 1, 1) := by decide +kernel
theorem dX7_done_16 : decode cX7_done 16 = .ok (.invokevirtual 176, 3) := by decide +kernel
theorem dX7_done_19 : decode cX7_done 19 = .ok (.ireturn, 1) := by decide +kernel
set_option maxRecDepth 20000 in
theorem ggX7_person_X3_size : GoodIn wsX7_person wsX3_size := goodIn_r _ [6, 7, 52, 53, 54, 55, 56] (by decide +kernel) (by decide +kernel)
set_option maxRecDepth 20000 in
theorem gX7_person_X3_size : GoodIn wsX7_person (wsV RX7 105 RX3 yX3_size wsX3_size) := goodIn_app (goodIn_of _ (by decide +kernel)) ggX7_person_X3_size
set_option maxRecDepth 20000 in
theorem ggX7_person_X7_requireIndex : GoodIn wsX7_person wsX7_requireIndex := goodIn_ca (goodIn_r _ [11, 12, 13] (by decide +kernel) (by decide +kernel)) (goodIn_sub (fun _ h => List.mem_cons_of_mem _ (List.mem_append_left _ (List.mem_append_right _ h))) (by decide +kernel))
set_option maxRecDepth 20000 in
theorem gX7_person_X7_requireIndex : GoodIn wsX7_person (va_wsS RX7 120 yX7_requireIndex wsX7_requireIndex) := goodIn_app (goodIn_of _ (by decide +kernel)) ggX7_person_X7_requireIndex
set_option maxRecDepth 20000 in
theorem ggX7_person_X7_requireRange : GoodIn wsX7_person wsX7_requireRange := goodIn_ca (goodIn_r _ [16, 17, 18] (by decide +kernel) (by decide +kernel)) (goodIn_sub (fun _ h => List.mem_cons_of_mem _ (List.mem_append_right _ h)) (by decide +kernel))
set_option maxRecDepth 20000 in
theorem gX7_person_X7_requireRange : GoodIn wsX7_person (va_wsS RX7 86 yX7_requireRange wsX7_requireRange) := goodIn_app (goodIn_of _ (by decide +kernel)) ggX7_person_X7_requireRange
set_option maxRecDepth 20000 in
theorem ggX7_person_X3_stateOf : GoodIn wsX7_person wsX3_stateOf := goodIn_r _ [22, 23, 24, 25, 26, 5, 27, 7, 52, 53, 54, 55, 56] (by decide +kernel) (by decide +kernel)
set_option maxRecDepth 20000 in
theorem gX7_person_X3_stateOf : GoodIn wsX7_person (wsV RX7 179 RX3 yX3_stateOf wsX3_stateOf) := goodIn_app (goodIn_of _ (by decide +kernel)) ggX7_person_X3_stateOf
set_option maxRecDepth 20000 in
theorem ggX7_person_X3_segmentOf : GoodIn wsX7_person wsX3_segmentOf := goodIn_r _ [31, 32, 24, 25, 26, 5, 27, 7, 52, 53, 54, 55, 56] (by decide +kernel) (by decide +kernel)
set_option maxRecDepth 20000 in
theorem gX7_person_X3_segmentOf : GoodIn wsX7_person (wsV RX7 180 RX3 yX3_segmentOf wsX3_segmentOf) := goodIn_app (goodIn_of _ (by decide +kernel)) ggX7_person_X3_segmentOf
set_option maxRecDepth 20000 in
theorem ggX7_person_X3_endOf : GoodIn wsX7_person wsX3_endOf := goodIn_r _ [36, 37, 24, 25, 26, 5, 27, 7, 52, 53, 54, 55, 56] (by decide +kernel) (by decide +kernel)
set_option maxRecDepth 20000 in
theorem gX7_person_X3_endOf : GoodIn wsX7_person (wsV RX7 183 RX3 yX3_endOf wsX3_endOf) := goodIn_app (goodIn_of _ (by decide +kernel)) ggX7_person_X3_endOf
theorem dX7_person_0 : decode cX7_person 0 = .ok (.iload_n 1, 1) := by decide +kernel
theorem dX7_person_1 : decode cX7_person 1 = .ok (.aload_n 0, 1) := by decide +kernel
theorem dX7_person_2 : decode cX7_person 2 = .ok (.getfield 54, 3) := by decide +kernel
theorem dX7_person_5 : decode cX7_person 5 = .ok (.invokevirtual 105, 3) := by decide +kernel
theorem dX7_person_8 : decode cX7_person 8 = .ok (.invokestatic 120, 3) := by decide +kernel
theorem dX7_person_11 : decode cX7_person 11 = .ok (.iload_n 2, 1) := by decide +kernel
theorem dX7_person_12 : decode cX7_person 12 = .ok (.iconst 0, 1) := by decide +kernel
theorem dX7_person_13 : decode cX7_person 13 = .ok (.iconst 2, 1) := by decide +kernel
theorem dX7_person_14 : decode cX7_person 14 = .ok (.invokestatic 86, 3) := by decide +kernel
theorem dX7_person_17 : decode cX7_person 17 = .ok (.iload_n 2, 1) := by decide +kernel
theorem dX7_person_18 : decode cX7_person 18 = .ok (.lookupswitch 44 #[(0, 26), (1, 35)], 26) := by decide +kernel
theorem dX7_person_44 : decode cX7_person 44 = .ok (.aload_n 0, 1) := by decide +kernel
theorem dX7_person_45 : decode cX7_person 45 = .ok (.getfield 54, 3) := by decide +kernel
theorem dX7_person_48 : decode cX7_person 48 = .ok (.iload_n 1, 1) := by decide +kernel
theorem dX7_person_49 : decode cX7_person 49 = .ok (.invokevirtual 179, 3) := by decide +kernel
theorem dX7_person_52 : decode cX7_person 52 = .ok (.ireturn, 1) := by decide +kernel
theorem dX7_person_53 : decode cX7_person 53 = .ok (.aload_n 0, 1) := by decide +kernel
theorem dX7_person_54 : decode cX7_person 54 = .ok (.getfield 54, 3) := by decide +kernel
theorem dX7_person_57 : decode cX7_person 57 = .ok (.iload_n 1, 1) := by decide +kernel
theorem dX7_person_58 : decode cX7_person 58 = .ok (.invokevirtual 180, 3) := by decide +kernel
theorem dX7_person_61 : decode cX7_person 61 = .ok (.ireturn, 1) := by decide +kernel
theorem dX7_person_62 : decode cX7_person 62 = .ok (.aload_n 0, 1) := by decide +kernel
theorem dX7_person_63 : decode cX7_person 63 = .ok (.getfield 54, 3) := by decide +kernel
theorem dX7_person_66 : decode cX7_person 66 = .ok (.iload_n 1, 1) := by decide +kernel
theorem dX7_person_67 : decode cX7_person 67 = .ok (.invokevirtual 183, 3) := by decide +kernel
theorem dX7_person_70 : decode cX7_person 70 = .ok (.ireturn, 1) := by decide +kernel
set_option maxRecDepth 20000 in
theorem ggX7_count_X7_requireRange : GoodIn wsX7_count wsX7_requireRange := goodIn_ca (goodIn_r _ [5, 6, 7] (by decide +kernel) (by decide +kernel)) (goodIn_sub (fun _ h => List.mem_cons_of_mem _ (List.mem_append_right _ h)) (by decide +kernel))
set_option maxRecDepth 20000 in
theorem gX7_count_X7_requireRange : GoodIn wsX7_count (va_wsS RX7 86 yX7_requireRange wsX7_requireRange) := goodIn_app (goodIn_of _ (by decide +kernel)) ggX7_count_X7_requireRange
set_option maxRecDepth 20000 in
theorem ggX7_count_X3_howMany : GoodIn wsX7_count wsX3_howMany := goodIn_r _ [12, 13, 14, 29, 30, 31, 32, 33] (by decide +kernel) (by decide +kernel)
set_option maxRecDepth 20000 in
theorem gX7_count_X3_howMany : GoodIn wsX7_count (wsV RX7 186 RX3 yX3_howMany wsX3_howMany) := goodIn_app (goodIn_of _ (by decide +kernel)) ggX7_count_X3_howMany
theorem dX7_count_0 : decode cX7_count 0 = .ok (.iload_n 1, 1) := by decide +kernel
theorem dX7_count_1 : decode cX7_count 1 = .ok (.iconst 0, 1) := by decide +kernel
theorem dX7_count_2 : decode cX7_count 2 = .ok (.iconst 4, 1) := by decide +kernel
theorem dX7_count_3 : decode cX7_count 3 = .ok (.invokestatic 86, 3) := by decide +kernel
theorem dX7_count_6 : decode cX7_count 6 = .ok (.aload_n 0, 1) := by decide +kernel
theorem dX7_count_7 : decode cX7_count 7 = .ok (.getfield 54, 3) := by decide +kernel
theorem dX7_count_10 : decode cX7_count 10 = .ok (.iload_n 1, 1) := by decide +kernel
theorem dX7_count_11 : decode cX7_count 11 = .ok (.invokevirtual 186, 3) := by decide +kernel
theorem dX7_count_14 : decode cX7_count 14 = .ok (.ireturn, 1) := by decide +kernel
set_option maxRecDepth 20000 in
theorem ggX7_gone_X0_lost : GoodIn wsX7_gone wsX0_lost := goodIn_r _ [6, 7, 22, 23, 24, 25] (by decide +kernel) (by decide +kernel)
set_option maxRecDepth 20000 in
theorem gX7_gone_X0_lost : GoodIn wsX7_gone (wsV RX7 189 RX0 yX0_lost wsX0_lost) := goodIn_app (goodIn_of _ (by decide +kernel)) ggX7_gone_X0_lost
theorem dX7_gone_0 : decode cX7_gone 0 = .ok (.aload_n 0, 1) := by decide +kernel
theorem dX7_gone_1 : decode cX7_gone 1 = .ok (.getfield 26, 3) := by decide +kernel
theorem dX7_gone_4 : decode cX7_gone 4 = .ok (.invokevirtual 189, 3) := by decide +kernel
theorem dX7_gone_7 : decode cX7_gone 7 = .ok (.ireturn, 1) := by decide +kernel
set_option maxRecDepth 20000 in
theorem ggX7_balances_X3_howMany : GoodIn wsX7_balances wsX3_howMany := goodIn_r _ [8, 9, 10, 46, 47, 48, 49, 50] (by decide +kernel) (by decide +kernel)
set_option maxRecDepth 20000 in
theorem gX7_balances_X3_howMany : GoodIn wsX7_balances (wsV RX7 186 RX3 yX3_howMany wsX3_howMany) := goodIn_app (goodIn_of _ (by decide +kernel)) ggX7_balances_X3_howMany
set_option maxRecDepth 20000 in
theorem ggX7_balances_X3_size : GoodIn wsX7_balances wsX3_size := goodIn_r _ [14, 9, 46, 47, 48, 49, 50] (by decide +kernel) (by decide +kernel)
set_option maxRecDepth 20000 in
theorem gX7_balances_X3_size : GoodIn wsX7_balances (wsV RX7 105 RX3 yX3_size wsX3_size) := goodIn_app (goodIn_of _ (by decide +kernel)) ggX7_balances_X3_size
set_option maxRecDepth 20000 in
theorem ggX7_balances_X0_allSmoke : GoodIn wsX7_balances wsX0_allSmoke := goodIn_r _ [19, 20, 51, 52, 53, 54] (by decide +kernel) (by decide +kernel)
set_option maxRecDepth 20000 in
theorem gX7_balances_X0_allSmoke : GoodIn wsX7_balances (wsV RX7 192 RX0 yX0_allSmoke wsX0_allSmoke) := goodIn_app (goodIn_of _ (by decide +kernel)) ggX7_balances_X0_allSmoke
set_option maxRecDepth 20000 in
theorem ggX7_balances_X0_lost : GoodIn wsX7_balances wsX0_lost := goodIn_r _ [24, 25, 51, 52, 53, 54] (by decide +kernel) (by decide +kernel)
set_option maxRecDepth 20000 in
theorem gX7_balances_X0_lost : GoodIn wsX7_balances (wsV RX7 189 RX0 yX0_lost wsX0_lost) := goodIn_app (goodIn_of _ (by decide +kernel)) ggX7_balances_X0_lost
set_option maxRecDepth 20000 in
theorem ggX7_balances_X1_allMade : GoodIn wsX7_balances wsX1_allMade := goodIn_r _ [30, 31, 55, 56, 57, 58, 59, 60] (by decide +kernel) (by decide +kernel)
set_option maxRecDepth 20000 in
theorem gX7_balances_X1_allMade : GoodIn wsX7_balances (wsV RX7 195 RX1 yX1_allMade wsX1_allMade) := goodIn_app (goodIn_of _ (by decide +kernel)) ggX7_balances_X1_allMade
theorem dX7_balances_0 : decode cX7_balances 0 = .ok (.iconst 0, 1) := by decide +kernel
theorem dX7_balances_1 : decode cX7_balances 1 = .ok (.istore_n 1, 1) := by decide +kernel
theorem dX7_balances_2 : decode cX7_balances 2 = .ok (.iconst 0, 1) := by decide +kernel
theorem dX7_balances_3 : decode cX7_balances 3 = .ok (.istore_n 2, 1) := by decide +kernel
theorem dX7_balances_4 : decode cX7_balances 4 = .ok (.iload_n 2, 1) := by decide +kernel
theorem dX7_balances_5 : decode cX7_balances 5 = .ok (.iconst 4, 1) := by decide +kernel
theorem dX7_balances_6 : decode cX7_balances 6 = .ok (.if_icmp .gt 20, 3) := by decide +kernel
theorem dX7_balances_9 : decode cX7_balances 9 = .ok (.iload_n 1, 1) := by decide +kernel
theorem dX7_balances_10 : decode cX7_balances 10 = .ok (.aload_n 0, 1) := by decide +kernel
theorem dX7_balances_11 : decode cX7_balances 11 = .ok (.getfield 54, 3) := by decide +kernel
theorem dX7_balances_14 : decode cX7_balances 14 = .ok (.iload_n 2, 1) := by decide +kernel
theorem dX7_balances_15 : decode cX7_balances 15 = .ok (.invokevirtual 186, 3) := by decide +kernel
theorem dX7_balances_18 : decode cX7_balances 18 = .ok (.iadd, 1) := by decide +kernel
theorem dX7_balances_19 : decode cX7_balances 19 = .ok (.istore_n 1, 1) := by decide +kernel
theorem dX7_balances_20 : decode cX7_balances 20 = .ok (.iinc 2 1, 3) := by decide +kernel
theorem dX7_balances_23 : decode cX7_balances 23 = .ok (.goto (-19), 3) := by decide +kernel
theorem dX7_balances_26 : decode cX7_balances 26 = .ok (.iload_n 1, 1) := by decide +kernel
theorem dX7_balances_27 : decode cX7_balances 27 = .ok (.aload_n 0, 1) := by decide +kernel
theorem dX7_balances_28 : decode cX7_balances 28 = .ok (.getfield 54, 3) := by decide +kernel
theorem dX7_balances_31 : decode cX7_balances 31 = .ok (.invokevirtual 105, 3) := by decide +kernel
theorem dX7_balances_34 : decode cX7_balances 34 = .ok (.if_icmp .ne 32, 3) := by decide +kernel
theorem dX7_balances_37 : decode cX7_balances 37 = .ok (.aload_n 0, 1) := by decide +kernel
theorem dX7_balances_38 : decode cX7_balances 38 = .ok (.getfield 26, 3) := by decide +kernel
theorem dX7_balances_41 : decode cX7_balances 41 = .ok (.invokevirtual 192, 3) := by decide +kernel
theorem dX7_balances_44 : decode cX7_balances 44 = .ok (.aload_n 0, 1) := by decide +kernel
theorem dX7_balances_45 : decode cX7_balances 45 = .ok (.getfield 26, 3) := by decide +kernel
theorem dX7_balances_48 : decode cX7_balances 48 = .ok (.invokevirtual 189, 3) := by decide +kernel
theorem dX7_balances_51 : decode cX7_balances 51 = .ok (.iadd, 1) := by decide +kernel
theorem dX7_balances_52 : decode cX7_balances 52 = .ok (.aload_n 0, 1) := by decide +kernel
theorem dX7_balances_53 : decode cX7_balances 53 = .ok (.getfield 33, 3) := by decide +kernel
theorem dX7_balances_56 : decode cX7_balances 56 = .ok (.invokevirtual 195, 3) := by decide +kernel
theorem dX7_balances_59 : decode cX7_balances 59 = .ok (.if_icmp .ne 7, 3) := by decide +kernel
theorem dX7_balances_62 : decode cX7_balances 62 = .ok (.iconst 1, 1) := by decide +kernel
theorem dX7_balances_63 : decode cX7_balances 63 = .ok (.goto 4, 3) := by decide +kernel
theorem dX7_balances_66 : decode cX7_balances 66 = .ok (.iconst 0, 1) := by decide +kernel
theorem dX7_balances_67 : decode cX7_balances 67 = .ok (.ireturn, 1) := by decide +kernel
set_option maxRecDepth 20000 in
theorem ggX7_doStep_X7_hasPower : GoodIn wsX7_doStep wsX7_hasPower := goodIn_r _ [12, 13, 236, 237, 238, 239, 240, 241, 242, 243, 244, 245, 246, 247, 248, 249] (by decide +kernel) (by decide +kernel)
set_option maxRecDepth 20000 in
theorem gX7_doStep_X7_hasPower : GoodIn wsX7_doStep (wsV RX7 123 RX7 yX7_hasPower wsX7_hasPower) := goodIn_app (goodIn_of _ (by decide +kernel)) ggX7_doStep_X7_hasPower
set_option maxRecDepth 20000 in
theorem ggX7_doStep_X5_turn : GoodIn wsX7_doStep wsX5_turn := goodIn_r _ [18, 19, 20, 21, 22, 23, 17, 24, 25, 26, 27, 28, 250, 251, 252] (by decide +kernel) (by decide +kernel)
set_option maxRecDepth 20000 in
theorem gX7_doStep_X5_turn : GoodIn wsX7_doStep (wsV RX7 198 RX5 yX5_turn wsX5_turn) := goodIn_app (goodIn_of _ (by decide +kernel)) ggX7_doStep_X5_turn
set_option maxRecDepth 20000 in
theorem ggX7_doStep_X5_push : GoodIn wsX7_doStep wsX5_push := goodIn_r _ [32, 20, 250, 251, 252] (by decide +kernel) (by decide +kernel)
set_option maxRecDepth 20000 in
theorem gX7_doStep_X5_push : GoodIn wsX7_doStep (wsV RX7 201 RX5 yX5_push wsX5_push) := goodIn_app (goodIn_of _ (by decide +kernel)) ggX7_doStep_X5_push
set_option maxRecDepth 20000 in
theorem ggX7_doStep_X6_become : GoodIn wsX7_doStep wsX6_become := goodIn_r _ [37, 38, 39, 40, 41, 42, 43, 44, 45, 36, 46, 47, 48, 253, 254, 255] (by decide +kernel) (by decide +kernel)
set_option maxRecDepth 20000 in
theorem gX7_doStep_X6_become : GoodIn wsX7_doStep (wsV RX7 204 RX6 yX6_become wsX6_become) := goodIn_app (goodIn_of _ (by decide +kernel)) ggX7_doStep_X6_become
set_option maxRecDepth 20000 in
theorem ggX7_doStep_X7_burn : GoodIn wsX7_doStep wsX7_burn := goodIn_r _ [52, 53, 6, 54, 55, 56, 57, 58, 59, 60, 61, 62, 63, 8, 9, 10, 11, 12, 13, 64, 65, 66, 67, 68, 69, 70, 71, 72, 73, 74, 75, 76, 77, 78, 79, 80, 81, 82, 83, 84, 85, 86, 236, 237, 238, 239, 240, 241, 242, 243, 244, 245, 246, 247, 248, 249, 256, 257, 258, 259, 260, 261, 262, 263, 264, 265] (by decide +kernel) (by decide +kernel)
set_option maxRecDepth 20000 in
theorem gX7_doStep_X7_burn : GoodIn wsX7_doStep (wsV RX7 207 RX7 yX7_burn wsX7_burn) := goodIn_app (goodIn_of _ (by decide +kernel)) ggX7_doStep_X7_burn
set_option maxRecDepth 20000 in
theorem ggX7_doStep_X7_moveAir : GoodIn wsX7_doStep wsX7_moveAir := goodIn_r _ [90, 6, 2, 53, 91, 92, 93, 94, 95, 36, 96, 42, 97, 98, 99, 81, 100, 101, 83, 102, 103, 104, 105, 106, 107, 108, 109, 110, 111, 112, 85, 11, 86, 54, 55, 56, 57, 58, 59, 60, 61, 62, 63, 113, 114, 115, 116, 117, 118, 119, 120, 121, 122, 123, 124, 125, 126, 127, 128, 129, 84, 236, 237, 238, 239, 240, 241, 242, 243, 244, 245, 246, 247, 248, 249, 253, 254, 255, 262, 263, 264, 265, 256, 257, 258, 259, 260, 261] (by decide +kernel) (by decide +kernel)
set_option maxRecDepth 20000 in
theorem gX7_doStep_X7_moveAir : GoodIn wsX7_doStep (wsV RX7 210 RX7 yX7_moveAir wsX7_moveAir) := goodIn_app (goodIn_of _ (by decide +kernel)) ggX7_doStep_X7_moveAir
set_option maxRecDepth 20000 in
theorem ggX7_doStep_X7_watch : GoodIn wsX7_doStep wsX7_watch := goodIn_r _ [133, 134, 135, 4, 136, 137, 138, 11, 139, 6, 3, 140, 119, 120, 81, 121, 83, 85, 86, 141, 142, 143, 144, 84, 145, 146, 147, 148, 149, 150, 151, 152, 153, 154, 155, 156, 157, 158, 159, 160, 161, 162, 236, 237, 238, 239, 240, 241, 242, 243, 244, 245, 246, 247, 248, 249, 262, 263, 264, 265, 266, 267, 268, 269, 270, 271, 272, 273, 274, 275, 276] (by decide +kernel) (by decide +kernel)
set_option maxRecDepth 20000 in
theorem gX7_doStep_X7_watch : GoodIn wsX7_doStep (wsV RX7 213 RX7 yX7_watch wsX7_watch) := goodIn_app (goodIn_of _ (by decide +kernel)) ggX7_doStep_X7_watch
set_option maxRecDepth 20000 in
theorem ggX7_doStep_X7_followChart : GoodIn wsX7_doStep wsX7_followChart := goodIn_r _ [166, 134, 135, 4, 167, 168, 169, 160, 170, 171, 162, 172, 173, 174, 175, 176, 177, 178, 179, 180, 181, 182, 183, 184, 185, 186, 11, 187, 2, 5, 7, 1, 91, 53, 188, 189, 190, 36, 191, 40, 192, 193, 194, 195, 196, 197, 198, 199, 200, 201, 202, 17, 203, 21, 204, 205, 206, 57, 207, 75, 236, 237, 238, 239, 240, 241, 242, 243, 244, 245, 246, 247, 248, 249, 271, 272, 273, 274, 275, 276, 253, 254, 255, 277, 278, 279, 250, 251, 252, 256, 257, 258, 259, 260, 261] (by decide +kernel) (by decide +kernel)
set_option maxRecDepth 20000 in
theorem gX7_doStep_X7_followChart : GoodIn wsX7_doStep (wsV RX7 216 RX7 yX7_followChart wsX7_followChart) := goodIn_app (goodIn_of _ (by decide +kernel)) ggX7_doStep_X7_followChart
set_option maxRecDepth 20000 in
theorem ggX7_doStep_X3_live : GoodIn wsX7_doStep wsX3_live := goodIn_r _ [211, 155, 212, 156, 213, 119, 120, 81, 121, 83, 85, 11, 86, 214, 215, 216, 153, 217, 218, 219, 220, 221, 222, 223, 224, 225, 226, 227, 228, 229, 230, 195, 231, 232, 233, 73, 234, 199, 235, 26, 27, 28, 266, 267, 268, 269, 270, 262, 263, 264, 265, 277, 278, 279] (by decide +kernel) (by decide +kernel)
set_option maxRecDepth 20000 in
theorem gX7_doStep_X3_live : GoodIn wsX7_doStep (wsV RX7 219 RX3 yX3_live wsX3_live) := goodIn_app (goodIn_of _ (by decide +kernel)) ggX7_doStep_X3_live
theorem dX7_doStep_0 : decode cX7_doStep 0 = .ok (.aload_n 0, 1) := by decide +kernel
theorem dX7_doStep_1 : decode cX7_doStep 1 = .ok (.getfield 10, 3) := by decide +kernel
theorem dX7_doStep_4 : decode cX7_doStep 4 = .ok (.aload_n 0, 1) := by decide +kernel
theorem dX7_doStep_5 : decode cX7_doStep 5 = .ok (.invokevirtual 123, 3) := by decide +kernel
theorem dX7_doStep_8 : decode cX7_doStep 8 = .ok (.invokevirtual 198, 3) := by decide +kernel
theorem dX7_doStep_11 : decode cX7_doStep 11 = .ok (.aload_n 0, 1) := by decide +kernel
theorem dX7_doStep_12 : decode cX7_doStep 12 = .ok (.getfield 19, 3) := by decide +kernel
theorem dX7_doStep_15 : decode cX7_doStep 15 = .ok (.aload_n 0, 1) := by decide +kernel
theorem dX7_doStep_16 : decode cX7_doStep 16 = .ok (.getfield 10, 3) := by decide +kernel
theorem dX7_doStep_19 : decode cX7_doStep 19 = .ok (.invokevirtual 201, 3) := by decide +kernel
theorem dX7_doStep_22 : decode cX7_doStep 22 = .ok (.invokevirtual 204, 3) := by decide +kernel
theorem dX7_doStep_25 : decode cX7_doStep 25 = .ok (.aload_n 0, 1) := by decide +kernel
theorem dX7_doStep_26 : decode cX7_doStep 26 = .ok (.invokevirtual 207, 3) := by decide +kernel
theorem dX7_doStep_29 : decode cX7_doStep 29 = .ok (.aload_n 0, 1) := by decide +kernel
theorem dX7_doStep_30 : decode cX7_doStep 30 = .ok (.invokevirtual 210, 3) := by decide +kernel
theorem dX7_doStep_33 : decode cX7_doStep 33 = .ok (.aload_n 0, 1) := by decide +kernel
theorem dX7_doStep_34 : decode cX7_doStep 34 = .ok (.invokevirtual 213, 3) := by decide +kernel
theorem dX7_doStep_37 : decode cX7_doStep 37 = .ok (.aload_n 0, 1) := by decide +kernel
theorem dX7_doStep_38 : decode cX7_doStep 38 = .ok (.invokevirtual 216, 3) := by decide +kernel
theorem dX7_doStep_41 : decode cX7_doStep 41 = .ok (.aload_n 0, 1) := by decide +kernel
theorem dX7_doStep_42 : decode cX7_doStep 42 = .ok (.getfield 54, 3) := by decide +kernel
theorem dX7_doStep_45 : decode cX7_doStep 45 = .ok (.aload_n 0, 1) := by decide +kernel
theorem dX7_doStep_46 : decode cX7_doStep 46 = .ok (.getfield 79, 3) := by decide +kernel
theorem dX7_doStep_49 : decode cX7_doStep 49 = .ok (.aload_n 0, 1) := by decide +kernel
theorem dX7_doStep_50 : decode cX7_doStep 50 = .ok (.getfield 73, 3) := by decide +kernel
theorem dX7_doStep_53 : decode cX7_doStep 53 = .ok (.aload_n 0, 1) := by decide +kernel
theorem dX7_doStep_54 : decode cX7_doStep 54 = .ok (.getfield 26, 3) := by decide +kernel
theorem dX7_doStep_57 : decode cX7_doStep 57 = .ok (.aload_n 0, 1) := by decide +kernel
theorem dX7_doStep_58 : decode cX7_doStep 58 = .ok (.getfield 40, 3) := by decide +kernel
theorem dX7_doStep_61 : decode cX7_doStep 61 = .ok (.invokevirtual 219, 3) := by decide +kernel
theorem dX7_doStep_64 : decode cX7_doStep 64 = .ok (.aload_n 0, 1) := by decide +kernel
theorem dX7_doStep_65 : decode cX7_doStep 65 = .ok (.dup, 1) := by decide +kernel
theorem dX7_doStep_66 : decode cX7_doStep 66 = .ok (.getfield 79, 3) := by decide +kernel
theorem dX7_doStep_69 : decode cX7_doStep 69 = .ok (.iconst 1, 1) := by decide +kernel
theorem dX7_doStep_70 : decode cX7_doStep 70 = .ok (.iadd, 1) := by decide +kernel
theorem dX7_doStep_71 : decode cX7_doStep 71 = .ok (.putfield 79, 3) := by decide +kernel
theorem dX7_doStep_74 : decode cX7_doStep 74 = .ok (.return_, 1) := by decide +kernel
set_option maxRecDepth 20000 in
theorem ggX7_burn_X1_isBurning : GoodIn wsX7_burn wsX1_isBurning := goodIn_r _ [7, 8, 56, 57, 58, 59, 60, 61] (by decide +kernel) (by decide +kernel)
set_option maxRecDepth 20000 in
theorem gX7_burn_X1_isBurning : GoodIn wsX7_burn (wsV RX7 113 RX1 yX1_isBurning wsX1_isBurning) := goodIn_app (goodIn_of _ (by decide +kernel)) ggX7_burn_X1_isBurning
set_option maxRecDepth 20000 in
theorem ggX7_burn_X1_place : GoodIn wsX7_burn wsX1_place := goodIn_r _ [12, 8, 56, 57, 58, 59, 60, 61] (by decide +kernel) (by decide +kernel)
set_option maxRecDepth 20000 in
theorem gX7_burn_X1_place : GoodIn wsX7_burn (wsV RX7 223 RX1 yX1_place wsX1_place) := goodIn_app (goodIn_of _ (by decide +kernel)) ggX7_burn_X1_place
set_option maxRecDepth 20000 in
theorem ggX7_burn_X7_hasPower : GoodIn wsX7_burn wsX7_hasPower := goodIn_r _ [17, 18, 42, 43, 44, 45, 46, 47, 48, 49, 50, 51, 52, 53, 54, 55] (by decide +kernel) (by decide +kernel)
set_option maxRecDepth 20000 in
theorem gX7_burn_X7_hasPower : GoodIn wsX7_burn (wsV RX7 123 RX7 yX7_hasPower wsX7_hasPower) := goodIn_app (goodIn_of _ (by decide +kernel)) ggX7_burn_X7_hasPower
set_option maxRecDepth 20000 in
theorem ggX7_burn_X1_burn : GoodIn wsX7_burn wsX1_burn := goodIn_r _ [22, 23, 24, 25, 26, 27, 28, 29, 30, 31, 32, 56, 57, 58, 59, 60, 61] (by decide +kernel) (by decide +kernel)
set_option maxRecDepth 20000 in
theorem gX7_burn_X1_burn : GoodIn wsX7_burn (wsV RX7 225 RX1 yX1_burn wsX1_burn) := goodIn_app (goodIn_of _ (by decide +kernel)) ggX7_burn_X1_burn
set_option maxRecDepth 20000 in
theorem ggX7_burn_X0_feedFrom : GoodIn wsX7_burn wsX0_feedFrom := goodIn_r _ [37, 38, 39, 40, 16, 41, 62, 63, 64, 65] (by decide +kernel) (by decide +kernel)
set_option maxRecDepth 20000 in
theorem gX7_burn_X0_feedFrom : GoodIn wsX7_burn (wsV RX7 228 RX0 yX0_feedFrom wsX0_feedFrom) := goodIn_app (goodIn_of _ (by decide +kernel)) ggX7_burn_X0_feedFrom
theorem dX7_burn_0 : decode cX7_burn 0 = .ok (.aload_n 0, 1) := by decide +kernel
theorem dX7_burn_1 : decode cX7_burn 1 = .ok (.getfield 33, 3) := by decide +kernel
theorem dX7_burn_4 : decode cX7_burn 4 = .ok (.invokevirtual 113, 3) := by decide +kernel
theorem dX7_burn_7 : decode cX7_burn 7 = .ok (.ifCond .eq 28, 3) := by decide +kernel
theorem dX7_burn_10 : decode cX7_burn 10 = .ok (.aload_n 0, 1) := by decide +kernel
theorem dX7_burn_11 : decode cX7_burn 11 = .ok (.getfield 26, 3) := by decide +kernel
theorem dX7_burn_14 : decode cX7_burn 14 = .ok (.aload_n 0, 1) := by decide +kernel
theorem dX7_burn_15 : decode cX7_burn 15 = .ok (.getfield 33, 3) := by decide +kernel
theorem dX7_burn_18 : decode cX7_burn 18 = .ok (.invokevirtual 223, 3) := by decide +kernel
theorem dX7_burn_21 : decode cX7_burn 21 = .ok (.aload_n 0, 1) := by decide +kernel
theorem dX7_burn_22 : decode cX7_burn 22 = .ok (.getfield 33, 3) := by decide +kernel
theorem dX7_burn_25 : decode cX7_burn 25 = .ok (.aload_n 0, 1) := by decide +kernel
theorem dX7_burn_26 : decode cX7_burn 26 = .ok (.invokevirtual 123, 3) := by decide +kernel
theorem dX7_burn_29 : decode cX7_burn 29 = .ok (.invokevirtual 225, 3) := by decide +kernel
theorem dX7_burn_32 : decode cX7_burn 32 = .ok (.invokevirtual 228, 3) := by decide +kernel
theorem dX7_burn_35 : decode cX7_burn 35 = .ok (.return_, 1) := by decide +kernel
set_option maxRecDepth 20000 in
theorem ggX7_moveAir_X6_speed : GoodIn wsX7_moveAir wsX6_speed := goodIn_r _ [10, 11, 75, 76, 77] (by decide +kernel) (by decide +kernel)
set_option maxRecDepth 20000 in
theorem gX7_moveAir_X6_speed : GoodIn wsX7_moveAir (wsV RX7 171 RX6 yX6_speed wsX6_speed) := goodIn_app (goodIn_of _ (by decide +kernel)) ggX7_moveAir_X6_speed
set_option maxRecDepth 20000 in
theorem ggX7_moveAir_X0_drift : GoodIn wsX7_moveAir wsX0_drift := goodIn_r _ [16, 17, 18, 19, 20, 15, 21, 22, 23, 24, 25, 26, 27, 28, 29, 30, 31, 32, 78, 79, 80, 81] (by decide +kernel) (by decide +kernel)
set_option maxRecDepth 20000 in
theorem gX7_moveAir_X0_drift : GoodIn wsX7_moveAir (wsV RX7 231 RX0 yX0_drift wsX0_drift) := goodIn_app (goodIn_of _ (by decide +kernel)) ggX7_moveAir_X0_drift
set_option maxRecDepth 20000 in
theorem ggX7_moveAir_X1_isBurning : GoodIn wsX7_moveAir wsX1_isBurning := goodIn_r _ [37, 38, 82, 83, 84, 85, 86, 87] (by decide +kernel) (by decide +kernel)
set_option maxRecDepth 20000 in
theorem gX7_moveAir_X1_isBurning : GoodIn wsX7_moveAir (wsV RX7 113 RX1 yX1_isBurning wsX1_isBurning) := goodIn_app (goodIn_of _ (by decide +kernel)) ggX7_moveAir_X1_isBurning
set_option maxRecDepth 20000 in
theorem ggX7_moveAir_X1_place : GoodIn wsX7_moveAir wsX1_place := goodIn_r _ [42, 38, 82, 83, 84, 85, 86, 87] (by decide +kernel) (by decide +kernel)
set_option maxRecDepth 20000 in
theorem gX7_moveAir_X1_place : GoodIn wsX7_moveAir (wsV RX7 223 RX1 yX1_place wsX1_place) := goodIn_app (goodIn_of _ (by decide +kernel)) ggX7_moveAir_X1_place
set_option maxRecDepth 20000 in
theorem ggX7_moveAir_X0_backUp : GoodIn wsX7_moveAir wsX0_backUp := goodIn_r _ [46, 47, 19, 20, 15, 21, 22, 23, 24, 48, 49, 50, 51, 18, 30, 31, 32, 25, 26, 27, 28, 29, 78, 79, 80, 81] (by decide +kernel) (by decide +kernel)
set_option maxRecDepth 20000 in
theorem gX7_moveAir_X0_backUp : GoodIn wsX7_moveAir (wsV RX7 235 RX0 yX0_backUp wsX0_backUp) := goodIn_app (goodIn_of _ (by decide +kernel)) ggX7_moveAir_X0_backUp
set_option maxRecDepth 20000 in
theorem ggX7_moveAir_X0_drawOff : GoodIn wsX7_moveAir wsX0_drawOff := goodIn_r _ [55, 48, 49, 50, 15, 51, 18, 30, 31, 32, 25, 26, 27, 28, 29, 78, 79, 80, 81] (by decide +kernel) (by decide +kernel)
set_option maxRecDepth 20000 in
theorem gX7_moveAir_X0_drawOff : GoodIn wsX7_moveAir (wsV RX7 239 RX0 yX0_drawOff wsX0_drawOff) := goodIn_app (goodIn_of _ (by decide +kernel)) ggX7_moveAir_X0_drawOff
set_option maxRecDepth 20000 in
theorem ggX7_moveAir_X0_cool : GoodIn wsX7_moveAir wsX0_cool := goodIn_r _ [59, 60, 78, 79, 80, 81] (by decide +kernel) (by decide +kernel)
set_option maxRecDepth 20000 in
theorem gX7_moveAir_X0_cool : GoodIn wsX7_moveAir (wsV RX7 242 RX0 yX0_cool wsX0_cool) := goodIn_app (goodIn_of _ (by decide +kernel)) ggX7_moveAir_X0_cool
theorem dX7_moveAir_0 : decode cX7_moveAir 0 = .ok (.aload_n 0, 1) := by decide +kernel
theorem dX7_moveAir_1 : decode cX7_moveAir 1 = .ok (.getfield 26, 3) := by decide +kernel
theorem dX7_moveAir_4 : decode cX7_moveAir 4 = .ok (.aload_n 0, 1) := by decide +kernel
theorem dX7_moveAir_5 : decode cX7_moveAir 5 = .ok (.getfield 19, 3) := by decide +kernel
theorem dX7_moveAir_8 : decode cX7_moveAir 8 = .ok (.invokevirtual 171, 3) := by decide +kernel
theorem dX7_moveAir_11 : decode cX7_moveAir 11 = .ok (.invokevirtual 231, 3) := by decide +kernel
theorem dX7_moveAir_14 : decode cX7_moveAir 14 = .ok (.aload_n 0, 1) := by decide +kernel
theorem dX7_moveAir_15 : decode cX7_moveAir 15 = .ok (.getfield 33, 3) := by decide +kernel
theorem dX7_moveAir_18 : decode cX7_moveAir 18 = .ok (.invokevirtual 113, 3) := by decide +kernel
theorem dX7_moveAir_21 : decode cX7_moveAir 21 = .ok (.ifCond .eq 24, 3) := by decide +kernel
theorem dX7_moveAir_24 : decode cX7_moveAir 24 = .ok (.aload_n 0, 1) := by decide +kernel
theorem dX7_moveAir_25 : decode cX7_moveAir 25 = .ok (.getfield 26, 3) := by decide +kernel
theorem dX7_moveAir_28 : decode cX7_moveAir 28 = .ok (.aload_n 0, 1) := by decide +kernel
theorem dX7_moveAir_29 : decode cX7_moveAir 29 = .ok (.getfield 33, 3) := by decide +kernel
theorem dX7_moveAir_32 : decode cX7_moveAir 32 = .ok (.invokevirtual 223, 3) := by decide +kernel
theorem dX7_moveAir_35 : decode cX7_moveAir 35 = .ok (.aload_n 0, 1) := by decide +kernel
theorem dX7_moveAir_36 : decode cX7_moveAir 36 = .ok (.getfield 19, 3) := by decide +kernel
theorem dX7_moveAir_39 : decode cX7_moveAir 39 = .ok (.invokevirtual 171, 3) := by decide +kernel
theorem dX7_moveAir_42 : decode cX7_moveAir 42 = .ok (.invokevirtual 235, 3) := by decide +kernel
theorem dX7_moveAir_45 : decode cX7_moveAir 45 = .ok (.aload_n 0, 1) := by decide +kernel
theorem dX7_moveAir_46 : decode cX7_moveAir 46 = .ok (.getfield 69, 3) := by decide +kernel
theorem dX7_moveAir_49 : decode cX7_moveAir 49 = .ok (.ifCond .eq 14, 3) := by decide +kernel
theorem dX7_moveAir_52 : decode cX7_moveAir 52 = .ok (.aload_n 0, 1) := by decide +kernel
theorem dX7_moveAir_53 : decode cX7_moveAir 53 = .ok (.getfield 26, 3) := by decide +kernel
theorem dX7_moveAir_56 : decode cX7_moveAir 56 = .ok (.aload_n 0, 1) := by decide +kernel
theorem dX7_moveAir_57 : decode cX7_moveAir 57 = .ok (.getfield 65, 3) := by decide +kernel
theorem dX7_moveAir_60 : decode cX7_moveAir 60 = .ok (.invokevirtual 239, 3) := by decide +kernel
theorem dX7_moveAir_63 : decode cX7_moveAir 63 = .ok (.aload_n 0, 1) := by decide +kernel
theorem dX7_moveAir_64 : decode cX7_moveAir 64 = .ok (.getfield 26, 3) := by decide +kernel
theorem dX7_moveAir_67 : decode cX7_moveAir 67 = .ok (.invokevirtual 242, 3) := by decide +kernel
theorem dX7_moveAir_70 : decode cX7_moveAir 70 = .ok (.return_, 1) := by decide +kernel
set_option maxRecDepth 20000 in
theorem ggX7_watch_X7_tellingIn : GoodIn wsX7_watch wsX7_tellingIn := goodIn_r _ [8, 9, 10, 11, 12, 13, 14, 15, 16, 17, 7, 18, 19, 20, 21, 22, 23, 24, 25, 26, 27, 28, 29, 30, 31, 32, 33, 34, 35, 42, 43, 44, 45, 46, 47, 48, 49, 50, 51, 52, 53, 54, 55, 56, 57, 58, 59, 60, 61, 62, 63, 64] (by decide +kernel) (by decide +kernel)
set_option maxRecDepth 20000 in
theorem gX7_watch_X7_tellingIn : GoodIn wsX7_watch (wsV RX7 160 RX7 yX7_tellingIn wsX7_tellingIn) := goodIn_app (goodIn_of _ (by decide +kernel)) ggX7_watch_X7_tellingIn
set_option maxRecDepth 20000 in
theorem ggX7_watch_X2_start : GoodIn wsX7_watch wsX2_start := goodIn_r _ [40, 41, 65, 66, 67, 68, 69, 70] (by decide +kernel) (by decide +kernel)
set_option maxRecDepth 20000 in
theorem gX7_watch_X2_start : GoodIn wsX7_watch (wsV RX7 245 RX2 yX2_start wsX2_start) := goodIn_app (goodIn_of _ (by decide +kernel)) ggX7_watch_X2_start
theorem dX7_watch_0 : decode cX7_watch 0 = .ok (.iconst 0, 1) := by decide +kernel
theorem dX7_watch_1 : decode cX7_watch 1 = .ok (.istore_n 1, 1) := by decide +kernel
theorem dX7_watch_2 : decode cX7_watch 2 = .ok (.iload_n 1, 1) := by decide +kernel
theorem dX7_watch_3 : decode cX7_watch 3 = .ok (.bipush 12, 2) := by decide +kernel
theorem dX7_watch_5 : decode cX7_watch 5 = .ok (.if_icmp .ge 42, 3) := by decide +kernel
theorem dX7_watch_8 : decode cX7_watch 8 = .ok (.aload_n 0, 1) := by decide +kernel
theorem dX7_watch_9 : decode cX7_watch 9 = .ok (.getfield 76, 3) := by decide +kernel
theorem dX7_watch_12 : decode cX7_watch 12 = .ok (.iconst (-1), 1) := by decide +kernel
theorem dX7_watch_13 : decode cX7_watch 13 = .ok (.if_icmp .ne 34, 3) := by decide +kernel
theorem dX7_watch_16 : decode cX7_watch 16 = .ok (.aload_n 0, 1) := by decide +kernel
theorem dX7_watch_17 : decode cX7_watch 17 = .ok (.iload_n 1, 1) := by decide +kernel
theorem dX7_watch_18 : decode cX7_watch 18 = .ok (.invokevirtual 160, 3) := by decide +kernel
theorem dX7_watch_21 : decode cX7_watch 21 = .ok (.iconst 2, 1) := by decide +kernel
theorem dX7_watch_22 : decode cX7_watch 22 = .ok (.if_icmp .lt 19, 3) := by decide +kernel
theorem dX7_watch_25 : decode cX7_watch 25 = .ok (.aload_n 0, 1) := by decide +kernel
theorem dX7_watch_26 : decode cX7_watch 26 = .ok (.iload_n 1, 1) := by decide +kernel
theorem dX7_watch_27 : decode cX7_watch 27 = .ok (.putfield 76, 3) := by decide +kernel
theorem dX7_watch_30 : decode cX7_watch 30 = .ok (.aload_n 0, 1) := by decide +kernel
theorem dX7_watch_31 : decode cX7_watch 31 = .ok (.getfield 47, 3) := by decide +kernel
theorem dX7_watch_34 : decode cX7_watch 34 = .ok (.aload_n 0, 1) := by decide +kernel
theorem dX7_watch_35 : decode cX7_watch 35 = .ok (.getfield 79, 3) := by decide +kernel
theorem dX7_watch_38 : decode cX7_watch 38 = .ok (.invokevirtual 245, 3) := by decide +kernel
theorem dX7_watch_41 : decode cX7_watch 41 = .ok (.iinc 1 1, 3) := by decide +kernel
theorem dX7_watch_44 : decode cX7_watch 44 = .ok (.goto (-42), 3) := by decide +kernel
theorem dX7_watch_47 : decode cX7_watch 47 = .ok (.return_, 1) := by decide +kernel
set_option maxRecDepth 20000 in
theorem ggX7_followChart_X2_isDue : GoodIn wsX7_followChart wsX2_isDue := goodIn_r _ [8, 9, 10, 11, 12, 13, 14, 7, 15, 16, 74, 75, 76, 77, 78, 79] (by decide +kernel) (by decide +kernel)
set_option maxRecDepth 20000 in
theorem gX7_followChart_X2_isDue : GoodIn wsX7_followChart (wsV RX7 248 RX2 yX2_isDue wsX2_isDue) := goodIn_app (goodIn_of _ (by decide +kernel)) ggX7_followChart_X2_isDue
set_option maxRecDepth 20000 in
theorem ggX7_followChart_X2_finishNext : GoodIn wsX7_followChart wsX2_finishNext := goodIn_r _ [20, 9, 21, 22, 10, 12, 13, 14, 7, 15, 16, 74, 75, 76, 77, 78, 79] (by decide +kernel) (by decide +kernel)
set_option maxRecDepth 20000 in
theorem gX7_followChart_X2_finishNext : GoodIn wsX7_followChart (wsV RX7 251 RX2 yX2_finishNext wsX2_finishNext) := goodIn_app (goodIn_of _ (by decide +kernel)) ggX7_followChart_X2_finishNext
set_option maxRecDepth 20000 in
theorem ggX7_followChart_X7_perform : GoodIn wsX7_followChart wsX7_perform := goodIn_r _ [27, 28, 29, 30, 31, 32, 33, 34, 35, 36, 37, 38, 39, 40, 41, 42, 43, 44, 45, 46, 47, 48, 49, 50, 51, 52, 53, 54, 55, 56, 57, 58, 59, 60, 61, 62, 63, 64, 65, 66, 67, 68, 69, 70, 71, 72, 73, 80, 81, 82, 83, 84, 85, 86, 87, 88, 89, 90, 91, 92, 93, 94] (by decide +kernel) (by decide +kernel)
set_option maxRecDepth 20000 in
theorem gX7_followChart_X7_perform : GoodIn wsX7_followChart (wsV RX7 254 RX7 yX7_perform wsX7_perform) := goodIn_app (goodIn_of _ (by decide +kernel)) ggX7_followChart_X7_perform
theorem dX7_followChart_0 : decode cX7_followChart 0 = .ok (.iconst 0, 1) := by decide +kernel
theorem dX7_followChart_1 : decode cX7_followChart 1 = .ok (.istore_n 1, 1) := by decide +kernel
theorem dX7_followChart_2 : decode cX7_followChart 2 = .ok (.iload_n 1, 1) := by decide +kernel
theorem dX7_followChart_3 : decode cX7_followChart 3 = .ok (.bipush 10, 2) := by decide +kernel
theorem dX7_followChart_5 : decode cX7_followChart 5 = .ok (.if_icmp .ge 46, 3) := by decide +kernel
theorem dX7_followChart_8 : decode cX7_followChart 8 = .ok (.aload_n 0, 1) := by decide +kernel
theorem dX7_followChart_9 : decode cX7_followChart 9 = .ok (.getfield 76, 3) := by decide +kernel
theorem dX7_followChart_12 : decode cX7_followChart 12 = .ok (.iconst (-1), 1) := by decide +kernel
theorem dX7_followChart_13 : decode cX7_followChart 13 = .ok (.if_icmp .eq 38, 3) := by decide +kernel
theorem dX7_followChart_16 : decode cX7_followChart 16 = .ok (.aload_n 0, 1) := by decide +kernel
theorem dX7_followChart_17 : decode cX7_followChart 17 = .ok (.getfield 47, 3) := by decide +kernel
theorem dX7_followChart_20 : decode cX7_followChart 20 = .ok (.aload_n 0, 1) := by decide +kernel
theorem dX7_followChart_21 : decode cX7_followChart 21 = .ok (.getfield 79, 3) := by decide +kernel
theorem dX7_followChart_24 : decode cX7_followChart 24 = .ok (.invokevirtual 248, 3) := by decide +kernel
theorem dX7_followChart_27 : decode cX7_followChart 27 = .ok (.ifCond .eq 24, 3) := by decide +kernel
theorem dX7_followChart_30 : decode cX7_followChart 30 = .ok (.aload_n 0, 1) := by decide +kernel
theorem dX7_followChart_31 : decode cX7_followChart 31 = .ok (.aload_n 0, 1) := by decide +kernel
theorem dX7_followChart_32 : decode cX7_followChart 32 = .ok (.getfield 47, 3) := by decide +kernel
theorem dX7_followChart_35 : decode cX7_followChart 35 = .ok (.aload_n 0, 1) := by decide +kernel
theorem dX7_followChart_36 : decode cX7_followChart 36 = .ok (.getfield 79, 3) := by decide +kernel
theorem dX7_followChart_39 : decode cX7_followChart 39 = .ok (.invokevirtual 251, 3) := by decide +kernel
theorem dX7_followChart_42 : decode cX7_followChart 42 = .ok (.invokevirtual 254, 3) := by decide +kernel
theorem dX7_followChart_45 : decode cX7_followChart 45 = .ok (.iinc 1 1, 3) := by decide +kernel
theorem dX7_followChart_48 : decode cX7_followChart 48 = .ok (.goto (-46), 3) := by decide +kernel
theorem dX7_followChart_51 : decode cX7_followChart 51 = .ok (.return_, 1) := by decide +kernel
set_option maxRecDepth 20000 in
theorem ggX7_perform_X6_stopTraffic : GoodIn wsX7_perform wsX6_stopTraffic := goodIn_r _ [11, 12, 47, 48, 49] (by decide +kernel) (by decide +kernel)
set_option maxRecDepth 20000 in
theorem gX7_perform_X6_stopTraffic : GoodIn wsX7_perform (wsV RX7 257 RX6 yX6_stopTraffic wsX6_stopTraffic) := goodIn_app (goodIn_of _ (by decide +kernel)) ggX7_perform_X6_stopTraffic
set_option maxRecDepth 20000 in
theorem ggX7_perform_X4_openAll : GoodIn wsX7_perform wsX4_openAll := goodIn_r _ [17, 18, 19, 20, 50, 51, 52] (by decide +kernel) (by decide +kernel)
set_option maxRecDepth 20000 in
theorem gX7_perform_X4_openAll : GoodIn wsX7_perform (wsV RX7 260 RX4 yX4_openAll wsX4_openAll) := goodIn_app (goodIn_of _ (by decide +kernel)) ggX7_perform_X4_openAll
set_option maxRecDepth 20000 in
theorem ggX7_perform_X5_orderAll : GoodIn wsX7_perform wsX5_orderAll := goodIn_r _ [25, 26, 53, 54, 55] (by decide +kernel) (by decide +kernel)
set_option maxRecDepth 20000 in
theorem gX7_perform_X5_orderAll : GoodIn wsX7_perform (wsV RX7 263 RX5 yX5_orderAll wsX5_orderAll) := goodIn_app (goodIn_of _ (by decide +kernel)) ggX7_perform_X5_orderAll
set_option maxRecDepth 20000 in
theorem ggX7_perform_X1_turnFoamOn : GoodIn wsX7_perform wsX1_turnFoamOn := goodIn_r _ [31, 32, 56, 57, 58, 59, 60, 61] (by decide +kernel) (by decide +kernel)
set_option maxRecDepth 20000 in
theorem gX7_perform_X1_turnFoamOn : GoodIn wsX7_perform (wsV RX7 266 RX1 yX1_turnFoamOn wsX1_turnFoamOn) := goodIn_app (goodIn_of _ (by decide +kernel)) ggX7_perform_X1_turnFoamOn
theorem dX7_perform_0 : decode cX7_perform 0 = .ok (.iload_n 1, 1) := by decide +kernel
theorem dX7_perform_1 : decode cX7_perform 1 = .ok (.tableswitch 126 0 7 #[47, 57, 65, 75, 86, 97, 108, 116], 47) := by decide +kernel
theorem dX7_perform_48 : decode cX7_perform 48 = .ok (.aload_n 0, 1) := by decide +kernel
theorem dX7_perform_49 : decode cX7_perform 49 = .ok (.getfield 19, 3) := by decide +kernel
theorem dX7_perform_52 : decode cX7_perform 52 = .ok (.invokevirtual 257, 3) := by decide +kernel
theorem dX7_perform_55 : decode cX7_perform 55 = .ok (.goto 72, 3) := by decide +kernel
theorem dX7_perform_58 : decode cX7_perform 58 = .ok (.aload_n 0, 1) := by decide +kernel
theorem dX7_perform_59 : decode cX7_perform 59 = .ok (.iconst 1, 1) := by decide +kernel
theorem dX7_perform_60 : decode cX7_perform 60 = .ok (.putfield 73, 3) := by decide +kernel
theorem dX7_perform_63 : decode cX7_perform 63 = .ok (.goto 64, 3) := by decide +kernel
theorem dX7_perform_66 : decode cX7_perform 66 = .ok (.aload_n 0, 1) := by decide +kernel
theorem dX7_perform_67 : decode cX7_perform 67 = .ok (.getfield 40, 3) := by decide +kernel
theorem dX7_perform_70 : decode cX7_perform 70 = .ok (.invokevirtual 260, 3) := by decide +kernel
theorem dX7_perform_73 : decode cX7_perform 73 = .ok (.goto 54, 3) := by decide +kernel
theorem dX7_perform_76 : decode cX7_perform 76 = .ok (.aload_n 0, 1) := by decide +kernel
theorem dX7_perform_77 : decode cX7_perform 77 = .ok (.getfield 10, 3) := by decide +kernel
theorem dX7_perform_80 : decode cX7_perform 80 = .ok (.iconst (-1), 1) := by decide +kernel
theorem dX7_perform_81 : decode cX7_perform 81 = .ok (.invokevirtual 263, 3) := by decide +kernel
theorem dX7_perform_84 : decode cX7_perform 84 = .ok (.goto 43, 3) := by decide +kernel
theorem dX7_perform_87 : decode cX7_perform 87 = .ok (.aload_n 0, 1) := by decide +kernel
theorem dX7_perform_88 : decode cX7_perform 88 = .ok (.getfield 10, 3) := by decide +kernel
theorem dX7_perform_91 : decode cX7_perform 91 = .ok (.iconst 1, 1) := by decide +kernel
theorem dX7_perform_92 : decode cX7_perform 92 = .ok (.invokevirtual 263, 3) := by decide +kernel
theorem dX7_perform_95 : decode cX7_perform 95 = .ok (.goto 32, 3) := by decide +kernel
theorem dX7_perform_98 : decode cX7_perform 98 = .ok (.aload_n 0, 1) := by decide +kernel
theorem dX7_perform_99 : decode cX7_perform 99 = .ok (.getfield 10, 3) := by decide +kernel
theorem dX7_perform_102 : decode cX7_perform 102 = .ok (.iconst 0, 1) := by decide +kernel
theorem dX7_perform_103 : decode cX7_perform 103 = .ok (.invokevirtual 263, 3) := by decide +kernel
theorem dX7_perform_106 : decode cX7_perform 106 = .ok (.goto 21, 3) := by decide +kernel
theorem dX7_perform_109 : decode cX7_perform 109 = .ok (.aload_n 0, 1) := by decide +kernel
theorem dX7_perform_110 : decode cX7_perform 110 = .ok (.iconst 1, 1) := by decide +kernel
theorem dX7_perform_111 : decode cX7_perform 111 = .ok (.putfield 69, 3) := by decide +kernel
theorem dX7_perform_114 : decode cX7_perform 114 = .ok (.goto 13, 3) := by decide +kernel
theorem dX7_perform_117 : decode cX7_perform 117 = .ok (.aload_n 0, 1) := by decide +kernel
theorem dX7_perform_118 : decode cX7_perform 118 = .ok (.getfield 33, 3) := by decide +kernel
theorem dX7_perform_121 : decode cX7_perform 121 = .ok (.invokevirtual 266, 3) := by decide +kernel
theorem dX7_perform_124 : decode cX7_perform 124 = .ok (.goto 3, 3) := by decide +kernel
theorem dX7_perform_127 : decode cX7_perform 127 = .ok (.return_, 1) := by decide +kernel
theorem dX7_hasPower_0 : decode cX7_hasPower 0 = .ok (.iconst 0, 1) := by decide +kernel
theorem dX7_hasPower_1 : decode cX7_hasPower 1 = .ok (.istore_n 1, 1) := by decide +kernel
theorem dX7_hasPower_2 : decode cX7_hasPower 2 = .ok (.iload_n 1, 1) := by decide +kernel
theorem dX7_hasPower_3 : decode cX7_hasPower 3 = .ok (.aload_n 0, 1) := by decide +kernel
theorem dX7_hasPower_4 : decode cX7_hasPower 4 = .ok (.getfield 58, 3) := by decide +kernel
theorem dX7_hasPower_7 : decode cX7_hasPower 7 = .ok (.arraylength, 1) := by decide +kernel
theorem dX7_hasPower_8 : decode cX7_hasPower 8 = .ok (.if_icmp .ge 20, 3) := by decide +kernel
theorem dX7_hasPower_11 : decode cX7_hasPower 11 = .ok (.aload_n 0, 1) := by decide +kernel
theorem dX7_hasPower_12 : decode cX7_hasPower 12 = .ok (.getfield 58, 3) := by decide +kernel
theorem dX7_hasPower_15 : decode cX7_hasPower 15 = .ok (.iload_n 1, 1) := by decide +kernel
theorem dX7_hasPower_16 : decode cX7_hasPower 16 = .ok (.baload, 1) := by decide +kernel
theorem dX7_hasPower_17 : decode cX7_hasPower 17 = .ok (.ifCond .ne 5, 3) := by decide +kernel
theorem dX7_hasPower_20 : decode cX7_hasPower 20 = .ok (.iconst 1, 1) := by decide +kernel
theorem dX7_hasPower_21 : decode cX7_hasPower 21 = .ok (.ireturn, 1) := by decide +kernel
theorem dX7_hasPower_22 : decode cX7_hasPower 22 = .ok (.iinc 1 1, 3) := by decide +kernel
theorem dX7_hasPower_25 : decode cX7_hasPower 25 = .ok (.goto (-23), 3) := by decide +kernel
theorem dX7_hasPower_28 : decode cX7_hasPower 28 = .ok (.iconst 0, 1) := by decide +kernel
theorem dX7_hasPower_29 : decode cX7_hasPower 29 = .ok (.ireturn, 1) := by decide +kernel
set_option maxRecDepth 20000 in
theorem ggX7_tellingIn_X0_smokeIn : GoodIn wsX7_tellingIn wsX0_smokeIn := goodIn_r _ [7, 8, 9, 10, 11, 43, 44, 45, 46] (by decide +kernel) (by decide +kernel)
set_option maxRecDepth 20000 in
theorem gX7_tellingIn_X0_smokeIn : GoodIn wsX7_tellingIn (wsV RX7 154 RX0 yX0_smokeIn wsX0_smokeIn) := goodIn_app (goodIn_of _ (by decide +kernel)) ggX7_tellingIn_X0_smokeIn
set_option maxRecDepth 20000 in
theorem ggX7_tellingIn_X0_heatIn : GoodIn wsX7_tellingIn wsX0_heatIn := goodIn_r _ [15, 16, 9, 10, 11, 43, 44, 45, 46] (by decide +kernel) (by decide +kernel)
set_option maxRecDepth 20000 in
theorem gX7_tellingIn_X0_heatIn : GoodIn wsX7_tellingIn (wsV RX7 157 RX0 yX0_heatIn wsX0_heatIn) := goodIn_app (goodIn_of _ (by decide +kernel)) ggX7_tellingIn_X0_heatIn
set_option maxRecDepth 20000 in
theorem ggX7_tellingIn_X7_detectorWorks : GoodIn wsX7_tellingIn wsX7_detectorWorks := goodIn_r _ [20, 21, 29, 30, 31, 32, 33, 34, 35, 36, 37, 38, 39, 40, 41, 42] (by decide +kernel) (by decide +kernel)
set_option maxRecDepth 20000 in
theorem gX7_tellingIn_X7_detectorWorks : GoodIn wsX7_tellingIn (wsV RX7 269 RX7 yX7_detectorWorks wsX7_detectorWorks) := goodIn_app (goodIn_of _ (by decide +kernel)) ggX7_tellingIn_X7_detectorWorks
set_option maxRecDepth 20000 in
theorem ggX7_tellingIn_X3_insideOf : GoodIn wsX7_tellingIn wsX3_insideOf := goodIn_r _ [26, 27, 28, 47, 48, 49, 50, 51] (by decide +kernel) (by decide +kernel)
set_option maxRecDepth 20000 in
theorem gX7_tellingIn_X3_insideOf : GoodIn wsX7_tellingIn (wsV RX7 163 RX3 yX3_insideOf wsX3_insideOf) := goodIn_app (goodIn_of _ (by decide +kernel)) ggX7_tellingIn_X3_insideOf
theorem dX7_tellingIn_0 : decode cX7_tellingIn 0 = .ok (.aload_n 0, 1) := by decide +kernel
theorem dX7_tellingIn_1 : decode cX7_tellingIn 1 = .ok (.getfield 26, 3) := by decide +kernel
theorem dX7_tellingIn_4 : decode cX7_tellingIn 4 = .ok (.iload_n 1, 1) := by decide +kernel
theorem dX7_tellingIn_5 : decode cX7_tellingIn 5 = .ok (.invokevirtual 154, 3) := by decide +kernel
theorem dX7_tellingIn_8 : decode cX7_tellingIn 8 = .ok (.istore_n 2, 1) := by decide +kernel
theorem dX7_tellingIn_9 : decode cX7_tellingIn 9 = .ok (.iconst 0, 1) := by decide +kernel
theorem dX7_tellingIn_10 : decode cX7_tellingIn 10 = .ok (.istore_n 3, 1) := by decide +kernel
theorem dX7_tellingIn_11 : decode cX7_tellingIn 11 = .ok (.aload_n 0, 1) := by decide +kernel
theorem dX7_tellingIn_12 : decode cX7_tellingIn 12 = .ok (.getfield 26, 3) := by decide +kernel
theorem dX7_tellingIn_15 : decode cX7_tellingIn 15 = .ok (.iload_n 1, 1) := by decide +kernel
theorem dX7_tellingIn_16 : decode cX7_tellingIn 16 = .ok (.invokevirtual 157, 3) := by decide +kernel
theorem dX7_tellingIn_19 : decode cX7_tellingIn 19 = .ok (.bipush 20, 2) := by decide +kernel
theorem dX7_tellingIn_21 : decode cX7_tellingIn 21 = .ok (.if_icmp .lt 15, 3) := by decide +kernel
theorem dX7_tellingIn_24 : decode cX7_tellingIn 24 = .ok (.aload_n 0, 1) := by decide +kernel
theorem dX7_tellingIn_25 : decode cX7_tellingIn 25 = .ok (.iload_n 1, 1) := by decide +kernel
theorem dX7_tellingIn_26 : decode cX7_tellingIn 26 = .ok (.iconst 0, 1) := by decide +kernel
theorem dX7_tellingIn_27 : decode cX7_tellingIn 27 = .ok (.invokevirtual 269, 3) := by decide +kernel
theorem dX7_tellingIn_30 : decode cX7_tellingIn 30 = .ok (.ifCond .eq 6, 3) := by decide +kernel
theorem dX7_tellingIn_33 : decode cX7_tellingIn 33 = .ok (.iinc 3 1, 3) := by decide +kernel
theorem dX7_tellingIn_36 : decode cX7_tellingIn 36 = .ok (.iload_n 2, 1) := by decide +kernel
theorem dX7_tellingIn_37 : decode cX7_tellingIn 37 = .ok (.bipush 15, 2) := by decide +kernel
theorem dX7_tellingIn_39 : decode cX7_tellingIn 39 = .ok (.if_icmp .lt 15, 3) := by decide +kernel
theorem dX7_tellingIn_42 : decode cX7_tellingIn 42 = .ok (.aload_n 0, 1) := by decide +kernel
theorem dX7_tellingIn_43 : decode cX7_tellingIn 43 = .ok (.iload_n 1, 1) := by decide +kernel
theorem dX7_tellingIn_44 : decode cX7_tellingIn 44 = .ok (.iconst 1, 1) := by decide +kernel
theorem dX7_tellingIn_45 : decode cX7_tellingIn 45 = .ok (.invokevirtual 269, 3) := by decide +kernel
theorem dX7_tellingIn_48 : decode cX7_tellingIn 48 = .ok (.ifCond .eq 6, 3) := by decide +kernel
theorem dX7_tellingIn_51 : decode cX7_tellingIn 51 = .ok (.iinc 3 1, 3) := by decide +kernel
theorem dX7_tellingIn_54 : decode cX7_tellingIn 54 = .ok (.iload_n 2, 1) := by decide +kernel
theorem dX7_tellingIn_55 : decode cX7_tellingIn 55 = .ok (.bipush 10, 2) := by decide +kernel
theorem dX7_tellingIn_57 : decode cX7_tellingIn 57 = .ok (.if_icmp .lt 26, 3) := by decide +kernel
theorem dX7_tellingIn_60 : decode cX7_tellingIn 60 = .ok (.aload_n 0, 1) := by decide +kernel
theorem dX7_tellingIn_61 : decode cX7_tellingIn 61 = .ok (.iload_n 1, 1) := by decide +kernel
theorem dX7_tellingIn_62 : decode cX7_tellingIn 62 = .ok (.iconst 2, 1) := by decide +kernel
theorem dX7_tellingIn_63 : decode cX7_tellingIn 63 = .ok (.invokevirtual 269, 3) := by decide +kernel
theorem dX7_tellingIn_66 : decode cX7_tellingIn 66 = .ok (.ifCond .eq 17, 3) := by decide +kernel
theorem dX7_tellingIn_69 : decode cX7_tellingIn 69 = .ok (.aload_n 0, 1) := by decide +kernel
theorem dX7_tellingIn_70 : decode cX7_tellingIn 70 = .ok (.getfield 54, 3) := by decide +kernel
theorem dX7_tellingIn_73 : decode cX7_tellingIn 73 = .ok (.iload_n 1, 1) := by decide +kernel
theorem dX7_tellingIn_74 : decode cX7_tellingIn 74 = .ok (.invokevirtual 163, 3) := by decide +kernel
theorem dX7_tellingIn_77 : decode cX7_tellingIn 77 = .ok (.ifCond .le 6, 3) := by decide +kernel
theorem dX7_tellingIn_80 : decode cX7_tellingIn 80 = .ok (.iinc 3 1, 3) := by decide +kernel
theorem dX7_tellingIn_83 : decode cX7_tellingIn 83 = .ok (.iload_n 3, 1) := by decide +kernel
theorem dX7_tellingIn_84 : decode cX7_tellingIn 84 = .ok (.ireturn, 1) := by decide +kernel
theorem dX7_detectorWorks_0 : decode cX7_detectorWorks 0 = .ok (.iload_n 1, 1) := by decide +kernel
theorem dX7_detectorWorks_1 : decode cX7_detectorWorks 1 = .ok (.iconst 3, 1) := by decide +kernel
theorem dX7_detectorWorks_2 : decode cX7_detectorWorks 2 = .ok (.imul, 1) := by decide +kernel
theorem dX7_detectorWorks_3 : decode cX7_detectorWorks 3 = .ok (.iload_n 2, 1) := by decide +kernel
theorem dX7_detectorWorks_4 : decode cX7_detectorWorks 4 = .ok (.iadd, 1) := by decide +kernel
theorem dX7_detectorWorks_5 : decode cX7_detectorWorks 5 = .ok (.istore_n 3, 1) := by decide +kernel
theorem dX7_detectorWorks_6 : decode cX7_detectorWorks 6 = .ok (.iload_n 3, 1) := by decide +kernel
theorem dX7_detectorWorks_7 : decode cX7_detectorWorks 7 = .ok (.ifCond .lt 25, 3) := by decide +kernel
theorem dX7_detectorWorks_10 : decode cX7_detectorWorks 10 = .ok (.iload_n 3, 1) := by decide +kernel
theorem dX7_detectorWorks_11 : decode cX7_detectorWorks 11 = .ok (.aload_n 0, 1) := by decide +kernel
theorem dX7_detectorWorks_12 : decode cX7_detectorWorks 12 = .ok (.getfield 62, 3) := by decide +kernel
theorem dX7_detectorWorks_15 : decode cX7_detectorWorks 15 = .ok (.arraylength, 1) := by decide +kernel
theorem dX7_detectorWorks_16 : decode cX7_detectorWorks 16 = .ok (.if_icmp .ge 16, 3) := by decide +kernel
theorem dX7_detectorWorks_19 : decode cX7_detectorWorks 19 = .ok (.aload_n 0, 1) := by decide +kernel
theorem dX7_detectorWorks_20 : decode cX7_detectorWorks 20 = .ok (.getfield 62, 3) := by decide +kernel
theorem dX7_detectorWorks_23 : decode cX7_detectorWorks 23 = .ok (.iload_n 3, 1) := by decide +kernel
theorem dX7_detectorWorks_24 : decode cX7_detectorWorks 24 = .ok (.baload, 1) := by decide +kernel
theorem dX7_detectorWorks_25 : decode cX7_detectorWorks 25 = .ok (.ifCond .ne 7, 3) := by decide +kernel
theorem dX7_detectorWorks_28 : decode cX7_detectorWorks 28 = .ok (.iconst 1, 1) := by decide +kernel
theorem dX7_detectorWorks_29 : decode cX7_detectorWorks 29 = .ok (.goto 4, 3) := by decide +kernel
theorem dX7_detectorWorks_32 : decode cX7_detectorWorks 32 = .ok (.iconst 0, 1) := by decide +kernel
theorem dX7_detectorWorks_33 : decode cX7_detectorWorks 33 = .ok (.ireturn, 1) := by decide +kernel
set_option maxRecDepth 20000 in
theorem ggX7_doorAnswer_X4_isThere : GoodIn wsX7_doorAnswer wsX4_isThere := goodIn_r _ [6, 7, 8, 9, 10, 30, 31, 32] (by decide +kernel) (by decide +kernel)
set_option maxRecDepth 20000 in
theorem gX7_doorAnswer_X4_isThere : GoodIn wsX7_doorAnswer (wsV RX7 273 RX4 yX4_isThere wsX4_isThere) := goodIn_app (goodIn_of _ (by decide +kernel)) ggX7_doorAnswer_X4_isThere
set_option maxRecDepth 20000 in
theorem ggX7_doorAnswer_X4_isOpen : GoodIn wsX7_doorAnswer wsX4_isOpen := goodIn_r _ [14, 15, 8, 9, 10, 30, 31, 32] (by decide +kernel) (by decide +kernel)
set_option maxRecDepth 20000 in
theorem gX7_doorAnswer_X4_isOpen : GoodIn wsX7_doorAnswer (wsV RX7 137 RX4 yX4_isOpen wsX4_isOpen) := goodIn_app (goodIn_of _ (by decide +kernel)) ggX7_doorAnswer_X4_isOpen
theorem dX7_doorAnswer_0 : decode cX7_doorAnswer 0 = .ok (.aload_n 0, 1) := by decide +kernel
theorem dX7_doorAnswer_1 : decode cX7_doorAnswer 1 = .ok (.getfield 40, 3) := by decide +kernel
theorem dX7_doorAnswer_4 : decode cX7_doorAnswer 4 = .ok (.iload_n 1, 1) := by decide +kernel
theorem dX7_doorAnswer_5 : decode cX7_doorAnswer 5 = .ok (.invokevirtual 273, 3) := by decide +kernel
theorem dX7_doorAnswer_8 : decode cX7_doorAnswer 8 = .ok (.ifCond .ne 5, 3) := by decide +kernel
theorem dX7_doorAnswer_11 : decode cX7_doorAnswer 11 = .ok (.iconst (-1), 1) := by decide +kernel
theorem dX7_doorAnswer_12 : decode cX7_doorAnswer 12 = .ok (.ireturn, 1) := by decide +kernel
theorem dX7_doorAnswer_13 : decode cX7_doorAnswer 13 = .ok (.aload_n 0, 1) := by decide +kernel
theorem dX7_doorAnswer_14 : decode cX7_doorAnswer 14 = .ok (.getfield 40, 3) := by decide +kernel
theorem dX7_doorAnswer_17 : decode cX7_doorAnswer 17 = .ok (.iload_n 1, 1) := by decide +kernel
theorem dX7_doorAnswer_18 : decode cX7_doorAnswer 18 = .ok (.invokevirtual 137, 3) := by decide +kernel
theorem dX7_doorAnswer_21 : decode cX7_doorAnswer 21 = .ok (.ifCond .eq 7, 3) := by decide +kernel
theorem dX7_doorAnswer_24 : decode cX7_doorAnswer 24 = .ok (.iconst 1, 1) := by decide +kernel
theorem dX7_doorAnswer_25 : decode cX7_doorAnswer 25 = .ok (.goto 4, 3) := by decide +kernel
theorem dX7_doorAnswer_28 : decode cX7_doorAnswer 28 = .ok (.iconst 0, 1) := by decide +kernel
theorem dX7_doorAnswer_29 : decode cX7_doorAnswer 29 = .ok (.ireturn, 1) := by decide +kernel
set_option maxRecDepth 20000 in
theorem ggX7_requireDoor_X4_isThere : GoodIn wsX7_requireDoor wsX4_isThere := goodIn_r _ [8, 9, 10, 11, 12, 27, 28, 29] (by decide +kernel) (by decide +kernel)
set_option maxRecDepth 20000 in
theorem gX7_requireDoor_X4_isThere : GoodIn wsX7_requireDoor (wsV RX7 273 RX4 yX4_isThere wsX4_isThere) := goodIn_app (goodIn_of _ (by decide +kernel)) ggX7_requireDoor_X4_isThere
theorem dX7_requireDoor_0 : decode cX7_requireDoor 0 = .ok (.aload_n 0, 1) := by decide +kernel
theorem dX7_requireDoor_1 : decode cX7_requireDoor 1 = .ok (.getfield 40, 3) := by decide +kernel
theorem dX7_requireDoor_4 : decode cX7_requireDoor 4 = .ok (.iload_n 1, 1) := by decide +kernel
theorem dX7_requireDoor_5 : decode cX7_requireDoor 5 = .ok (.invokevirtual 273, 3) := by decide +kernel
theorem dX7_requireDoor_8 : decode cX7_requireDoor 8 = .ok (.ifCond .ne 14, 3) := by decide +kernel
theorem dX7_requireDoor_11 : decode cX7_requireDoor 11 = .ok (.new 276, 3) := by decide +kernel
theorem dX7_requireDoor_14 : decode cX7_requireDoor 14 = .ok (.dup, 1) := by decide +kernel
theorem dX7_requireDoor_15 : decode cX7_requireDoor 15 = .ok (.ldc_w 278, 3) := by decide +kernel
theorem dX7_requireDoor_18 : decode cX7_requireDoor 18 = .ok (.invokespecial 280, 3) := by decide +kernel
theorem dX7_requireDoor_21 : decode cX7_requireDoor 21 = .ok (.athrow, 1) := by decide +kernel
theorem dX7_requireDoor_22 : decode cX7_requireDoor 22 = .ok (.return_, 1) := by decide +kernel
set_option maxRecDepth 20000 in
theorem ggX7_requireSegment_X7_requireIndex : GoodIn wsX7_requireSegment wsX7_requireIndex := goodIn_ca (goodIn_r _ [4, 5, 6] (by decide +kernel) (by decide +kernel)) (goodIn_sub (fun _ h => List.mem_cons_of_mem _ (List.mem_append_right _ h)) (by decide +kernel))
set_option maxRecDepth 20000 in
theorem gX7_requireSegment_X7_requireIndex : GoodIn wsX7_requireSegment (va_wsS RX7 120 yX7_requireIndex wsX7_requireIndex) := goodIn_app (goodIn_of _ (by decide +kernel)) ggX7_requireSegment_X7_requireIndex
theorem dX7_requireSegment_0 : decode cX7_requireSegment 0 = .ok (.iload_n 0, 1) := by decide +kernel
theorem dX7_requireSegment_1 : decode cX7_requireSegment 1 = .ok (.bipush 12, 2) := by decide +kernel
theorem dX7_requireSegment_3 : decode cX7_requireSegment 3 = .ok (.invokestatic 120, 3) := by decide +kernel
theorem dX7_requireSegment_6 : decode cX7_requireSegment 6 = .ok (.return_, 1) := by decide +kernel
theorem dX7_requireIndex_0 : decode cX7_requireIndex 0 = .ok (.iload_n 0, 1) := by decide +kernel
theorem dX7_requireIndex_1 : decode cX7_requireIndex 1 = .ok (.ifCond .lt 8, 3) := by decide +kernel
theorem dX7_requireIndex_4 : decode cX7_requireIndex 4 = .ok (.iload_n 0, 1) := by decide +kernel
theorem dX7_requireIndex_5 : decode cX7_requireIndex 5 = .ok (.iload_n 1, 1) := by decide +kernel
theorem dX7_requireIndex_6 : decode cX7_requireIndex 6 = .ok (.if_icmp .lt 14, 3) := by decide +kernel
theorem dX7_requireIndex_9 : decode cX7_requireIndex 9 = .ok (.new 276, 3) := by decide +kernel
theorem dX7_requireIndex_12 : decode cX7_requireIndex 12 = .ok (.dup, 1) := by decide +kernel
theorem dX7_requireIndex_13 : decode cX7_requireIndex 13 = .ok (.ldc_w 283, 3) := by decide +kernel
theorem dX7_requireIndex_16 : decode cX7_requireIndex 16 = .ok (.invokespecial 280, 3) := by decide +kernel
theorem dX7_requireIndex_19 : decode cX7_requireIndex 19 = .ok (.athrow, 1) := by decide +kernel
theorem dX7_requireIndex_20 : decode cX7_requireIndex 20 = .ok (.return_, 1) := by decide +kernel
theorem dX7_requireRange_0 : decode cX7_requireRange 0 = .ok (.iload_n 0, 1) := by decide +kernel
theorem dX7_requireRange_1 : decode cX7_requireRange 1 = .ok (.iload_n 1, 1) := by decide +kernel
theorem dX7_requireRange_2 : decode cX7_requireRange 2 = .ok (.if_icmp .lt 8, 3) := by decide +kernel
theorem dX7_requireRange_5 : decode cX7_requireRange 5 = .ok (.iload_n 0, 1) := by decide +kernel
theorem dX7_requireRange_6 : decode cX7_requireRange 6 = .ok (.iload_n 2, 1) := by decide +kernel
theorem dX7_requireRange_7 : decode cX7_requireRange 7 = .ok (.if_icmp .le 14, 3) := by decide +kernel
theorem dX7_requireRange_10 : decode cX7_requireRange 10 = .ok (.new 285, 3) := by decide +kernel
theorem dX7_requireRange_13 : decode cX7_requireRange 13 = .ok (.dup, 1) := by decide +kernel
theorem dX7_requireRange_14 : decode cX7_requireRange 14 = .ok (.ldc_w 287, 3) := by decide +kernel
theorem dX7_requireRange_17 : decode cX7_requireRange 17 = .ok (.invokespecial 289, 3) := by decide +kernel
theorem dX7_requireRange_20 : decode cX7_requireRange 20 = .ok (.athrow, 1) := by decide +kernel
theorem dX7_requireRange_21 : decode cX7_requireRange 21 = .ok (.return_, 1) := by decide +kernel
theorem dX7_requireState_0 : decode cX7_requireState 0 = .ok (.iload_n 0, 1) := by decide +kernel
theorem dX7_requireState_1 : decode cX7_requireState 1 = .ok (.ifCond .ne 14, 3) := by decide +kernel
theorem dX7_requireState_4 : decode cX7_requireState 4 = .ok (.new 290, 3) := by decide +kernel
theorem dX7_requireState_7 : decode cX7_requireState 7 = .ok (.dup, 1) := by decide +kernel
theorem dX7_requireState_8 : decode cX7_requireState 8 = .ok (.ldc_w 292, 3) := by decide +kernel
theorem dX7_requireState_11 : decode cX7_requireState 11 = .ok (.invokespecial 294, 3) := by decide +kernel
theorem dX7_requireState_14 : decode cX7_requireState 14 = .ok (.athrow, 1) := by decide +kernel
theorem dX7_requireState_15 : decode cX7_requireState 15 = .ok (.return_, 1) := by decide +kernel
theorem dX7_isSegment_0 : decode cX7_isSegment 0 = .ok (.iload_n 0, 1) := by decide +kernel
theorem dX7_isSegment_1 : decode cX7_isSegment 1 = .ok (.ifCond .lt 13, 3) := by decide +kernel
theorem dX7_isSegment_4 : decode cX7_isSegment 4 = .ok (.iload_n 0, 1) := by decide +kernel
theorem dX7_isSegment_5 : decode cX7_isSegment 5 = .ok (.bipush 12, 2) := by decide +kernel
theorem dX7_isSegment_7 : decode cX7_isSegment 7 = .ok (.if_icmp .ge 7, 3) := by decide +kernel
theorem dX7_isSegment_10 : decode cX7_isSegment 10 = .ok (.iconst 1, 1) := by decide +kernel
theorem dX7_isSegment_11 : decode cX7_isSegment 11 = .ok (.goto 4, 3) := by decide +kernel
theorem dX7_isSegment_14 : decode cX7_isSegment 14 = .ok (.iconst 0, 1) := by decide +kernel
theorem dX7_isSegment_15 : decode cX7_isSegment 15 = .ok (.ireturn, 1) := by decide +kernel
theorem dX8_init_0 : decode cX8_init 0 = .ok (.aload_n 0, 1) := by decide +kernel
theorem dX8_init_1 : decode cX8_init 1 = .ok (.invokespecial 1, 3) := by decide +kernel
theorem dX8_init_4 : decode cX8_init 4 = .ok (.aload_n 0, 1) := by decide +kernel
theorem dX8_init_5 : decode cX8_init 5 = .ok (.bipush 12, 2) := by decide +kernel
theorem dX8_init_7 : decode cX8_init 7 = .ok (.newarray .int, 2) := by decide +kernel
theorem dX8_init_9 : decode cX8_init 9 = .ok (.putfield 7, 3) := by decide +kernel
theorem dX8_init_12 : decode cX8_init 12 = .ok (.aload_n 0, 1) := by decide +kernel
theorem dX8_init_13 : decode cX8_init 13 = .ok (.bipush 12, 2) := by decide +kernel
theorem dX8_init_15 : decode cX8_init 15 = .ok (.newarray .int, 2) := by decide +kernel
theorem dX8_init_17 : decode cX8_init 17 = .ok (.putfield 13, 3) := by decide +kernel
theorem dX8_init_20 : decode cX8_init 20 = .ok (.aload_n 0, 1) := by decide +kernel
theorem dX8_init_21 : decode cX8_init 21 = .ok (.iconst 3, 1) := by decide +kernel
theorem dX8_init_22 : decode cX8_init 22 = .ok (.newarray .int, 2) := by decide +kernel
theorem dX8_init_24 : decode cX8_init 24 = .ok (.putfield 16, 3) := by decide +kernel
theorem dX8_init_27 : decode cX8_init 27 = .ok (.aload_n 0, 1) := by decide +kernel
theorem dX8_init_28 : decode cX8_init 28 = .ok (.iconst 3, 1) := by decide +kernel
theorem dX8_init_29 : decode cX8_init 29 = .ok (.newarray .int, 2) := by decide +kernel
theorem dX8_init_31 : decode cX8_init 31 = .ok (.putfield 19, 3) := by decide +kernel
theorem dX8_init_34 : decode cX8_init 34 = .ok (.aload_n 0, 1) := by decide +kernel
theorem dX8_init_35 : decode cX8_init 35 = .ok (.iconst 3, 1) := by decide +kernel
theorem dX8_init_36 : decode cX8_init 36 = .ok (.newarray .boolean, 2) := by decide +kernel
theorem dX8_init_38 : decode cX8_init 38 = .ok (.putfield 22, 3) := by decide +kernel
theorem dX8_init_41 : decode cX8_init 41 = .ok (.aload_n 0, 1) := by decide +kernel
theorem dX8_init_42 : decode cX8_init 42 = .ok (.bipush 6, 2) := by decide +kernel
theorem dX8_init_44 : decode cX8_init 44 = .ok (.putfield 26, 3) := by decide +kernel
theorem dX8_init_47 : decode cX8_init 47 = .ok (.aload_n 0, 1) := by decide +kernel
theorem dX8_init_48 : decode cX8_init 48 = .ok (.bipush 30, 2) := by decide +kernel
theorem dX8_init_50 : decode cX8_init 50 = .ok (.putfield 30, 3) := by decide +kernel
theorem dX8_init_53 : decode cX8_init 53 = .ok (.aload_n 0, 1) := by decide +kernel
theorem dX8_init_54 : decode cX8_init 54 = .ok (.iconst 2, 1) := by decide +kernel
theorem dX8_init_55 : decode cX8_init 55 = .ok (.newarray .boolean, 2) := by decide +kernel
theorem dX8_init_57 : decode cX8_init 57 = .ok (.putfield 33, 3) := by decide +kernel
theorem dX8_init_60 : decode cX8_init 60 = .ok (.aload_n 0, 1) := by decide +kernel
theorem dX8_init_61 : decode cX8_init 61 = .ok (.iconst (-1), 1) := by decide +kernel
theorem dX8_init_62 : decode cX8_init 62 = .ok (.putfield 36, 3) := by decide +kernel
theorem dX8_init_65 : decode cX8_init 65 = .ok (.aload_n 0, 1) := by decide +kernel
theorem dX8_init_66 : decode cX8_init 66 = .ok (.bipush 36, 2) := by decide +kernel
theorem dX8_init_68 : decode cX8_init 68 = .ok (.newarray .boolean, 2) := by decide +kernel
theorem dX8_init_70 : decode cX8_init 70 = .ok (.putfield 39, 3) := by decide +kernel
theorem dX8_init_73 : decode cX8_init 73 = .ok (.aload_n 0, 1) := by decide +kernel
theorem dX8_init_74 : decode cX8_init 74 = .ok (.iconst (-1), 1) := by decide +kernel
theorem dX8_init_75 : decode cX8_init 75 = .ok (.putfield 42, 3) := by decide +kernel
theorem dX8_init_78 : decode cX8_init 78 = .ok (.aload_n 0, 1) := by decide +kernel
theorem dX8_init_79 : decode cX8_init 79 = .ok (.bipush 10, 2) := by decide +kernel
theorem dX8_init_81 : decode cX8_init 81 = .ok (.newarray .int, 2) := by decide +kernel
theorem dX8_init_83 : decode cX8_init 83 = .ok (.putfield 45, 3) := by decide +kernel
theorem dX8_init_86 : decode cX8_init 86 = .ok (.aload_n 0, 1) := by decide +kernel
theorem dX8_init_87 : decode cX8_init 87 = .ok (.bipush 10, 2) := by decide +kernel
theorem dX8_init_89 : decode cX8_init 89 = .ok (.newarray .int, 2) := by decide +kernel
theorem dX8_init_91 : decode cX8_init 91 = .ok (.putfield 48, 3) := by decide +kernel
theorem dX8_init_94 : decode cX8_init 94 = .ok (.aload_n 0, 1) := by decide +kernel
theorem dX8_init_95 : decode cX8_init 95 = .ok (.bipush 10, 2) := by decide +kernel
theorem dX8_init_97 : decode cX8_init 97 = .ok (.newarray .int, 2) := by decide +kernel
theorem dX8_init_99 : decode cX8_init 99 = .ok (.putfield 51, 3) := by decide +kernel
theorem dX8_init_102 : decode cX8_init 102 = .ok (.aload_n 0, 1) := by decide +kernel
theorem dX8_init_103 : decode cX8_init 103 = .ok (.bipush 30, 2) := by decide +kernel
theorem dX8_init_105 : decode cX8_init 105 = .ok (.newarray .int, 2) := by decide +kernel
theorem dX8_init_107 : decode cX8_init 107 = .ok (.putfield 54, 3) := by decide +kernel
theorem dX8_init_110 : decode cX8_init 110 = .ok (.aload_n 0, 1) := by decide +kernel
theorem dX8_init_111 : decode cX8_init 111 = .ok (.bipush 30, 2) := by decide +kernel
theorem dX8_init_113 : decode cX8_init 113 = .ok (.newarray .int, 2) := by decide +kernel
theorem dX8_init_115 : decode cX8_init 115 = .ok (.putfield 57, 3) := by decide +kernel
theorem dX8_init_118 : decode cX8_init 118 = .ok (.aload_n 0, 1) := by decide +kernel
theorem dX8_init_119 : decode cX8_init 119 = .ok (.bipush 30, 2) := by decide +kernel
theorem dX8_init_121 : decode cX8_init 121 = .ok (.newarray .int, 2) := by decide +kernel
theorem dX8_init_123 : decode cX8_init 123 = .ok (.putfield 60, 3) := by decide +kernel
theorem dX8_init_126 : decode cX8_init 126 = .ok (.aload_n 0, 1) := by decide +kernel
theorem dX8_init_127 : decode cX8_init 127 = .ok (.bipush 30, 2) := by decide +kernel
theorem dX8_init_129 : decode cX8_init 129 = .ok (.newarray .int, 2) := by decide +kernel
theorem dX8_init_131 : decode cX8_init 131 = .ok (.putfield 63, 3) := by decide +kernel
theorem dX8_init_134 : decode cX8_init 134 = .ok (.return_, 1) := by decide +kernel
theorem dX8_thrown_0 : decode cX8_thrown 0 = .ok (.aload_n 0, 1) := by decide +kernel
theorem dX8_thrown_1 : decode cX8_thrown 1 = .ok (.getfield 66, 3) := by decide +kernel
theorem dX8_thrown_4 : decode cX8_thrown 4 = .ok (.ireturn, 1) := by decide +kernel
theorem dX8_goes_0 : decode cX8_goes 0 = .ok (.aload_n 0, 1) := by decide +kernel
theorem dX8_goes_1 : decode cX8_goes 1 = .ok (.iload_n 1, 1) := by decide +kernel
theorem dX8_goes_2 : decode cX8_goes 2 = .ok (.ifCond .ne 7, 3) := by decide +kernel
theorem dX8_goes_5 : decode cX8_goes 5 = .ok (.iconst 1, 1) := by decide +kernel
theorem dX8_goes_6 : decode cX8_goes 6 = .ok (.goto 20, 3) := by decide +kernel
theorem dX8_goes_9 : decode cX8_goes 9 = .ok (.iload_n 2, 1) := by decide +kernel
theorem dX8_goes_10 : decode cX8_goes 10 = .ok (.ifCond .ne 7, 3) := by decide +kernel
theorem dX8_goes_13 : decode cX8_goes 13 = .ok (.iconst 2, 1) := by decide +kernel
theorem dX8_goes_14 : decode cX8_goes 14 = .ok (.goto 12, 3) := by decide +kernel
theorem dX8_goes_17 : decode cX8_goes 17 = .ok (.iload_n 3, 1) := by decide +kernel
theorem dX8_goes_18 : decode cX8_goes 18 = .ok (.ifCond .ne 7, 3) := by decide +kernel
theorem dX8_goes_21 : decode cX8_goes 21 = .ok (.iconst 3, 1) := by decide +kernel
theorem dX8_goes_22 : decode cX8_goes 22 = .ok (.goto 4, 3) := by decide +kernel
theorem dX8_goes_25 : decode cX8_goes 25 = .ok (.iconst 0, 1) := by decide +kernel
theorem dX8_goes_26 : decode cX8_goes 26 = .ok (.putfield 66, 3) := by decide +kernel
theorem dX8_goes_29 : decode cX8_goes 29 = .ok (.aload_n 0, 1) := by decide +kernel
theorem dX8_goes_30 : decode cX8_goes 30 = .ok (.getfield 66, 3) := by decide +kernel
theorem dX8_goes_33 : decode cX8_goes 33 = .ok (.ifCond .ne 7, 3) := by decide +kernel
theorem dX8_goes_36 : decode cX8_goes 36 = .ok (.iconst 1, 1) := by decide +kernel
theorem dX8_goes_37 : decode cX8_goes 37 = .ok (.goto 4, 3) := by decide +kernel
theorem dX8_goes_40 : decode cX8_goes 40 = .ok (.iconst 0, 1) := by decide +kernel
theorem dX8_goes_41 : decode cX8_goes 41 = .ok (.ireturn, 1) := by decide +kernel
theorem dX8_isBetween_0 : decode cX8_isBetween 0 = .ok (.iload_n 0, 1) := by decide +kernel
theorem dX8_isBetween_1 : decode cX8_isBetween 1 = .ok (.iload_n 1, 1) := by decide +kernel
theorem dX8_isBetween_2 : decode cX8_isBetween 2 = .ok (.if_icmp .lt 12, 3) := by decide +kernel
theorem dX8_isBetween_5 : decode cX8_isBetween 5 = .ok (.iload_n 0, 1) := by decide +kernel
theorem dX8_isBetween_6 : decode cX8_isBetween 6 = .ok (.iload_n 2, 1) := by decide +kernel
theorem dX8_isBetween_7 : decode cX8_isBetween 7 = .ok (.if_icmp .gt 7, 3) := by decide +kernel
theorem dX8_isBetween_10 : decode cX8_isBetween 10 = .ok (.iconst 1, 1) := by decide +kernel
theorem dX8_isBetween_11 : decode cX8_isBetween 11 = .ok (.goto 4, 3) := by decide +kernel
theorem dX8_isBetween_14 : decode cX8_isBetween 14 = .ok (.iconst 0, 1) := by decide +kernel
theorem dX8_isBetween_15 : decode cX8_isBetween 15 = .ok (.ireturn, 1) := by decide +kernel
set_option maxRecDepth 20000 in
theorem ggX8_isSegment_X8_isBetween : GoodIn wsX8_isSegment wsX8_isBetween := goodIn_r _ [4] (by decide +kernel) (by decide +kernel)
set_option maxRecDepth 20000 in
theorem gX8_isSegment_X8_isBetween : GoodIn wsX8_isSegment (va_wsS RX8 69 yX8_isBetween wsX8_isBetween) := goodIn_app (goodIn_of _ (by decide +kernel)) ggX8_isSegment_X8_isBetween
theorem dX8_isSegment_0 : decode cX8_isSegment 0 = .ok (.iload_n 0, 1) := by decide +kernel
theorem dX8_isSegment_1 : decode cX8_isSegment 1 = .ok (.iconst 0, 1) := by decide +kernel
theorem dX8_isSegment_2 : decode cX8_isSegment 2 = .ok (.bipush 11, 2) := by decide +kernel
theorem dX8_isSegment_4 : decode cX8_isSegment 4 = .ok (.invokestatic 69, 3) := by decide +kernel
theorem dX8_isSegment_7 : decode cX8_isSegment 7 = .ok (.ireturn, 1) := by decide +kernel
set_option maxRecDepth 20000 in
theorem ggX8_isFan_X8_isBetween : GoodIn wsX8_isFan wsX8_isBetween := goodIn_r _ [4] (by decide +kernel) (by decide +kernel)
set_option maxRecDepth 20000 in
theorem gX8_isFan_X8_isBetween : GoodIn wsX8_isFan (va_wsS RX8 69 yX8_isBetween wsX8_isBetween) := goodIn_app (goodIn_of _ (by decide +kernel)) ggX8_isFan_X8_isBetween
theorem dX8_isFan_0 : decode cX8_isFan 0 = .ok (.iload_n 0, 1) := by decide +kernel
theorem dX8_isFan_1 : decode cX8_isFan 1 = .ok (.iconst 0, 1) := by decide +kernel
theorem dX8_isFan_2 : decode cX8_isFan 2 = .ok (.iconst 2, 1) := by decide +kernel
theorem dX8_isFan_3 : decode cX8_isFan 3 = .ok (.invokestatic 69, 3) := by decide +kernel
theorem dX8_isFan_6 : decode cX8_isFan 6 = .ok (.ireturn, 1) := by decide +kernel
theorem dX8_isIn_0 : decode cX8_isIn 0 = .ok (.iload_n 1, 1) := by decide +kernel
theorem dX8_isIn_1 : decode cX8_isIn 1 = .ok (.iload_n 0, 1) := by decide +kernel
theorem dX8_isIn_2 : decode cX8_isIn 2 = .ok (.ishr, 1) := by decide +kernel
theorem dX8_isIn_3 : decode cX8_isIn 3 = .ok (.iconst 1, 1) := by decide +kernel
theorem dX8_isIn_4 : decode cX8_isIn 4 = .ok (.iand, 1) := by decide +kernel
theorem dX8_isIn_5 : decode cX8_isIn 5 = .ok (.iconst 1, 1) := by decide +kernel
theorem dX8_isIn_6 : decode cX8_isIn 6 = .ok (.if_icmp .ne 7, 3) := by decide +kernel
theorem dX8_isIn_9 : decode cX8_isIn 9 = .ok (.iconst 1, 1) := by decide +kernel
theorem dX8_isIn_10 : decode cX8_isIn 10 = .ok (.goto 4, 3) := by decide +kernel
theorem dX8_isIn_13 : decode cX8_isIn 13 = .ok (.iconst 0, 1) := by decide +kernel
theorem dX8_isIn_14 : decode cX8_isIn 14 = .ok (.ireturn, 1) := by decide +kernel
theorem dX8_hasPower_0 : decode cX8_hasPower 0 = .ok (.aload_n 0, 1) := by decide +kernel
theorem dX8_hasPower_1 : decode cX8_hasPower 1 = .ok (.getfield 33, 3) := by decide +kernel
theorem dX8_hasPower_4 : decode cX8_hasPower 4 = .ok (.iconst 0, 1) := by decide +kernel
theorem dX8_hasPower_5 : decode cX8_hasPower 5 = .ok (.baload, 1) := by decide +kernel
theorem dX8_hasPower_6 : decode cX8_hasPower 6 = .ok (.ifCond .eq 12, 3) := by decide +kernel
theorem dX8_hasPower_9 : decode cX8_hasPower 9 = .ok (.aload_n 0, 1) := by decide +kernel
theorem dX8_hasPower_10 : decode cX8_hasPower 10 = .ok (.getfield 33, 3) := by decide +kernel
theorem dX8_hasPower_13 : decode cX8_hasPower 13 = .ok (.iconst 1, 1) := by decide +kernel
theorem dX8_hasPower_14 : decode cX8_hasPower 14 = .ok (.baload, 1) := by decide +kernel
theorem dX8_hasPower_15 : decode cX8_hasPower 15 = .ok (.ifCond .ne 7, 3) := by decide +kernel
theorem dX8_hasPower_18 : decode cX8_hasPower 18 = .ok (.iconst 1, 1) := by decide +kernel
theorem dX8_hasPower_19 : decode cX8_hasPower 19 = .ok (.goto 4, 3) := by decide +kernel
theorem dX8_hasPower_22 : decode cX8_hasPower 22 = .ok (.iconst 0, 1) := by decide +kernel
theorem dX8_hasPower_23 : decode cX8_hasPower 23 = .ok (.ireturn, 1) := by decide +kernel
set_option maxRecDepth 20000 in
theorem ggX8_build_X8_isSegment : GoodIn wsX8_build wsX8_isSegment := goodIn_r _ [10, 11, 12, 9, 13] (by decide +kernel) (by decide +kernel)
set_option maxRecDepth 20000 in
theorem gX8_build_X8_isSegment : GoodIn wsX8_build (va_wsS RX8 73 yX8_isSegment wsX8_isSegment) := goodIn_app (goodIn_of _ (by decide +kernel)) ggX8_build_X8_isSegment
set_option maxRecDepth 20000 in
theorem ggX8_build_X8_isBetween : GoodIn wsX8_build wsX8_isBetween := goodIn_r _ [13] (by decide +kernel) (by decide +kernel)
set_option maxRecDepth 20000 in
theorem gX8_build_X8_isBetween : GoodIn wsX8_build (va_wsS RX8 69 yX8_isBetween wsX8_isBetween) := goodIn_app (goodIn_of _ (by decide +kernel)) ggX8_build_X8_isBetween
set_option maxRecDepth 20000 in
theorem ggX8_build_X8_goes : GoodIn wsX8_build wsX8_goes := goodIn_r _ [17, 18, 19, 20, 21, 22, 23, 24, 25, 26, 27, 28, 29, 30, 31, 32, 33, 34, 35, 36, 37, 38, 39, 40, 41, 42, 43, 44, 45, 46, 47, 48, 49, 50, 51, 52, 53, 54, 55] (by decide +kernel) (by decide +kernel)
set_option maxRecDepth 20000 in
theorem gX8_build_X8_goes : GoodIn wsX8_build (wsV RX8 80 RX8 yX8_goes wsX8_goes) := goodIn_app (goodIn_of _ (by decide +kernel)) ggX8_build_X8_goes
theorem dX8_build_0 : decode cX8_build 0 = .ok (.aload_n 0, 1) := by decide +kernel
theorem dX8_build_1 : decode cX8_build 1 = .ok (.iload_n 2, 1) := by decide +kernel
theorem dX8_build_2 : decode cX8_build 2 = .ok (.invokestatic 73, 3) := by decide +kernel
theorem dX8_build_5 : decode cX8_build 5 = .ok (.iload_n 1, 1) := by decide +kernel
theorem dX8_build_6 : decode cX8_build 6 = .ok (.iconst 0, 1) := by decide +kernel
theorem dX8_build_7 : decode cX8_build 7 = .ok (.sipush 4095, 3) := by decide +kernel
theorem dX8_build_10 : decode cX8_build 10 = .ok (.invokestatic 69, 3) := by decide +kernel
theorem dX8_build_13 : decode cX8_build 13 = .ok (.aload_n 0, 1) := by decide +kernel
theorem dX8_build_14 : decode cX8_build 14 = .ok (.getfield 77, 3) := by decide +kernel
theorem dX8_build_17 : decode cX8_build 17 = .ok (.ifCond .ne 7, 3) := by decide +kernel
theorem dX8_build_20 : decode cX8_build 20 = .ok (.iconst 1, 1) := by decide +kernel
theorem dX8_build_21 : decode cX8_build 21 = .ok (.goto 4, 3) := by decide +kernel
theorem dX8_build_24 : decode cX8_build 24 = .ok (.iconst 0, 1) := by decide +kernel
theorem dX8_build_25 : decode cX8_build 25 = .ok (.invokevirtual 80, 3) := by decide +kernel
theorem dX8_build_28 : decode cX8_build 28 = .ok (.ifCond .ne 4, 3) := by decide +kernel
theorem dX8_build_31 : decode cX8_build 31 = .ok (.return_, 1) := by decide +kernel
theorem dX8_build_32 : decode cX8_build 32 = .ok (.aload_n 0, 1) := by decide +kernel
theorem dX8_build_33 : decode cX8_build 33 = .ok (.iload_n 1, 1) := by decide +kernel
theorem dX8_build_34 : decode cX8_build 34 = .ok (.putfield 84, 3) := by decide +kernel
theorem dX8_build_37 : decode cX8_build 37 = .ok (.aload_n 0, 1) := by decide +kernel
theorem dX8_build_38 : decode cX8_build 38 = .ok (.iconst 0, 1) := by decide +kernel
theorem dX8_build_39 : decode cX8_build 39 = .ok (.putfield 87, 3) := by decide +kernel
theorem dX8_build_42 : decode cX8_build 42 = .ok (.aload_n 0, 1) := by decide +kernel
theorem dX8_build_43 : decode cX8_build 43 = .ok (.iconst 0, 1) := by decide +kernel
theorem dX8_build_44 : decode cX8_build 44 = .ok (.putfield 90, 3) := by decide +kernel
theorem dX8_build_47 : decode cX8_build 47 = .ok (.aload_n 0, 1) := by decide +kernel
theorem dX8_build_48 : decode cX8_build 48 = .ok (.iload_n 2, 1) := by decide +kernel
theorem dX8_build_49 : decode cX8_build 49 = .ok (.putfield 26, 3) := by decide +kernel
theorem dX8_build_52 : decode cX8_build 52 = .ok (.aload_n 0, 1) := by decide +kernel
theorem dX8_build_53 : decode cX8_build 53 = .ok (.iconst 0, 1) := by decide +kernel
theorem dX8_build_54 : decode cX8_build 54 = .ok (.putfield 93, 3) := by decide +kernel
theorem dX8_build_57 : decode cX8_build 57 = .ok (.return_, 1) := by decide +kernel
set_option maxRecDepth 20000 in
theorem ggX8_people_X8_isBetween : GoodIn wsX8_people wsX8_isBetween := goodIn_r _ [7] (by decide +kernel) (by decide +kernel)
set_option maxRecDepth 20000 in
theorem gX8_people_X8_isBetween : GoodIn wsX8_people (va_wsS RX8 69 yX8_isBetween wsX8_isBetween) := goodIn_app (goodIn_of _ (by decide +kernel)) ggX8_people_X8_isBetween
set_option maxRecDepth 20000 in
theorem ggX8_people_X8_isSegment : GoodIn wsX8_people wsX8_isSegment := goodIn_r _ [10, 4, 5, 6, 7] (by decide +kernel) (by decide +kernel)
set_option maxRecDepth 20000 in
theorem gX8_people_X8_isSegment : GoodIn wsX8_people (va_wsS RX8 73 yX8_isSegment wsX8_isSegment) := goodIn_app (goodIn_of _ (by decide +kernel)) ggX8_people_X8_isSegment
set_option maxRecDepth 20000 in
theorem ggX8_people_X8_goes : GoodIn wsX8_people wsX8_goes := goodIn_r _ [14, 15, 16, 17, 18, 19, 20, 21, 22, 23, 24, 25, 26, 27, 28, 29, 30, 31, 32, 33, 34, 35, 36, 37, 38, 39, 40, 41, 42, 43, 44, 45, 46, 47, 48, 49, 50, 51, 52] (by decide +kernel) (by decide +kernel)
set_option maxRecDepth 20000 in
theorem gX8_people_X8_goes : GoodIn wsX8_people (wsV RX8 80 RX8 yX8_goes wsX8_goes) := goodIn_app (goodIn_of _ (by decide +kernel)) ggX8_people_X8_goes
theorem dX8_people_0 : decode cX8_people 0 = .ok (.iload_n 2, 1) := by decide +kernel
theorem dX8_people_1 : decode cX8_people 1 = .ok (.iconst 1, 1) := by decide +kernel
theorem dX8_people_2 : decode cX8_people 2 = .ok (.bipush 30, 2) := by decide +kernel
theorem dX8_people_4 : decode cX8_people 4 = .ok (.invokestatic 69, 3) := by decide +kernel
theorem dX8_people_7 : decode cX8_people 7 = .ok (.istore_n 3, 1) := by decide +kernel
theorem dX8_people_8 : decode cX8_people 8 = .ok (.aload_n 0, 1) := by decide +kernel
theorem dX8_people_9 : decode cX8_people 9 = .ok (.iload_n 1, 1) := by decide +kernel
theorem dX8_people_10 : decode cX8_people 10 = .ok (.invokestatic 73, 3) := by decide +kernel
theorem dX8_people_13 : decode cX8_people 13 = .ok (.iload_n 3, 1) := by decide +kernel
theorem dX8_people_14 : decode cX8_people 14 = .ok (.iload_n 3, 1) := by decide +kernel
theorem dX8_people_15 : decode cX8_people 15 = .ok (.ifCond .eq 18, 3) := by decide +kernel
theorem dX8_people_18 : decode cX8_people 18 = .ok (.aload_n 0, 1) := by decide +kernel
theorem dX8_people_19 : decode cX8_people 19 = .ok (.getfield 97, 3) := by decide +kernel
theorem dX8_people_22 : decode cX8_people 22 = .ok (.iload_n 2, 1) := by decide +kernel
theorem dX8_people_23 : decode cX8_people 23 = .ok (.iadd, 1) := by decide +kernel
theorem dX8_people_24 : decode cX8_people 24 = .ok (.bipush 30, 2) := by decide +kernel
theorem dX8_people_26 : decode cX8_people 26 = .ok (.if_icmp .gt 7, 3) := by decide +kernel
theorem dX8_people_29 : decode cX8_people 29 = .ok (.iconst 1, 1) := by decide +kernel
theorem dX8_people_30 : decode cX8_people 30 = .ok (.goto 4, 3) := by decide +kernel
theorem dX8_people_33 : decode cX8_people 33 = .ok (.iconst 0, 1) := by decide +kernel
theorem dX8_people_34 : decode cX8_people 34 = .ok (.invokevirtual 80, 3) := by decide +kernel
theorem dX8_people_37 : decode cX8_people 37 = .ok (.ifCond .ne 5, 3) := by decide +kernel
theorem dX8_people_40 : decode cX8_people 40 = .ok (.iconst 0, 1) := by decide +kernel
theorem dX8_people_41 : decode cX8_people 41 = .ok (.ireturn, 1) := by decide +kernel
theorem dX8_people_42 : decode cX8_people 42 = .ok (.iconst 0, 1) := by decide +kernel
theorem dX8_people_43 : decode cX8_people 43 = .ok (.istore 4, 2) := by decide +kernel
theorem dX8_people_45 : decode cX8_people 45 = .ok (.iload 4, 2) := by decide +kernel
theorem dX8_people_47 : decode cX8_people 47 = .ok (.iload_n 2, 1) := by decide +kernel
theorem dX8_people_48 : decode cX8_people 48 = .ok (.if_icmp .ge 39, 3) := by decide +kernel
theorem dX8_people_51 : decode cX8_people 51 = .ok (.aload_n 0, 1) := by decide +kernel
theorem dX8_people_52 : decode cX8_people 52 = .ok (.getfield 57, 3) := by decide +kernel
theorem dX8_people_55 : decode cX8_people 55 = .ok (.aload_n 0, 1) := by decide +kernel
theorem dX8_people_56 : decode cX8_people 56 = .ok (.getfield 97, 3) := by decide +kernel
theorem dX8_people_59 : decode cX8_people 59 = .ok (.iload_n 1, 1) := by decide +kernel
theorem dX8_people_60 : decode cX8_people 60 = .ok (.iastore, 1) := by decide +kernel
theorem dX8_people_61 : decode cX8_people 61 = .ok (.aload_n 0, 1) := by decide +kernel
theorem dX8_people_62 : decode cX8_people 62 = .ok (.getfield 63, 3) := by decide +kernel
theorem dX8_people_65 : decode cX8_people 65 = .ok (.aload_n 0, 1) := by decide +kernel
theorem dX8_people_66 : decode cX8_people 66 = .ok (.getfield 97, 3) := by decide +kernel
theorem dX8_people_69 : decode cX8_people 69 = .ok (.iconst (-1), 1) := by decide +kernel
theorem dX8_people_70 : decode cX8_people 70 = .ok (.iastore, 1) := by decide +kernel
theorem dX8_people_71 : decode cX8_people 71 = .ok (.aload_n 0, 1) := by decide +kernel
theorem dX8_people_72 : decode cX8_people 72 = .ok (.dup, 1) := by decide +kernel
theorem dX8_people_73 : decode cX8_people 73 = .ok (.getfield 97, 3) := by decide +kernel
theorem dX8_people_76 : decode cX8_people 76 = .ok (.iconst 1, 1) := by decide +kernel
theorem dX8_people_77 : decode cX8_people 77 = .ok (.iadd, 1) := by decide +kernel
theorem dX8_people_78 : decode cX8_people 78 = .ok (.putfield 97, 3) := by decide +kernel
theorem dX8_people_81 : decode cX8_people 81 = .ok (.iinc 4 1, 3) := by decide +kernel
theorem dX8_people_84 : decode cX8_people 84 = .ok (.goto (-39), 3) := by decide +kernel
theorem dX8_people_87 : decode cX8_people 87 = .ok (.aload_n 0, 1) := by decide +kernel
theorem dX8_people_88 : decode cX8_people 88 = .ok (.getfield 97, 3) := by decide +kernel
theorem dX8_people_91 : decode cX8_people 91 = .ok (.ireturn, 1) := by decide +kernel
set_option maxRecDepth 20000 in
theorem ggX8_wind_X8_isBetween : GoodIn wsX8_wind wsX8_isBetween := goodIn_r _ [5] (by decide +kernel) (by decide +kernel)
set_option maxRecDepth 20000 in
theorem gX8_wind_X8_isBetween : GoodIn wsX8_wind (va_wsS RX8 69 yX8_isBetween wsX8_isBetween) := goodIn_app (goodIn_of _ (by decide +kernel)) ggX8_wind_X8_isBetween
set_option maxRecDepth 20000 in
theorem ggX8_wind_X8_goes : GoodIn wsX8_wind wsX8_goes := goodIn_r _ [9, 10, 11, 12, 13, 14, 15, 16, 17, 18, 19, 20, 21, 22, 23, 24, 25, 26, 27, 28, 29, 30, 31, 32, 33, 34, 35, 36, 37, 38, 39, 40, 41, 42, 43, 44, 45, 46, 47] (by decide +kernel) (by decide +kernel)
set_option maxRecDepth 20000 in
theorem gX8_wind_X8_goes : GoodIn wsX8_wind (wsV RX8 80 RX8 yX8_goes wsX8_goes) := goodIn_app (goodIn_of _ (by decide +kernel)) ggX8_wind_X8_goes
theorem dX8_wind_0 : decode cX8_wind 0 = .ok (.aload_n 0, 1) := by decide +kernel
theorem dX8_wind_1 : decode cX8_wind 1 = .ok (.iload_n 1, 1) := by decide +kernel
theorem dX8_wind_2 : decode cX8_wind 2 = .ok (.bipush (-40), 2) := by decide +kernel
theorem dX8_wind_4 : decode cX8_wind 4 = .ok (.bipush 40, 2) := by decide +kernel
theorem dX8_wind_6 : decode cX8_wind 6 = .ok (.invokestatic 69, 3) := by decide +kernel
theorem dX8_wind_9 : decode cX8_wind 9 = .ok (.iconst 1, 1) := by decide +kernel
theorem dX8_wind_10 : decode cX8_wind 10 = .ok (.iconst 1, 1) := by decide +kernel
theorem dX8_wind_11 : decode cX8_wind 11 = .ok (.invokevirtual 80, 3) := by decide +kernel
theorem dX8_wind_14 : decode cX8_wind 14 = .ok (.ifCond .ne 5, 3) := by decide +kernel
theorem dX8_wind_17 : decode cX8_wind 17 = .ok (.iconst 0, 1) := by decide +kernel
theorem dX8_wind_18 : decode cX8_wind 18 = .ok (.ireturn, 1) := by decide +kernel
theorem dX8_wind_19 : decode cX8_wind 19 = .ok (.aload_n 0, 1) := by decide +kernel
theorem dX8_wind_20 : decode cX8_wind 20 = .ok (.getfield 100, 3) := by decide +kernel
theorem dX8_wind_23 : decode cX8_wind 23 = .ok (.istore_n 2, 1) := by decide +kernel
theorem dX8_wind_24 : decode cX8_wind 24 = .ok (.aload_n 0, 1) := by decide +kernel
theorem dX8_wind_25 : decode cX8_wind 25 = .ok (.iload_n 1, 1) := by decide +kernel
theorem dX8_wind_26 : decode cX8_wind 26 = .ok (.putfield 100, 3) := by decide +kernel
theorem dX8_wind_29 : decode cX8_wind 29 = .ok (.iload_n 2, 1) := by decide +kernel
theorem dX8_wind_30 : decode cX8_wind 30 = .ok (.ireturn, 1) := by decide +kernel
set_option maxRecDepth 20000 in
theorem ggX8_fire_X8_isSegment : GoodIn wsX8_fire wsX8_isSegment := goodIn_r _ [6, 7, 8, 5, 9] (by decide +kernel) (by decide +kernel)
set_option maxRecDepth 20000 in
theorem gX8_fire_X8_isSegment : GoodIn wsX8_fire (va_wsS RX8 73 yX8_isSegment wsX8_isSegment) := goodIn_app (goodIn_of _ (by decide +kernel)) ggX8_fire_X8_isSegment
set_option maxRecDepth 20000 in
theorem ggX8_fire_X8_isBetween : GoodIn wsX8_fire wsX8_isBetween := goodIn_r _ [9] (by decide +kernel) (by decide +kernel)
set_option maxRecDepth 20000 in
theorem gX8_fire_X8_isBetween : GoodIn wsX8_fire (va_wsS RX8 69 yX8_isBetween wsX8_isBetween) := goodIn_app (goodIn_of _ (by decide +kernel)) ggX8_fire_X8_isBetween
set_option maxRecDepth 20000 in
theorem ggX8_fire_X8_goes : GoodIn wsX8_fire wsX8_goes := goodIn_r _ [13, 14, 15, 16, 17, 18, 19, 20, 21, 22, 23, 24, 25, 26, 27, 28, 29, 30, 31, 32, 33, 34, 35, 36, 37, 38, 39, 40, 41, 42, 43, 44, 45, 46, 47, 48, 49, 50, 51] (by decide +kernel) (by decide +kernel)
set_option maxRecDepth 20000 in
theorem gX8_fire_X8_goes : GoodIn wsX8_fire (wsV RX8 80 RX8 yX8_goes wsX8_goes) := goodIn_app (goodIn_of _ (by decide +kernel)) ggX8_fire_X8_goes
theorem dX8_fire_0 : decode cX8_fire 0 = .ok (.aload_n 0, 1) := by decide +kernel
theorem dX8_fire_1 : decode cX8_fire 1 = .ok (.iload_n 1, 1) := by decide +kernel
theorem dX8_fire_2 : decode cX8_fire 2 = .ok (.invokestatic 73, 3) := by decide +kernel
theorem dX8_fire_5 : decode cX8_fire 5 = .ok (.iload_n 2, 1) := by decide +kernel
theorem dX8_fire_6 : decode cX8_fire 6 = .ok (.iconst 1, 1) := by decide +kernel
theorem dX8_fire_7 : decode cX8_fire 7 = .ok (.sipush 200, 3) := by decide +kernel
theorem dX8_fire_10 : decode cX8_fire 10 = .ok (.invokestatic 69, 3) := by decide +kernel
theorem dX8_fire_13 : decode cX8_fire 13 = .ok (.aload_n 0, 1) := by decide +kernel
theorem dX8_fire_14 : decode cX8_fire 14 = .ok (.getfield 36, 3) := by decide +kernel
theorem dX8_fire_17 : decode cX8_fire 17 = .ok (.iconst (-1), 1) := by decide +kernel
theorem dX8_fire_18 : decode cX8_fire 18 = .ok (.if_icmp .ne 7, 3) := by decide +kernel
theorem dX8_fire_21 : decode cX8_fire 21 = .ok (.iconst 1, 1) := by decide +kernel
theorem dX8_fire_22 : decode cX8_fire 22 = .ok (.goto 4, 3) := by decide +kernel
theorem dX8_fire_25 : decode cX8_fire 25 = .ok (.iconst 0, 1) := by decide +kernel
theorem dX8_fire_26 : decode cX8_fire 26 = .ok (.invokevirtual 80, 3) := by decide +kernel
theorem dX8_fire_29 : decode cX8_fire 29 = .ok (.ifCond .ne 4, 3) := by decide +kernel
theorem dX8_fire_32 : decode cX8_fire 32 = .ok (.return_, 1) := by decide +kernel
theorem dX8_fire_33 : decode cX8_fire 33 = .ok (.aload_n 0, 1) := by decide +kernel
theorem dX8_fire_34 : decode cX8_fire 34 = .ok (.iload_n 1, 1) := by decide +kernel
theorem dX8_fire_35 : decode cX8_fire 35 = .ok (.putfield 36, 3) := by decide +kernel
theorem dX8_fire_38 : decode cX8_fire 38 = .ok (.aload_n 0, 1) := by decide +kernel
theorem dX8_fire_39 : decode cX8_fire 39 = .ok (.iload_n 2, 1) := by decide +kernel
theorem dX8_fire_40 : decode cX8_fire 40 = .ok (.putfield 103, 3) := by decide +kernel
theorem dX8_fire_43 : decode cX8_fire 43 = .ok (.return_, 1) := by decide +kernel
set_option maxRecDepth 20000 in
theorem ggX8_feed_X8_isBetween : GoodIn wsX8_feed wsX8_isBetween := goodIn_r _ [5] (by decide +kernel) (by decide +kernel)
set_option maxRecDepth 20000 in
theorem gX8_feed_X8_isBetween : GoodIn wsX8_feed (va_wsS RX8 69 yX8_isBetween wsX8_isBetween) := goodIn_app (goodIn_of _ (by decide +kernel)) ggX8_feed_X8_isBetween
set_option maxRecDepth 20000 in
theorem ggX8_feed_X8_goes : GoodIn wsX8_feed wsX8_goes := goodIn_r _ [9, 10, 15, 16, 17, 18, 19, 20, 21, 22, 23, 24, 25, 26, 27, 28, 29, 30, 31, 32, 33, 34, 35, 36, 37, 38, 39, 40, 41, 42, 43, 44, 45, 46, 47, 48, 49, 50, 51] (by decide +kernel) (by decide +kernel)
set_option maxRecDepth 20000 in
theorem gX8_feed_X8_goes : GoodIn wsX8_feed (wsV RX8 80 RX8 yX8_goes wsX8_goes) := goodIn_app (goodIn_of _ (by decide +kernel)) ggX8_feed_X8_goes
set_option maxRecDepth 20000 in
theorem ggX8_feed_X8_hasPower : GoodIn wsX8_feed wsX8_hasPower := goodIn_r _ [14, 1, 15, 16, 17, 18, 19, 20, 21, 22, 23, 24, 25, 26, 27, 28, 29, 30, 31, 32, 33, 34, 35, 36, 37, 38, 39, 40, 41, 42, 43, 44, 45, 46, 47, 48, 49, 50, 51] (by decide +kernel) (by decide +kernel)
set_option maxRecDepth 20000 in
theorem gX8_feed_X8_hasPower : GoodIn wsX8_feed (wsV RX8 106 RX8 yX8_hasPower wsX8_hasPower) := goodIn_app (goodIn_of _ (by decide +kernel)) ggX8_feed_X8_hasPower
theorem dX8_feed_0 : decode cX8_feed 0 = .ok (.aload_n 0, 1) := by decide +kernel
theorem dX8_feed_1 : decode cX8_feed 1 = .ok (.iload_n 1, 1) := by decide +kernel
theorem dX8_feed_2 : decode cX8_feed 2 = .ok (.iconst 0, 1) := by decide +kernel
theorem dX8_feed_3 : decode cX8_feed 3 = .ok (.iconst 1, 1) := by decide +kernel
theorem dX8_feed_4 : decode cX8_feed 4 = .ok (.invokestatic 69, 3) := by decide +kernel
theorem dX8_feed_7 : decode cX8_feed 7 = .ok (.iconst 1, 1) := by decide +kernel
theorem dX8_feed_8 : decode cX8_feed 8 = .ok (.iconst 1, 1) := by decide +kernel
theorem dX8_feed_9 : decode cX8_feed 9 = .ok (.invokevirtual 80, 3) := by decide +kernel
theorem dX8_feed_12 : decode cX8_feed 12 = .ok (.ifCond .ne 5, 3) := by decide +kernel
theorem dX8_feed_15 : decode cX8_feed 15 = .ok (.iconst 0, 1) := by decide +kernel
theorem dX8_feed_16 : decode cX8_feed 16 = .ok (.ireturn, 1) := by decide +kernel
theorem dX8_feed_17 : decode cX8_feed 17 = .ok (.aload_n 0, 1) := by decide +kernel
theorem dX8_feed_18 : decode cX8_feed 18 = .ok (.getfield 33, 3) := by decide +kernel
theorem dX8_feed_21 : decode cX8_feed 21 = .ok (.iload_n 1, 1) := by decide +kernel
theorem dX8_feed_22 : decode cX8_feed 22 = .ok (.iload_n 2, 1) := by decide +kernel
theorem dX8_feed_23 : decode cX8_feed 23 = .ok (.ifCond .ne 7, 3) := by decide +kernel
theorem dX8_feed_26 : decode cX8_feed 26 = .ok (.iconst 1, 1) := by decide +kernel
theorem dX8_feed_27 : decode cX8_feed 27 = .ok (.goto 4, 3) := by decide +kernel
theorem dX8_feed_30 : decode cX8_feed 30 = .ok (.iconst 0, 1) := by decide +kernel
theorem dX8_feed_31 : decode cX8_feed 31 = .ok (.bastore, 1) := by decide +kernel
theorem dX8_feed_32 : decode cX8_feed 32 = .ok (.aload_n 0, 1) := by decide +kernel
theorem dX8_feed_33 : decode cX8_feed 33 = .ok (.invokevirtual 106, 3) := by decide +kernel
theorem dX8_feed_36 : decode cX8_feed 36 = .ok (.ireturn, 1) := by decide +kernel
set_option maxRecDepth 20000 in
theorem ggX8_failFan_X8_isFan : GoodIn wsX8_failFan wsX8_isFan := goodIn_r _ [6, 7, 8, 5, 9] (by decide +kernel) (by decide +kernel)
set_option maxRecDepth 20000 in
theorem gX8_failFan_X8_isFan : GoodIn wsX8_failFan (va_wsS RX8 110 yX8_isFan wsX8_isFan) := goodIn_app (goodIn_of _ (by decide +kernel)) ggX8_failFan_X8_isFan
set_option maxRecDepth 20000 in
theorem ggX8_failFan_X8_goes : GoodIn wsX8_failFan wsX8_goes := goodIn_r _ [13, 14, 15, 16, 17, 18, 19, 20, 21, 22, 23, 24, 25, 26, 27, 28, 29, 30, 31, 32, 33, 34, 35, 36, 37, 38, 39, 40, 41, 42, 43, 44, 45, 46, 47, 48, 49, 50, 51] (by decide +kernel) (by decide +kernel)
set_option maxRecDepth 20000 in
theorem gX8_failFan_X8_goes : GoodIn wsX8_failFan (wsV RX8 80 RX8 yX8_goes wsX8_goes) := goodIn_app (goodIn_of _ (by decide +kernel)) ggX8_failFan_X8_goes
theorem dX8_failFan_0 : decode cX8_failFan 0 = .ok (.aload_n 0, 1) := by decide +kernel
theorem dX8_failFan_1 : decode cX8_failFan 1 = .ok (.iload_n 1, 1) := by decide +kernel
theorem dX8_failFan_2 : decode cX8_failFan 2 = .ok (.invokestatic 110, 3) := by decide +kernel
theorem dX8_failFan_5 : decode cX8_failFan 5 = .ok (.iconst 1, 1) := by decide +kernel
theorem dX8_failFan_6 : decode cX8_failFan 6 = .ok (.iconst 1, 1) := by decide +kernel
theorem dX8_failFan_7 : decode cX8_failFan 7 = .ok (.invokevirtual 80, 3) := by decide +kernel
theorem dX8_failFan_10 : decode cX8_failFan 10 = .ok (.ifCond .ne 5, 3) := by decide +kernel
theorem dX8_failFan_13 : decode cX8_failFan 13 = .ok (.iconst 0, 1) := by decide +kernel
theorem dX8_failFan_14 : decode cX8_failFan 14 = .ok (.ireturn, 1) := by decide +kernel
theorem dX8_failFan_15 : decode cX8_failFan 15 = .ok (.aload_n 0, 1) := by decide +kernel
theorem dX8_failFan_16 : decode cX8_failFan 16 = .ok (.getfield 22, 3) := by decide +kernel
theorem dX8_failFan_19 : decode cX8_failFan 19 = .ok (.iload_n 1, 1) := by decide +kernel
theorem dX8_failFan_20 : decode cX8_failFan 20 = .ok (.iload_n 2, 1) := by decide +kernel
theorem dX8_failFan_21 : decode cX8_failFan 21 = .ok (.bastore, 1) := by decide +kernel
theorem dX8_failFan_22 : decode cX8_failFan 22 = .ok (.aload_n 0, 1) := by decide +kernel
theorem dX8_failFan_23 : decode cX8_failFan 23 = .ok (.getfield 19, 3) := by decide +kernel
theorem dX8_failFan_26 : decode cX8_failFan 26 = .ok (.iload_n 1, 1) := by decide +kernel
theorem dX8_failFan_27 : decode cX8_failFan 27 = .ok (.iaload, 1) := by decide +kernel
theorem dX8_failFan_28 : decode cX8_failFan 28 = .ok (.ireturn, 1) := by decide +kernel
set_option maxRecDepth 20000 in
theorem ggX8_failDoor_X8_isSegment : GoodIn wsX8_failDoor wsX8_isSegment := goodIn_r _ [7, 8, 9, 6, 10] (by decide +kernel) (by decide +kernel)
set_option maxRecDepth 20000 in
theorem gX8_failDoor_X8_isSegment : GoodIn wsX8_failDoor (va_wsS RX8 73 yX8_isSegment wsX8_isSegment) := goodIn_app (goodIn_of _ (by decide +kernel)) ggX8_failDoor_X8_isSegment
set_option maxRecDepth 20000 in
theorem ggX8_failDoor_X8_isIn : GoodIn wsX8_failDoor wsX8_isIn := goodIn_r _ [13] (by decide +kernel) (by decide +kernel)
set_option maxRecDepth 20000 in
theorem gX8_failDoor_X8_isIn : GoodIn wsX8_failDoor (va_wsS RX8 113 yX8_isIn wsX8_isIn) := goodIn_app (goodIn_of _ (by decide +kernel)) ggX8_failDoor_X8_isIn
set_option maxRecDepth 20000 in
theorem ggX8_failDoor_X8_goes : GoodIn wsX8_failDoor wsX8_goes := goodIn_r _ [17, 18, 19, 20, 21, 22, 23, 24, 25, 26, 27, 28, 29, 30, 31, 32, 33, 34, 35, 36, 37, 38, 39, 40, 41, 42, 43, 44, 45, 46, 47, 48, 49, 50, 51, 52, 53, 54, 55] (by decide +kernel) (by decide +kernel)
set_option maxRecDepth 20000 in
theorem gX8_failDoor_X8_goes : GoodIn wsX8_failDoor (wsV RX8 80 RX8 yX8_goes wsX8_goes) := goodIn_app (goodIn_of _ (by decide +kernel)) ggX8_failDoor_X8_goes
theorem dX8_failDoor_0 : decode cX8_failDoor 0 = .ok (.aload_n 0, 1) := by decide +kernel
theorem dX8_failDoor_1 : decode cX8_failDoor 1 = .ok (.iload_n 1, 1) := by decide +kernel
theorem dX8_failDoor_2 : decode cX8_failDoor 2 = .ok (.invokestatic 73, 3) := by decide +kernel
theorem dX8_failDoor_5 : decode cX8_failDoor 5 = .ok (.ifCond .eq 18, 3) := by decide +kernel
theorem dX8_failDoor_8 : decode cX8_failDoor 8 = .ok (.iload_n 1, 1) := by decide +kernel
theorem dX8_failDoor_9 : decode cX8_failDoor 9 = .ok (.aload_n 0, 1) := by decide +kernel
theorem dX8_failDoor_10 : decode cX8_failDoor 10 = .ok (.getfield 84, 3) := by decide +kernel
theorem dX8_failDoor_13 : decode cX8_failDoor 13 = .ok (.invokestatic 113, 3) := by decide +kernel
theorem dX8_failDoor_16 : decode cX8_failDoor 16 = .ok (.ifCond .eq 7, 3) := by decide +kernel
theorem dX8_failDoor_19 : decode cX8_failDoor 19 = .ok (.iconst 1, 1) := by decide +kernel
theorem dX8_failDoor_20 : decode cX8_failDoor 20 = .ok (.goto 4, 3) := by decide +kernel
theorem dX8_failDoor_23 : decode cX8_failDoor 23 = .ok (.iconst 0, 1) := by decide +kernel
theorem dX8_failDoor_24 : decode cX8_failDoor 24 = .ok (.iconst 1, 1) := by decide +kernel
theorem dX8_failDoor_25 : decode cX8_failDoor 25 = .ok (.iconst 1, 1) := by decide +kernel
theorem dX8_failDoor_26 : decode cX8_failDoor 26 = .ok (.invokevirtual 80, 3) := by decide +kernel
theorem dX8_failDoor_29 : decode cX8_failDoor 29 = .ok (.ifCond .ne 5, 3) := by decide +kernel
theorem dX8_failDoor_32 : decode cX8_failDoor 32 = .ok (.iconst 0, 1) := by decide +kernel
theorem dX8_failDoor_33 : decode cX8_failDoor 33 = .ok (.ireturn, 1) := by decide +kernel
theorem dX8_failDoor_34 : decode cX8_failDoor 34 = .ok (.aload_n 0, 1) := by decide +kernel
theorem dX8_failDoor_35 : decode cX8_failDoor 35 = .ok (.iload_n 2, 1) := by decide +kernel
theorem dX8_failDoor_36 : decode cX8_failDoor 36 = .ok (.ifCond .eq 14, 3) := by decide +kernel
theorem dX8_failDoor_39 : decode cX8_failDoor 39 = .ok (.aload_n 0, 1) := by decide +kernel
theorem dX8_failDoor_40 : decode cX8_failDoor 40 = .ok (.getfield 90, 3) := by decide +kernel
theorem dX8_failDoor_43 : decode cX8_failDoor 43 = .ok (.iconst 1, 1) := by decide +kernel
theorem dX8_failDoor_44 : decode cX8_failDoor 44 = .ok (.iload_n 1, 1) := by decide +kernel
theorem dX8_failDoor_45 : decode cX8_failDoor 45 = .ok (.ishl, 1) := by decide +kernel
theorem dX8_failDoor_46 : decode cX8_failDoor 46 = .ok (.ior, 1) := by decide +kernel
theorem dX8_failDoor_47 : decode cX8_failDoor 47 = .ok (.goto 13, 3) := by decide +kernel
theorem dX8_failDoor_50 : decode cX8_failDoor 50 = .ok (.aload_n 0, 1) := by decide +kernel
theorem dX8_failDoor_51 : decode cX8_failDoor 51 = .ok (.getfield 90, 3) := by decide +kernel
theorem dX8_failDoor_54 : decode cX8_failDoor 54 = .ok (.iconst 1, 1) := by decide +kernel
theorem dX8_failDoor_55 : decode cX8_failDoor 55 = .ok (.iload_n 1, 1) := by decide +kernel
theorem dX8_failDoor_56 : decode cX8_failDoor 56 = .ok (.ishl, 1) := by decide +kernel
theorem dX8_failDoor_57 : decode cX8_failDoor 57 = .ok (.iconst (-1), 1) := by decide +kernel
theorem dX8_failDoor_58 : decode cX8_failDoor 58 = .ok (.ixor, 1) := by decide +kernel
theorem dX8_failDoor_59 : decode cX8_failDoor 59 = .ok (.iand, 1) := by decide +kernel
theorem dX8_failDoor_60 : decode cX8_failDoor 60 = .ok (.putfield 90, 3) := by decide +kernel
theorem dX8_failDoor_63 : decode cX8_failDoor 63 = .ok (.iload_n 1, 1) := by decide +kernel
theorem dX8_failDoor_64 : decode cX8_failDoor 64 = .ok (.aload_n 0, 1) := by decide +kernel
theorem dX8_failDoor_65 : decode cX8_failDoor 65 = .ok (.getfield 87, 3) := by decide +kernel
theorem dX8_failDoor_68 : decode cX8_failDoor 68 = .ok (.invokestatic 113, 3) := by decide +kernel
theorem dX8_failDoor_71 : decode cX8_failDoor 71 = .ok (.ireturn, 1) := by decide +kernel
set_option maxRecDepth 20000 in
theorem ggX8_failDetector_X8_isSegment : GoodIn wsX8_failDetector wsX8_isSegment := goodIn_r _ [5, 6, 7, 4, 8] (by decide +kernel) (by decide +kernel)
set_option maxRecDepth 20000 in
theorem gX8_failDetector_X8_isSegment : GoodIn wsX8_failDetector (va_wsS RX8 73 yX8_isSegment wsX8_isSegment) := goodIn_app (goodIn_of _ (by decide +kernel)) ggX8_failDetector_X8_isSegment
set_option maxRecDepth 20000 in
theorem ggX8_failDetector_X8_isBetween : GoodIn wsX8_failDetector wsX8_isBetween := goodIn_r _ [8] (by decide +kernel) (by decide +kernel)
set_option maxRecDepth 20000 in
theorem gX8_failDetector_X8_isBetween : GoodIn wsX8_failDetector (va_wsS RX8 69 yX8_isBetween wsX8_isBetween) := goodIn_app (goodIn_of _ (by decide +kernel)) ggX8_failDetector_X8_isBetween
set_option maxRecDepth 20000 in
theorem ggX8_failDetector_X8_goes : GoodIn wsX8_failDetector wsX8_goes := goodIn_r _ [12, 13, 14, 15, 16, 17, 18, 19, 20, 21, 22, 23, 24, 25, 26, 27, 28, 29, 30, 31, 32, 33, 34, 35, 36, 37, 38, 39, 40, 41, 42, 43, 44, 45, 46, 47, 48, 49, 50] (by decide +kernel) (by decide +kernel)
set_option maxRecDepth 20000 in
theorem gX8_failDetector_X8_goes : GoodIn wsX8_failDetector (wsV RX8 80 RX8 yX8_goes wsX8_goes) := goodIn_app (goodIn_of _ (by decide +kernel)) ggX8_failDetector_X8_goes
theorem dX8_failDetector_0 : decode cX8_failDetector 0 = .ok (.aload_n 0, 1) := by decide +kernel
theorem dX8_failDetector_1 : decode cX8_failDetector 1 = .ok (.iload_n 1, 1) := by decide +kernel
theorem dX8_failDetector_2 : decode cX8_failDetector 2 = .ok (.invokestatic 73, 3) := by decide +kernel
theorem dX8_failDetector_5 : decode cX8_failDetector 5 = .ok (.ifCond .eq 16, 3) := by decide +kernel
theorem dX8_failDetector_8 : decode cX8_failDetector 8 = .ok (.iload_n 2, 1) := by decide +kernel
theorem dX8_failDetector_9 : decode cX8_failDetector 9 = .ok (.iconst 0, 1) := by decide +kernel
theorem dX8_failDetector_10 : decode cX8_failDetector 10 = .ok (.iconst 2, 1) := by decide +kernel
theorem dX8_failDetector_11 : decode cX8_failDetector 11 = .ok (.invokestatic 69, 3) := by decide +kernel
theorem dX8_failDetector_14 : decode cX8_failDetector 14 = .ok (.ifCond .eq 7, 3) := by decide +kernel
theorem dX8_failDetector_17 : decode cX8_failDetector 17 = .ok (.iconst 1, 1) := by decide +kernel
theorem dX8_failDetector_18 : decode cX8_failDetector 18 = .ok (.goto 4, 3) := by decide +kernel
theorem dX8_failDetector_21 : decode cX8_failDetector 21 = .ok (.iconst 0, 1) := by decide +kernel
theorem dX8_failDetector_22 : decode cX8_failDetector 22 = .ok (.iconst 1, 1) := by decide +kernel
theorem dX8_failDetector_23 : decode cX8_failDetector 23 = .ok (.iconst 1, 1) := by decide +kernel
theorem dX8_failDetector_24 : decode cX8_failDetector 24 = .ok (.invokevirtual 80, 3) := by decide +kernel
theorem dX8_failDetector_27 : decode cX8_failDetector 27 = .ok (.ifCond .ne 4, 3) := by decide +kernel
theorem dX8_failDetector_30 : decode cX8_failDetector 30 = .ok (.return_, 1) := by decide +kernel
theorem dX8_failDetector_31 : decode cX8_failDetector 31 = .ok (.aload_n 0, 1) := by decide +kernel
theorem dX8_failDetector_32 : decode cX8_failDetector 32 = .ok (.getfield 39, 3) := by decide +kernel
theorem dX8_failDetector_35 : decode cX8_failDetector 35 = .ok (.iconst 3, 1) := by decide +kernel
theorem dX8_failDetector_36 : decode cX8_failDetector 36 = .ok (.iload_n 1, 1) := by decide +kernel
theorem dX8_failDetector_37 : decode cX8_failDetector 37 = .ok (.imul, 1) := by decide +kernel
theorem dX8_failDetector_38 : decode cX8_failDetector 38 = .ok (.iload_n 2, 1) := by decide +kernel
theorem dX8_failDetector_39 : decode cX8_failDetector 39 = .ok (.iadd, 1) := by decide +kernel
theorem dX8_failDetector_40 : decode cX8_failDetector 40 = .ok (.iload_n 3, 1) := by decide +kernel
theorem dX8_failDetector_41 : decode cX8_failDetector 41 = .ok (.bastore, 1) := by decide +kernel
theorem dX8_failDetector_42 : decode cX8_failDetector 42 = .ok (.return_, 1) := by decide +kernel
set_option maxRecDepth 20000 in
theorem ggX8_act_X8_isBetween : GoodIn wsX8_act wsX8_isBetween := goodIn_r _ [9] (by decide +kernel) (by decide +kernel)
set_option maxRecDepth 20000 in
theorem gX8_act_X8_isBetween : GoodIn wsX8_act (va_wsS RX8 69 yX8_isBetween wsX8_isBetween) := goodIn_app (goodIn_of _ (by decide +kernel)) ggX8_act_X8_isBetween
set_option maxRecDepth 20000 in
theorem ggX8_act_X8_goes : GoodIn wsX8_act wsX8_goes := goodIn_r _ [13, 14, 15, 16, 17, 18, 19, 20, 21, 22, 23, 24, 25, 26, 27, 28, 29, 30, 31, 32, 33, 34, 35, 36, 37, 38, 39, 40, 41, 42, 43, 44, 45, 46, 47, 48, 49, 50, 51] (by decide +kernel) (by decide +kernel)
set_option maxRecDepth 20000 in
theorem gX8_act_X8_goes : GoodIn wsX8_act (wsV RX8 80 RX8 yX8_goes wsX8_goes) := goodIn_app (goodIn_of _ (by decide +kernel)) ggX8_act_X8_goes
theorem dX8_act_0 : decode cX8_act 0 = .ok (.aload_n 0, 1) := by decide +kernel
theorem dX8_act_1 : decode cX8_act 1 = .ok (.iload_n 1, 1) := by decide +kernel
theorem dX8_act_2 : decode cX8_act 2 = .ok (.iconst 0, 1) := by decide +kernel
theorem dX8_act_3 : decode cX8_act 3 = .ok (.bipush 7, 2) := by decide +kernel
theorem dX8_act_5 : decode cX8_act 5 = .ok (.invokestatic 69, 3) := by decide +kernel
theorem dX8_act_8 : decode cX8_act 8 = .ok (.ifCond .eq 17, 3) := by decide +kernel
theorem dX8_act_11 : decode cX8_act 11 = .ok (.iload_n 2, 1) := by decide +kernel
theorem dX8_act_12 : decode cX8_act 12 = .ok (.iconst 0, 1) := by decide +kernel
theorem dX8_act_13 : decode cX8_act 13 = .ok (.bipush 20, 2) := by decide +kernel
theorem dX8_act_15 : decode cX8_act 15 = .ok (.invokestatic 69, 3) := by decide +kernel
theorem dX8_act_18 : decode cX8_act 18 = .ok (.ifCond .eq 7, 3) := by decide +kernel
theorem dX8_act_21 : decode cX8_act 21 = .ok (.iconst 1, 1) := by decide +kernel
theorem dX8_act_22 : decode cX8_act 22 = .ok (.goto 4, 3) := by decide +kernel
theorem dX8_act_25 : decode cX8_act 25 = .ok (.iconst 0, 1) := by decide +kernel
theorem dX8_act_26 : decode cX8_act 26 = .ok (.aload_n 0, 1) := by decide +kernel
theorem dX8_act_27 : decode cX8_act 27 = .ok (.getfield 117, 3) := by decide +kernel
theorem dX8_act_30 : decode cX8_act 30 = .ok (.bipush 10, 2) := by decide +kernel
theorem dX8_act_32 : decode cX8_act 32 = .ok (.if_icmp .ge 15, 3) := by decide +kernel
theorem dX8_act_35 : decode cX8_act 35 = .ok (.aload_n 0, 1) := by decide +kernel
theorem dX8_act_36 : decode cX8_act 36 = .ok (.getfield 42, 3) := by decide +kernel
theorem dX8_act_39 : decode cX8_act 39 = .ok (.iconst (-1), 1) := by decide +kernel
theorem dX8_act_40 : decode cX8_act 40 = .ok (.if_icmp .ne 7, 3) := by decide +kernel
theorem dX8_act_43 : decode cX8_act 43 = .ok (.iconst 1, 1) := by decide +kernel
theorem dX8_act_44 : decode cX8_act 44 = .ok (.goto 4, 3) := by decide +kernel
theorem dX8_act_47 : decode cX8_act 47 = .ok (.iconst 0, 1) := by decide +kernel
theorem dX8_act_48 : decode cX8_act 48 = .ok (.iconst 1, 1) := by decide +kernel
theorem dX8_act_49 : decode cX8_act 49 = .ok (.invokevirtual 80, 3) := by decide +kernel
theorem dX8_act_52 : decode cX8_act 52 = .ok (.ifCond .ne 5, 3) := by decide +kernel
theorem dX8_act_55 : decode cX8_act 55 = .ok (.iconst 0, 1) := by decide +kernel
theorem dX8_act_56 : decode cX8_act 56 = .ok (.ireturn, 1) := by decide +kernel
theorem dX8_act_57 : decode cX8_act 57 = .ok (.aload_n 0, 1) := by decide +kernel
theorem dX8_act_58 : decode cX8_act 58 = .ok (.getfield 45, 3) := by decide +kernel
theorem dX8_act_61 : decode cX8_act 61 = .ok (.aload_n 0, 1) := by decide +kernel
theorem dX8_act_62 : decode cX8_act 62 = .ok (.getfield 117, 3) := by decide +kernel
theorem dX8_act_65 : decode cX8_act 65 = .ok (.iload_n 1, 1) := by decide +kernel
theorem dX8_act_66 : decode cX8_act 66 = .ok (.iastore, 1) := by decide +kernel
theorem dX8_act_67 : decode cX8_act 67 = .ok (.aload_n 0, 1) := by decide +kernel
theorem dX8_act_68 : decode cX8_act 68 = .ok (.getfield 48, 3) := by decide +kernel
theorem dX8_act_71 : decode cX8_act 71 = .ok (.aload_n 0, 1) := by decide +kernel
theorem dX8_act_72 : decode cX8_act 72 = .ok (.getfield 117, 3) := by decide +kernel
theorem dX8_act_75 : decode cX8_act 75 = .ok (.iload_n 3, 1) := by decide +kernel
theorem dX8_act_76 : decode cX8_act 76 = .ok (.ifCond .eq 11, 3) := by decide +kernel
theorem dX8_act_79 : decode cX8_act 79 = .ok (.iconst 2, 1) := by decide +kernel
theorem dX8_act_80 : decode cX8_act 80 = .ok (.iload_n 2, 1) := by decide +kernel
theorem dX8_act_81 : decode cX8_act 81 = .ok (.imul, 1) := by decide +kernel
theorem dX8_act_82 : decode cX8_act 82 = .ok (.iconst 3, 1) := by decide +kernel
theorem dX8_act_83 : decode cX8_act 83 = .ok (.iadd, 1) := by decide +kernel
theorem dX8_act_84 : decode cX8_act 84 = .ok (.goto 4, 3) := by decide +kernel
theorem dX8_act_87 : decode cX8_act 87 = .ok (.iload_n 2, 1) := by decide +kernel
theorem dX8_act_88 : decode cX8_act 88 = .ok (.iastore, 1) := by decide +kernel
theorem dX8_act_89 : decode cX8_act 89 = .ok (.aload_n 0, 1) := by decide +kernel
theorem dX8_act_90 : decode cX8_act 90 = .ok (.getfield 51, 3) := by decide +kernel
theorem dX8_act_93 : decode cX8_act 93 = .ok (.aload_n 0, 1) := by decide +kernel
theorem dX8_act_94 : decode cX8_act 94 = .ok (.getfield 117, 3) := by decide +kernel
theorem dX8_act_97 : decode cX8_act 97 = .ok (.iconst (-1), 1) := by decide +kernel
theorem dX8_act_98 : decode cX8_act 98 = .ok (.iastore, 1) := by decide +kernel
theorem dX8_act_99 : decode cX8_act 99 = .ok (.aload_n 0, 1) := by decide +kernel
theorem dX8_act_100 : decode cX8_act 100 = .ok (.dup, 1) := by decide +kernel
theorem dX8_act_101 : decode cX8_act 101 = .ok (.getfield 117, 3) := by decide +kernel
theorem dX8_act_104 : decode cX8_act 104 = .ok (.iconst 1, 1) := by decide +kernel
theorem dX8_act_105 : decode cX8_act 105 = .ok (.iadd, 1) := by decide +kernel
theorem dX8_act_106 : decode cX8_act 106 = .ok (.putfield 117, 3) := by decide +kernel
theorem dX8_act_109 : decode cX8_act 109 = .ok (.aload_n 0, 1) := by decide +kernel
theorem dX8_act_110 : decode cX8_act 110 = .ok (.getfield 117, 3) := by decide +kernel
theorem dX8_act_113 : decode cX8_act 113 = .ok (.iconst 1, 1) := by decide +kernel
theorem dX8_act_114 : decode cX8_act 114 = .ok (.isub, 1) := by decide +kernel
theorem dX8_act_115 : decode cX8_act 115 = .ok (.ireturn, 1) := by decide +kernel
set_option maxRecDepth 20000 in
theorem ggX8_command_X8_isFan : GoodIn wsX8_command wsX8_isFan := goodIn_r _ [5, 6, 7, 4, 8] (by decide +kernel) (by decide +kernel)
set_option maxRecDepth 20000 in
theorem gX8_command_X8_isFan : GoodIn wsX8_command (va_wsS RX8 110 yX8_isFan wsX8_isFan) := goodIn_app (goodIn_of _ (by decide +kernel)) ggX8_command_X8_isFan
set_option maxRecDepth 20000 in
theorem ggX8_command_X8_isBetween : GoodIn wsX8_command wsX8_isBetween := goodIn_r _ [8] (by decide +kernel) (by decide +kernel)
set_option maxRecDepth 20000 in
theorem gX8_command_X8_isBetween : GoodIn wsX8_command (va_wsS RX8 69 yX8_isBetween wsX8_isBetween) := goodIn_app (goodIn_of _ (by decide +kernel)) ggX8_command_X8_isBetween
set_option maxRecDepth 20000 in
theorem ggX8_command_X8_goes : GoodIn wsX8_command wsX8_goes := goodIn_r _ [12, 13, 14, 15, 16, 17, 18, 19, 20, 21, 22, 23, 24, 25, 26, 27, 28, 29, 30, 31, 32, 33, 34, 35, 36, 37, 38, 39, 40, 41, 42, 43, 44, 45, 46, 47, 48, 49, 50] (by decide +kernel) (by decide +kernel)
set_option maxRecDepth 20000 in
theorem gX8_command_X8_goes : GoodIn wsX8_command (wsV RX8 80 RX8 yX8_goes wsX8_goes) := goodIn_app (goodIn_of _ (by decide +kernel)) ggX8_command_X8_goes
theorem dX8_command_0 : decode cX8_command 0 = .ok (.aload_n 0, 1) := by decide +kernel
theorem dX8_command_1 : decode cX8_command 1 = .ok (.iload_n 1, 1) := by decide +kernel
theorem dX8_command_2 : decode cX8_command 2 = .ok (.invokestatic 110, 3) := by decide +kernel
theorem dX8_command_5 : decode cX8_command 5 = .ok (.iload_n 2, 1) := by decide +kernel
theorem dX8_command_6 : decode cX8_command 6 = .ok (.iconst (-1), 1) := by decide +kernel
theorem dX8_command_7 : decode cX8_command 7 = .ok (.iconst 1, 1) := by decide +kernel
theorem dX8_command_8 : decode cX8_command 8 = .ok (.invokestatic 69, 3) := by decide +kernel
theorem dX8_command_11 : decode cX8_command 11 = .ok (.iconst 1, 1) := by decide +kernel
theorem dX8_command_12 : decode cX8_command 12 = .ok (.invokevirtual 80, 3) := by decide +kernel
theorem dX8_command_15 : decode cX8_command 15 = .ok (.ifCond .ne 5, 3) := by decide +kernel
theorem dX8_command_18 : decode cX8_command 18 = .ok (.iconst 0, 1) := by decide +kernel
theorem dX8_command_19 : decode cX8_command 19 = .ok (.ireturn, 1) := by decide +kernel
theorem dX8_command_20 : decode cX8_command 20 = .ok (.aload_n 0, 1) := by decide +kernel
theorem dX8_command_21 : decode cX8_command 21 = .ok (.getfield 16, 3) := by decide +kernel
theorem dX8_command_24 : decode cX8_command 24 = .ok (.iload_n 1, 1) := by decide +kernel
theorem dX8_command_25 : decode cX8_command 25 = .ok (.iaload, 1) := by decide +kernel
end
section
theorem dX8_command_26 : decode cX8_command 26 = .ok (.istore_n 3, 1) := by decide +kernel
theorem dX8_command_27 : decode cX8_command 27 = .ok (.aload_n 0, 1) := by decide +kernel
theorem dX8_command_28 : decode cX8_command 28 = .ok (.getfield 16, 3) := by decide +kernel
theorem dX8_command_31 : decode cX8_command 31 = .ok (.iload_n 1, 1) := by decide +kernel
theorem dX8_command_32 : decode cX8_command 32 = .ok (.iload_n 2, 1) := by decide +kernel
theorem dX8_command_33 : decode cX8_command 33 = .ok (.iastore, 1) := by decide +kernel
theorem dX8_command_34 : decode cX8_command 34 = .ok (.iload_n 3, 1) := by decide +kernel
theorem dX8_command_35 : decode cX8_command 35 = .ok (.ireturn, 1) := by decide +kernel
theorem dX8_doesAct_0 : decode cX8_doesAct 0 = .ok (.iload_n 1, 1) := by decide +kernel
theorem dX8_doesAct_1 : decode cX8_doesAct 1 = .ok (.tableswitch 102 0 7 #[47, 55, 63, 102, 102, 102, 86, 94], 47) := by decide +kernel
theorem dX8_doesAct_48 : decode cX8_doesAct 48 = .ok (.aload_n 0, 1) := by decide +kernel
theorem dX8_doesAct_49 : decode cX8_doesAct 49 = .ok (.iconst 1, 1) := by decide +kernel
theorem dX8_doesAct_50 : decode cX8_doesAct 50 = .ok (.putfield 120, 3) := by decide +kernel
theorem dX8_doesAct_53 : decode cX8_doesAct 53 = .ok (.goto 88, 3) := by decide +kernel
theorem dX8_doesAct_56 : decode cX8_doesAct 56 = .ok (.aload_n 0, 1) := by decide +kernel
theorem dX8_doesAct_57 : decode cX8_doesAct 57 = .ok (.iconst 1, 1) := by decide +kernel
theorem dX8_doesAct_58 : decode cX8_doesAct 58 = .ok (.putfield 123, 3) := by decide +kernel
theorem dX8_doesAct_61 : decode cX8_doesAct 61 = .ok (.goto 80, 3) := by decide +kernel
theorem dX8_doesAct_64 : decode cX8_doesAct 64 = .ok (.aload_n 0, 1) := by decide +kernel
theorem dX8_doesAct_65 : decode cX8_doesAct 65 = .ok (.aload_n 0, 1) := by decide +kernel
theorem dX8_doesAct_66 : decode cX8_doesAct 66 = .ok (.getfield 87, 3) := by decide +kernel
theorem dX8_doesAct_69 : decode cX8_doesAct 69 = .ok (.aload_n 0, 1) := by decide +kernel
theorem dX8_doesAct_70 : decode cX8_doesAct 70 = .ok (.getfield 84, 3) := by decide +kernel
theorem dX8_doesAct_73 : decode cX8_doesAct 73 = .ok (.aload_n 0, 1) := by decide +kernel
theorem dX8_doesAct_74 : decode cX8_doesAct 74 = .ok (.getfield 90, 3) := by decide +kernel
theorem dX8_doesAct_77 : decode cX8_doesAct 77 = .ok (.iconst (-1), 1) := by decide +kernel
theorem dX8_doesAct_78 : decode cX8_doesAct 78 = .ok (.ixor, 1) := by decide +kernel
theorem dX8_doesAct_79 : decode cX8_doesAct 79 = .ok (.iand, 1) := by decide +kernel
theorem dX8_doesAct_80 : decode cX8_doesAct 80 = .ok (.ior, 1) := by decide +kernel
theorem dX8_doesAct_81 : decode cX8_doesAct 81 = .ok (.putfield 87, 3) := by decide +kernel
theorem dX8_doesAct_84 : decode cX8_doesAct 84 = .ok (.goto 57, 3) := by decide +kernel
theorem dX8_doesAct_87 : decode cX8_doesAct 87 = .ok (.aload_n 0, 1) := by decide +kernel
theorem dX8_doesAct_88 : decode cX8_doesAct 88 = .ok (.iconst 1, 1) := by decide +kernel
theorem dX8_doesAct_89 : decode cX8_doesAct 89 = .ok (.putfield 93, 3) := by decide +kernel
theorem dX8_doesAct_92 : decode cX8_doesAct 92 = .ok (.goto 49, 3) := by decide +kernel
theorem dX8_doesAct_95 : decode cX8_doesAct 95 = .ok (.aload_n 0, 1) := by decide +kernel
theorem dX8_doesAct_96 : decode cX8_doesAct 96 = .ok (.iconst 1, 1) := by decide +kernel
theorem dX8_doesAct_97 : decode cX8_doesAct 97 = .ok (.putfield 126, 3) := by decide +kernel
theorem dX8_doesAct_100 : decode cX8_doesAct 100 = .ok (.goto 41, 3) := by decide +kernel
theorem dX8_doesAct_103 : decode cX8_doesAct 103 = .ok (.iconst 0, 1) := by decide +kernel
theorem dX8_doesAct_104 : decode cX8_doesAct 104 = .ok (.istore_n 2, 1) := by decide +kernel
theorem dX8_doesAct_105 : decode cX8_doesAct 105 = .ok (.iload_n 2, 1) := by decide +kernel
theorem dX8_doesAct_106 : decode cX8_doesAct 106 = .ok (.iconst 3, 1) := by decide +kernel
theorem dX8_doesAct_107 : decode cX8_doesAct 107 = .ok (.if_icmp .ge 34, 3) := by decide +kernel
theorem dX8_doesAct_110 : decode cX8_doesAct 110 = .ok (.aload_n 0, 1) := by decide +kernel
theorem dX8_doesAct_111 : decode cX8_doesAct 111 = .ok (.getfield 16, 3) := by decide +kernel
theorem dX8_doesAct_114 : decode cX8_doesAct 114 = .ok (.iload_n 2, 1) := by decide +kernel
theorem dX8_doesAct_115 : decode cX8_doesAct 115 = .ok (.iload_n 1, 1) := by decide +kernel
theorem dX8_doesAct_116 : decode cX8_doesAct 116 = .ok (.iconst 3, 1) := by decide +kernel
theorem dX8_doesAct_117 : decode cX8_doesAct 117 = .ok (.if_icmp .ne 7, 3) := by decide +kernel
theorem dX8_doesAct_120 : decode cX8_doesAct 120 = .ok (.iconst (-1), 1) := by decide +kernel
theorem dX8_doesAct_121 : decode cX8_doesAct 121 = .ok (.goto 13, 3) := by decide +kernel
theorem dX8_doesAct_124 : decode cX8_doesAct 124 = .ok (.iload_n 1, 1) := by decide +kernel
theorem dX8_doesAct_125 : decode cX8_doesAct 125 = .ok (.iconst 4, 1) := by decide +kernel
theorem dX8_doesAct_126 : decode cX8_doesAct 126 = .ok (.if_icmp .ne 7, 3) := by decide +kernel
theorem dX8_doesAct_129 : decode cX8_doesAct 129 = .ok (.iconst 1, 1) := by decide +kernel
theorem dX8_doesAct_130 : decode cX8_doesAct 130 = .ok (.goto 4, 3) := by decide +kernel
theorem dX8_doesAct_133 : decode cX8_doesAct 133 = .ok (.iconst 0, 1) := by decide +kernel
theorem dX8_doesAct_134 : decode cX8_doesAct 134 = .ok (.iastore, 1) := by decide +kernel
theorem dX8_doesAct_135 : decode cX8_doesAct 135 = .ok (.iinc 2 1, 3) := by decide +kernel
theorem dX8_doesAct_138 : decode cX8_doesAct 138 = .ok (.goto (-33), 3) := by decide +kernel
theorem dX8_doesAct_141 : decode cX8_doesAct 141 = .ok (.return_, 1) := by decide +kernel
set_option maxRecDepth 20000 in
theorem ggX8_fans_X8_hasPower : GoodIn wsX8_fans wsX8_hasPower := goodIn_r _ [8, 9, 10, 11, 12, 13, 14, 15, 16, 17, 18, 19, 20, 21, 22, 23, 24, 25, 26, 27, 28, 29, 30, 31, 32, 33, 34, 35, 36, 37, 38, 39, 40, 41, 42, 43, 44, 45, 46] (by decide +kernel) (by decide +kernel)
set_option maxRecDepth 20000 in
theorem gX8_fans_X8_hasPower : GoodIn wsX8_fans (wsV RX8 106 RX8 yX8_hasPower wsX8_hasPower) := goodIn_app (goodIn_of _ (by decide +kernel)) ggX8_fans_X8_hasPower
theorem dX8_fans_0 : decode cX8_fans 0 = .ok (.iconst 0, 1) := by decide +kernel
theorem dX8_fans_1 : decode cX8_fans 1 = .ok (.istore_n 1, 1) := by decide +kernel
theorem dX8_fans_2 : decode cX8_fans 2 = .ok (.iload_n 1, 1) := by decide +kernel
theorem dX8_fans_3 : decode cX8_fans 3 = .ok (.iconst 3, 1) := by decide +kernel
theorem dX8_fans_4 : decode cX8_fans 4 = .ok (.if_icmp .ge 74, 3) := by decide +kernel
theorem dX8_fans_7 : decode cX8_fans 7 = .ok (.aload_n 0, 1) := by decide +kernel
theorem dX8_fans_8 : decode cX8_fans 8 = .ok (.invokevirtual 106, 3) := by decide +kernel
theorem dX8_fans_11 : decode cX8_fans 11 = .ok (.ifCond .eq 12, 3) := by decide +kernel
theorem dX8_fans_14 : decode cX8_fans 14 = .ok (.aload_n 0, 1) := by decide +kernel
theorem dX8_fans_15 : decode cX8_fans 15 = .ok (.getfield 16, 3) := by decide +kernel
theorem dX8_fans_18 : decode cX8_fans 18 = .ok (.iload_n 1, 1) := by decide +kernel
theorem dX8_fans_19 : decode cX8_fans 19 = .ok (.iaload, 1) := by decide +kernel
theorem dX8_fans_20 : decode cX8_fans 20 = .ok (.goto 4, 3) := by decide +kernel
theorem dX8_fans_23 : decode cX8_fans 23 = .ok (.iconst 0, 1) := by decide +kernel
theorem dX8_fans_24 : decode cX8_fans 24 = .ok (.istore_n 2, 1) := by decide +kernel
theorem dX8_fans_25 : decode cX8_fans 25 = .ok (.aload_n 0, 1) := by decide +kernel
theorem dX8_fans_26 : decode cX8_fans 26 = .ok (.getfield 22, 3) := by decide +kernel
theorem dX8_fans_29 : decode cX8_fans 29 = .ok (.iload_n 1, 1) := by decide +kernel
theorem dX8_fans_30 : decode cX8_fans 30 = .ok (.baload, 1) := by decide +kernel
theorem dX8_fans_31 : decode cX8_fans 31 = .ok (.ifCond .ne 41, 3) := by decide +kernel
theorem dX8_fans_34 : decode cX8_fans 34 = .ok (.aload_n 0, 1) := by decide +kernel
theorem dX8_fans_35 : decode cX8_fans 35 = .ok (.getfield 19, 3) := by decide +kernel
theorem dX8_fans_38 : decode cX8_fans 38 = .ok (.iload_n 1, 1) := by decide +kernel
theorem dX8_fans_39 : decode cX8_fans 39 = .ok (.dup2, 1) := by decide +kernel
theorem dX8_fans_40 : decode cX8_fans 40 = .ok (.iaload, 1) := by decide +kernel
theorem dX8_fans_41 : decode cX8_fans 41 = .ok (.iload_n 2, 1) := by decide +kernel
theorem dX8_fans_42 : decode cX8_fans 42 = .ok (.aload_n 0, 1) := by decide +kernel
theorem dX8_fans_43 : decode cX8_fans 43 = .ok (.getfield 19, 3) := by decide +kernel
theorem dX8_fans_46 : decode cX8_fans 46 = .ok (.iload_n 1, 1) := by decide +kernel
theorem dX8_fans_47 : decode cX8_fans 47 = .ok (.iaload, 1) := by decide +kernel
theorem dX8_fans_48 : decode cX8_fans 48 = .ok (.if_icmp .le 7, 3) := by decide +kernel
theorem dX8_fans_51 : decode cX8_fans 51 = .ok (.iconst 1, 1) := by decide +kernel
theorem dX8_fans_52 : decode cX8_fans 52 = .ok (.goto 18, 3) := by decide +kernel
theorem dX8_fans_55 : decode cX8_fans 55 = .ok (.iload_n 2, 1) := by decide +kernel
theorem dX8_fans_56 : decode cX8_fans 56 = .ok (.aload_n 0, 1) := by decide +kernel
theorem dX8_fans_57 : decode cX8_fans 57 = .ok (.getfield 19, 3) := by decide +kernel
theorem dX8_fans_60 : decode cX8_fans 60 = .ok (.iload_n 1, 1) := by decide +kernel
theorem dX8_fans_61 : decode cX8_fans 61 = .ok (.iaload, 1) := by decide +kernel
theorem dX8_fans_62 : decode cX8_fans 62 = .ok (.if_icmp .ge 7, 3) := by decide +kernel
theorem dX8_fans_65 : decode cX8_fans 65 = .ok (.iconst (-1), 1) := by decide +kernel
theorem dX8_fans_66 : decode cX8_fans 66 = .ok (.goto 4, 3) := by decide +kernel
theorem dX8_fans_69 : decode cX8_fans 69 = .ok (.iconst 0, 1) := by decide +kernel
theorem dX8_fans_70 : decode cX8_fans 70 = .ok (.iadd, 1) := by decide +kernel
theorem dX8_fans_71 : decode cX8_fans 71 = .ok (.iastore, 1) := by decide +kernel
theorem dX8_fans_72 : decode cX8_fans 72 = .ok (.iinc 1 1, 3) := by decide +kernel
theorem dX8_fans_75 : decode cX8_fans 75 = .ok (.goto (-73), 3) := by decide +kernel
theorem dX8_fans_78 : decode cX8_fans 78 = .ok (.return_, 1) := by decide +kernel
theorem dX8_flows_0 : decode cX8_flows 0 = .ok (.bipush 15, 2) := by decide +kernel
theorem dX8_flows_2 : decode cX8_flows 2 = .ok (.aload_n 0, 1) := by decide +kernel
theorem dX8_flows_3 : decode cX8_flows 3 = .ok (.getfield 19, 3) := by decide +kernel
theorem dX8_flows_6 : decode cX8_flows 6 = .ok (.iconst 0, 1) := by decide +kernel
theorem dX8_flows_7 : decode cX8_flows 7 = .ok (.iaload, 1) := by decide +kernel
theorem dX8_flows_8 : decode cX8_flows 8 = .ok (.aload_n 0, 1) := by decide +kernel
theorem dX8_flows_9 : decode cX8_flows 9 = .ok (.getfield 19, 3) := by decide +kernel
theorem dX8_flows_12 : decode cX8_flows 12 = .ok (.iconst 1, 1) := by decide +kernel
theorem dX8_flows_13 : decode cX8_flows 13 = .ok (.iaload, 1) := by decide +kernel
theorem dX8_flows_14 : decode cX8_flows 14 = .ok (.iadd, 1) := by decide +kernel
theorem dX8_flows_15 : decode cX8_flows 15 = .ok (.aload_n 0, 1) := by decide +kernel
theorem dX8_flows_16 : decode cX8_flows 16 = .ok (.getfield 19, 3) := by decide +kernel
theorem dX8_flows_19 : decode cX8_flows 19 = .ok (.iconst 2, 1) := by decide +kernel
theorem dX8_flows_20 : decode cX8_flows 20 = .ok (.iaload, 1) := by decide +kernel
theorem dX8_flows_21 : decode cX8_flows 21 = .ok (.iadd, 1) := by decide +kernel
theorem dX8_flows_22 : decode cX8_flows 22 = .ok (.imul, 1) := by decide +kernel
theorem dX8_flows_23 : decode cX8_flows 23 = .ok (.aload_n 0, 1) := by decide +kernel
theorem dX8_flows_24 : decode cX8_flows 24 = .ok (.getfield 100, 3) := by decide +kernel
theorem dX8_flows_27 : decode cX8_flows 27 = .ok (.iadd, 1) := by decide +kernel
theorem dX8_flows_28 : decode cX8_flows 28 = .ok (.aload_n 0, 1) := by decide +kernel
theorem dX8_flows_29 : decode cX8_flows 29 = .ok (.getfield 120, 3) := by decide +kernel
theorem dX8_flows_32 : decode cX8_flows 32 = .ok (.ifCond .eq 7, 3) := by decide +kernel
theorem dX8_flows_35 : decode cX8_flows 35 = .ok (.iconst 0, 1) := by decide +kernel
theorem dX8_flows_36 : decode cX8_flows 36 = .ok (.goto 4, 3) := by decide +kernel
theorem dX8_flows_39 : decode cX8_flows 39 = .ok (.iconst 5, 1) := by decide +kernel
theorem dX8_flows_40 : decode cX8_flows 40 = .ok (.iadd, 1) := by decide +kernel
theorem dX8_flows_41 : decode cX8_flows 41 = .ok (.istore_n 1, 1) := by decide +kernel
theorem dX8_flows_42 : decode cX8_flows 42 = .ok (.iload_n 1, 1) := by decide +kernel
theorem dX8_flows_43 : decode cX8_flows 43 = .ok (.bipush (-90), 2) := by decide +kernel
theorem dX8_flows_45 : decode cX8_flows 45 = .ok (.if_icmp .ge 8, 3) := by decide +kernel
theorem dX8_flows_48 : decode cX8_flows 48 = .ok (.bipush (-90), 2) := by decide +kernel
theorem dX8_flows_50 : decode cX8_flows 50 = .ok (.goto 15, 3) := by decide +kernel
theorem dX8_flows_53 : decode cX8_flows 53 = .ok (.iload_n 1, 1) := by decide +kernel
theorem dX8_flows_54 : decode cX8_flows 54 = .ok (.bipush 90, 2) := by decide +kernel
theorem dX8_flows_56 : decode cX8_flows 56 = .ok (.if_icmp .le 8, 3) := by decide +kernel
theorem dX8_flows_59 : decode cX8_flows 59 = .ok (.bipush 90, 2) := by decide +kernel
theorem dX8_flows_61 : decode cX8_flows 61 = .ok (.goto 4, 3) := by decide +kernel
theorem dX8_flows_64 : decode cX8_flows 64 = .ok (.iload_n 1, 1) := by decide +kernel
theorem dX8_flows_65 : decode cX8_flows 65 = .ok (.istore_n 1, 1) := by decide +kernel
theorem dX8_flows_66 : decode cX8_flows 66 = .ok (.aload_n 0, 1) := by decide +kernel
theorem dX8_flows_67 : decode cX8_flows 67 = .ok (.aload_n 0, 1) := by decide +kernel
theorem dX8_flows_68 : decode cX8_flows 68 = .ok (.getfield 129, 3) := by decide +kernel
theorem dX8_flows_71 : decode cX8_flows 71 = .ok (.iload_n 1, 1) := by decide +kernel
theorem dX8_flows_72 : decode cX8_flows 72 = .ok (.i2d, 1) := by decide +kernel
theorem dX8_flows_73 : decode cX8_flows 73 = .ok (.aload_n 0, 1) := by decide +kernel
theorem dX8_flows_74 : decode cX8_flows 74 = .ok (.getfield 129, 3) := by decide +kernel
theorem dX8_flows_77 : decode cX8_flows 77 = .ok (.dsub, 1) := by decide +kernel
theorem dX8_flows_78 : decode cX8_flows 78 = .ok (.ldc2_w 133, 3) := by decide +kernel
theorem dX8_flows_81 : decode cX8_flows 81 = .ok (.ddiv, 1) := by decide +kernel
theorem dX8_flows_82 : decode cX8_flows 82 = .ok (.dadd, 1) := by decide +kernel
theorem dX8_flows_83 : decode cX8_flows 83 = .ok (.putfield 129, 3) := by decide +kernel
theorem dX8_flows_86 : decode cX8_flows 86 = .ok (.return_, 1) := by decide +kernel
set_option maxRecDepth 20000 in
theorem ggX8_burns_X8_hasPower : GoodIn wsX8_burns wsX8_hasPower := goodIn_r _ [13, 14, 15, 16, 17, 18, 19, 20, 21, 22, 23, 24, 25, 26, 27, 28, 29, 30, 31, 32, 33, 34, 35, 36, 37, 38, 39, 40, 41, 42, 43, 44, 45, 46, 47, 48, 49, 50, 51] (by decide +kernel) (by decide +kernel)
set_option maxRecDepth 20000 in
theorem gX8_burns_X8_hasPower : GoodIn wsX8_burns (wsV RX8 106 RX8 yX8_hasPower wsX8_hasPower) := goodIn_app (goodIn_of _ (by decide +kernel)) ggX8_burns_X8_hasPower
theorem dX8_burns_0 : decode cX8_burns 0 = .ok (.aload_n 0, 1) := by decide +kernel
theorem dX8_burns_1 : decode cX8_burns 1 = .ok (.getfield 36, 3) := by decide +kernel
theorem dX8_burns_4 : decode cX8_burns 4 = .ok (.iconst (-1), 1) := by decide +kernel
theorem dX8_burns_5 : decode cX8_burns 5 = .ok (.if_icmp .ne 4, 3) := by decide +kernel
theorem dX8_burns_8 : decode cX8_burns 8 = .ok (.return_, 1) := by decide +kernel
theorem dX8_burns_9 : decode cX8_burns 9 = .ok (.aload_n 0, 1) := by decide +kernel
theorem dX8_burns_10 : decode cX8_burns 10 = .ok (.getfield 135, 3) := by decide +kernel
theorem dX8_burns_13 : decode cX8_burns 13 = .ok (.bipush 100, 2) := by decide +kernel
theorem dX8_burns_15 : decode cX8_burns 15 = .ok (.if_icmp .le 10, 3) := by decide +kernel
theorem dX8_burns_18 : decode cX8_burns 18 = .ok (.aload_n 0, 1) := by decide +kernel
theorem dX8_burns_19 : decode cX8_burns 19 = .ok (.getfield 103, 3) := by decide +kernel
theorem dX8_burns_22 : decode cX8_burns 22 = .ok (.goto 16, 3) := by decide +kernel
theorem dX8_burns_25 : decode cX8_burns 25 = .ok (.iconst 1, 1) := by decide +kernel
theorem dX8_burns_26 : decode cX8_burns 26 = .ok (.aload_n 0, 1) := by decide +kernel
theorem dX8_burns_27 : decode cX8_burns 27 = .ok (.getfield 135, 3) := by decide +kernel
theorem dX8_burns_30 : decode cX8_burns 30 = .ok (.aload_n 0, 1) := by decide +kernel
theorem dX8_burns_31 : decode cX8_burns 31 = .ok (.getfield 135, 3) := by decide +kernel
theorem dX8_burns_34 : decode cX8_burns 34 = .ok (.imul, 1) := by decide +kernel
theorem dX8_burns_35 : decode cX8_burns 35 = .ok (.iconst 4, 1) := by decide +kernel
theorem dX8_burns_36 : decode cX8_burns 36 = .ok (.idiv, 1) := by decide +kernel
theorem dX8_burns_37 : decode cX8_burns 37 = .ok (.iadd, 1) := by decide +kernel
theorem dX8_burns_38 : decode cX8_burns 38 = .ok (.istore_n 1, 1) := by decide +kernel
theorem dX8_burns_39 : decode cX8_burns 39 = .ok (.iload_n 1, 1) := by decide +kernel
theorem dX8_burns_40 : decode cX8_burns 40 = .ok (.aload_n 0, 1) := by decide +kernel
theorem dX8_burns_41 : decode cX8_burns 41 = .ok (.getfield 103, 3) := by decide +kernel
theorem dX8_burns_44 : decode cX8_burns 44 = .ok (.if_icmp .ge 7, 3) := by decide +kernel
theorem dX8_burns_47 : decode cX8_burns 47 = .ok (.iload_n 1, 1) := by decide +kernel
theorem dX8_burns_48 : decode cX8_burns 48 = .ok (.goto 7, 3) := by decide +kernel
theorem dX8_burns_51 : decode cX8_burns 51 = .ok (.aload_n 0, 1) := by decide +kernel
theorem dX8_burns_52 : decode cX8_burns 52 = .ok (.getfield 103, 3) := by decide +kernel
theorem dX8_burns_55 : decode cX8_burns 55 = .ok (.istore_n 1, 1) := by decide +kernel
theorem dX8_burns_56 : decode cX8_burns 56 = .ok (.aload_n 0, 1) := by decide +kernel
theorem dX8_burns_57 : decode cX8_burns 57 = .ok (.getfield 126, 3) := by decide +kernel
theorem dX8_burns_60 : decode cX8_burns 60 = .ok (.ifCond .eq 31, 3) := by decide +kernel
theorem dX8_burns_63 : decode cX8_burns 63 = .ok (.aload_n 0, 1) := by decide +kernel
theorem dX8_burns_64 : decode cX8_burns 64 = .ok (.getfield 30, 3) := by decide +kernel
theorem dX8_burns_67 : decode cX8_burns 67 = .ok (.ifCond .le 24, 3) := by decide +kernel
theorem dX8_burns_70 : decode cX8_burns 70 = .ok (.aload_n 0, 1) := by decide +kernel
theorem dX8_burns_71 : decode cX8_burns 71 = .ok (.invokevirtual 106, 3) := by decide +kernel
theorem dX8_burns_74 : decode cX8_burns 74 = .ok (.ifCond .eq 17, 3) := by decide +kernel
theorem dX8_burns_77 : decode cX8_burns 77 = .ok (.iload_n 1, 1) := by decide +kernel
theorem dX8_burns_78 : decode cX8_burns 78 = .ok (.iconst 2, 1) := by decide +kernel
theorem dX8_burns_79 : decode cX8_burns 79 = .ok (.idiv, 1) := by decide +kernel
theorem dX8_burns_80 : decode cX8_burns 80 = .ok (.istore_n 1, 1) := by decide +kernel
theorem dX8_burns_81 : decode cX8_burns 81 = .ok (.aload_n 0, 1) := by decide +kernel
theorem dX8_burns_82 : decode cX8_burns 82 = .ok (.dup, 1) := by decide +kernel
theorem dX8_burns_83 : decode cX8_burns 83 = .ok (.getfield 30, 3) := by decide +kernel
theorem dX8_burns_86 : decode cX8_burns 86 = .ok (.iconst 1, 1) := by decide +kernel
theorem dX8_burns_87 : decode cX8_burns 87 = .ok (.isub, 1) := by decide +kernel
theorem dX8_burns_88 : decode cX8_burns 88 = .ok (.putfield 30, 3) := by decide +kernel
theorem dX8_burns_91 : decode cX8_burns 91 = .ok (.aload_n 0, 1) := by decide +kernel
theorem dX8_burns_92 : decode cX8_burns 92 = .ok (.dup, 1) := by decide +kernel
theorem dX8_burns_93 : decode cX8_burns 93 = .ok (.getfield 135, 3) := by decide +kernel
theorem dX8_burns_96 : decode cX8_burns 96 = .ok (.iconst 1, 1) := by decide +kernel
theorem dX8_burns_97 : decode cX8_burns 97 = .ok (.iadd, 1) := by decide +kernel
theorem dX8_burns_98 : decode cX8_burns 98 = .ok (.putfield 135, 3) := by decide +kernel
theorem dX8_burns_101 : decode cX8_burns 101 = .ok (.aload_n 0, 1) := by decide +kernel
theorem dX8_burns_102 : decode cX8_burns 102 = .ok (.getfield 7, 3) := by decide +kernel
theorem dX8_burns_105 : decode cX8_burns 105 = .ok (.aload_n 0, 1) := by decide +kernel
theorem dX8_burns_106 : decode cX8_burns 106 = .ok (.getfield 36, 3) := by decide +kernel
theorem dX8_burns_109 : decode cX8_burns 109 = .ok (.dup2, 1) := by decide +kernel
theorem dX8_burns_110 : decode cX8_burns 110 = .ok (.iaload, 1) := by decide +kernel
theorem dX8_burns_111 : decode cX8_burns 111 = .ok (.iload_n 1, 1) := by decide +kernel
theorem dX8_burns_112 : decode cX8_burns 112 = .ok (.iadd, 1) := by decide +kernel
theorem dX8_burns_113 : decode cX8_burns 113 = .ok (.iastore, 1) := by decide +kernel
theorem dX8_burns_114 : decode cX8_burns 114 = .ok (.aload_n 0, 1) := by decide +kernel
theorem dX8_burns_115 : decode cX8_burns 115 = .ok (.getfield 13, 3) := by decide +kernel
theorem dX8_burns_118 : decode cX8_burns 118 = .ok (.aload_n 0, 1) := by decide +kernel
theorem dX8_burns_119 : decode cX8_burns 119 = .ok (.getfield 36, 3) := by decide +kernel
theorem dX8_burns_122 : decode cX8_burns 122 = .ok (.dup2, 1) := by decide +kernel
theorem dX8_burns_123 : decode cX8_burns 123 = .ok (.iaload, 1) := by decide +kernel
theorem dX8_burns_124 : decode cX8_burns 124 = .ok (.iload_n 1, 1) := by decide +kernel
theorem dX8_burns_125 : decode cX8_burns 125 = .ok (.iadd, 1) := by decide +kernel
theorem dX8_burns_126 : decode cX8_burns 126 = .ok (.iastore, 1) := by decide +kernel
theorem dX8_burns_127 : decode cX8_burns 127 = .ok (.aload_n 0, 1) := by decide +kernel
theorem dX8_burns_128 : decode cX8_burns 128 = .ok (.dup, 1) := by decide +kernel
theorem dX8_burns_129 : decode cX8_burns 129 = .ok (.getfield 138, 3) := by decide +kernel
theorem dX8_burns_132 : decode cX8_burns 132 = .ok (.iload_n 1, 1) := by decide +kernel
theorem dX8_burns_133 : decode cX8_burns 133 = .ok (.iadd, 1) := by decide +kernel
theorem dX8_burns_134 : decode cX8_burns 134 = .ok (.putfield 138, 3) := by decide +kernel
theorem dX8_burns_137 : decode cX8_burns 137 = .ok (.return_, 1) := by decide +kernel
theorem dX8_strength_0 : decode cX8_strength 0 = .ok (.aload_n 0, 1) := by decide +kernel
theorem dX8_strength_1 : decode cX8_strength 1 = .ok (.getfield 129, 3) := by decide +kernel
theorem dX8_strength_4 : decode cX8_strength 4 = .ok (.dconst 0, 1) := by decide +kernel
theorem dX8_strength_5 : decode cX8_strength 5 = .ok (.dcmp .g, 1) := by decide +kernel
theorem dX8_strength_6 : decode cX8_strength 6 = .ok (.ifCond .ge 11, 3) := by decide +kernel
theorem dX8_strength_9 : decode cX8_strength 9 = .ok (.aload_n 0, 1) := by decide +kernel
theorem dX8_strength_10 : decode cX8_strength 10 = .ok (.getfield 129, 3) := by decide +kernel
theorem dX8_strength_13 : decode cX8_strength 13 = .ok (.dneg, 1) := by decide +kernel
theorem dX8_strength_14 : decode cX8_strength 14 = .ok (.goto 7, 3) := by decide +kernel
theorem dX8_strength_17 : decode cX8_strength 17 = .ok (.aload_n 0, 1) := by decide +kernel
theorem dX8_strength_18 : decode cX8_strength 18 = .ok (.getfield 129, 3) := by decide +kernel
theorem dX8_strength_21 : decode cX8_strength 21 = .ok (.dreturn, 1) := by decide +kernel
set_option maxRecDepth 20000 in
theorem ggX8_comes_X8_isSegment : GoodIn wsX8_comes wsX8_isSegment := goodIn_r _ [6, 7, 8, 5, 9] (by decide +kernel) (by decide +kernel)
set_option maxRecDepth 20000 in
theorem gX8_comes_X8_isSegment : GoodIn wsX8_comes (va_wsS RX8 73 yX8_isSegment wsX8_isSegment) := goodIn_app (goodIn_of _ (by decide +kernel)) ggX8_comes_X8_isSegment
theorem dX8_comes_0 : decode cX8_comes 0 = .ok (.iload_n 1, 1) := by decide +kernel
theorem dX8_comes_1 : decode cX8_comes 1 = .ok (.invokestatic 73, 3) := by decide +kernel
theorem dX8_comes_4 : decode cX8_comes 4 = .ok (.ifCond .eq 16, 3) := by decide +kernel
theorem dX8_comes_7 : decode cX8_comes 7 = .ok (.aload_n 0, 1) := by decide +kernel
theorem dX8_comes_8 : decode cX8_comes 8 = .ok (.getfield 7, 3) := by decide +kernel
theorem dX8_comes_11 : decode cX8_comes 11 = .ok (.iload_n 1, 1) := by decide +kernel
theorem dX8_comes_12 : decode cX8_comes 12 = .ok (.dup2, 1) := by decide +kernel
theorem dX8_comes_13 : decode cX8_comes 13 = .ok (.iaload, 1) := by decide +kernel
theorem dX8_comes_14 : decode cX8_comes 14 = .ok (.iload_n 2, 1) := by decide +kernel
theorem dX8_comes_15 : decode cX8_comes 15 = .ok (.iadd, 1) := by decide +kernel
theorem dX8_comes_16 : decode cX8_comes 16 = .ok (.iastore, 1) := by decide +kernel
theorem dX8_comes_17 : decode cX8_comes 17 = .ok (.goto 13, 3) := by decide +kernel
theorem dX8_comes_20 : decode cX8_comes 20 = .ok (.aload_n 0, 1) := by decide +kernel
theorem dX8_comes_21 : decode cX8_comes 21 = .ok (.dup, 1) := by decide +kernel
theorem dX8_comes_22 : decode cX8_comes 22 = .ok (.getfield 141, 3) := by decide +kernel
theorem dX8_comes_25 : decode cX8_comes 25 = .ok (.iload_n 2, 1) := by decide +kernel
theorem dX8_comes_26 : decode cX8_comes 26 = .ok (.iadd, 1) := by decide +kernel
theorem dX8_comes_27 : decode cX8_comes 27 = .ok (.putfield 141, 3) := by decide +kernel
theorem dX8_comes_30 : decode cX8_comes 30 = .ok (.return_, 1) := by decide +kernel
set_option maxRecDepth 20000 in
theorem ggX8_moves_X8_strength : GoodIn wsX8_moves wsX8_strength := goodIn_r _ [13, 1, 24, 25, 26, 27, 28, 29, 30, 31, 32, 33, 34, 35, 36, 37, 38, 39, 40, 41, 42, 43, 44, 45, 46, 47, 48, 49, 50, 51, 52, 53, 54, 55, 56, 57, 58, 59, 60] (by decide +kernel) (by decide +kernel)
set_option maxRecDepth 20000 in
theorem gX8_moves_X8_strength : GoodIn wsX8_moves (wsV RX8 144 RX8 yX8_strength wsX8_strength) := goodIn_app (goodIn_of _ (by decide +kernel)) ggX8_moves_X8_strength
set_option maxRecDepth 20000 in
theorem ggX8_moves_X8_comes : GoodIn wsX8_moves wsX8_comes := goodIn_r _ [17, 2, 7, 18, 19, 12, 20, 21, 22, 23, 24, 25, 26, 27, 28, 29, 30, 31, 32, 33, 34, 35, 36, 37, 38, 39, 40, 41, 42, 43, 44, 45, 46, 47, 48, 49, 50, 51, 52, 53, 54, 55, 56, 57, 58, 59, 60] (by decide +kernel) (by decide +kernel)
set_option maxRecDepth 20000 in
theorem gX8_moves_X8_comes : GoodIn wsX8_moves (wsV RX8 148 RX8 yX8_comes wsX8_comes) := goodIn_app (goodIn_of _ (by decide +kernel)) ggX8_moves_X8_comes
theorem dX8_moves_0 : decode cX8_moves 0 = .ok (.aload_n 0, 1) := by decide +kernel
theorem dX8_moves_1 : decode cX8_moves 1 = .ok (.invokevirtual 144, 3) := by decide +kernel
theorem dX8_moves_4 : decode cX8_moves 4 = .ok (.d2i, 1) := by decide +kernel
theorem dX8_moves_5 : decode cX8_moves 5 = .ok (.istore_n 1, 1) := by decide +kernel
theorem dX8_moves_6 : decode cX8_moves 6 = .ok (.aload_n 0, 1) := by decide +kernel
theorem dX8_moves_7 : decode cX8_moves 7 = .ok (.getfield 129, 3) := by decide +kernel
theorem dX8_moves_10 : decode cX8_moves 10 = .ok (.dconst 0, 1) := by decide +kernel
theorem dX8_moves_11 : decode cX8_moves 11 = .ok (.dcmp .g, 1) := by decide +kernel
theorem dX8_moves_12 : decode cX8_moves 12 = .ok (.ifCond .ge 7, 3) := by decide +kernel
theorem dX8_moves_15 : decode cX8_moves 15 = .ok (.iconst (-1), 1) := by decide +kernel
theorem dX8_moves_16 : decode cX8_moves 16 = .ok (.goto 4, 3) := by decide +kernel
theorem dX8_moves_19 : decode cX8_moves 19 = .ok (.iconst 1, 1) := by decide +kernel
theorem dX8_moves_20 : decode cX8_moves 20 = .ok (.istore_n 2, 1) := by decide +kernel
theorem dX8_moves_21 : decode cX8_moves 21 = .ok (.iload_n 2, 1) := by decide +kernel
theorem dX8_moves_22 : decode cX8_moves 22 = .ok (.iconst 1, 1) := by decide +kernel
theorem dX8_moves_23 : decode cX8_moves 23 = .ok (.if_icmp .ne 8, 3) := by decide +kernel
theorem dX8_moves_26 : decode cX8_moves 26 = .ok (.bipush 11, 2) := by decide +kernel
theorem dX8_moves_28 : decode cX8_moves 28 = .ok (.goto 4, 3) := by decide +kernel
theorem dX8_moves_31 : decode cX8_moves 31 = .ok (.iconst 0, 1) := by decide +kernel
theorem dX8_moves_32 : decode cX8_moves 32 = .ok (.istore_n 3, 1) := by decide +kernel
theorem dX8_moves_33 : decode cX8_moves 33 = .ok (.iconst 0, 1) := by decide +kernel
theorem dX8_moves_34 : decode cX8_moves 34 = .ok (.istore 4, 2) := by decide +kernel
theorem dX8_moves_36 : decode cX8_moves 36 = .ok (.iload 4, 2) := by decide +kernel
theorem dX8_moves_38 : decode cX8_moves 38 = .ok (.bipush 12, 2) := by decide +kernel
theorem dX8_moves_40 : decode cX8_moves 40 = .ok (.if_icmp .ge 53, 3) := by decide +kernel
theorem dX8_moves_43 : decode cX8_moves 43 = .ok (.iload_n 3, 1) := by decide +kernel
theorem dX8_moves_44 : decode cX8_moves 44 = .ok (.iload_n 2, 1) := by decide +kernel
theorem dX8_moves_45 : decode cX8_moves 45 = .ok (.iload 4, 2) := by decide +kernel
theorem dX8_moves_47 : decode cX8_moves 47 = .ok (.imul, 1) := by decide +kernel
theorem dX8_moves_48 : decode cX8_moves 48 = .ok (.isub, 1) := by decide +kernel
theorem dX8_moves_49 : decode cX8_moves 49 = .ok (.istore 5, 2) := by decide +kernel
theorem dX8_moves_51 : decode cX8_moves 51 = .ok (.aload_n 0, 1) := by decide +kernel
theorem dX8_moves_52 : decode cX8_moves 52 = .ok (.getfield 7, 3) := by decide +kernel
theorem dX8_moves_55 : decode cX8_moves 55 = .ok (.iload 5, 2) := by decide +kernel
theorem dX8_moves_57 : decode cX8_moves 57 = .ok (.iaload, 1) := by decide +kernel
theorem dX8_moves_58 : decode cX8_moves 58 = .ok (.iload_n 1, 1) := by decide +kernel
theorem dX8_moves_59 : decode cX8_moves 59 = .ok (.imul, 1) := by decide +kernel
theorem dX8_moves_60 : decode cX8_moves 60 = .ok (.bipush 100, 2) := by decide +kernel
theorem dX8_moves_62 : decode cX8_moves 62 = .ok (.idiv, 1) := by decide +kernel
theorem dX8_moves_63 : decode cX8_moves 63 = .ok (.istore 6, 2) := by decide +kernel
theorem dX8_moves_65 : decode cX8_moves 65 = .ok (.aload_n 0, 1) := by decide +kernel
theorem dX8_moves_66 : decode cX8_moves 66 = .ok (.getfield 7, 3) := by decide +kernel
theorem dX8_moves_69 : decode cX8_moves 69 = .ok (.iload 5, 2) := by decide +kernel
theorem dX8_moves_71 : decode cX8_moves 71 = .ok (.dup2, 1) := by decide +kernel
theorem dX8_moves_72 : decode cX8_moves 72 = .ok (.iaload, 1) := by decide +kernel
theorem dX8_moves_73 : decode cX8_moves 73 = .ok (.iload 6, 2) := by decide +kernel
theorem dX8_moves_75 : decode cX8_moves 75 = .ok (.isub, 1) := by decide +kernel
theorem dX8_moves_76 : decode cX8_moves 76 = .ok (.iastore, 1) := by decide +kernel
theorem dX8_moves_77 : decode cX8_moves 77 = .ok (.aload_n 0, 1) := by decide +kernel
theorem dX8_moves_78 : decode cX8_moves 78 = .ok (.iload 5, 2) := by decide +kernel
theorem dX8_moves_80 : decode cX8_moves 80 = .ok (.iload_n 2, 1) := by decide +kernel
theorem dX8_moves_81 : decode cX8_moves 81 = .ok (.iadd, 1) := by decide +kernel
theorem dX8_moves_82 : decode cX8_moves 82 = .ok (.iload 6, 2) := by decide +kernel
theorem dX8_moves_84 : decode cX8_moves 84 = .ok (.invokevirtual 148, 3) := by decide +kernel
theorem dX8_moves_87 : decode cX8_moves 87 = .ok (.iinc 4 1, 3) := by decide +kernel
theorem dX8_moves_90 : decode cX8_moves 90 = .ok (.goto (-54), 3) := by decide +kernel
theorem dX8_moves_93 : decode cX8_moves 93 = .ok (.aload_n 0, 1) := by decide +kernel
theorem dX8_moves_94 : decode cX8_moves 94 = .ok (.getfield 36, 3) := by decide +kernel
theorem dX8_moves_97 : decode cX8_moves 97 = .ok (.iconst (-1), 1) := by decide +kernel
theorem dX8_moves_98 : decode cX8_moves 98 = .ok (.if_icmp .eq 54, 3) := by decide +kernel
theorem dX8_moves_101 : decode cX8_moves 101 = .ok (.aload_n 0, 1) := by decide +kernel
theorem dX8_moves_102 : decode cX8_moves 102 = .ok (.invokevirtual 144, 3) := by decide +kernel
theorem dX8_moves_105 : decode cX8_moves 105 = .ok (.ldc2_w 152, 3) := by decide +kernel
theorem dX8_moves_108 : decode cX8_moves 108 = .ok (.dcmp .g, 1) := by decide +kernel
theorem dX8_moves_109 : decode cX8_moves 109 = .ok (.ifCond .ge 43, 3) := by decide +kernel
theorem dX8_moves_112 : decode cX8_moves 112 = .ok (.aload_n 0, 1) := by decide +kernel
theorem dX8_moves_113 : decode cX8_moves 113 = .ok (.getfield 7, 3) := by decide +kernel
theorem dX8_moves_116 : decode cX8_moves 116 = .ok (.aload_n 0, 1) := by decide +kernel
theorem dX8_moves_117 : decode cX8_moves 117 = .ok (.getfield 36, 3) := by decide +kernel
theorem dX8_moves_120 : decode cX8_moves 120 = .ok (.iaload, 1) := by decide +kernel
theorem dX8_moves_121 : decode cX8_moves 121 = .ok (.bipush 10, 2) := by decide +kernel
theorem dX8_moves_123 : decode cX8_moves 123 = .ok (.idiv, 1) := by decide +kernel
theorem dX8_moves_124 : decode cX8_moves 124 = .ok (.istore 4, 2) := by decide +kernel
theorem dX8_moves_126 : decode cX8_moves 126 = .ok (.aload_n 0, 1) := by decide +kernel
theorem dX8_moves_127 : decode cX8_moves 127 = .ok (.getfield 7, 3) := by decide +kernel
theorem dX8_moves_130 : decode cX8_moves 130 = .ok (.aload_n 0, 1) := by decide +kernel
theorem dX8_moves_131 : decode cX8_moves 131 = .ok (.getfield 36, 3) := by decide +kernel
theorem dX8_moves_134 : decode cX8_moves 134 = .ok (.dup2, 1) := by decide +kernel
theorem dX8_moves_135 : decode cX8_moves 135 = .ok (.iaload, 1) := by decide +kernel
theorem dX8_moves_136 : decode cX8_moves 136 = .ok (.iload 4, 2) := by decide +kernel
theorem dX8_moves_138 : decode cX8_moves 138 = .ok (.isub, 1) := by decide +kernel
theorem dX8_moves_139 : decode cX8_moves 139 = .ok (.iastore, 1) := by decide +kernel
theorem dX8_moves_140 : decode cX8_moves 140 = .ok (.aload_n 0, 1) := by decide +kernel
theorem dX8_moves_141 : decode cX8_moves 141 = .ok (.aload_n 0, 1) := by decide +kernel
theorem dX8_moves_142 : decode cX8_moves 142 = .ok (.getfield 36, 3) := by decide +kernel
theorem dX8_moves_145 : decode cX8_moves 145 = .ok (.iload_n 2, 1) := by decide +kernel
theorem dX8_moves_146 : decode cX8_moves 146 = .ok (.isub, 1) := by decide +kernel
theorem dX8_moves_147 : decode cX8_moves 147 = .ok (.iload 4, 2) := by decide +kernel
theorem dX8_moves_149 : decode cX8_moves 149 = .ok (.invokevirtual 148, 3) := by decide +kernel
theorem dX8_moves_152 : decode cX8_moves 152 = .ok (.aload_n 0, 1) := by decide +kernel
theorem dX8_moves_153 : decode cX8_moves 153 = .ok (.getfield 93, 3) := by decide +kernel
theorem dX8_moves_156 : decode cX8_moves 156 = .ok (.ifCond .eq 41, 3) := by decide +kernel
theorem dX8_moves_159 : decode cX8_moves 159 = .ok (.aload_n 0, 1) := by decide +kernel
theorem dX8_moves_160 : decode cX8_moves 160 = .ok (.getfield 7, 3) := by decide +kernel
theorem dX8_moves_163 : decode cX8_moves 163 = .ok (.aload_n 0, 1) := by decide +kernel
theorem dX8_moves_164 : decode cX8_moves 164 = .ok (.getfield 26, 3) := by decide +kernel
theorem dX8_moves_167 : decode cX8_moves 167 = .ok (.iaload, 1) := by decide +kernel
theorem dX8_moves_168 : decode cX8_moves 168 = .ok (.iconst 3, 1) := by decide +kernel
theorem dX8_moves_169 : decode cX8_moves 169 = .ok (.idiv, 1) := by decide +kernel
theorem dX8_moves_170 : decode cX8_moves 170 = .ok (.istore 4, 2) := by decide +kernel
theorem dX8_moves_172 : decode cX8_moves 172 = .ok (.aload_n 0, 1) := by decide +kernel
theorem dX8_moves_173 : decode cX8_moves 173 = .ok (.getfield 7, 3) := by decide +kernel
theorem dX8_moves_176 : decode cX8_moves 176 = .ok (.aload_n 0, 1) := by decide +kernel
theorem dX8_moves_177 : decode cX8_moves 177 = .ok (.getfield 26, 3) := by decide +kernel
theorem dX8_moves_180 : decode cX8_moves 180 = .ok (.dup2, 1) := by decide +kernel
theorem dX8_moves_181 : decode cX8_moves 181 = .ok (.iaload, 1) := by decide +kernel
theorem dX8_moves_182 : decode cX8_moves 182 = .ok (.iload 4, 2) := by decide +kernel
theorem dX8_moves_184 : decode cX8_moves 184 = .ok (.isub, 1) := by decide +kernel
theorem dX8_moves_185 : decode cX8_moves 185 = .ok (.iastore, 1) := by decide +kernel
theorem dX8_moves_186 : decode cX8_moves 186 = .ok (.aload_n 0, 1) := by decide +kernel
theorem dX8_moves_187 : decode cX8_moves 187 = .ok (.dup, 1) := by decide +kernel
theorem dX8_moves_188 : decode cX8_moves 188 = .ok (.getfield 141, 3) := by decide +kernel
theorem dX8_moves_191 : decode cX8_moves 191 = .ok (.iload 4, 2) := by decide +kernel
theorem dX8_moves_193 : decode cX8_moves 193 = .ok (.iadd, 1) := by decide +kernel
theorem dX8_moves_194 : decode cX8_moves 194 = .ok (.putfield 141, 3) := by decide +kernel
theorem dX8_moves_197 : decode cX8_moves 197 = .ok (.iconst 0, 1) := by decide +kernel
theorem dX8_moves_198 : decode cX8_moves 198 = .ok (.istore 4, 2) := by decide +kernel
theorem dX8_moves_200 : decode cX8_moves 200 = .ok (.iload 4, 2) := by decide +kernel
theorem dX8_moves_202 : decode cX8_moves 202 = .ok (.bipush 12, 2) := by decide +kernel
theorem dX8_moves_204 : decode cX8_moves 204 = .ok (.if_icmp .ge 30, 3) := by decide +kernel
theorem dX8_moves_207 : decode cX8_moves 207 = .ok (.aload_n 0, 1) := by decide +kernel
theorem dX8_moves_208 : decode cX8_moves 208 = .ok (.getfield 13, 3) := by decide +kernel
theorem dX8_moves_211 : decode cX8_moves 211 = .ok (.iload 4, 2) := by decide +kernel
theorem dX8_moves_213 : decode cX8_moves 213 = .ok (.dup2, 1) := by decide +kernel
theorem dX8_moves_214 : decode cX8_moves 214 = .ok (.iaload, 1) := by decide +kernel
theorem dX8_moves_215 : decode cX8_moves 215 = .ok (.aload_n 0, 1) := by decide +kernel
theorem dX8_moves_216 : decode cX8_moves 216 = .ok (.getfield 13, 3) := by decide +kernel
theorem dX8_moves_219 : decode cX8_moves 219 = .ok (.iload 4, 2) := by decide +kernel
theorem dX8_moves_221 : decode cX8_moves 221 = .ok (.iaload, 1) := by decide +kernel
theorem dX8_moves_222 : decode cX8_moves 222 = .ok (.iconst 3, 1) := by decide +kernel
theorem dX8_moves_223 : decode cX8_moves 223 = .ok (.iadd, 1) := by decide +kernel
theorem dX8_moves_224 : decode cX8_moves 224 = .ok (.iconst 4, 1) := by decide +kernel
theorem dX8_moves_225 : decode cX8_moves 225 = .ok (.idiv, 1) := by decide +kernel
theorem dX8_moves_226 : decode cX8_moves 226 = .ok (.isub, 1) := by decide +kernel
theorem dX8_moves_227 : decode cX8_moves 227 = .ok (.iastore, 1) := by decide +kernel
theorem dX8_moves_228 : decode cX8_moves 228 = .ok (.iinc 4 1, 3) := by decide +kernel
theorem dX8_moves_231 : decode cX8_moves 231 = .ok (.goto (-31), 3) := by decide +kernel
theorem dX8_moves_234 : decode cX8_moves 234 = .ok (.return_, 1) := by decide +kernel
theorem dX8_personsIn_0 : decode cX8_personsIn 0 = .ok (.iconst 0, 1) := by decide +kernel
theorem dX8_personsIn_1 : decode cX8_personsIn 1 = .ok (.istore_n 2, 1) := by decide +kernel
theorem dX8_personsIn_2 : decode cX8_personsIn 2 = .ok (.iconst 0, 1) := by decide +kernel
theorem dX8_personsIn_3 : decode cX8_personsIn 3 = .ok (.istore_n 3, 1) := by decide +kernel
theorem dX8_personsIn_4 : decode cX8_personsIn 4 = .ok (.iload_n 3, 1) := by decide +kernel
theorem dX8_personsIn_5 : decode cX8_personsIn 5 = .ok (.aload_n 0, 1) := by decide +kernel
theorem dX8_personsIn_6 : decode cX8_personsIn 6 = .ok (.getfield 97, 3) := by decide +kernel
theorem dX8_personsIn_9 : decode cX8_personsIn 9 = .ok (.if_icmp .ge 37, 3) := by decide +kernel
theorem dX8_personsIn_12 : decode cX8_personsIn 12 = .ok (.iload_n 2, 1) := by decide +kernel
theorem dX8_personsIn_13 : decode cX8_personsIn 13 = .ok (.aload_n 0, 1) := by decide +kernel
theorem dX8_personsIn_14 : decode cX8_personsIn 14 = .ok (.getfield 54, 3) := by decide +kernel
theorem dX8_personsIn_17 : decode cX8_personsIn 17 = .ok (.iload_n 3, 1) := by decide +kernel
theorem dX8_personsIn_18 : decode cX8_personsIn 18 = .ok (.iaload, 1) := by decide +kernel
theorem dX8_personsIn_19 : decode cX8_personsIn 19 = .ok (.iconst 3, 1) := by decide +kernel
theorem dX8_personsIn_20 : decode cX8_personsIn 20 = .ok (.if_icmp .eq 17, 3) := by decide +kernel
theorem dX8_personsIn_23 : decode cX8_personsIn 23 = .ok (.aload_n 0, 1) := by decide +kernel
theorem dX8_personsIn_24 : decode cX8_personsIn 24 = .ok (.getfield 57, 3) := by decide +kernel
theorem dX8_personsIn_27 : decode cX8_personsIn 27 = .ok (.iload_n 3, 1) := by decide +kernel
theorem dX8_personsIn_28 : decode cX8_personsIn 28 = .ok (.iaload, 1) := by decide +kernel
theorem dX8_personsIn_29 : decode cX8_personsIn 29 = .ok (.iload_n 1, 1) := by decide +kernel
theorem dX8_personsIn_30 : decode cX8_personsIn 30 = .ok (.if_icmp .ne 7, 3) := by decide +kernel
theorem dX8_personsIn_33 : decode cX8_personsIn 33 = .ok (.iconst 1, 1) := by decide +kernel
theorem dX8_personsIn_34 : decode cX8_personsIn 34 = .ok (.goto 4, 3) := by decide +kernel
theorem dX8_personsIn_37 : decode cX8_personsIn 37 = .ok (.iconst 0, 1) := by decide +kernel
theorem dX8_personsIn_38 : decode cX8_personsIn 38 = .ok (.iadd, 1) := by decide +kernel
theorem dX8_personsIn_39 : decode cX8_personsIn 39 = .ok (.istore_n 2, 1) := by decide +kernel
theorem dX8_personsIn_40 : decode cX8_personsIn 40 = .ok (.iinc 3 1, 3) := by decide +kernel
theorem dX8_personsIn_43 : decode cX8_personsIn 43 = .ok (.goto (-39), 3) := by decide +kernel
theorem dX8_personsIn_46 : decode cX8_personsIn 46 = .ok (.iload_n 2, 1) := by decide +kernel
theorem dX8_personsIn_47 : decode cX8_personsIn 47 = .ok (.ireturn, 1) := by decide +kernel
set_option maxRecDepth 20000 in
theorem ggX8_tells_X8_personsIn : GoodIn wsX8_tells wsX8_personsIn := goodIn_r _ [8, 9, 10, 11, 12, 13, 14, 15, 16, 17, 18, 19, 20, 21, 22, 23, 24, 25, 26, 27, 28, 29, 30, 31, 32, 33, 34, 35, 36, 37, 38, 39, 40, 41, 42, 43, 44, 45, 46, 47, 48] (by decide +kernel) (by decide +kernel)
set_option maxRecDepth 20000 in
theorem gX8_tells_X8_personsIn : GoodIn wsX8_tells (wsV RX8 154 RX8 yX8_personsIn wsX8_personsIn) := goodIn_app (goodIn_of _ (by decide +kernel)) ggX8_tells_X8_personsIn
theorem dX8_tells_0 : decode cX8_tells 0 = .ok (.aload_n 0, 1) := by decide +kernel
theorem dX8_tells_1 : decode cX8_tells 1 = .ok (.getfield 13, 3) := by decide +kernel
theorem dX8_tells_4 : decode cX8_tells 4 = .ok (.iload_n 1, 1) := by decide +kernel
theorem dX8_tells_5 : decode cX8_tells 5 = .ok (.iaload, 1) := by decide +kernel
theorem dX8_tells_6 : decode cX8_tells 6 = .ok (.bipush 20, 2) := by decide +kernel
theorem dX8_tells_8 : decode cX8_tells 8 = .ok (.if_icmp .lt 18, 3) := by decide +kernel
theorem dX8_tells_11 : decode cX8_tells 11 = .ok (.aload_n 0, 1) := by decide +kernel
theorem dX8_tells_12 : decode cX8_tells 12 = .ok (.getfield 39, 3) := by decide +kernel
theorem dX8_tells_15 : decode cX8_tells 15 = .ok (.iconst 3, 1) := by decide +kernel
theorem dX8_tells_16 : decode cX8_tells 16 = .ok (.iload_n 1, 1) := by decide +kernel
theorem dX8_tells_17 : decode cX8_tells 17 = .ok (.imul, 1) := by decide +kernel
theorem dX8_tells_18 : decode cX8_tells 18 = .ok (.baload, 1) := by decide +kernel
theorem dX8_tells_19 : decode cX8_tells 19 = .ok (.ifCond .ne 7, 3) := by decide +kernel
theorem dX8_tells_22 : decode cX8_tells 22 = .ok (.iconst 1, 1) := by decide +kernel
theorem dX8_tells_23 : decode cX8_tells 23 = .ok (.goto 4, 3) := by decide +kernel
theorem dX8_tells_26 : decode cX8_tells 26 = .ok (.iconst 0, 1) := by decide +kernel
theorem dX8_tells_27 : decode cX8_tells 27 = .ok (.istore_n 2, 1) := by decide +kernel
theorem dX8_tells_28 : decode cX8_tells 28 = .ok (.iload_n 2, 1) := by decide +kernel
theorem dX8_tells_29 : decode cX8_tells 29 = .ok (.aload_n 0, 1) := by decide +kernel
theorem dX8_tells_30 : decode cX8_tells 30 = .ok (.getfield 7, 3) := by decide +kernel
theorem dX8_tells_33 : decode cX8_tells 33 = .ok (.iload_n 1, 1) := by decide +kernel
theorem dX8_tells_34 : decode cX8_tells 34 = .ok (.iaload, 1) := by decide +kernel
theorem dX8_tells_35 : decode cX8_tells 35 = .ok (.bipush 15, 2) := by decide +kernel
theorem dX8_tells_37 : decode cX8_tells 37 = .ok (.if_icmp .lt 20, 3) := by decide +kernel
theorem dX8_tells_40 : decode cX8_tells 40 = .ok (.aload_n 0, 1) := by decide +kernel
theorem dX8_tells_41 : decode cX8_tells 41 = .ok (.getfield 39, 3) := by decide +kernel
theorem dX8_tells_44 : decode cX8_tells 44 = .ok (.iconst 3, 1) := by decide +kernel
theorem dX8_tells_45 : decode cX8_tells 45 = .ok (.iload_n 1, 1) := by decide +kernel
theorem dX8_tells_46 : decode cX8_tells 46 = .ok (.imul, 1) := by decide +kernel
theorem dX8_tells_47 : decode cX8_tells 47 = .ok (.iconst 1, 1) := by decide +kernel
theorem dX8_tells_48 : decode cX8_tells 48 = .ok (.iadd, 1) := by decide +kernel
theorem dX8_tells_49 : decode cX8_tells 49 = .ok (.baload, 1) := by decide +kernel
theorem dX8_tells_50 : decode cX8_tells 50 = .ok (.ifCond .ne 7, 3) := by decide +kernel
theorem dX8_tells_53 : decode cX8_tells 53 = .ok (.iconst 1, 1) := by decide +kernel
theorem dX8_tells_54 : decode cX8_tells 54 = .ok (.goto 4, 3) := by decide +kernel
theorem dX8_tells_57 : decode cX8_tells 57 = .ok (.iconst 0, 1) := by decide +kernel
theorem dX8_tells_58 : decode cX8_tells 58 = .ok (.iadd, 1) := by decide +kernel
theorem dX8_tells_59 : decode cX8_tells 59 = .ok (.istore_n 2, 1) := by decide +kernel
theorem dX8_tells_60 : decode cX8_tells 60 = .ok (.iload_n 2, 1) := by decide +kernel
theorem dX8_tells_61 : decode cX8_tells 61 = .ok (.aload_n 0, 1) := by decide +kernel
theorem dX8_tells_62 : decode cX8_tells 62 = .ok (.getfield 7, 3) := by decide +kernel
theorem dX8_tells_65 : decode cX8_tells 65 = .ok (.iload_n 1, 1) := by decide +kernel
theorem dX8_tells_66 : decode cX8_tells 66 = .ok (.iaload, 1) := by decide +kernel
theorem dX8_tells_67 : decode cX8_tells 67 = .ok (.bipush 10, 2) := by decide +kernel
theorem dX8_tells_69 : decode cX8_tells 69 = .ok (.if_icmp .lt 28, 3) := by decide +kernel
theorem dX8_tells_72 : decode cX8_tells 72 = .ok (.aload_n 0, 1) := by decide +kernel
theorem dX8_tells_73 : decode cX8_tells 73 = .ok (.iload_n 1, 1) := by decide +kernel
theorem dX8_tells_74 : decode cX8_tells 74 = .ok (.invokevirtual 154, 3) := by decide +kernel
theorem dX8_tells_77 : decode cX8_tells 77 = .ok (.ifCond .le 20, 3) := by decide +kernel
theorem dX8_tells_80 : decode cX8_tells 80 = .ok (.aload_n 0, 1) := by decide +kernel
theorem dX8_tells_81 : decode cX8_tells 81 = .ok (.getfield 39, 3) := by decide +kernel
theorem dX8_tells_84 : decode cX8_tells 84 = .ok (.iconst 3, 1) := by decide +kernel
theorem dX8_tells_85 : decode cX8_tells 85 = .ok (.iload_n 1, 1) := by decide +kernel
theorem dX8_tells_86 : decode cX8_tells 86 = .ok (.imul, 1) := by decide +kernel
theorem dX8_tells_87 : decode cX8_tells 87 = .ok (.iconst 2, 1) := by decide +kernel
theorem dX8_tells_88 : decode cX8_tells 88 = .ok (.iadd, 1) := by decide +kernel
theorem dX8_tells_89 : decode cX8_tells 89 = .ok (.baload, 1) := by decide +kernel
theorem dX8_tells_90 : decode cX8_tells 90 = .ok (.ifCond .ne 7, 3) := by decide +kernel
theorem dX8_tells_93 : decode cX8_tells 93 = .ok (.iconst 1, 1) := by decide +kernel
theorem dX8_tells_94 : decode cX8_tells 94 = .ok (.goto 4, 3) := by decide +kernel
theorem dX8_tells_97 : decode cX8_tells 97 = .ok (.iconst 0, 1) := by decide +kernel
theorem dX8_tells_98 : decode cX8_tells 98 = .ok (.iadd, 1) := by decide +kernel
theorem dX8_tells_99 : decode cX8_tells 99 = .ok (.istore_n 2, 1) := by decide +kernel
theorem dX8_tells_100 : decode cX8_tells 100 = .ok (.iload_n 2, 1) := by decide +kernel
theorem dX8_tells_101 : decode cX8_tells 101 = .ok (.ireturn, 1) := by decide +kernel
set_option maxRecDepth 20000 in
theorem ggX8_detects_X8_tells : GoodIn wsX8_detects wsX8_tells := goodIn_r _ [9, 10, 11, 12, 13, 14, 15, 8, 16, 17, 18, 19, 20, 21, 22, 23, 24, 25, 26, 27, 28, 29, 30, 31, 32, 33, 34, 35, 36, 37, 38, 39, 40, 41, 42, 43, 44, 45, 46, 47, 48, 49, 50, 51, 52, 53, 54, 55, 56] (by decide +kernel) (by decide +kernel)
set_option maxRecDepth 20000 in
theorem gX8_detects_X8_tells : GoodIn wsX8_detects (wsV RX8 158 RX8 yX8_tells wsX8_tells) := goodIn_app (goodIn_of _ (by decide +kernel)) ggX8_detects_X8_tells
theorem dX8_detects_0 : decode cX8_detects 0 = .ok (.iconst 0, 1) := by decide +kernel
theorem dX8_detects_1 : decode cX8_detects 1 = .ok (.istore_n 1, 1) := by decide +kernel
theorem dX8_detects_2 : decode cX8_detects 2 = .ok (.iload_n 1, 1) := by decide +kernel
theorem dX8_detects_3 : decode cX8_detects 3 = .ok (.bipush 12, 2) := by decide +kernel
theorem dX8_detects_5 : decode cX8_detects 5 = .ok (.if_icmp .ge 46, 3) := by decide +kernel
theorem dX8_detects_8 : decode cX8_detects 8 = .ok (.aload_n 0, 1) := by decide +kernel
theorem dX8_detects_9 : decode cX8_detects 9 = .ok (.getfield 42, 3) := by decide +kernel
theorem dX8_detects_12 : decode cX8_detects 12 = .ok (.iconst (-1), 1) := by decide +kernel
theorem dX8_detects_13 : decode cX8_detects 13 = .ok (.if_icmp .ne 38, 3) := by decide +kernel
theorem dX8_detects_16 : decode cX8_detects 16 = .ok (.aload_n 0, 1) := by decide +kernel
theorem dX8_detects_17 : decode cX8_detects 17 = .ok (.iload_n 1, 1) := by decide +kernel
theorem dX8_detects_18 : decode cX8_detects 18 = .ok (.invokevirtual 158, 3) := by decide +kernel
theorem dX8_detects_21 : decode cX8_detects 21 = .ok (.iconst 2, 1) := by decide +kernel
theorem dX8_detects_22 : decode cX8_detects 22 = .ok (.if_icmp .lt 23, 3) := by decide +kernel
theorem dX8_detects_25 : decode cX8_detects 25 = .ok (.aload_n 0, 1) := by decide +kernel
theorem dX8_detects_26 : decode cX8_detects 26 = .ok (.iload_n 1, 1) := by decide +kernel
theorem dX8_detects_27 : decode cX8_detects 27 = .ok (.putfield 42, 3) := by decide +kernel
theorem dX8_detects_30 : decode cX8_detects 30 = .ok (.aload_n 0, 1) := by decide +kernel
theorem dX8_detects_31 : decode cX8_detects 31 = .ok (.aload_n 0, 1) := by decide +kernel
theorem dX8_detects_32 : decode cX8_detects 32 = .ok (.getfield 77, 3) := by decide +kernel
theorem dX8_detects_35 : decode cX8_detects 35 = .ok (.aload_n 0, 1) := by decide +kernel
theorem dX8_detects_36 : decode cX8_detects 36 = .ok (.getfield 48, 3) := by decide +kernel
theorem dX8_detects_39 : decode cX8_detects 39 = .ok (.iconst 0, 1) := by decide +kernel
theorem dX8_detects_40 : decode cX8_detects 40 = .ok (.iaload, 1) := by decide +kernel
theorem dX8_detects_41 : decode cX8_detects 41 = .ok (.iadd, 1) := by decide +kernel
theorem dX8_detects_42 : decode cX8_detects 42 = .ok (.putfield 161, 3) := by decide +kernel
theorem dX8_detects_45 : decode cX8_detects 45 = .ok (.iinc 1 1, 3) := by decide +kernel
theorem dX8_detects_48 : decode cX8_detects 48 = .ok (.goto (-46), 3) := by decide +kernel
theorem dX8_detects_51 : decode cX8_detects 51 = .ok (.return_, 1) := by decide +kernel
set_option maxRecDepth 20000 in
theorem ggX8_charts_X8_doesAct : GoodIn wsX8_charts wsX8_doesAct := goodIn_r _ [13, 14, 15, 16, 17, 18, 19, 20, 21, 22, 23, 24, 25, 26, 27, 28, 29, 30, 31, 32, 33, 34, 35, 36, 37, 38, 39, 40, 41, 42, 43, 44, 45, 46, 47, 48, 49, 50, 51, 52, 53, 54, 55, 56, 57, 58] (by decide +kernel) (by decide +kernel)
set_option maxRecDepth 20000 in
theorem gX8_charts_X8_doesAct : GoodIn wsX8_charts (wsV RX8 167 RX8 yX8_doesAct wsX8_doesAct) := goodIn_app (goodIn_of _ (by decide +kernel)) ggX8_charts_X8_doesAct
theorem dX8_charts_0 : decode cX8_charts 0 = .ok (.aload_n 0, 1) := by decide +kernel
theorem dX8_charts_1 : decode cX8_charts 1 = .ok (.getfield 42, 3) := by decide +kernel
theorem dX8_charts_4 : decode cX8_charts 4 = .ok (.iconst (-1), 1) := by decide +kernel
theorem dX8_charts_5 : decode cX8_charts 5 = .ok (.if_icmp .eq 97, 3) := by decide +kernel
theorem dX8_charts_8 : decode cX8_charts 8 = .ok (.aload_n 0, 1) := by decide +kernel
theorem dX8_charts_9 : decode cX8_charts 9 = .ok (.getfield 164, 3) := by decide +kernel
theorem dX8_charts_12 : decode cX8_charts 12 = .ok (.aload_n 0, 1) := by decide +kernel
theorem dX8_charts_13 : decode cX8_charts 13 = .ok (.getfield 117, 3) := by decide +kernel
theorem dX8_charts_16 : decode cX8_charts 16 = .ok (.if_icmp .ge 86, 3) := by decide +kernel
theorem dX8_charts_19 : decode cX8_charts 19 = .ok (.aload_n 0, 1) := by decide +kernel
theorem dX8_charts_20 : decode cX8_charts 20 = .ok (.getfield 161, 3) := by decide +kernel
theorem dX8_charts_23 : decode cX8_charts 23 = .ok (.aload_n 0, 1) := by decide +kernel
theorem dX8_charts_24 : decode cX8_charts 24 = .ok (.getfield 77, 3) := by decide +kernel
theorem dX8_charts_27 : decode cX8_charts 27 = .ok (.if_icmp .gt 75, 3) := by decide +kernel
theorem dX8_charts_30 : decode cX8_charts 30 = .ok (.aload_n 0, 1) := by decide +kernel
theorem dX8_charts_31 : decode cX8_charts 31 = .ok (.aload_n 0, 1) := by decide +kernel
theorem dX8_charts_32 : decode cX8_charts 32 = .ok (.getfield 45, 3) := by decide +kernel
theorem dX8_charts_35 : decode cX8_charts 35 = .ok (.aload_n 0, 1) := by decide +kernel
theorem dX8_charts_36 : decode cX8_charts 36 = .ok (.getfield 164, 3) := by decide +kernel
theorem dX8_charts_39 : decode cX8_charts 39 = .ok (.iaload, 1) := by decide +kernel
theorem dX8_charts_40 : decode cX8_charts 40 = .ok (.invokevirtual 167, 3) := by decide +kernel
theorem dX8_charts_43 : decode cX8_charts 43 = .ok (.aload_n 0, 1) := by decide +kernel
theorem dX8_charts_44 : decode cX8_charts 44 = .ok (.getfield 51, 3) := by decide +kernel
theorem dX8_charts_47 : decode cX8_charts 47 = .ok (.aload_n 0, 1) := by decide +kernel
theorem dX8_charts_48 : decode cX8_charts 48 = .ok (.getfield 164, 3) := by decide +kernel
theorem dX8_charts_51 : decode cX8_charts 51 = .ok (.aload_n 0, 1) := by decide +kernel
theorem dX8_charts_52 : decode cX8_charts 52 = .ok (.getfield 77, 3) := by decide +kernel
theorem dX8_charts_55 : decode cX8_charts 55 = .ok (.iastore, 1) := by decide +kernel
theorem dX8_charts_56 : decode cX8_charts 56 = .ok (.aload_n 0, 1) := by decide +kernel
theorem dX8_charts_57 : decode cX8_charts 57 = .ok (.dup, 1) := by decide +kernel
theorem dX8_charts_58 : decode cX8_charts 58 = .ok (.getfield 164, 3) := by decide +kernel
theorem dX8_charts_61 : decode cX8_charts 61 = .ok (.iconst 1, 1) := by decide +kernel
theorem dX8_charts_62 : decode cX8_charts 62 = .ok (.iadd, 1) := by decide +kernel
theorem dX8_charts_63 : decode cX8_charts 63 = .ok (.putfield 164, 3) := by decide +kernel
theorem dX8_charts_66 : decode cX8_charts 66 = .ok (.aload_n 0, 1) := by decide +kernel
theorem dX8_charts_67 : decode cX8_charts 67 = .ok (.dup, 1) := by decide +kernel
theorem dX8_charts_68 : decode cX8_charts 68 = .ok (.getfield 161, 3) := by decide +kernel
theorem dX8_charts_71 : decode cX8_charts 71 = .ok (.aload_n 0, 1) := by decide +kernel
theorem dX8_charts_72 : decode cX8_charts 72 = .ok (.getfield 164, 3) := by decide +kernel
theorem dX8_charts_75 : decode cX8_charts 75 = .ok (.aload_n 0, 1) := by decide +kernel
theorem dX8_charts_76 : decode cX8_charts 76 = .ok (.getfield 117, 3) := by decide +kernel
theorem dX8_charts_79 : decode cX8_charts 79 = .ok (.if_icmp .ge 15, 3) := by decide +kernel
theorem dX8_charts_82 : decode cX8_charts 82 = .ok (.aload_n 0, 1) := by decide +kernel
theorem dX8_charts_83 : decode cX8_charts 83 = .ok (.getfield 48, 3) := by decide +kernel
theorem dX8_charts_86 : decode cX8_charts 86 = .ok (.aload_n 0, 1) := by decide +kernel
theorem dX8_charts_87 : decode cX8_charts 87 = .ok (.getfield 164, 3) := by decide +kernel
theorem dX8_charts_90 : decode cX8_charts 90 = .ok (.iaload, 1) := by decide +kernel
theorem dX8_charts_91 : decode cX8_charts 91 = .ok (.goto 4, 3) := by decide +kernel
theorem dX8_charts_94 : decode cX8_charts 94 = .ok (.iconst 0, 1) := by decide +kernel
theorem dX8_charts_95 : decode cX8_charts 95 = .ok (.iadd, 1) := by decide +kernel
theorem dX8_charts_96 : decode cX8_charts 96 = .ok (.putfield 161, 3) := by decide +kernel
theorem dX8_charts_99 : decode cX8_charts 99 = .ok (.goto (-99), 3) := by decide +kernel
theorem dX8_charts_102 : decode cX8_charts 102 = .ok (.return_, 1) := by decide +kernel
set_option maxRecDepth 20000 in
theorem ggX8_aim_X8_isIn : GoodIn wsX8_aim wsX8_isIn := goodIn_r _ [5] (by decide +kernel) (by decide +kernel)
set_option maxRecDepth 20000 in
theorem gX8_aim_X8_isIn : GoodIn wsX8_aim (va_wsS RX8 113 yX8_isIn wsX8_isIn) := goodIn_app (goodIn_of _ (by decide +kernel)) ggX8_aim_X8_isIn
theorem dX8_aim_0 : decode cX8_aim 0 = .ok (.iload_n 1, 1) := by decide +kernel
theorem dX8_aim_1 : decode cX8_aim 1 = .ok (.bipush 6, 2) := by decide +kernel
theorem dX8_aim_3 : decode cX8_aim 3 = .ok (.if_icmp .ge 7, 3) := by decide +kernel
theorem dX8_aim_6 : decode cX8_aim 6 = .ok (.iconst (-1), 1) := by decide +kernel
theorem dX8_aim_7 : decode cX8_aim 7 = .ok (.goto 5, 3) := by decide +kernel
theorem dX8_aim_10 : decode cX8_aim 10 = .ok (.bipush 12, 2) := by decide +kernel
theorem dX8_aim_12 : decode cX8_aim 12 = .ok (.istore_n 2, 1) := by decide +kernel
theorem dX8_aim_13 : decode cX8_aim 13 = .ok (.iload_n 1, 1) := by decide +kernel
theorem dX8_aim_14 : decode cX8_aim 14 = .ok (.bipush 6, 2) := by decide +kernel
theorem dX8_aim_16 : decode cX8_aim 16 = .ok (.if_icmp .ge 9, 3) := by decide +kernel
theorem dX8_aim_19 : decode cX8_aim 19 = .ok (.iload_n 1, 1) := by decide +kernel
theorem dX8_aim_20 : decode cX8_aim 20 = .ok (.iconst 1, 1) := by decide +kernel
theorem dX8_aim_21 : decode cX8_aim 21 = .ok (.iadd, 1) := by decide +kernel
theorem dX8_aim_22 : decode cX8_aim 22 = .ok (.goto 7, 3) := by decide +kernel
theorem dX8_aim_25 : decode cX8_aim 25 = .ok (.bipush 12, 2) := by decide +kernel
theorem dX8_aim_27 : decode cX8_aim 27 = .ok (.iload_n 1, 1) := by decide +kernel
theorem dX8_aim_28 : decode cX8_aim 28 = .ok (.isub, 1) := by decide +kernel
theorem dX8_aim_29 : decode cX8_aim 29 = .ok (.istore_n 3, 1) := by decide +kernel
theorem dX8_aim_30 : decode cX8_aim 30 = .ok (.iconst 0, 1) := by decide +kernel
theorem dX8_aim_31 : decode cX8_aim 31 = .ok (.istore 4, 2) := by decide +kernel
theorem dX8_aim_33 : decode cX8_aim 33 = .ok (.iconst 0, 1) := by decide +kernel
theorem dX8_aim_34 : decode cX8_aim 34 = .ok (.istore 5, 2) := by decide +kernel
theorem dX8_aim_36 : decode cX8_aim 36 = .ok (.iload 5, 2) := by decide +kernel
theorem dX8_aim_38 : decode cX8_aim 38 = .ok (.bipush 12, 2) := by decide +kernel
theorem dX8_aim_40 : decode cX8_aim 40 = .ok (.if_icmp .ge 66, 3) := by decide +kernel
theorem dX8_aim_43 : decode cX8_aim 43 = .ok (.iload 5, 2) := by decide +kernel
theorem dX8_aim_45 : decode cX8_aim 45 = .ok (.iload_n 1, 1) := by decide +kernel
theorem dX8_aim_46 : decode cX8_aim 46 = .ok (.if_icmp .ge 10, 3) := by decide +kernel
theorem dX8_aim_49 : decode cX8_aim 49 = .ok (.iload_n 1, 1) := by decide +kernel
theorem dX8_aim_50 : decode cX8_aim 50 = .ok (.iload 5, 2) := by decide +kernel
theorem dX8_aim_52 : decode cX8_aim 52 = .ok (.isub, 1) := by decide +kernel
theorem dX8_aim_53 : decode cX8_aim 53 = .ok (.goto 7, 3) := by decide +kernel
theorem dX8_aim_56 : decode cX8_aim 56 = .ok (.iload 5, 2) := by decide +kernel
theorem dX8_aim_58 : decode cX8_aim 58 = .ok (.iload_n 1, 1) := by decide +kernel
theorem dX8_aim_59 : decode cX8_aim 59 = .ok (.isub, 1) := by decide +kernel
theorem dX8_aim_60 : decode cX8_aim 60 = .ok (.istore 6, 2) := by decide +kernel
theorem dX8_aim_62 : decode cX8_aim 62 = .ok (.iload 5, 2) := by decide +kernel
theorem dX8_aim_64 : decode cX8_aim 64 = .ok (.aload_n 0, 1) := by decide +kernel
theorem dX8_aim_65 : decode cX8_aim 65 = .ok (.getfield 87, 3) := by decide +kernel
theorem dX8_aim_68 : decode cX8_aim 68 = .ok (.invokestatic 113, 3) := by decide +kernel
theorem dX8_aim_71 : decode cX8_aim 71 = .ok (.ifCond .eq 29, 3) := by decide +kernel
theorem dX8_aim_74 : decode cX8_aim 74 = .ok (.iload 6, 2) := by decide +kernel
theorem dX8_aim_76 : decode cX8_aim 76 = .ok (.iload_n 3, 1) := by decide +kernel
theorem dX8_aim_77 : decode cX8_aim 77 = .ok (.if_icmp .lt 14, 3) := by decide +kernel
theorem dX8_aim_80 : decode cX8_aim 80 = .ok (.iload 6, 2) := by decide +kernel
theorem dX8_aim_82 : decode cX8_aim 82 = .ok (.iload_n 3, 1) := by decide +kernel
theorem dX8_aim_83 : decode cX8_aim 83 = .ok (.if_icmp .ne 17, 3) := by decide +kernel
theorem dX8_aim_86 : decode cX8_aim 86 = .ok (.iload 4, 2) := by decide +kernel
theorem dX8_aim_88 : decode cX8_aim 88 = .ok (.ifCond .ne 12, 3) := by decide +kernel
theorem dX8_aim_91 : decode cX8_aim 91 = .ok (.iload 5, 2) := by decide +kernel
theorem dX8_aim_93 : decode cX8_aim 93 = .ok (.istore_n 2, 1) := by decide +kernel
theorem dX8_aim_94 : decode cX8_aim 94 = .ok (.iload 6, 2) := by decide +kernel
theorem dX8_aim_96 : decode cX8_aim 96 = .ok (.istore_n 3, 1) := by decide +kernel
theorem dX8_aim_97 : decode cX8_aim 97 = .ok (.iconst 1, 1) := by decide +kernel
theorem dX8_aim_98 : decode cX8_aim 98 = .ok (.istore 4, 2) := by decide +kernel
theorem dX8_aim_100 : decode cX8_aim 100 = .ok (.iinc 5 1, 3) := by decide +kernel
theorem dX8_aim_103 : decode cX8_aim 103 = .ok (.goto (-67), 3) := by decide +kernel
theorem dX8_aim_106 : decode cX8_aim 106 = .ok (.iload_n 2, 1) := by decide +kernel
theorem dX8_aim_107 : decode cX8_aim 107 = .ok (.ireturn, 1) := by decide +kernel
theorem dX8_ends_0 : decode cX8_ends 0 = .ok (.aload_n 0, 1) := by decide +kernel
theorem dX8_ends_1 : decode cX8_ends 1 = .ok (.getfield 54, 3) := by decide +kernel
theorem dX8_ends_4 : decode cX8_ends 4 = .ok (.iload_n 1, 1) := by decide +kernel
theorem dX8_ends_5 : decode cX8_ends 5 = .ok (.iload_n 2, 1) := by decide +kernel
theorem dX8_ends_6 : decode cX8_ends 6 = .ok (.iastore, 1) := by decide +kernel
theorem dX8_ends_7 : decode cX8_ends 7 = .ok (.aload_n 0, 1) := by decide +kernel
theorem dX8_ends_8 : decode cX8_ends 8 = .ok (.getfield 63, 3) := by decide +kernel
theorem dX8_ends_11 : decode cX8_ends 11 = .ok (.iload_n 1, 1) := by decide +kernel
theorem dX8_ends_12 : decode cX8_ends 12 = .ok (.aload_n 0, 1) := by decide +kernel
theorem dX8_ends_13 : decode cX8_ends 13 = .ok (.getfield 77, 3) := by decide +kernel
theorem dX8_ends_16 : decode cX8_ends 16 = .ok (.iastore, 1) := by decide +kernel
theorem dX8_ends_17 : decode cX8_ends 17 = .ok (.return_, 1) := by decide +kernel
set_option maxRecDepth 20000 in
theorem ggX8_walks_X8_aim : GoodIn wsX8_walks wsX8_aim := goodIn_r _ [8, 9, 10, 11, 7, 12, 25, 26, 27, 28, 29, 30, 31, 32, 33, 34, 35, 36, 37, 38, 39, 40, 41, 42, 43, 44, 45, 46, 47, 48, 49, 50, 51, 52, 53, 54, 55, 56, 57, 58, 59, 60, 61] (by decide +kernel) (by decide +kernel)
set_option maxRecDepth 20000 in
theorem gX8_walks_X8_aim : GoodIn wsX8_walks (wsV RX8 171 RX8 yX8_aim wsX8_aim) := goodIn_app (goodIn_of _ (by decide +kernel)) ggX8_walks_X8_aim
set_option maxRecDepth 20000 in
theorem ggX8_walks_X8_isSegment : GoodIn wsX8_walks wsX8_isSegment := goodIn_r _ [15, 16, 17, 7, 18] (by decide +kernel) (by decide +kernel)
set_option maxRecDepth 20000 in
theorem gX8_walks_X8_isSegment : GoodIn wsX8_walks (va_wsS RX8 73 yX8_isSegment wsX8_isSegment) := goodIn_app (goodIn_of _ (by decide +kernel)) ggX8_walks_X8_isSegment
set_option maxRecDepth 20000 in
theorem ggX8_walks_X8_ends : GoodIn wsX8_walks wsX8_ends := goodIn_r _ [22, 23, 24, 3, 25, 26, 27, 28, 29, 30, 31, 32, 33, 34, 35, 36, 37, 38, 39, 40, 41, 42, 43, 44, 45, 46, 47, 48, 49, 50, 51, 52, 53, 54, 55, 56, 57, 58, 59, 60, 61] (by decide +kernel) (by decide +kernel)
set_option maxRecDepth 20000 in
theorem gX8_walks_X8_ends : GoodIn wsX8_walks (wsV RX8 174 RX8 yX8_ends wsX8_ends) := goodIn_app (goodIn_of _ (by decide +kernel)) ggX8_walks_X8_ends
theorem dX8_walks_0 : decode cX8_walks 0 = .ok (.aload_n 0, 1) := by decide +kernel
theorem dX8_walks_1 : decode cX8_walks 1 = .ok (.getfield 57, 3) := by decide +kernel
theorem dX8_walks_4 : decode cX8_walks 4 = .ok (.iload_n 1, 1) := by decide +kernel
theorem dX8_walks_5 : decode cX8_walks 5 = .ok (.iaload, 1) := by decide +kernel
theorem dX8_walks_6 : decode cX8_walks 6 = .ok (.istore_n 2, 1) := by decide +kernel
theorem dX8_walks_7 : decode cX8_walks 7 = .ok (.aload_n 0, 1) := by decide +kernel
theorem dX8_walks_8 : decode cX8_walks 8 = .ok (.getfield 7, 3) := by decide +kernel
theorem dX8_walks_11 : decode cX8_walks 11 = .ok (.iload_n 2, 1) := by decide +kernel
theorem dX8_walks_12 : decode cX8_walks 12 = .ok (.iaload, 1) := by decide +kernel
theorem dX8_walks_13 : decode cX8_walks 13 = .ok (.bipush 40, 2) := by decide +kernel
theorem dX8_walks_15 : decode cX8_walks 15 = .ok (.if_icmp .lt 14, 3) := by decide +kernel
theorem dX8_walks_18 : decode cX8_walks 18 = .ok (.aload_n 0, 1) := by decide +kernel
theorem dX8_walks_19 : decode cX8_walks 19 = .ok (.getfield 77, 3) := by decide +kernel
theorem dX8_walks_22 : decode cX8_walks 22 = .ok (.iconst 2, 1) := by decide +kernel
theorem dX8_walks_23 : decode cX8_walks 23 = .ok (.irem, 1) := by decide +kernel
theorem dX8_walks_24 : decode cX8_walks 24 = .ok (.iconst 1, 1) := by decide +kernel
theorem dX8_walks_25 : decode cX8_walks 25 = .ok (.if_icmp .ne 4, 3) := by decide +kernel
theorem dX8_walks_28 : decode cX8_walks 28 = .ok (.return_, 1) := by decide +kernel
theorem dX8_walks_29 : decode cX8_walks 29 = .ok (.aload_n 0, 1) := by decide +kernel
theorem dX8_walks_30 : decode cX8_walks 30 = .ok (.iload_n 2, 1) := by decide +kernel
theorem dX8_walks_31 : decode cX8_walks 31 = .ok (.invokevirtual 171, 3) := by decide +kernel
theorem dX8_walks_34 : decode cX8_walks 34 = .ok (.istore_n 3, 1) := by decide +kernel
theorem dX8_walks_35 : decode cX8_walks 35 = .ok (.iload_n 3, 1) := by decide +kernel
theorem dX8_walks_36 : decode cX8_walks 36 = .ok (.iload_n 2, 1) := by decide +kernel
theorem dX8_walks_37 : decode cX8_walks 37 = .ok (.if_icmp .ge 9, 3) := by decide +kernel
theorem dX8_walks_40 : decode cX8_walks 40 = .ok (.iload_n 2, 1) := by decide +kernel
theorem dX8_walks_41 : decode cX8_walks 41 = .ok (.iconst 1, 1) := by decide +kernel
theorem dX8_walks_42 : decode cX8_walks 42 = .ok (.isub, 1) := by decide +kernel
theorem dX8_walks_43 : decode cX8_walks 43 = .ok (.goto 6, 3) := by decide +kernel
theorem dX8_walks_46 : decode cX8_walks 46 = .ok (.iload_n 2, 1) := by decide +kernel
theorem dX8_walks_47 : decode cX8_walks 47 = .ok (.iconst 1, 1) := by decide +kernel
theorem dX8_walks_48 : decode cX8_walks 48 = .ok (.iadd, 1) := by decide +kernel
theorem dX8_walks_49 : decode cX8_walks 49 = .ok (.istore 4, 2) := by decide +kernel
theorem dX8_walks_51 : decode cX8_walks 51 = .ok (.iload_n 3, 1) := by decide +kernel
theorem dX8_walks_52 : decode cX8_walks 52 = .ok (.iload_n 2, 1) := by decide +kernel
theorem dX8_walks_53 : decode cX8_walks 53 = .ok (.if_icmp .eq 11, 3) := by decide +kernel
theorem dX8_walks_56 : decode cX8_walks 56 = .ok (.iload 4, 2) := by decide +kernel
theorem dX8_walks_58 : decode cX8_walks 58 = .ok (.invokestatic 73, 3) := by decide +kernel
theorem dX8_walks_61 : decode cX8_walks 61 = .ok (.ifCond .ne 12, 3) := by decide +kernel
theorem dX8_walks_64 : decode cX8_walks 64 = .ok (.aload_n 0, 1) := by decide +kernel
theorem dX8_walks_65 : decode cX8_walks 65 = .ok (.iload_n 1, 1) := by decide +kernel
theorem dX8_walks_66 : decode cX8_walks 66 = .ok (.iconst 3, 1) := by decide +kernel
theorem dX8_walks_67 : decode cX8_walks 67 = .ok (.invokevirtual 174, 3) := by decide +kernel
theorem dX8_walks_70 : decode cX8_walks 70 = .ok (.goto 11, 3) := by decide +kernel
theorem dX8_walks_73 : decode cX8_walks 73 = .ok (.aload_n 0, 1) := by decide +kernel
theorem dX8_walks_74 : decode cX8_walks 74 = .ok (.getfield 57, 3) := by decide +kernel
theorem dX8_walks_77 : decode cX8_walks 77 = .ok (.iload_n 1, 1) := by decide +kernel
theorem dX8_walks_78 : decode cX8_walks 78 = .ok (.iload 4, 2) := by decide +kernel
theorem dX8_walks_80 : decode cX8_walks 80 = .ok (.iastore, 1) := by decide +kernel
theorem dX8_walks_81 : decode cX8_walks 81 = .ok (.return_, 1) := by decide +kernel
set_option maxRecDepth 20000 in
theorem ggX8_lives_X8_ends : GoodIn wsX8_lives wsX8_ends := goodIn_r _ [11, 3, 12, 6, 31, 32, 33, 34, 35, 36, 37, 38, 39, 40, 41, 42, 43, 44, 45, 46, 47, 48, 49, 50, 51, 52, 53, 54, 55, 56, 57, 58, 59, 60, 61, 62, 63, 64, 65, 66, 67] (by decide +kernel) (by decide +kernel)
set_option maxRecDepth 20000 in
theorem gX8_lives_X8_ends : GoodIn wsX8_lives (wsV RX8 174 RX8 yX8_ends wsX8_ends) := goodIn_app (goodIn_of _ (by decide +kernel)) ggX8_lives_X8_ends
set_option maxRecDepth 20000 in
theorem ggX8_lives_X8_walks : GoodIn wsX8_lives wsX8_walks := goodIn_r _ [16, 2, 1, 6, 17, 18, 19, 10, 20, 21, 22, 23, 24, 25, 26, 27, 28, 29, 30, 7, 8, 9, 11, 3, 12, 31, 32, 33, 34, 35, 36, 37, 38, 39, 40, 41, 42, 43, 44, 45, 46, 47, 48, 49, 50, 51, 52, 53, 54, 55, 56, 57, 58, 59, 60, 61, 62, 63, 64, 65, 66, 67] (by decide +kernel) (by decide +kernel)
set_option maxRecDepth 20000 in
theorem gX8_lives_X8_walks : GoodIn wsX8_lives (wsV RX8 177 RX8 yX8_walks wsX8_walks) := goodIn_app (goodIn_of _ (by decide +kernel)) ggX8_lives_X8_walks
theorem dX8_lives_0 : decode cX8_lives 0 = .ok (.aload_n 0, 1) := by decide +kernel
theorem dX8_lives_1 : decode cX8_lives 1 = .ok (.getfield 7, 3) := by decide +kernel
theorem dX8_lives_4 : decode cX8_lives 4 = .ok (.aload_n 0, 1) := by decide +kernel
theorem dX8_lives_5 : decode cX8_lives 5 = .ok (.getfield 57, 3) := by decide +kernel
theorem dX8_lives_8 : decode cX8_lives 8 = .ok (.iload_n 1, 1) := by decide +kernel
theorem dX8_lives_9 : decode cX8_lives 9 = .ok (.iaload, 1) := by decide +kernel
theorem dX8_lives_10 : decode cX8_lives 10 = .ok (.iaload, 1) := by decide +kernel
theorem dX8_lives_11 : decode cX8_lives 11 = .ok (.istore_n 2, 1) := by decide +kernel
theorem dX8_lives_12 : decode cX8_lives 12 = .ok (.iload_n 2, 1) := by decide +kernel
theorem dX8_lives_13 : decode cX8_lives 13 = .ok (.bipush 100, 2) := by decide +kernel
theorem dX8_lives_15 : decode cX8_lives 15 = .ok (.if_icmp .lt 10, 3) := by decide +kernel
theorem dX8_lives_18 : decode cX8_lives 18 = .ok (.aload_n 0, 1) := by decide +kernel
theorem dX8_lives_19 : decode cX8_lives 19 = .ok (.iload_n 1, 1) := by decide +kernel
theorem dX8_lives_20 : decode cX8_lives 20 = .ok (.iconst 4, 1) := by decide +kernel
theorem dX8_lives_21 : decode cX8_lives 21 = .ok (.invokevirtual 174, 3) := by decide +kernel
theorem dX8_lives_24 : decode cX8_lives 24 = .ok (.return_, 1) := by decide +kernel
theorem dX8_lives_25 : decode cX8_lives 25 = .ok (.aload_n 0, 1) := by decide +kernel
theorem dX8_lives_26 : decode cX8_lives 26 = .ok (.getfield 54, 3) := by decide +kernel
theorem dX8_lives_29 : decode cX8_lives 29 = .ok (.iload_n 1, 1) := by decide +kernel
theorem dX8_lives_30 : decode cX8_lives 30 = .ok (.iaload, 1) := by decide +kernel
theorem dX8_lives_31 : decode cX8_lives 31 = .ok (.ifCond .ne 50, 3) := by decide +kernel
theorem dX8_lives_34 : decode cX8_lives 34 = .ok (.aload_n 0, 1) := by decide +kernel
theorem dX8_lives_35 : decode cX8_lives 35 = .ok (.getfield 123, 3) := by decide +kernel
theorem dX8_lives_38 : decode cX8_lives 38 = .ok (.ifCond .ne 9, 3) := by decide +kernel
theorem dX8_lives_41 : decode cX8_lives 41 = .ok (.iload_n 2, 1) := by decide +kernel
theorem dX8_lives_42 : decode cX8_lives 42 = .ok (.bipush 10, 2) := by decide +kernel
theorem dX8_lives_44 : decode cX8_lives 44 = .ok (.if_icmp .lt 7, 3) := by decide +kernel
theorem dX8_lives_47 : decode cX8_lives 47 = .ok (.iconst 1, 1) := by decide +kernel
theorem dX8_lives_48 : decode cX8_lives 48 = .ok (.goto 4, 3) := by decide +kernel
theorem dX8_lives_51 : decode cX8_lives 51 = .ok (.iconst 0, 1) := by decide +kernel
theorem dX8_lives_52 : decode cX8_lives 52 = .ok (.istore_n 3, 1) := by decide +kernel
theorem dX8_lives_53 : decode cX8_lives 53 = .ok (.aload_n 0, 1) := by decide +kernel
theorem dX8_lives_54 : decode cX8_lives 54 = .ok (.getfield 54, 3) := by decide +kernel
theorem dX8_lives_57 : decode cX8_lives 57 = .ok (.iload_n 1, 1) := by decide +kernel
theorem dX8_lives_58 : decode cX8_lives 58 = .ok (.iload_n 3, 1) := by decide +kernel
theorem dX8_lives_59 : decode cX8_lives 59 = .ok (.ifCond .eq 7, 3) := by decide +kernel
theorem dX8_lives_62 : decode cX8_lives 62 = .ok (.iconst 1, 1) := by decide +kernel
theorem dX8_lives_63 : decode cX8_lives 63 = .ok (.goto 4, 3) := by decide +kernel
theorem dX8_lives_66 : decode cX8_lives 66 = .ok (.iconst 0, 1) := by decide +kernel
theorem dX8_lives_67 : decode cX8_lives 67 = .ok (.iastore, 1) := by decide +kernel
theorem dX8_lives_68 : decode cX8_lives 68 = .ok (.aload_n 0, 1) := by decide +kernel
theorem dX8_lives_69 : decode cX8_lives 69 = .ok (.getfield 60, 3) := by decide +kernel
theorem dX8_lives_72 : decode cX8_lives 72 = .ok (.iload_n 1, 1) := by decide +kernel
theorem dX8_lives_73 : decode cX8_lives 73 = .ok (.aload_n 0, 1) := by decide +kernel
theorem dX8_lives_74 : decode cX8_lives 74 = .ok (.getfield 77, 3) := by decide +kernel
theorem dX8_lives_77 : decode cX8_lives 77 = .ok (.iastore, 1) := by decide +kernel
theorem dX8_lives_78 : decode cX8_lives 78 = .ok (.goto 39, 3) := by decide +kernel
theorem dX8_lives_81 : decode cX8_lives 81 = .ok (.aload_n 0, 1) := by decide +kernel
theorem dX8_lives_82 : decode cX8_lives 82 = .ok (.getfield 54, 3) := by decide +kernel
theorem dX8_lives_85 : decode cX8_lives 85 = .ok (.iload_n 1, 1) := by decide +kernel
theorem dX8_lives_86 : decode cX8_lives 86 = .ok (.iaload, 1) := by decide +kernel
theorem dX8_lives_87 : decode cX8_lives 87 = .ok (.iconst 1, 1) := by decide +kernel
theorem dX8_lives_88 : decode cX8_lives 88 = .ok (.if_icmp .ne 29, 3) := by decide +kernel
theorem dX8_lives_91 : decode cX8_lives 91 = .ok (.aload_n 0, 1) := by decide +kernel
theorem dX8_lives_92 : decode cX8_lives 92 = .ok (.getfield 54, 3) := by decide +kernel
theorem dX8_lives_95 : decode cX8_lives 95 = .ok (.iload_n 1, 1) := by decide +kernel
theorem dX8_lives_96 : decode cX8_lives 96 = .ok (.aload_n 0, 1) := by decide +kernel
theorem dX8_lives_97 : decode cX8_lives 97 = .ok (.getfield 77, 3) := by decide +kernel
theorem dX8_lives_100 : decode cX8_lives 100 = .ok (.aload_n 0, 1) := by decide +kernel
theorem dX8_lives_101 : decode cX8_lives 101 = .ok (.getfield 60, 3) := by decide +kernel
theorem dX8_lives_104 : decode cX8_lives 104 = .ok (.iload_n 1, 1) := by decide +kernel
theorem dX8_lives_105 : decode cX8_lives 105 = .ok (.iaload, 1) := by decide +kernel
theorem dX8_lives_106 : decode cX8_lives 106 = .ok (.iconst 3, 1) := by decide +kernel
theorem dX8_lives_107 : decode cX8_lives 107 = .ok (.iadd, 1) := by decide +kernel
theorem dX8_lives_108 : decode cX8_lives 108 = .ok (.if_icmp .lt 7, 3) := by decide +kernel
theorem dX8_lives_111 : decode cX8_lives 111 = .ok (.iconst 2, 1) := by decide +kernel
theorem dX8_lives_112 : decode cX8_lives 112 = .ok (.goto 4, 3) := by decide +kernel
theorem dX8_lives_115 : decode cX8_lives 115 = .ok (.iconst 1, 1) := by decide +kernel
theorem dX8_lives_116 : decode cX8_lives 116 = .ok (.iastore, 1) := by decide +kernel
theorem dX8_lives_117 : decode cX8_lives 117 = .ok (.aload_n 0, 1) := by decide +kernel
theorem dX8_lives_118 : decode cX8_lives 118 = .ok (.getfield 54, 3) := by decide +kernel
theorem dX8_lives_121 : decode cX8_lives 121 = .ok (.iload_n 1, 1) := by decide +kernel
theorem dX8_lives_122 : decode cX8_lives 122 = .ok (.iaload, 1) := by decide +kernel
theorem dX8_lives_123 : decode cX8_lives 123 = .ok (.iconst 2, 1) := by decide +kernel
theorem dX8_lives_124 : decode cX8_lives 124 = .ok (.if_icmp .ne 8, 3) := by decide +kernel
theorem dX8_lives_127 : decode cX8_lives 127 = .ok (.aload_n 0, 1) := by decide +kernel
theorem dX8_lives_128 : decode cX8_lives 128 = .ok (.iload_n 1, 1) := by decide +kernel
theorem dX8_lives_129 : decode cX8_lives 129 = .ok (.invokevirtual 177, 3) := by decide +kernel
theorem dX8_lives_132 : decode cX8_lives 132 = .ok (.return_, 1) := by decide +kernel
set_option maxRecDepth 20000 in
theorem ggX8_doesStep_X8_fans : GoodIn wsX8_doesStep wsX8_fans := goodIn_r _ [8, 9, 10, 11, 12, 13, 14, 7, 15, 16, 113, 114, 115, 116, 117, 118, 119, 120, 121, 122, 123, 124, 125, 126, 127, 128, 129, 130, 131, 132, 133, 134, 135, 136, 137, 138, 139, 140, 141, 142, 143, 144, 145, 146, 147, 148, 149] (by decide +kernel) (by decide +kernel)
set_option maxRecDepth 20000 in
theorem gX8_doesStep_X8_fans : GoodIn wsX8_doesStep (wsV RX8 180 RX8 yX8_fans wsX8_fans) := goodIn_app (goodIn_of _ (by decide +kernel)) ggX8_doesStep_X8_fans
set_option maxRecDepth 20000 in
theorem ggX8_doesStep_X8_flows : GoodIn wsX8_doesStep wsX8_flows := goodIn_r _ [20, 11, 21, 22, 23, 24, 113, 114, 115, 116, 117, 118, 119, 120, 121, 122, 123, 124, 125, 126, 127, 128, 129, 130, 131, 132, 133, 134, 135, 136, 137, 138, 139, 140, 141, 142, 143, 144, 145, 146, 147, 148, 149] (by decide +kernel) (by decide +kernel)
set_option maxRecDepth 20000 in
theorem gX8_doesStep_X8_flows : GoodIn wsX8_doesStep (wsV RX8 183 RX8 yX8_flows wsX8_flows) := goodIn_app (goodIn_of _ (by decide +kernel)) ggX8_doesStep_X8_flows
set_option maxRecDepth 20000 in
theorem ggX8_doesStep_X8_burns : GoodIn wsX8_doesStep wsX8_burns := goodIn_r _ [28, 29, 30, 31, 32, 33, 34, 35, 36, 12, 13, 14, 7, 15, 16, 113, 114, 115, 116, 117, 118, 119, 120, 121, 122, 123, 124, 125, 126, 127, 128, 129, 130, 131, 132, 133, 134, 135, 136, 137, 138, 139, 140, 141, 142, 143, 144, 145, 146, 147, 148, 149] (by decide +kernel) (by decide +kernel)
set_option maxRecDepth 20000 in
theorem gX8_doesStep_X8_burns : GoodIn wsX8_doesStep (wsV RX8 186 RX8 yX8_burns wsX8_burns) := goodIn_app (goodIn_of _ (by decide +kernel)) ggX8_doesStep_X8_burns
set_option maxRecDepth 20000 in
theorem ggX8_doesStep_X8_moves : GoodIn wsX8_doesStep wsX8_moves := goodIn_r _ [40, 23, 34, 29, 41, 42, 43, 44, 35, 45, 46, 47, 7, 48, 49, 50, 51, 52, 53, 54, 55, 56, 57, 58, 113, 114, 115, 116, 117, 118, 119, 120, 121, 122, 123, 124, 125, 126, 127, 128, 129, 130, 131, 132, 133, 134, 135, 136, 137, 138, 139, 140, 141, 142, 143, 144, 145, 146, 147, 148, 149] (by decide +kernel) (by decide +kernel)
set_option maxRecDepth 20000 in
theorem gX8_doesStep_X8_moves : GoodIn wsX8_doesStep (wsV RX8 189 RX8 yX8_moves wsX8_moves) := goodIn_app (goodIn_of _ (by decide +kernel)) ggX8_doesStep_X8_moves
set_option maxRecDepth 20000 in
theorem ggX8_doesStep_X8_detects : GoodIn wsX8_doesStep wsX8_detects := goodIn_r _ [62, 63, 3, 64, 65, 66, 67, 68, 7, 69, 35, 70, 34, 71, 72, 73, 74, 1, 2, 75, 113, 114, 115, 116, 117, 118, 119, 120, 121, 122, 123, 124, 125, 126, 127, 128, 129, 130, 131, 132, 133, 134, 135, 136, 137, 138, 139, 140, 141, 142, 143, 144, 145, 146, 147, 148, 149] (by decide +kernel) (by decide +kernel)
set_option maxRecDepth 20000 in
theorem gX8_doesStep_X8_detects : GoodIn wsX8_doesStep (wsV RX8 192 RX8 yX8_detects wsX8_detects) := goodIn_app (goodIn_of _ (by decide +kernel)) ggX8_doesStep_X8_detects
set_option maxRecDepth 20000 in
theorem ggX8_doesStep_X8_charts : GoodIn wsX8_doesStep wsX8_charts := goodIn_r _ [79, 63, 80, 81, 65, 3, 82, 83, 64, 84, 85, 86, 7, 87, 22, 88, 89, 90, 91, 42, 32, 9, 113, 114, 115, 116, 117, 118, 119, 120, 121, 122, 123, 124, 125, 126, 127, 128, 129, 130, 131, 132, 133, 134, 135, 136, 137, 138, 139, 140, 141, 142, 143, 144, 145, 146, 147, 148, 149] (by decide +kernel) (by decide +kernel)
set_option maxRecDepth 20000 in
theorem gX8_doesStep_X8_charts : GoodIn wsX8_doesStep (wsV RX8 195 RX8 yX8_charts wsX8_charts) := goodIn_app (goodIn_of _ (by decide +kernel)) ggX8_doesStep_X8_charts
set_option maxRecDepth 20000 in
theorem ggX8_doesStep_X8_lives : GoodIn wsX8_doesStep wsX8_lives := goodIn_r _ [95, 34, 75, 2, 88, 96, 3, 97, 98, 99, 7, 100, 101, 102, 103, 104, 105, 106, 107, 108, 109, 89, 110, 111, 112, 53, 54, 55, 56, 57, 58, 113, 114, 115, 116, 117, 118, 119, 120, 121, 122, 123, 124, 125, 126, 127, 128, 129, 130, 131, 132, 133, 134, 135, 136, 137, 138, 139, 140, 141, 142, 143, 144, 145, 146, 147, 148, 149] (by decide +kernel) (by decide +kernel)
set_option maxRecDepth 20000 in
theorem gX8_doesStep_X8_lives : GoodIn wsX8_doesStep (wsV RX8 198 RX8 yX8_lives wsX8_lives) := goodIn_app (goodIn_of _ (by decide +kernel)) ggX8_doesStep_X8_lives
theorem dX8_doesStep_0 : decode cX8_doesStep 0 = .ok (.aload_n 0, 1) := by decide +kernel
theorem dX8_doesStep_1 : decode cX8_doesStep 1 = .ok (.invokevirtual 180, 3) := by decide +kernel
theorem dX8_doesStep_4 : decode cX8_doesStep 4 = .ok (.aload_n 0, 1) := by decide +kernel
theorem dX8_doesStep_5 : decode cX8_doesStep 5 = .ok (.invokevirtual 183, 3) := by decide +kernel
theorem dX8_doesStep_8 : decode cX8_doesStep 8 = .ok (.aload_n 0, 1) := by decide +kernel
theorem dX8_doesStep_9 : decode cX8_doesStep 9 = .ok (.invokevirtual 186, 3) := by decide +kernel
theorem dX8_doesStep_12 : decode cX8_doesStep 12 = .ok (.aload_n 0, 1) := by decide +kernel
theorem dX8_doesStep_13 : decode cX8_doesStep 13 = .ok (.invokevirtual 189, 3) := by decide +kernel
theorem dX8_doesStep_16 : decode cX8_doesStep 16 = .ok (.aload_n 0, 1) := by decide +kernel
theorem dX8_doesStep_17 : decode cX8_doesStep 17 = .ok (.invokevirtual 192, 3) := by decide +kernel
theorem dX8_doesStep_20 : decode cX8_doesStep 20 = .ok (.aload_n 0, 1) := by decide +kernel
theorem dX8_doesStep_21 : decode cX8_doesStep 21 = .ok (.invokevirtual 195, 3) := by decide +kernel
theorem dX8_doesStep_24 : decode cX8_doesStep 24 = .ok (.iconst 0, 1) := by decide +kernel
theorem dX8_doesStep_25 : decode cX8_doesStep 25 = .ok (.istore_n 1, 1) := by decide +kernel
theorem dX8_doesStep_26 : decode cX8_doesStep 26 = .ok (.iload_n 1, 1) := by decide +kernel
theorem dX8_doesStep_27 : decode cX8_doesStep 27 = .ok (.aload_n 0, 1) := by decide +kernel
theorem dX8_doesStep_28 : decode cX8_doesStep 28 = .ok (.getfield 97, 3) := by decide +kernel
theorem dX8_doesStep_31 : decode cX8_doesStep 31 = .ok (.if_icmp .ge 24, 3) := by decide +kernel
theorem dX8_doesStep_34 : decode cX8_doesStep 34 = .ok (.aload_n 0, 1) := by decide +kernel
theorem dX8_doesStep_35 : decode cX8_doesStep 35 = .ok (.getfield 54, 3) := by decide +kernel
theorem dX8_doesStep_38 : decode cX8_doesStep 38 = .ok (.iload_n 1, 1) := by decide +kernel
theorem dX8_doesStep_39 : decode cX8_doesStep 39 = .ok (.iaload, 1) := by decide +kernel
theorem dX8_doesStep_40 : decode cX8_doesStep 40 = .ok (.iconst 2, 1) := by decide +kernel
theorem dX8_doesStep_41 : decode cX8_doesStep 41 = .ok (.if_icmp .gt 8, 3) := by decide +kernel
theorem dX8_doesStep_44 : decode cX8_doesStep 44 = .ok (.aload_n 0, 1) := by decide +kernel
theorem dX8_doesStep_45 : decode cX8_doesStep 45 = .ok (.iload_n 1, 1) := by decide +kernel
theorem dX8_doesStep_46 : decode cX8_doesStep 46 = .ok (.invokevirtual 198, 3) := by decide +kernel
theorem dX8_doesStep_49 : decode cX8_doesStep 49 = .ok (.iinc 1 1, 3) := by decide +kernel
theorem dX8_doesStep_52 : decode cX8_doesStep 52 = .ok (.goto (-26), 3) := by decide +kernel
theorem dX8_doesStep_55 : decode cX8_doesStep 55 = .ok (.aload_n 0, 1) := by decide +kernel
theorem dX8_doesStep_56 : decode cX8_doesStep 56 = .ok (.dup, 1) := by decide +kernel
theorem dX8_doesStep_57 : decode cX8_doesStep 57 = .ok (.getfield 77, 3) := by decide +kernel
theorem dX8_doesStep_60 : decode cX8_doesStep 60 = .ok (.iconst 1, 1) := by decide +kernel
theorem dX8_doesStep_61 : decode cX8_doesStep 61 = .ok (.iadd, 1) := by decide +kernel
theorem dX8_doesStep_62 : decode cX8_doesStep 62 = .ok (.putfield 77, 3) := by decide +kernel
theorem dX8_doesStep_65 : decode cX8_doesStep 65 = .ok (.return_, 1) := by decide +kernel
set_option maxRecDepth 20000 in
theorem ggX8_step_X8_isBetween : GoodIn wsX8_step wsX8_isBetween := goodIn_r _ [5] (by decide +kernel) (by decide +kernel)
set_option maxRecDepth 20000 in
theorem gX8_step_X8_isBetween : GoodIn wsX8_step (va_wsS RX8 69 yX8_isBetween wsX8_isBetween) := goodIn_app (goodIn_of _ (by decide +kernel)) ggX8_step_X8_isBetween
set_option maxRecDepth 20000 in
theorem ggX8_step_X8_goes : GoodIn wsX8_step wsX8_goes := goodIn_r _ [9, 10, 122, 123, 124, 125, 126, 127, 128, 129, 130, 131, 132, 133, 134, 135, 136, 137, 138, 139, 140, 141, 142, 143, 144, 145, 146, 147, 148, 149, 150, 151, 152, 153, 154, 155, 156, 157, 158] (by decide +kernel) (by decide +kernel)
set_option maxRecDepth 20000 in
theorem gX8_step_X8_goes : GoodIn wsX8_step (wsV RX8 80 RX8 yX8_goes wsX8_goes) := goodIn_app (goodIn_of _ (by decide +kernel)) ggX8_step_X8_goes
set_option maxRecDepth 20000 in
theorem ggX8_step_X8_doesStep : GoodIn wsX8_step wsX8_doesStep := goodIn_r _ [14, 15, 16, 1, 17, 18, 19, 4, 20, 21, 22, 23, 24, 25, 26, 27, 28, 29, 30, 31, 32, 33, 34, 35, 36, 37, 38, 39, 40, 41, 42, 43, 44, 45, 46, 47, 48, 49, 50, 51, 52, 53, 54, 55, 56, 57, 58, 59, 60, 61, 62, 63, 64, 65, 66, 67, 2, 3, 5, 68, 69, 70, 71, 72, 73, 74, 75, 76, 77, 78, 79, 80, 81, 82, 83, 84, 85, 86, 87, 88, 89, 90, 91, 92, 93, 94, 95, 96, 97, 98, 99, 100, 101, 102, 103, 104, 105, 106, 107, 108, 109, 110, 111, 112, 113, 114, 115, 116, 117, 118, 119, 120, 121, 122, 123, 124, 125, 126, 127, 128, 129, 130, 131, 132, 133, 134, 135, 136, 137, 138, 139, 140, 141, 142, 143, 144, 145, 146, 147, 148, 149, 150, 151, 152, 153, 154, 155, 156, 157, 158] (by decide +kernel) (by decide +kernel)
set_option maxRecDepth 20000 in
theorem gX8_step_X8_doesStep : GoodIn wsX8_step (wsV RX8 201 RX8 yX8_doesStep wsX8_doesStep) := goodIn_app (goodIn_of _ (by decide +kernel)) ggX8_step_X8_doesStep
theorem dX8_step_0 : decode cX8_step 0 = .ok (.aload_n 0, 1) := by decide +kernel
theorem dX8_step_1 : decode cX8_step 1 = .ok (.iload_n 1, 1) := by decide +kernel
theorem dX8_step_2 : decode cX8_step 2 = .ok (.iconst 1, 1) := by decide +kernel
theorem dX8_step_3 : decode cX8_step 3 = .ok (.bipush 100, 2) := by decide +kernel
theorem dX8_step_5 : decode cX8_step 5 = .ok (.invokestatic 69, 3) := by decide +kernel
theorem dX8_step_8 : decode cX8_step 8 = .ok (.iconst 1, 1) := by decide +kernel
theorem dX8_step_9 : decode cX8_step 9 = .ok (.iconst 1, 1) := by decide +kernel
theorem dX8_step_10 : decode cX8_step 10 = .ok (.invokevirtual 80, 3) := by decide +kernel
theorem dX8_step_13 : decode cX8_step 13 = .ok (.ifCond .ne 5, 3) := by decide +kernel
theorem dX8_step_16 : decode cX8_step 16 = .ok (.iconst 0, 1) := by decide +kernel
theorem dX8_step_17 : decode cX8_step 17 = .ok (.ireturn, 1) := by decide +kernel
theorem dX8_step_18 : decode cX8_step 18 = .ok (.iconst 0, 1) := by decide +kernel
theorem dX8_step_19 : decode cX8_step 19 = .ok (.istore_n 2, 1) := by decide +kernel
theorem dX8_step_20 : decode cX8_step 20 = .ok (.iload_n 2, 1) := by decide +kernel
theorem dX8_step_21 : decode cX8_step 21 = .ok (.iload_n 1, 1) := by decide +kernel
theorem dX8_step_22 : decode cX8_step 22 = .ok (.if_icmp .ge 13, 3) := by decide +kernel
theorem dX8_step_25 : decode cX8_step 25 = .ok (.aload_n 0, 1) := by decide +kernel
theorem dX8_step_26 : decode cX8_step 26 = .ok (.invokevirtual 201, 3) := by decide +kernel
theorem dX8_step_29 : decode cX8_step 29 = .ok (.iinc 2 1, 3) := by decide +kernel
theorem dX8_step_32 : decode cX8_step 32 = .ok (.goto (-12), 3) := by decide +kernel
theorem dX8_step_35 : decode cX8_step 35 = .ok (.aload_n 0, 1) := by decide +kernel
theorem dX8_step_36 : decode cX8_step 36 = .ok (.getfield 77, 3) := by decide +kernel
theorem dX8_step_39 : decode cX8_step 39 = .ok (.ireturn, 1) := by decide +kernel
set_option maxRecDepth 20000 in
theorem ggX8_segment_X8_isSegment : GoodIn wsX8_segment wsX8_isSegment := goodIn_r _ [8, 9, 10, 7, 11] (by decide +kernel) (by decide +kernel)
set_option maxRecDepth 20000 in
theorem gX8_segment_X8_isSegment : GoodIn wsX8_segment (va_wsS RX8 73 yX8_isSegment wsX8_isSegment) := goodIn_app (goodIn_of _ (by decide +kernel)) ggX8_segment_X8_isSegment
set_option maxRecDepth 20000 in
theorem ggX8_segment_X8_isBetween : GoodIn wsX8_segment wsX8_isBetween := goodIn_r _ [11] (by decide +kernel) (by decide +kernel)
set_option maxRecDepth 20000 in
theorem gX8_segment_X8_isBetween : GoodIn wsX8_segment (va_wsS RX8 69 yX8_isBetween wsX8_isBetween) := goodIn_app (goodIn_of _ (by decide +kernel)) ggX8_segment_X8_isBetween
set_option maxRecDepth 20000 in
theorem ggX8_segment_X8_goes : GoodIn wsX8_segment wsX8_goes := goodIn_r _ [15, 16, 32, 33, 34, 35, 36, 37, 38, 39, 40, 41, 42, 43, 44, 45, 46, 47, 48, 49, 50, 51, 52, 53, 54, 55, 56, 57, 58, 59, 60, 61, 62, 63, 64, 65, 66, 67, 68] (by decide +kernel) (by decide +kernel)
set_option maxRecDepth 20000 in
theorem gX8_segment_X8_goes : GoodIn wsX8_segment (wsV RX8 80 RX8 yX8_goes wsX8_goes) := goodIn_app (goodIn_of _ (by decide +kernel)) ggX8_segment_X8_goes
set_option maxRecDepth 20000 in
theorem ggX8_segment_X8_tells : GoodIn wsX8_segment wsX8_tells := goodIn_r _ [20, 2, 21, 1, 22, 23, 24, 7, 25, 26, 27, 28, 32, 33, 34, 35, 36, 37, 38, 39, 40, 41, 42, 43, 44, 45, 46, 47, 48, 49, 50, 51, 52, 53, 54, 55, 56, 57, 58, 59, 60, 61, 62, 63, 64, 65, 66, 67, 68] (by decide +kernel) (by decide +kernel)
set_option maxRecDepth 20000 in
theorem gX8_segment_X8_tells : GoodIn wsX8_segment (wsV RX8 158 RX8 yX8_tells wsX8_tells) := goodIn_app (goodIn_of _ (by decide +kernel)) ggX8_segment_X8_tells
set_option maxRecDepth 20000 in
theorem ggX8_segment_X8_personsIn : GoodIn wsX8_segment wsX8_personsIn := goodIn_r _ [25, 26, 27, 28, 32, 33, 34, 35, 36, 37, 38, 39, 40, 41, 42, 43, 44, 45, 46, 47, 48, 49, 50, 51, 52, 53, 54, 55, 56, 57, 58, 59, 60, 61, 62, 63, 64, 65, 66, 67, 68] (by decide +kernel) (by decide +kernel)
set_option maxRecDepth 20000 in
theorem gX8_segment_X8_personsIn : GoodIn wsX8_segment (wsV RX8 154 RX8 yX8_personsIn wsX8_personsIn) := goodIn_app (goodIn_of _ (by decide +kernel)) ggX8_segment_X8_personsIn
set_option maxRecDepth 20000 in
theorem ggX8_segment_X8_isIn : GoodIn wsX8_segment wsX8_isIn := goodIn_r _ [31] (by decide +kernel) (by decide +kernel)
set_option maxRecDepth 20000 in
theorem gX8_segment_X8_isIn : GoodIn wsX8_segment (va_wsS RX8 113 yX8_isIn wsX8_isIn) := goodIn_app (goodIn_of _ (by decide +kernel)) ggX8_segment_X8_isIn
theorem dX8_segment_0 : decode cX8_segment 0 = .ok (.aload_n 0, 1) := by decide +kernel
theorem dX8_segment_1 : decode cX8_segment 1 = .ok (.iload_n 1, 1) := by decide +kernel
theorem dX8_segment_2 : decode cX8_segment 2 = .ok (.invokestatic 73, 3) := by decide +kernel
theorem dX8_segment_5 : decode cX8_segment 5 = .ok (.iload_n 2, 1) := by decide +kernel
theorem dX8_segment_6 : decode cX8_segment 6 = .ok (.iconst 0, 1) := by decide +kernel
theorem dX8_segment_7 : decode cX8_segment 7 = .ok (.iconst 4, 1) := by decide +kernel
theorem dX8_segment_8 : decode cX8_segment 8 = .ok (.invokestatic 69, 3) := by decide +kernel
theorem dX8_segment_11 : decode cX8_segment 11 = .ok (.iconst 1, 1) := by decide +kernel
theorem dX8_segment_12 : decode cX8_segment 12 = .ok (.invokevirtual 80, 3) := by decide +kernel
theorem dX8_segment_15 : decode cX8_segment 15 = .ok (.ifCond .ne 5, 3) := by decide +kernel
theorem dX8_segment_18 : decode cX8_segment 18 = .ok (.iconst 0, 1) := by decide +kernel
theorem dX8_segment_19 : decode cX8_segment 19 = .ok (.ireturn, 1) := by decide +kernel
theorem dX8_segment_20 : decode cX8_segment 20 = .ok (.iload_n 2, 1) := by decide +kernel
theorem dX8_segment_21 : decode cX8_segment 21 = .ok (.tableswitch 57 0 3 #[31, 38, 45, 51], 31) := by decide +kernel
theorem dX8_segment_52 : decode cX8_segment 52 = .ok (.aload_n 0, 1) := by decide +kernel
theorem dX8_segment_53 : decode cX8_segment 53 = .ok (.getfield 7, 3) := by decide +kernel
theorem dX8_segment_56 : decode cX8_segment 56 = .ok (.iload_n 1, 1) := by decide +kernel
theorem dX8_segment_57 : decode cX8_segment 57 = .ok (.iaload, 1) := by decide +kernel
theorem dX8_segment_58 : decode cX8_segment 58 = .ok (.ireturn, 1) := by decide +kernel
theorem dX8_segment_59 : decode cX8_segment 59 = .ok (.aload_n 0, 1) := by decide +kernel
theorem dX8_segment_60 : decode cX8_segment 60 = .ok (.getfield 13, 3) := by decide +kernel
theorem dX8_segment_63 : decode cX8_segment 63 = .ok (.iload_n 1, 1) := by decide +kernel
theorem dX8_segment_64 : decode cX8_segment 64 = .ok (.iaload, 1) := by decide +kernel
theorem dX8_segment_65 : decode cX8_segment 65 = .ok (.ireturn, 1) := by decide +kernel
theorem dX8_segment_66 : decode cX8_segment 66 = .ok (.aload_n 0, 1) := by decide +kernel
theorem dX8_segment_67 : decode cX8_segment 67 = .ok (.iload_n 1, 1) := by decide +kernel
theorem dX8_segment_68 : decode cX8_segment 68 = .ok (.invokevirtual 158, 3) := by decide +kernel
theorem dX8_segment_71 : decode cX8_segment 71 = .ok (.ireturn, 1) := by decide +kernel
theorem dX8_segment_72 : decode cX8_segment 72 = .ok (.aload_n 0, 1) := by decide +kernel
theorem dX8_segment_73 : decode cX8_segment 73 = .ok (.iload_n 1, 1) := by decide +kernel
theorem dX8_segment_74 : decode cX8_segment 74 = .ok (.invokevirtual 154, 3) := by decide +kernel
theorem dX8_segment_77 : decode cX8_segment 77 = .ok (.ireturn, 1) := by decide +kernel
theorem dX8_segment_78 : decode cX8_segment 78 = .ok (.iload_n 1, 1) := by decide +kernel
theorem dX8_segment_79 : decode cX8_segment 79 = .ok (.aload_n 0, 1) := by decide +kernel
theorem dX8_segment_80 : decode cX8_segment 80 = .ok (.getfield 84, 3) := by decide +kernel
theorem dX8_segment_83 : decode cX8_segment 83 = .ok (.invokestatic 113, 3) := by decide +kernel
theorem dX8_segment_86 : decode cX8_segment 86 = .ok (.ifCond .ne 7, 3) := by decide +kernel
theorem dX8_segment_89 : decode cX8_segment 89 = .ok (.iconst (-1), 1) := by decide +kernel
theorem dX8_segment_90 : decode cX8_segment 90 = .ok (.goto 19, 3) := by decide +kernel
theorem dX8_segment_93 : decode cX8_segment 93 = .ok (.iload_n 1, 1) := by decide +kernel
theorem dX8_segment_94 : decode cX8_segment 94 = .ok (.aload_n 0, 1) := by decide +kernel
theorem dX8_segment_95 : decode cX8_segment 95 = .ok (.getfield 87, 3) := by decide +kernel
theorem dX8_segment_98 : decode cX8_segment 98 = .ok (.invokestatic 113, 3) := by decide +kernel
theorem dX8_segment_101 : decode cX8_segment 101 = .ok (.ifCond .eq 7, 3) := by decide +kernel
theorem dX8_segment_104 : decode cX8_segment 104 = .ok (.iconst 1, 1) := by decide +kernel
theorem dX8_segment_105 : decode cX8_segment 105 = .ok (.goto 4, 3) := by decide +kernel
theorem dX8_segment_108 : decode cX8_segment 108 = .ok (.iconst 0, 1) := by decide +kernel
theorem dX8_segment_109 : decode cX8_segment 109 = .ok (.ireturn, 1) := by decide +kernel
theorem dX8_flow_0 : decode cX8_flow 0 = .ok (.aload_n 0, 1) := by decide +kernel
theorem dX8_flow_1 : decode cX8_flow 1 = .ok (.iconst 0, 1) := by decide +kernel
theorem dX8_flow_2 : decode cX8_flow 2 = .ok (.putfield 66, 3) := by decide +kernel
theorem dX8_flow_5 : decode cX8_flow 5 = .ok (.ldc2_w 204, 3) := by decide +kernel
theorem dX8_flow_8 : decode cX8_flow 8 = .ok (.aload_n 0, 1) := by decide +kernel
theorem dX8_flow_9 : decode cX8_flow 9 = .ok (.getfield 129, 3) := by decide +kernel
theorem dX8_flow_12 : decode cX8_flow 12 = .ok (.dmul, 1) := by decide +kernel
theorem dX8_flow_13 : decode cX8_flow 13 = .ok (.d2i, 1) := by decide +kernel
theorem dX8_flow_14 : decode cX8_flow 14 = .ok (.ireturn, 1) := by decide +kernel
set_option maxRecDepth 20000 in
theorem ggX8_fan_X8_isFan : GoodIn wsX8_fan wsX8_isFan := goodIn_r _ [5, 6, 7, 4, 8] (by decide +kernel) (by decide +kernel)
set_option maxRecDepth 20000 in
theorem gX8_fan_X8_isFan : GoodIn wsX8_fan (va_wsS RX8 110 yX8_isFan wsX8_isFan) := goodIn_app (goodIn_of _ (by decide +kernel)) ggX8_fan_X8_isFan
set_option maxRecDepth 20000 in
theorem ggX8_fan_X8_goes : GoodIn wsX8_fan wsX8_goes := goodIn_r _ [12, 13, 14, 15, 16, 17, 18, 19, 20, 21, 22, 23, 24, 25, 26, 27, 28, 29, 30, 31, 32, 33, 34, 35, 36, 37, 38, 39, 40, 41, 42, 43, 44, 45, 46, 47, 48, 49, 50] (by decide +kernel) (by decide +kernel)
set_option maxRecDepth 20000 in
theorem gX8_fan_X8_goes : GoodIn wsX8_fan (wsV RX8 80 RX8 yX8_goes wsX8_goes) := goodIn_app (goodIn_of _ (by decide +kernel)) ggX8_fan_X8_goes
theorem dX8_fan_0 : decode cX8_fan 0 = .ok (.aload_n 0, 1) := by decide +kernel
theorem dX8_fan_1 : decode cX8_fan 1 = .ok (.iload_n 1, 1) := by decide +kernel
theorem dX8_fan_2 : decode cX8_fan 2 = .ok (.invokestatic 110, 3) := by decide +kernel
theorem dX8_fan_5 : decode cX8_fan 5 = .ok (.iconst 1, 1) := by decide +kernel
theorem dX8_fan_6 : decode cX8_fan 6 = .ok (.iconst 1, 1) := by decide +kernel
theorem dX8_fan_7 : decode cX8_fan 7 = .ok (.invokevirtual 80, 3) := by decide +kernel
theorem dX8_fan_10 : decode cX8_fan 10 = .ok (.ifCond .ne 5, 3) := by decide +kernel
theorem dX8_fan_13 : decode cX8_fan 13 = .ok (.iconst 0, 1) := by decide +kernel
theorem dX8_fan_14 : decode cX8_fan 14 = .ok (.ireturn, 1) := by decide +kernel
theorem dX8_fan_15 : decode cX8_fan 15 = .ok (.aload_n 0, 1) := by decide +kernel
theorem dX8_fan_16 : decode cX8_fan 16 = .ok (.getfield 19, 3) := by decide +kernel
theorem dX8_fan_19 : decode cX8_fan 19 = .ok (.iload_n 1, 1) := by decide +kernel
theorem dX8_fan_20 : decode cX8_fan 20 = .ok (.iaload, 1) := by decide +kernel
theorem dX8_fan_21 : decode cX8_fan 21 = .ok (.ireturn, 1) := by decide +kernel
theorem dX8_alarm_0 : decode cX8_alarm 0 = .ok (.aload_n 0, 1) := by decide +kernel
theorem dX8_alarm_1 : decode cX8_alarm 1 = .ok (.iconst 0, 1) := by decide +kernel
theorem dX8_alarm_2 : decode cX8_alarm 2 = .ok (.putfield 66, 3) := by decide +kernel
theorem dX8_alarm_5 : decode cX8_alarm 5 = .ok (.aload_n 0, 1) := by decide +kernel
theorem dX8_alarm_6 : decode cX8_alarm 6 = .ok (.getfield 42, 3) := by decide +kernel
theorem dX8_alarm_9 : decode cX8_alarm 9 = .ok (.ireturn, 1) := by decide +kernel
set_option maxRecDepth 20000 in
theorem ggX8_done_X8_isBetween : GoodIn wsX8_done wsX8_isBetween := goodIn_r _ [6] (by decide +kernel) (by decide +kernel)
set_option maxRecDepth 20000 in
theorem gX8_done_X8_isBetween : GoodIn wsX8_done (va_wsS RX8 69 yX8_isBetween wsX8_isBetween) := goodIn_app (goodIn_of _ (by decide +kernel)) ggX8_done_X8_isBetween
set_option maxRecDepth 20000 in
theorem ggX8_done_X8_goes : GoodIn wsX8_done wsX8_goes := goodIn_r _ [10, 11, 12, 13, 14, 15, 16, 17, 18, 19, 20, 21, 22, 23, 24, 25, 26, 27, 28, 29, 30, 31, 32, 33, 34, 35, 36, 37, 38, 39, 40, 41, 42, 43, 44, 45, 46, 47, 48] (by decide +kernel) (by decide +kernel)
set_option maxRecDepth 20000 in
theorem gX8_done_X8_goes : GoodIn wsX8_done (wsV RX8 80 RX8 yX8_goes wsX8_goes) := goodIn_app (goodIn_of _ (by decide +kernel)) ggX8_done_X8_goes
theorem dX8_done_0 : decode cX8_done 0 = .ok (.aload_n 0, 1) := by decide +kernel
theorem dX8_done_1 : decode cX8_done 1 = .ok (.iload_n 1, 1) := by decide +kernel
theorem dX8_done_2 : decode cX8_done 2 = .ok (.iconst 0, 1) := by decide +kernel
theorem dX8_done_3 : decode cX8_done 3 = .ok (.aload_n 0, 1) := by decide +kernel
theorem dX8_done_4 : decode cX8_done 4 = .ok (.getfield 117, 3) := by decide +kernel
theorem dX8_done_7 : decode cX8_done 7 = .ok (.iconst 1, 1) := by decide +kernel
theorem dX8_done_8 : decode cX8_done 8 = .ok (.isub, 1) := by decide +kernel
theorem dX8_done_9 : decode cX8_done 9 = .ok (.invokestatic 69, 3) := by decide +kernel
theorem dX8_done_12 : decode cX8_done 12 = .ok (.iconst 1, 1) := by decide +kernel
theorem dX8_done_13 : decode cX8_done 13 = .ok (.iconst 1, 1) := by decide +kernel
theorem dX8_done_14 : decode cX8_done 14 = .ok (.invokevirtual 80, 3) := by decide +kernel
theorem dX8_done_17 : decode cX8_done 17 = .ok (.ifCond .ne 5, 3) := by decide +kernel
theorem dX8_done_20 : decode cX8_done 20 = .ok (.iconst 0, 1) := by decide +kernel
theorem dX8_done_21 : decode cX8_done 21 = .ok (.ireturn, 1) := by decide +kernel
theorem dX8_done_22 : decode cX8_done 22 = .ok (.aload_n 0, 1) := by decide +kernel
theorem dX8_done_23 : decode cX8_done 23 = .ok (.getfield 51, 3) := by decide +kernel
theorem dX8_done_26 : decode cX8_done 26 = .ok (.iload_n 1, 1) := by decide +kernel
theorem dX8_done_27 : decode cX8_done 27 = .ok (.iaload, 1) := by decide +kernel
theorem dX8_done_28 : decode cX8_done 28 = .ok (.ireturn, 1) := by decide +kernel
set_option maxRecDepth 20000 in
theorem ggX8_person_X8_isBetween : GoodIn wsX8_person wsX8_isBetween := goodIn_r _ [8] (by decide +kernel) (by decide +kernel)
set_option maxRecDepth 20000 in
theorem gX8_person_X8_isBetween : GoodIn wsX8_person (va_wsS RX8 69 yX8_isBetween wsX8_isBetween) := goodIn_app (goodIn_of _ (by decide +kernel)) ggX8_person_X8_isBetween
set_option maxRecDepth 20000 in
theorem ggX8_person_X8_goes : GoodIn wsX8_person wsX8_goes := goodIn_r _ [12, 13, 14, 15, 16, 17, 18, 19, 20, 21, 22, 23, 24, 25, 26, 27, 28, 29, 30, 31, 32, 33, 34, 35, 36, 37, 38, 39, 40, 41, 42, 43, 44, 45, 46, 47, 48, 49, 50] (by decide +kernel) (by decide +kernel)
set_option maxRecDepth 20000 in
theorem gX8_person_X8_goes : GoodIn wsX8_person (wsV RX8 80 RX8 yX8_goes wsX8_goes) := goodIn_app (goodIn_of _ (by decide +kernel)) ggX8_person_X8_goes
theorem dX8_person_0 : decode cX8_person 0 = .ok (.aload_n 0, 1) := by decide +kernel
theorem dX8_person_1 : decode cX8_person 1 = .ok (.iload_n 1, 1) := by decide +kernel
theorem dX8_person_2 : decode cX8_person 2 = .ok (.iconst 0, 1) := by decide +kernel
theorem dX8_person_3 : decode cX8_person 3 = .ok (.aload_n 0, 1) := by decide +kernel
theorem dX8_person_4 : decode cX8_person 4 = .ok (.getfield 97, 3) := by decide +kernel
theorem dX8_person_7 : decode cX8_person 7 = .ok (.iconst 1, 1) := by decide +kernel
theorem dX8_person_8 : decode cX8_person 8 = .ok (.isub, 1) := by decide +kernel
theorem dX8_person_9 : decode cX8_person 9 = .ok (.invokestatic 69, 3) := by decide +kernel
theorem dX8_person_12 : decode cX8_person 12 = .ok (.iload_n 2, 1) := by decide +kernel
theorem dX8_person_13 : decode cX8_person 13 = .ok (.iconst 0, 1) := by decide +kernel
theorem dX8_person_14 : decode cX8_person 14 = .ok (.iconst 2, 1) := by decide +kernel
theorem dX8_person_15 : decode cX8_person 15 = .ok (.invokestatic 69, 3) := by decide +kernel
theorem dX8_person_18 : decode cX8_person 18 = .ok (.iconst 1, 1) := by decide +kernel
theorem dX8_person_19 : decode cX8_person 19 = .ok (.invokevirtual 80, 3) := by decide +kernel
theorem dX8_person_22 : decode cX8_person 22 = .ok (.ifCond .ne 5, 3) := by decide +kernel
theorem dX8_person_25 : decode cX8_person 25 = .ok (.iconst 0, 1) := by decide +kernel
theorem dX8_person_26 : decode cX8_person 26 = .ok (.ireturn, 1) := by decide +kernel
theorem dX8_person_27 : decode cX8_person 27 = .ok (.iload_n 2, 1) := by decide +kernel
theorem dX8_person_28 : decode cX8_person 28 = .ok (.ifCond .ne 12, 3) := by decide +kernel
theorem dX8_person_31 : decode cX8_person 31 = .ok (.aload_n 0, 1) := by decide +kernel
theorem dX8_person_32 : decode cX8_person 32 = .ok (.getfield 54, 3) := by decide +kernel
theorem dX8_person_35 : decode cX8_person 35 = .ok (.iload_n 1, 1) := by decide +kernel
theorem dX8_person_36 : decode cX8_person 36 = .ok (.iaload, 1) := by decide +kernel
theorem dX8_person_37 : decode cX8_person 37 = .ok (.goto 37, 3) := by decide +kernel
theorem dX8_person_40 : decode cX8_person 40 = .ok (.iload_n 2, 1) := by decide +kernel
theorem dX8_person_41 : decode cX8_person 41 = .ok (.iconst 2, 1) := by decide +kernel
theorem dX8_person_42 : decode cX8_person 42 = .ok (.if_icmp .ne 12, 3) := by decide +kernel
theorem dX8_person_45 : decode cX8_person 45 = .ok (.aload_n 0, 1) := by decide +kernel
theorem dX8_person_46 : decode cX8_person 46 = .ok (.getfield 63, 3) := by decide +kernel
theorem dX8_person_49 : decode cX8_person 49 = .ok (.iload_n 1, 1) := by decide +kernel
theorem dX8_person_50 : decode cX8_person 50 = .ok (.iaload, 1) := by decide +kernel
theorem dX8_person_51 : decode cX8_person 51 = .ok (.goto 23, 3) := by decide +kernel
theorem dX8_person_54 : decode cX8_person 54 = .ok (.aload_n 0, 1) := by decide +kernel
theorem dX8_person_55 : decode cX8_person 55 = .ok (.getfield 54, 3) := by decide +kernel
theorem dX8_person_58 : decode cX8_person 58 = .ok (.iload_n 1, 1) := by decide +kernel
theorem dX8_person_59 : decode cX8_person 59 = .ok (.iaload, 1) := by decide +kernel
theorem dX8_person_60 : decode cX8_person 60 = .ok (.iconst 3, 1) := by decide +kernel
theorem dX8_person_61 : decode cX8_person 61 = .ok (.if_icmp .ne 7, 3) := by decide +kernel
theorem dX8_person_64 : decode cX8_person 64 = .ok (.iconst (-1), 1) := by decide +kernel
theorem dX8_person_65 : decode cX8_person 65 = .ok (.goto 9, 3) := by decide +kernel
theorem dX8_person_68 : decode cX8_person 68 = .ok (.aload_n 0, 1) := by decide +kernel
theorem dX8_person_69 : decode cX8_person 69 = .ok (.getfield 57, 3) := by decide +kernel
theorem dX8_person_72 : decode cX8_person 72 = .ok (.iload_n 1, 1) := by decide +kernel
theorem dX8_person_73 : decode cX8_person 73 = .ok (.iaload, 1) := by decide +kernel
theorem dX8_person_74 : decode cX8_person 74 = .ok (.ireturn, 1) := by decide +kernel
theorem dX8_counted_0 : decode cX8_counted 0 = .ok (.iconst 0, 1) := by decide +kernel
theorem dX8_counted_1 : decode cX8_counted 1 = .ok (.istore_n 2, 1) := by decide +kernel
theorem dX8_counted_2 : decode cX8_counted 2 = .ok (.iconst 0, 1) := by decide +kernel
theorem dX8_counted_3 : decode cX8_counted 3 = .ok (.istore_n 3, 1) := by decide +kernel
theorem dX8_counted_4 : decode cX8_counted 4 = .ok (.iload_n 3, 1) := by decide +kernel
theorem dX8_counted_5 : decode cX8_counted 5 = .ok (.aload_n 0, 1) := by decide +kernel
theorem dX8_counted_6 : decode cX8_counted 6 = .ok (.getfield 97, 3) := by decide +kernel
theorem dX8_counted_9 : decode cX8_counted 9 = .ok (.if_icmp .ge 27, 3) := by decide +kernel
theorem dX8_counted_12 : decode cX8_counted 12 = .ok (.iload_n 2, 1) := by decide +kernel
theorem dX8_counted_13 : decode cX8_counted 13 = .ok (.aload_n 0, 1) := by decide +kernel
theorem dX8_counted_14 : decode cX8_counted 14 = .ok (.getfield 54, 3) := by decide +kernel
theorem dX8_counted_17 : decode cX8_counted 17 = .ok (.iload_n 3, 1) := by decide +kernel
theorem dX8_counted_18 : decode cX8_counted 18 = .ok (.iaload, 1) := by decide +kernel
theorem dX8_counted_19 : decode cX8_counted 19 = .ok (.iload_n 1, 1) := by decide +kernel
theorem dX8_counted_20 : decode cX8_counted 20 = .ok (.if_icmp .ne 7, 3) := by decide +kernel
theorem dX8_counted_23 : decode cX8_counted 23 = .ok (.iconst 1, 1) := by decide +kernel
theorem dX8_counted_24 : decode cX8_counted 24 = .ok (.goto 4, 3) := by decide +kernel
theorem dX8_counted_27 : decode cX8_counted 27 = .ok (.iconst 0, 1) := by decide +kernel
theorem dX8_counted_28 : decode cX8_counted 28 = .ok (.iadd, 1) := by decide +kernel
theorem dX8_counted_29 : decode cX8_counted 29 = .ok (.istore_n 2, 1) := by decide +kernel
theorem dX8_counted_30 : decode cX8_counted 30 = .ok (.iinc 3 1, 3) := by decide +kernel
theorem dX8_counted_33 : decode cX8_counted 33 = .ok (.goto (-29), 3) := by decide +kernel
theorem dX8_counted_36 : decode cX8_counted 36 = .ok (.iload_n 2, 1) := by decide +kernel
theorem dX8_counted_37 : decode cX8_counted 37 = .ok (.ireturn, 1) := by decide +kernel
set_option maxRecDepth 20000 in
theorem ggX8_count_X8_isBetween : GoodIn wsX8_count wsX8_isBetween := goodIn_r _ [4] (by decide +kernel) (by decide +kernel)
set_option maxRecDepth 20000 in
theorem gX8_count_X8_isBetween : GoodIn wsX8_count (va_wsS RX8 69 yX8_isBetween wsX8_isBetween) := goodIn_app (goodIn_of _ (by decide +kernel)) ggX8_count_X8_isBetween
set_option maxRecDepth 20000 in
theorem ggX8_count_X8_goes : GoodIn wsX8_count wsX8_goes := goodIn_r _ [8, 9, 16, 17, 18, 19, 20, 21, 22, 23, 24, 25, 26, 27, 28, 29, 30, 31, 32, 33, 34, 35, 36, 37, 38, 39, 40, 41, 42, 43, 44, 45, 46, 47, 48, 49, 50, 51, 52] (by decide +kernel) (by decide +kernel)
set_option maxRecDepth 20000 in
theorem gX8_count_X8_goes : GoodIn wsX8_count (wsV RX8 80 RX8 yX8_goes wsX8_goes) := goodIn_app (goodIn_of _ (by decide +kernel)) ggX8_count_X8_goes
set_option maxRecDepth 20000 in
theorem ggX8_count_X8_counted : GoodIn wsX8_count wsX8_counted := goodIn_r _ [13, 14, 15, 16, 17, 18, 19, 20, 21, 22, 23, 24, 25, 26, 27, 28, 29, 30, 31, 32, 33, 34, 35, 36, 37, 38, 39, 40, 41, 42, 43, 44, 45, 46, 47, 48, 49, 50, 51, 52] (by decide +kernel) (by decide +kernel)
set_option maxRecDepth 20000 in
theorem gX8_count_X8_counted : GoodIn wsX8_count (wsV RX8 206 RX8 yX8_counted wsX8_counted) := goodIn_app (goodIn_of _ (by decide +kernel)) ggX8_count_X8_counted
theorem dX8_count_0 : decode cX8_count 0 = .ok (.aload_n 0, 1) := by decide +kernel
theorem dX8_count_1 : decode cX8_count 1 = .ok (.iload_n 1, 1) := by decide +kernel
theorem dX8_count_2 : decode cX8_count 2 = .ok (.iconst 0, 1) := by decide +kernel
theorem dX8_count_3 : decode cX8_count 3 = .ok (.iconst 4, 1) := by decide +kernel
theorem dX8_count_4 : decode cX8_count 4 = .ok (.invokestatic 69, 3) := by decide +kernel
theorem dX8_count_7 : decode cX8_count 7 = .ok (.iconst 1, 1) := by decide +kernel
theorem dX8_count_8 : decode cX8_count 8 = .ok (.iconst 1, 1) := by decide +kernel
theorem dX8_count_9 : decode cX8_count 9 = .ok (.invokevirtual 80, 3) := by decide +kernel
theorem dX8_count_12 : decode cX8_count 12 = .ok (.ifCond .ne 5, 3) := by decide +kernel
theorem dX8_count_15 : decode cX8_count 15 = .ok (.iconst 0, 1) := by decide +kernel
theorem dX8_count_16 : decode cX8_count 16 = .ok (.ireturn, 1) := by decide +kernel
theorem dX8_count_17 : decode cX8_count 17 = .ok (.aload_n 0, 1) := by decide +kernel
theorem dX8_count_18 : decode cX8_count 18 = .ok (.iload_n 1, 1) := by decide +kernel
theorem dX8_count_19 : decode cX8_count 19 = .ok (.invokevirtual 206, 3) := by decide +kernel
theorem dX8_count_22 : decode cX8_count 22 = .ok (.ireturn, 1) := by decide +kernel
theorem dX8_gone_0 : decode cX8_gone 0 = .ok (.aload_n 0, 1) := by decide +kernel
theorem dX8_gone_1 : decode cX8_gone 1 = .ok (.iconst 0, 1) := by decide +kernel
theorem dX8_gone_2 : decode cX8_gone 2 = .ok (.putfield 66, 3) := by decide +kernel
theorem dX8_gone_5 : decode cX8_gone 5 = .ok (.aload_n 0, 1) := by decide +kernel
theorem dX8_gone_6 : decode cX8_gone 6 = .ok (.getfield 141, 3) := by decide +kernel
theorem dX8_gone_9 : decode cX8_gone 9 = .ok (.ireturn, 1) := by decide +kernel
set_option maxRecDepth 20000 in
theorem ggX8_balances_X8_counted : GoodIn wsX8_balances wsX8_counted := goodIn_r _ [10, 5, 11, 12, 13, 14, 15, 16, 17, 18, 19, 20, 21, 22, 23, 24, 25, 26, 27, 28, 29, 30, 31, 32, 33, 34, 35, 36, 37, 38, 39, 40, 41, 42, 43, 44, 45, 46, 47, 48] (by decide +kernel) (by decide +kernel)
set_option maxRecDepth 20000 in
theorem gX8_balances_X8_counted : GoodIn wsX8_balances (wsV RX8 206 RX8 yX8_counted wsX8_counted) := goodIn_app (goodIn_of _ (by decide +kernel)) ggX8_balances_X8_counted
theorem dX8_balances_0 : decode cX8_balances 0 = .ok (.aload_n 0, 1) := by decide +kernel
theorem dX8_balances_1 : decode cX8_balances 1 = .ok (.iconst 0, 1) := by decide +kernel
theorem dX8_balances_2 : decode cX8_balances 2 = .ok (.putfield 66, 3) := by decide +kernel
theorem dX8_balances_5 : decode cX8_balances 5 = .ok (.aload_n 0, 1) := by decide +kernel
theorem dX8_balances_6 : decode cX8_balances 6 = .ok (.getfield 141, 3) := by decide +kernel
theorem dX8_balances_9 : decode cX8_balances 9 = .ok (.istore_n 1, 1) := by decide +kernel
theorem dX8_balances_10 : decode cX8_balances 10 = .ok (.iconst 0, 1) := by decide +kernel
end
section
theorem dX8_balances_11 : decode cX8_balances 11 = .ok (.istore_n 2, 1) := by decide +kernel
theorem dX8_balances_12 : decode cX8_balances 12 = .ok (.iload_n 2, 1) := by decide +kernel
theorem dX8_balances_13 : decode cX8_balances 13 = .ok (.bipush 12, 2) := by decide +kernel
theorem dX8_balances_15 : decode cX8_balances 15 = .ok (.if_icmp .ge 18, 3) := by decide +kernel
theorem dX8_balances_18 : decode cX8_balances 18 = .ok (.iload_n 1, 1) := by decide +kernel
theorem dX8_balances_19 : decode cX8_balances 19 = .ok (.aload_n 0, 1) := by decide +kernel
theorem dX8_balances_20 : decode cX8_balances 20 = .ok (.getfield 7, 3) := by decide +kernel
theorem dX8_balances_23 : decode cX8_balances 23 = .ok (.iload_n 2, 1) := by decide +kernel
theorem dX8_balances_24 : decode cX8_balances 24 = .ok (.iaload, 1) := by decide +kernel
theorem dX8_balances_25 : decode cX8_balances 25 = .ok (.iadd, 1) := by decide +kernel
theorem dX8_balances_26 : decode cX8_balances 26 = .ok (.istore_n 1, 1) := by decide +kernel
theorem dX8_balances_27 : decode cX8_balances 27 = .ok (.iinc 2 1, 3) := by decide +kernel
theorem dX8_balances_30 : decode cX8_balances 30 = .ok (.goto (-18), 3) := by decide +kernel
theorem dX8_balances_33 : decode cX8_balances 33 = .ok (.iconst 0, 1) := by decide +kernel
theorem dX8_balances_34 : decode cX8_balances 34 = .ok (.istore_n 2, 1) := by decide +kernel
theorem dX8_balances_35 : decode cX8_balances 35 = .ok (.iconst 0, 1) := by decide +kernel
theorem dX8_balances_36 : decode cX8_balances 36 = .ok (.istore_n 3, 1) := by decide +kernel
theorem dX8_balances_37 : decode cX8_balances 37 = .ok (.iload_n 3, 1) := by decide +kernel
theorem dX8_balances_38 : decode cX8_balances 38 = .ok (.iconst 4, 1) := by decide +kernel
theorem dX8_balances_39 : decode cX8_balances 39 = .ok (.if_icmp .gt 17, 3) := by decide +kernel
theorem dX8_balances_42 : decode cX8_balances 42 = .ok (.iload_n 2, 1) := by decide +kernel
theorem dX8_balances_43 : decode cX8_balances 43 = .ok (.aload_n 0, 1) := by decide +kernel
theorem dX8_balances_44 : decode cX8_balances 44 = .ok (.iload_n 3, 1) := by decide +kernel
theorem dX8_balances_45 : decode cX8_balances 45 = .ok (.invokevirtual 206, 3) := by decide +kernel
theorem dX8_balances_48 : decode cX8_balances 48 = .ok (.iadd, 1) := by decide +kernel
theorem dX8_balances_49 : decode cX8_balances 49 = .ok (.istore_n 2, 1) := by decide +kernel
theorem dX8_balances_50 : decode cX8_balances 50 = .ok (.iinc 3 1, 3) := by decide +kernel
theorem dX8_balances_53 : decode cX8_balances 53 = .ok (.goto (-16), 3) := by decide +kernel
theorem dX8_balances_56 : decode cX8_balances 56 = .ok (.iload_n 1, 1) := by decide +kernel
theorem dX8_balances_57 : decode cX8_balances 57 = .ok (.aload_n 0, 1) := by decide +kernel
theorem dX8_balances_58 : decode cX8_balances 58 = .ok (.getfield 138, 3) := by decide +kernel
theorem dX8_balances_61 : decode cX8_balances 61 = .ok (.if_icmp .ne 15, 3) := by decide +kernel
theorem dX8_balances_64 : decode cX8_balances 64 = .ok (.iload_n 2, 1) := by decide +kernel
theorem dX8_balances_65 : decode cX8_balances 65 = .ok (.aload_n 0, 1) := by decide +kernel
theorem dX8_balances_66 : decode cX8_balances 66 = .ok (.getfield 97, 3) := by decide +kernel
theorem dX8_balances_69 : decode cX8_balances 69 = .ok (.if_icmp .ne 7, 3) := by decide +kernel
theorem dX8_balances_72 : decode cX8_balances 72 = .ok (.iconst 1, 1) := by decide +kernel
theorem dX8_balances_73 : decode cX8_balances 73 = .ok (.goto 4, 3) := by decide +kernel
theorem dX8_balances_76 : decode cX8_balances 76 = .ok (.iconst 0, 1) := by decide +kernel
theorem dX8_balances_77 : decode cX8_balances 77 = .ok (.ireturn, 1) := by decide +kernel
theorem dJ6_compare_7cf53_0 : decode cJ6_compare_7cf53 0 = .ok (.iload_n 0, 1) := by decide +kernel
theorem dJ6_compare_7cf53_1 : decode cJ6_compare_7cf53 1 = .ok (.iload_n 1, 1) := by decide +kernel
theorem dJ6_compare_7cf53_2 : decode cJ6_compare_7cf53 2 = .ok (.if_icmp .ge 7, 3) := by decide +kernel
theorem dJ6_compare_7cf53_5 : decode cJ6_compare_7cf53 5 = .ok (.iconst (-1), 1) := by decide +kernel
theorem dJ6_compare_7cf53_6 : decode cJ6_compare_7cf53 6 = .ok (.goto 13, 3) := by decide +kernel
theorem dJ6_compare_7cf53_9 : decode cJ6_compare_7cf53 9 = .ok (.iload_n 0, 1) := by decide +kernel
theorem dJ6_compare_7cf53_10 : decode cJ6_compare_7cf53 10 = .ok (.iload_n 1, 1) := by decide +kernel
theorem dJ6_compare_7cf53_11 : decode cJ6_compare_7cf53 11 = .ok (.if_icmp .ne 7, 3) := by decide +kernel
theorem dJ6_compare_7cf53_14 : decode cJ6_compare_7cf53 14 = .ok (.iconst 0, 1) := by decide +kernel
theorem dJ6_compare_7cf53_15 : decode cJ6_compare_7cf53 15 = .ok (.goto 4, 3) := by decide +kernel
theorem dJ6_compare_7cf53_18 : decode cJ6_compare_7cf53 18 = .ok (.iconst 1, 1) := by decide +kernel
theorem dJ6_compare_7cf53_19 : decode cJ6_compare_7cf53 19 = .ok (.ireturn, 1) := by decide +kernel
theorem dJ9_abs_0f7a4_0 : decode cJ9_abs_0f7a4 0 = .ok (.iload_n 0, 1) := by decide +kernel
theorem dJ9_abs_0f7a4_1 : decode cJ9_abs_0f7a4 1 = .ok (.ifCond .ge 8, 3) := by decide +kernel
theorem dJ9_abs_0f7a4_4 : decode cJ9_abs_0f7a4 4 = .ok (.iload_n 0, 1) := by decide +kernel
theorem dJ9_abs_0f7a4_5 : decode cJ9_abs_0f7a4 5 = .ok (.ineg, 1) := by decide +kernel
theorem dJ9_abs_0f7a4_6 : decode cJ9_abs_0f7a4 6 = .ok (.goto 4, 3) := by decide +kernel
theorem dJ9_abs_0f7a4_9 : decode cJ9_abs_0f7a4 9 = .ok (.iload_n 0, 1) := by decide +kernel
theorem dJ9_abs_0f7a4_10 : decode cJ9_abs_0f7a4 10 = .ok (.ireturn, 1) := by decide +kernel
theorem dJ9_min_f86c9_0 : decode cJ9_min_f86c9 0 = .ok (.lload_n 0, 1) := by decide +kernel
theorem dJ9_min_f86c9_1 : decode cJ9_min_f86c9 1 = .ok (.lload_n 2, 1) := by decide +kernel
theorem dJ9_min_f86c9_2 : decode cJ9_min_f86c9 2 = .ok (.lcmp, 1) := by decide +kernel
theorem dJ9_min_f86c9_3 : decode cJ9_min_f86c9 3 = .ok (.ifCond .gt 7, 3) := by decide +kernel
theorem dJ9_min_f86c9_6 : decode cJ9_min_f86c9 6 = .ok (.lload_n 0, 1) := by decide +kernel
theorem dJ9_min_f86c9_7 : decode cJ9_min_f86c9 7 = .ok (.goto 4, 3) := by decide +kernel
theorem dJ9_min_f86c9_10 : decode cJ9_min_f86c9 10 = .ok (.lload_n 2, 1) := by decide +kernel
theorem dJ9_min_f86c9_11 : decode cJ9_min_f86c9 11 = .ok (.lreturn, 1) := by decide +kernel
set_option maxRecDepth 20000 in
theorem ggL_build_X7_build : GoodIn wsL_build wsX7_build := goodIn_ca (goodIn_ca (goodIn_ca (goodIn_r _ [8, 9, 10, 11, 12, 13, 14, 7, 15, 16, 17, 18, 19, 20, 21, 22, 23, 24, 25, 26, 27, 28, 29, 30, 31, 32, 33, 34, 35, 36, 37, 38, 39, 40, 41, 42, 43, 44, 45, 46, 47, 48, 49, 50, 51, 52, 53, 54, 55] (by decide +kernel) (by decide +kernel)) (goodIn_sub (fun _ h => List.mem_cons_of_mem _ (List.mem_append_left _ (List.mem_append_left _ (List.mem_append_right _ h)))) (by decide +kernel))) (goodIn_sub (fun _ h => List.mem_cons_of_mem _ (List.mem_append_left _ (List.mem_append_right _ h))) (by decide +kernel))) (goodIn_sub (fun _ h => List.mem_cons_of_mem _ (List.mem_append_right _ h)) (by decide +kernel))
set_option maxRecDepth 20000 in
theorem gL_build_X7_build : GoodIn wsL_build (wsV RL 7 RX7 yX7_build wsX7_build) := goodIn_app (goodIn_of _ (by decide +kernel)) ggL_build_X7_build
theorem dL_build_0 : decode cL_build 0 = .ok (.aload_n 0, 1) := by decide +kernel
theorem dL_build_1 : decode cL_build 1 = .ok (.iload_n 1, 1) := by decide +kernel
theorem dL_build_2 : decode cL_build 2 = .ok (.iload_n 2, 1) := by decide +kernel
theorem dL_build_3 : decode cL_build 3 = .ok (.invokevirtual 7, 3) := by decide +kernel
theorem dL_build_6 : decode cL_build 6 = .ok (.goto 12, 3) := by decide +kernel
theorem dL_build_9 : decode cL_build 9 = .ok (.astore_n 3, 1) := by decide +kernel
theorem dL_build_10 : decode cL_build 10 = .ok (.iconst 1, 1) := by decide +kernel
theorem dL_build_11 : decode cL_build 11 = .ok (.ireturn, 1) := by decide +kernel
theorem dL_build_12 : decode cL_build 12 = .ok (.astore_n 3, 1) := by decide +kernel
theorem dL_build_13 : decode cL_build 13 = .ok (.iconst 2, 1) := by decide +kernel
theorem dL_build_14 : decode cL_build 14 = .ok (.ireturn, 1) := by decide +kernel
theorem dL_build_15 : decode cL_build 15 = .ok (.astore_n 3, 1) := by decide +kernel
theorem dL_build_16 : decode cL_build 16 = .ok (.iconst 3, 1) := by decide +kernel
theorem dL_build_17 : decode cL_build 17 = .ok (.ireturn, 1) := by decide +kernel
theorem dL_build_18 : decode cL_build 18 = .ok (.iconst 0, 1) := by decide +kernel
theorem dL_build_19 : decode cL_build 19 = .ok (.ireturn, 1) := by decide +kernel
set_option maxRecDepth 20000 in
theorem ggL_people_X7_people : GoodIn wsL_people wsX7_people := goodIn_ca (goodIn_ca (goodIn_ca (goodIn_r _ [8, 9, 10, 11, 7, 12, 13, 14, 15, 16, 17, 18, 19, 20, 21, 22, 23, 24, 25, 26, 27, 28, 29, 30, 31, 32, 33, 34, 35, 36, 37, 38, 39, 40, 41, 42, 43, 44, 45, 46, 47, 48, 49, 50, 51, 52, 53, 54, 55, 56, 57, 58, 59, 60, 61, 62, 63] (by decide +kernel) (by decide +kernel)) (goodIn_sub (fun _ h => List.mem_cons_of_mem _ (List.mem_append_left _ (List.mem_append_left _ (List.mem_append_right _ h)))) (by decide +kernel))) (goodIn_sub (fun _ h => List.mem_cons_of_mem _ (List.mem_append_left _ (List.mem_append_right _ h))) (by decide +kernel))) (goodIn_sub (fun _ h => List.mem_cons_of_mem _ (List.mem_append_right _ h)) (by decide +kernel))
set_option maxRecDepth 20000 in
theorem gL_people_X7_people : GoodIn wsL_people (wsV RL 19 RX7 yX7_people wsX7_people) := goodIn_app (goodIn_of _ (by decide +kernel)) ggL_people_X7_people
theorem dL_people_0 : decode cL_people 0 = .ok (.aload_n 3, 1) := by decide +kernel
theorem dL_people_1 : decode cL_people 1 = .ok (.iconst 0, 1) := by decide +kernel
theorem dL_people_2 : decode cL_people 2 = .ok (.aload_n 0, 1) := by decide +kernel
theorem dL_people_3 : decode cL_people 3 = .ok (.iload_n 1, 1) := by decide +kernel
theorem dL_people_4 : decode cL_people 4 = .ok (.iload_n 2, 1) := by decide +kernel
theorem dL_people_5 : decode cL_people 5 = .ok (.invokevirtual 19, 3) := by decide +kernel
theorem dL_people_8 : decode cL_people 8 = .ok (.i2l, 1) := by decide +kernel
theorem dL_people_9 : decode cL_people 9 = .ok (.lastore, 1) := by decide +kernel
theorem dL_people_10 : decode cL_people 10 = .ok (.goto 15, 3) := by decide +kernel
theorem dL_people_13 : decode cL_people 13 = .ok (.astore 4, 2) := by decide +kernel
theorem dL_people_15 : decode cL_people 15 = .ok (.iconst 1, 1) := by decide +kernel
theorem dL_people_16 : decode cL_people 16 = .ok (.ireturn, 1) := by decide +kernel
theorem dL_people_17 : decode cL_people 17 = .ok (.astore 4, 2) := by decide +kernel
theorem dL_people_19 : decode cL_people 19 = .ok (.iconst 2, 1) := by decide +kernel
theorem dL_people_20 : decode cL_people 20 = .ok (.ireturn, 1) := by decide +kernel
theorem dL_people_21 : decode cL_people 21 = .ok (.astore 4, 2) := by decide +kernel
theorem dL_people_23 : decode cL_people 23 = .ok (.iconst 3, 1) := by decide +kernel
theorem dL_people_24 : decode cL_people 24 = .ok (.ireturn, 1) := by decide +kernel
theorem dL_people_25 : decode cL_people 25 = .ok (.iconst 0, 1) := by decide +kernel
theorem dL_people_26 : decode cL_people 26 = .ok (.ireturn, 1) := by decide +kernel
set_option maxRecDepth 20000 in
theorem ggL_wind_X7_wind : GoodIn wsL_wind wsX7_wind := goodIn_ca (goodIn_r _ [6, 7, 8, 9, 5, 10, 11, 12, 13, 14, 15, 16, 17, 18, 19, 20, 21, 22, 23, 24, 25, 26, 27, 28, 29, 30, 31, 32, 33, 34, 35] (by decide +kernel) (by decide +kernel)) (goodIn_sub (fun _ h => List.mem_cons_of_mem _ (List.mem_append_right _ h)) (by decide +kernel))
set_option maxRecDepth 20000 in
theorem gL_wind_X7_wind : GoodIn wsL_wind (wsV RL 23 RX7 yX7_wind wsX7_wind) := goodIn_app (goodIn_of _ (by decide +kernel)) ggL_wind_X7_wind
theorem dL_wind_0 : decode cL_wind 0 = .ok (.aload_n 2, 1) := by decide +kernel
theorem dL_wind_1 : decode cL_wind 1 = .ok (.iconst 0, 1) := by decide +kernel
theorem dL_wind_2 : decode cL_wind 2 = .ok (.aload_n 0, 1) := by decide +kernel
theorem dL_wind_3 : decode cL_wind 3 = .ok (.iload_n 1, 1) := by decide +kernel
theorem dL_wind_4 : decode cL_wind 4 = .ok (.invokevirtual 23, 3) := by decide +kernel
theorem dL_wind_7 : decode cL_wind 7 = .ok (.i2l, 1) := by decide +kernel
theorem dL_wind_8 : decode cL_wind 8 = .ok (.lastore, 1) := by decide +kernel
theorem dL_wind_9 : decode cL_wind 9 = .ok (.goto 6, 3) := by decide +kernel
theorem dL_wind_12 : decode cL_wind 12 = .ok (.astore_n 3, 1) := by decide +kernel
theorem dL_wind_13 : decode cL_wind 13 = .ok (.iconst 1, 1) := by decide +kernel
theorem dL_wind_14 : decode cL_wind 14 = .ok (.ireturn, 1) := by decide +kernel
theorem dL_wind_15 : decode cL_wind 15 = .ok (.iconst 0, 1) := by decide +kernel
theorem dL_wind_16 : decode cL_wind 16 = .ok (.ireturn, 1) := by decide +kernel
set_option maxRecDepth 20000 in
theorem ggL_fire_X7_fire : GoodIn wsL_fire wsX7_fire := goodIn_ca (goodIn_ca (goodIn_ca (goodIn_r _ [8, 9, 10, 11, 7, 12, 13, 14, 15, 16, 17, 18, 19, 20, 21, 22, 23, 24, 25, 26, 27, 28, 29, 30, 31, 32, 33, 34, 35, 36, 37, 38, 39, 40, 41, 42, 43, 44, 45, 46, 47, 48, 49, 50, 51, 52, 53, 54, 55, 56, 57, 58] (by decide +kernel) (by decide +kernel)) (goodIn_sub (fun _ h => List.mem_cons_of_mem _ (List.mem_append_left _ (List.mem_append_left _ (List.mem_append_right _ h)))) (by decide +kernel))) (goodIn_sub (fun _ h => List.mem_cons_of_mem _ (List.mem_append_left _ (List.mem_append_right _ h))) (by decide +kernel))) (goodIn_sub (fun _ h => List.mem_cons_of_mem _ (List.mem_append_right _ h)) (by decide +kernel))
set_option maxRecDepth 20000 in
theorem gL_fire_X7_fire : GoodIn wsL_fire (wsV RL 27 RX7 yX7_fire wsX7_fire) := goodIn_app (goodIn_of _ (by decide +kernel)) ggL_fire_X7_fire
theorem dL_fire_0 : decode cL_fire 0 = .ok (.aload_n 0, 1) := by decide +kernel
theorem dL_fire_1 : decode cL_fire 1 = .ok (.iload_n 1, 1) := by decide +kernel
theorem dL_fire_2 : decode cL_fire 2 = .ok (.iload_n 2, 1) := by decide +kernel
theorem dL_fire_3 : decode cL_fire 3 = .ok (.invokevirtual 27, 3) := by decide +kernel
theorem dL_fire_6 : decode cL_fire 6 = .ok (.goto 12, 3) := by decide +kernel
theorem dL_fire_9 : decode cL_fire 9 = .ok (.astore_n 3, 1) := by decide +kernel
theorem dL_fire_10 : decode cL_fire 10 = .ok (.iconst 1, 1) := by decide +kernel
theorem dL_fire_11 : decode cL_fire 11 = .ok (.ireturn, 1) := by decide +kernel
theorem dL_fire_12 : decode cL_fire 12 = .ok (.astore_n 3, 1) := by decide +kernel
theorem dL_fire_13 : decode cL_fire 13 = .ok (.iconst 2, 1) := by decide +kernel
theorem dL_fire_14 : decode cL_fire 14 = .ok (.ireturn, 1) := by decide +kernel
theorem dL_fire_15 : decode cL_fire 15 = .ok (.astore_n 3, 1) := by decide +kernel
theorem dL_fire_16 : decode cL_fire 16 = .ok (.iconst 3, 1) := by decide +kernel
theorem dL_fire_17 : decode cL_fire 17 = .ok (.ireturn, 1) := by decide +kernel
theorem dL_fire_18 : decode cL_fire 18 = .ok (.iconst 0, 1) := by decide +kernel
theorem dL_fire_19 : decode cL_fire 19 = .ok (.ireturn, 1) := by decide +kernel
set_option maxRecDepth 20000 in
theorem ggL_feed_X7_feed : GoodIn wsL_feed wsX7_feed := goodIn_ca (goodIn_r _ [6, 7, 8, 9, 5, 10, 11, 12, 13, 14, 15, 16, 17, 18, 19, 20, 21, 22, 23, 24, 25, 26, 27, 28, 29, 30] (by decide +kernel) (by decide +kernel)) (goodIn_sub (fun _ h => List.mem_cons_of_mem _ (List.mem_append_right _ h)) (by decide +kernel))
set_option maxRecDepth 20000 in
theorem gL_feed_X7_feed : GoodIn wsL_feed (wsV RL 30 RX7 yX7_feed wsX7_feed) := goodIn_app (goodIn_of _ (by decide +kernel)) ggL_feed_X7_feed
theorem dL_feed_0 : decode cL_feed 0 = .ok (.aload_n 3, 1) := by decide +kernel
theorem dL_feed_1 : decode cL_feed 1 = .ok (.iconst 0, 1) := by decide +kernel
theorem dL_feed_2 : decode cL_feed 2 = .ok (.aload_n 0, 1) := by decide +kernel
theorem dL_feed_3 : decode cL_feed 3 = .ok (.iload_n 1, 1) := by decide +kernel
theorem dL_feed_4 : decode cL_feed 4 = .ok (.iload_n 2, 1) := by decide +kernel
theorem dL_feed_5 : decode cL_feed 5 = .ok (.invokevirtual 30, 3) := by decide +kernel
theorem dL_feed_8 : decode cL_feed 8 = .ok (.ifCond .eq 7, 3) := by decide +kernel
theorem dL_feed_11 : decode cL_feed 11 = .ok (.lconst 1, 1) := by decide +kernel
theorem dL_feed_12 : decode cL_feed 12 = .ok (.goto 4, 3) := by decide +kernel
theorem dL_feed_15 : decode cL_feed 15 = .ok (.lconst 0, 1) := by decide +kernel
theorem dL_feed_16 : decode cL_feed 16 = .ok (.lastore, 1) := by decide +kernel
theorem dL_feed_17 : decode cL_feed 17 = .ok (.goto 7, 3) := by decide +kernel
theorem dL_feed_20 : decode cL_feed 20 = .ok (.astore 4, 2) := by decide +kernel
theorem dL_feed_22 : decode cL_feed 22 = .ok (.iconst 1, 1) := by decide +kernel
theorem dL_feed_23 : decode cL_feed 23 = .ok (.ireturn, 1) := by decide +kernel
theorem dL_feed_24 : decode cL_feed 24 = .ok (.iconst 0, 1) := by decide +kernel
theorem dL_feed_25 : decode cL_feed 25 = .ok (.ireturn, 1) := by decide +kernel
set_option maxRecDepth 20000 in
theorem ggL_failFan_X7_failFan : GoodIn wsL_failFan wsX7_failFan := goodIn_ca (goodIn_r _ [6, 7, 8, 9, 5, 10, 11, 12, 13, 14, 15, 16, 17, 18, 19, 20, 21, 22, 23, 24, 25, 26, 27, 28, 29, 30, 31, 32, 33, 34, 35, 36, 37, 38, 39, 40, 41, 42, 43] (by decide +kernel) (by decide +kernel)) (goodIn_sub (fun _ h => List.mem_cons_of_mem _ (List.mem_append_right _ h)) (by decide +kernel))
set_option maxRecDepth 20000 in
theorem gL_failFan_X7_failFan : GoodIn wsL_failFan (wsV RL 34 RX7 yX7_failFan wsX7_failFan) := goodIn_app (goodIn_of _ (by decide +kernel)) ggL_failFan_X7_failFan
theorem dL_failFan_0 : decode cL_failFan 0 = .ok (.aload_n 3, 1) := by decide +kernel
theorem dL_failFan_1 : decode cL_failFan 1 = .ok (.iconst 0, 1) := by decide +kernel
theorem dL_failFan_2 : decode cL_failFan 2 = .ok (.aload_n 0, 1) := by decide +kernel
theorem dL_failFan_3 : decode cL_failFan 3 = .ok (.iload_n 1, 1) := by decide +kernel
theorem dL_failFan_4 : decode cL_failFan 4 = .ok (.iload_n 2, 1) := by decide +kernel
theorem dL_failFan_5 : decode cL_failFan 5 = .ok (.invokevirtual 34, 3) := by decide +kernel
theorem dL_failFan_8 : decode cL_failFan 8 = .ok (.i2l, 1) := by decide +kernel
theorem dL_failFan_9 : decode cL_failFan 9 = .ok (.lastore, 1) := by decide +kernel
theorem dL_failFan_10 : decode cL_failFan 10 = .ok (.goto 7, 3) := by decide +kernel
theorem dL_failFan_13 : decode cL_failFan 13 = .ok (.astore 4, 2) := by decide +kernel
theorem dL_failFan_15 : decode cL_failFan 15 = .ok (.iconst 1, 1) := by decide +kernel
theorem dL_failFan_16 : decode cL_failFan 16 = .ok (.ireturn, 1) := by decide +kernel
theorem dL_failFan_17 : decode cL_failFan 17 = .ok (.iconst 0, 1) := by decide +kernel
theorem dL_failFan_18 : decode cL_failFan 18 = .ok (.ireturn, 1) := by decide +kernel
set_option maxRecDepth 20000 in
theorem ggL_failDoor_X7_failDoor : GoodIn wsL_failDoor wsX7_failDoor := goodIn_ca (goodIn_r _ [6, 7, 8, 9, 10, 5, 11, 12, 13, 14, 15, 16, 17, 18, 19, 20, 21, 22, 23, 24, 25, 26, 27, 28, 29, 30, 31, 32, 33, 34, 35, 36, 37, 38, 39, 40, 41, 42, 43, 44, 45, 46, 47, 48] (by decide +kernel) (by decide +kernel)) (goodIn_sub (fun _ h => List.mem_cons_of_mem _ (List.mem_append_right _ h)) (by decide +kernel))
set_option maxRecDepth 20000 in
theorem gL_failDoor_X7_failDoor : GoodIn wsL_failDoor (wsV RL 38 RX7 yX7_failDoor wsX7_failDoor) := goodIn_app (goodIn_of _ (by decide +kernel)) ggL_failDoor_X7_failDoor
theorem dL_failDoor_0 : decode cL_failDoor 0 = .ok (.aload_n 3, 1) := by decide +kernel
theorem dL_failDoor_1 : decode cL_failDoor 1 = .ok (.iconst 0, 1) := by decide +kernel
theorem dL_failDoor_2 : decode cL_failDoor 2 = .ok (.aload_n 0, 1) := by decide +kernel
theorem dL_failDoor_3 : decode cL_failDoor 3 = .ok (.iload_n 1, 1) := by decide +kernel
theorem dL_failDoor_4 : decode cL_failDoor 4 = .ok (.iload_n 2, 1) := by decide +kernel
theorem dL_failDoor_5 : decode cL_failDoor 5 = .ok (.invokevirtual 38, 3) := by decide +kernel
theorem dL_failDoor_8 : decode cL_failDoor 8 = .ok (.ifCond .eq 7, 3) := by decide +kernel
theorem dL_failDoor_11 : decode cL_failDoor 11 = .ok (.lconst 1, 1) := by decide +kernel
theorem dL_failDoor_12 : decode cL_failDoor 12 = .ok (.goto 4, 3) := by decide +kernel
theorem dL_failDoor_15 : decode cL_failDoor 15 = .ok (.lconst 0, 1) := by decide +kernel
theorem dL_failDoor_16 : decode cL_failDoor 16 = .ok (.lastore, 1) := by decide +kernel
theorem dL_failDoor_17 : decode cL_failDoor 17 = .ok (.goto 7, 3) := by decide +kernel
theorem dL_failDoor_20 : decode cL_failDoor 20 = .ok (.astore 4, 2) := by decide +kernel
theorem dL_failDoor_22 : decode cL_failDoor 22 = .ok (.iconst 1, 1) := by decide +kernel
theorem dL_failDoor_23 : decode cL_failDoor 23 = .ok (.ireturn, 1) := by decide +kernel
theorem dL_failDoor_24 : decode cL_failDoor 24 = .ok (.iconst 0, 1) := by decide +kernel
theorem dL_failDoor_25 : decode cL_failDoor 25 = .ok (.ireturn, 1) := by decide +kernel
set_option maxRecDepth 20000 in
theorem ggL_failDetector_X7_failDetector : GoodIn wsL_failDetector wsX7_failDetector := goodIn_ca (goodIn_r _ [6, 7, 8, 9, 5, 10, 11, 12, 13, 14, 15, 16, 17, 18, 19, 20, 21, 22, 23, 24, 25, 26, 27, 28, 29] (by decide +kernel) (by decide +kernel)) (goodIn_sub (fun _ h => List.mem_cons_of_mem _ (List.mem_append_right _ h)) (by decide +kernel))
set_option maxRecDepth 20000 in
theorem gL_failDetector_X7_failDetector : GoodIn wsL_failDetector (wsV RL 41 RX7 yX7_failDetector wsX7_failDetector) := goodIn_app (goodIn_of _ (by decide +kernel)) ggL_failDetector_X7_failDetector
theorem dL_failDetector_0 : decode cL_failDetector 0 = .ok (.aload_n 0, 1) := by decide +kernel
theorem dL_failDetector_1 : decode cL_failDetector 1 = .ok (.iload_n 1, 1) := by decide +kernel
theorem dL_failDetector_2 : decode cL_failDetector 2 = .ok (.iload_n 2, 1) := by decide +kernel
theorem dL_failDetector_3 : decode cL_failDetector 3 = .ok (.iload_n 3, 1) := by decide +kernel
theorem dL_failDetector_4 : decode cL_failDetector 4 = .ok (.invokevirtual 41, 3) := by decide +kernel
theorem dL_failDetector_7 : decode cL_failDetector 7 = .ok (.goto 7, 3) := by decide +kernel
theorem dL_failDetector_10 : decode cL_failDetector 10 = .ok (.astore 4, 2) := by decide +kernel
theorem dL_failDetector_12 : decode cL_failDetector 12 = .ok (.iconst 1, 1) := by decide +kernel
theorem dL_failDetector_13 : decode cL_failDetector 13 = .ok (.ireturn, 1) := by decide +kernel
theorem dL_failDetector_14 : decode cL_failDetector 14 = .ok (.iconst 0, 1) := by decide +kernel
theorem dL_failDetector_15 : decode cL_failDetector 15 = .ok (.ireturn, 1) := by decide +kernel
set_option maxRecDepth 20000 in
theorem ggL_act_X7_act : GoodIn wsL_act wsX7_act := goodIn_ca (goodIn_ca (goodIn_r _ [7, 8, 9, 10, 11, 6, 12, 13, 14, 15, 16, 17, 18, 19, 20, 21, 22, 23, 24, 25, 26, 27, 28, 29, 30, 31, 32, 33, 34, 35, 36, 37, 38, 39, 40, 41, 42, 43, 44, 45, 46, 47, 48, 49, 50, 51, 52, 53] (by decide +kernel) (by decide +kernel)) (goodIn_sub (fun _ h => List.mem_cons_of_mem _ (List.mem_append_left _ (List.mem_append_right _ h))) (by decide +kernel))) (goodIn_sub (fun _ h => List.mem_cons_of_mem _ (List.mem_append_right _ h)) (by decide +kernel))
set_option maxRecDepth 20000 in
theorem gL_act_X7_act : GoodIn wsL_act (wsV RL 45 RX7 yX7_act wsX7_act) := goodIn_app (goodIn_of _ (by decide +kernel)) ggL_act_X7_act
theorem dL_act_0 : decode cL_act 0 = .ok (.aload 4, 2) := by decide +kernel
theorem dL_act_2 : decode cL_act 2 = .ok (.iconst 0, 1) := by decide +kernel
theorem dL_act_3 : decode cL_act 3 = .ok (.aload_n 0, 1) := by decide +kernel
theorem dL_act_4 : decode cL_act 4 = .ok (.iload_n 1, 1) := by decide +kernel
theorem dL_act_5 : decode cL_act 5 = .ok (.iload_n 2, 1) := by decide +kernel
theorem dL_act_6 : decode cL_act 6 = .ok (.iload_n 3, 1) := by decide +kernel
theorem dL_act_7 : decode cL_act 7 = .ok (.invokevirtual 45, 3) := by decide +kernel
theorem dL_act_10 : decode cL_act 10 = .ok (.i2l, 1) := by decide +kernel
theorem dL_act_11 : decode cL_act 11 = .ok (.lastore, 1) := by decide +kernel
theorem dL_act_12 : decode cL_act 12 = .ok (.goto 11, 3) := by decide +kernel
theorem dL_act_15 : decode cL_act 15 = .ok (.astore 5, 2) := by decide +kernel
theorem dL_act_17 : decode cL_act 17 = .ok (.iconst 1, 1) := by decide +kernel
theorem dL_act_18 : decode cL_act 18 = .ok (.ireturn, 1) := by decide +kernel
theorem dL_act_19 : decode cL_act 19 = .ok (.astore 5, 2) := by decide +kernel
theorem dL_act_21 : decode cL_act 21 = .ok (.iconst 2, 1) := by decide +kernel
theorem dL_act_22 : decode cL_act 22 = .ok (.ireturn, 1) := by decide +kernel
theorem dL_act_23 : decode cL_act 23 = .ok (.iconst 0, 1) := by decide +kernel
theorem dL_act_24 : decode cL_act 24 = .ok (.ireturn, 1) := by decide +kernel
set_option maxRecDepth 20000 in
theorem ggL_command_X7_command : GoodIn wsL_command wsX7_command := goodIn_ca (goodIn_ca (goodIn_r _ [7, 8, 9, 10, 6, 11, 12, 13, 14, 15, 16, 17, 18, 19, 20, 21, 22, 23, 24, 25, 26, 27, 28, 29, 30, 31, 32, 33, 34, 35, 36, 37, 38, 39, 40, 41, 42, 43, 44] (by decide +kernel) (by decide +kernel)) (goodIn_sub (fun _ h => List.mem_cons_of_mem _ (List.mem_append_left _ (List.mem_append_right _ h))) (by decide +kernel))) (goodIn_sub (fun _ h => List.mem_cons_of_mem _ (List.mem_append_right _ h)) (by decide +kernel))
set_option maxRecDepth 20000 in
theorem gL_command_X7_command : GoodIn wsL_command (wsV RL 49 RX7 yX7_command wsX7_command) := goodIn_app (goodIn_of _ (by decide +kernel)) ggL_command_X7_command
theorem dL_command_0 : decode cL_command 0 = .ok (.aload_n 3, 1) := by decide +kernel
theorem dL_command_1 : decode cL_command 1 = .ok (.iconst 0, 1) := by decide +kernel
theorem dL_command_2 : decode cL_command 2 = .ok (.aload_n 0, 1) := by decide +kernel
theorem dL_command_3 : decode cL_command 3 = .ok (.iload_n 1, 1) := by decide +kernel
theorem dL_command_4 : decode cL_command 4 = .ok (.iload_n 2, 1) := by decide +kernel
theorem dL_command_5 : decode cL_command 5 = .ok (.invokevirtual 49, 3) := by decide +kernel
theorem dL_command_8 : decode cL_command 8 = .ok (.i2l, 1) := by decide +kernel
theorem dL_command_9 : decode cL_command 9 = .ok (.lastore, 1) := by decide +kernel
theorem dL_command_10 : decode cL_command 10 = .ok (.goto 11, 3) := by decide +kernel
theorem dL_command_13 : decode cL_command 13 = .ok (.astore 4, 2) := by decide +kernel
theorem dL_command_15 : decode cL_command 15 = .ok (.iconst 1, 1) := by decide +kernel
theorem dL_command_16 : decode cL_command 16 = .ok (.ireturn, 1) := by decide +kernel
theorem dL_command_17 : decode cL_command 17 = .ok (.astore 4, 2) := by decide +kernel
theorem dL_command_19 : decode cL_command 19 = .ok (.iconst 2, 1) := by decide +kernel
theorem dL_command_20 : decode cL_command 20 = .ok (.ireturn, 1) := by decide +kernel
theorem dL_command_21 : decode cL_command 21 = .ok (.iconst 0, 1) := by decide +kernel
theorem dL_command_22 : decode cL_command 22 = .ok (.ireturn, 1) := by decide +kernel
set_option maxRecDepth 20000 in
theorem ggL_step_X7_step : GoodIn wsL_step wsX7_step := goodIn_ca (goodIn_r _ [6, 7, 8, 9, 5, 10, 11, 12, 13, 14, 15, 16, 17, 18, 19, 20, 21, 22, 23, 24, 25, 26, 27, 28, 29, 30, 31, 32, 33, 34, 35, 36, 37, 38, 39, 40, 41, 42, 43, 44, 45, 46, 47, 48, 49, 50, 51, 52, 53, 54, 55, 56, 57, 58, 59, 60, 61, 62, 63, 64, 65, 66, 67, 68, 69, 70, 71, 72, 73, 74, 75, 76, 77, 78, 79, 80, 81, 82, 83, 84, 85, 86, 87, 88, 89, 90, 91, 92, 93, 94, 95, 96, 97, 98, 99, 100, 101, 102, 103, 104, 105, 106, 107, 108, 109, 110, 111, 112, 113, 114, 115, 116, 117, 118, 119, 120, 121, 122, 123, 124, 125, 126, 127, 128, 129, 130, 131, 132, 133, 134, 135, 136, 137, 138, 139, 140, 141, 142, 143, 144, 145, 146, 147, 148, 149, 150, 151, 152, 153, 154, 155, 156, 157, 158, 159, 160, 161, 162, 163, 164, 165, 166, 167, 168, 169, 170, 171, 172, 173, 174, 175, 176, 177, 178, 179, 180, 181, 182, 183, 184, 185, 186, 187, 188, 189, 190, 191, 192, 193, 194, 195, 196, 197, 198, 199, 200, 201, 202, 203, 204, 205, 206, 207, 208, 209, 210, 211, 212, 213, 214, 215, 216, 217, 218, 219, 220, 221, 222, 223, 224, 225, 226, 227, 228, 229, 230, 231, 232, 233, 234, 235, 236, 237, 238, 239, 240, 241, 242, 243, 244, 245, 246, 247, 248, 249, 250, 251, 252, 253, 254, 255, 256, 257, 258, 259, 260, 261, 262, 263, 264, 265, 266, 267, 268, 269, 270, 271, 272, 273, 274, 275, 276, 277, 278, 279, 280, 281, 282, 283, 284, 285, 286, 287, 288, 289, 290, 291, 292, 293] (by decide +kernel) (by decide +kernel)) (goodIn_sub (fun _ h => List.mem_cons_of_mem _ (List.mem_append_right _ h)) (by decide +kernel))
set_option maxRecDepth 20000 in
theorem gL_step_X7_step : GoodIn wsL_step (wsV RL 52 RX7 yX7_step wsX7_step) := goodIn_app (goodIn_of _ (by decide +kernel)) ggL_step_X7_step
theorem dL_step_0 : decode cL_step 0 = .ok (.aload_n 2, 1) := by decide +kernel
theorem dL_step_1 : decode cL_step 1 = .ok (.iconst 0, 1) := by decide +kernel
theorem dL_step_2 : decode cL_step 2 = .ok (.aload_n 0, 1) := by decide +kernel
theorem dL_step_3 : decode cL_step 3 = .ok (.iload_n 1, 1) := by decide +kernel
theorem dL_step_4 : decode cL_step 4 = .ok (.invokevirtual 52, 3) := by decide +kernel
theorem dL_step_7 : decode cL_step 7 = .ok (.i2l, 1) := by decide +kernel
theorem dL_step_8 : decode cL_step 8 = .ok (.lastore, 1) := by decide +kernel
theorem dL_step_9 : decode cL_step 9 = .ok (.goto 6, 3) := by decide +kernel
theorem dL_step_12 : decode cL_step 12 = .ok (.astore_n 3, 1) := by decide +kernel
theorem dL_step_13 : decode cL_step 13 = .ok (.iconst 1, 1) := by decide +kernel
theorem dL_step_14 : decode cL_step 14 = .ok (.ireturn, 1) := by decide +kernel
theorem dL_step_15 : decode cL_step 15 = .ok (.iconst 0, 1) := by decide +kernel
theorem dL_step_16 : decode cL_step 16 = .ok (.ireturn, 1) := by decide +kernel
set_option maxRecDepth 20000 in
theorem ggL_segment_X7_segment : GoodIn wsL_segment wsX7_segment := goodIn_ca (goodIn_ca (goodIn_r _ [7, 8, 9, 10, 11, 6, 12, 13, 14, 15, 16, 17, 18, 19, 20, 21, 22, 23, 24, 25, 26, 27, 28, 29, 30, 31, 32, 33, 34, 35, 36, 37, 38, 39, 40, 41, 42, 43, 44, 45, 46, 47, 48, 49, 50, 51, 52, 53, 54, 55, 56, 57, 58, 59, 60, 61, 62, 63, 64, 65, 66, 67, 68, 69, 70, 71, 72, 73, 74, 75, 76, 77, 78, 79, 80, 81, 82, 83, 84, 85, 86, 87, 88, 89, 90, 91, 92, 93] (by decide +kernel) (by decide +kernel)) (goodIn_sub (fun _ h => List.mem_cons_of_mem _ (List.mem_append_left _ (List.mem_append_right _ h))) (by decide +kernel))) (goodIn_sub (fun _ h => List.mem_cons_of_mem _ (List.mem_append_right _ h)) (by decide +kernel))
set_option maxRecDepth 20000 in
theorem gL_segment_X7_segment : GoodIn wsL_segment (wsV RL 55 RX7 yX7_segment wsX7_segment) := goodIn_app (goodIn_of _ (by decide +kernel)) ggL_segment_X7_segment
theorem dL_segment_0 : decode cL_segment 0 = .ok (.aload_n 3, 1) := by decide +kernel
theorem dL_segment_1 : decode cL_segment 1 = .ok (.iconst 0, 1) := by decide +kernel
theorem dL_segment_2 : decode cL_segment 2 = .ok (.aload_n 0, 1) := by decide +kernel
theorem dL_segment_3 : decode cL_segment 3 = .ok (.iload_n 1, 1) := by decide +kernel
theorem dL_segment_4 : decode cL_segment 4 = .ok (.iload_n 2, 1) := by decide +kernel
theorem dL_segment_5 : decode cL_segment 5 = .ok (.invokevirtual 55, 3) := by decide +kernel
theorem dL_segment_8 : decode cL_segment 8 = .ok (.i2l, 1) := by decide +kernel
theorem dL_segment_9 : decode cL_segment 9 = .ok (.lastore, 1) := by decide +kernel
theorem dL_segment_10 : decode cL_segment 10 = .ok (.goto 11, 3) := by decide +kernel
theorem dL_segment_13 : decode cL_segment 13 = .ok (.astore 4, 2) := by decide +kernel
theorem dL_segment_15 : decode cL_segment 15 = .ok (.iconst 1, 1) := by decide +kernel
theorem dL_segment_16 : decode cL_segment 16 = .ok (.ireturn, 1) := by decide +kernel
theorem dL_segment_17 : decode cL_segment 17 = .ok (.astore 4, 2) := by decide +kernel
theorem dL_segment_19 : decode cL_segment 19 = .ok (.iconst 2, 1) := by decide +kernel
theorem dL_segment_20 : decode cL_segment 20 = .ok (.ireturn, 1) := by decide +kernel
theorem dL_segment_21 : decode cL_segment 21 = .ok (.iconst 0, 1) := by decide +kernel
theorem dL_segment_22 : decode cL_segment 22 = .ok (.ireturn, 1) := by decide +kernel
set_option maxRecDepth 20000 in
theorem ggL_fan_X7_fan : GoodIn wsL_fan wsX7_fan := goodIn_ca (goodIn_r _ [6, 7, 8, 9, 5, 10, 11, 12, 13, 14, 15, 16, 17, 18, 19, 20, 21, 22, 23, 24, 25, 26, 27, 28, 29, 30, 31, 32, 33, 34, 35, 36, 37, 38] (by decide +kernel) (by decide +kernel)) (goodIn_sub (fun _ h => List.mem_cons_of_mem _ (List.mem_append_right _ h)) (by decide +kernel))
set_option maxRecDepth 20000 in
theorem gL_fan_X7_fan : GoodIn wsL_fan (wsV RL 58 RX7 yX7_fan wsX7_fan) := goodIn_app (goodIn_of _ (by decide +kernel)) ggL_fan_X7_fan
theorem dL_fan_0 : decode cL_fan 0 = .ok (.aload_n 2, 1) := by decide +kernel
theorem dL_fan_1 : decode cL_fan 1 = .ok (.iconst 0, 1) := by decide +kernel
theorem dL_fan_2 : decode cL_fan 2 = .ok (.aload_n 0, 1) := by decide +kernel
theorem dL_fan_3 : decode cL_fan 3 = .ok (.iload_n 1, 1) := by decide +kernel
theorem dL_fan_4 : decode cL_fan 4 = .ok (.invokevirtual 58, 3) := by decide +kernel
theorem dL_fan_7 : decode cL_fan 7 = .ok (.i2l, 1) := by decide +kernel
theorem dL_fan_8 : decode cL_fan 8 = .ok (.lastore, 1) := by decide +kernel
theorem dL_fan_9 : decode cL_fan 9 = .ok (.goto 6, 3) := by decide +kernel
theorem dL_fan_12 : decode cL_fan 12 = .ok (.astore_n 3, 1) := by decide +kernel
theorem dL_fan_13 : decode cL_fan 13 = .ok (.iconst 1, 1) := by decide +kernel
theorem dL_fan_14 : decode cL_fan 14 = .ok (.ireturn, 1) := by decide +kernel
theorem dL_fan_15 : decode cL_fan 15 = .ok (.iconst 0, 1) := by decide +kernel
theorem dL_fan_16 : decode cL_fan 16 = .ok (.ireturn, 1) := by decide +kernel
set_option maxRecDepth 20000 in
theorem ggL_done_X7_done : GoodIn wsL_done wsX7_done := goodIn_ca (goodIn_r _ [6, 7, 8, 9, 10, 11, 12, 13, 14, 15, 5, 16, 17, 18, 19, 20, 21, 22, 23, 24, 25, 26, 27, 28, 29, 30, 31, 32, 33, 34, 35, 36, 37, 38, 39, 40, 41, 42, 43, 44, 45, 46, 47] (by decide +kernel) (by decide +kernel)) (goodIn_sub (fun _ h => List.mem_cons_of_mem _ (List.mem_append_right _ h)) (by decide +kernel))
set_option maxRecDepth 20000 in
theorem gL_done_X7_done : GoodIn wsL_done (wsV RL 61 RX7 yX7_done wsX7_done) := goodIn_app (goodIn_of _ (by decide +kernel)) ggL_done_X7_done
theorem dL_done_0 : decode cL_done 0 = .ok (.aload_n 2, 1) := by decide +kernel
theorem dL_done_1 : decode cL_done 1 = .ok (.iconst 0, 1) := by decide +kernel
theorem dL_done_2 : decode cL_done 2 = .ok (.aload_n 0, 1) := by decide +kernel
theorem dL_done_3 : decode cL_done 3 = .ok (.iload_n 1, 1) := by decide +kernel
theorem dL_done_4 : decode cL_done 4 = .ok (.invokevirtual 61, 3) := by decide +kernel
theorem dL_done_7 : decode cL_done 7 = .ok (.i2l, 1) := by decide +kernel
theorem dL_done_8 : decode cL_done 8 = .ok (.lastore, 1) := by decide +kernel
theorem dL_done_9 : decode cL_done 9 = .ok (.goto 6, 3) := by decide +kernel
theorem dL_done_12 : decode cL_done 12 = .ok (.astore_n 3, 1) := by decide +kernel
theorem dL_done_13 : decode cL_done 13 = .ok (.iconst 1, 1) := by decide +kernel
theorem dL_done_14 : decode cL_done 14 = .ok (.ireturn, 1) := by decide +kernel
theorem dL_done_15 : decode cL_done 15 = .ok (.iconst 0, 1) := by decide +kernel
theorem dL_done_16 : decode cL_done 16 = .ok (.ireturn, 1) := by decide +kernel
set_option maxRecDepth 20000 in
theorem ggL_person_X7_person : GoodIn wsL_person wsX7_person := goodIn_ca (goodIn_ca (goodIn_r _ [7, 8, 9, 10, 11, 12, 13, 14, 15, 16, 6, 17, 18, 19, 20, 21, 22, 23, 24, 25, 26, 27, 28, 29, 30, 31, 32, 33, 34, 35, 36, 37, 38, 39, 40, 41, 42, 43, 44, 45, 46, 47, 48, 49, 50, 51, 52, 53, 54, 55, 56, 57, 58, 59, 60, 61, 62] (by decide +kernel) (by decide +kernel)) (goodIn_sub (fun _ h => List.mem_cons_of_mem _ (List.mem_append_left _ (List.mem_append_right _ h))) (by decide +kernel))) (goodIn_sub (fun _ h => List.mem_cons_of_mem _ (List.mem_append_right _ h)) (by decide +kernel))
set_option maxRecDepth 20000 in
theorem gL_person_X7_person : GoodIn wsL_person (wsV RL 64 RX7 yX7_person wsX7_person) := goodIn_app (goodIn_of _ (by decide +kernel)) ggL_person_X7_person
theorem dL_person_0 : decode cL_person 0 = .ok (.aload_n 3, 1) := by decide +kernel
theorem dL_person_1 : decode cL_person 1 = .ok (.iconst 0, 1) := by decide +kernel
theorem dL_person_2 : decode cL_person 2 = .ok (.aload_n 0, 1) := by decide +kernel
theorem dL_person_3 : decode cL_person 3 = .ok (.iload_n 1, 1) := by decide +kernel
theorem dL_person_4 : decode cL_person 4 = .ok (.iload_n 2, 1) := by decide +kernel
theorem dL_person_5 : decode cL_person 5 = .ok (.invokevirtual 64, 3) := by decide +kernel
theorem dL_person_8 : decode cL_person 8 = .ok (.i2l, 1) := by decide +kernel
theorem dL_person_9 : decode cL_person 9 = .ok (.lastore, 1) := by decide +kernel
theorem dL_person_10 : decode cL_person 10 = .ok (.goto 11, 3) := by decide +kernel
theorem dL_person_13 : decode cL_person 13 = .ok (.astore 4, 2) := by decide +kernel
theorem dL_person_15 : decode cL_person 15 = .ok (.iconst 1, 1) := by decide +kernel
theorem dL_person_16 : decode cL_person 16 = .ok (.ireturn, 1) := by decide +kernel
theorem dL_person_17 : decode cL_person 17 = .ok (.astore 4, 2) := by decide +kernel
theorem dL_person_19 : decode cL_person 19 = .ok (.iconst 2, 1) := by decide +kernel
theorem dL_person_20 : decode cL_person 20 = .ok (.ireturn, 1) := by decide +kernel
theorem dL_person_21 : decode cL_person 21 = .ok (.iconst 0, 1) := by decide +kernel
theorem dL_person_22 : decode cL_person 22 = .ok (.ireturn, 1) := by decide +kernel
set_option maxRecDepth 20000 in
theorem ggL_count_X7_count : GoodIn wsL_count wsX7_count := goodIn_ca (goodIn_r _ [6, 7, 8, 9, 5, 10, 11, 12, 13, 14, 15, 16, 17, 18, 19, 20, 21, 22, 23, 24, 25, 26, 27, 28, 29, 30, 31, 32, 33, 34, 35, 36, 37, 38] (by decide +kernel) (by decide +kernel)) (goodIn_sub (fun _ h => List.mem_cons_of_mem _ (List.mem_append_right _ h)) (by decide +kernel))
set_option maxRecDepth 20000 in
theorem gL_count_X7_count : GoodIn wsL_count (wsV RL 67 RX7 yX7_count wsX7_count) := goodIn_app (goodIn_of _ (by decide +kernel)) ggL_count_X7_count
theorem dL_count_0 : decode cL_count 0 = .ok (.aload_n 2, 1) := by decide +kernel
theorem dL_count_1 : decode cL_count 1 = .ok (.iconst 0, 1) := by decide +kernel
theorem dL_count_2 : decode cL_count 2 = .ok (.aload_n 0, 1) := by decide +kernel
theorem dL_count_3 : decode cL_count 3 = .ok (.iload_n 1, 1) := by decide +kernel
theorem dL_count_4 : decode cL_count 4 = .ok (.invokevirtual 67, 3) := by decide +kernel
theorem dL_count_7 : decode cL_count 7 = .ok (.i2l, 1) := by decide +kernel
theorem dL_count_8 : decode cL_count 8 = .ok (.lastore, 1) := by decide +kernel
theorem dL_count_9 : decode cL_count 9 = .ok (.goto 6, 3) := by decide +kernel
theorem dL_count_12 : decode cL_count 12 = .ok (.astore_n 3, 1) := by decide +kernel
theorem dL_count_13 : decode cL_count 13 = .ok (.iconst 1, 1) := by decide +kernel
theorem dL_count_14 : decode cL_count 14 = .ok (.ireturn, 1) := by decide +kernel
theorem dL_count_15 : decode cL_count 15 = .ok (.iconst 0, 1) := by decide +kernel
theorem dL_count_16 : decode cL_count 16 = .ok (.ireturn, 1) := by decide +kernel
set_option maxRecDepth 20000 in
theorem ggL_law_X7_init : GoodIn wsL_law wsX7_init := goodIn_r _ [9, 10, 11, 12, 13, 14, 15, 16, 17, 18, 19, 20, 21, 22, 23, 24, 25, 26, 27, 28, 29, 30, 31, 32, 33, 34, 35, 36, 37, 38, 39, 40, 41, 42, 43, 44, 45, 46, 47, 48, 49, 50, 51, 52, 53, 54, 55, 56, 57, 58, 59, 60, 61, 62, 63, 64, 65, 66, 67, 68, 69, 70, 71, 72, 73, 74, 75, 76, 77, 78, 79, 80, 81, 82, 83, 84, 85, 86, 87, 88, 89, 90, 91, 92, 93, 94, 95, 96, 97, 98, 99, 100, 810, 811, 812, 759, 760, 761, 762, 763, 764, 765, 766, 767, 768, 769, 770, 771, 772, 813, 814, 815, 816, 817, 818, 819, 820, 821, 822, 823, 824, 825, 826, 827, 828, 829, 830, 831, 832, 833, 834, 835, 836, 837, 838, 839] (by decide +kernel) (by decide +kernel)
set_option maxRecDepth 20000 in
theorem gL_law_X7_init : GoodIn wsL_law (wsX7_init) := ggL_law_X7_init
set_option maxRecDepth 20000 in
theorem ggL_law_X8_init : GoodIn wsL_law wsX8_init := goodIn_r _ [103, 104, 11, 12, 52, 105, 106, 107, 108, 41, 109, 110, 111, 112, 113, 114, 115, 116, 117, 118, 119, 120, 121, 122, 773, 774, 775, 776, 777, 778, 779, 780, 781, 782, 783, 784, 785, 786, 787, 788, 789, 790, 791, 792, 793, 794, 795, 796, 797, 798, 799, 800, 801, 802, 803, 804, 805, 806, 807, 808, 809] (by decide +kernel) (by decide +kernel)
set_option maxRecDepth 20000 in
theorem gL_law_X8_init : GoodIn wsL_law (wsX8_init) := ggL_law_X8_init
set_option maxRecDepth 20000 in
theorem ggL_law_L_build : GoodIn wsL_law wsL_build := goodIn_ca (goodIn_ca (goodIn_ca (goodIn_r _ [126, 127, 128, 129, 130, 131, 132, 2, 133, 48, 32, 44, 45, 134, 135, 136, 137, 138, 139, 140, 141, 142, 143, 144, 145, 146, 147, 148, 149, 150, 151, 152, 153, 154, 31, 155, 81, 82, 83, 759, 760, 761, 762, 763, 764, 765, 766, 767, 768, 769, 770, 771, 772, 826, 827, 828] (by decide +kernel) (by decide +kernel)) (goodIn_sub (fun _ h => List.mem_append_left _ (List.mem_append_left _ (List.mem_append_right _ h))) (by decide +kernel))) (goodIn_sub (fun _ h => List.mem_append_left _ (List.mem_append_right _ h)) (by decide +kernel))) (goodIn_sub (fun _ h => List.mem_append_right _ h) (by decide +kernel))
set_option maxRecDepth 20000 in
theorem gL_law_L_build : GoodIn wsL_law (va_wsS RL 74 yL_build wsL_build) := goodIn_app (goodIn_of _ (by decide +kernel)) ggL_law_L_build
set_option maxRecDepth 20000 in
theorem ggL_law_X8_build : GoodIn wsL_law wsX8_build := goodIn_r _ [159, 160, 161, 162, 163, 110, 164, 165, 166, 5, 167, 168, 169, 170, 171, 172, 173, 174, 175, 773, 774, 775, 776, 777, 778, 779, 780, 781, 782, 783, 784, 785, 786, 787, 788, 789, 790, 791, 792, 793, 794, 795, 796, 797, 798, 799, 800, 801, 802, 803, 804, 805, 806, 807, 808, 809] (by decide +kernel) (by decide +kernel)
set_option maxRecDepth 20000 in
theorem gL_law_X8_build : GoodIn wsL_law (wsV RL 79 RX8 yX8_build wsX8_build) := goodIn_app (goodIn_of _ (by decide +kernel)) ggL_law_X8_build
set_option maxRecDepth 20000 in
theorem ggL_law_X8_thrown : GoodIn wsL_law wsX8_thrown := goodIn_r _ [179, 175, 773, 774, 775, 776, 777, 778, 779, 780, 781, 782, 783, 784, 785, 786, 787, 788, 789, 790, 791, 792, 793, 794, 795, 796, 797, 798, 799, 800, 801, 802, 803, 804, 805, 806, 807, 808, 809] (by decide +kernel) (by decide +kernel)
set_option maxRecDepth 20000 in
theorem gL_law_X8_thrown : GoodIn wsL_law (wsV RL 80 RX8 yX8_thrown wsX8_thrown) := goodIn_app (goodIn_of _ (by decide +kernel)) ggL_law_X8_thrown
set_option maxRecDepth 20000 in
theorem ggL_law_L_people : GoodIn wsL_law wsL_people := goodIn_ca (goodIn_ca (goodIn_ca (goodIn_r _ [182, 127, 128, 129, 183, 184, 185, 2, 186, 40, 134, 135, 136, 137, 138, 139, 140, 141, 142, 143, 144, 145, 146, 187, 188, 189, 39, 190, 100, 147, 148, 149, 150, 151, 191, 192, 193, 194, 96, 97, 99, 195, 196, 197, 198, 759, 760, 761, 762, 763, 764, 765, 766, 767, 768, 769, 770, 771, 772, 835, 836, 837, 838, 839] (by decide +kernel) (by decide +kernel)) (goodIn_sub (fun _ h => List.mem_append_left _ (List.mem_append_left _ (List.mem_append_right _ h))) (by decide +kernel))) (goodIn_sub (fun _ h => List.mem_append_left _ (List.mem_append_right _ h)) (by decide +kernel))) (goodIn_sub (fun _ h => List.mem_append_right _ h) (by decide +kernel))
set_option maxRecDepth 20000 in
theorem gL_law_L_people : GoodIn wsL_law (va_wsS RL 84 yL_people wsL_people) := goodIn_app (goodIn_of _ (by decide +kernel)) ggL_law_L_people
set_option maxRecDepth 20000 in
theorem ggL_law_X8_people : GoodIn wsL_law wsX8_people := goodIn_r _ [202, 203, 120, 122, 168, 169, 5, 170, 165, 166, 167, 171, 172, 173, 174, 175, 773, 774, 775, 776, 777, 778, 779, 780, 781, 782, 783, 784, 785, 786, 787, 788, 789, 790, 791, 792, 793, 794, 795, 796, 797, 798, 799, 800, 801, 802, 803, 804, 805, 806, 807, 808, 809] (by decide +kernel) (by decide +kernel)
set_option maxRecDepth 20000 in
theorem gL_law_X8_people : GoodIn wsL_law (wsV RL 87 RX8 yX8_people wsX8_people) := goodIn_app (goodIn_of _ (by decide +kernel)) ggL_law_X8_people
set_option maxRecDepth 20000 in
theorem ggL_law_L_wind : GoodIn wsL_law wsL_wind := goodIn_ca (goodIn_r _ [206, 128, 207, 208, 209, 2, 210, 20, 142, 143, 144, 145, 146, 211, 212, 213, 19, 214, 60, 759, 760, 761, 762, 763, 764, 765, 766, 767, 768, 769, 770, 771, 772, 813, 814, 815] (by decide +kernel) (by decide +kernel)) (goodIn_sub (fun _ h => List.mem_append_left _ (List.mem_append_right _ h)) (by decide +kernel))
set_option maxRecDepth 20000 in
theorem gL_law_L_wind : GoodIn wsL_law (va_wsS RL 88 yL_wind wsL_wind) := goodIn_app (goodIn_of _ (by decide +kernel)) ggL_law_L_wind
set_option maxRecDepth 20000 in
theorem ggL_law_X8_wind : GoodIn wsL_law wsX8_wind := goodIn_r _ [218, 219, 168, 169, 5, 170, 171, 172, 173, 174, 175, 773, 774, 775, 776, 777, 778, 779, 780, 781, 782, 783, 784, 785, 786, 787, 788, 789, 790, 791, 792, 793, 794, 795, 796, 797, 798, 799, 800, 801, 802, 803, 804, 805, 806, 807, 808, 809] (by decide +kernel) (by decide +kernel)
set_option maxRecDepth 20000 in
theorem gL_law_X8_wind : GoodIn wsL_law (wsV RL 91 RX8 yX8_wind wsX8_wind) := goodIn_app (goodIn_of _ (by decide +kernel)) ggL_law_X8_wind
set_option maxRecDepth 20000 in
theorem ggL_law_L_fire : GoodIn wsL_law wsL_fire := goodIn_ca (goodIn_ca (goodIn_ca (goodIn_r _ [222, 127, 128, 129, 223, 224, 225, 2, 226, 28, 134, 135, 136, 137, 138, 139, 140, 141, 142, 143, 144, 145, 146, 227, 228, 229, 27, 230, 72, 147, 148, 149, 150, 151, 231, 232, 233, 234, 73, 759, 760, 761, 762, 763, 764, 765, 766, 767, 768, 769, 770, 771, 772, 820, 821, 822, 823, 824, 825] (by decide +kernel) (by decide +kernel)) (goodIn_sub (fun _ h => List.mem_append_left _ (List.mem_append_left _ (List.mem_append_right _ h))) (by decide +kernel))) (goodIn_sub (fun _ h => List.mem_append_left _ (List.mem_append_right _ h)) (by decide +kernel))) (goodIn_sub (fun _ h => List.mem_append_right _ h) (by decide +kernel))
set_option maxRecDepth 20000 in
theorem gL_law_L_fire : GoodIn wsL_law (va_wsS RL 92 yL_fire wsL_fire) := goodIn_app (goodIn_of _ (by decide +kernel)) ggL_law_L_fire
set_option maxRecDepth 20000 in
theorem ggL_law_X8_fire : GoodIn wsL_law wsX8_fire := goodIn_r _ [238, 113, 239, 165, 166, 5, 167, 168, 169, 170, 171, 172, 173, 174, 175, 773, 774, 775, 776, 777, 778, 779, 780, 781, 782, 783, 784, 785, 786, 787, 788, 789, 790, 791, 792, 793, 794, 795, 796, 797, 798, 799, 800, 801, 802, 803, 804, 805, 806, 807, 808, 809] (by decide +kernel) (by decide +kernel)
set_option maxRecDepth 20000 in
theorem gL_law_X8_fire : GoodIn wsL_law (wsV RL 94 RX8 yX8_fire wsX8_fire) := goodIn_app (goodIn_of _ (by decide +kernel)) ggL_law_X8_fire
set_option maxRecDepth 20000 in
theorem ggL_law_L_feed : GoodIn wsL_law wsL_feed := goodIn_ca (goodIn_r _ [242, 127, 243, 244, 245, 2, 246, 42, 137, 138, 139, 140, 141, 247, 248, 249, 250, 759, 760, 761, 762, 763, 764, 765, 766, 767, 768, 769, 770, 771, 772] (by decide +kernel) (by decide +kernel)) (goodIn_sub (fun _ h => List.mem_append_left _ (List.mem_append_left _ (List.mem_append_right _ h))) (by decide +kernel))
set_option maxRecDepth 20000 in
theorem gL_law_L_feed : GoodIn wsL_law (va_wsS RL 95 yL_feed wsL_feed) := goodIn_app (goodIn_of _ (by decide +kernel)) ggL_law_L_feed
set_option maxRecDepth 20000 in
theorem ggL_law_X8_feed : GoodIn wsL_law wsX8_feed := goodIn_r _ [254, 112, 168, 169, 5, 170, 171, 172, 173, 174, 175, 255, 256, 257, 258, 773, 774, 775, 776, 777, 778, 779, 780, 781, 782, 783, 784, 785, 786, 787, 788, 789, 790, 791, 792, 793, 794, 795, 796, 797, 798, 799, 800, 801, 802, 803, 804, 805, 806, 807, 808, 809] (by decide +kernel) (by decide +kernel)
set_option maxRecDepth 20000 in
theorem gL_law_X8_feed : GoodIn wsL_law (wsV RL 98 RX8 yX8_feed wsX8_feed) := goodIn_app (goodIn_of _ (by decide +kernel)) ggL_law_X8_feed
set_option maxRecDepth 20000 in
theorem ggL_law_L_failFan : GoodIn wsL_law wsL_failFan := goodIn_ca (goodIn_r _ [261, 127, 262, 263, 264, 2, 265, 16, 137, 138, 139, 140, 141, 266, 267, 268, 15, 269, 55, 270, 271, 272, 273, 274, 275, 276, 54, 759, 760, 761, 762, 763, 764, 765, 766, 767, 768, 769, 770, 771, 772, 810, 811, 812] (by decide +kernel) (by decide +kernel)) (goodIn_sub (fun _ h => List.mem_append_left _ (List.mem_append_left _ (List.mem_append_right _ h))) (by decide +kernel))
set_option maxRecDepth 20000 in
theorem gL_law_L_failFan : GoodIn wsL_law (va_wsS RL 99 yL_failFan wsL_failFan) := goodIn_app (goodIn_of _ (by decide +kernel)) ggL_law_L_failFan
set_option maxRecDepth 20000 in
theorem ggL_law_X8_failFan : GoodIn wsL_law wsX8_failFan := goodIn_r _ [280, 109, 108, 281, 282, 5, 283, 168, 169, 170, 171, 172, 173, 174, 175, 773, 774, 775, 776, 777, 778, 779, 780, 781, 782, 783, 784, 785, 786, 787, 788, 789, 790, 791, 792, 793, 794, 795, 796, 797, 798, 799, 800, 801, 802, 803, 804, 805, 806, 807, 808, 809] (by decide +kernel) (by decide +kernel)
set_option maxRecDepth 20000 in
theorem gL_law_X8_failFan : GoodIn wsL_law (wsV RL 101 RX8 yX8_failFan wsX8_failFan) := goodIn_app (goodIn_of _ (by decide +kernel)) ggL_law_X8_failFan
set_option maxRecDepth 20000 in
theorem ggL_law_L_failDoor : GoodIn wsL_law wsL_failDoor := goodIn_ca (goodIn_r _ [286, 127, 287, 288, 289, 2, 290, 32, 291, 292, 293, 294, 140, 141, 295, 296, 297, 31, 298, 81, 299, 300, 301, 302, 303, 304, 83, 305, 306, 307, 308, 82, 759, 760, 761, 762, 763, 764, 765, 766, 767, 768, 769, 770, 771, 772, 826, 827, 828] (by decide +kernel) (by decide +kernel)) (goodIn_sub (fun _ h => List.mem_append_left _ (List.mem_append_left _ (List.mem_append_right _ h))) (by decide +kernel))
set_option maxRecDepth 20000 in
theorem gL_law_L_failDoor : GoodIn wsL_law (va_wsS RL 102 yL_failDoor wsL_failDoor) := goodIn_app (goodIn_of _ (by decide +kernel)) ggL_law_L_failDoor
set_option maxRecDepth 20000 in
theorem ggL_law_X8_failDoor : GoodIn wsL_law wsX8_failDoor := goodIn_r _ [312, 161, 163, 162, 165, 166, 5, 167, 168, 169, 170, 313, 314, 315, 171, 172, 173, 174, 175, 773, 774, 775, 776, 777, 778, 779, 780, 781, 782, 783, 784, 785, 786, 787, 788, 789, 790, 791, 792, 793, 794, 795, 796, 797, 798, 799, 800, 801, 802, 803, 804, 805, 806, 807, 808, 809] (by decide +kernel) (by decide +kernel)
set_option maxRecDepth 20000 in
theorem gL_law_X8_failDoor : GoodIn wsL_law (wsV RL 104 RX8 yX8_failDoor wsX8_failDoor) := goodIn_app (goodIn_of _ (by decide +kernel)) ggL_law_X8_failDoor
set_option maxRecDepth 20000 in
theorem ggL_law_L_failDetector : GoodIn wsL_law wsL_failDetector := goodIn_ca (goodIn_r _ [318, 127, 319, 320, 321, 2, 322, 43, 134, 135, 136, 137, 138, 139, 140, 141, 759, 760, 761, 762, 763, 764, 765, 766, 767, 768, 769, 770, 771, 772] (by decide +kernel) (by decide +kernel)) (goodIn_sub (fun _ h => List.mem_append_left _ (List.mem_append_left _ (List.mem_append_right _ h))) (by decide +kernel))
set_option maxRecDepth 20000 in
theorem gL_law_L_failDetector : GoodIn wsL_law (va_wsS RL 105 yL_failDetector wsL_failDetector) := goodIn_app (goodIn_of _ (by decide +kernel)) ggL_law_L_failDetector
set_option maxRecDepth 20000 in
theorem ggL_law_X8_failDetector : GoodIn wsL_law wsX8_failDetector := goodIn_r _ [326, 114, 165, 166, 5, 167, 168, 169, 170, 171, 172, 173, 174, 175, 773, 774, 775, 776, 777, 778, 779, 780, 781, 782, 783, 784, 785, 786, 787, 788, 789, 790, 791, 792, 793, 794, 795, 796, 797, 798, 799, 800, 801, 802, 803, 804, 805, 806, 807, 808, 809] (by decide +kernel) (by decide +kernel)
set_option maxRecDepth 20000 in
theorem gL_law_X8_failDetector : GoodIn wsL_law (wsV RL 108 RX8 yX8_failDetector wsX8_failDetector) := goodIn_app (goodIn_of _ (by decide +kernel)) ggL_law_X8_failDetector
set_option maxRecDepth 20000 in
theorem ggL_law_L_act : GoodIn wsL_law wsL_act := goodIn_ca (goodIn_ca (goodIn_r _ [329, 128, 129, 330, 331, 332, 2, 333, 47, 36, 142, 143, 144, 145, 146, 334, 335, 336, 35, 337, 90, 147, 148, 149, 150, 151, 338, 339, 340, 341, 87, 88, 89, 342, 759, 760, 761, 762, 763, 764, 765, 766, 767, 768, 769, 770, 771, 772, 829, 830, 831, 832, 833, 834] (by decide +kernel) (by decide +kernel)) (goodIn_sub (fun _ h => List.mem_append_left _ (List.mem_append_right _ h)) (by decide +kernel))) (goodIn_sub (fun _ h => List.mem_append_right _ h) (by decide +kernel))
set_option maxRecDepth 20000 in
theorem gL_law_L_act : GoodIn wsL_law (va_wsS RL 109 yL_act wsL_act) := goodIn_app (goodIn_of _ (by decide +kernel)) ggL_law_L_act
set_option maxRecDepth 20000 in
theorem ggL_law_X8_act : GoodIn wsL_law wsX8_act := goodIn_r _ [346, 347, 115, 116, 117, 118, 168, 169, 5, 170, 171, 172, 173, 174, 175, 773, 774, 775, 776, 777, 778, 779, 780, 781, 782, 783, 784, 785, 786, 787, 788, 789, 790, 791, 792, 793, 794, 795, 796, 797, 798, 799, 800, 801, 802, 803, 804, 805, 806, 807, 808, 809] (by decide +kernel) (by decide +kernel)
set_option maxRecDepth 20000 in
theorem gL_law_X8_act : GoodIn wsL_law (wsV RL 112 RX8 yX8_act wsX8_act) := goodIn_app (goodIn_of _ (by decide +kernel)) ggL_law_X8_act
set_option maxRecDepth 20000 in
theorem ggL_law_L_command : GoodIn wsL_law wsL_command := goodIn_ca (goodIn_ca (goodIn_r _ [350, 127, 128, 351, 352, 353, 2, 354, 16, 137, 138, 139, 140, 141, 142, 143, 144, 145, 146, 355, 356, 357, 15, 358, 53, 270, 271, 272, 759, 760, 761, 762, 763, 764, 765, 766, 767, 768, 769, 770, 771, 772, 810, 811, 812] (by decide +kernel) (by decide +kernel)) (goodIn_sub (fun _ h => List.mem_append_left _ (List.mem_append_left _ (List.mem_append_right _ h))) (by decide +kernel))) (goodIn_sub (fun _ h => List.mem_append_left _ (List.mem_append_right _ h)) (by decide +kernel))
set_option maxRecDepth 20000 in
theorem gL_law_L_command : GoodIn wsL_law (va_wsS RL 113 yL_command wsL_command) := goodIn_app (goodIn_of _ (by decide +kernel)) ggL_law_L_command
set_option maxRecDepth 20000 in
theorem ggL_law_X8_command : GoodIn wsL_law wsX8_command := goodIn_r _ [362, 107, 281, 282, 5, 283, 168, 169, 170, 171, 172, 173, 174, 175, 773, 774, 775, 776, 777, 778, 779, 780, 781, 782, 783, 784, 785, 786, 787, 788, 789, 790, 791, 792, 793, 794, 795, 796, 797, 798, 799, 800, 801, 802, 803, 804, 805, 806, 807, 808, 809] (by decide +kernel) (by decide +kernel)
set_option maxRecDepth 20000 in
theorem gL_law_X8_command : GoodIn wsL_law (wsV RL 115 RX8 yX8_command wsX8_command) := goodIn_app (goodIn_of _ (by decide +kernel)) ggL_law_X8_command
set_option maxRecDepth 20000 in
theorem ggL_law_L_step : GoodIn wsL_law wsL_step := goodIn_ca (goodIn_r _ [365, 128, 366, 367, 368, 2, 369, 48, 142, 143, 144, 145, 146, 370, 371, 372, 373, 16, 20, 40, 46, 24, 32, 247, 248, 249, 250, 42, 374, 375, 376, 15, 377, 55, 54, 53, 378, 379, 380, 381, 382, 383, 384, 385, 386, 387, 388, 389, 390, 391, 19, 392, 393, 60, 61, 394, 59, 395, 396, 397, 398, 399, 400, 401, 402, 403, 404, 28, 227, 228, 229, 27, 230, 72, 405, 406, 407, 408, 409, 410, 411, 412, 73, 74, 413, 414, 415, 416, 417, 76, 75, 77, 418, 419, 420, 23, 421, 65, 66, 299, 300, 422, 423, 424, 425, 45, 44, 426, 427, 428, 429, 430, 431, 432, 433, 67, 434, 435, 436, 437, 438, 439, 440, 441, 442, 443, 68, 444, 445, 446, 447, 448, 449, 450, 451, 452, 453, 454, 455, 456, 457, 458, 459, 460, 461, 462, 463, 464, 47, 36, 465, 466, 467, 468, 469, 470, 471, 472, 473, 474, 475, 476, 477, 43, 478, 479, 480, 39, 481, 100, 97, 482, 483, 484, 35, 485, 92, 486, 487, 488, 489, 490, 491, 492, 493, 91, 88, 494, 495, 496, 497, 90, 498, 499, 500, 501, 87, 89, 502, 503, 504, 505, 506, 507, 508, 509, 510, 511, 512, 31, 513, 81, 83, 82, 514, 515, 516, 517, 518, 519, 520, 521, 522, 523, 524, 525, 96, 526, 527, 528, 529, 530, 99, 98, 531, 532, 533, 534, 535, 536, 537, 538, 539, 540, 541, 542, 543, 544, 545, 546, 759, 760, 761, 762, 763, 764, 765, 766, 767, 768, 769, 770, 771, 772, 810, 811, 812, 813, 814, 815, 820, 821, 822, 823, 824, 825, 816, 817, 818, 819, 835, 836, 837, 838, 839, 829, 830, 831, 832, 833, 834, 826, 827, 828] (by decide +kernel) (by decide +kernel)) (goodIn_sub (fun _ h => List.mem_append_left _ (List.mem_append_right _ h)) (by decide +kernel))
set_option maxRecDepth 20000 in
theorem gL_law_L_step : GoodIn wsL_law (va_wsS RL 116 yL_step wsL_step) := goodIn_app (goodIn_of _ (by decide +kernel)) ggL_law_L_step
set_option maxRecDepth 20000 in
theorem ggL_law_X8_step : GoodIn wsL_law wsX8_step := goodIn_r _ [550, 160, 168, 169, 5, 170, 171, 172, 173, 174, 175, 551, 552, 553, 554, 203, 119, 555, 556, 557, 558, 107, 109, 108, 255, 256, 257, 258, 112, 559, 560, 561, 562, 219, 563, 564, 565, 566, 567, 568, 569, 113, 570, 239, 571, 111, 105, 106, 572, 573, 574, 575, 576, 577, 164, 110, 578, 579, 580, 581, 582, 583, 584, 585, 586, 165, 166, 167, 587, 588, 589, 590, 115, 117, 591, 592, 593, 594, 595, 114, 596, 597, 598, 599, 120, 600, 601, 602, 603, 604, 347, 116, 118, 605, 606, 607, 608, 609, 162, 161, 163, 610, 611, 612, 613, 121, 614, 615, 616, 617, 122, 618, 619, 620, 621, 622, 623, 624, 625, 313, 314, 315, 773, 774, 775, 776, 777, 778, 779, 780, 781, 782, 783, 784, 785, 786, 787, 788, 789, 790, 791, 792, 793, 794, 795, 796, 797, 798, 799, 800, 801, 802, 803, 804, 805, 806, 807, 808, 809] (by decide +kernel) (by decide +kernel)
set_option maxRecDepth 20000 in
theorem gL_law_X8_step : GoodIn wsL_law (wsV RL 118 RX8 yX8_step wsX8_step) := goodIn_app (goodIn_of _ (by decide +kernel)) ggL_law_X8_step
set_option maxRecDepth 20000 in
theorem ggL_law_L_segment : GoodIn wsL_law wsL_segment := goodIn_ca (goodIn_ca (goodIn_r _ [628, 127, 128, 629, 630, 631, 2, 632, 24, 40, 134, 135, 136, 137, 138, 139, 140, 141, 142, 143, 144, 145, 146, 469, 450, 451, 23, 452, 65, 299, 300, 470, 471, 472, 473, 66, 465, 466, 467, 468, 474, 475, 476, 477, 43, 478, 479, 480, 39, 481, 100, 97, 633, 634, 635, 636, 32, 295, 296, 297, 31, 298, 81, 305, 306, 307, 308, 82, 759, 760, 761, 762, 763, 764, 765, 766, 767, 768, 769, 770, 771, 772, 816, 817, 818, 819, 835, 836, 837, 838, 839, 826, 827, 828] (by decide +kernel) (by decide +kernel)) (goodIn_sub (fun _ h => List.mem_append_left _ (List.mem_append_left _ (List.mem_append_right _ h))) (by decide +kernel))) (goodIn_sub (fun _ h => List.mem_append_left _ (List.mem_append_right _ h)) (by decide +kernel))
set_option maxRecDepth 20000 in
theorem gL_law_L_segment : GoodIn wsL_law (va_wsS RL 119 yL_segment wsL_segment) := goodIn_app (goodIn_of _ (by decide +kernel)) ggL_law_L_segment
set_option maxRecDepth 20000 in
theorem ggL_law_X8_segment : GoodIn wsL_law wsX8_segment := goodIn_r _ [640, 105, 106, 161, 162, 165, 166, 5, 167, 168, 169, 170, 171, 172, 173, 174, 175, 592, 593, 594, 595, 114, 596, 597, 598, 599, 203, 119, 120, 313, 314, 315, 773, 774, 775, 776, 777, 778, 779, 780, 781, 782, 783, 784, 785, 786, 787, 788, 789, 790, 791, 792, 793, 794, 795, 796, 797, 798, 799, 800, 801, 802, 803, 804, 805, 806, 807, 808, 809] (by decide +kernel) (by decide +kernel)
set_option maxRecDepth 20000 in
theorem gL_law_X8_segment : GoodIn wsL_law (wsV RL 121 RX8 yX8_segment wsX8_segment) := goodIn_app (goodIn_of _ (by decide +kernel)) ggL_law_X8_segment
set_option maxRecDepth 20000 in
theorem ggL_law_X7_flow : GoodIn wsL_law wsX7_flow := goodIn_r _ [644, 645, 20, 426, 427, 428, 19, 429, 59, 759, 760, 761, 762, 763, 764, 765, 766, 767, 768, 769, 770, 771, 772, 813, 814, 815] (by decide +kernel) (by decide +kernel)
set_option maxRecDepth 20000 in
theorem gL_law_X7_flow : GoodIn wsL_law (wsV RL 122 RX7 yX7_flow wsX7_flow) := goodIn_app (goodIn_of _ (by decide +kernel)) ggL_law_X7_flow
set_option maxRecDepth 20000 in
theorem ggL_law_X8_flow : GoodIn wsL_law wsX8_flow := goodIn_r _ [649, 175, 650, 564, 773, 774, 775, 776, 777, 778, 779, 780, 781, 782, 783, 784, 785, 786, 787, 788, 789, 790, 791, 792, 793, 794, 795, 796, 797, 798, 799, 800, 801, 802, 803, 804, 805, 806, 807, 808, 809] (by decide +kernel) (by decide +kernel)
set_option maxRecDepth 20000 in
theorem gL_law_X8_flow : GoodIn wsL_law (wsV RL 125 RX8 yX8_flow wsX8_flow) := goodIn_app (goodIn_of _ (by decide +kernel)) ggL_law_X8_flow
set_option maxRecDepth 20000 in
theorem ggL_law_L_fan : GoodIn wsL_law wsL_fan := goodIn_ca (goodIn_r _ [653, 127, 654, 655, 656, 2, 657, 16, 137, 138, 139, 140, 141, 273, 274, 275, 15, 276, 54, 270, 271, 272, 759, 760, 761, 762, 763, 764, 765, 766, 767, 768, 769, 770, 771, 772, 810, 811, 812] (by decide +kernel) (by decide +kernel)) (goodIn_sub (fun _ h => List.mem_append_left _ (List.mem_append_left _ (List.mem_append_right _ h))) (by decide +kernel))
set_option maxRecDepth 20000 in
theorem gL_law_L_fan : GoodIn wsL_law (va_wsS RL 126 yL_fan wsL_fan) := goodIn_app (goodIn_of _ (by decide +kernel)) ggL_law_L_fan
set_option maxRecDepth 20000 in
theorem ggL_law_X8_fan : GoodIn wsL_law wsX8_fan := goodIn_r _ [661, 108, 281, 282, 5, 283, 168, 169, 170, 171, 172, 173, 174, 175, 773, 774, 775, 776, 777, 778, 779, 780, 781, 782, 783, 784, 785, 786, 787, 788, 789, 790, 791, 792, 793, 794, 795, 796, 797, 798, 799, 800, 801, 802, 803, 804, 805, 806, 807, 808, 809] (by decide +kernel) (by decide +kernel)
set_option maxRecDepth 20000 in
theorem gL_law_X8_fan : GoodIn wsL_law (wsV RL 128 RX8 yX8_fan wsX8_fan) := goodIn_app (goodIn_of _ (by decide +kernel)) ggL_law_X8_fan
set_option maxRecDepth 20000 in
theorem ggL_law_X7_alarm : GoodIn wsL_law wsX7_alarm := goodIn_r _ [665, 47, 759, 760, 761, 762, 763, 764, 765, 766, 767, 768, 769, 770, 771, 772] (by decide +kernel) (by decide +kernel)
set_option maxRecDepth 20000 in
theorem gL_law_X7_alarm : GoodIn wsL_law (wsV RL 129 RX7 yX7_alarm wsX7_alarm) := goodIn_app (goodIn_of _ (by decide +kernel)) ggL_law_X7_alarm
set_option maxRecDepth 20000 in
theorem ggL_law_X8_alarm : GoodIn wsL_law wsX8_alarm := goodIn_r _ [669, 175, 115, 773, 774, 775, 776, 777, 778, 779, 780, 781, 782, 783, 784, 785, 786, 787, 788, 789, 790, 791, 792, 793, 794, 795, 796, 797, 798, 799, 800, 801, 802, 803, 804, 805, 806, 807, 808, 809] (by decide +kernel) (by decide +kernel)
set_option maxRecDepth 20000 in
theorem gL_law_X8_alarm : GoodIn wsL_law (wsV RL 132 RX8 yX8_alarm wsX8_alarm) := goodIn_app (goodIn_of _ (by decide +kernel)) ggL_law_X8_alarm
set_option maxRecDepth 20000 in
theorem ggL_law_L_done : GoodIn wsL_law wsL_done := goodIn_ca (goodIn_r _ [672, 127, 673, 674, 675, 2, 676, 36, 677, 678, 679, 35, 680, 90, 137, 138, 139, 140, 141, 681, 682, 683, 684, 89, 494, 495, 496, 497, 759, 760, 761, 762, 763, 764, 765, 766, 767, 768, 769, 770, 771, 772, 829, 830, 831, 832, 833, 834] (by decide +kernel) (by decide +kernel)) (goodIn_sub (fun _ h => List.mem_append_left _ (List.mem_append_left _ (List.mem_append_right _ h))) (by decide +kernel))
set_option maxRecDepth 20000 in
theorem gL_law_L_done : GoodIn wsL_law (va_wsS RL 133 yL_done wsL_done) := goodIn_app (goodIn_of _ (by decide +kernel)) ggL_law_L_done
set_option maxRecDepth 20000 in
theorem ggL_law_X8_done : GoodIn wsL_law wsX8_done := goodIn_r _ [688, 347, 118, 168, 169, 5, 170, 171, 172, 173, 174, 175, 773, 774, 775, 776, 777, 778, 779, 780, 781, 782, 783, 784, 785, 786, 787, 788, 789, 790, 791, 792, 793, 794, 795, 796, 797, 798, 799, 800, 801, 802, 803, 804, 805, 806, 807, 808, 809] (by decide +kernel) (by decide +kernel)
set_option maxRecDepth 20000 in
theorem gL_law_X8_done : GoodIn wsL_law (wsV RL 135 RX8 yX8_done wsX8_done) := goodIn_app (goodIn_of _ (by decide +kernel)) ggL_law_X8_done
set_option maxRecDepth 20000 in
theorem ggL_law_L_person : GoodIn wsL_law wsL_person := goodIn_ca (goodIn_ca (goodIn_r _ [691, 127, 128, 692, 693, 694, 2, 695, 40, 195, 196, 197, 39, 198, 100, 137, 138, 139, 140, 141, 142, 143, 144, 145, 146, 696, 697, 698, 699, 96, 531, 532, 533, 534, 700, 701, 702, 703, 97, 704, 705, 706, 707, 99, 759, 760, 761, 762, 763, 764, 765, 766, 767, 768, 769, 770, 771, 772, 835, 836, 837, 838, 839] (by decide +kernel) (by decide +kernel)) (goodIn_sub (fun _ h => List.mem_append_left _ (List.mem_append_left _ (List.mem_append_right _ h))) (by decide +kernel))) (goodIn_sub (fun _ h => List.mem_append_left _ (List.mem_append_right _ h)) (by decide +kernel))
set_option maxRecDepth 20000 in
theorem gL_law_L_person : GoodIn wsL_law (va_wsS RL 136 yL_person wsL_person) := goodIn_app (goodIn_of _ (by decide +kernel)) ggL_law_L_person
set_option maxRecDepth 20000 in
theorem ggL_law_X8_person : GoodIn wsL_law wsX8_person := goodIn_r _ [711, 203, 119, 122, 120, 168, 169, 5, 170, 171, 172, 173, 174, 175, 773, 774, 775, 776, 777, 778, 779, 780, 781, 782, 783, 784, 785, 786, 787, 788, 789, 790, 791, 792, 793, 794, 795, 796, 797, 798, 799, 800, 801, 802, 803, 804, 805, 806, 807, 808, 809] (by decide +kernel) (by decide +kernel)
set_option maxRecDepth 20000 in
theorem gL_law_X8_person : GoodIn wsL_law (wsV RL 138 RX8 yX8_person wsX8_person) := goodIn_app (goodIn_of _ (by decide +kernel)) ggL_law_X8_person
set_option maxRecDepth 20000 in
theorem ggL_law_L_count : GoodIn wsL_law wsL_count := goodIn_ca (goodIn_r _ [714, 128, 715, 716, 717, 2, 718, 40, 142, 143, 144, 145, 146, 719, 720, 721, 39, 722, 100, 96, 759, 760, 761, 762, 763, 764, 765, 766, 767, 768, 769, 770, 771, 772, 835, 836, 837, 838, 839] (by decide +kernel) (by decide +kernel)) (goodIn_sub (fun _ h => List.mem_append_left _ (List.mem_append_right _ h)) (by decide +kernel))
set_option maxRecDepth 20000 in
theorem gL_law_L_count : GoodIn wsL_law (va_wsS RL 139 yL_count wsL_count) := goodIn_app (goodIn_of _ (by decide +kernel)) ggL_law_L_count
set_option maxRecDepth 20000 in
theorem ggL_law_X8_count : GoodIn wsL_law wsX8_count := goodIn_r _ [726, 168, 169, 5, 170, 171, 172, 173, 174, 175, 727, 728, 729, 730, 203, 119, 773, 774, 775, 776, 777, 778, 779, 780, 781, 782, 783, 784, 785, 786, 787, 788, 789, 790, 791, 792, 793, 794, 795, 796, 797, 798, 799, 800, 801, 802, 803, 804, 805, 806, 807, 808, 809] (by decide +kernel) (by decide +kernel)
set_option maxRecDepth 20000 in
theorem gL_law_X8_count : GoodIn wsL_law (wsV RL 141 RX8 yX8_count wsX8_count) := goodIn_app (goodIn_of _ (by decide +kernel)) ggL_law_X8_count
set_option maxRecDepth 20000 in
theorem ggL_law_X7_gone : GoodIn wsL_law wsX7_gone := goodIn_r _ [734, 24, 735, 736, 737, 23, 738, 68, 759, 760, 761, 762, 763, 764, 765, 766, 767, 768, 769, 770, 771, 772, 816, 817, 818, 819] (by decide +kernel) (by decide +kernel)
set_option maxRecDepth 20000 in
theorem gL_law_X7_gone : GoodIn wsL_law (wsV RL 142 RX7 yX7_gone wsX7_gone) := goodIn_app (goodIn_of _ (by decide +kernel)) ggL_law_X7_gone
set_option maxRecDepth 20000 in
theorem ggL_law_X8_gone : GoodIn wsL_law wsX8_gone := goodIn_r _ [742, 175, 578, 773, 774, 775, 776, 777, 778, 779, 780, 781, 782, 783, 784, 785, 786, 787, 788, 789, 790, 791, 792, 793, 794, 795, 796, 797, 798, 799, 800, 801, 802, 803, 804, 805, 806, 807, 808, 809] (by decide +kernel) (by decide +kernel)
set_option maxRecDepth 20000 in
theorem gL_law_X8_gone : GoodIn wsL_law (wsV RL 145 RX8 yX8_gone wsX8_gone) := goodIn_app (goodIn_of _ (by decide +kernel)) ggL_law_X8_gone
set_option maxRecDepth 20000 in
theorem ggL_law_X7_balances : GoodIn wsL_law wsX7_balances := goodIn_r _ [746, 40, 24, 28, 719, 720, 721, 39, 722, 100, 96, 195, 196, 197, 198, 747, 748, 749, 23, 750, 65, 735, 736, 737, 738, 68, 751, 752, 753, 27, 754, 77, 759, 760, 761, 762, 763, 764, 765, 766, 767, 768, 769, 770, 771, 772, 835, 836, 837, 838, 839, 816, 817, 818, 819, 820, 821, 822, 823, 824, 825] (by decide +kernel) (by decide +kernel)
set_option maxRecDepth 20000 in
theorem gL_law_X7_balances : GoodIn wsL_law (wsV RL 146 RX7 yX7_balances wsX7_balances) := goodIn_app (goodIn_of _ (by decide +kernel)) ggL_law_X7_balances
set_option maxRecDepth 20000 in
theorem ggL_law_X8_balances : GoodIn wsL_law wsX8_balances := goodIn_r _ [758, 175, 578, 105, 572, 203, 727, 728, 729, 5, 730, 119, 773, 774, 775, 776, 777, 778, 779, 780, 781, 782, 783, 784, 785, 786, 787, 788, 789, 790, 791, 792, 793, 794, 795, 796, 797, 798, 799, 800, 801, 802, 803, 804, 805, 806, 807, 808, 809] (by decide +kernel) (by decide +kernel)
set_option maxRecDepth 20000 in
theorem gL_law_X8_balances : GoodIn wsL_law (wsV RL 150 RX8 yX8_balances wsX8_balances) := goodIn_app (goodIn_of _ (by decide +kernel)) ggL_law_X8_balances
theorem dL_law_0 : decode cL_law 0 = .ok (.new 8, 3) := by decide +kernel
theorem dL_law_3 : decode cL_law 3 = .ok (.dup, 1) := by decide +kernel
theorem dL_law_4 : decode cL_law 4 = .ok (.invokespecial 70, 3) := by decide +kernel
theorem dL_law_7 : decode cL_law 7 = .ok (.astore_n 1, 1) := by decide +kernel
theorem dL_law_8 : decode cL_law 8 = .ok (.new 71, 3) := by decide +kernel
theorem dL_law_11 : decode cL_law 11 = .ok (.dup, 1) := by decide +kernel
theorem dL_law_12 : decode cL_law 12 = .ok (.invokespecial 73, 3) := by decide +kernel
theorem dL_law_15 : decode cL_law 15 = .ok (.astore_n 2, 1) := by decide +kernel
theorem dL_law_16 : decode cL_law 16 = .ok (.iconst 1, 1) := by decide +kernel
theorem dL_law_17 : decode cL_law 17 = .ok (.newarray .long, 2) := by decide +kernel
theorem dL_law_19 : decode cL_law 19 = .ok (.astore_n 3, 1) := by decide +kernel
theorem dL_law_20 : decode cL_law 20 = .ok (.iconst 0, 1) := by decide +kernel
theorem dL_law_21 : decode cL_law 21 = .ok (.istore 4, 2) := by decide +kernel
theorem dL_law_23 : decode cL_law 23 = .ok (.iload 4, 2) := by decide +kernel
theorem dL_law_25 : decode cL_law 25 = .ok (.aload_n 0, 1) := by decide +kernel
theorem dL_law_26 : decode cL_law 26 = .ok (.arraylength, 1) := by decide +kernel
theorem dL_law_27 : decode cL_law 27 = .ok (.iconst 4, 1) := by decide +kernel
theorem dL_law_28 : decode cL_law 28 = .ok (.isub, 1) := by decide +kernel
theorem dL_law_29 : decode cL_law 29 = .ok (.if_icmp .gt 1247, 3) := by decide +kernel
theorem dL_law_32 : decode cL_law 32 = .ok (.aload_n 0, 1) := by decide +kernel
theorem dL_law_33 : decode cL_law 33 = .ok (.iload 4, 2) := by decide +kernel
theorem dL_law_35 : decode cL_law 35 = .ok (.iaload, 1) := by decide +kernel
theorem dL_law_36 : decode cL_law 36 = .ok (.bipush 31, 2) := by decide +kernel
theorem dL_law_38 : decode cL_law 38 = .ok (.iand, 1) := by decide +kernel
theorem dL_law_39 : decode cL_law 39 = .ok (.tableswitch 1231 0 19 #[93, 141, 209, 265, 313, 404, 488, 579, 655, 751, 819, 875, 943, 956, 1012, 1025, 1081, 1149, 1205, 1218], 93) := by decide +kernel
theorem dL_law_132 : decode cL_law 132 = .ok (.aload_n 1, 1) := by decide +kernel
theorem dL_law_133 : decode cL_law 133 = .ok (.aload_n 0, 1) := by decide +kernel
theorem dL_law_134 : decode cL_law 134 = .ok (.iload 4, 2) := by decide +kernel
theorem dL_law_136 : decode cL_law 136 = .ok (.iconst 1, 1) := by decide +kernel
theorem dL_law_137 : decode cL_law 137 = .ok (.iadd, 1) := by decide +kernel
theorem dL_law_138 : decode cL_law 138 = .ok (.iaload, 1) := by decide +kernel
theorem dL_law_139 : decode cL_law 139 = .ok (.aload_n 0, 1) := by decide +kernel
theorem dL_law_140 : decode cL_law 140 = .ok (.iload 4, 2) := by decide +kernel
theorem dL_law_142 : decode cL_law 142 = .ok (.iconst 2, 1) := by decide +kernel
theorem dL_law_143 : decode cL_law 143 = .ok (.iadd, 1) := by decide +kernel
theorem dL_law_144 : decode cL_law 144 = .ok (.iaload, 1) := by decide +kernel
theorem dL_law_145 : decode cL_law 145 = .ok (.invokestatic 74, 3) := by decide +kernel
theorem dL_law_148 : decode cL_law 148 = .ok (.istore 5, 2) := by decide +kernel
theorem dL_law_150 : decode cL_law 150 = .ok (.aload_n 2, 1) := by decide +kernel
theorem dL_law_151 : decode cL_law 151 = .ok (.aload_n 0, 1) := by decide +kernel
theorem dL_law_152 : decode cL_law 152 = .ok (.iload 4, 2) := by decide +kernel
theorem dL_law_154 : decode cL_law 154 = .ok (.iconst 1, 1) := by decide +kernel
theorem dL_law_155 : decode cL_law 155 = .ok (.iadd, 1) := by decide +kernel
theorem dL_law_156 : decode cL_law 156 = .ok (.iaload, 1) := by decide +kernel
theorem dL_law_157 : decode cL_law 157 = .ok (.aload_n 0, 1) := by decide +kernel
theorem dL_law_158 : decode cL_law 158 = .ok (.iload 4, 2) := by decide +kernel
theorem dL_law_160 : decode cL_law 160 = .ok (.iconst 2, 1) := by decide +kernel
theorem dL_law_161 : decode cL_law 161 = .ok (.iadd, 1) := by decide +kernel
theorem dL_law_162 : decode cL_law 162 = .ok (.iaload, 1) := by decide +kernel
theorem dL_law_163 : decode cL_law 163 = .ok (.invokevirtual 79, 3) := by decide +kernel
theorem dL_law_166 : decode cL_law 166 = .ok (.aload_n 2, 1) := by decide +kernel
theorem dL_law_167 : decode cL_law 167 = .ok (.invokevirtual 80, 3) := by decide +kernel
theorem dL_law_170 : decode cL_law 170 = .ok (.iload 5, 2) := by decide +kernel
theorem dL_law_172 : decode cL_law 172 = .ok (.if_icmp .eq 5, 3) := by decide +kernel
theorem dL_law_175 : decode cL_law 175 = .ok (.iconst 0, 1) := by decide +kernel
theorem dL_law_176 : decode cL_law 176 = .ok (.ireturn, 1) := by decide +kernel
theorem dL_law_177 : decode cL_law 177 = .ok (.goto 1093, 3) := by decide +kernel
theorem dL_law_180 : decode cL_law 180 = .ok (.aload_n 1, 1) := by decide +kernel
theorem dL_law_181 : decode cL_law 181 = .ok (.aload_n 0, 1) := by decide +kernel
theorem dL_law_182 : decode cL_law 182 = .ok (.iload 4, 2) := by decide +kernel
theorem dL_law_184 : decode cL_law 184 = .ok (.iconst 1, 1) := by decide +kernel
theorem dL_law_185 : decode cL_law 185 = .ok (.iadd, 1) := by decide +kernel
theorem dL_law_186 : decode cL_law 186 = .ok (.iaload, 1) := by decide +kernel
theorem dL_law_187 : decode cL_law 187 = .ok (.aload_n 0, 1) := by decide +kernel
theorem dL_law_188 : decode cL_law 188 = .ok (.iload 4, 2) := by decide +kernel
theorem dL_law_190 : decode cL_law 190 = .ok (.iconst 2, 1) := by decide +kernel
theorem dL_law_191 : decode cL_law 191 = .ok (.iadd, 1) := by decide +kernel
theorem dL_law_192 : decode cL_law 192 = .ok (.iaload, 1) := by decide +kernel
theorem dL_law_193 : decode cL_law 193 = .ok (.aload_n 3, 1) := by decide +kernel
theorem dL_law_194 : decode cL_law 194 = .ok (.invokestatic 84, 3) := by decide +kernel
theorem dL_law_197 : decode cL_law 197 = .ok (.istore 5, 2) := by decide +kernel
theorem dL_law_199 : decode cL_law 199 = .ok (.aload_n 2, 1) := by decide +kernel
theorem dL_law_200 : decode cL_law 200 = .ok (.aload_n 0, 1) := by decide +kernel
theorem dL_law_201 : decode cL_law 201 = .ok (.iload 4, 2) := by decide +kernel
theorem dL_law_203 : decode cL_law 203 = .ok (.iconst 1, 1) := by decide +kernel
theorem dL_law_204 : decode cL_law 204 = .ok (.iadd, 1) := by decide +kernel
theorem dL_law_205 : decode cL_law 205 = .ok (.iaload, 1) := by decide +kernel
theorem dL_law_206 : decode cL_law 206 = .ok (.aload_n 0, 1) := by decide +kernel
theorem dL_law_207 : decode cL_law 207 = .ok (.iload 4, 2) := by decide +kernel
theorem dL_law_209 : decode cL_law 209 = .ok (.iconst 2, 1) := by decide +kernel
theorem dL_law_210 : decode cL_law 210 = .ok (.iadd, 1) := by decide +kernel
theorem dL_law_211 : decode cL_law 211 = .ok (.iaload, 1) := by decide +kernel
theorem dL_law_212 : decode cL_law 212 = .ok (.invokevirtual 87, 3) := by decide +kernel
theorem dL_law_215 : decode cL_law 215 = .ok (.istore 6, 2) := by decide +kernel
theorem dL_law_217 : decode cL_law 217 = .ok (.aload_n 2, 1) := by decide +kernel
theorem dL_law_218 : decode cL_law 218 = .ok (.invokevirtual 80, 3) := by decide +kernel
theorem dL_law_221 : decode cL_law 221 = .ok (.iload 5, 2) := by decide +kernel
theorem dL_law_223 : decode cL_law 223 = .ok (.if_icmp .eq 5, 3) := by decide +kernel
theorem dL_law_226 : decode cL_law 226 = .ok (.iconst 0, 1) := by decide +kernel
theorem dL_law_227 : decode cL_law 227 = .ok (.ireturn, 1) := by decide +kernel
theorem dL_law_228 : decode cL_law 228 = .ok (.iload 5, 2) := by decide +kernel
theorem dL_law_230 : decode cL_law 230 = .ok (.ifCond .ne 15, 3) := by decide +kernel
theorem dL_law_233 : decode cL_law 233 = .ok (.aload_n 3, 1) := by decide +kernel
theorem dL_law_234 : decode cL_law 234 = .ok (.iconst 0, 1) := by decide +kernel
theorem dL_law_235 : decode cL_law 235 = .ok (.laload, 1) := by decide +kernel
theorem dL_law_236 : decode cL_law 236 = .ok (.iload 6, 2) := by decide +kernel
theorem dL_law_238 : decode cL_law 238 = .ok (.i2l, 1) := by decide +kernel
theorem dL_law_239 : decode cL_law 239 = .ok (.lcmp, 1) := by decide +kernel
theorem dL_law_240 : decode cL_law 240 = .ok (.ifCond .eq 5, 3) := by decide +kernel
theorem dL_law_243 : decode cL_law 243 = .ok (.iconst 0, 1) := by decide +kernel
theorem dL_law_244 : decode cL_law 244 = .ok (.ireturn, 1) := by decide +kernel
theorem dL_law_245 : decode cL_law 245 = .ok (.goto 1025, 3) := by decide +kernel
theorem dL_law_248 : decode cL_law 248 = .ok (.aload_n 1, 1) := by decide +kernel
theorem dL_law_249 : decode cL_law 249 = .ok (.aload_n 0, 1) := by decide +kernel
theorem dL_law_250 : decode cL_law 250 = .ok (.iload 4, 2) := by decide +kernel
theorem dL_law_252 : decode cL_law 252 = .ok (.iconst 1, 1) := by decide +kernel
theorem dL_law_253 : decode cL_law 253 = .ok (.iadd, 1) := by decide +kernel
theorem dL_law_254 : decode cL_law 254 = .ok (.iaload, 1) := by decide +kernel
theorem dL_law_255 : decode cL_law 255 = .ok (.aload_n 3, 1) := by decide +kernel
theorem dL_law_256 : decode cL_law 256 = .ok (.invokestatic 88, 3) := by decide +kernel
theorem dL_law_259 : decode cL_law 259 = .ok (.istore 5, 2) := by decide +kernel
theorem dL_law_261 : decode cL_law 261 = .ok (.aload_n 2, 1) := by decide +kernel
theorem dL_law_262 : decode cL_law 262 = .ok (.aload_n 0, 1) := by decide +kernel
theorem dL_law_263 : decode cL_law 263 = .ok (.iload 4, 2) := by decide +kernel
theorem dL_law_265 : decode cL_law 265 = .ok (.iconst 1, 1) := by decide +kernel
theorem dL_law_266 : decode cL_law 266 = .ok (.iadd, 1) := by decide +kernel
theorem dL_law_267 : decode cL_law 267 = .ok (.iaload, 1) := by decide +kernel
theorem dL_law_268 : decode cL_law 268 = .ok (.invokevirtual 91, 3) := by decide +kernel
theorem dL_law_271 : decode cL_law 271 = .ok (.istore 6, 2) := by decide +kernel
theorem dL_law_273 : decode cL_law 273 = .ok (.aload_n 2, 1) := by decide +kernel
theorem dL_law_274 : decode cL_law 274 = .ok (.invokevirtual 80, 3) := by decide +kernel
theorem dL_law_277 : decode cL_law 277 = .ok (.iload 5, 2) := by decide +kernel
theorem dL_law_279 : decode cL_law 279 = .ok (.if_icmp .eq 5, 3) := by decide +kernel
theorem dL_law_282 : decode cL_law 282 = .ok (.iconst 0, 1) := by decide +kernel
theorem dL_law_283 : decode cL_law 283 = .ok (.ireturn, 1) := by decide +kernel
theorem dL_law_284 : decode cL_law 284 = .ok (.iload 5, 2) := by decide +kernel
theorem dL_law_286 : decode cL_law 286 = .ok (.ifCond .ne 15, 3) := by decide +kernel
theorem dL_law_289 : decode cL_law 289 = .ok (.aload_n 3, 1) := by decide +kernel
theorem dL_law_290 : decode cL_law 290 = .ok (.iconst 0, 1) := by decide +kernel
theorem dL_law_291 : decode cL_law 291 = .ok (.laload, 1) := by decide +kernel
theorem dL_law_292 : decode cL_law 292 = .ok (.iload 6, 2) := by decide +kernel
theorem dL_law_294 : decode cL_law 294 = .ok (.i2l, 1) := by decide +kernel
theorem dL_law_295 : decode cL_law 295 = .ok (.lcmp, 1) := by decide +kernel
theorem dL_law_296 : decode cL_law 296 = .ok (.ifCond .eq 5, 3) := by decide +kernel
theorem dL_law_299 : decode cL_law 299 = .ok (.iconst 0, 1) := by decide +kernel
theorem dL_law_300 : decode cL_law 300 = .ok (.ireturn, 1) := by decide +kernel
theorem dL_law_301 : decode cL_law 301 = .ok (.goto 969, 3) := by decide +kernel
theorem dL_law_304 : decode cL_law 304 = .ok (.aload_n 1, 1) := by decide +kernel
theorem dL_law_305 : decode cL_law 305 = .ok (.aload_n 0, 1) := by decide +kernel
theorem dL_law_306 : decode cL_law 306 = .ok (.iload 4, 2) := by decide +kernel
theorem dL_law_308 : decode cL_law 308 = .ok (.iconst 1, 1) := by decide +kernel
theorem dL_law_309 : decode cL_law 309 = .ok (.iadd, 1) := by decide +kernel
theorem dL_law_310 : decode cL_law 310 = .ok (.iaload, 1) := by decide +kernel
theorem dL_law_311 : decode cL_law 311 = .ok (.aload_n 0, 1) := by decide +kernel
theorem dL_law_312 : decode cL_law 312 = .ok (.iload 4, 2) := by decide +kernel
theorem dL_law_314 : decode cL_law 314 = .ok (.iconst 2, 1) := by decide +kernel
theorem dL_law_315 : decode cL_law 315 = .ok (.iadd, 1) := by decide +kernel
theorem dL_law_316 : decode cL_law 316 = .ok (.iaload, 1) := by decide +kernel
theorem dL_law_317 : decode cL_law 317 = .ok (.invokestatic 92, 3) := by decide +kernel
theorem dL_law_320 : decode cL_law 320 = .ok (.istore 5, 2) := by decide +kernel
theorem dL_law_322 : decode cL_law 322 = .ok (.aload_n 2, 1) := by decide +kernel
theorem dL_law_323 : decode cL_law 323 = .ok (.aload_n 0, 1) := by decide +kernel
theorem dL_law_324 : decode cL_law 324 = .ok (.iload 4, 2) := by decide +kernel
theorem dL_law_326 : decode cL_law 326 = .ok (.iconst 1, 1) := by decide +kernel
theorem dL_law_327 : decode cL_law 327 = .ok (.iadd, 1) := by decide +kernel
theorem dL_law_328 : decode cL_law 328 = .ok (.iaload, 1) := by decide +kernel
theorem dL_law_329 : decode cL_law 329 = .ok (.aload_n 0, 1) := by decide +kernel
theorem dL_law_330 : decode cL_law 330 = .ok (.iload 4, 2) := by decide +kernel
theorem dL_law_332 : decode cL_law 332 = .ok (.iconst 2, 1) := by decide +kernel
theorem dL_law_333 : decode cL_law 333 = .ok (.iadd, 1) := by decide +kernel
theorem dL_law_334 : decode cL_law 334 = .ok (.iaload, 1) := by decide +kernel
theorem dL_law_335 : decode cL_law 335 = .ok (.invokevirtual 94, 3) := by decide +kernel
theorem dL_law_338 : decode cL_law 338 = .ok (.aload_n 2, 1) := by decide +kernel
theorem dL_law_339 : decode cL_law 339 = .ok (.invokevirtual 80, 3) := by decide +kernel
theorem dL_law_342 : decode cL_law 342 = .ok (.iload 5, 2) := by decide +kernel
theorem dL_law_344 : decode cL_law 344 = .ok (.if_icmp .eq 5, 3) := by decide +kernel
theorem dL_law_347 : decode cL_law 347 = .ok (.iconst 0, 1) := by decide +kernel
theorem dL_law_348 : decode cL_law 348 = .ok (.ireturn, 1) := by decide +kernel
theorem dL_law_349 : decode cL_law 349 = .ok (.goto 921, 3) := by decide +kernel
theorem dL_law_352 : decode cL_law 352 = .ok (.aload_n 1, 1) := by decide +kernel
theorem dL_law_353 : decode cL_law 353 = .ok (.aload_n 0, 1) := by decide +kernel
theorem dL_law_354 : decode cL_law 354 = .ok (.iload 4, 2) := by decide +kernel
theorem dL_law_356 : decode cL_law 356 = .ok (.iconst 1, 1) := by decide +kernel
theorem dL_law_357 : decode cL_law 357 = .ok (.iadd, 1) := by decide +kernel
theorem dL_law_358 : decode cL_law 358 = .ok (.iaload, 1) := by decide +kernel
theorem dL_law_359 : decode cL_law 359 = .ok (.aload_n 0, 1) := by decide +kernel
theorem dL_law_360 : decode cL_law 360 = .ok (.iload 4, 2) := by decide +kernel
theorem dL_law_362 : decode cL_law 362 = .ok (.iconst 2, 1) := by decide +kernel
theorem dL_law_363 : decode cL_law 363 = .ok (.iadd, 1) := by decide +kernel
theorem dL_law_364 : decode cL_law 364 = .ok (.iaload, 1) := by decide +kernel
theorem dL_law_365 : decode cL_law 365 = .ok (.ifCond .eq 7, 3) := by decide +kernel
theorem dL_law_368 : decode cL_law 368 = .ok (.iconst 1, 1) := by decide +kernel
theorem dL_law_369 : decode cL_law 369 = .ok (.goto 4, 3) := by decide +kernel
theorem dL_law_372 : decode cL_law 372 = .ok (.iconst 0, 1) := by decide +kernel
theorem dL_law_373 : decode cL_law 373 = .ok (.aload_n 3, 1) := by decide +kernel
theorem dL_law_374 : decode cL_law 374 = .ok (.invokestatic 95, 3) := by decide +kernel
theorem dL_law_377 : decode cL_law 377 = .ok (.istore 5, 2) := by decide +kernel
theorem dL_law_379 : decode cL_law 379 = .ok (.aload_n 2, 1) := by decide +kernel
theorem dL_law_380 : decode cL_law 380 = .ok (.aload_n 0, 1) := by decide +kernel
theorem dL_law_381 : decode cL_law 381 = .ok (.iload 4, 2) := by decide +kernel
theorem dL_law_383 : decode cL_law 383 = .ok (.iconst 1, 1) := by decide +kernel
theorem dL_law_384 : decode cL_law 384 = .ok (.iadd, 1) := by decide +kernel
theorem dL_law_385 : decode cL_law 385 = .ok (.iaload, 1) := by decide +kernel
theorem dL_law_386 : decode cL_law 386 = .ok (.aload_n 0, 1) := by decide +kernel
theorem dL_law_387 : decode cL_law 387 = .ok (.iload 4, 2) := by decide +kernel
theorem dL_law_389 : decode cL_law 389 = .ok (.iconst 2, 1) := by decide +kernel
theorem dL_law_390 : decode cL_law 390 = .ok (.iadd, 1) := by decide +kernel
theorem dL_law_391 : decode cL_law 391 = .ok (.iaload, 1) := by decide +kernel
theorem dL_law_392 : decode cL_law 392 = .ok (.ifCond .eq 7, 3) := by decide +kernel
theorem dL_law_395 : decode cL_law 395 = .ok (.iconst 1, 1) := by decide +kernel
theorem dL_law_396 : decode cL_law 396 = .ok (.goto 4, 3) := by decide +kernel
theorem dL_law_399 : decode cL_law 399 = .ok (.iconst 0, 1) := by decide +kernel
theorem dL_law_400 : decode cL_law 400 = .ok (.invokevirtual 98, 3) := by decide +kernel
theorem dL_law_403 : decode cL_law 403 = .ok (.istore 6, 2) := by decide +kernel
theorem dL_law_405 : decode cL_law 405 = .ok (.aload_n 2, 1) := by decide +kernel
theorem dL_law_406 : decode cL_law 406 = .ok (.invokevirtual 80, 3) := by decide +kernel
theorem dL_law_409 : decode cL_law 409 = .ok (.iload 5, 2) := by decide +kernel
theorem dL_law_411 : decode cL_law 411 = .ok (.if_icmp .eq 5, 3) := by decide +kernel
theorem dL_law_414 : decode cL_law 414 = .ok (.iconst 0, 1) := by decide +kernel
theorem dL_law_415 : decode cL_law 415 = .ok (.ireturn, 1) := by decide +kernel
theorem dL_law_416 : decode cL_law 416 = .ok (.iload 5, 2) := by decide +kernel
theorem dL_law_418 : decode cL_law 418 = .ok (.ifCond .ne 22, 3) := by decide +kernel
theorem dL_law_421 : decode cL_law 421 = .ok (.aload_n 3, 1) := by decide +kernel
theorem dL_law_422 : decode cL_law 422 = .ok (.iconst 0, 1) := by decide +kernel
theorem dL_law_423 : decode cL_law 423 = .ok (.laload, 1) := by decide +kernel
theorem dL_law_424 : decode cL_law 424 = .ok (.iload 6, 2) := by decide +kernel
theorem dL_law_426 : decode cL_law 426 = .ok (.ifCond .eq 7, 3) := by decide +kernel
theorem dL_law_429 : decode cL_law 429 = .ok (.lconst 1, 1) := by decide +kernel
theorem dL_law_430 : decode cL_law 430 = .ok (.goto 4, 3) := by decide +kernel
theorem dL_law_433 : decode cL_law 433 = .ok (.lconst 0, 1) := by decide +kernel
theorem dL_law_434 : decode cL_law 434 = .ok (.lcmp, 1) := by decide +kernel
theorem dL_law_435 : decode cL_law 435 = .ok (.ifCond .eq 5, 3) := by decide +kernel
theorem dL_law_438 : decode cL_law 438 = .ok (.iconst 0, 1) := by decide +kernel
theorem dL_law_439 : decode cL_law 439 = .ok (.ireturn, 1) := by decide +kernel
theorem dL_law_440 : decode cL_law 440 = .ok (.goto 830, 3) := by decide +kernel
theorem dL_law_443 : decode cL_law 443 = .ok (.aload_n 1, 1) := by decide +kernel
theorem dL_law_444 : decode cL_law 444 = .ok (.aload_n 0, 1) := by decide +kernel
theorem dL_law_445 : decode cL_law 445 = .ok (.iload 4, 2) := by decide +kernel
theorem dL_law_447 : decode cL_law 447 = .ok (.iconst 1, 1) := by decide +kernel
theorem dL_law_448 : decode cL_law 448 = .ok (.iadd, 1) := by decide +kernel
theorem dL_law_449 : decode cL_law 449 = .ok (.iaload, 1) := by decide +kernel
theorem dL_law_450 : decode cL_law 450 = .ok (.aload_n 0, 1) := by decide +kernel
theorem dL_law_451 : decode cL_law 451 = .ok (.iload 4, 2) := by decide +kernel
theorem dL_law_453 : decode cL_law 453 = .ok (.iconst 2, 1) := by decide +kernel
theorem dL_law_454 : decode cL_law 454 = .ok (.iadd, 1) := by decide +kernel
theorem dL_law_455 : decode cL_law 455 = .ok (.iaload, 1) := by decide +kernel
theorem dL_law_456 : decode cL_law 456 = .ok (.ifCond .eq 7, 3) := by decide +kernel
theorem dL_law_459 : decode cL_law 459 = .ok (.iconst 1, 1) := by decide +kernel
theorem dL_law_460 : decode cL_law 460 = .ok (.goto 4, 3) := by decide +kernel
theorem dL_law_463 : decode cL_law 463 = .ok (.iconst 0, 1) := by decide +kernel
theorem dL_law_464 : decode cL_law 464 = .ok (.aload_n 3, 1) := by decide +kernel
theorem dL_law_465 : decode cL_law 465 = .ok (.invokestatic 99, 3) := by decide +kernel
theorem dL_law_468 : decode cL_law 468 = .ok (.istore 5, 2) := by decide +kernel
theorem dL_law_470 : decode cL_law 470 = .ok (.aload_n 2, 1) := by decide +kernel
theorem dL_law_471 : decode cL_law 471 = .ok (.aload_n 0, 1) := by decide +kernel
theorem dL_law_472 : decode cL_law 472 = .ok (.iload 4, 2) := by decide +kernel
theorem dL_law_474 : decode cL_law 474 = .ok (.iconst 1, 1) := by decide +kernel
theorem dL_law_475 : decode cL_law 475 = .ok (.iadd, 1) := by decide +kernel
theorem dL_law_476 : decode cL_law 476 = .ok (.iaload, 1) := by decide +kernel
theorem dL_law_477 : decode cL_law 477 = .ok (.aload_n 0, 1) := by decide +kernel
theorem dL_law_478 : decode cL_law 478 = .ok (.iload 4, 2) := by decide +kernel
theorem dL_law_480 : decode cL_law 480 = .ok (.iconst 2, 1) := by decide +kernel
theorem dL_law_481 : decode cL_law 481 = .ok (.iadd, 1) := by decide +kernel
theorem dL_law_482 : decode cL_law 482 = .ok (.iaload, 1) := by decide +kernel
theorem dL_law_483 : decode cL_law 483 = .ok (.ifCond .eq 7, 3) := by decide +kernel
theorem dL_law_486 : decode cL_law 486 = .ok (.iconst 1, 1) := by decide +kernel
theorem dL_law_487 : decode cL_law 487 = .ok (.goto 4, 3) := by decide +kernel
theorem dL_law_490 : decode cL_law 490 = .ok (.iconst 0, 1) := by decide +kernel
theorem dL_law_491 : decode cL_law 491 = .ok (.invokevirtual 101, 3) := by decide +kernel
theorem dL_law_494 : decode cL_law 494 = .ok (.istore 6, 2) := by decide +kernel
theorem dL_law_496 : decode cL_law 496 = .ok (.aload_n 2, 1) := by decide +kernel
theorem dL_law_497 : decode cL_law 497 = .ok (.invokevirtual 80, 3) := by decide +kernel
theorem dL_law_500 : decode cL_law 500 = .ok (.iload 5, 2) := by decide +kernel
theorem dL_law_502 : decode cL_law 502 = .ok (.if_icmp .eq 5, 3) := by decide +kernel
theorem dL_law_505 : decode cL_law 505 = .ok (.iconst 0, 1) := by decide +kernel
theorem dL_law_506 : decode cL_law 506 = .ok (.ireturn, 1) := by decide +kernel
theorem dL_law_507 : decode cL_law 507 = .ok (.iload 5, 2) := by decide +kernel
theorem dL_law_509 : decode cL_law 509 = .ok (.ifCond .ne 15, 3) := by decide +kernel
theorem dL_law_512 : decode cL_law 512 = .ok (.aload_n 3, 1) := by decide +kernel
theorem dL_law_513 : decode cL_law 513 = .ok (.iconst 0, 1) := by decide +kernel
theorem dL_law_514 : decode cL_law 514 = .ok (.laload, 1) := by decide +kernel
theorem dL_law_515 : decode cL_law 515 = .ok (.iload 6, 2) := by decide +kernel
theorem dL_law_517 : decode cL_law 517 = .ok (.i2l, 1) := by decide +kernel
theorem dL_law_518 : decode cL_law 518 = .ok (.lcmp, 1) := by decide +kernel
theorem dL_law_519 : decode cL_law 519 = .ok (.ifCond .eq 5, 3) := by decide +kernel
theorem dL_law_522 : decode cL_law 522 = .ok (.iconst 0, 1) := by decide +kernel
theorem dL_law_523 : decode cL_law 523 = .ok (.ireturn, 1) := by decide +kernel
theorem dL_law_524 : decode cL_law 524 = .ok (.goto 746, 3) := by decide +kernel
theorem dL_law_527 : decode cL_law 527 = .ok (.aload_n 1, 1) := by decide +kernel
theorem dL_law_528 : decode cL_law 528 = .ok (.aload_n 0, 1) := by decide +kernel
theorem dL_law_529 : decode cL_law 529 = .ok (.iload 4, 2) := by decide +kernel
theorem dL_law_531 : decode cL_law 531 = .ok (.iconst 1, 1) := by decide +kernel
theorem dL_law_532 : decode cL_law 532 = .ok (.iadd, 1) := by decide +kernel
theorem dL_law_533 : decode cL_law 533 = .ok (.iaload, 1) := by decide +kernel
theorem dL_law_534 : decode cL_law 534 = .ok (.aload_n 0, 1) := by decide +kernel
theorem dL_law_535 : decode cL_law 535 = .ok (.iload 4, 2) := by decide +kernel
theorem dL_law_537 : decode cL_law 537 = .ok (.iconst 2, 1) := by decide +kernel
theorem dL_law_538 : decode cL_law 538 = .ok (.iadd, 1) := by decide +kernel
theorem dL_law_539 : decode cL_law 539 = .ok (.iaload, 1) := by decide +kernel
theorem dL_law_540 : decode cL_law 540 = .ok (.ifCond .eq 7, 3) := by decide +kernel
theorem dL_law_543 : decode cL_law 543 = .ok (.iconst 1, 1) := by decide +kernel
theorem dL_law_544 : decode cL_law 544 = .ok (.goto 4, 3) := by decide +kernel
theorem dL_law_547 : decode cL_law 547 = .ok (.iconst 0, 1) := by decide +kernel
theorem dL_law_548 : decode cL_law 548 = .ok (.aload_n 3, 1) := by decide +kernel
theorem dL_law_549 : decode cL_law 549 = .ok (.invokestatic 102, 3) := by decide +kernel
theorem dL_law_552 : decode cL_law 552 = .ok (.istore 5, 2) := by decide +kernel
theorem dL_law_554 : decode cL_law 554 = .ok (.aload_n 2, 1) := by decide +kernel
theorem dL_law_555 : decode cL_law 555 = .ok (.aload_n 0, 1) := by decide +kernel
theorem dL_law_556 : decode cL_law 556 = .ok (.iload 4, 2) := by decide +kernel
theorem dL_law_558 : decode cL_law 558 = .ok (.iconst 1, 1) := by decide +kernel
theorem dL_law_559 : decode cL_law 559 = .ok (.iadd, 1) := by decide +kernel
theorem dL_law_560 : decode cL_law 560 = .ok (.iaload, 1) := by decide +kernel
theorem dL_law_561 : decode cL_law 561 = .ok (.aload_n 0, 1) := by decide +kernel
theorem dL_law_562 : decode cL_law 562 = .ok (.iload 4, 2) := by decide +kernel
theorem dL_law_564 : decode cL_law 564 = .ok (.iconst 2, 1) := by decide +kernel
theorem dL_law_565 : decode cL_law 565 = .ok (.iadd, 1) := by decide +kernel
theorem dL_law_566 : decode cL_law 566 = .ok (.iaload, 1) := by decide +kernel
theorem dL_law_567 : decode cL_law 567 = .ok (.ifCond .eq 7, 3) := by decide +kernel
theorem dL_law_570 : decode cL_law 570 = .ok (.iconst 1, 1) := by decide +kernel
theorem dL_law_571 : decode cL_law 571 = .ok (.goto 4, 3) := by decide +kernel
theorem dL_law_574 : decode cL_law 574 = .ok (.iconst 0, 1) := by decide +kernel
theorem dL_law_575 : decode cL_law 575 = .ok (.invokevirtual 104, 3) := by decide +kernel
theorem dL_law_578 : decode cL_law 578 = .ok (.istore 6, 2) := by decide +kernel
theorem dL_law_580 : decode cL_law 580 = .ok (.aload_n 2, 1) := by decide +kernel
theorem dL_law_581 : decode cL_law 581 = .ok (.invokevirtual 80, 3) := by decide +kernel
theorem dL_law_584 : decode cL_law 584 = .ok (.iload 5, 2) := by decide +kernel
theorem dL_law_586 : decode cL_law 586 = .ok (.if_icmp .eq 5, 3) := by decide +kernel
theorem dL_law_589 : decode cL_law 589 = .ok (.iconst 0, 1) := by decide +kernel
theorem dL_law_590 : decode cL_law 590 = .ok (.ireturn, 1) := by decide +kernel
theorem dL_law_591 : decode cL_law 591 = .ok (.iload 5, 2) := by decide +kernel
theorem dL_law_593 : decode cL_law 593 = .ok (.ifCond .ne 22, 3) := by decide +kernel
theorem dL_law_596 : decode cL_law 596 = .ok (.aload_n 3, 1) := by decide +kernel
theorem dL_law_597 : decode cL_law 597 = .ok (.iconst 0, 1) := by decide +kernel
theorem dL_law_598 : decode cL_law 598 = .ok (.laload, 1) := by decide +kernel
theorem dL_law_599 : decode cL_law 599 = .ok (.iload 6, 2) := by decide +kernel
theorem dL_law_601 : decode cL_law 601 = .ok (.ifCond .eq 7, 3) := by decide +kernel
theorem dL_law_604 : decode cL_law 604 = .ok (.lconst 1, 1) := by decide +kernel
theorem dL_law_605 : decode cL_law 605 = .ok (.goto 4, 3) := by decide +kernel
theorem dL_law_608 : decode cL_law 608 = .ok (.lconst 0, 1) := by decide +kernel
theorem dL_law_609 : decode cL_law 609 = .ok (.lcmp, 1) := by decide +kernel
theorem dL_law_610 : decode cL_law 610 = .ok (.ifCond .eq 5, 3) := by decide +kernel
theorem dL_law_613 : decode cL_law 613 = .ok (.iconst 0, 1) := by decide +kernel
theorem dL_law_614 : decode cL_law 614 = .ok (.ireturn, 1) := by decide +kernel
theorem dL_law_615 : decode cL_law 615 = .ok (.goto 655, 3) := by decide +kernel
theorem dL_law_618 : decode cL_law 618 = .ok (.aload_n 1, 1) := by decide +kernel
theorem dL_law_619 : decode cL_law 619 = .ok (.aload_n 0, 1) := by decide +kernel
theorem dL_law_620 : decode cL_law 620 = .ok (.iload 4, 2) := by decide +kernel
theorem dL_law_622 : decode cL_law 622 = .ok (.iconst 1, 1) := by decide +kernel
theorem dL_law_623 : decode cL_law 623 = .ok (.iadd, 1) := by decide +kernel
theorem dL_law_624 : decode cL_law 624 = .ok (.iaload, 1) := by decide +kernel
theorem dL_law_625 : decode cL_law 625 = .ok (.aload_n 0, 1) := by decide +kernel
theorem dL_law_626 : decode cL_law 626 = .ok (.iload 4, 2) := by decide +kernel
theorem dL_law_628 : decode cL_law 628 = .ok (.iconst 2, 1) := by decide +kernel
theorem dL_law_629 : decode cL_law 629 = .ok (.iadd, 1) := by decide +kernel
theorem dL_law_630 : decode cL_law 630 = .ok (.iaload, 1) := by decide +kernel
theorem dL_law_631 : decode cL_law 631 = .ok (.aload_n 0, 1) := by decide +kernel
theorem dL_law_632 : decode cL_law 632 = .ok (.iload 4, 2) := by decide +kernel
theorem dL_law_634 : decode cL_law 634 = .ok (.iconst 3, 1) := by decide +kernel
theorem dL_law_635 : decode cL_law 635 = .ok (.iadd, 1) := by decide +kernel
theorem dL_law_636 : decode cL_law 636 = .ok (.iaload, 1) := by decide +kernel
theorem dL_law_637 : decode cL_law 637 = .ok (.ifCond .eq 7, 3) := by decide +kernel
theorem dL_law_640 : decode cL_law 640 = .ok (.iconst 1, 1) := by decide +kernel
theorem dL_law_641 : decode cL_law 641 = .ok (.goto 4, 3) := by decide +kernel
theorem dL_law_644 : decode cL_law 644 = .ok (.iconst 0, 1) := by decide +kernel
theorem dL_law_645 : decode cL_law 645 = .ok (.invokestatic 105, 3) := by decide +kernel
theorem dL_law_648 : decode cL_law 648 = .ok (.istore 5, 2) := by decide +kernel
theorem dL_law_650 : decode cL_law 650 = .ok (.aload_n 2, 1) := by decide +kernel
theorem dL_law_651 : decode cL_law 651 = .ok (.aload_n 0, 1) := by decide +kernel
theorem dL_law_652 : decode cL_law 652 = .ok (.iload 4, 2) := by decide +kernel
theorem dL_law_654 : decode cL_law 654 = .ok (.iconst 1, 1) := by decide +kernel
theorem dL_law_655 : decode cL_law 655 = .ok (.iadd, 1) := by decide +kernel
theorem dL_law_656 : decode cL_law 656 = .ok (.iaload, 1) := by decide +kernel
theorem dL_law_657 : decode cL_law 657 = .ok (.aload_n 0, 1) := by decide +kernel
theorem dL_law_658 : decode cL_law 658 = .ok (.iload 4, 2) := by decide +kernel
theorem dL_law_660 : decode cL_law 660 = .ok (.iconst 2, 1) := by decide +kernel
theorem dL_law_661 : decode cL_law 661 = .ok (.iadd, 1) := by decide +kernel
theorem dL_law_662 : decode cL_law 662 = .ok (.iaload, 1) := by decide +kernel
theorem dL_law_663 : decode cL_law 663 = .ok (.aload_n 0, 1) := by decide +kernel
theorem dL_law_664 : decode cL_law 664 = .ok (.iload 4, 2) := by decide +kernel
theorem dL_law_666 : decode cL_law 666 = .ok (.iconst 3, 1) := by decide +kernel
theorem dL_law_667 : decode cL_law 667 = .ok (.iadd, 1) := by decide +kernel
theorem dL_law_668 : decode cL_law 668 = .ok (.iaload, 1) := by decide +kernel
theorem dL_law_669 : decode cL_law 669 = .ok (.ifCond .eq 7, 3) := by decide +kernel
theorem dL_law_672 : decode cL_law 672 = .ok (.iconst 1, 1) := by decide +kernel
theorem dL_law_673 : decode cL_law 673 = .ok (.goto 4, 3) := by decide +kernel
theorem dL_law_676 : decode cL_law 676 = .ok (.iconst 0, 1) := by decide +kernel
theorem dL_law_677 : decode cL_law 677 = .ok (.invokevirtual 108, 3) := by decide +kernel
theorem dL_law_680 : decode cL_law 680 = .ok (.aload_n 2, 1) := by decide +kernel
theorem dL_law_681 : decode cL_law 681 = .ok (.invokevirtual 80, 3) := by decide +kernel
theorem dL_law_684 : decode cL_law 684 = .ok (.iload 5, 2) := by decide +kernel
theorem dL_law_686 : decode cL_law 686 = .ok (.if_icmp .eq 5, 3) := by decide +kernel
theorem dL_law_689 : decode cL_law 689 = .ok (.iconst 0, 1) := by decide +kernel
theorem dL_law_690 : decode cL_law 690 = .ok (.ireturn, 1) := by decide +kernel
theorem dL_law_691 : decode cL_law 691 = .ok (.goto 579, 3) := by decide +kernel
theorem dL_law_694 : decode cL_law 694 = .ok (.aload_n 1, 1) := by decide +kernel
theorem dL_law_695 : decode cL_law 695 = .ok (.aload_n 0, 1) := by decide +kernel
theorem dL_law_696 : decode cL_law 696 = .ok (.iload 4, 2) := by decide +kernel
theorem dL_law_698 : decode cL_law 698 = .ok (.iconst 1, 1) := by decide +kernel
theorem dL_law_699 : decode cL_law 699 = .ok (.iadd, 1) := by decide +kernel
theorem dL_law_700 : decode cL_law 700 = .ok (.iaload, 1) := by decide +kernel
theorem dL_law_701 : decode cL_law 701 = .ok (.aload_n 0, 1) := by decide +kernel
theorem dL_law_702 : decode cL_law 702 = .ok (.iload 4, 2) := by decide +kernel
theorem dL_law_704 : decode cL_law 704 = .ok (.iconst 2, 1) := by decide +kernel
theorem dL_law_705 : decode cL_law 705 = .ok (.iadd, 1) := by decide +kernel
theorem dL_law_706 : decode cL_law 706 = .ok (.iaload, 1) := by decide +kernel
theorem dL_law_707 : decode cL_law 707 = .ok (.aload_n 0, 1) := by decide +kernel
theorem dL_law_708 : decode cL_law 708 = .ok (.iload 4, 2) := by decide +kernel
theorem dL_law_710 : decode cL_law 710 = .ok (.iconst 3, 1) := by decide +kernel
theorem dL_law_711 : decode cL_law 711 = .ok (.iadd, 1) := by decide +kernel
theorem dL_law_712 : decode cL_law 712 = .ok (.iaload, 1) := by decide +kernel
theorem dL_law_713 : decode cL_law 713 = .ok (.ifCond .eq 7, 3) := by decide +kernel
theorem dL_law_716 : decode cL_law 716 = .ok (.iconst 1, 1) := by decide +kernel
theorem dL_law_717 : decode cL_law 717 = .ok (.goto 4, 3) := by decide +kernel
theorem dL_law_720 : decode cL_law 720 = .ok (.iconst 0, 1) := by decide +kernel
theorem dL_law_721 : decode cL_law 721 = .ok (.aload_n 3, 1) := by decide +kernel
theorem dL_law_722 : decode cL_law 722 = .ok (.invokestatic 109, 3) := by decide +kernel
theorem dL_law_725 : decode cL_law 725 = .ok (.istore 5, 2) := by decide +kernel
theorem dL_law_727 : decode cL_law 727 = .ok (.aload_n 2, 1) := by decide +kernel
theorem dL_law_728 : decode cL_law 728 = .ok (.aload_n 0, 1) := by decide +kernel
theorem dL_law_729 : decode cL_law 729 = .ok (.iload 4, 2) := by decide +kernel
theorem dL_law_731 : decode cL_law 731 = .ok (.iconst 1, 1) := by decide +kernel
theorem dL_law_732 : decode cL_law 732 = .ok (.iadd, 1) := by decide +kernel
theorem dL_law_733 : decode cL_law 733 = .ok (.iaload, 1) := by decide +kernel
theorem dL_law_734 : decode cL_law 734 = .ok (.aload_n 0, 1) := by decide +kernel
theorem dL_law_735 : decode cL_law 735 = .ok (.iload 4, 2) := by decide +kernel
theorem dL_law_737 : decode cL_law 737 = .ok (.iconst 2, 1) := by decide +kernel
theorem dL_law_738 : decode cL_law 738 = .ok (.iadd, 1) := by decide +kernel
theorem dL_law_739 : decode cL_law 739 = .ok (.iaload, 1) := by decide +kernel
theorem dL_law_740 : decode cL_law 740 = .ok (.aload_n 0, 1) := by decide +kernel
theorem dL_law_741 : decode cL_law 741 = .ok (.iload 4, 2) := by decide +kernel
theorem dL_law_743 : decode cL_law 743 = .ok (.iconst 3, 1) := by decide +kernel
theorem dL_law_744 : decode cL_law 744 = .ok (.iadd, 1) := by decide +kernel
theorem dL_law_745 : decode cL_law 745 = .ok (.iaload, 1) := by decide +kernel
theorem dL_law_746 : decode cL_law 746 = .ok (.ifCond .eq 7, 3) := by decide +kernel
theorem dL_law_749 : decode cL_law 749 = .ok (.iconst 1, 1) := by decide +kernel
theorem dL_law_750 : decode cL_law 750 = .ok (.goto 4, 3) := by decide +kernel
theorem dL_law_753 : decode cL_law 753 = .ok (.iconst 0, 1) := by decide +kernel
theorem dL_law_754 : decode cL_law 754 = .ok (.invokevirtual 112, 3) := by decide +kernel
theorem dL_law_757 : decode cL_law 757 = .ok (.istore 6, 2) := by decide +kernel
theorem dL_law_759 : decode cL_law 759 = .ok (.aload_n 2, 1) := by decide +kernel
theorem dL_law_760 : decode cL_law 760 = .ok (.invokevirtual 80, 3) := by decide +kernel
theorem dL_law_763 : decode cL_law 763 = .ok (.iload 5, 2) := by decide +kernel
theorem dL_law_765 : decode cL_law 765 = .ok (.if_icmp .eq 5, 3) := by decide +kernel
theorem dL_law_768 : decode cL_law 768 = .ok (.iconst 0, 1) := by decide +kernel
theorem dL_law_769 : decode cL_law 769 = .ok (.ireturn, 1) := by decide +kernel
theorem dL_law_770 : decode cL_law 770 = .ok (.iload 5, 2) := by decide +kernel
theorem dL_law_772 : decode cL_law 772 = .ok (.ifCond .ne 15, 3) := by decide +kernel
theorem dL_law_775 : decode cL_law 775 = .ok (.aload_n 3, 1) := by decide +kernel
theorem dL_law_776 : decode cL_law 776 = .ok (.iconst 0, 1) := by decide +kernel
theorem dL_law_777 : decode cL_law 777 = .ok (.laload, 1) := by decide +kernel
theorem dL_law_778 : decode cL_law 778 = .ok (.iload 6, 2) := by decide +kernel
theorem dL_law_780 : decode cL_law 780 = .ok (.i2l, 1) := by decide +kernel
theorem dL_law_781 : decode cL_law 781 = .ok (.lcmp, 1) := by decide +kernel
theorem dL_law_782 : decode cL_law 782 = .ok (.ifCond .eq 5, 3) := by decide +kernel
theorem dL_law_785 : decode cL_law 785 = .ok (.iconst 0, 1) := by decide +kernel
theorem dL_law_786 : decode cL_law 786 = .ok (.ireturn, 1) := by decide +kernel
theorem dL_law_787 : decode cL_law 787 = .ok (.goto 483, 3) := by decide +kernel
theorem dL_law_790 : decode cL_law 790 = .ok (.aload_n 1, 1) := by decide +kernel
theorem dL_law_791 : decode cL_law 791 = .ok (.aload_n 0, 1) := by decide +kernel
theorem dL_law_792 : decode cL_law 792 = .ok (.iload 4, 2) := by decide +kernel
theorem dL_law_794 : decode cL_law 794 = .ok (.iconst 1, 1) := by decide +kernel
theorem dL_law_795 : decode cL_law 795 = .ok (.iadd, 1) := by decide +kernel
theorem dL_law_796 : decode cL_law 796 = .ok (.iaload, 1) := by decide +kernel
theorem dL_law_797 : decode cL_law 797 = .ok (.aload_n 0, 1) := by decide +kernel
theorem dL_law_798 : decode cL_law 798 = .ok (.iload 4, 2) := by decide +kernel
theorem dL_law_800 : decode cL_law 800 = .ok (.iconst 2, 1) := by decide +kernel
theorem dL_law_801 : decode cL_law 801 = .ok (.iadd, 1) := by decide +kernel
theorem dL_law_802 : decode cL_law 802 = .ok (.iaload, 1) := by decide +kernel
theorem dL_law_803 : decode cL_law 803 = .ok (.aload_n 3, 1) := by decide +kernel
theorem dL_law_804 : decode cL_law 804 = .ok (.invokestatic 113, 3) := by decide +kernel
theorem dL_law_807 : decode cL_law 807 = .ok (.istore 5, 2) := by decide +kernel
theorem dL_law_809 : decode cL_law 809 = .ok (.aload_n 2, 1) := by decide +kernel
theorem dL_law_810 : decode cL_law 810 = .ok (.aload_n 0, 1) := by decide +kernel
theorem dL_law_811 : decode cL_law 811 = .ok (.iload 4, 2) := by decide +kernel
theorem dL_law_813 : decode cL_law 813 = .ok (.iconst 1, 1) := by decide +kernel
theorem dL_law_814 : decode cL_law 814 = .ok (.iadd, 1) := by decide +kernel
theorem dL_law_815 : decode cL_law 815 = .ok (.iaload, 1) := by decide +kernel
theorem dL_law_816 : decode cL_law 816 = .ok (.aload_n 0, 1) := by decide +kernel
theorem dL_law_817 : decode cL_law 817 = .ok (.iload 4, 2) := by decide +kernel
theorem dL_law_819 : decode cL_law 819 = .ok (.iconst 2, 1) := by decide +kernel
theorem dL_law_820 : decode cL_law 820 = .ok (.iadd, 1) := by decide +kernel
theorem dL_law_821 : decode cL_law 821 = .ok (.iaload, 1) := by decide +kernel
theorem dL_law_822 : decode cL_law 822 = .ok (.invokevirtual 115, 3) := by decide +kernel
theorem dL_law_825 : decode cL_law 825 = .ok (.istore 6, 2) := by decide +kernel
theorem dL_law_827 : decode cL_law 827 = .ok (.aload_n 2, 1) := by decide +kernel
theorem dL_law_828 : decode cL_law 828 = .ok (.invokevirtual 80, 3) := by decide +kernel
theorem dL_law_831 : decode cL_law 831 = .ok (.iload 5, 2) := by decide +kernel
theorem dL_law_833 : decode cL_law 833 = .ok (.if_icmp .eq 5, 3) := by decide +kernel
theorem dL_law_836 : decode cL_law 836 = .ok (.iconst 0, 1) := by decide +kernel
theorem dL_law_837 : decode cL_law 837 = .ok (.ireturn, 1) := by decide +kernel
theorem dL_law_838 : decode cL_law 838 = .ok (.iload 5, 2) := by decide +kernel
theorem dL_law_840 : decode cL_law 840 = .ok (.ifCond .ne 15, 3) := by decide +kernel
theorem dL_law_843 : decode cL_law 843 = .ok (.aload_n 3, 1) := by decide +kernel
theorem dL_law_844 : decode cL_law 844 = .ok (.iconst 0, 1) := by decide +kernel
theorem dL_law_845 : decode cL_law 845 = .ok (.laload, 1) := by decide +kernel
theorem dL_law_846 : decode cL_law 846 = .ok (.iload 6, 2) := by decide +kernel
theorem dL_law_848 : decode cL_law 848 = .ok (.i2l, 1) := by decide +kernel
theorem dL_law_849 : decode cL_law 849 = .ok (.lcmp, 1) := by decide +kernel
theorem dL_law_850 : decode cL_law 850 = .ok (.ifCond .eq 5, 3) := by decide +kernel
theorem dL_law_853 : decode cL_law 853 = .ok (.iconst 0, 1) := by decide +kernel
theorem dL_law_854 : decode cL_law 854 = .ok (.ireturn, 1) := by decide +kernel
theorem dL_law_855 : decode cL_law 855 = .ok (.goto 415, 3) := by decide +kernel
theorem dL_law_858 : decode cL_law 858 = .ok (.aload_n 1, 1) := by decide +kernel
theorem dL_law_859 : decode cL_law 859 = .ok (.aload_n 0, 1) := by decide +kernel
theorem dL_law_860 : decode cL_law 860 = .ok (.iload 4, 2) := by decide +kernel
theorem dL_law_862 : decode cL_law 862 = .ok (.iconst 1, 1) := by decide +kernel
theorem dL_law_863 : decode cL_law 863 = .ok (.iadd, 1) := by decide +kernel
theorem dL_law_864 : decode cL_law 864 = .ok (.iaload, 1) := by decide +kernel
theorem dL_law_865 : decode cL_law 865 = .ok (.aload_n 3, 1) := by decide +kernel
theorem dL_law_866 : decode cL_law 866 = .ok (.invokestatic 116, 3) := by decide +kernel
theorem dL_law_869 : decode cL_law 869 = .ok (.istore 5, 2) := by decide +kernel
theorem dL_law_871 : decode cL_law 871 = .ok (.aload_n 2, 1) := by decide +kernel
theorem dL_law_872 : decode cL_law 872 = .ok (.aload_n 0, 1) := by decide +kernel
theorem dL_law_873 : decode cL_law 873 = .ok (.iload 4, 2) := by decide +kernel
theorem dL_law_875 : decode cL_law 875 = .ok (.iconst 1, 1) := by decide +kernel
theorem dL_law_876 : decode cL_law 876 = .ok (.iadd, 1) := by decide +kernel
theorem dL_law_877 : decode cL_law 877 = .ok (.iaload, 1) := by decide +kernel
theorem dL_law_878 : decode cL_law 878 = .ok (.invokevirtual 118, 3) := by decide +kernel
theorem dL_law_881 : decode cL_law 881 = .ok (.istore 6, 2) := by decide +kernel
theorem dL_law_883 : decode cL_law 883 = .ok (.aload_n 2, 1) := by decide +kernel
theorem dL_law_884 : decode cL_law 884 = .ok (.invokevirtual 80, 3) := by decide +kernel
theorem dL_law_887 : decode cL_law 887 = .ok (.iload 5, 2) := by decide +kernel
theorem dL_law_889 : decode cL_law 889 = .ok (.if_icmp .eq 5, 3) := by decide +kernel
theorem dL_law_892 : decode cL_law 892 = .ok (.iconst 0, 1) := by decide +kernel
theorem dL_law_893 : decode cL_law 893 = .ok (.ireturn, 1) := by decide +kernel
theorem dL_law_894 : decode cL_law 894 = .ok (.iload 5, 2) := by decide +kernel
theorem dL_law_896 : decode cL_law 896 = .ok (.ifCond .ne 15, 3) := by decide +kernel
theorem dL_law_899 : decode cL_law 899 = .ok (.aload_n 3, 1) := by decide +kernel
theorem dL_law_900 : decode cL_law 900 = .ok (.iconst 0, 1) := by decide +kernel
theorem dL_law_901 : decode cL_law 901 = .ok (.laload, 1) := by decide +kernel
theorem dL_law_902 : decode cL_law 902 = .ok (.iload 6, 2) := by decide +kernel
theorem dL_law_904 : decode cL_law 904 = .ok (.i2l, 1) := by decide +kernel
theorem dL_law_905 : decode cL_law 905 = .ok (.lcmp, 1) := by decide +kernel
theorem dL_law_906 : decode cL_law 906 = .ok (.ifCond .eq 5, 3) := by decide +kernel
theorem dL_law_909 : decode cL_law 909 = .ok (.iconst 0, 1) := by decide +kernel
theorem dL_law_910 : decode cL_law 910 = .ok (.ireturn, 1) := by decide +kernel
theorem dL_law_911 : decode cL_law 911 = .ok (.goto 359, 3) := by decide +kernel
theorem dL_law_914 : decode cL_law 914 = .ok (.aload_n 1, 1) := by decide +kernel
theorem dL_law_915 : decode cL_law 915 = .ok (.aload_n 0, 1) := by decide +kernel
theorem dL_law_916 : decode cL_law 916 = .ok (.iload 4, 2) := by decide +kernel
theorem dL_law_918 : decode cL_law 918 = .ok (.iconst 1, 1) := by decide +kernel
theorem dL_law_919 : decode cL_law 919 = .ok (.iadd, 1) := by decide +kernel
theorem dL_law_920 : decode cL_law 920 = .ok (.iaload, 1) := by decide +kernel
theorem dL_law_921 : decode cL_law 921 = .ok (.aload_n 0, 1) := by decide +kernel
theorem dL_law_922 : decode cL_law 922 = .ok (.iload 4, 2) := by decide +kernel
theorem dL_law_924 : decode cL_law 924 = .ok (.iconst 2, 1) := by decide +kernel
theorem dL_law_925 : decode cL_law 925 = .ok (.iadd, 1) := by decide +kernel
theorem dL_law_926 : decode cL_law 926 = .ok (.iaload, 1) := by decide +kernel
theorem dL_law_927 : decode cL_law 927 = .ok (.aload_n 3, 1) := by decide +kernel
theorem dL_law_928 : decode cL_law 928 = .ok (.invokestatic 119, 3) := by decide +kernel
theorem dL_law_931 : decode cL_law 931 = .ok (.istore 5, 2) := by decide +kernel
theorem dL_law_933 : decode cL_law 933 = .ok (.aload_n 2, 1) := by decide +kernel
theorem dL_law_934 : decode cL_law 934 = .ok (.aload_n 0, 1) := by decide +kernel
theorem dL_law_935 : decode cL_law 935 = .ok (.iload 4, 2) := by decide +kernel
theorem dL_law_937 : decode cL_law 937 = .ok (.iconst 1, 1) := by decide +kernel
theorem dL_law_938 : decode cL_law 938 = .ok (.iadd, 1) := by decide +kernel
theorem dL_law_939 : decode cL_law 939 = .ok (.iaload, 1) := by decide +kernel
theorem dL_law_940 : decode cL_law 940 = .ok (.aload_n 0, 1) := by decide +kernel
theorem dL_law_941 : decode cL_law 941 = .ok (.iload 4, 2) := by decide +kernel
theorem dL_law_943 : decode cL_law 943 = .ok (.iconst 2, 1) := by decide +kernel
theorem dL_law_944 : decode cL_law 944 = .ok (.iadd, 1) := by decide +kernel
theorem dL_law_945 : decode cL_law 945 = .ok (.iaload, 1) := by decide +kernel
theorem dL_law_946 : decode cL_law 946 = .ok (.invokevirtual 121, 3) := by decide +kernel
theorem dL_law_949 : decode cL_law 949 = .ok (.istore 6, 2) := by decide +kernel
theorem dL_law_951 : decode cL_law 951 = .ok (.aload_n 2, 1) := by decide +kernel
theorem dL_law_952 : decode cL_law 952 = .ok (.invokevirtual 80, 3) := by decide +kernel
theorem dL_law_955 : decode cL_law 955 = .ok (.iload 5, 2) := by decide +kernel
theorem dL_law_957 : decode cL_law 957 = .ok (.if_icmp .eq 5, 3) := by decide +kernel
theorem dL_law_960 : decode cL_law 960 = .ok (.iconst 0, 1) := by decide +kernel
theorem dL_law_961 : decode cL_law 961 = .ok (.ireturn, 1) := by decide +kernel
theorem dL_law_962 : decode cL_law 962 = .ok (.iload 5, 2) := by decide +kernel
theorem dL_law_964 : decode cL_law 964 = .ok (.ifCond .ne 15, 3) := by decide +kernel
theorem dL_law_967 : decode cL_law 967 = .ok (.aload_n 3, 1) := by decide +kernel
theorem dL_law_968 : decode cL_law 968 = .ok (.iconst 0, 1) := by decide +kernel
theorem dL_law_969 : decode cL_law 969 = .ok (.laload, 1) := by decide +kernel
theorem dL_law_970 : decode cL_law 970 = .ok (.iload 6, 2) := by decide +kernel
theorem dL_law_972 : decode cL_law 972 = .ok (.i2l, 1) := by decide +kernel
theorem dL_law_973 : decode cL_law 973 = .ok (.lcmp, 1) := by decide +kernel
theorem dL_law_974 : decode cL_law 974 = .ok (.ifCond .eq 5, 3) := by decide +kernel
theorem dL_law_977 : decode cL_law 977 = .ok (.iconst 0, 1) := by decide +kernel
theorem dL_law_978 : decode cL_law 978 = .ok (.ireturn, 1) := by decide +kernel
theorem dL_law_979 : decode cL_law 979 = .ok (.goto 291, 3) := by decide +kernel
theorem dL_law_982 : decode cL_law 982 = .ok (.aload_n 1, 1) := by decide +kernel
theorem dL_law_983 : decode cL_law 983 = .ok (.invokevirtual 122, 3) := by decide +kernel
theorem dL_law_986 : decode cL_law 986 = .ok (.aload_n 2, 1) := by decide +kernel
theorem dL_law_987 : decode cL_law 987 = .ok (.invokevirtual 125, 3) := by decide +kernel
theorem dL_law_990 : decode cL_law 990 = .ok (.if_icmp .eq 280, 3) := by decide +kernel
theorem dL_law_993 : decode cL_law 993 = .ok (.iconst 0, 1) := by decide +kernel
theorem dL_law_994 : decode cL_law 994 = .ok (.ireturn, 1) := by decide +kernel
theorem dL_law_995 : decode cL_law 995 = .ok (.aload_n 1, 1) := by decide +kernel
theorem dL_law_996 : decode cL_law 996 = .ok (.aload_n 0, 1) := by decide +kernel
theorem dL_law_997 : decode cL_law 997 = .ok (.iload 4, 2) := by decide +kernel
theorem dL_law_999 : decode cL_law 999 = .ok (.iconst 1, 1) := by decide +kernel
theorem dL_law_1000 : decode cL_law 1000 = .ok (.iadd, 1) := by decide +kernel
theorem dL_law_1001 : decode cL_law 1001 = .ok (.iaload, 1) := by decide +kernel
theorem dL_law_1002 : decode cL_law 1002 = .ok (.aload_n 3, 1) := by decide +kernel
theorem dL_law_1003 : decode cL_law 1003 = .ok (.invokestatic 126, 3) := by decide +kernel
theorem dL_law_1006 : decode cL_law 1006 = .ok (.istore 5, 2) := by decide +kernel
theorem dL_law_1008 : decode cL_law 1008 = .ok (.aload_n 2, 1) := by decide +kernel
theorem dL_law_1009 : decode cL_law 1009 = .ok (.aload_n 0, 1) := by decide +kernel
theorem dL_law_1010 : decode cL_law 1010 = .ok (.iload 4, 2) := by decide +kernel
theorem dL_law_1012 : decode cL_law 1012 = .ok (.iconst 1, 1) := by decide +kernel
theorem dL_law_1013 : decode cL_law 1013 = .ok (.iadd, 1) := by decide +kernel
theorem dL_law_1014 : decode cL_law 1014 = .ok (.iaload, 1) := by decide +kernel
theorem dL_law_1015 : decode cL_law 1015 = .ok (.invokevirtual 128, 3) := by decide +kernel
theorem dL_law_1018 : decode cL_law 1018 = .ok (.istore 6, 2) := by decide +kernel
theorem dL_law_1020 : decode cL_law 1020 = .ok (.aload_n 2, 1) := by decide +kernel
theorem dL_law_1021 : decode cL_law 1021 = .ok (.invokevirtual 80, 3) := by decide +kernel
theorem dL_law_1024 : decode cL_law 1024 = .ok (.iload 5, 2) := by decide +kernel
theorem dL_law_1026 : decode cL_law 1026 = .ok (.if_icmp .eq 5, 3) := by decide +kernel
theorem dL_law_1029 : decode cL_law 1029 = .ok (.iconst 0, 1) := by decide +kernel
theorem dL_law_1030 : decode cL_law 1030 = .ok (.ireturn, 1) := by decide +kernel
theorem dL_law_1031 : decode cL_law 1031 = .ok (.iload 5, 2) := by decide +kernel
theorem dL_law_1033 : decode cL_law 1033 = .ok (.ifCond .ne 15, 3) := by decide +kernel
theorem dL_law_1036 : decode cL_law 1036 = .ok (.aload_n 3, 1) := by decide +kernel
theorem dL_law_1037 : decode cL_law 1037 = .ok (.iconst 0, 1) := by decide +kernel
theorem dL_law_1038 : decode cL_law 1038 = .ok (.laload, 1) := by decide +kernel
theorem dL_law_1039 : decode cL_law 1039 = .ok (.iload 6, 2) := by decide +kernel
theorem dL_law_1041 : decode cL_law 1041 = .ok (.i2l, 1) := by decide +kernel
theorem dL_law_1042 : decode cL_law 1042 = .ok (.lcmp, 1) := by decide +kernel
theorem dL_law_1043 : decode cL_law 1043 = .ok (.ifCond .eq 5, 3) := by decide +kernel
theorem dL_law_1046 : decode cL_law 1046 = .ok (.iconst 0, 1) := by decide +kernel
theorem dL_law_1047 : decode cL_law 1047 = .ok (.ireturn, 1) := by decide +kernel
theorem dL_law_1048 : decode cL_law 1048 = .ok (.goto 222, 3) := by decide +kernel
theorem dL_law_1051 : decode cL_law 1051 = .ok (.aload_n 1, 1) := by decide +kernel
theorem dL_law_1052 : decode cL_law 1052 = .ok (.invokevirtual 129, 3) := by decide +kernel
theorem dL_law_1055 : decode cL_law 1055 = .ok (.aload_n 2, 1) := by decide +kernel
theorem dL_law_1056 : decode cL_law 1056 = .ok (.invokevirtual 132, 3) := by decide +kernel
theorem dL_law_1059 : decode cL_law 1059 = .ok (.if_icmp .eq 211, 3) := by decide +kernel
theorem dL_law_1062 : decode cL_law 1062 = .ok (.iconst 0, 1) := by decide +kernel
theorem dL_law_1063 : decode cL_law 1063 = .ok (.ireturn, 1) := by decide +kernel
theorem dL_law_1064 : decode cL_law 1064 = .ok (.aload_n 1, 1) := by decide +kernel
theorem dL_law_1065 : decode cL_law 1065 = .ok (.aload_n 0, 1) := by decide +kernel
theorem dL_law_1066 : decode cL_law 1066 = .ok (.iload 4, 2) := by decide +kernel
theorem dL_law_1068 : decode cL_law 1068 = .ok (.iconst 1, 1) := by decide +kernel
theorem dL_law_1069 : decode cL_law 1069 = .ok (.iadd, 1) := by decide +kernel
theorem dL_law_1070 : decode cL_law 1070 = .ok (.iaload, 1) := by decide +kernel
theorem dL_law_1071 : decode cL_law 1071 = .ok (.aload_n 3, 1) := by decide +kernel
theorem dL_law_1072 : decode cL_law 1072 = .ok (.invokestatic 133, 3) := by decide +kernel
theorem dL_law_1075 : decode cL_law 1075 = .ok (.istore 5, 2) := by decide +kernel
theorem dL_law_1077 : decode cL_law 1077 = .ok (.aload_n 2, 1) := by decide +kernel
theorem dL_law_1078 : decode cL_law 1078 = .ok (.aload_n 0, 1) := by decide +kernel
theorem dL_law_1079 : decode cL_law 1079 = .ok (.iload 4, 2) := by decide +kernel
theorem dL_law_1081 : decode cL_law 1081 = .ok (.iconst 1, 1) := by decide +kernel
theorem dL_law_1082 : decode cL_law 1082 = .ok (.iadd, 1) := by decide +kernel
theorem dL_law_1083 : decode cL_law 1083 = .ok (.iaload, 1) := by decide +kernel
theorem dL_law_1084 : decode cL_law 1084 = .ok (.invokevirtual 135, 3) := by decide +kernel
theorem dL_law_1087 : decode cL_law 1087 = .ok (.istore 6, 2) := by decide +kernel
theorem dL_law_1089 : decode cL_law 1089 = .ok (.aload_n 2, 1) := by decide +kernel
theorem dL_law_1090 : decode cL_law 1090 = .ok (.invokevirtual 80, 3) := by decide +kernel
theorem dL_law_1093 : decode cL_law 1093 = .ok (.iload 5, 2) := by decide +kernel
theorem dL_law_1095 : decode cL_law 1095 = .ok (.if_icmp .eq 5, 3) := by decide +kernel
theorem dL_law_1098 : decode cL_law 1098 = .ok (.iconst 0, 1) := by decide +kernel
theorem dL_law_1099 : decode cL_law 1099 = .ok (.ireturn, 1) := by decide +kernel
theorem dL_law_1100 : decode cL_law 1100 = .ok (.iload 5, 2) := by decide +kernel
theorem dL_law_1102 : decode cL_law 1102 = .ok (.ifCond .ne 15, 3) := by decide +kernel
theorem dL_law_1105 : decode cL_law 1105 = .ok (.aload_n 3, 1) := by decide +kernel
theorem dL_law_1106 : decode cL_law 1106 = .ok (.iconst 0, 1) := by decide +kernel
theorem dL_law_1107 : decode cL_law 1107 = .ok (.laload, 1) := by decide +kernel
theorem dL_law_1108 : decode cL_law 1108 = .ok (.iload 6, 2) := by decide +kernel
theorem dL_law_1110 : decode cL_law 1110 = .ok (.i2l, 1) := by decide +kernel
theorem dL_law_1111 : decode cL_law 1111 = .ok (.lcmp, 1) := by decide +kernel
theorem dL_law_1112 : decode cL_law 1112 = .ok (.ifCond .eq 5, 3) := by decide +kernel
theorem dL_law_1115 : decode cL_law 1115 = .ok (.iconst 0, 1) := by decide +kernel
theorem dL_law_1116 : decode cL_law 1116 = .ok (.ireturn, 1) := by decide +kernel
theorem dL_law_1117 : decode cL_law 1117 = .ok (.goto 153, 3) := by decide +kernel
theorem dL_law_1120 : decode cL_law 1120 = .ok (.aload_n 1, 1) := by decide +kernel
theorem dL_law_1121 : decode cL_law 1121 = .ok (.aload_n 0, 1) := by decide +kernel
theorem dL_law_1122 : decode cL_law 1122 = .ok (.iload 4, 2) := by decide +kernel
theorem dL_law_1124 : decode cL_law 1124 = .ok (.iconst 1, 1) := by decide +kernel
theorem dL_law_1125 : decode cL_law 1125 = .ok (.iadd, 1) := by decide +kernel
theorem dL_law_1126 : decode cL_law 1126 = .ok (.iaload, 1) := by decide +kernel
theorem dL_law_1127 : decode cL_law 1127 = .ok (.aload_n 0, 1) := by decide +kernel
theorem dL_law_1128 : decode cL_law 1128 = .ok (.iload 4, 2) := by decide +kernel
theorem dL_law_1130 : decode cL_law 1130 = .ok (.iconst 2, 1) := by decide +kernel
theorem dL_law_1131 : decode cL_law 1131 = .ok (.iadd, 1) := by decide +kernel
theorem dL_law_1132 : decode cL_law 1132 = .ok (.iaload, 1) := by decide +kernel
theorem dL_law_1133 : decode cL_law 1133 = .ok (.aload_n 3, 1) := by decide +kernel
theorem dL_law_1134 : decode cL_law 1134 = .ok (.invokestatic 136, 3) := by decide +kernel
theorem dL_law_1137 : decode cL_law 1137 = .ok (.istore 5, 2) := by decide +kernel
theorem dL_law_1139 : decode cL_law 1139 = .ok (.aload_n 2, 1) := by decide +kernel
theorem dL_law_1140 : decode cL_law 1140 = .ok (.aload_n 0, 1) := by decide +kernel
theorem dL_law_1141 : decode cL_law 1141 = .ok (.iload 4, 2) := by decide +kernel
theorem dL_law_1143 : decode cL_law 1143 = .ok (.iconst 1, 1) := by decide +kernel
theorem dL_law_1144 : decode cL_law 1144 = .ok (.iadd, 1) := by decide +kernel
theorem dL_law_1145 : decode cL_law 1145 = .ok (.iaload, 1) := by decide +kernel
theorem dL_law_1146 : decode cL_law 1146 = .ok (.aload_n 0, 1) := by decide +kernel
theorem dL_law_1147 : decode cL_law 1147 = .ok (.iload 4, 2) := by decide +kernel
theorem dL_law_1149 : decode cL_law 1149 = .ok (.iconst 2, 1) := by decide +kernel
theorem dL_law_1150 : decode cL_law 1150 = .ok (.iadd, 1) := by decide +kernel
theorem dL_law_1151 : decode cL_law 1151 = .ok (.iaload, 1) := by decide +kernel
theorem dL_law_1152 : decode cL_law 1152 = .ok (.invokevirtual 138, 3) := by decide +kernel
theorem dL_law_1155 : decode cL_law 1155 = .ok (.istore 6, 2) := by decide +kernel
theorem dL_law_1157 : decode cL_law 1157 = .ok (.aload_n 2, 1) := by decide +kernel
theorem dL_law_1158 : decode cL_law 1158 = .ok (.invokevirtual 80, 3) := by decide +kernel
theorem dL_law_1161 : decode cL_law 1161 = .ok (.iload 5, 2) := by decide +kernel
theorem dL_law_1163 : decode cL_law 1163 = .ok (.if_icmp .eq 5, 3) := by decide +kernel
theorem dL_law_1166 : decode cL_law 1166 = .ok (.iconst 0, 1) := by decide +kernel
theorem dL_law_1167 : decode cL_law 1167 = .ok (.ireturn, 1) := by decide +kernel
theorem dL_law_1168 : decode cL_law 1168 = .ok (.iload 5, 2) := by decide +kernel
theorem dL_law_1170 : decode cL_law 1170 = .ok (.ifCond .ne 15, 3) := by decide +kernel
theorem dL_law_1173 : decode cL_law 1173 = .ok (.aload_n 3, 1) := by decide +kernel
theorem dL_law_1174 : decode cL_law 1174 = .ok (.iconst 0, 1) := by decide +kernel
theorem dL_law_1175 : decode cL_law 1175 = .ok (.laload, 1) := by decide +kernel
theorem dL_law_1176 : decode cL_law 1176 = .ok (.iload 6, 2) := by decide +kernel
theorem dL_law_1178 : decode cL_law 1178 = .ok (.i2l, 1) := by decide +kernel
theorem dL_law_1179 : decode cL_law 1179 = .ok (.lcmp, 1) := by decide +kernel
theorem dL_law_1180 : decode cL_law 1180 = .ok (.ifCond .eq 5, 3) := by decide +kernel
theorem dL_law_1183 : decode cL_law 1183 = .ok (.iconst 0, 1) := by decide +kernel
theorem dL_law_1184 : decode cL_law 1184 = .ok (.ireturn, 1) := by decide +kernel
theorem dL_law_1185 : decode cL_law 1185 = .ok (.goto 85, 3) := by decide +kernel
theorem dL_law_1188 : decode cL_law 1188 = .ok (.aload_n 1, 1) := by decide +kernel
theorem dL_law_1189 : decode cL_law 1189 = .ok (.aload_n 0, 1) := by decide +kernel
theorem dL_law_1190 : decode cL_law 1190 = .ok (.iload 4, 2) := by decide +kernel
theorem dL_law_1192 : decode cL_law 1192 = .ok (.iconst 1, 1) := by decide +kernel
theorem dL_law_1193 : decode cL_law 1193 = .ok (.iadd, 1) := by decide +kernel
theorem dL_law_1194 : decode cL_law 1194 = .ok (.iaload, 1) := by decide +kernel
theorem dL_law_1195 : decode cL_law 1195 = .ok (.aload_n 3, 1) := by decide +kernel
theorem dL_law_1196 : decode cL_law 1196 = .ok (.invokestatic 139, 3) := by decide +kernel
theorem dL_law_1199 : decode cL_law 1199 = .ok (.istore 5, 2) := by decide +kernel
theorem dL_law_1201 : decode cL_law 1201 = .ok (.aload_n 2, 1) := by decide +kernel
theorem dL_law_1202 : decode cL_law 1202 = .ok (.aload_n 0, 1) := by decide +kernel
theorem dL_law_1203 : decode cL_law 1203 = .ok (.iload 4, 2) := by decide +kernel
theorem dL_law_1205 : decode cL_law 1205 = .ok (.iconst 1, 1) := by decide +kernel
theorem dL_law_1206 : decode cL_law 1206 = .ok (.iadd, 1) := by decide +kernel
theorem dL_law_1207 : decode cL_law 1207 = .ok (.iaload, 1) := by decide +kernel
theorem dL_law_1208 : decode cL_law 1208 = .ok (.invokevirtual 141, 3) := by decide +kernel
theorem dL_law_1211 : decode cL_law 1211 = .ok (.istore 6, 2) := by decide +kernel
theorem dL_law_1213 : decode cL_law 1213 = .ok (.aload_n 2, 1) := by decide +kernel
theorem dL_law_1214 : decode cL_law 1214 = .ok (.invokevirtual 80, 3) := by decide +kernel
theorem dL_law_1217 : decode cL_law 1217 = .ok (.iload 5, 2) := by decide +kernel
theorem dL_law_1219 : decode cL_law 1219 = .ok (.if_icmp .eq 5, 3) := by decide +kernel
theorem dL_law_1222 : decode cL_law 1222 = .ok (.iconst 0, 1) := by decide +kernel
theorem dL_law_1223 : decode cL_law 1223 = .ok (.ireturn, 1) := by decide +kernel
theorem dL_law_1224 : decode cL_law 1224 = .ok (.iload 5, 2) := by decide +kernel
theorem dL_law_1226 : decode cL_law 1226 = .ok (.ifCond .ne 15, 3) := by decide +kernel
theorem dL_law_1229 : decode cL_law 1229 = .ok (.aload_n 3, 1) := by decide +kernel
theorem dL_law_1230 : decode cL_law 1230 = .ok (.iconst 0, 1) := by decide +kernel
theorem dL_law_1231 : decode cL_law 1231 = .ok (.laload, 1) := by decide +kernel
theorem dL_law_1232 : decode cL_law 1232 = .ok (.iload 6, 2) := by decide +kernel
theorem dL_law_1234 : decode cL_law 1234 = .ok (.i2l, 1) := by decide +kernel
theorem dL_law_1235 : decode cL_law 1235 = .ok (.lcmp, 1) := by decide +kernel
theorem dL_law_1236 : decode cL_law 1236 = .ok (.ifCond .eq 5, 3) := by decide +kernel
theorem dL_law_1239 : decode cL_law 1239 = .ok (.iconst 0, 1) := by decide +kernel
theorem dL_law_1240 : decode cL_law 1240 = .ok (.ireturn, 1) := by decide +kernel
theorem dL_law_1241 : decode cL_law 1241 = .ok (.goto 29, 3) := by decide +kernel
theorem dL_law_1244 : decode cL_law 1244 = .ok (.aload_n 1, 1) := by decide +kernel
theorem dL_law_1245 : decode cL_law 1245 = .ok (.invokevirtual 142, 3) := by decide +kernel
theorem dL_law_1248 : decode cL_law 1248 = .ok (.aload_n 2, 1) := by decide +kernel
theorem dL_law_1249 : decode cL_law 1249 = .ok (.invokevirtual 145, 3) := by decide +kernel
theorem dL_law_1252 : decode cL_law 1252 = .ok (.if_icmp .eq 18, 3) := by decide +kernel
theorem dL_law_1255 : decode cL_law 1255 = .ok (.iconst 0, 1) := by decide +kernel
theorem dL_law_1256 : decode cL_law 1256 = .ok (.ireturn, 1) := by decide +kernel
theorem dL_law_1257 : decode cL_law 1257 = .ok (.aload_n 1, 1) := by decide +kernel
theorem dL_law_1258 : decode cL_law 1258 = .ok (.invokevirtual 146, 3) := by decide +kernel
theorem dL_law_1261 : decode cL_law 1261 = .ok (.aload_n 2, 1) := by decide +kernel
theorem dL_law_1262 : decode cL_law 1262 = .ok (.invokevirtual 150, 3) := by decide +kernel
theorem dL_law_1265 : decode cL_law 1265 = .ok (.if_icmp .eq 5, 3) := by decide +kernel
theorem dL_law_1268 : decode cL_law 1268 = .ok (.iconst 0, 1) := by decide +kernel
theorem dL_law_1269 : decode cL_law 1269 = .ok (.ireturn, 1) := by decide +kernel
theorem dL_law_1270 : decode cL_law 1270 = .ok (.iinc 4 4, 3) := by decide +kernel
theorem dL_law_1273 : decode cL_law 1273 = .ok (.goto (-1250), 3) := by decide +kernel
theorem dL_law_1276 : decode cL_law 1276 = .ok (.iconst 1, 1) := by decide +kernel
theorem dL_law_1277 : decode cL_law 1277 = .ok (.ireturn, 1) := by decide +kernel
abbrev vwCl : List vw_C := [(RX0, TX0, 4), (RX1, TX1, 6), (RX2, TX2, 6), (RX3, TX3, 5), (RX4, TX4, 3), (RX5, TX5, 3), (RX6, TX6, 3), (RX7, TX7, 14), (RX8, TX8, 37)]
end
