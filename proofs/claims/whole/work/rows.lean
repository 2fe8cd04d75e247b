section
-- ===== PART A: goes FIRST, ahead of the names: the tables' words, and 'selects' of the private methods out of them =====
/-- a private method of a class that the tables say can be made, by its rows of tables_1 -/
def lw_okq (q : MethodName × Nat) : Prop := (q.1.cls ≠ "java/lang/invoke/MethodHandle" ∧ q.1.cls ≠ "java/lang/invoke/VarHandle") ∧ Cond.instantiable q.1.cls q.2 ∈ tables_1 ∧ Cond.privateMethod q.1 ∈ tables_1 ∧ Cond.instanceMethod q.1 ∈ tables_1
theorem lw_p0 : lw_okq (⟨"HillFinder$Flight", "clearMoved", "()V"⟩, 6) := ⟨⟨by decide +kernel, by decide +kernel⟩, List.mem_of_getElem? (i := 126) (by decide +kernel), List.mem_of_getElem? (i := 352) (by decide +kernel), List.mem_of_getElem? (i := 353) (by decide +kernel)⟩
theorem lw_p1 : lw_okq (⟨"HillFinder$Flight", "spread", "(JII)V"⟩, 6) := ⟨⟨by decide +kernel, by decide +kernel⟩, List.mem_of_getElem? (i := 126) (by decide +kernel), List.mem_of_getElem? (i := 372) (by decide +kernel), List.mem_of_getElem? (i := 373) (by decide +kernel)⟩
theorem lw_p2 : lw_okq (⟨"HillFinder$Flight", "beginAgain", "()V"⟩, 6) := ⟨⟨by decide +kernel, by decide +kernel⟩, List.mem_of_getElem? (i := 126) (by decide +kernel), List.mem_of_getElem? (i := 387) (by decide +kernel), List.mem_of_getElem? (i := 388) (by decide +kernel)⟩
theorem lw_p3 : lw_okq (⟨"HillFinder$Flight", "dropUnfit", "(I)V"⟩, 6) := ⟨⟨by decide +kernel, by decide +kernel⟩, List.mem_of_getElem? (i := 126) (by decide +kernel), List.mem_of_getElem? (i := 410) (by decide +kernel), List.mem_of_getElem? (i := 411) (by decide +kernel)⟩
theorem lw_p4 : lw_okq (⟨"HillFinder$PathSearch", "rateEnds", "()V"⟩, 10) := ⟨⟨by decide +kernel, by decide +kernel⟩, List.mem_of_getElem? (i := 152) (by decide +kernel), List.mem_of_getElem? (i := 454) (by decide +kernel), List.mem_of_getElem? (i := 455) (by decide +kernel)⟩
theorem lw_p5 : lw_okq (⟨"HillFinder$PathSearch", "stepBack", "(I)V"⟩, 10) := ⟨⟨by decide +kernel, by decide +kernel⟩, List.mem_of_getElem? (i := 152) (by decide +kernel), List.mem_of_getElem? (i := 467) (by decide +kernel), List.mem_of_getElem? (i := 468) (by decide +kernel)⟩
theorem lw_p6 : lw_okq (⟨"HillFinder$PathSearch", "rate", "(IIII)V"⟩, 10) := ⟨⟨by decide +kernel, by decide +kernel⟩, List.mem_of_getElem? (i := 152) (by decide +kernel), List.mem_of_getElem? (i := 482) (by decide +kernel), List.mem_of_getElem? (i := 483) (by decide +kernel)⟩
theorem lw_p7 : lw_okq (⟨"HillFinder$PathSearch", "leads", "(III)Z"⟩, 10) := ⟨⟨by decide +kernel, by decide +kernel⟩, List.mem_of_getElem? (i := 152) (by decide +kernel), List.mem_of_getElem? (i := 487) (by decide +kernel), List.mem_of_getElem? (i := 488) (by decide +kernel)⟩
theorem lw_p8 : lw_okq (⟨"HillFinder$PathSearch", "bestFirst", "()I"⟩, 10) := ⟨⟨by decide +kernel, by decide +kernel⟩, List.mem_of_getElem? (i := 152) (by decide +kernel), List.mem_of_getElem? (i := 494) (by decide +kernel), List.mem_of_getElem? (i := 495) (by decide +kernel)⟩
theorem lw_p9 : lw_okq (⟨"HillFinder$PathSearch", "keepPath", "(I)V"⟩, 10) := ⟨⟨by decide +kernel, by decide +kernel⟩, List.mem_of_getElem? (i := 152) (by decide +kernel), List.mem_of_getElem? (i := 502) (by decide +kernel), List.mem_of_getElem? (i := 503) (by decide +kernel)⟩
theorem lw_p10 : lw_okq (⟨"HillFinder$TwinSearch", "countTwins", "(II)I"⟩, 11) := ⟨⟨by decide +kernel, by decide +kernel⟩, List.mem_of_getElem? (i := 189) (by decide +kernel), List.mem_of_getElem? (i := 523) (by decide +kernel), List.mem_of_getElem? (i := 524) (by decide +kernel)⟩
theorem lw_p11 : lw_okq (⟨"HillFinder$TwinSearch", "layRoute", "(II)Z"⟩, 11) := ⟨⟨by decide +kernel, by decide +kernel⟩, List.mem_of_getElem? (i := 189) (by decide +kernel), List.mem_of_getElem? (i := 527) (by decide +kernel), List.mem_of_getElem? (i := 528) (by decide +kernel)⟩
theorem lw_p12 : lw_okq (⟨"HillFinder$TwinSearch", "flyFromAll", "()V"⟩, 11) := ⟨⟨by decide +kernel, by decide +kernel⟩, List.mem_of_getElem? (i := 189) (by decide +kernel), List.mem_of_getElem? (i := 533) (by decide +kernel), List.mem_of_getElem? (i := 534) (by decide +kernel)⟩
theorem lw_p13 : lw_okq (⟨"HillFinder$TwinSearch", "isFlown", "(II)Z"⟩, 11) := ⟨⟨by decide +kernel, by decide +kernel⟩, List.mem_of_getElem? (i := 189) (by decide +kernel), List.mem_of_getElem? (i := 539) (by decide +kernel), List.mem_of_getElem? (i := 540) (by decide +kernel)⟩
theorem lw_p14 : lw_okq (⟨"HillFinder$TwinSearch", "areTwins", "(II)Z"⟩, 11) := ⟨⟨by decide +kernel, by decide +kernel⟩, List.mem_of_getElem? (i := 189) (by decide +kernel), List.mem_of_getElem? (i := 545) (by decide +kernel), List.mem_of_getElem? (i := 546) (by decide +kernel)⟩
theorem lw_p15 : lw_okq (⟨"HillFinder$Checks", "mend", "(II)I"⟩, 6) := ⟨⟨by decide +kernel, by decide +kernel⟩, List.mem_of_getElem? (i := 101) (by decide +kernel), List.mem_of_getElem? (i := 578) (by decide +kernel), List.mem_of_getElem? (i := 579) (by decide +kernel)⟩
def lw_privs_1 : List (MethodName × Nat) := [(⟨"HillFinder$Flight", "clearMoved", "()V"⟩, 6), (⟨"HillFinder$Flight", "spread", "(JII)V"⟩, 6), (⟨"HillFinder$Flight", "beginAgain", "()V"⟩, 6), (⟨"HillFinder$Flight", "dropUnfit", "(I)V"⟩, 6), (⟨"HillFinder$PathSearch", "rateEnds", "()V"⟩, 10), (⟨"HillFinder$PathSearch", "stepBack", "(I)V"⟩, 10), (⟨"HillFinder$PathSearch", "rate", "(IIII)V"⟩, 10), (⟨"HillFinder$PathSearch", "leads", "(III)Z"⟩, 10), (⟨"HillFinder$PathSearch", "bestFirst", "()I"⟩, 10), (⟨"HillFinder$PathSearch", "keepPath", "(I)V"⟩, 10), (⟨"HillFinder$TwinSearch", "countTwins", "(II)I"⟩, 11), (⟨"HillFinder$TwinSearch", "layRoute", "(II)Z"⟩, 11), (⟨"HillFinder$TwinSearch", "flyFromAll", "()V"⟩, 11), (⟨"HillFinder$TwinSearch", "isFlown", "(II)Z"⟩, 11), (⟨"HillFinder$TwinSearch", "areTwins", "(II)Z"⟩, 11), (⟨"HillFinder$Checks", "mend", "(II)I"⟩, 6)]
theorem lw_r1 : ∀ q ∈ lw_privs_1, lw_okq q := List.forall_mem_cons.mpr ⟨lw_p0, List.forall_mem_cons.mpr ⟨lw_p1, List.forall_mem_cons.mpr ⟨lw_p2, List.forall_mem_cons.mpr ⟨lw_p3, List.forall_mem_cons.mpr ⟨lw_p4, List.forall_mem_cons.mpr ⟨lw_p5, List.forall_mem_cons.mpr ⟨lw_p6, List.forall_mem_cons.mpr ⟨lw_p7, List.forall_mem_cons.mpr ⟨lw_p8, List.forall_mem_cons.mpr ⟨lw_p9, List.forall_mem_cons.mpr ⟨lw_p10, List.forall_mem_cons.mpr ⟨lw_p11, List.forall_mem_cons.mpr ⟨lw_p12, List.forall_mem_cons.mpr ⟨lw_p13, List.forall_mem_cons.mpr ⟨lw_p14, List.forall_mem_cons.mpr ⟨lw_p15, fun _ h => absurd h List.not_mem_nil⟩⟩⟩⟩⟩⟩⟩⟩⟩⟩⟩⟩⟩⟩⟩⟩
theorem lw_p16 : lw_okq (⟨"HillFinder$Checks", "hearAgainst", "(III)I"⟩, 6) := ⟨⟨by decide +kernel, by decide +kernel⟩, List.mem_of_getElem? (i := 101) (by decide +kernel), List.mem_of_getElem? (i := 587) (by decide +kernel), List.mem_of_getElem? (i := 588) (by decide +kernel)⟩
theorem lw_p17 : lw_okq (⟨"java/lang/Throwable", "fillInStackTrace", "(I)Ljava/lang/Throwable;"⟩, 6) := ⟨⟨by decide +kernel, by decide +kernel⟩, List.mem_of_getElem? (i := 667) (by decide +kernel), List.mem_of_getElem? (i := 665) (by decide +kernel), List.mem_of_getElem? (i := 666) (by decide +kernel)⟩
theorem lw_p18 : lw_okq (⟨"HillFinderModel", "four", "(I)V"⟩, 38) := ⟨⟨by decide +kernel, by decide +kernel⟩, List.mem_of_getElem? (i := 710) (by decide +kernel), List.mem_of_getElem? (i := 708) (by decide +kernel), List.mem_of_getElem? (i := 709) (by decide +kernel)⟩
theorem lw_p19 : lw_okq (⟨"HillFinderModel", "fly", "(I)V"⟩, 38) := ⟨⟨by decide +kernel, by decide +kernel⟩, List.mem_of_getElem? (i := 710) (by decide +kernel), List.mem_of_getElem? (i := 722) (by decide +kernel), List.mem_of_getElem? (i := 723) (by decide +kernel)⟩
theorem lw_p20 : lw_okq (⟨"HillFinderModel", "cells", "()I"⟩, 38) := ⟨⟨by decide +kernel, by decide +kernel⟩, List.mem_of_getElem? (i := 710) (by decide +kernel), List.mem_of_getElem? (i := 726) (by decide +kernel), List.mem_of_getElem? (i := 727) (by decide +kernel)⟩
theorem lw_p21 : lw_okq (⟨"HillFinderModel", "taken", "()V"⟩, 38) := ⟨⟨by decide +kernel, by decide +kernel⟩, List.mem_of_getElem? (i := 710) (by decide +kernel), List.mem_of_getElem? (i := 850) (by decide +kernel), List.mem_of_getElem? (i := 851) (by decide +kernel)⟩
theorem lw_p22 : lw_okq (⟨"HillFinderModel", "isCell", "(I)Z"⟩, 38) := ⟨⟨by decide +kernel, by decide +kernel⟩, List.mem_of_getElem? (i := 710) (by decide +kernel), List.mem_of_getElem? (i := 862) (by decide +kernel), List.mem_of_getElem? (i := 863) (by decide +kernel)⟩
theorem lw_p23 : lw_okq (⟨"HillFinderModel", "off", "(III)I"⟩, 38) := ⟨⟨by decide +kernel, by decide +kernel⟩, List.mem_of_getElem? (i := 710) (by decide +kernel), List.mem_of_getElem? (i := 870) (by decide +kernel), List.mem_of_getElem? (i := 871) (by decide +kernel)⟩
theorem lw_p24 : lw_okq (⟨"HillFinderModel", "weight", "(I)I"⟩, 38) := ⟨⟨by decide +kernel, by decide +kernel⟩, List.mem_of_getElem? (i := 710) (by decide +kernel), List.mem_of_getElem? (i := 874) (by decide +kernel), List.mem_of_getElem? (i := 875) (by decide +kernel)⟩
theorem lw_p25 : lw_okq (⟨"HillFinderModel", "withShare", "()I"⟩, 38) := ⟨⟨by decide +kernel, by decide +kernel⟩, List.mem_of_getElem? (i := 710) (by decide +kernel), List.mem_of_getElem? (i := 878) (by decide +kernel), List.mem_of_getElem? (i := 879) (by decide +kernel)⟩
theorem lw_p26 : lw_okq (⟨"HillFinderModel", "fits", "(II)Z"⟩, 38) := ⟨⟨by decide +kernel, by decide +kernel⟩, List.mem_of_getElem? (i := 710) (by decide +kernel), List.mem_of_getElem? (i := 886) (by decide +kernel), List.mem_of_getElem? (i := 887) (by decide +kernel)⟩
theorem lw_p27 : lw_okq (⟨"HillFinderModel", "throwsIf", "(Z)Z"⟩, 38) := ⟨⟨by decide +kernel, by decide +kernel⟩, List.mem_of_getElem? (i := 710) (by decide +kernel), List.mem_of_getElem? (i := 897) (by decide +kernel), List.mem_of_getElem? (i := 898) (by decide +kernel)⟩
theorem lw_p28 : lw_okq (⟨"HillFinderModel", "errs", "(II)I"⟩, 38) := ⟨⟨by decide +kernel, by decide +kernel⟩, List.mem_of_getElem? (i := 710) (by decide +kernel), List.mem_of_getElem? (i := 916) (by decide +kernel), List.mem_of_getElem? (i := 917) (by decide +kernel)⟩
theorem lw_p29 : lw_okq (⟨"HillFinderModel", "isBetter", "(IJIII)Z"⟩, 38) := ⟨⟨by decide +kernel, by decide +kernel⟩, List.mem_of_getElem? (i := 710) (by decide +kernel), List.mem_of_getElem? (i := 920) (by decide +kernel), List.mem_of_getElem? (i := 921) (by decide +kernel)⟩
theorem lw_p30 : lw_okq (⟨"HillFinderModel", "isAhead", "(II)Z"⟩, 38) := ⟨⟨by decide +kernel, by decide +kernel⟩, List.mem_of_getElem? (i := 710) (by decide +kernel), List.mem_of_getElem? (i := 924) (by decide +kernel), List.mem_of_getElem? (i := 925) (by decide +kernel)⟩
theorem lw_p31 : lw_okq (⟨"HillFinderModel", "isRoute", "(II)Z"⟩, 38) := ⟨⟨by decide +kernel, by decide +kernel⟩, List.mem_of_getElem? (i := 710) (by decide +kernel), List.mem_of_getElem? (i := 936) (by decide +kernel), List.mem_of_getElem? (i := 937) (by decide +kernel)⟩
def lw_privs_2 : List (MethodName × Nat) := [(⟨"HillFinder$Checks", "hearAgainst", "(III)I"⟩, 6), (⟨"java/lang/Throwable", "fillInStackTrace", "(I)Ljava/lang/Throwable;"⟩, 6), (⟨"HillFinderModel", "four", "(I)V"⟩, 38), (⟨"HillFinderModel", "fly", "(I)V"⟩, 38), (⟨"HillFinderModel", "cells", "()I"⟩, 38), (⟨"HillFinderModel", "taken", "()V"⟩, 38), (⟨"HillFinderModel", "isCell", "(I)Z"⟩, 38), (⟨"HillFinderModel", "off", "(III)I"⟩, 38), (⟨"HillFinderModel", "weight", "(I)I"⟩, 38), (⟨"HillFinderModel", "withShare", "()I"⟩, 38), (⟨"HillFinderModel", "fits", "(II)Z"⟩, 38), (⟨"HillFinderModel", "throwsIf", "(Z)Z"⟩, 38), (⟨"HillFinderModel", "errs", "(II)I"⟩, 38), (⟨"HillFinderModel", "isBetter", "(IJIII)Z"⟩, 38), (⟨"HillFinderModel", "isAhead", "(II)Z"⟩, 38), (⟨"HillFinderModel", "isRoute", "(II)Z"⟩, 38)]
theorem lw_r2 : ∀ q ∈ lw_privs_2, lw_okq q := List.forall_mem_cons.mpr ⟨lw_p16, List.forall_mem_cons.mpr ⟨lw_p17, List.forall_mem_cons.mpr ⟨lw_p18, List.forall_mem_cons.mpr ⟨lw_p19, List.forall_mem_cons.mpr ⟨lw_p20, List.forall_mem_cons.mpr ⟨lw_p21, List.forall_mem_cons.mpr ⟨lw_p22, List.forall_mem_cons.mpr ⟨lw_p23, List.forall_mem_cons.mpr ⟨lw_p24, List.forall_mem_cons.mpr ⟨lw_p25, List.forall_mem_cons.mpr ⟨lw_p26, List.forall_mem_cons.mpr ⟨lw_p27, List.forall_mem_cons.mpr ⟨lw_p28, List.forall_mem_cons.mpr ⟨lw_p29, List.forall_mem_cons.mpr ⟨lw_p30, List.forall_mem_cons.mpr ⟨lw_p31, fun _ h => absurd h List.not_mem_nil⟩⟩⟩⟩⟩⟩⟩⟩⟩⟩⟩⟩⟩⟩⟩⟩
theorem lw_p32 : lw_okq (⟨"HillFinderModel", "pairs", "(II)I"⟩, 38) := ⟨⟨by decide +kernel, by decide +kernel⟩, List.mem_of_getElem? (i := 710) (by decide +kernel), List.mem_of_getElem? (i := 940) (by decide +kernel), List.mem_of_getElem? (i := 941) (by decide +kernel)⟩
def lw_privs_3 : List (MethodName × Nat) := [(⟨"HillFinderModel", "pairs", "(II)I"⟩, 38)]
theorem lw_r3 : ∀ q ∈ lw_privs_3, lw_okq q := List.forall_mem_cons.mpr ⟨lw_p32, fun _ h => absurd h List.not_mem_nil⟩
def lw_privs : List (MethodName × Nat) := lw_privs_1 ++ (lw_privs_2 ++ (lw_privs_3))
def lw_tbl : List Cond := k2_sels lw_privs ++ tables_1
theorem lw_privs_ok : ∀ q ∈ lw_privs, lw_okq q := by
  show ∀ q ∈ lw_privs_1 ++ (lw_privs_2 ++ (lw_privs_3)), lw_okq q
  exact List.forall_mem_append.mpr ⟨lw_r1, List.forall_mem_append.mpr ⟨lw_r2, lw_r3⟩⟩
end
section
/-! ===== BEGIN words of one list among another's, by their places ===== -/
theorem goodIn_r {big : List Cond} (ws : List Cond) (ps : List Nat) (hp : ws = ps.filterMap (fun i => big[i]?)) (h : ws.all goodWord = true) : GoodIn big ws := by
  intro w hw
  have h1 := List.all_eq_true.mp h w hw
  rw [hp] at hw
  obtain ⟨i, -, hi⟩ := List.mem_filterMap.mp hw
  have hm : w ∈ big := by first | exact List.mem_of_getElem? hi | exact List.getElem?_mem hi
  exact ⟨hm, good_of_word h1⟩
theorem goodIn_app {big a b : List Cond} (ha : GoodIn big a) (hb : GoodIn big b) : GoodIn big (a ++ b) := fun w h => (List.mem_append.mp h).elim (ha w) (hb w)
theorem goodIn_ca {big a b : List Cond} {c : Cond} (ha : GoodIn big (c :: a)) (hb : GoodIn big b) : GoodIn big (c :: (a ++ b)) := fun w h => (List.mem_cons.mp h).elim (fun e => ha w (List.mem_cons.mpr (Or.inl e))) (fun h => (List.mem_append.mp h).elim (fun h => ha w (List.mem_cons.mpr (Or.inr h))) (hb w))
theorem goodIn_sub {big ws : List Cond} (hm : ∀ w ∈ ws, w ∈ big) (h : ws.all goodWord = true) : GoodIn big ws := fun w hw => ⟨hm w hw, good_of_word (List.all_eq_true.mp h w hw)⟩
/-! ===== END ===== -/

/-! ===== BEGIN exceptions that leave a method, and their catching by the caller (launches without stack traces) ===== -/
section VXA
/-! The laws vx_back, vx_callV, vx_callS, vx_callSW, vx_throw0, vx_throwS follow proofs of the library, with one case more: JvmDerived/Free/Laws.lean (Back.of_free), Shelf42/LK1.lean (callV, callS), Shelf/KitTraced.lean (throwNew0V, throwNewS). -/
/-- where a method has thrown q: the class by its name, the cell, what was written, the world -/
def vx_T (XC : String → State → State → Prop) (st : State) (q : Addr) (t : State) (mc ms : Nat) (free : Addr → Prop) : Prop :=
  ∃ (E : String) (ce : Cell) (L : List Loc), XC E st t ∧ t.heap[q]? = some ce ∧ ce.vm = .none ∧ st.vm.findClass E = some ce.cls ∧ st.WarmedH t.vm ∧ st.sameButNew ({ t with vm := st.vm } : State) L mc ms ∧ ∀ z ∈ L, free z.base
def vx_Q (Qc : Array Value → State → Outcome → State → Prop) (XC : String → State → State → Prop) (mc ms : Nat) (free : Addr → Prop) : Array Value → State → Outcome → State → Prop := fun a st o t =>
  (Qc a st o t ∧ ∃ L, FrameEnd st o t L mc ms ∧ ∀ q ∈ L, free q.base) ∨ ∃ q, o = .threw q ∧ vx_T XC st q t mc ms free
/-- a callee that returns or throws -/
def vx_Met (l : Launch) (y : MethodName) (ws : List Cond) (rm : Room) (Pc : Array Value → State → Prop) (Qc : Array Value → State → Outcome → State → Prop) (XC : String → State → State → Prop) (mc ms : Nat) (free : Addr → Prop) : Prop :=
  MetFree l y (headSpec ws rm) Pc (fun _ _ _ _ _ => True) (vx_Q Qc XC mc ms free)
def vx_Post (XC : String → State → State → Prop) (mc ms : Nat) (free : Addr → Prop) : Pt → Array Value → Addr → Pt → Prop := fun A a q B =>
  ∃ (g : JFrame) (mk : MethodId) (t : State) (L : List Loc) (E : String) (ce : Cell), B.U.heap = t.heap ∧ B.U.vm = t.vm ∧ XC E (A.U.calling g mk a) t ∧ t.heap[q]? = some ce ∧ ce.vm = .none ∧ A.U.vm.findClass E = some ce.cls ∧ B.locs = A.locs ++ L ∧ (∀ z ∈ L, free z.base) ∧ B.cells = A.cells + mc ∧ B.slots = A.slots + ms
def vx_Back (l : Launch) (R : Room) (p : Program) (e : Env) (below : List Frame) (s : State) (sargs : Array Value) (y : MethodName) (len W9 : Nat)
    (Pre : Pt → Array Value → Prop) (Post : Pt → Array Value → Option Value → Pt → Prop) (PostX : Pt → Array Value → Addr → Pt → Prop) : Prop :=
  ∀ (m : MethodId) (meth : Method) (c : Code) (A : Pt) (g : JFrame) (ig : Instr) (mk : MethodId) (a : Array Value),
    Stand p l e R s m sargs below meth c A.U A.locs A.cells A.slots → g.method = m → g.locals.size = c.maxLocals → decode c.code g.pc = .ok (ig, len) →
    2 * g.monitorRoom + (g.stack.map fun v => v.category).sum ≤ W9 → A.U.methodNamed? y = some mk → Pre A a →
    (∃ (v : Option Value) (B : Pt), Stand p l e R s m sargs below meth c B.U B.locs B.cells B.slots ∧ Post A a v B ∧
      Steps p.tables e below (doInvoke e (A.U.setTop g) [] mk a).1 (B.U.setTop { g with pc := g.pc + len, stack := v.toList ++ g.stack })) ∨
    (∃ (q : Addr) (B : Pt), Stand p l e R s m sargs below meth c B.U B.locs B.cells B.slots ∧ PostX A a q B ∧
      Steps p.tables e below (doInvoke e (A.U.setTop g) [] mk a).1 ((B.U.setTop g).pushFrame (.throwing q)))
section Payer
variable {l : Launch} {R : Room} {p : Program} {e : Env} {below : List Frame} {s : State} {sargs : Array Value} {y : MethodName} {len W9 : Nat}
theorem vx_back {ws : List Cond} {rm : Room} {Pc : Array Value → State → Prop} {Qc : Array Value → State → Outcome → State → Prop} {XC : String → State → State → Prop} {mc ms : Nat} {free : Addr → Prop} {bytes : ByteArray} {maxL : Nat} {ret : Option FieldType}
    (hM : vx_Met l y ws rm Pc Qc XC mc ms free) (hblind : FrameBlind Pc) (hrc : rm.cells = mc) (hrs : rm.slots = ms)
    (hframes : rm.frames + 1 ≤ R.frames) (hlocals : W9 + (maxL + 11) + rm.locals ≤ R.locals)
    (hws : ∀ w ∈ ws, ∀ a' U, s.WarmedH U.vm → w.before a' U = true) (hcode : Cond.code y bytes maxL ret ∈ ws) (hinit : ∀ a' U, s.WarmedH U.vm → (Cond.initialized y.cls).before a' U = true) :
    vx_Back l R p e below s sargs y len W9 (PreOf R mc ms Pc) (PostOf Qc mc ms free) (vx_Post XC mc ms free) := by
  intro m meth c A g ig mk a X hg hsize hdg hW hn hp
  have h1 : (headSpec ws rm).pre.before a A.U = true := atoms_intro fun w hw => hws w hw _ _ X.warmed
  have h2 : (Cond.code y bytes maxL ret).before a A.U = true := hws _ hcode _ _ X.warmed
  have h3 : (Cond.initialized y.cls).before a A.U = true := hinit _ _ X.warmed
  have h4 : A.cells + (headSpec ws rm).room.cells ≤ R.cells := by rw [show (headSpec ws rm).room.cells = mc from hrc]; exact hp.1
  have h5 : A.slots + (headSpec ws rm).room.slots ≤ R.slots := by rw [show (headSpec ws rm).room.slots = ms from hrs]; exact hp.2.1
  have hPc : Pc a (A.U.calling g mk a) := hblind _ _ _ _ hp.2.2
  obtain ⟨U, Ls, c0, s0⟩ := A
  dsimp only [Pt.U, Pt.locs, Pt.cells, Pt.slots] at h1 h2 h3 h4 h5 X hn hPc ⊢
  obtain ⟨methY, cY, hmY, hcY, -, hlY, -, -, -, -⟩ := Cond.code_spec hn h2
  obtain ⟨kY, hkY, -⟩ := className_of_methodNamed hn
  have hinitY : kY.init = .initialized := Cond.initialized_spec (findClass_of_methodNamed hn) hkY h3
  have h : At U g.method c below := by rw [hg]; exact X.here
  have hlocals9 : W9 + (maxL + 11) + (headSpec ws rm).room.locals ≤ R.locals := hlocals
  have happ : (headSpec ws rm).appliesLoose y e.platform (U.calling g mk a) = true :=
    Spec.appliesLoose_calling (g := g) h hdg hn hkY hinitY
      (X.room_calling (g := g) (R' := (headSpec ws rm).room) hsize hmY hcY hframes (by rw [hlY]; omega) h4 h5) h1
  obtain ⟨mid, hmid⟩ := h.above
  have hfr : (U.setTop g).frames = (.java g :: mid) ++ below := by rw [State.frames_setTop' g h.top, hmid]; rfl
  obtain ⟨o, s₂, hsteps, -, hend, hq⟩ := Steps.callFree hM p X.admits X.cas X.clock (acts := []) hfr happ hPc trivial
  have hq' : vx_Q Qc XC mc ms free a (U.calling g mk a) o s₂ := hq
  rw [State.frames_setTop' g h.top] at hend
  obtain ⟨g₀, hg0⟩ := Option.isSome_iff_exists.mp h.top
  obtain ⟨r, hr⟩ := State.topJava?_eq_some.mp hg0
  have hr' : (({ U with heap := s₂.heap, slotsUsed := s₂.slotsUsed } : State).setVm s₂.vm).frames = .java g₀ :: r := hr
  rcases hq' with ⟨hqc, L, hfe, hL⟩ | ⟨q, rfl, E, ce, L, hx, hce, hcv, hcl, hW₂, hsm, hL⟩
  · obtain ⟨⟨v, rfl⟩, hW₂, e2, q2, q3, q4, q5, q6⟩ := id hfe
    have e3 : s₂ = ({ (U.calling g mk a).setFrames s₂.frames with heap := s₂.heap, slotsUsed := s₂.slotsUsed } : State).setVm s₂.vm := by
      have : s₂ = ({ s₂ with vm := (U.calling g mk a).vm } : State).setVm s₂.vm := rfl
      rw [e2] at this
      exact this
    obtain ⟨c₂, i₂, len₂, hc₂, hd₂, hf₂⟩ := hend
    have hW' : U.WarmedH s₂.vm := hW₂
    have hcc : c₂ = c := by
      have h1 : s₂.code? g.method = U.code? g.method := by
        rw [State.code?_eq, State.code?_eq, hW'.alike.method?]
      exact Option.some.inj (hc₂.symm.trans (h1.trans h.code))
    subst hcc
    have hlen : len₂ = len := by rw [hdg] at hd₂; cases hd₂; rfl
    subst hlen
    have hs₂ : s₂ = (({ U with heap := s₂.heap, slotsUsed := s₂.slotsUsed } : State).setVm s₂.vm).setTop { g with pc := g.pc + len₂, stack := v.toList ++ g.stack } := by
      refine e3.trans ?_
      rw [hf₂, State.calling_eq h.top, State.setFrames_setFrames, State.setTop_of_frames _ hr', hr]
      rfl
    have hsame : U.sameButNew ({ U with heap := s₂.heap, slotsUsed := s₂.slotsUsed } : State) L mc ms := by
      refine ⟨?_, q2, q3, q4, q5, q6⟩
      obtain ⟨t, ht, -⟩ := State.frames_cons hr
      show ({ U with heap := s₂.heap, slotsUsed := s₂.slotsUsed } : State) = { U.setFrames U.frames with heap := s₂.heap, slotsUsed := s₂.slotsUsed }
      rw [State.setFrames_self ht]
    subst hg
    refine Or.inl ⟨v, ⟨(({ U with heap := s₂.heap, slotsUsed := s₂.slotsUsed } : State).setVm s₂.vm), Ls ++ L, c0 + mc, s0 + ms⟩,
      ⟨X.admits, X.cas, X.clock, X.frames, X.room, X.hears, X.method, X.code, (X.here.setHeapUsed s₂.heap s₂.slotsUsed).setVm hW'.alike, X.tail, State.WarmedH.trans X.warmed hW', X.limits, X.bytes, X.same.trans (hsame.setVm s.vm)⟩,
      ⟨g, mk, s₂, L, rfl, rfl, hqc, rfl, hL, rfl, rfl⟩, ?_⟩
    show Steps p.tables e below _ ((({ U with heap := s₂.heap, slotsUsed := s₂.slotsUsed } : State).setVm s₂.vm).setTop { g with pc := g.pc + len₂, stack := v.toList ++ g.stack })
    rw [← hs₂]
    exact hsteps
  · obtain ⟨e2, q2, q3, q4, q5, q6⟩ := id hsm
    have e3 : s₂ = ({ (U.calling g mk a).setFrames s₂.frames with heap := s₂.heap, slotsUsed := s₂.slotsUsed } : State).setVm s₂.vm := by
      have : s₂ = ({ s₂ with vm := (U.calling g mk a).vm } : State).setVm s₂.vm := rfl
      rw [e2] at this
      exact this
    have hf₂ : s₂.frames = .throwing q :: .java g :: U.frames.tail := hend
    have hW' : U.WarmedH s₂.vm := hW₂
    have hs₂ : s₂ = ((({ U with heap := s₂.heap, slotsUsed := s₂.slotsUsed } : State).setVm s₂.vm).setTop g).pushFrame (.throwing q) := by
      refine e3.trans ?_
      rw [hf₂, State.calling_eq h.top, State.setFrames_setFrames, State.pushFrame, State.frames_setTop _ hr', State.setTop_of_frames _ hr', State.setFrames_setFrames, hr]
      rfl
    have hsame : U.sameButNew ({ U with heap := s₂.heap, slotsUsed := s₂.slotsUsed } : State) L mc ms := by
      refine ⟨?_, q2, q3, q4, q5, q6⟩
      obtain ⟨t, ht, -⟩ := State.frames_cons hr
      show ({ U with heap := s₂.heap, slotsUsed := s₂.slotsUsed } : State) = { U.setFrames U.frames with heap := s₂.heap, slotsUsed := s₂.slotsUsed }
      rw [State.setFrames_self ht]
    subst hg
    refine Or.inr ⟨q, ⟨(({ U with heap := s₂.heap, slotsUsed := s₂.slotsUsed } : State).setVm s₂.vm), Ls ++ L, c0 + mc, s0 + ms⟩,
      ⟨X.admits, X.cas, X.clock, X.frames, X.room, X.hears, X.method, X.code, (X.here.setHeapUsed s₂.heap s₂.slotsUsed).setVm hW'.alike, X.tail, State.WarmedH.trans X.warmed hW', X.limits, X.bytes, X.same.trans (hsame.setVm s.vm)⟩,
      ⟨g, mk, s₂, L, E, ce, rfl, rfl, hx, hce, hcv, hcl, rfl, hL, rfl, rfl⟩, ?_⟩
    show Steps p.tables e below _ (((({ U with heap := s₂.heap, slotsUsed := s₂.slotsUsed } : State).setVm s₂.vm).setTop g).pushFrame (.throwing q))
    rw [← hs₂]
    exact hsteps
end Payer
section Calls
variable {p : Program} {l : Launch} {e : Env} {R : Room} {s : State} {m : MethodId} {args : Array Value} {below : List Frame} {meth : Method} {c : Code} {T : State} {locs : List Loc} {cells slots : Nat}
theorem vx_callV (X : Stand p l e R s m args below meth c T locs cells slots) (hexec : p.tables.exec = Jvm.exec) {own C : String} {index : Nat} {y : MethodName} {bytes : ByteArray} {maxL : Nat} {ret : Option FieldType}
    (hown : s.vm.findClass own = some m.cls) (hlink : (Cond.methodLink own index y).before args s = true) (hinst : (Cond.instanceMethod y).before args s = true) (hsel : (Cond.selects C y y).before args s = true)
    (hcode : (Cond.code y bytes maxL ret).before args s = true) (hy : y.cls ≠ "java/lang/invoke/MethodHandle" ∧ y.cls ≠ "java/lang/invoke/VarHandle")
    {W9 : Nat} {Pre : Pt → Array Value → Prop} {Post : Pt → Array Value → Option Value → Pt → Prop} {PostX : Pt → Array Value → Addr → Pt → Prop} (hK : vx_Back l R p e below s args y 3 W9 Pre Post PostX)
    {b : Addr} {cellB : Cell} (hcell : T.heap[b]? = some cellB) (hobj : cellB.vm.isStatics = false) (hcls : s.vm.findClass C = some cellB.cls)
    {g : JFrame} (hg : g.method = m) (hsize : g.locals.size = c.maxLocals) {argsL rest : List Value} (hlen : ∀ sig, parseMethodDescriptor y.desc = some sig → argsL.length = sig.parameters.length)
    (hstack : g.stack = argsL.reverse ++ .ref b :: rest) (hW : 2 * g.monitorRoom + (rest.map fun v => v.category).sum ≤ W9) (hdg : decode c.code g.pc = .ok (.invokevirtual index, 3))
    (hpre : ∀ vm₁, s.WarmedH vm₁ → Pre ⟨T.setVm vm₁, locs, cells, slots⟩ (Value.ref b :: argsL).toArray) :
    (∃ (v : Option Value) (vm₁ : Vm) (B : Pt), s.WarmedH vm₁ ∧ Stand p l e R s m args below meth c B.U B.locs B.cells B.slots ∧ Post ⟨T.setVm vm₁, locs, cells, slots⟩ (Value.ref b :: argsL).toArray v B ∧
      ∀ target, Steps p.tables e below (B.U.setTop { g with pc := g.pc + 3, stack := v.toList ++ rest }) target → Steps p.tables e below (T.setTop g) target) ∨
    (∃ (q : Addr) (vm₁ : Vm) (B : Pt), s.WarmedH vm₁ ∧ Stand p l e R s m args below meth c B.U B.locs B.cells B.slots ∧ PostX ⟨T.setVm vm₁, locs, cells, slots⟩ (Value.ref b :: argsL).toArray q B ∧
      Steps p.tables e below (T.setTop g) ((B.U.setTop { g with stack := rest }).pushFrame (.throwing q))) := by
  obtain ⟨mk, methM, hnamed, hmethM, hstM, habM⟩ := Cond.instanceMethod_spec hinst
  obtain ⟨methM', cM, hmethM', -, -, -, -, -, -, hsigM⟩ := Cond.code_spec hnamed hcode
  cases hmethM.symm.trans hmethM'
  obtain ⟨c2, r2, m2, q1, q2, q3, q4, kP, hkP, hkPi⟩ := Cond.selects_spec hsel
  cases hcls.symm.trans q1
  cases (State.methodFound?_of_named hnamed hy).symm.trans q2
  cases hnamed.symm.trans q3
  have hselP : selectMethod e.platform s.vm cellB.cls mk = .method mk := by rw [Launch.admits_selectMethod X.admits]; exact q4
  obtain ⟨vm₁, X₁, hstep₁⟩ := X.invokevirtual hexec hown hlink hnamed hmethM hstM hkP hkPi hy (a := b) (cell := cellB) hcell
    (fun z h => by rw [h] at hobj; cases hobj) hselP hmethM habM hkP hkPi (g := g) hg (argsL := argsL) (rest := rest) (hlen _ hsigM) hstack hdg
  rcases hK m meth c ⟨T.setVm vm₁, locs, cells, slots⟩ { g with stack := rest } (.invokevirtual index) mk (Value.ref b :: argsL).toArray X₁ hg hsize hdg hW (X₁.named hnamed) (hpre vm₁ X₁.warmed) with ⟨v, B, X', hpost, hsteps⟩ | ⟨q, B, X', hpost, hsteps⟩
  · exact Or.inl ⟨v, vm₁, B, X₁.warmed, X', hpost, fun target h => hstep₁ _ fun acts => by rw [doInvoke_state]; exact hsteps.trans h⟩
  · exact Or.inr ⟨q, vm₁, B, X₁.warmed, X', hpost, hstep₁ _ fun acts => by rw [doInvoke_state]; exact hsteps⟩
theorem vx_callS (X : Stand p l e R s m args below meth c T locs cells slots) (hexec : p.tables.exec = Jvm.exec) {own : String} {index : Nat} {y : MethodName} {bytes : ByteArray} {maxL : Nat} {ret : Option FieldType}
    (hown : s.vm.findClass own = some m.cls) (hlink : (Cond.methodLink own index y).before args s = true) (hstat : (Cond.static y).before args s = true) (hinit : (Cond.initialized y.cls).before args s = true)
    (hcode : (Cond.code y bytes maxL ret).before args s = true) (hy : y.cls ≠ "java/lang/invoke/MethodHandle" ∧ y.cls ≠ "java/lang/invoke/VarHandle")
    {W9 : Nat} {Pre : Pt → Array Value → Prop} {Post : Pt → Array Value → Option Value → Pt → Prop} {PostX : Pt → Array Value → Addr → Pt → Prop} (hK : vx_Back l R p e below s args y 3 W9 Pre Post PostX)
    {g : JFrame} (hg : g.method = m) (hsize : g.locals.size = c.maxLocals) {argsL rest : List Value} (hlen : ∀ sig, parseMethodDescriptor y.desc = some sig → argsL.length = sig.parameters.length)
    (hstack : g.stack = argsL.reverse ++ rest) (hW : 2 * g.monitorRoom + (rest.map fun v => v.category).sum ≤ W9) (hdg : decode c.code g.pc = .ok (.invokestatic index, 3))
    (hpre : ∀ vm₁, s.WarmedH vm₁ → Pre ⟨T.setVm vm₁, locs, cells, slots⟩ argsL.toArray) :
    (∃ (v : Option Value) (vm₁ : Vm) (B : Pt), s.WarmedH vm₁ ∧ Stand p l e R s m args below meth c B.U B.locs B.cells B.slots ∧ Post ⟨T.setVm vm₁, locs, cells, slots⟩ argsL.toArray v B ∧
      ∀ target, Steps p.tables e below (B.U.setTop { g with pc := g.pc + 3, stack := v.toList ++ rest }) target → Steps p.tables e below (T.setTop g) target) ∨
    (∃ (q : Addr) (vm₁ : Vm) (B : Pt), s.WarmedH vm₁ ∧ Stand p l e R s m args below meth c B.U B.locs B.cells B.slots ∧ PostX ⟨T.setVm vm₁, locs, cells, slots⟩ argsL.toArray q B ∧
      Steps p.tables e below (T.setTop g) ((B.U.setTop { g with stack := rest }).pushFrame (.throwing q))) := by
  obtain ⟨mk, hnamed⟩ := Cond.code_named hcode
  obtain ⟨methM, cM, hmethM, -, -, -, -, -, -, hsigM⟩ := Cond.code_spec hnamed hcode
  have hstatic : methM.isStatic = true := Cond.static_spec hnamed hmethM hstat
  obtain ⟨kP, hkP, -⟩ := className_of_methodNamed hnamed
  have hinitP : kP.init = .initialized := Cond.initialized_spec (findClass_of_methodNamed hnamed) hkP hinit
  obtain ⟨vm₁, X₁, hstep₁⟩ := X.invokestatic hexec hown hlink hnamed hmethM hstatic hkP hinitP hy (g := g) hg (argsL := argsL) (rest := rest) (hlen _ hsigM) hstack hdg
  rcases hK m meth c ⟨T.setVm vm₁, locs, cells, slots⟩ { g with stack := rest } (.invokestatic index) mk argsL.toArray X₁ hg hsize hdg hW (X₁.named hnamed) (hpre vm₁ X₁.warmed) with ⟨v, B, X', hpost, hsteps⟩ | ⟨q, B, X', hpost, hsteps⟩
  · exact Or.inl ⟨v, vm₁, B, X₁.warmed, X', hpost, fun target h => hstep₁ _ fun acts => by rw [doInvoke_state]; exact hsteps.trans h⟩
  · exact Or.inr ⟨q, vm₁, B, X₁.warmed, X', hpost, hstep₁ _ fun acts => by rw [doInvoke_state]; exact hsteps⟩
end Calls
theorem vx_cls {s : State} {T : State} {vm₁ : Vm} {E : String} {k : ClassId} (hW : s.WarmedH vm₁) (h : (T.setVm vm₁).vm.findClass E = some k) : s.vm.findClass E = some k := by
  have h1 : vm₁.findClass E = some k := h
  rw [hW.alike.findClass] at h1
  exact h1
/-- the method's frame g, with q thrown over it -/
def vx_W (p : Program) (l : Launch) (e : Env) (R : Room) (s : State) (m : MethodId) (args : Array Value) (below : List Frame) (meth : Method) (c : Code) (H : Heap) (locs : List Loc) (cells slots : Nat) (Q : State → Prop) (g : JFrame) (q : Addr) : Prop :=
  ∀ T : State, T.heap = H → Stand p l e R s m args below meth c T locs cells slots → ∃ t, Steps p.tables e below ((T.setTop g).pushFrame (.throwing q)) t ∧ Q t
def vx_Run (p : Program) (l : Launch) (e : Env) (R : Room) (s : State) (m : MethodId) (args : Array Value) (below : List Frame) (meth : Method) (c : Code) (H : Heap) (locs : List Loc) (cells slots mc ms : Nat) (g : JFrame) (rest : List Value) (Qa : State → Outcome → State → Prop) (XC : String → State → State → Prop) (free : Addr → Prop) : Prop :=
  ∀ T : State, T.heap = H → Stand p l e R s m args below meth c T locs cells slots →
    (∃ (v : Option Value) (st₀ t T' : State) (L : List Loc), st₀.heap = H ∧ Stand p l e R s m args below meth c T' (locs ++ L) (cells + mc) (slots + ms) ∧ (∀ q ∈ L, free q.base) ∧ T'.heap = t.heap ∧ T'.vm = t.vm ∧ Qa st₀ (.returned v) t ∧
      Goes p e below T g T' { g with pc := g.pc + 3, stack := v.toList ++ rest }) ∨
    (∃ (q : Addr) (st₀ t T' : State) (L : List Loc) (E : String) (ce : Cell), st₀.heap = H ∧ Stand p l e R s m args below meth c T' (locs ++ L) (cells + mc) (slots + ms) ∧ (∀ z ∈ L, free z.base) ∧ T'.heap = t.heap ∧ T'.vm = t.vm ∧ XC E st₀ t ∧ t.heap[q]? = some ce ∧ ce.vm = .none ∧ s.vm.findClass E = some ce.cls ∧
      Steps p.tables e below (T.setTop g) ((T'.setTop { g with stack := rest }).pushFrame (.throwing q)))
def vx_X {S : Type} (px : S → Prop) (B : String → S → State → Prop) (A : Nat → Prop) : String → State → State → Prop := fun E st t => ∃ u : S, px u ∧ B E u t ∧ va_F A st t
section Runs
variable {p : Program} {l : Launch} {e : Env} {R : Room} {s : State} {m : MethodId} {args : Array Value} {below : List Frame} {meth : Method} {c : Code} {H : Heap} {locs : List Loc} {cells slots : Nat}
variable {y : MethodName} {bytes cc : ByteArray} {maxL nL mc ms n index : Nat} {ret : Option FieldType} {ws : List Cond} {rm : Room} {Pc : Array Value → State → Prop} {Qc : Array Value → State → Outcome → State → Prop} {XC : String → State → State → Prop} {free : Addr → Prop} {Ts : List Cond} {own C : String} {b : Addr} {As rest : List Value} {g : JFrame}
theorem vx_callBack (cb : CallB R s args own index y bytes maxL ret ws rm mc ms n) (hM : vx_Met l y ws rm Pc Qc XC mc ms free) (hbl : FrameBlind Pc) : vx_Back l R p e below s args y 3 8 (PreOf R mc ms Pc) (PostOf Qc mc ms free) (vx_Post XC mc ms free) := by
  obtain ⟨hrc, hrs, hfr, hlo, hws, hcw, -, hini, -⟩ := cb
  exact vx_back (bytes := bytes) (maxL := maxL) (ret := ret) hM hbl hrc hrs hfr hlo hws hcw (fun a' U hW => word_at hW (Or.inl (by first | rfl | simp [Cond.onTables, Cond.keeps, Cond.steady])) hini)
theorem vx_runV (S : CallFix p m c cc nL s args Ts own) (hM : vx_Met l y ws rm Pc Qc XC mc ms free) (cw : CallW R s args own C index y bytes maxL ret ws rm mc ms n) (hp : PreV s H C b Pc As)
    (hg : g.method = m) (hn : As.length = n) (hsize : g.locals.size = nL) (hstack : g.stack = As.reverse ++ .ref b :: rest) (hW : 2 * g.monitorRoom + (rest.map fun v => v.category).sum ≤ 8) (hdg : decode cc g.pc = .ok (.invokevirtual index, 3)) (hf : cells + mc ≤ R.cells ∧ slots + ms ≤ R.slots) :
    vx_Run p l e R s m args below meth c H locs cells slots mc ms g rest (Qc (Value.ref b :: As).toArray) XC free := by
  have hK : vx_Back l R p e below s args y 3 8 (PreOf R mc ms Pc) (PostOf Qc mc ms free) (vx_Post XC mc ms free) := vx_callBack cw.1 hM hp.1
  obtain ⟨⟨-, -, -, -, -, -, hcode, -, hy, hlen, hl⟩, hin, hse⟩ := cw
  obtain ⟨hx, hb, hml, ho, -⟩ := S
  obtain ⟨-, ⟨cellB, hcB, hoB, hclB⟩, hPc⟩ := hp
  intro T hT X
  rcases vx_callV X hx (C := C) (bytes := bytes) (maxL := maxL) (ret := ret) ho hl hin hse hcode hy hK (by rw [hT]; exact hcB) hoB hclB hg (hsize.trans hml.symm) (argsL := As) (rest := rest) (fun sig h => hn.trans (hlen sig h)) hstack hW (by rw [hb]; exact hdg)
    (fun vm₁ hW₁ => ⟨hf.1, hf.2, hPc (T.setVm vm₁) hT hW₁⟩) with ⟨v, vm₁, ⟨U', l2, c2, s2⟩, hW₁, X', ⟨g', mk, t, L, e1, e2, hq, h1, hL, h2, h3⟩, st⟩ | ⟨q, vm₁, ⟨U', l2, c2, s2⟩, hW₁, X', ⟨g', mk, t, L, E, ce, e1, e2, hq, hce, hcv, hcl, h1, hL, h2, h3⟩, st⟩
  · dsimp only [Pt.U, Pt.locs, Pt.cells, Pt.slots] at X' e1 e2 h1 h2 h3 st
    subst h1; subst h2; subst h3
    exact Or.inl ⟨v, (T.setVm vm₁).calling g' mk (Value.ref b :: As).toArray, t, U', L, hT, X', hL, e1, e2, hq, st⟩
  · dsimp only [Pt.U, Pt.locs, Pt.cells, Pt.slots] at X' e1 e2 h1 h2 h3 st hcl
    subst h1; subst h2; subst h3
    exact Or.inr ⟨q, (T.setVm vm₁).calling g' mk (Value.ref b :: As).toArray, t, U', L, E, ce, hT, X', hL, e1, e2, hq, hce, hcv, vx_cls hW₁ hcl, st⟩
theorem vx_runS (S : CallFix p m c cc nL s args Ts own) (hM : vx_Met l y ws rm Pc Qc XC mc ms free) (cw : CallB R s args own index y bytes maxL ret ws rm mc ms n ∧ (Cond.static y).before args s = true) (hp : PreS s H Pc As)
    (hg : g.method = m) (hn : As.length = n) (hsize : g.locals.size = nL) (hstack : g.stack = As.reverse ++ rest) (hW : 2 * g.monitorRoom + (rest.map fun v => v.category).sum ≤ 8) (hdg : decode cc g.pc = .ok (.invokestatic index, 3)) (hf : cells + mc ≤ R.cells ∧ slots + ms ≤ R.slots) :
    vx_Run p l e R s m args below meth c H locs cells slots mc ms g rest (Qc As.toArray) XC free := by
  have hK : vx_Back l R p e below s args y 3 8 (PreOf R mc ms Pc) (PostOf Qc mc ms free) (vx_Post XC mc ms free) := vx_callBack cw.1 hM hp.1
  obtain ⟨⟨-, -, -, -, -, -, hcode, hini, hy, hlen, hl⟩, hstt⟩ := cw
  obtain ⟨hx, hb, hml, ho, -⟩ := S
  intro T hT X
  rcases vx_callS X hx (bytes := bytes) (maxL := maxL) (ret := ret) ho hl hstt hini hcode hy hK hg (hsize.trans hml.symm) (argsL := As) (rest := rest) (fun sig h => hn.trans (hlen sig h)) hstack hW (by rw [hb]; exact hdg)
    (fun vm₁ hW₁ => ⟨hf.1, hf.2, hp.2 (T.setVm vm₁) hT hW₁⟩) with ⟨v, vm₁, ⟨U', l2, c2, s2⟩, hW₁, X', ⟨g', mk, t, L, e1, e2, hq, h1, hL, h2, h3⟩, st⟩ | ⟨q, vm₁, ⟨U', l2, c2, s2⟩, hW₁, X', ⟨g', mk, t, L, E, ce, e1, e2, hq, hce, hcv, hcl, h1, hL, h2, h3⟩, st⟩
  · dsimp only [Pt.U, Pt.locs, Pt.cells, Pt.slots] at X' e1 e2 h1 h2 h3 st
    subst h1; subst h2; subst h3
    exact Or.inl ⟨v, (T.setVm vm₁).calling g' mk As.toArray, t, U', L, hT, X', hL, e1, e2, hq, st⟩
  · dsimp only [Pt.U, Pt.locs, Pt.cells, Pt.slots] at X' e1 e2 h1 h2 h3 st hcl
    subst h1; subst h2; subst h3
    exact Or.inr ⟨q, (T.setVm vm₁).calling g' mk As.toArray, t, U', L, E, ce, hT, X', hL, e1, e2, hq, hce, hcv, vx_cls hW₁ hcl, st⟩
end Runs
section Rows
variable {p : Program} {l : Launch} {e : Env} {R : Room} {s : State} {m : MethodId} {args : Array Value} {below : List Frame} {meth : Method} {c : Code} {H : Heap} {locs : List Loc} {cells slots : Nat} {Q : State → Prop}
variable {mc ms : Nat} {free : Addr → Prop} {A0 A1 : Nat → Prop} {H0 : Heap} {a : Array Value} {pc : Nat} {ls : Array Slot} {st0 rest : List Value}
theorem vx_keep {st₀ t T' : State} {L : List Loc} (h0 : st₀.heap = H) (e1 : T'.heap = t.heap) (hS : va_S A0 H0 H locs) (hA : ∀ q, q < H.size → A1 q → A0 q) (hf : ∀ q, free q → A0 q) (hL : ∀ q ∈ L, free q.base) (hF : va_F A1 st₀ t) :
    H.size ≤ T'.heap.size ∧ (∀ q : Nat, q < H.size → ¬ A1 q → T'.heap[q]? = H[q]?) ∧ va_S A0 H0 T'.heap (locs ++ L) := by
  obtain ⟨hz, hk⟩ := hF
  rw [h0] at hz hk
  exact ⟨by rw [e1]; exact hz, fun q h1 h2 => by rw [e1]; exact hk q h1 h2,
    ⟨Nat.le_trans hS.1 (by rw [e1]; exact hz), fun q h1 h2 => by rw [e1, hk q (Nat.lt_of_lt_of_le h1 hS.1) (fun z => h2 (hA q (Nat.lt_of_lt_of_le h1 hS.1) z))]; exact hS.2.1 q h1 h2, fun q hq => by
      rcases List.mem_append.mp hq with h | h
      · exact hS.2.2 q h
      · exact hf _ (hL q h)⟩⟩
theorem vx_calli {S SX : Type} {post : Int32 → S → Prop} {px : SX → Prop} {B : S → State → Prop} {BX : String → SX → State → Prop} {AX : Nat → Prop} (hr : vx_Run p l e R s m args below meth c H locs cells slots mc ms (F0 m pc ls st0) rest (va_Qi post B A1 a) (vx_X px BX AX) free) (hS : va_S A0 H0 H locs) (hA : ∀ q, q < H.size → A1 q → A0 q) (hf : ∀ q, free q → A0 q) (hAX : ∀ q, q < H.size → AX q → A0 q)
    (kx : ∀ (E : String) (ce : Cell) (q9 : Addr) (u : SX) (t : State) (H1 : Heap) (locs1 : List Loc), t.heap = H1 → s.vm.Alike t.vm → px u → BX E u t → H.size ≤ H1.size → (∀ q : Nat, q < H.size → ¬ AX q → H1[q]? = H[q]?) → va_S A0 H0 H1 locs1 → H1[q9]? = some ce → ce.vm = .none → s.vm.findClass E = some ce.cls → vx_W p l e R s m args below meth c H1 locs1 (cells + mc) (slots + ms) Q (F0 m pc ls rest) q9)
    (kk : ∀ (r : Int32) (u : S) (t : State) (H1 : Heap) (locs1 : List Loc), t.heap = H1 → s.vm.Alike t.vm → post r u → B u t → H.size ≤ H1.size → (∀ q : Nat, q < H.size → ¬ A1 q → H1[q]? = H[q]?) → va_S A0 H0 H1 locs1 → W p l e R s m args below meth c H1 locs1 (cells + mc) (slots + ms) Q (F0 m (pc + 3) ls (.int r :: rest))) : W p l e R s m args below meth c H locs cells slots Q (F0 m pc ls st0) := by
  intro T hT X
  rcases hr T hT X with ⟨v, st₀, t, T', L, h0, X', hL, e1, e2, ⟨⟨r, u, hv, hp, hb⟩, hF⟩, st⟩ | ⟨q, st₀, t, T', L, E, ce, h0, X', hL, e1, e2, ⟨u, hp, hb, hF⟩, hce, hcv, hcl, st⟩
  · cases hv
    obtain ⟨k1, k2, k3⟩ := vx_keep h0 e1 hS hA hf hL hF
    obtain ⟨t2, a1, b1⟩ := kk r u t T'.heap (locs ++ L) e1.symm (by rw [← e2]; exact X'.warmed.alike) hp hb k1 k2 k3 T' rfl X'
    exact ⟨t2, st t2 a1, b1⟩
  · obtain ⟨k1, k2, k3⟩ := vx_keep h0 e1 hS hAX hf hL hF
    obtain ⟨t2, a1, b1⟩ := kx E ce q u t T'.heap (locs ++ L) e1.symm (by rw [← e2]; exact X'.warmed.alike) hp hb k1 k2 k3 (by rw [e1]; exact hce) hcv hcl T' rfl X'
    exact ⟨t2, st.trans a1, b1⟩
theorem vx_calll {S SX : Type} {post : Int64 → S → Prop} {px : SX → Prop} {B : S → State → Prop} {BX : String → SX → State → Prop} {AX : Nat → Prop} (hr : vx_Run p l e R s m args below meth c H locs cells slots mc ms (F0 m pc ls st0) rest (va_Ql post B A1 a) (vx_X px BX AX) free) (hS : va_S A0 H0 H locs) (hA : ∀ q, q < H.size → A1 q → A0 q) (hf : ∀ q, free q → A0 q) (hAX : ∀ q, q < H.size → AX q → A0 q)
    (kx : ∀ (E : String) (ce : Cell) (q9 : Addr) (u : SX) (t : State) (H1 : Heap) (locs1 : List Loc), t.heap = H1 → s.vm.Alike t.vm → px u → BX E u t → H.size ≤ H1.size → (∀ q : Nat, q < H.size → ¬ AX q → H1[q]? = H[q]?) → va_S A0 H0 H1 locs1 → H1[q9]? = some ce → ce.vm = .none → s.vm.findClass E = some ce.cls → vx_W p l e R s m args below meth c H1 locs1 (cells + mc) (slots + ms) Q (F0 m pc ls rest) q9)
    (kk : ∀ (r : Int64) (u : S) (t : State) (H1 : Heap) (locs1 : List Loc), t.heap = H1 → s.vm.Alike t.vm → post r u → B u t → H.size ≤ H1.size → (∀ q : Nat, q < H.size → ¬ A1 q → H1[q]? = H[q]?) → va_S A0 H0 H1 locs1 → W p l e R s m args below meth c H1 locs1 (cells + mc) (slots + ms) Q (F0 m (pc + 3) ls (.long r :: rest))) : W p l e R s m args below meth c H locs cells slots Q (F0 m pc ls st0) := by
  intro T hT X
  rcases hr T hT X with ⟨v, st₀, t, T', L, h0, X', hL, e1, e2, ⟨⟨r, u, hv, hp, hb⟩, hF⟩, st⟩ | ⟨q, st₀, t, T', L, E, ce, h0, X', hL, e1, e2, ⟨u, hp, hb, hF⟩, hce, hcv, hcl, st⟩
  · cases hv
    obtain ⟨k1, k2, k3⟩ := vx_keep h0 e1 hS hA hf hL hF
    obtain ⟨t2, a1, b1⟩ := kk r u t T'.heap (locs ++ L) e1.symm (by rw [← e2]; exact X'.warmed.alike) hp hb k1 k2 k3 T' rfl X'
    exact ⟨t2, st t2 a1, b1⟩
  · obtain ⟨k1, k2, k3⟩ := vx_keep h0 e1 hS hAX hf hL hF
    obtain ⟨t2, a1, b1⟩ := kx E ce q u t T'.heap (locs ++ L) e1.symm (by rw [← e2]; exact X'.warmed.alike) hp hb k1 k2 k3 (by rw [e1]; exact hce) hcv hcl T' rfl X'
    exact ⟨t2, st.trans a1, b1⟩
theorem vx_callf {S SX : Type} {post : UInt32 → S → Prop} {px : SX → Prop} {B : S → State → Prop} {BX : String → SX → State → Prop} {AX : Nat → Prop} (hr : vx_Run p l e R s m args below meth c H locs cells slots mc ms (F0 m pc ls st0) rest (va_Qf post B A1 a) (vx_X px BX AX) free) (hS : va_S A0 H0 H locs) (hA : ∀ q, q < H.size → A1 q → A0 q) (hf : ∀ q, free q → A0 q) (hAX : ∀ q, q < H.size → AX q → A0 q)
    (kx : ∀ (E : String) (ce : Cell) (q9 : Addr) (u : SX) (t : State) (H1 : Heap) (locs1 : List Loc), t.heap = H1 → s.vm.Alike t.vm → px u → BX E u t → H.size ≤ H1.size → (∀ q : Nat, q < H.size → ¬ AX q → H1[q]? = H[q]?) → va_S A0 H0 H1 locs1 → H1[q9]? = some ce → ce.vm = .none → s.vm.findClass E = some ce.cls → vx_W p l e R s m args below meth c H1 locs1 (cells + mc) (slots + ms) Q (F0 m pc ls rest) q9)
    (kk : ∀ (r : UInt32) (u : S) (t : State) (H1 : Heap) (locs1 : List Loc), t.heap = H1 → s.vm.Alike t.vm → post r u → B u t → H.size ≤ H1.size → (∀ q : Nat, q < H.size → ¬ A1 q → H1[q]? = H[q]?) → va_S A0 H0 H1 locs1 → W p l e R s m args below meth c H1 locs1 (cells + mc) (slots + ms) Q (F0 m (pc + 3) ls (.float r :: rest))) : W p l e R s m args below meth c H locs cells slots Q (F0 m pc ls st0) := by
  intro T hT X
  rcases hr T hT X with ⟨v, st₀, t, T', L, h0, X', hL, e1, e2, ⟨⟨r, u, hv, hp, hb⟩, hF⟩, st⟩ | ⟨q, st₀, t, T', L, E, ce, h0, X', hL, e1, e2, ⟨u, hp, hb, hF⟩, hce, hcv, hcl, st⟩
  · cases hv
    obtain ⟨k1, k2, k3⟩ := vx_keep h0 e1 hS hA hf hL hF
    obtain ⟨t2, a1, b1⟩ := kk r u t T'.heap (locs ++ L) e1.symm (by rw [← e2]; exact X'.warmed.alike) hp hb k1 k2 k3 T' rfl X'
    exact ⟨t2, st t2 a1, b1⟩
  · obtain ⟨k1, k2, k3⟩ := vx_keep h0 e1 hS hAX hf hL hF
    obtain ⟨t2, a1, b1⟩ := kx E ce q u t T'.heap (locs ++ L) e1.symm (by rw [← e2]; exact X'.warmed.alike) hp hb k1 k2 k3 (by rw [e1]; exact hce) hcv hcl T' rfl X'
    exact ⟨t2, st.trans a1, b1⟩
theorem vx_calld {S SX : Type} {post : UInt64 → S → Prop} {px : SX → Prop} {B : S → State → Prop} {BX : String → SX → State → Prop} {AX : Nat → Prop} (hr : vx_Run p l e R s m args below meth c H locs cells slots mc ms (F0 m pc ls st0) rest (va_Qd post B A1 a) (vx_X px BX AX) free) (hS : va_S A0 H0 H locs) (hA : ∀ q, q < H.size → A1 q → A0 q) (hf : ∀ q, free q → A0 q) (hAX : ∀ q, q < H.size → AX q → A0 q)
    (kx : ∀ (E : String) (ce : Cell) (q9 : Addr) (u : SX) (t : State) (H1 : Heap) (locs1 : List Loc), t.heap = H1 → s.vm.Alike t.vm → px u → BX E u t → H.size ≤ H1.size → (∀ q : Nat, q < H.size → ¬ AX q → H1[q]? = H[q]?) → va_S A0 H0 H1 locs1 → H1[q9]? = some ce → ce.vm = .none → s.vm.findClass E = some ce.cls → vx_W p l e R s m args below meth c H1 locs1 (cells + mc) (slots + ms) Q (F0 m pc ls rest) q9)
    (kk : ∀ (r : UInt64) (u : S) (t : State) (H1 : Heap) (locs1 : List Loc), t.heap = H1 → s.vm.Alike t.vm → post r u → B u t → H.size ≤ H1.size → (∀ q : Nat, q < H.size → ¬ A1 q → H1[q]? = H[q]?) → va_S A0 H0 H1 locs1 → W p l e R s m args below meth c H1 locs1 (cells + mc) (slots + ms) Q (F0 m (pc + 3) ls (.double r :: rest))) : W p l e R s m args below meth c H locs cells slots Q (F0 m pc ls st0) := by
  intro T hT X
  rcases hr T hT X with ⟨v, st₀, t, T', L, h0, X', hL, e1, e2, ⟨⟨r, u, hv, hp, hb⟩, hF⟩, st⟩ | ⟨q, st₀, t, T', L, E, ce, h0, X', hL, e1, e2, ⟨u, hp, hb, hF⟩, hce, hcv, hcl, st⟩
  · cases hv
    obtain ⟨k1, k2, k3⟩ := vx_keep h0 e1 hS hA hf hL hF
    obtain ⟨t2, a1, b1⟩ := kk r u t T'.heap (locs ++ L) e1.symm (by rw [← e2]; exact X'.warmed.alike) hp hb k1 k2 k3 T' rfl X'
    exact ⟨t2, st t2 a1, b1⟩
  · obtain ⟨k1, k2, k3⟩ := vx_keep h0 e1 hS hAX hf hL hF
    obtain ⟨t2, a1, b1⟩ := kx E ce q u t T'.heap (locs ++ L) e1.symm (by rw [← e2]; exact X'.warmed.alike) hp hb k1 k2 k3 (by rw [e1]; exact hce) hcv hcl T' rfl X'
    exact ⟨t2, st.trans a1, b1⟩
theorem vx_callv {S SX : Type} {post : S → Prop} {px : SX → Prop} {B : S → State → Prop} {BX : String → SX → State → Prop} {AX : Nat → Prop} (hr : vx_Run p l e R s m args below meth c H locs cells slots mc ms (F0 m pc ls st0) rest (va_Qv post B A1 a) (vx_X px BX AX) free) (hS : va_S A0 H0 H locs) (hA : ∀ q, q < H.size → A1 q → A0 q) (hf : ∀ q, free q → A0 q) (hAX : ∀ q, q < H.size → AX q → A0 q)
    (kx : ∀ (E : String) (ce : Cell) (q9 : Addr) (u : SX) (t : State) (H1 : Heap) (locs1 : List Loc), t.heap = H1 → s.vm.Alike t.vm → px u → BX E u t → H.size ≤ H1.size → (∀ q : Nat, q < H.size → ¬ AX q → H1[q]? = H[q]?) → va_S A0 H0 H1 locs1 → H1[q9]? = some ce → ce.vm = .none → s.vm.findClass E = some ce.cls → vx_W p l e R s m args below meth c H1 locs1 (cells + mc) (slots + ms) Q (F0 m pc ls rest) q9)
    (kk : ∀ (u : S) (t : State) (H1 : Heap) (locs1 : List Loc), t.heap = H1 → s.vm.Alike t.vm → post u → B u t → H.size ≤ H1.size → (∀ q : Nat, q < H.size → ¬ A1 q → H1[q]? = H[q]?) → va_S A0 H0 H1 locs1 → W p l e R s m args below meth c H1 locs1 (cells + mc) (slots + ms) Q (F0 m (pc + 3) ls (rest))) : W p l e R s m args below meth c H locs cells slots Q (F0 m pc ls st0) := by
  intro T hT X
  rcases hr T hT X with ⟨v, st₀, t, T', L, h0, X', hL, e1, e2, ⟨⟨u, hv, hp, hb⟩, hF⟩, st⟩ | ⟨q, st₀, t, T', L, E, ce, h0, X', hL, e1, e2, ⟨u, hp, hb, hF⟩, hce, hcv, hcl, st⟩
  · cases hv
    obtain ⟨k1, k2, k3⟩ := vx_keep h0 e1 hS hA hf hL hF
    obtain ⟨t2, a1, b1⟩ := kk u t T'.heap (locs ++ L) e1.symm (by rw [← e2]; exact X'.warmed.alike) hp hb k1 k2 k3 T' rfl X'
    exact ⟨t2, st t2 a1, b1⟩
  · obtain ⟨k1, k2, k3⟩ := vx_keep h0 e1 hS hAX hf hL hF
    obtain ⟨t2, a1, b1⟩ := kx E ce q u t T'.heap (locs ++ L) e1.symm (by rw [← e2]; exact X'.warmed.alike) hp hb k1 k2 k3 (by rw [e1]; exact hce) hcv hcl T' rfl X'
    exact ⟨t2, st.trans a1, b1⟩
/-- caught by the row x of this method's table; the rows ahead don't take it -/
theorem vx_catch {own name : String} {E : String} {ce : Cell} {q : Addr} (hown : s.vm.findClass own = some m.cls) (pre : List ExceptionTableEntry) (x : ExceptionTableEntry) (suf : List ExceptionTableEntry) (hsplit : c.exceptionTable.toList = pre ++ x :: suf)
    (hpass : ∀ z ∈ pre, covers z pc = false ∨ (z.catchType ≠ 0 ∧ ∃ nm : String, (Cond.classLink own z.catchType nm).before args s = true ∧ va_Nc E nm s)) (hx : covers x pc = true) (h0 : x.catchType ≠ 0)
    (hlink : (Cond.classLink own x.catchType name).before args s = true) (hcast : (Cond.castable E name).before args s = true) (hcell : H[q]? = some ce) (hv : ce.vm = .none) (hcl : s.vm.findClass E = some ce.cls)
    (kk : W p l e R s m args below meth c H locs cells slots Q (F0 m x.handlerPc ls [.ref q])) : vx_W p l e R s m args below meth c H locs cells slots Q (F0 m pc ls rest) q := by
  intro T hT X
  have hpl : e.platform.magicAccessors = ({} : Platform).magicAccessors := by rw [X.admits.platform]
  obtain ⟨c3, c4, hc3, hc4, hasg⟩ := Cond.castable_spec hcast
  cases Option.some.inj (hc3.symm.trans hcl)
  obtain ⟨c5, hc5, hcl5⟩ := Cond.classLink_spec hown hlink e.platform hpl
  cases Option.some.inj (hc4.symm.trans hc5)
  obtain ⟨vm', X', st⟩ := X.thenCaughtThrough q (g := F0 m pc ls rest) rfl (Steps.refl _) (by rw [hT]; exact hcell) (by rw [hv]; rfl) (by obtain ⟨k9, h9, -⟩ := Vm.findClass_spec hcl; exact ⟨k9, h9⟩) pre x suf hsplit
    (fun z hz => by
      rcases hpass z hz with h | ⟨hz0, nm, hl1, hn1⟩
      · exact Or.inl h
      · obtain ⟨c6, hc6, hcl6⟩ := Cond.classLink_spec hown hl1 e.platform hpl
        obtain ⟨a8, b8, h1, h2, h3⟩ := hn1
        cases Option.some.inj (h1.symm.trans hcl)
        cases Option.some.inj (h2.symm.trans hc6)
        exact Or.inr ⟨hz0, _, hcl6, h3⟩) hx (Or.inr ⟨h0, c4, hcl5, hasg⟩)
  obtain ⟨t, a1, b1⟩ := kk (T.setVm vm') hT X'
  exact ⟨t, st.trans a1, b1⟩
end Rows
section Ends
variable {p : Program} {l : Launch} {e : Env} {R : Room} {s : State} {m : MethodId} {args : Array Value} {below : List Frame} {meth : Method} {c : Code} {H : Heap} {locs : List Loc} {cells slots : Nat} {Q : State → Prop}
variable {mc ms : Nat} {free : Addr → Prop} {A0 A1 : Nat → Prop} {H0 : Heap} {a : Array Value} {ls : Array Slot} {st0 rest : List Value}
variable {Qc : Array Value → State → Outcome → State → Prop} {XC : String → State → State → Prop}
/-- what a body that may throw owes at its end -/
def vx_MQ (below : List Frame) (Qc : Array Value → State → Outcome → State → Prop) (XC : String → State → State → Prop) (a : Array Value) (s : State) (mc ms : Nat) (free : Addr → Prop) : State → Prop := fun t =>
  ∃ o, t.status = .running ∧ Ended t below o ∧ vx_Q Qc XC mc ms free a s o t
theorem vx_ret {g : JFrame} {mc ms : Nat} (k : W p l e R s m args below meth c H locs cells slots (MQ below Qc args s mc ms free) g) : W p l e R s m args below meth c H locs cells slots (vx_MQ below Qc XC args s mc ms free) g := by
  intro T hT X
  obtain ⟨t, a1, o, b1, b2, b3, b4⟩ := k T hT X
  exact ⟨t, a1, o, b1, b2, Or.inl ⟨b3, b4⟩⟩
/-- not caught here: it goes on to the caller -/
theorem vx_widen {g : JFrame} {q : Addr} {k n : Nat} (h1 : cells ≤ k) (h2 : slots ≤ n) (kk : vx_W p l e R s m args below meth c H locs k n Q g q) : vx_W p l e R s m args below meth c H locs cells slots Q g q := fun T hT X => kk T hT (stand_widen X h1 h2)
theorem vx_out {pc : Nat} {E : String} {ce : Cell} {q : Addr} {mc ms : Nat} (hout : ∀ x ∈ c.exceptionTable.toList, covers x pc = false) (hlocks : meth.locks = false) (hcell : H[q]? = some ce) (hv : ce.vm = .none) (hcl : s.vm.findClass E = some ce.cls)
    (hx : ∀ t : State, t.heap = H → s.vm.Alike t.vm → XC E s t) (hf : ∀ z ∈ locs, free z.base) (hc : cells ≤ mc) (hs : slots ≤ ms) :
    vx_W p l e R s m args below meth c H locs cells slots (vx_MQ below Qc XC args s mc ms free) (F0 m pc ls rest) q := by
  intro T hT X
  obtain ⟨st1, hrun, hend, hW, hsm⟩ := X.leaveThrown q (g := F0 m pc ls rest) rfl rfl rfl hout hlocks
  have hcell9 : (T.setFrames (.throwing q :: below)).heap[q]? = some ce := by
    show T.heap[q]? = some ce
    rw [hT]; exact hcell
  exact ⟨_, st1, .threw q, hrun, hend, Or.inr ⟨q, rfl, E, ce, locs, hx _ hT hW.alike, hcell9, hv, hcl, hW, hsm.mono hc hs, hf⟩⟩
theorem vx_frame {U : State} {k n : Nat} (h : s.sameButNew ({ U with vm := s.vm } : State) locs k n) : s.heap.size ≤ U.heap.size ∧ ∀ q : Nat, q < s.heap.size → (∀ z ∈ locs, z.base ≠ q) → U.heap[q]? = s.heap[q]? := by
  obtain ⟨-, h2, -, -, -, h6⟩ := h
  refine ⟨h2, fun q hq hz => ?_⟩
  obtain ⟨c9, e1, e2, e3, e4⟩ := h6 q _ (Array.getElem?_eq_getElem hq)
  have hs : c9.slots = (s.heap[q]).slots := Array.ext_getElem? fun i => e4 i fun hm => hz _ hm rfl
  have h9 : c9 = s.heap[q] := by
    rw [hs] at e2
    exact e2
  have e5 : U.heap[q]? = some c9 := e1
  rw [e5, h9, Array.getElem?_eq_getElem hq]
/-- the words of a throw but the four that speak of the heap -/
def vx_no (w : Cond) : Bool := decide (w ≠ .isRef (.static Bundle.tN "UNASSIGNED_STACK" Bundle.steD)) && decide (w ≠ .isRef (.static Bundle.tN "SUPPRESSED_SENTINEL" Bundle.listD)) && decide (w ≠ .laysStatic Bundle.tN "UNASSIGNED_STACK" Bundle.steD) && decide (w ≠ .laysStatic Bundle.tN "SUPPRESSED_SENTINEL" Bundle.listD)
def vx_at0 (own : String) (ic : Nat) (X : String) (names : List String) : List Cond := (Bundle.ownAtoms0 own ic X names).filter vx_no
def vx_atS (own : String) (ic : Nat) (X : String) (names : List String) : List Cond := (Bundle.ownAtoms own ic X names).filter vx_no
/-- a word that the tables alone decide, or a good one -/
def vx_ot (w : Cond) : Bool := w.onTables || goodWord w
theorem vx_ot_at {args a' : Array Value} {s U : State} {w : Cond} (hW : s.WarmedH U.vm) (hvm : s.vm = U.vm) (hg : vx_ot w = true) (h : w.before args s = true) : w.before a' U = true := by
  simp only [vx_ot, Bool.or_eq_true] at hg
  rcases hg with hg | hg
  · exact va_tabs hg hvm h
  · exact word_at hW (good_of_word hg) h
/-- a list's words: the good ones out of the method's own list, the others by premises of their own -/
theorem vx_hat {args : Array Value} {s : State} {L B : List Cond} (h1 : ∀ w ∈ L.filter goodWord, w.before args s = true) (h2 : ∀ w ∈ L.filter (fun w => !goodWord w), w ∈ B) (h3 : ∀ w ∈ B, w.before args s = true) : ∀ w ∈ L, w.before args s = true := by
  intro w hw
  by_cases g : goodWord w = true
  · exact h1 w (List.mem_filter.mpr ⟨hw, g⟩)
  · refine h3 w (h2 w (List.mem_filter.mpr ⟨hw, ?_⟩))
    show (!goodWord w) = true
    cases hgw : goodWord w
    · rfl
    · exact absurd hgw g
theorem vx_c {args : Array Value} {s : State} {w : Cond} {B : List Cond} (h : w.before args s = true) (t : ∀ w ∈ B, w.before args s = true) : ∀ w' ∈ w :: B, w'.before args s = true := fun w' h' => (List.mem_cons.mp h').elim (fun e => by rw [e]; exact h) (t w')
theorem vx_n {args : Array Value} {s : State} : ∀ w ∈ ([] : List Cond), w.before args s = true := fun _ h => nomatch h
theorem vx_own {args : Array Value} {s : State} {L : List Cond} (h1 : ∀ w ∈ L.filter vx_no, w.before args s = true)
    (hU : (Cond.isRef (.static Bundle.tN "UNASSIGNED_STACK" Bundle.steD)).before args s = true) (hN : (Cond.isRef (.static Bundle.tN "SUPPRESSED_SENTINEL" Bundle.listD)).before args s = true)
    (lU : (Cond.laysStatic Bundle.tN "UNASSIGNED_STACK" Bundle.steD).before args s = true) (lN : (Cond.laysStatic Bundle.tN "SUPPRESSED_SENTINEL" Bundle.listD).before args s = true) : ∀ w ∈ L, w.before args s = true := by
  intro w hw
  by_cases e1 : w = .isRef (.static Bundle.tN "UNASSIGNED_STACK" Bundle.steD)
  · rw [e1]; exact hU
  · by_cases e2 : w = .isRef (.static Bundle.tN "SUPPRESSED_SENTINEL" Bundle.listD)
    · rw [e2]; exact hN
    · by_cases e3 : w = .laysStatic Bundle.tN "UNASSIGNED_STACK" Bundle.steD
      · rw [e3]; exact lU
      · by_cases e4 : w = .laysStatic Bundle.tN "SUPPRESSED_SENTINEL" Bundle.listD
        · rw [e4]; exact lN
        · exact h1 w (List.mem_filter.mpr ⟨hw, by unfold vx_no; rw [decide_eq_true e1, decide_eq_true e2, decide_eq_true e3, decide_eq_true e4]; rfl⟩)
/-- where a static field lies, its class's statics cell in H -/
def vx_L (C n d : String) (A : Nat → Prop) (U : State) (H : Heap) : Prop := ∃ (c : ClassId) (k : Class) (i : Nat) (f : Field) (a : Nat) (cell : Cell), U.vm.findClass C = some c ∧ U.fieldFound? C n d = some (c, k, i, f) ∧ f.isStatic = true ∧ k.statics = some a ∧ H[a]? = some cell ∧ cell.vm.isStatics = true ∧ cell.cls = c ∧ f.slot < cell.slots.size ∧ k.staticTypes[f.slot]? = some f.type ∧ ¬ A a
theorem vx_L.moved {C n d : String} {A : Nat → Prop} {u U : State} {H : Heap} (hvm : u.vm.Alike U.vm) (h : vx_L C n d A u H) : vx_L C n d A U H := by
  obtain ⟨c, k, i, f, a, cell, h1, h2, h3, h4, h5, h6, h7, h8, h9, h10⟩ := h
  obtain ⟨k', hi', he⟩ := State.fieldFound?_setVm hvm h2
  exact ⟨c, k', i, f, a, cell, by rw [hvm.findClass]; exact h1, hi', h3, by rw [he]; exact h4, h5, h6, h7, h8, by rw [he]; exact h9, h10⟩
theorem vx_L.kept {C n d : String} {A : Nat → Prop} {U : State} {H H1 : Heap} (h : vx_L C n d A U H) (hq : ∀ a : Nat, a < H.size → ¬ A a → H1[a]? = H[a]?) : vx_L C n d A U H1 := by
  obtain ⟨c, k, i, f, a, cell, h1, h2, h3, h4, h5, h6, h7, h8, h9, h10⟩ := h
  exact ⟨c, k, i, f, a, cell, h1, h2, h3, h4, by rw [hq a (Array.getElem?_eq_some_iff.mp h5).1 h10]; exact h5, h6, h7, h8, h9, h10⟩
theorem vx_L.narrow {C n d : String} {A B : Nat → Prop} {U : State} {H : Heap} (h : vx_L C n d A U H) (hAB : ∀ q, B q → A q) : vx_L C n d B U H := by
  obtain ⟨c, k, i, f, a, cell, h1, h2, h3, h4, h5, h6, h7, h8, h9, h10⟩ := h
  exact ⟨c, k, i, f, a, cell, h1, h2, h3, h4, h5, h6, h7, h8, h9, fun z => h10 (hAB _ z)⟩
theorem vx_L.word {C n d : String} {A : Nat → Prop} {s : State} {args : Array Value} (h : vx_L C n d A s s.heap) : (Cond.laysStatic C n d).before args s = true := by
  obtain ⟨c, k, i, f, a, cell, h1, h2, h3, h4, h5, h6, h7, h8, h9, -⟩ := h
  show (Cond.laysStatic C n d).holds args s none s [] = true
  exact Cond.laysStatic_of h1 h2 h3 h4 h5 h6 h7 h8 h9
/-- .. and what it holds: null or some reference -/
def vx_Zq (C n d : String) (A : Nat → Prop) (U : State) (H : Heap) : Prop := va_Zq C n d A U H ∧ vx_L C n d A U H
theorem vx_Zq.moved {C n d : String} {A : Nat → Prop} {u U : State} {H : Heap} (hvm : u.vm.Alike U.vm) (h : vx_Zq C n d A u H) : vx_Zq C n d A U H := ⟨va_Zq.moved hvm h.1, vx_L.moved hvm h.2⟩
theorem vx_Zq.kept {C n d : String} {A : Nat → Prop} {U : State} {H H1 : Heap} (h : vx_Zq C n d A U H) (hq : ∀ a : Nat, a < H.size → ¬ A a → H1[a]? = H[a]?) : vx_Zq C n d A U H1 := ⟨va_Zq.kept h.1 hq, vx_L.kept h.2 hq⟩
theorem vx_Zq.narrow {C n d : String} {A B : Nat → Prop} {U : State} {H : Heap} (h : vx_Zq C n d A U H) (hAB : ∀ q, B q → A q) : vx_Zq C n d B U H := ⟨va_Zq.narrow h.1 hAB, vx_L.narrow h.2 hAB⟩
theorem vx_Zqof {args : Array Value} {s : State} {C n d : String} {A : Nat → Prop} (hl : (Cond.laysStatic C n d).before args s = true) (hini : (Cond.initialized C).before args s = true) (h : (Cond.isRef (.static C n d)).before args s = true) (hA : ∀ a : Nat, a < s.heap.size → ¬ A a) : vx_Zq C n d A s s.heap := by
  refine ⟨va_Zqof hl hini h hA, ?_⟩
  obtain ⟨c, k, i, f, a, cell, h1, h2, h3, h4, h5, h6, h7, h8, h9⟩ := Cond.laysStatic_spec hl
  exact ⟨c, k, i, f, a, cell, h1, h2, h3, h4, h5, h6, h7, h8, h9, hA a (Array.getElem?_eq_some_iff.mp h5).1⟩
theorem vx_isRef {C n d : String} {v : Value} {A : Nat → Prop} {s : State} {args : Array Value} (h : va_Z C n d v A s s.heap) (hv : v.isRef = true) : (Cond.isRef (.static C n d)).before args s = true := by
  obtain ⟨cf, kf, fi, f, a, cell, h1, h2, h3, h4, h5, h6, h7, -⟩ := h
  have he : (Term.static C n d).eval args s none [] s = some v := by
    simp [Term.eval, State.fieldNamed?, h1, h2, h4, h5, h6, h7]
  simp only [Cond.before, Cond.holds, Cond.value, he]
  cases v <;> simp_all [Value.isRef]
theorem vx_isRefq {C n d : String} {A : Nat → Prop} {s : State} {args : Array Value} (h : va_Zq C n d A s s.heap) : (Cond.isRef (.static C n d)).before args s = true := by
  rcases h with h | ⟨t, h⟩
  · exact vx_isRef h rfl
  · exact vx_isRef h rfl
/-- the same frame, seen from here: as if the method were called anew in this heap -/
theorem vx_rebase {T : State} (X : Stand p l e R s m args below meth c T locs cells slots) {R' : Room} (hf : R'.frames ≤ R.frames) (hl : R'.locals ≤ R.locals) (hc : cells + R'.cells ≤ R.cells) (hs : slots + R'.slots ≤ R.slots) :
    Stand p l e R' ((T.setVm s.vm).setFrames (.invoking m args :: below)) m args below meth c T [] 0 0 := by
  have htop : (T.setVm s.vm).topJava?.isSome := X.here.top
  have hF : ((T.setVm s.vm).setFrames (.invoking m args :: below)).frames = .invoking m args :: below := State.frames_setFrames _ (State.cur_lt_of_top htop)
  obtain ⟨g₀, hg0⟩ := Option.isSome_iff_exists.mp htop
  obtain ⟨r, hr⟩ := State.topJava?_eq_some.mp hg0
  have hl9 : e.platform.stackLimits (T.setVm s.vm).me = e.platform.stackLimits s.me := X.limits
  have hb9 : (T.setVm s.vm).me.stackBytes = s.me.stackBytes := X.bytes
  refine ⟨X.admits, X.cas, X.clock, hF, ?_, X.hears, X.method, X.code, X.here, X.tail, X.warmed, ?_, ?_, ?_⟩
  · have h := X.room
    have hU : ((T.setVm s.vm).setFrames (.invoking m args :: below)).localsInUse = s.localsInUse := by
      rw [State.localsInUse_invoking hF (meth := meth) (c := c) X.method X.code, State.localsInUse_invoking X.frames X.method X.code]
    simp only [State.hasRoom, Bool.and_eq_true, decide_eq_true_eq] at h ⊢
    obtain ⟨⟨⟨⟨h1, h2, h3, h4, h5, h6⟩, h7⟩, h8⟩, h9⟩ := h
    rw [X.frames, List.length_cons] at h2 h3
    have q1 := X.heapSize
    have q2 := X.used
    simp only [hF, hU, List.length_cons, State.stackLimits_setFrames, State.stackBytes_setFrames, hl9, hb9]
    refine ⟨⟨⟨⟨by omega, by omega, by omega, by omega, by omega, h6⟩, ?_⟩, ?_⟩, X.book⟩
    · show T.heap.size + R'.cells ≤ e.platform.maxCells
      omega
    · show T.slotsUsed + R'.slots ≤ e.platform.maxSlots
      omega
  · rw [State.stackLimits_setFrames]; rfl
  · rw [State.stackBytes_setFrames]; rfl
  · refine ⟨?_, Nat.le_refl _, Nat.le_refl _, ?_, ?_, fun a c9 h9 => ⟨c9, h9, rfl, rfl, fun _ _ => rfl⟩⟩
    · obtain ⟨t, ht, -⟩ := State.frames_cons hr
      show T.setVm s.vm = { ((T.setVm s.vm).setFrames (.invoking m args :: below)).setFrames (T.setVm s.vm).frames with heap := T.heap, slotsUsed := T.slotsUsed }
      rw [State.setFrames_setFrames, State.setFrames_self ht]
      rfl
    · show T.slotsUsed = T.slotsUsed + ((T.heap.toList.drop T.heap.size).map (·.slots.size)).sum
      rw [List.drop_eq_nil_of_le (Nat.le_of_eq Array.length_toList)]
      rfl
    · show ((T.heap.toList.drop T.heap.size).map (·.slots.size)).sum ≤ 0
      rw [List.drop_eq_nil_of_le (Nat.le_of_eq Array.length_toList)]
      exact Nat.le_refl _
/-- 'throw new E()': new; dup; invokespecial; athrow -/
theorem vx_throw0 {cc : ByteArray} {pc : Nat} (hexec : p.tables.exec = Jvm.exec) (hb : c.code = cc) (hl : l.stackTraces = false) {own cls : String} {names : List String} {ik ic mc ms : Nat} {A : Nat → Prop}
    (hown : s.vm.findClass own = some m.cls) (hcls : Bundle.fit cls = true) (hnames : ∀ n ∈ names, Bundle.fit n = true)
    (hk : (Cond.classLink own ik cls).before args s = true) (hini : (Cond.initialized cls).before args s = true) (hat : ∀ w ∈ vx_at0 own ic cls names, w.before args s = true)
    (hgood : ∀ w ∈ Cond.classLink own ik cls :: Cond.initialized cls :: vx_at0 own ic cls names, vx_ot w = true)
    (hU : vx_Zq Bundle.tN "UNASSIGNED_STACK" Bundle.steD A s s.heap) (hN : vx_Zq Bundle.tN "SUPPRESSED_SENTINEL" Bundle.listD A s s.heap) (hS : va_S A s.heap H locs) (hsize : ls.size = c.maxLocals)
    (d0 : decode cc pc = .ok (.new ik, 3)) (d3 : decode cc (pc + 3) = .ok (.dup, 1)) (d4 : decode cc (pc + 4) = .ok (.invokespecial ic, 3)) (d7 : decode cc (pc + 7) = .ok (.athrow, 1))
    (hout : ∀ x ∈ c.exceptionTable.toList, covers x (pc + 7) = false)
    (hRframes : names.length + 3 < R.frames) (hRlocals : (rest.map fun v => v.category).sum + (13 * (names.length + 1) + 42) ≤ R.locals) (hRcells : cells + 1 ≤ R.cells) (hRslots : slots + 6 ≤ R.slots) (hlocks : meth.locks = false)
    (hx : ∀ t : State, s.vm.Alike t.vm → H.size ≤ t.heap.size → (∀ q : Nat, q < H.size → t.heap[q]? = H[q]?) → XC cls s t)
    (hf : ∀ z ∈ locs, free z.base) (hc : cells + 1 ≤ mc) (hs : slots + 6 ≤ ms) :
    W p l e R s m args below meth c H locs cells slots (vx_MQ below Qc XC args s mc ms free) (F0 m pc ls rest) := by
  intro T hT X
  have htr : e.platform.stackTraces = false := (show e.platform.stackTraces = l.stackTraces by rw [X.admits.platform]).trans hl
  have Y := vx_rebase X (R' := { frames := R.frames, locals := R.locals, cells := 1, slots := 6 }) (Nat.le_refl _) (Nat.le_refl _) hRcells hRslots
  obtain ⟨s', hA⟩ : ∃ z, z = (T.setVm s.vm).setFrames (.invoking m args :: below) := ⟨_, rfl⟩
  rw [← hA] at Y
  have hvm : s'.vm = s.vm := by rw [hA]; rfl
  have hhp : s'.heap = H := by rw [hA]; exact hT
  have hW0 : s.WarmedH s'.vm := by rw [hvm]; exact State.WarmedH.refl s
  have hat' : ∀ w ∈ vx_at0 own ic cls names, w.before args s' = true := fun w hw => vx_ot_at hW0 hvm.symm (hgood w (List.mem_cons_of_mem _ (List.mem_cons_of_mem _ hw))) (hat w hw)
  have hk' : (Cond.classLink own ik cls).before args s' = true := vx_ot_at hW0 hvm.symm (hgood _ List.mem_cons_self) hk
  have hini' : (Cond.initialized cls).before args s' = true := vx_ot_at hW0 hvm.symm (hgood _ (List.mem_cons_of_mem _ List.mem_cons_self)) hini
  have hU' : vx_Zq Bundle.tN "UNASSIGNED_STACK" Bundle.steD A s' s'.heap := by rw [hhp]; exact vx_Zq.moved hW0.alike (hU.kept hS.2.1)
  have hN' : vx_Zq Bundle.tN "SUPPRESSED_SENTINEL" Bundle.listD A s' s'.heap := by rw [hhp]; exact vx_Zq.moved hW0.alike (hN.kept hS.2.1)
  have h : ∀ w ∈ Bundle.ownAtoms0 own ic cls names, w.before args s' = true := vx_own hat' (vx_isRefq hU'.1) (vx_isRefq hN'.1) hU'.2.word hN'.2.word
  have hown' : s'.vm.findClass own = some m.cls := by rw [hvm]; exact hown
  have hins : (Cond.instantiable cls 6).before args s' = true := h _ (by simp [Bundle.ownAtoms0])
  obtain ⟨vm₁, cX, kX, hfX, hkX, -, -, X₁, st1⟩ := Y.newCold hexec (own := own) (C := cls) (index := ik) (n := 6) hown' hk' hins hini'
    (g := F0 m pc ls rest) rfl (by rw [hb]; exact d0) (Nat.le_refl _) (Nat.le_refl _)
  generalize hT1 : (T.setVm vm₁).pushCell { cls := cX, slots := kX.instanceTypes.map defaultValue, vm := .none } = T1 at X₁ st1
  have hcat : (Value.ref T.heap.size).category = 1 := rfl
  have hcellA : T1.heap[T.heap.size]? = some (freshCell cX kX) := by rw [← hT1]; exact State.heap_pushCell_size _ _
  have d3' : decode c.code (pc + 3) = .ok (.dup, 1) := by rw [hb]; exact d3
  obtain ⟨U, hsteps, hrun, hend, hW, hsame, ce, hce, hO⟩ := X₁.ctorThrow0 hexec htr (own := own) (cls := cls) (names := names) (ic := ic) hown' hcls hnames h (fun x hx => nomatch hx) hfX hkX hcellA (by rw [hhp, hT]; exact Nat.le_refl _)
    (g := { method := m, pc := pc + 4, locals := ls, stack := .ref T.heap.size :: .ref T.heap.size :: rest, locked := none }) rfl hsize rfl rfl (rest := rest) rfl
    (by rw [hb]; exact d4) (by rw [hb]; exact d7) hout hRframes (by simp only [List.map_cons, List.sum_cons, hcat]; omega) hlocks
  obtain ⟨f1, f2⟩ := vx_frame hsame
  rw [hhp] at f1 f2
  have hWs : s.WarmedH U.vm := State.WarmedH.trans hW0 hW
  have hcl : s.vm.findClass cls = some ce.cls := by
    have h9 := hO.cls
    rw [hvm] at h9
    exact h9
  have hall : s.sameButNew ({ U with vm := s.vm } : State) locs mc ms := by
    subst hA
    obtain ⟨e1, e2⟩ := hsame
    rw [State.setFrames_setFrames] at e1
    have h2 : (T.setVm s.vm).sameButNew ({ U with vm := s.vm } : State) [] (0 + 1) (0 + 6) := ⟨e1, e2⟩
    have h3 := X.same.trans h2
    rw [List.append_nil] at h3
    exact h3.mono hc hs
  refine ⟨U, ?_, .threw T.heap.size, hrun, hend, Or.inr ⟨T.heap.size, rfl, cls, ce, locs, hx U hWs.alike f1 (fun q hq => f2 q hq (fun z hz => nomatch hz)), hce, hO.vm, hcl, hWs, hall, hf⟩⟩
  refine st1 _ ?_
  show Steps p.tables e below (T1.setTop { method := m, pc := pc + 3, locals := ls, stack := .ref T.heap.size :: rest, locked := none }) _
  jvm_step X₁.here [X₁.here.top, hexec, d3', Value.category]
  exact hsteps
/-- 'throw new E("text")': new; dup; ldc; invokespecial; athrow -/
theorem vx_throwS {cc : ByteArray} {pc : Nat} (hexec : p.tables.exec = Jvm.exec) (hb : c.code = cc) (hl : l.stackTraces = false) {own cls text : String} {names : List String} {ik is ic mc ms sa : Nat} {A : Nat → Prop}
    (hown : s.vm.findClass own = some m.cls) (hcls : Bundle.fit cls = true) (hnames : ∀ n ∈ names, Bundle.fit n = true)
    (hk : (Cond.classLink own ik cls).before args s = true) (hini : (Cond.initialized cls).before args s = true) (hstr : vk_R own is text sa s) (hat : ∀ w ∈ vx_atS own ic cls names, w.before args s = true)
    (hgood : ∀ w ∈ Cond.classLink own ik cls :: Cond.initialized cls :: vx_atS own ic cls names, vx_ot w = true)
    (hU : vx_Zq Bundle.tN "UNASSIGNED_STACK" Bundle.steD A s s.heap) (hN : vx_Zq Bundle.tN "SUPPRESSED_SENTINEL" Bundle.listD A s s.heap) (hS : va_S A s.heap H locs) (hsize : ls.size = c.maxLocals)
    (d0 : decode cc pc = .ok (.new ik, 3)) (d3 : decode cc (pc + 3) = .ok (.dup, 1)) (d4 : decode cc (pc + 4) = .ok (.ldc is, 2)) (d6 : decode cc (pc + 6) = .ok (.invokespecial ic, 3)) (d9 : decode cc (pc + 9) = .ok (.athrow, 1))
    (hout : ∀ x ∈ c.exceptionTable.toList, covers x (pc + 9) = false)
    (hRframes : names.length + 3 < R.frames) (hRlocals : (rest.map fun v => v.category).sum + (13 * (names.length + 1) + 43) ≤ R.locals) (hRcells : cells + 1 ≤ R.cells) (hRslots : slots + 6 ≤ R.slots) (hlocks : meth.locks = false)
    (hx : ∀ t : State, s.vm.Alike t.vm → H.size ≤ t.heap.size → (∀ q : Nat, q < H.size → t.heap[q]? = H[q]?) → XC cls s t)
    (hf : ∀ z ∈ locs, free z.base) (hc : cells + 1 ≤ mc) (hs : slots + 6 ≤ ms) :
    W p l e R s m args below meth c H locs cells slots (vx_MQ below Qc XC args s mc ms free) (F0 m pc ls rest) := by
  intro T hT X
  have htr : e.platform.stackTraces = false := (show e.platform.stackTraces = l.stackTraces by rw [X.admits.platform]).trans hl
  have Y := vx_rebase X (R' := { frames := R.frames, locals := R.locals, cells := 1, slots := 6 }) (Nat.le_refl _) (Nat.le_refl _) hRcells hRslots
  obtain ⟨s', hA⟩ : ∃ z, z = (T.setVm s.vm).setFrames (.invoking m args :: below) := ⟨_, rfl⟩
  rw [← hA] at Y
  have hvm : s'.vm = s.vm := by rw [hA]; rfl
  have hhp : s'.heap = H := by rw [hA]; exact hT
  have hW0 : s.WarmedH s'.vm := by rw [hvm]; exact State.WarmedH.refl s
  have hat' : ∀ w ∈ vx_atS own ic cls names, w.before args s' = true := fun w hw => vx_ot_at hW0 hvm.symm (hgood w (List.mem_cons_of_mem _ (List.mem_cons_of_mem _ hw))) (hat w hw)
  have hk' : (Cond.classLink own ik cls).before args s' = true := vx_ot_at hW0 hvm.symm (hgood _ List.mem_cons_self) hk
  have hini' : (Cond.initialized cls).before args s' = true := vx_ot_at hW0 hvm.symm (hgood _ (List.mem_cons_of_mem _ List.mem_cons_self)) hini
  have hU' : vx_Zq Bundle.tN "UNASSIGNED_STACK" Bundle.steD A s' s'.heap := by rw [hhp]; exact vx_Zq.moved hW0.alike (hU.kept hS.2.1)
  have hN' : vx_Zq Bundle.tN "SUPPRESSED_SENTINEL" Bundle.listD A s' s'.heap := by rw [hhp]; exact vx_Zq.moved hW0.alike (hN.kept hS.2.1)
  have h : ∀ w ∈ Bundle.ownAtoms own ic cls names, w.before args s' = true := vx_own hat' (vx_isRefq hU'.1) (vx_isRefq hN'.1) hU'.2.word hN'.2.word
  have hown' : s'.vm.findClass own = some m.cls := by rw [hvm]; exact hown
  have hins : (Cond.instantiable cls 6).before args s' = true := h _ (by simp [Bundle.ownAtoms])
  obtain ⟨vm₁, cX, kX, hfX, hkX, -, -, X₁, st1⟩ := Y.newCold hexec (own := own) (C := cls) (index := ik) (n := 6) hown' hk' hins hini'
    (g := F0 m pc ls rest) rfl (by rw [hb]; exact d0) (Nat.le_refl _) (Nat.le_refl _)
  generalize hT1 : (T.setVm vm₁).pushCell { cls := cX, slots := kX.instanceTypes.map defaultValue, vm := .none } = T1 at X₁ st1
  have hcat : (Value.ref T.heap.size).category = 1 := rfl
  have hcellA : T1.heap[T.heap.size]? = some (freshCell cX kX) := by rw [← hT1]; exact State.heap_pushCell_size _ _
  have d3' : decode c.code (pc + 3) = .ok (.dup, 1) := by rw [hb]; exact d3
  have d4' : decode c.code (pc + 4) = .ok (.ldc is, 2) := by rw [hb]; exact d4
  have hstr' : vk_R own is text sa s' := vk_R.warm hW0 hstr
  obtain ⟨U, hsteps, hrun, hend, hW, hsame, ce, hce, hO⟩ := X₁.ctorThrowS hexec htr (own := own) (cls := cls) (names := names) (ic := ic) hown' hcls hnames h (fun x hx => nomatch hx) hfX hkX hcellA (by rw [hhp, hT]; exact Nat.le_refl _) (msg := .ref sa) rfl
    (g := { method := m, pc := pc + 6, locals := ls, stack := .ref sa :: .ref T.heap.size :: .ref T.heap.size :: rest, locked := none }) rfl hsize rfl rfl (rest := rest) rfl
    (by rw [hb]; exact d6) (by rw [hb]; exact d9) hout hRframes (by simp only [List.map_cons, List.sum_cons, hcat]; omega) hlocks
  obtain ⟨f1, f2⟩ := vx_frame hsame
  rw [hhp] at f1 f2
  have hWs : s.WarmedH U.vm := State.WarmedH.trans hW0 hW
  have hcl : s.vm.findClass cls = some ce.cls := by
    have h9 := hO.cls
    rw [hvm] at h9
    exact h9
  have hall : s.sameButNew ({ U with vm := s.vm } : State) locs mc ms := by
    subst hA
    obtain ⟨e1, e2⟩ := hsame
    rw [State.setFrames_setFrames] at e1
    have h2 : (T.setVm s.vm).sameButNew ({ U with vm := s.vm } : State) [] (0 + 1) (0 + 6) := ⟨e1, e2⟩
    have h3 := X.same.trans h2
    rw [List.append_nil] at h3
    exact h3.mono hc hs
  refine ⟨U, ?_, .threw T.heap.size, hrun, hend, Or.inr ⟨T.heap.size, rfl, cls, ce, locs, hx U hWs.alike f1 (fun q hq => f2 q hq (fun z hz => nomatch hz)), hce, hO.vm, hcl, hWs, hall, hf⟩⟩
  refine st1 _ ?_
  show Steps p.tables e below (T1.setTop { method := m, pc := pc + 3, locals := ls, stack := .ref T.heap.size :: rest, locked := none }) _
  jvm_step X₁.here [X₁.here.top, hexec, d3', Value.category]
  exact X₁.ldcString hexec (own := own) (text := text) (index := is) (a := sa) hown' hstr'.1 hstr'.2
    (g := { method := m, pc := pc + 4, locals := ls, stack := .ref T.heap.size :: .ref T.heap.size :: rest, locked := none }) rfl d4' _ hsteps
/-- 'throw new E("text")', the text by a wide index -/
theorem vx_throwSW {cc : ByteArray} {pc : Nat} (hexec : p.tables.exec = Jvm.exec) (hb : c.code = cc) (hl : l.stackTraces = false) {own cls text : String} {names : List String} {ik is ic mc ms sa : Nat} {A : Nat → Prop}
    (hown : s.vm.findClass own = some m.cls) (hcls : Bundle.fit cls = true) (hnames : ∀ n ∈ names, Bundle.fit n = true)
    (hk : (Cond.classLink own ik cls).before args s = true) (hini : (Cond.initialized cls).before args s = true) (hstr : vk_R own is text sa s) (hat : ∀ w ∈ vx_atS own ic cls names, w.before args s = true)
    (hgood : ∀ w ∈ Cond.classLink own ik cls :: Cond.initialized cls :: vx_atS own ic cls names, vx_ot w = true)
    (hU : vx_Zq Bundle.tN "UNASSIGNED_STACK" Bundle.steD A s s.heap) (hN : vx_Zq Bundle.tN "SUPPRESSED_SENTINEL" Bundle.listD A s s.heap) (hS : va_S A s.heap H locs) (hsize : ls.size = c.maxLocals)
    (d0 : decode cc pc = .ok (.new ik, 3)) (d3 : decode cc (pc + 3) = .ok (.dup, 1)) (d4 : decode cc (pc + 4) = .ok (.ldc_w is, 3)) (d7 : decode cc (pc + 7) = .ok (.invokespecial ic, 3)) (d10 : decode cc (pc + 10) = .ok (.athrow, 1))
    (hout : ∀ x ∈ c.exceptionTable.toList, covers x (pc + 10) = false)
    (hRframes : names.length + 3 < R.frames) (hRlocals : (rest.map fun v => v.category).sum + (13 * (names.length + 1) + 43) ≤ R.locals) (hRcells : cells + 1 ≤ R.cells) (hRslots : slots + 6 ≤ R.slots) (hlocks : meth.locks = false)
    (hx : ∀ t : State, s.vm.Alike t.vm → H.size ≤ t.heap.size → (∀ q : Nat, q < H.size → t.heap[q]? = H[q]?) → XC cls s t)
    (hf : ∀ z ∈ locs, free z.base) (hc : cells + 1 ≤ mc) (hs : slots + 6 ≤ ms) :
    W p l e R s m args below meth c H locs cells slots (vx_MQ below Qc XC args s mc ms free) (F0 m pc ls rest) := by
  intro T hT X
  have htr : e.platform.stackTraces = false := (show e.platform.stackTraces = l.stackTraces by rw [X.admits.platform]).trans hl
  have Y := vx_rebase X (R' := { frames := R.frames, locals := R.locals, cells := 1, slots := 6 }) (Nat.le_refl _) (Nat.le_refl _) hRcells hRslots
  obtain ⟨s', hA⟩ : ∃ z, z = (T.setVm s.vm).setFrames (.invoking m args :: below) := ⟨_, rfl⟩
  rw [← hA] at Y
  have hvm : s'.vm = s.vm := by rw [hA]; rfl
  have hhp : s'.heap = H := by rw [hA]; exact hT
  have hW0 : s.WarmedH s'.vm := by rw [hvm]; exact State.WarmedH.refl s
  have hat' : ∀ w ∈ vx_atS own ic cls names, w.before args s' = true := fun w hw => vx_ot_at hW0 hvm.symm (hgood w (List.mem_cons_of_mem _ (List.mem_cons_of_mem _ hw))) (hat w hw)
  have hk' : (Cond.classLink own ik cls).before args s' = true := vx_ot_at hW0 hvm.symm (hgood _ List.mem_cons_self) hk
  have hini' : (Cond.initialized cls).before args s' = true := vx_ot_at hW0 hvm.symm (hgood _ (List.mem_cons_of_mem _ List.mem_cons_self)) hini
  have hU' : vx_Zq Bundle.tN "UNASSIGNED_STACK" Bundle.steD A s' s'.heap := by rw [hhp]; exact vx_Zq.moved hW0.alike (hU.kept hS.2.1)
  have hN' : vx_Zq Bundle.tN "SUPPRESSED_SENTINEL" Bundle.listD A s' s'.heap := by rw [hhp]; exact vx_Zq.moved hW0.alike (hN.kept hS.2.1)
  have h : ∀ w ∈ Bundle.ownAtoms own ic cls names, w.before args s' = true := vx_own hat' (vx_isRefq hU'.1) (vx_isRefq hN'.1) hU'.2.word hN'.2.word
  have hown' : s'.vm.findClass own = some m.cls := by rw [hvm]; exact hown
  have hins : (Cond.instantiable cls 6).before args s' = true := h _ (by simp [Bundle.ownAtoms])
  obtain ⟨vm₁, cX, kX, hfX, hkX, -, -, X₁, st1⟩ := Y.newCold hexec (own := own) (C := cls) (index := ik) (n := 6) hown' hk' hins hini'
    (g := F0 m pc ls rest) rfl (by rw [hb]; exact d0) (Nat.le_refl _) (Nat.le_refl _)
  generalize hT1 : (T.setVm vm₁).pushCell { cls := cX, slots := kX.instanceTypes.map defaultValue, vm := .none } = T1 at X₁ st1
  have hcat : (Value.ref T.heap.size).category = 1 := rfl
  have hcellA : T1.heap[T.heap.size]? = some (freshCell cX kX) := by rw [← hT1]; exact State.heap_pushCell_size _ _
  have d3' : decode c.code (pc + 3) = .ok (.dup, 1) := by rw [hb]; exact d3
  have d4' : decode c.code (pc + 4) = .ok (.ldc_w is, 3) := by rw [hb]; exact d4
  have hstr' : vk_R own is text sa s' := vk_R.warm hW0 hstr
  obtain ⟨U, hsteps, hrun, hend, hW, hsame, ce, hce, hO⟩ := X₁.ctorThrowS hexec htr (own := own) (cls := cls) (names := names) (ic := ic) hown' hcls hnames h (fun x hx => nomatch hx) hfX hkX hcellA (by rw [hhp, hT]; exact Nat.le_refl _) (msg := .ref sa) rfl
    (g := { method := m, pc := pc + 7, locals := ls, stack := .ref sa :: .ref T.heap.size :: .ref T.heap.size :: rest, locked := none }) rfl hsize rfl rfl (rest := rest) rfl
    (by rw [hb]; exact d7) (by rw [hb]; exact d10) hout hRframes (by simp only [List.map_cons, List.sum_cons, hcat]; omega) hlocks
  obtain ⟨f1, f2⟩ := vx_frame hsame
  rw [hhp] at f1 f2
  have hWs : s.WarmedH U.vm := State.WarmedH.trans hW0 hW
  have hcl : s.vm.findClass cls = some ce.cls := by
    have h9 := hO.cls
    rw [hvm] at h9
    exact h9
  have hall : s.sameButNew ({ U with vm := s.vm } : State) locs mc ms := by
    subst hA
    obtain ⟨e1, e2⟩ := hsame
    rw [State.setFrames_setFrames] at e1
    have h2 : (T.setVm s.vm).sameButNew ({ U with vm := s.vm } : State) [] (0 + 1) (0 + 6) := ⟨e1, e2⟩
    have h3 := X.same.trans h2
    rw [List.append_nil] at h3
    exact h3.mono hc hs
  refine ⟨U, ?_, .threw T.heap.size, hrun, hend, Or.inr ⟨T.heap.size, rfl, cls, ce, locs, hx U hWs.alike f1 (fun q hq => f2 q hq (fun z hz => nomatch hz)), hce, hO.vm, hcl, hWs, hall, hf⟩⟩
  refine st1 _ ?_
  show Steps p.tables e below (T1.setTop { method := m, pc := pc + 3, locals := ls, stack := .ref T.heap.size :: rest, locked := none }) _
  jvm_step X₁.here [X₁.here.top, hexec, d3', Value.category]
  exact X₁.ldcStringW hexec (own := own) (text := text) (index := is) (a := sa) hown' hstr'.1 hstr'.2
    (g := { method := m, pc := pc + 4, locals := ls, stack := .ref T.heap.size :: .ref T.heap.size :: rest, locked := none }) rfl d4' _ hsteps
end Ends
section Bodies
variable {l : Launch}
theorem vx_ofW {y : MethodName} {ws ws' : List Cond} {rm : Room} {Pc : Array Value → State → Prop} {Qc : Array Value → State → Outcome → State → Prop} {XC : String → State → State → Prop} {mc ms : Nat} {free : Addr → Prop} {cc : ByteArray} {maxL : Nat} {ret : Option FieldType}
    (hy : plainName y.cls = true) (hw : ws = Cond.code y cc maxL ret :: ws')
    (body : ∀ p e s m args below meth c s₁, BodyLoose p l y (headSpec ws rm) cc maxL ret e s m args below meth c s₁ → c.maxLocals = maxL → (∀ x ∈ c.exceptionTable.toList, False) → Pc args s →
      W p l e (headSpec ws rm).room s m args below meth c s.heap [] 0 0 (vx_MQ below Qc XC args s mc ms free) (entryFrame m args maxL)) : vx_Met l y ws rm Pc Qc XC mc ms free := by
  refine MetFree.of_bodyS (code := cc) (maxLocals := maxL) (ret := ret) hy ?_ ?_
  · intro args s m h hn
    obtain ⟨meth, c, h1, h2, h3, h4, h5, h6, -, -⟩ := Cond.code_spec hn (atoms_spec (ws := ws) h _ (by rw [hw]; exact List.mem_cons_self))
    exact ⟨meth, c, h1, h2, h3, h4, h5, h6⟩
  · intro p e s m args below meth c s₁ B hml hP _
    have hh0 : s₁.heap = s.heap := by rw [B.state]; rfl
    have ht : ∀ x ∈ c.exceptionTable.toList, False := by
      obtain ⟨meth9, c9, h1, h2, -, -, -, -, h7, -⟩ := Cond.code_spec B.named (atoms_spec (ws := ws) B.pre _ (by rw [hw]; exact List.mem_cons_self))
      cases Option.some.inj (h1.symm.trans B.method)
      cases Option.some.inj (h2.symm.trans (Stand.of_body B).code)
      intro x hx
      rw [Array.isEmpty_iff.mp h7] at hx
      cases hx
    obtain ⟨t, a1, o, b1, b2, b3⟩ := body p e s m args below meth c s₁ B hml ht hP s₁ hh0 (Stand.of_body B)
    exact ⟨t, o, a1, b1, b2, b3⟩
/-- the table of a body with handlers -/
theorem vx_table {p : Program} {x y : MethodName} {S : Spec} {cc bytes : ByteArray} {maxL maxL' : Nat} {ret ret' : Option FieldType} {e : Env} {s s₁ : State} {m : MethodId} {args : Array Value} {below : List Frame} {meth : Method} {c : Code} {hh : List (Nat × Nat × Nat × Nat)}
    (B : BodyLoose p l y S cc maxL ret e s m args below meth c s₁) (h : (Cond.codeWith y bytes maxL' ret' hh).before args s = true) : c.exceptionTable.toList = tableOf hh := by
  obtain ⟨m9, meth9, c9, hn9, h1, h2, -, -, h6, -⟩ := Cond.codeWith_spec h
  cases Option.some.inj (hn9.symm.trans B.named)
  cases Option.some.inj (h1.symm.trans B.method)
  cases Option.some.inj (h2.symm.trans (Stand.of_body B).code)
  rw [← h6, table_eq]
end Bodies
end VXA
/-! ===== END ===== -/
/-! ===== BEGIN a static call of a method with an exception table ===== -/
section VXS
variable {p : Program} {l : Launch} {e : Env} {R : Room} {s : State} {m : MethodId} {args : Array Value} {below : List Frame} {meth : Method} {c : Code} {T : State} {H : Heap} {locs : List Loc} {cells slots : Nat}
abbrev vx_CSW (R : Room) (s : State) (args : Array Value) (own : String) (index : Nat) (y : MethodName) (bytes : ByteArray) (maxL : Nat) (ret : Option FieldType) (hh : List (Nat × Nat × Nat × Nat)) (ws : List Cond) (rm : Room) (mc ms n : Nat) : Prop :=
  (rm.cells = mc ∧ rm.slots = ms ∧ rm.frames + 1 ≤ R.frames ∧ 8 + (maxL + 11) + rm.locals ≤ R.locals ∧ (∀ w ∈ ws, ∀ (a' : Array Value) (U : State), s.WarmedH U.vm → w.before a' U = true) ∧ Cond.codeWith y bytes maxL ret hh ∈ ws) ∧
  (Cond.codeWith y bytes maxL ret hh).before args s = true ∧ (Cond.initialized y.cls).before args s = true ∧ (y.cls ≠ "java/lang/invoke/MethodHandle" ∧ y.cls ≠ "java/lang/invoke/VarHandle") ∧
  (∀ sig, parseMethodDescriptor y.desc = some sig → n = sig.parameters.length) ∧ (Cond.methodLink own index y).before args s = true ∧ (Cond.static y).before args s = true
theorem vx_cwSW {own : String} {index maxL mc ms : Nat} {y : MethodName} {bytes : ByteArray} {ret : Option FieldType} {hh : List (Nat × Nat × Nat × Nat)} {Ts ws ws' : List Cond} {rm : Room} (n : Nat) (ht : ∀ w ∈ Ts, w.before args s = true) (hT : GoodIn Ts (va_wsS own index y ws)) (hw : ws = Cond.codeWith y bytes maxL ret hh :: ws') (hrc : rm.cells = mc) (hrs : rm.slots = ms)
    (hd : y.cls ≠ "java/lang/invoke/MethodHandle" ∧ y.cls ≠ "java/lang/invoke/VarHandle" ∧ (parseMethodDescriptor y.desc).map (fun d => d.parameters.length) = some n) (hR : rm.frames + 1 ≤ R.frames ∧ 8 + (maxL + 11) + rm.locals ≤ R.locals) :
    vx_CSW R s args own index y bytes maxL ret hh ws rm mc ms n := by
  have ok : ∀ w ∈ va_wsS own index y ws, w.before args s = true := fun w h => ht w (hT w h).1
  have hG : GoodIn Ts ws := fun w h => hT w (by unfold va_wsS; exact List.mem_append_right _ h)
  have hc : Cond.codeWith y bytes maxL ret hh ∈ ws := by rw [hw]; exact List.mem_cons_self
  refine ⟨⟨hrc, hrs, hR.1, hR.2, pay_in ht hG, hc⟩, ht _ (hG _ hc).1, ok _ (by simp [va_wsS]), ⟨hd.1, hd.2.1⟩, fun sig h => ?_, ok _ (by simp [va_wsS]), ok _ (by simp [va_wsS])⟩
  have h2 := hd.2.2
  rw [h] at h2
  exact (Option.some.inj h2).symm
theorem vx_callSW (X : Stand p l e R s m args below meth c T locs cells slots) (hexec : p.tables.exec = Jvm.exec) {own : String} {index : Nat} {y : MethodName} {bytes : ByteArray} {maxL : Nat} {ret : Option FieldType} {hh : List (Nat × Nat × Nat × Nat)}
    (hown : s.vm.findClass own = some m.cls) (hlink : (Cond.methodLink own index y).before args s = true) (hstat : (Cond.static y).before args s = true) (hinit : (Cond.initialized y.cls).before args s = true)
    (hcode : (Cond.codeWith y bytes maxL ret hh).before args s = true) (hy : y.cls ≠ "java/lang/invoke/MethodHandle" ∧ y.cls ≠ "java/lang/invoke/VarHandle")
    {W9 : Nat} {Pre : Pt → Array Value → Prop} {Post : Pt → Array Value → Option Value → Pt → Prop} (hK : Back l R p e below s args y 3 W9 Pre Post)
    {g : JFrame} (hg : g.method = m) (hsize : g.locals.size = c.maxLocals) {argsL rest : List Value} (hlen : ∀ sig, parseMethodDescriptor y.desc = some sig → argsL.length = sig.parameters.length)
    (hstack : g.stack = argsL.reverse ++ rest) (hW : 2 * g.monitorRoom + (rest.map fun v => v.category).sum ≤ W9) (hdg : decode c.code g.pc = .ok (.invokestatic index, 3))
    (hpre : ∀ vm₁, s.WarmedH vm₁ → Pre ⟨T.setVm vm₁, locs, cells, slots⟩ argsL.toArray) :
    ∃ (v : Option Value) (vm₁ : Vm) (B : Pt), s.WarmedH vm₁ ∧ Stand p l e R s m args below meth c B.U B.locs B.cells B.slots ∧ Post ⟨T.setVm vm₁, locs, cells, slots⟩ argsL.toArray v B ∧
      ∀ target, Steps p.tables e below (B.U.setTop { g with pc := g.pc + 3, stack := v.toList ++ rest }) target → Steps p.tables e below (T.setTop g) target := by
  obtain ⟨mk, methM, cM, hnamed, hmethM, -, -, -, -, -, -, hsigM⟩ := Cond.codeWith_spec hcode
  have hstatic : methM.isStatic = true := Cond.static_spec hnamed hmethM hstat
  obtain ⟨kP, hkP, -⟩ := className_of_methodNamed hnamed
  have hinitP : kP.init = .initialized := Cond.initialized_spec (findClass_of_methodNamed hnamed) hkP hinit
  obtain ⟨vm₁, X₁, hstep₁⟩ := X.invokestatic hexec hown hlink hnamed hmethM hstatic hkP hinitP hy (g := g) hg (argsL := argsL) (rest := rest) (hlen _ hsigM) hstack hdg
  obtain ⟨v, B, X', hpost, hsteps⟩ := hK m meth c ⟨T.setVm vm₁, locs, cells, slots⟩ { g with stack := rest } (.invokestatic index) mk argsL.toArray X₁ hg hsize hdg hW (X₁.named hnamed) (hpre vm₁ X₁.warmed)
  exact ⟨v, vm₁, B, X₁.warmed, X', hpost, fun target h => hstep₁ _ fun acts => by rw [doInvoke_state]; exact hsteps.trans h⟩
theorem vx_runSW {y : MethodName} {bytes cc : ByteArray} {maxL nL mc ms n index : Nat} {ret : Option FieldType} {hh : List (Nat × Nat × Nat × Nat)} {ws : List Cond} {rm : Room} {Pc : Array Value → State → Prop} {Qc : Array Value → State → Outcome → State → Prop} {free : Addr → Prop} {Ts : List Cond} {own : String} {As rest : List Value} {g : JFrame}
    (S : CallFix p m c cc nL s args Ts own) (hM : Met l y ws rm Pc Qc mc ms free) (cw : vx_CSW R s args own index y bytes maxL ret hh ws rm mc ms n) (hp : PreS s H Pc As)
    (hg : g.method = m) (hn : As.length = n) (hsize : g.locals.size = nL) (hstack : g.stack = As.reverse ++ rest) (hW : 2 * g.monitorRoom + (rest.map fun v => v.category).sum ≤ 8) (hdg : decode cc g.pc = .ok (.invokestatic index, 3)) (hf : cells + mc ≤ R.cells ∧ slots + ms ≤ R.slots) :
    va_Run p l e R s m args below meth c H locs cells slots mc ms g rest (Qc As.toArray) (free) := by
  obtain ⟨⟨hrc, hrs, hfr, hlo, hws, hcw⟩, hcode, hini, hy, hlen, hl, hstt⟩ := cw
  have hK : Back l R p e below s args y 3 8 (PreOf R mc ms Pc) (PostOf Qc mc ms free) := va_backW (hh := hh) (bytes := bytes) (maxL := maxL) (ret := ret) hM hp.1 hrc hrs hfr hlo hws hcw (fun a' U hW => word_at hW (Or.inl (by first | rfl | simp [Cond.onTables, Cond.keeps, Cond.steady])) hini)
  obtain ⟨hx, hb, hml, ho, -⟩ := S
  intro T hT X
  obtain ⟨v, vm₁, ⟨U', l2, c2, s2⟩, hW₁, X', ⟨g', mk, t, L, e1, e2, hq, h1, hL, h2, h3⟩, st⟩ := vx_callSW X hx (hh := hh) (bytes := bytes) (maxL := maxL) (ret := ret) ho hl hstt hini hcode hy hK hg (hsize.trans hml.symm) (argsL := As) (rest := rest) (fun sig h => hn.trans (hlen sig h)) hstack hW (by rw [hb]; exact hdg)
    (fun vm₁ hW₁ => ⟨hf.1, hf.2, hp.2 (T.setVm vm₁) hT hW₁⟩)
  dsimp only [Pt.U, Pt.locs, Pt.cells, Pt.slots] at X' e1 e2 h1 h2 h3 st
  subst h1; subst h2; subst h3
  exact ⟨v, (T.setVm vm₁).calling g' mk As.toArray, t, U', L, hT, X', hL, e1, e2, hq, st⟩
/-- not caught here, past rows that name other classes: it goes on to the caller -/
theorem vx_outP {p : Program} {l : Launch} {e : Env} {R : Room} {s : State} {m : MethodId} {args : Array Value} {below : List Frame} {meth : Method} {c : Code} {H : Heap} {locs : List Loc} {cells slots : Nat} {free : Addr → Prop} {ls : Array Slot} {rest : List Value} {Qc : Array Value → State → Outcome → State → Prop} {XC : String → State → State → Prop}
    {pc : Nat} {own E : String} {ce : Cell} {q : Addr} {mc ms : Nat} (hown : s.vm.findClass own = some m.cls) (hlocks : meth.locks = false)
    (hpass : ∀ z ∈ c.exceptionTable.toList, covers z pc = false ∨ (z.catchType ≠ 0 ∧ ∃ nm : String, (Cond.classLink own z.catchType nm).before args s = true ∧ va_Nc E nm s)) (hcell : H[q]? = some ce) (hv : ce.vm = .none) (hcl : s.vm.findClass E = some ce.cls)
    (hx : ∀ t : State, t.heap = H → s.vm.Alike t.vm → XC E s t) (hf : ∀ z ∈ locs, free z.base) (hc : cells ≤ mc) (hs : slots ≤ ms) :
    vx_W p l e R s m args below meth c H locs cells slots (vx_MQ below Qc XC args s mc ms free) (F0 m pc ls rest) q := by
  intro T hT X
  have hpl : e.platform.magicAccessors = ({} : Platform).magicAccessors := by rw [X.admits.platform]
  obtain ⟨vm', hW', X', st⟩ := X.outThrough hlocks q (g := F0 m pc ls rest) rfl rfl rfl (cell := ce) (by rw [hT]; exact hcell) (by rw [hv]; rfl)
    (by obtain ⟨k9, h9, -⟩ := Vm.findClass_spec hcl; exact ⟨k9, h9⟩) (fun z hz => by
      rcases hpass z hz with h | ⟨hz0, nm, hl1, hn1⟩
      · exact Or.inl h
      · obtain ⟨c6, hc6, hcl6⟩ := Cond.classLink_spec hown hl1 e.platform hpl
        obtain ⟨a8, b8, h1, h2, h3⟩ := hn1
        cases Option.some.inj (h1.symm.trans hcl)
        cases Option.some.inj (h2.symm.trans hc6)
        exact Or.inr ⟨hz0, _, hcl6, h3⟩)
  obtain ⟨g₀, hfr⟩ := X'.frames_eq
  have hcell9 : ((T.setVm vm').setFrames (.throwing q :: below)).heap[q]? = some ce := by
    show T.heap[q]? = some ce
    rw [hT]; exact hcell
  have hend : Ended ((T.setVm vm').setFrames (.throwing q :: below)) below (.threw q) := State.frames_setFrames _ (State.cur_lt_of_frames hfr)
  refine ⟨(T.setVm vm').setFrames (.throwing q :: below), ?_, .threw q, X'.here.running, hend, Or.inr ⟨q, rfl, E, ce, locs, hx _ hT (X'.ends _).1.alike, hcell9, hv, hcl, (X'.ends _).1, (X'.ends _).2.mono hc hs, hf⟩⟩
  rw [X.pushThrowing_eq]
  exact st
/-- a thing of a world lies in the heap -/
theorem vx_lt {D : va_G} {cl : List vw_C} {ws : va_W} {H1 : Heap} (h : va_P D cl ws H1) {k : Nat} {q : Nat × va_E} (hk : ws[k]? = some q) : q.1 < H1.size := (h k q hk).lt
end VXS
/-! ===== END ===== -/
/-! ===== BEGIN methods with a table of their own: called by a name, returning or throwing ===== -/
section VXH
/-! vx_backW, vx_callVX, vx_callSX, vx_callVW, vx_runVW, vx_runVX, vx_runSX, vx_ofWH follow the same proofs as their sisters above (Free/Laws.lean, Shelf42/LK1.lean); vx_outP calls Shelf42/NT130.lean (outThrough). -/
section
variable {l : Launch} {R : Room} {p : Program} {e : Env} {below : List Frame} {s : State} {sargs : Array Value} {y : MethodName} {len W9 : Nat}
theorem vx_backW {ws : List Cond} {rm : Room} {Pc : Array Value → State → Prop} {Qc : Array Value → State → Outcome → State → Prop} {XC : String → State → State → Prop} {mc ms : Nat} {free : Addr → Prop} {bytes : ByteArray} {maxL : Nat} {ret : Option FieldType} {hh : List (Nat × Nat × Nat × Nat)}
    (hM : vx_Met l y ws rm Pc Qc XC mc ms free) (hblind : FrameBlind Pc) (hrc : rm.cells = mc) (hrs : rm.slots = ms)
    (hframes : rm.frames + 1 ≤ R.frames) (hlocals : W9 + (maxL + 11) + rm.locals ≤ R.locals)
    (hws : ∀ w ∈ ws, ∀ a' U, s.WarmedH U.vm → w.before a' U = true) (hcode : Cond.codeWith y bytes maxL ret hh ∈ ws) (hinit : ∀ a' U, s.WarmedH U.vm → (Cond.initialized y.cls).before a' U = true) :
    vx_Back l R p e below s sargs y len W9 (PreOf R mc ms Pc) (PostOf Qc mc ms free) (vx_Post XC mc ms free) := by
  intro m meth c A g ig mk a X hg hsize hdg hW hn hp
  have h1 : (headSpec ws rm).pre.before a A.U = true := atoms_intro fun w hw => hws w hw _ _ X.warmed
  have h2 : (Cond.codeWith y bytes maxL ret hh).before a A.U = true := hws _ hcode _ _ X.warmed
  have h3 : (Cond.initialized y.cls).before a A.U = true := hinit _ _ X.warmed
  have h4 : A.cells + (headSpec ws rm).room.cells ≤ R.cells := by rw [show (headSpec ws rm).room.cells = mc from hrc]; exact hp.1
  have h5 : A.slots + (headSpec ws rm).room.slots ≤ R.slots := by rw [show (headSpec ws rm).room.slots = ms from hrs]; exact hp.2.1
  have hPc : Pc a (A.U.calling g mk a) := hblind _ _ _ _ hp.2.2
  obtain ⟨U, Ls, c0, s0⟩ := A
  dsimp only [Pt.U, Pt.locs, Pt.cells, Pt.slots] at h1 h2 h3 h4 h5 X hn hPc ⊢
  obtain ⟨m9, methY, cY, hn9, hmY, hcY, -, hlY, -⟩ := Cond.codeWith_spec h2
  cases Option.some.inj (hn9.symm.trans hn)
  obtain ⟨kY, hkY, -⟩ := className_of_methodNamed hn
  have hinitY : kY.init = .initialized := Cond.initialized_spec (findClass_of_methodNamed hn) hkY h3
  have h : At U g.method c below := by rw [hg]; exact X.here
  have hlocals9 : W9 + (maxL + 11) + (headSpec ws rm).room.locals ≤ R.locals := hlocals
  have happ : (headSpec ws rm).appliesLoose y e.platform (U.calling g mk a) = true :=
    Spec.appliesLoose_calling (g := g) h hdg hn hkY hinitY
      (X.room_calling (g := g) (R' := (headSpec ws rm).room) hsize hmY hcY hframes (by rw [hlY]; omega) h4 h5) h1
  obtain ⟨mid, hmid⟩ := h.above
  have hfr : (U.setTop g).frames = (.java g :: mid) ++ below := by rw [State.frames_setTop' g h.top, hmid]; rfl
  obtain ⟨o, s₂, hsteps, -, hend, hq⟩ := Steps.callFree hM p X.admits X.cas X.clock (acts := []) hfr happ hPc trivial
  have hq' : vx_Q Qc XC mc ms free a (U.calling g mk a) o s₂ := hq
  rw [State.frames_setTop' g h.top] at hend
  obtain ⟨g₀, hg0⟩ := Option.isSome_iff_exists.mp h.top
  obtain ⟨r, hr⟩ := State.topJava?_eq_some.mp hg0
  have hr' : (({ U with heap := s₂.heap, slotsUsed := s₂.slotsUsed } : State).setVm s₂.vm).frames = .java g₀ :: r := hr
  rcases hq' with ⟨hqc, L, hfe, hL⟩ | ⟨q, rfl, E, ce, L, hx, hce, hcv, hcl, hW₂, hsm, hL⟩
  · obtain ⟨⟨v, rfl⟩, hW₂, e2, q2, q3, q4, q5, q6⟩ := id hfe
    have e3 : s₂ = ({ (U.calling g mk a).setFrames s₂.frames with heap := s₂.heap, slotsUsed := s₂.slotsUsed } : State).setVm s₂.vm := by
      have : s₂ = ({ s₂ with vm := (U.calling g mk a).vm } : State).setVm s₂.vm := rfl
      rw [e2] at this
      exact this
    obtain ⟨c₂, i₂, len₂, hc₂, hd₂, hf₂⟩ := hend
    have hW' : U.WarmedH s₂.vm := hW₂
    have hcc : c₂ = c := by
      have h1 : s₂.code? g.method = U.code? g.method := by
        rw [State.code?_eq, State.code?_eq, hW'.alike.method?]
      exact Option.some.inj (hc₂.symm.trans (h1.trans h.code))
    subst hcc
    have hlen : len₂ = len := by rw [hdg] at hd₂; cases hd₂; rfl
    subst hlen
    have hs₂ : s₂ = (({ U with heap := s₂.heap, slotsUsed := s₂.slotsUsed } : State).setVm s₂.vm).setTop { g with pc := g.pc + len₂, stack := v.toList ++ g.stack } := by
      refine e3.trans ?_
      rw [hf₂, State.calling_eq h.top, State.setFrames_setFrames, State.setTop_of_frames _ hr', hr]
      rfl
    have hsame : U.sameButNew ({ U with heap := s₂.heap, slotsUsed := s₂.slotsUsed } : State) L mc ms := by
      refine ⟨?_, q2, q3, q4, q5, q6⟩
      obtain ⟨t, ht, -⟩ := State.frames_cons hr
      show ({ U with heap := s₂.heap, slotsUsed := s₂.slotsUsed } : State) = { U.setFrames U.frames with heap := s₂.heap, slotsUsed := s₂.slotsUsed }
      rw [State.setFrames_self ht]
    subst hg
    refine Or.inl ⟨v, ⟨(({ U with heap := s₂.heap, slotsUsed := s₂.slotsUsed } : State).setVm s₂.vm), Ls ++ L, c0 + mc, s0 + ms⟩,
      ⟨X.admits, X.cas, X.clock, X.frames, X.room, X.hears, X.method, X.code, (X.here.setHeapUsed s₂.heap s₂.slotsUsed).setVm hW'.alike, X.tail, State.WarmedH.trans X.warmed hW', X.limits, X.bytes, X.same.trans (hsame.setVm s.vm)⟩,
      ⟨g, mk, s₂, L, rfl, rfl, hqc, rfl, hL, rfl, rfl⟩, ?_⟩
    show Steps p.tables e below _ ((({ U with heap := s₂.heap, slotsUsed := s₂.slotsUsed } : State).setVm s₂.vm).setTop { g with pc := g.pc + len₂, stack := v.toList ++ g.stack })
    rw [← hs₂]
    exact hsteps
  · obtain ⟨e2, q2, q3, q4, q5, q6⟩ := id hsm
    have e3 : s₂ = ({ (U.calling g mk a).setFrames s₂.frames with heap := s₂.heap, slotsUsed := s₂.slotsUsed } : State).setVm s₂.vm := by
      have : s₂ = ({ s₂ with vm := (U.calling g mk a).vm } : State).setVm s₂.vm := rfl
      rw [e2] at this
      exact this
    have hf₂ : s₂.frames = .throwing q :: .java g :: U.frames.tail := hend
    have hW' : U.WarmedH s₂.vm := hW₂
    have hs₂ : s₂ = ((({ U with heap := s₂.heap, slotsUsed := s₂.slotsUsed } : State).setVm s₂.vm).setTop g).pushFrame (.throwing q) := by
      refine e3.trans ?_
      rw [hf₂, State.calling_eq h.top, State.setFrames_setFrames, State.pushFrame, State.frames_setTop _ hr', State.setTop_of_frames _ hr', State.setFrames_setFrames, hr]
      rfl
    have hsame : U.sameButNew ({ U with heap := s₂.heap, slotsUsed := s₂.slotsUsed } : State) L mc ms := by
      refine ⟨?_, q2, q3, q4, q5, q6⟩
      obtain ⟨t, ht, -⟩ := State.frames_cons hr
      show ({ U with heap := s₂.heap, slotsUsed := s₂.slotsUsed } : State) = { U.setFrames U.frames with heap := s₂.heap, slotsUsed := s₂.slotsUsed }
      rw [State.setFrames_self ht]
    subst hg
    refine Or.inr ⟨q, ⟨(({ U with heap := s₂.heap, slotsUsed := s₂.slotsUsed } : State).setVm s₂.vm), Ls ++ L, c0 + mc, s0 + ms⟩,
      ⟨X.admits, X.cas, X.clock, X.frames, X.room, X.hears, X.method, X.code, (X.here.setHeapUsed s₂.heap s₂.slotsUsed).setVm hW'.alike, X.tail, State.WarmedH.trans X.warmed hW', X.limits, X.bytes, X.same.trans (hsame.setVm s.vm)⟩,
      ⟨g, mk, s₂, L, E, ce, rfl, rfl, hx, hce, hcv, hcl, rfl, hL, rfl, rfl⟩, ?_⟩
    show Steps p.tables e below _ (((({ U with heap := s₂.heap, slotsUsed := s₂.slotsUsed } : State).setVm s₂.vm).setTop g).pushFrame (.throwing q))
    rw [← hs₂]
    exact hsteps
end
variable {p : Program} {l : Launch} {e : Env} {R : Room} {s : State} {m : MethodId} {args : Array Value} {below : List Frame} {meth : Method} {c : Code} {T : State} {H : Heap} {locs : List Loc} {cells slots : Nat}
theorem vx_callVX (X : Stand p l e R s m args below meth c T locs cells slots) (hexec : p.tables.exec = Jvm.exec) {own C : String} {index : Nat} {y : MethodName} {bytes : ByteArray} {maxL : Nat} {ret : Option FieldType} {hh : List (Nat × Nat × Nat × Nat)}
    (hown : s.vm.findClass own = some m.cls) (hlink : (Cond.methodLink own index y).before args s = true) (hinst : (Cond.instanceMethod y).before args s = true) (hsel : (Cond.selects C y y).before args s = true)
    (hcode : (Cond.codeWith y bytes maxL ret hh).before args s = true) (hy : y.cls ≠ "java/lang/invoke/MethodHandle" ∧ y.cls ≠ "java/lang/invoke/VarHandle")
    {W9 : Nat} {Pre : Pt → Array Value → Prop} {Post : Pt → Array Value → Option Value → Pt → Prop} {PostX : Pt → Array Value → Addr → Pt → Prop} (hK : vx_Back l R p e below s args y 3 W9 Pre Post PostX)
    {b : Addr} {cellB : Cell} (hcell : T.heap[b]? = some cellB) (hobj : cellB.vm.isStatics = false) (hcls : s.vm.findClass C = some cellB.cls)
    {g : JFrame} (hg : g.method = m) (hsize : g.locals.size = c.maxLocals) {argsL rest : List Value} (hlen : ∀ sig, parseMethodDescriptor y.desc = some sig → argsL.length = sig.parameters.length)
    (hstack : g.stack = argsL.reverse ++ .ref b :: rest) (hW : 2 * g.monitorRoom + (rest.map fun v => v.category).sum ≤ W9) (hdg : decode c.code g.pc = .ok (.invokevirtual index, 3))
    (hpre : ∀ vm₁, s.WarmedH vm₁ → Pre ⟨T.setVm vm₁, locs, cells, slots⟩ (Value.ref b :: argsL).toArray) :
    (∃ (v : Option Value) (vm₁ : Vm) (B : Pt), s.WarmedH vm₁ ∧ Stand p l e R s m args below meth c B.U B.locs B.cells B.slots ∧ Post ⟨T.setVm vm₁, locs, cells, slots⟩ (Value.ref b :: argsL).toArray v B ∧
      ∀ target, Steps p.tables e below (B.U.setTop { g with pc := g.pc + 3, stack := v.toList ++ rest }) target → Steps p.tables e below (T.setTop g) target) ∨
    (∃ (q : Addr) (vm₁ : Vm) (B : Pt), s.WarmedH vm₁ ∧ Stand p l e R s m args below meth c B.U B.locs B.cells B.slots ∧ PostX ⟨T.setVm vm₁, locs, cells, slots⟩ (Value.ref b :: argsL).toArray q B ∧
      Steps p.tables e below (T.setTop g) ((B.U.setTop { g with stack := rest }).pushFrame (.throwing q))) := by
  obtain ⟨mk, methM, hnamed, hmethM, hstM, habM⟩ := Cond.instanceMethod_spec hinst
  obtain ⟨m8, methM', cM, hn8, hmethM', -, -, -, -, -, -, hsigM⟩ := Cond.codeWith_spec hcode
  cases Option.some.inj (hn8.symm.trans hnamed)
  cases hmethM.symm.trans hmethM'
  obtain ⟨c2, r2, m2, q1, q2, q3, q4, kP, hkP, hkPi⟩ := Cond.selects_spec hsel
  cases hcls.symm.trans q1
  cases (State.methodFound?_of_named hnamed hy).symm.trans q2
  cases hnamed.symm.trans q3
  have hselP : selectMethod e.platform s.vm cellB.cls mk = .method mk := by rw [Launch.admits_selectMethod X.admits]; exact q4
  obtain ⟨vm₁, X₁, hstep₁⟩ := X.invokevirtual hexec hown hlink hnamed hmethM hstM hkP hkPi hy (a := b) (cell := cellB) hcell
    (fun z h => by rw [h] at hobj; cases hobj) hselP hmethM habM hkP hkPi (g := g) hg (argsL := argsL) (rest := rest) (hlen _ hsigM) hstack hdg
  rcases hK m meth c ⟨T.setVm vm₁, locs, cells, slots⟩ { g with stack := rest } (.invokevirtual index) mk (Value.ref b :: argsL).toArray X₁ hg hsize hdg hW (X₁.named hnamed) (hpre vm₁ X₁.warmed) with ⟨v, B, X', hpost, hsteps⟩ | ⟨q, B, X', hpost, hsteps⟩
  · exact Or.inl ⟨v, vm₁, B, X₁.warmed, X', hpost, fun target h => hstep₁ _ fun acts => by rw [doInvoke_state]; exact hsteps.trans h⟩
  · exact Or.inr ⟨q, vm₁, B, X₁.warmed, X', hpost, hstep₁ _ fun acts => by rw [doInvoke_state]; exact hsteps⟩
theorem vx_callSX (X : Stand p l e R s m args below meth c T locs cells slots) (hexec : p.tables.exec = Jvm.exec) {own : String} {index : Nat} {y : MethodName} {bytes : ByteArray} {maxL : Nat} {ret : Option FieldType} {hh : List (Nat × Nat × Nat × Nat)}
    (hown : s.vm.findClass own = some m.cls) (hlink : (Cond.methodLink own index y).before args s = true) (hstat : (Cond.static y).before args s = true) (hinit : (Cond.initialized y.cls).before args s = true)
    (hcode : (Cond.codeWith y bytes maxL ret hh).before args s = true) (hy : y.cls ≠ "java/lang/invoke/MethodHandle" ∧ y.cls ≠ "java/lang/invoke/VarHandle")
    {W9 : Nat} {Pre : Pt → Array Value → Prop} {Post : Pt → Array Value → Option Value → Pt → Prop} {PostX : Pt → Array Value → Addr → Pt → Prop} (hK : vx_Back l R p e below s args y 3 W9 Pre Post PostX)
    {g : JFrame} (hg : g.method = m) (hsize : g.locals.size = c.maxLocals) {argsL rest : List Value} (hlen : ∀ sig, parseMethodDescriptor y.desc = some sig → argsL.length = sig.parameters.length)
    (hstack : g.stack = argsL.reverse ++ rest) (hW : 2 * g.monitorRoom + (rest.map fun v => v.category).sum ≤ W9) (hdg : decode c.code g.pc = .ok (.invokestatic index, 3))
    (hpre : ∀ vm₁, s.WarmedH vm₁ → Pre ⟨T.setVm vm₁, locs, cells, slots⟩ argsL.toArray) :
    (∃ (v : Option Value) (vm₁ : Vm) (B : Pt), s.WarmedH vm₁ ∧ Stand p l e R s m args below meth c B.U B.locs B.cells B.slots ∧ Post ⟨T.setVm vm₁, locs, cells, slots⟩ argsL.toArray v B ∧
      ∀ target, Steps p.tables e below (B.U.setTop { g with pc := g.pc + 3, stack := v.toList ++ rest }) target → Steps p.tables e below (T.setTop g) target) ∨
    (∃ (q : Addr) (vm₁ : Vm) (B : Pt), s.WarmedH vm₁ ∧ Stand p l e R s m args below meth c B.U B.locs B.cells B.slots ∧ PostX ⟨T.setVm vm₁, locs, cells, slots⟩ argsL.toArray q B ∧
      Steps p.tables e below (T.setTop g) ((B.U.setTop { g with stack := rest }).pushFrame (.throwing q))) := by
  obtain ⟨mk, methM, cM, hnamed, hmethM, -, -, -, -, -, -, hsigM⟩ := Cond.codeWith_spec hcode
  have hstatic : methM.isStatic = true := Cond.static_spec hnamed hmethM hstat
  obtain ⟨kP, hkP, -⟩ := className_of_methodNamed hnamed
  have hinitP : kP.init = .initialized := Cond.initialized_spec (findClass_of_methodNamed hnamed) hkP hinit
  obtain ⟨vm₁, X₁, hstep₁⟩ := X.invokestatic hexec hown hlink hnamed hmethM hstatic hkP hinitP hy (g := g) hg (argsL := argsL) (rest := rest) (hlen _ hsigM) hstack hdg
  rcases hK m meth c ⟨T.setVm vm₁, locs, cells, slots⟩ { g with stack := rest } (.invokestatic index) mk argsL.toArray X₁ hg hsize hdg hW (X₁.named hnamed) (hpre vm₁ X₁.warmed) with ⟨v, B, X', hpost, hsteps⟩ | ⟨q, B, X', hpost, hsteps⟩
  · exact Or.inl ⟨v, vm₁, B, X₁.warmed, X', hpost, fun target h => hstep₁ _ fun acts => by rw [doInvoke_state]; exact hsteps.trans h⟩
  · exact Or.inr ⟨q, vm₁, B, X₁.warmed, X', hpost, hstep₁ _ fun acts => by rw [doInvoke_state]; exact hsteps⟩
theorem vx_callVW (X : Stand p l e R s m args below meth c T locs cells slots) (hexec : p.tables.exec = Jvm.exec) {own C : String} {index : Nat} {y : MethodName} {bytes : ByteArray} {maxL : Nat} {ret : Option FieldType} {hh : List (Nat × Nat × Nat × Nat)}
    (hown : s.vm.findClass own = some m.cls) (hlink : (Cond.methodLink own index y).before args s = true) (hinst : (Cond.instanceMethod y).before args s = true) (hsel : (Cond.selects C y y).before args s = true)
    (hcode : (Cond.codeWith y bytes maxL ret hh).before args s = true) (hy : y.cls ≠ "java/lang/invoke/MethodHandle" ∧ y.cls ≠ "java/lang/invoke/VarHandle")
    {W9 : Nat} {Pre : Pt → Array Value → Prop} {Post : Pt → Array Value → Option Value → Pt → Prop} (hK : Back l R p e below s args y 3 W9 Pre Post)
    {b : Addr} {cellB : Cell} (hcell : T.heap[b]? = some cellB) (hobj : cellB.vm.isStatics = false) (hcls : s.vm.findClass C = some cellB.cls)
    {g : JFrame} (hg : g.method = m) (hsize : g.locals.size = c.maxLocals) {argsL rest : List Value} (hlen : ∀ sig, parseMethodDescriptor y.desc = some sig → argsL.length = sig.parameters.length)
    (hstack : g.stack = argsL.reverse ++ .ref b :: rest) (hW : 2 * g.monitorRoom + (rest.map fun v => v.category).sum ≤ W9) (hdg : decode c.code g.pc = .ok (.invokevirtual index, 3))
    (hpre : ∀ vm₁, s.WarmedH vm₁ → Pre ⟨T.setVm vm₁, locs, cells, slots⟩ (Value.ref b :: argsL).toArray) :
    ∃ (v : Option Value) (vm₁ : Vm) (B : Pt), s.WarmedH vm₁ ∧ Stand p l e R s m args below meth c B.U B.locs B.cells B.slots ∧ Post ⟨T.setVm vm₁, locs, cells, slots⟩ (Value.ref b :: argsL).toArray v B ∧
      ∀ target, Steps p.tables e below (B.U.setTop { g with pc := g.pc + 3, stack := v.toList ++ rest }) target → Steps p.tables e below (T.setTop g) target := by
  obtain ⟨mk, methM, hnamed, hmethM, hstM, habM⟩ := Cond.instanceMethod_spec hinst
  obtain ⟨m8, methM', cM, hn8, hmethM', -, -, -, -, -, -, hsigM⟩ := Cond.codeWith_spec hcode
  cases Option.some.inj (hn8.symm.trans hnamed)
  cases hmethM.symm.trans hmethM'
  obtain ⟨c2, r2, m2, q1, q2, q3, q4, kP, hkP, hkPi⟩ := Cond.selects_spec hsel
  cases hcls.symm.trans q1
  cases (State.methodFound?_of_named hnamed hy).symm.trans q2
  cases hnamed.symm.trans q3
  have hselP : selectMethod e.platform s.vm cellB.cls mk = .method mk := by rw [Launch.admits_selectMethod X.admits]; exact q4
  obtain ⟨vm₁, X₁, hstep₁⟩ := X.invokevirtual hexec hown hlink hnamed hmethM hstM hkP hkPi hy (a := b) (cell := cellB) hcell
    (fun z h => by rw [h] at hobj; cases hobj) hselP hmethM habM hkP hkPi (g := g) hg (argsL := argsL) (rest := rest) (hlen _ hsigM) hstack hdg
  obtain ⟨v, B, X', hpost, hsteps⟩ := hK m meth c ⟨T.setVm vm₁, locs, cells, slots⟩ { g with stack := rest } (.invokevirtual index) mk (Value.ref b :: argsL).toArray X₁ hg hsize hdg hW (X₁.named hnamed) (hpre vm₁ X₁.warmed)
  exact ⟨v, vm₁, B, X₁.warmed, X', hpost, fun target h => hstep₁ _ fun acts => by rw [doInvoke_state]; exact hsteps.trans h⟩
abbrev vx_CVW (R : Room) (s : State) (args : Array Value) (own C : String) (index : Nat) (y : MethodName) (bytes : ByteArray) (maxL : Nat) (ret : Option FieldType) (hh : List (Nat × Nat × Nat × Nat)) (ws : List Cond) (rm : Room) (mc ms n : Nat) : Prop :=
  (rm.cells = mc ∧ rm.slots = ms ∧ rm.frames + 1 ≤ R.frames ∧ 8 + (maxL + 11) + rm.locals ≤ R.locals ∧ (∀ w ∈ ws, ∀ (a' : Array Value) (U : State), s.WarmedH U.vm → w.before a' U = true) ∧ Cond.codeWith y bytes maxL ret hh ∈ ws) ∧
  (Cond.codeWith y bytes maxL ret hh).before args s = true ∧ (Cond.initialized y.cls).before args s = true ∧ (y.cls ≠ "java/lang/invoke/MethodHandle" ∧ y.cls ≠ "java/lang/invoke/VarHandle") ∧
  (∀ sig, parseMethodDescriptor y.desc = some sig → n = sig.parameters.length) ∧ (Cond.methodLink own index y).before args s = true ∧ (Cond.instanceMethod y).before args s = true ∧ (Cond.selects C y y).before args s = true
theorem vx_cwVW {own C : String} {index maxL mc ms : Nat} {y : MethodName} {bytes : ByteArray} {ret : Option FieldType} {hh : List (Nat × Nat × Nat × Nat)} {Ts ws ws' : List Cond} {rm : Room} (n : Nat) (ht : ∀ w ∈ Ts, w.before args s = true) (hT : GoodIn Ts (wsV own index C y ws)) (hw : ws = Cond.codeWith y bytes maxL ret hh :: ws') (hrc : rm.cells = mc) (hrs : rm.slots = ms)
    (hd : y.cls = C ∧ y.cls ≠ "java/lang/invoke/MethodHandle" ∧ y.cls ≠ "java/lang/invoke/VarHandle" ∧ (parseMethodDescriptor y.desc).map (fun d => d.parameters.length) = some n) (hR : rm.frames + 1 ≤ R.frames ∧ 8 + (maxL + 11) + rm.locals ≤ R.locals) :
    vx_CVW R s args own C index y bytes maxL ret hh ws rm mc ms n := by
  obtain ⟨hC, hd⟩ := hd
  subst hC
  have ok : ∀ w ∈ wsV own index y.cls y ws, w.before args s = true := fun w h => ht w (hT w h).1
  have hG : GoodIn Ts ws := fun w h => hT w (by unfold wsV; exact List.mem_append_right _ h)
  have hc : Cond.codeWith y bytes maxL ret hh ∈ ws := by rw [hw]; exact List.mem_cons_self
  refine ⟨⟨hrc, hrs, hR.1, hR.2, pay_in ht hG, hc⟩, ht _ (hG _ hc).1, ok _ (by simp [wsV]), ⟨hd.1, hd.2.1⟩, fun sig h => ?_, ok _ (by simp [wsV]), ok _ (by simp [wsV]), ok _ (by simp [wsV])⟩
  have h2 := hd.2.2
  rw [h] at h2
  exact (Option.some.inj h2).symm
theorem vx_runVW {y : MethodName} {bytes cc : ByteArray} {maxL nL mc ms n index : Nat} {ret : Option FieldType} {hh : List (Nat × Nat × Nat × Nat)} {ws : List Cond} {rm : Room} {Pc : Array Value → State → Prop} {Qc : Array Value → State → Outcome → State → Prop} {free : Addr → Prop} {Ts : List Cond} {own C : String} {b : Addr} {As rest : List Value} {g : JFrame}
    (S : CallFix p m c cc nL s args Ts own) (hM : Met l y ws rm Pc Qc mc ms free) (cw : vx_CVW R s args own C index y bytes maxL ret hh ws rm mc ms n) (hp : PreV s H C b Pc As)
    (hg : g.method = m) (hn : As.length = n) (hsize : g.locals.size = nL) (hstack : g.stack = As.reverse ++ .ref b :: rest) (hW : 2 * g.monitorRoom + (rest.map fun v => v.category).sum ≤ 8) (hdg : decode cc g.pc = .ok (.invokevirtual index, 3)) (hf : cells + mc ≤ R.cells ∧ slots + ms ≤ R.slots) :
    va_Run p l e R s m args below meth c H locs cells slots mc ms g rest (Qc (Value.ref b :: As).toArray) free := by
  obtain ⟨⟨hrc, hrs, hfr, hlo, hws, hcw⟩, hcode, hini, hy, hlen, hl, hin, hse⟩ := cw
  have hK : Back l R p e below s args y 3 8 (PreOf R mc ms Pc) (PostOf Qc mc ms free) := va_backW (hh := hh) (bytes := bytes) (maxL := maxL) (ret := ret) hM hp.1 hrc hrs hfr hlo hws hcw (fun a' U hW => word_at hW (Or.inl (by first | rfl | simp [Cond.onTables, Cond.keeps, Cond.steady])) hini)
  obtain ⟨hx, hb, hml, ho, -⟩ := S
  obtain ⟨-, ⟨cellB, hcB, hoB, hclB⟩, hPc⟩ := hp
  intro T hT X
  obtain ⟨v, vm₁, ⟨U', l2, c2, s2⟩, hW₁, X', ⟨g', mk, t, L, e1, e2, hq, h1, hL, h2, h3⟩, st⟩ := vx_callVW X hx (C := C) (hh := hh) (bytes := bytes) (maxL := maxL) (ret := ret) ho hl hin hse hcode hy hK (by rw [hT]; exact hcB) hoB hclB hg (hsize.trans hml.symm) (argsL := As) (rest := rest) (fun sig h => hn.trans (hlen sig h)) hstack hW (by rw [hb]; exact hdg)
    (fun vm₁ hW₁ => ⟨hf.1, hf.2, hPc (T.setVm vm₁) hT hW₁⟩)
  dsimp only [Pt.U, Pt.locs, Pt.cells, Pt.slots] at X' e1 e2 h1 h2 h3 st
  subst h1; subst h2; subst h3
  exact ⟨v, (T.setVm vm₁).calling g' mk (Value.ref b :: As).toArray, t, U', L, hT, X', hL, e1, e2, hq, st⟩
section
variable {y : MethodName} {bytes cc : ByteArray} {maxL nL mc ms n index : Nat} {ret : Option FieldType} {ws : List Cond} {rm : Room} {Pc : Array Value → State → Prop} {Qc : Array Value → State → Outcome → State → Prop} {XC : String → State → State → Prop} {free : Addr → Prop} {Ts : List Cond} {own C : String} {b : Addr} {As rest : List Value} {g : JFrame}
theorem vx_runVX {hh : List (Nat × Nat × Nat × Nat)} (S : CallFix p m c cc nL s args Ts own) (hM : vx_Met l y ws rm Pc Qc XC mc ms free) (cw : vx_CVW R s args own C index y bytes maxL ret hh ws rm mc ms n) (hp : PreV s H C b Pc As)
    (hg : g.method = m) (hn : As.length = n) (hsize : g.locals.size = nL) (hstack : g.stack = As.reverse ++ .ref b :: rest) (hW : 2 * g.monitorRoom + (rest.map fun v => v.category).sum ≤ 8) (hdg : decode cc g.pc = .ok (.invokevirtual index, 3)) (hf : cells + mc ≤ R.cells ∧ slots + ms ≤ R.slots) :
    vx_Run p l e R s m args below meth c H locs cells slots mc ms g rest (Qc (Value.ref b :: As).toArray) XC free := by
  obtain ⟨⟨hrc, hrs, hfr, hlo, hws, hcw⟩, hcode, hini, hy, hlen, hl, hin, hse⟩ := cw
  have hK : vx_Back l R p e below s args y 3 8 (PreOf R mc ms Pc) (PostOf Qc mc ms free) (vx_Post XC mc ms free) := vx_backW (hh := hh) (bytes := bytes) (maxL := maxL) (ret := ret) hM hp.1 hrc hrs hfr hlo hws hcw (fun a' U hW => word_at hW (Or.inl (by first | rfl | simp [Cond.onTables, Cond.keeps, Cond.steady])) hini)
  obtain ⟨hx, hb, hml, ho, -⟩ := S
  obtain ⟨-, ⟨cellB, hcB, hoB, hclB⟩, hPc⟩ := hp
  intro T hT X
  rcases vx_callVX X hx (C := C) (hh := hh) (bytes := bytes) (maxL := maxL) (ret := ret) ho hl hin hse hcode hy hK (by rw [hT]; exact hcB) hoB hclB hg (hsize.trans hml.symm) (argsL := As) (rest := rest) (fun sig h => hn.trans (hlen sig h)) hstack hW (by rw [hb]; exact hdg)
    (fun vm₁ hW₁ => ⟨hf.1, hf.2, hPc (T.setVm vm₁) hT hW₁⟩) with ⟨v, vm₁, ⟨U', l2, c2, s2⟩, hW₁, X', ⟨g', mk, t, L, e1, e2, hq, h1, hL, h2, h3⟩, st⟩ | ⟨q, vm₁, ⟨U', l2, c2, s2⟩, hW₁, X', ⟨g', mk, t, L, E, ce, e1, e2, hq, hce, hcv, hcl, h1, hL, h2, h3⟩, st⟩
  · dsimp only [Pt.U, Pt.locs, Pt.cells, Pt.slots] at X' e1 e2 h1 h2 h3 st
    subst h1; subst h2; subst h3
    exact Or.inl ⟨v, (T.setVm vm₁).calling g' mk (Value.ref b :: As).toArray, t, U', L, hT, X', hL, e1, e2, hq, st⟩
  · dsimp only [Pt.U, Pt.locs, Pt.cells, Pt.slots] at X' e1 e2 h1 h2 h3 st hcl
    subst h1; subst h2; subst h3
    exact Or.inr ⟨q, (T.setVm vm₁).calling g' mk (Value.ref b :: As).toArray, t, U', L, E, ce, hT, X', hL, e1, e2, hq, hce, hcv, vx_cls hW₁ hcl, st⟩
theorem vx_runSX {hh : List (Nat × Nat × Nat × Nat)} (S : CallFix p m c cc nL s args Ts own) (hM : vx_Met l y ws rm Pc Qc XC mc ms free) (cw : vx_CSW R s args own index y bytes maxL ret hh ws rm mc ms n) (hp : PreS s H Pc As)
    (hg : g.method = m) (hn : As.length = n) (hsize : g.locals.size = nL) (hstack : g.stack = As.reverse ++ rest) (hW : 2 * g.monitorRoom + (rest.map fun v => v.category).sum ≤ 8) (hdg : decode cc g.pc = .ok (.invokestatic index, 3)) (hf : cells + mc ≤ R.cells ∧ slots + ms ≤ R.slots) :
    vx_Run p l e R s m args below meth c H locs cells slots mc ms g rest (Qc As.toArray) XC free := by
  obtain ⟨⟨hrc, hrs, hfr, hlo, hws, hcw⟩, hcode, hini, hy, hlen, hl, hstt⟩ := cw
  have hK : vx_Back l R p e below s args y 3 8 (PreOf R mc ms Pc) (PostOf Qc mc ms free) (vx_Post XC mc ms free) := vx_backW (hh := hh) (bytes := bytes) (maxL := maxL) (ret := ret) hM hp.1 hrc hrs hfr hlo hws hcw (fun a' U hW => word_at hW (Or.inl (by first | rfl | simp [Cond.onTables, Cond.keeps, Cond.steady])) hini)
  obtain ⟨hx, hb, hml, ho, -⟩ := S
  intro T hT X
  rcases vx_callSX X hx (hh := hh) (bytes := bytes) (maxL := maxL) (ret := ret) ho hl hstt hini hcode hy hK hg (hsize.trans hml.symm) (argsL := As) (rest := rest) (fun sig h => hn.trans (hlen sig h)) hstack hW (by rw [hb]; exact hdg)
    (fun vm₁ hW₁ => ⟨hf.1, hf.2, hp.2 (T.setVm vm₁) hT hW₁⟩) with ⟨v, vm₁, ⟨U', l2, c2, s2⟩, hW₁, X', ⟨g', mk, t, L, e1, e2, hq, h1, hL, h2, h3⟩, st⟩ | ⟨q, vm₁, ⟨U', l2, c2, s2⟩, hW₁, X', ⟨g', mk, t, L, E, ce, e1, e2, hq, hce, hcv, hcl, h1, hL, h2, h3⟩, st⟩
  · dsimp only [Pt.U, Pt.locs, Pt.cells, Pt.slots] at X' e1 e2 h1 h2 h3 st
    subst h1; subst h2; subst h3
    exact Or.inl ⟨v, (T.setVm vm₁).calling g' mk As.toArray, t, U', L, hT, X', hL, e1, e2, hq, st⟩
  · dsimp only [Pt.U, Pt.locs, Pt.cells, Pt.slots] at X' e1 e2 h1 h2 h3 st hcl
    subst h1; subst h2; subst h3
    exact Or.inr ⟨q, (T.setVm vm₁).calling g' mk As.toArray, t, U', L, E, ce, hT, X', hL, e1, e2, hq, hce, hcv, vx_cls hW₁ hcl, st⟩
end
end VXH
theorem vx_ofWH {l : Launch} {y : MethodName} {ws ws' : List Cond} {rm : Room} {Pc : Array Value → State → Prop} {Qc : Array Value → State → Outcome → State → Prop} {XC : String → State → State → Prop} {mc ms : Nat} {free : Addr → Prop} {cc : ByteArray} {maxL : Nat} {ret : Option FieldType} {hh : List (Nat × Nat × Nat × Nat)}
    (hy : plainName y.cls = true) (hw : ws = Cond.codeWith y cc maxL ret hh :: ws')
    (body : ∀ p e s m args below meth c s₁, BodyLoose p l y (headSpec ws rm) cc maxL ret e s m args below meth c s₁ → c.maxLocals = maxL → Pc args s →
      W p l e (headSpec ws rm).room s m args below meth c s.heap [] 0 0 (vx_MQ below Qc XC args s mc ms free) (entryFrame m args maxL)) : vx_Met l y ws rm Pc Qc XC mc ms free := by
  refine MetFree.of_bodyS (code := cc) (maxLocals := maxL) (ret := ret) hy ?_ ?_
  · intro args s m h hn
    obtain ⟨m9, meth, c, hn9, h1, h2, h3, h4, -, h5, h6, -⟩ := Cond.codeWith_spec (atoms_spec (ws := ws) h _ (by rw [hw]; exact List.mem_cons_self))
    cases hn.symm.trans hn9
    exact ⟨meth, c, h1, h2, h3, h4, h5, h6⟩
  · intro p e s m args below meth c s₁ B hml hP _
    have hh0 : s₁.heap = s.heap := by rw [B.state]; rfl
    obtain ⟨t, a1, o, b1, b2, b3⟩ := body p e s m args below meth c s₁ B hml hP s₁ hh0 (Stand.of_body B)
    exact ⟨t, o, a1, b1, b2, b3⟩
/-! ===== END ===== -/
end
section
/-! ===== BEGIN printed: names, fields, word lists, decode rows ===== -/
def RX0 : String := "HillFinder$Checks"
def TX0 : u_T := fun k => match k with
  | 0 => ("HillFinder$Checks", "hills", "LHillFinder$Hills;", true)
  | 1 => ("HillFinder$Checks", "gauge", "LHillFinder$Gauge;", true)
  | 2 => ("HillFinder$Checks", "streaks", "[I", true)
  | 3 => ("HillFinder$Checks", "firsts", "[I", true)
  | 4 => ("HillFinder$Checks", "seconds", "[I", true)
  | _ => ("HillFinder$Checks", "mendings", "I", false)
def tyX0 : Nat → FieldType := fun k => match k with
  | 0 => .object "HillFinder$Hills"
  | 1 => .object "HillFinder$Gauge"
  | 2 => .array .int
  | 3 => .array .int
  | 4 => .array .int
  | _ => .int
abbrev wsX00 : List Cond := u_ws RX0 TX0 6
theorem nmX0 : ∀ a, a < 6 → ∀ b, b < 6 → a ≠ b → (TX0 a).2.1 ≠ (TX0 b).2.1 := by decide +kernel
theorem tyX0_ok : ∀ k, k < 6 → parseFieldDescriptor (TX0 k).2.2.1 = some (tyX0 k) := by decide +kernel
abbrev cX0_init : ByteArray := prog_2_method_1_code
def yX0_init : MethodName := ⟨RX0, "<init>", "(LHillFinder$Hills;LHillFinder$Gauge;)V"⟩
abbrev cX0_mendings : ByteArray := prog_2_method_2_code
def yX0_mendings : MethodName := ⟨RX0, "mendings", "()I"⟩
abbrev cX0_forget : ByteArray := prog_2_method_3_code
def yX0_forget : MethodName := ⟨RX0, "forget", "()V"⟩
abbrev cX0_hear : ByteArray := prog_2_method_4_code
def yX0_hear : MethodName := ⟨RX0, "hear", "(II)I"⟩
abbrev cX0_hearAgainst : ByteArray := prog_2_method_5_code
def yX0_hearAgainst : MethodName := ⟨RX0, "hearAgainst", "(III)I"⟩
abbrev cX0_mend : ByteArray := prog_2_method_6_code
def yX0_mend : MethodName := ⟨RX0, "mend", "(II)I"⟩
abbrev cX0_middle : ByteArray := prog_2_method_7_code
def yX0_middle : MethodName := ⟨RX0, "middle", "(III)I"⟩
def RX1 : String := "HillFinder$Flight"
def TX1 : u_T := fun k => match k with
  | 0 => ("HillFinder$Flight", "hills", "LHillFinder$Hills;", true)
  | 1 => ("HillFinder$Flight", "gauge", "LHillFinder$Gauge;", true)
  | 2 => ("HillFinder$Flight", "row", "LHillFinder$Row;", true)
  | 3 => ("HillFinder$Flight", "shares", "[J", true)
  | 4 => ("HillFinder$Flight", "moved", "[J", true)
  | _ => ("HillFinder$Flight", "losses", "I", false)
def tyX1 : Nat → FieldType := fun k => match k with
  | 0 => .object "HillFinder$Hills"
  | 1 => .object "HillFinder$Gauge"
  | 2 => .object "HillFinder$Row"
  | 3 => .array .long
  | 4 => .array .long
  | _ => .int
abbrev wsX10 : List Cond := u_ws RX1 TX1 6
theorem nmX1 : ∀ a, a < 6 → ∀ b, b < 6 → a ≠ b → (TX1 a).2.1 ≠ (TX1 b).2.1 := by decide +kernel
theorem tyX1_ok : ∀ k, k < 6 → parseFieldDescriptor (TX1 k).2.2.1 = some (tyX1 k) := by decide +kernel
abbrev cX1_init : ByteArray := prog_3_method_1_code
def yX1_init : MethodName := ⟨RX1, "<init>", "(LHillFinder$Hills;LHillFinder$Gauge;LHillFinder$Row;)V"⟩
abbrev cX1_losses : ByteArray := prog_3_method_2_code
def yX1_losses : MethodName := ⟨RX1, "losses", "()I"⟩
abbrev cX1_forgetLosses : ByteArray := prog_3_method_3_code
def yX1_forgetLosses : MethodName := ⟨RX1, "forgetLosses", "()V"⟩
abbrev cX1_start : ByteArray := prog_3_method_4_code
def yX1_start : MethodName := ⟨RX1, "start", "(I)V"⟩
abbrev cX1_fly : ByteArray := prog_3_method_5_code
def yX1_fly : MethodName := ⟨RX1, "fly", "(II)Z"⟩
abbrev cX1_clearMoved : ByteArray := prog_3_method_6_code
def yX1_clearMoved : MethodName := ⟨RX1, "clearMoved", "()V"⟩
abbrev cX1_spread : ByteArray := prog_3_method_7_code
def yX1_spread : MethodName := ⟨RX1, "spread", "(JII)V"⟩
abbrev cX1_sight : ByteArray := prog_3_method_8_code
def yX1_sight : MethodName := ⟨RX1, "sight", "(I)Z"⟩
abbrev cX1_dropUnfit : ByteArray := prog_3_method_9_code
def yX1_dropUnfit : MethodName := ⟨RX1, "dropUnfit", "(I)V"⟩
abbrev cX1_beginAgain : ByteArray := prog_3_method_10_code
def yX1_beginAgain : MethodName := ⟨RX1, "beginAgain", "()V"⟩
abbrev cX1_shareOf : ByteArray := prog_3_method_11_code
def yX1_shareOf : MethodName := ⟨RX1, "shareOf", "(I)J"⟩
abbrev cX1_total : ByteArray := prog_3_method_12_code
def yX1_total : MethodName := ⟨RX1, "total", "()J"⟩
abbrev cX1_holders : ByteArray := prog_3_method_13_code
def yX1_holders : MethodName := ⟨RX1, "holders", "()I"⟩
abbrev cX1_likeliest : ByteArray := prog_3_method_14_code
def yX1_likeliest : MethodName := ⟨RX1, "likeliest", "()I"⟩
abbrev cX1_edge : ByteArray := prog_3_method_15_code
def yX1_edge : MethodName := ⟨RX1, "edge", "(I)I"⟩
def RX2 : String := "HillFinder$Gauge"
def TX2 : u_T := fun k => match k with
  | 0 => ("HillFinder$Gauge", "err", "I", false)
  | 1 => ("HillFinder$Gauge", "straight", "I", false)
  | _ => ("HillFinder$Gauge", "aside", "I", false)
def tyX2 : Nat → FieldType := fun k => match k with
  | 0 => .int
  | 1 => .int
  | _ => .int
abbrev wsX20 : List Cond := u_ws RX2 TX2 3
theorem nmX2 : ∀ a, a < 3 → ∀ b, b < 3 → a ≠ b → (TX2 a).2.1 ≠ (TX2 b).2.1 := by decide +kernel
theorem tyX2_ok : ∀ k, k < 3 → parseFieldDescriptor (TX2 k).2.2.1 = some (tyX2 k) := by decide +kernel
abbrev cX2_init : ByteArray := prog_4_method_1_code
def yX2_init : MethodName := ⟨RX2, "<init>", "()V"⟩
abbrev cX2_err : ByteArray := prog_4_method_2_code
def yX2_err : MethodName := ⟨RX2, "err", "()I"⟩
abbrev cX2_set : ByteArray := prog_4_method_3_code
def yX2_set : MethodName := ⟨RX2, "set", "(III)Z"⟩
abbrev cX2_weight : ByteArray := prog_4_method_4_code
def yX2_weight : MethodName := ⟨RX2, "weight", "(II)I"⟩
abbrev cX2_fits : ByteArray := prog_4_method_5_code
def yX2_fits : MethodName := ⟨RX2, "fits", "(II)Z"⟩
abbrev cX2_alike : ByteArray := prog_4_method_6_code
def yX2_alike : MethodName := ⟨RX2, "alike", "(II)Z"⟩
def RX3 : String := "HillFinder$Hills"
def TX3 : u_T := fun k => match k with
  | 0 => ("HillFinder$Hills", "heights", "[I", true)
  | 1 => ("HillFinder$Hills", "width", "I", false)
  | _ => ("HillFinder$Hills", "depth", "I", false)
def tyX3 : Nat → FieldType := fun k => match k with
  | 0 => .array .int
  | 1 => .int
  | _ => .int
abbrev wsX30 : List Cond := u_ws RX3 TX3 3
theorem nmX3 : ∀ a, a < 3 → ∀ b, b < 3 → a ≠ b → (TX3 a).2.1 ≠ (TX3 b).2.1 := by decide +kernel
theorem tyX3_ok : ∀ k, k < 3 → parseFieldDescriptor (TX3 k).2.2.1 = some (tyX3 k) := by decide +kernel
abbrev cX3_init : ByteArray := prog_5_method_1_code
def yX3_init : MethodName := ⟨RX3, "<init>", "()V"⟩
abbrev cX3_width : ByteArray := prog_5_method_2_code
def yX3_width : MethodName := ⟨RX3, "width", "()I"⟩
abbrev cX3_depth : ByteArray := prog_5_method_3_code
def yX3_depth : MethodName := ⟨RX3, "depth", "()I"⟩
abbrev cX3_cells : ByteArray := prog_5_method_4_code
def yX3_cells : MethodName := ⟨RX3, "cells", "()I"⟩
abbrev cX3_has : ByteArray := prog_5_method_5_code
def yX3_has : MethodName := ⟨RX3, "has", "(I)Z"⟩
abbrev cX3_cellAt : ByteArray := prog_5_method_6_code
def yX3_cellAt : MethodName := ⟨RX3, "cellAt", "(II)I"⟩
abbrev cX3_heightOf : ByteArray := prog_5_method_7_code
def yX3_heightOf : MethodName := ⟨RX3, "heightOf", "(I)I"⟩
abbrev cX3_setHeight : ByteArray := prog_5_method_8_code
def yX3_setHeight : MethodName := ⟨RX3, "setHeight", "(II)V"⟩
abbrev cX3_tell : ByteArray := prog_5_method_9_code
def yX3_tell : MethodName := ⟨RX3, "tell", "(IILHillFinder$Tape;)Z"⟩
abbrev cX3_isSide : ByteArray := prog_5_method_10_code
def yX3_isSide : MethodName := ⟨RX3, "isSide", "(I)Z"⟩
abbrev cX3_allHeights : ByteArray := prog_5_method_11_code
def yX3_allHeights : MethodName := ⟨RX3, "allHeights", "(LHillFinder$Tape;)Z"⟩
def RX4 : String := "HillFinder$PathSearch"
def TX4 : u_T := fun k => match k with
  | 0 => ("HillFinder$PathSearch", "hills", "LHillFinder$Hills;", true)
  | 1 => ("HillFinder$PathSearch", "gauge", "LHillFinder$Gauge;", true)
  | 2 => ("HillFinder$PathSearch", "row", "LHillFinder$Row;", true)
  | 3 => ("HillFinder$PathSearch", "faults", "[I", true)
  | 4 => ("HillFinder$PathSearch", "ways", "[J", true)
  | 5 => ("HillFinder$PathSearch", "laterFaults", "[I", true)
  | 6 => ("HillFinder$PathSearch", "laterWays", "[J", true)
  | 7 => ("HillFinder$PathSearch", "followers", "[I", true)
  | 8 => ("HillFinder$PathSearch", "path", "[I", true)
  | _ => ("HillFinder$PathSearch", "pathSize", "I", false)
def tyX4 : Nat → FieldType := fun k => match k with
  | 0 => .object "HillFinder$Hills"
  | 1 => .object "HillFinder$Gauge"
  | 2 => .object "HillFinder$Row"
  | 3 => .array .int
  | 4 => .array .long
  | 5 => .array .int
  | 6 => .array .long
  | 7 => .array .int
  | 8 => .array .int
  | _ => .int
abbrev wsX40 : List Cond := u_ws RX4 TX4 10
theorem nmX4 : ∀ a, a < 10 → ∀ b, b < 10 → a ≠ b → (TX4 a).2.1 ≠ (TX4 b).2.1 := by decide +kernel
theorem tyX4_ok : ∀ k, k < 10 → parseFieldDescriptor (TX4 k).2.2.1 = some (tyX4 k) := by decide +kernel
abbrev cX4_init : ByteArray := prog_6_method_1_code
def yX4_init : MethodName := ⟨RX4, "<init>", "(LHillFinder$Hills;LHillFinder$Gauge;LHillFinder$Row;)V"⟩
abbrev cX4_cellOfPath : ByteArray := prog_6_method_2_code
def yX4_cellOfPath : MethodName := ⟨RX4, "cellOfPath", "(I)I"⟩
abbrev cX4_findBest : ByteArray := prog_6_method_3_code
def yX4_findBest : MethodName := ⟨RX4, "findBest", "()I"⟩
abbrev cX4_rateEnds : ByteArray := prog_6_method_4_code
def yX4_rateEnds : MethodName := ⟨RX4, "rateEnds", "()V"⟩
abbrev cX4_stepBack : ByteArray := prog_6_method_5_code
def yX4_stepBack : MethodName := ⟨RX4, "stepBack", "(I)V"⟩
abbrev cX4_rate : ByteArray := prog_6_method_6_code
def yX4_rate : MethodName := ⟨RX4, "rate", "(IIII)V"⟩
abbrev cX4_leads : ByteArray := prog_6_method_7_code
def yX4_leads : MethodName := ⟨RX4, "leads", "(III)Z"⟩
abbrev cX4_isBetter : ByteArray := prog_6_method_8_code
def yX4_isBetter : MethodName := ⟨RX4, "isBetter", "(IJIJ)Z"⟩
abbrev cX4_bestFirst : ByteArray := prog_6_method_9_code
def yX4_bestFirst : MethodName := ⟨RX4, "bestFirst", "()I"⟩
abbrev cX4_keepPath : ByteArray := prog_6_method_10_code
def yX4_keepPath : MethodName := ⟨RX4, "keepPath", "(I)V"⟩
def RX5 : String := "HillFinder$Row"
def TX5 : u_T := fun k => match k with
  | 0 => ("HillFinder$Row", "dxs", "[I", true)
  | 1 => ("HillFinder$Row", "dys", "[I", true)
  | 2 => ("HillFinder$Row", "values", "[I", true)
  | 3 => ("HillFinder$Row", "steps", "[I", true)
  | 4 => ("HillFinder$Row", "moves", "I", false)
  | 5 => ("HillFinder$Row", "readings", "I", false)
  | _ => ("HillFinder$Row", "start", "I", false)
def tyX5 : Nat → FieldType := fun k => match k with
  | 0 => .array .int
  | 1 => .array .int
  | 2 => .array .int
  | 3 => .array .int
  | 4 => .int
  | 5 => .int
  | _ => .int
abbrev wsX50 : List Cond := u_ws RX5 TX5 7
theorem nmX5 : ∀ a, a < 7 → ∀ b, b < 7 → a ≠ b → (TX5 a).2.1 ≠ (TX5 b).2.1 := by decide +kernel
theorem tyX5_ok : ∀ k, k < 7 → parseFieldDescriptor (TX5 k).2.2.1 = some (tyX5 k) := by decide +kernel
abbrev cX5_init : ByteArray := prog_7_method_1_code
def yX5_init : MethodName := ⟨RX5, "<init>", "()V"⟩
abbrev cX5_moves : ByteArray := prog_7_method_2_code
def yX5_moves : MethodName := ⟨RX5, "moves", "()I"⟩
abbrev cX5_readings : ByteArray := prog_7_method_3_code
def yX5_readings : MethodName := ⟨RX5, "readings", "()I"⟩
abbrev cX5_start : ByteArray := prog_7_method_4_code
def yX5_start : MethodName := ⟨RX5, "start", "()I"⟩
abbrev cX5_restart : ByteArray := prog_7_method_5_code
def yX5_restart : MethodName := ⟨RX5, "restart", "(I)V"⟩
abbrev cX5_addMove : ByteArray := prog_7_method_6_code
def yX5_addMove : MethodName := ⟨RX5, "addMove", "(II)V"⟩
abbrev cX5_addReading : ByteArray := prog_7_method_7_code
def yX5_addReading : MethodName := ⟨RX5, "addReading", "(I)V"⟩
abbrev cX5_dx : ByteArray := prog_7_method_8_code
def yX5_dx : MethodName := ⟨RX5, "dx", "(I)I"⟩
abbrev cX5_dy : ByteArray := prog_7_method_9_code
def yX5_dy : MethodName := ⟨RX5, "dy", "(I)I"⟩
abbrev cX5_faultAt : ByteArray := prog_7_method_10_code
def yX5_faultAt : MethodName := ⟨RX5, "faultAt", "(II)I"⟩
def RX6 : String := "HillFinder$Tape"
def TX6 : u_T := fun k => match k with
  | 0 => ("HillFinder$Tape", "bytes", "[B", true)
  | _ => ("HillFinder$Tape", "size", "I", false)
def tyX6 : Nat → FieldType := fun k => match k with
  | 0 => .array .byte
  | _ => .int
abbrev wsX60 : List Cond := u_ws RX6 TX6 2
theorem nmX6 : ∀ a, a < 2 → ∀ b, b < 2 → a ≠ b → (TX6 a).2.1 ≠ (TX6 b).2.1 := by decide +kernel
theorem tyX6_ok : ∀ k, k < 2 → parseFieldDescriptor (TX6 k).2.2.1 = some (tyX6 k) := by decide +kernel
abbrev cX6_init : ByteArray := prog_8_method_1_code
def yX6_init : MethodName := ⟨RX6, "<init>", "()V"⟩
abbrev cX6_size : ByteArray := prog_8_method_2_code
def yX6_size : MethodName := ⟨RX6, "size", "()I"⟩
abbrev cX6_append : ByteArray := prog_8_method_3_code
def yX6_append : MethodName := ⟨RX6, "append", "(I)V"⟩
abbrev cX6_cut : ByteArray := prog_8_method_4_code
def yX6_cut : MethodName := ⟨RX6, "cut", "(I)Z"⟩
abbrev cX6_signedAt : ByteArray := prog_8_method_5_code
def yX6_signedAt : MethodName := ⟨RX6, "signedAt", "(I)I"⟩
abbrev cX6_unsignedAt : ByteArray := prog_8_method_6_code
def yX6_unsignedAt : MethodName := ⟨RX6, "unsignedAt", "(I)I"⟩
def RX7 : String := "HillFinder$TwinSearch"
def TX7 : u_T := fun k => match k with
  | 0 => ("HillFinder$TwinSearch", "hills", "LHillFinder$Hills;", true)
  | 1 => ("HillFinder$TwinSearch", "gauge", "LHillFinder$Gauge;", true)
  | 2 => ("HillFinder$TwinSearch", "tape", "LHillFinder$Tape;", true)
  | 3 => ("HillFinder$TwinSearch", "offXs", "[I", true)
  | 4 => ("HillFinder$TwinSearch", "offYs", "[I", true)
  | 5 => ("HillFinder$TwinSearch", "routeMoves", "I", false)
  | 6 => ("HillFinder$TwinSearch", "starts", "[I", true)
  | 7 => ("HillFinder$TwinSearch", "startCount", "I", false)
  | 8 => ("HillFinder$TwinSearch", "profiles", "[I", true)
  | 9 => ("HillFinder$TwinSearch", "leastPair", "I", false)
  | _ => ("HillFinder$TwinSearch", "keptPair", "I", false)
def tyX7 : Nat → FieldType := fun k => match k with
  | 0 => .object "HillFinder$Hills"
  | 1 => .object "HillFinder$Gauge"
  | 2 => .object "HillFinder$Tape"
  | 3 => .array .int
  | 4 => .array .int
  | 5 => .int
  | 6 => .array .int
  | 7 => .int
  | 8 => .array .int
  | 9 => .int
  | _ => .int
abbrev wsX70 : List Cond := u_ws RX7 TX7 11
theorem nmX7 : ∀ a, a < 11 → ∀ b, b < 11 → a ≠ b → (TX7 a).2.1 ≠ (TX7 b).2.1 := by decide +kernel
theorem tyX7_ok : ∀ k, k < 11 → parseFieldDescriptor (TX7 k).2.2.1 = some (tyX7 k) := by decide +kernel
abbrev cX7_init : ByteArray := prog_9_method_1_code
def yX7_init : MethodName := ⟨RX7, "<init>", "(LHillFinder$Hills;LHillFinder$Gauge;LHillFinder$Tape;)V"⟩
abbrev cX7_firstPair : ByteArray := prog_9_method_2_code
def yX7_firstPair : MethodName := ⟨RX7, "firstPair", "()I"⟩
abbrev cX7_twinsOfTape : ByteArray := prog_9_method_3_code
def yX7_twinsOfTape : MethodName := ⟨RX7, "twinsOfTape", "()I"⟩
abbrev cX7_tellingRoute : ByteArray := prog_9_method_4_code
def yX7_tellingRoute : MethodName := ⟨RX7, "tellingRoute", "(I)I"⟩
abbrev cX7_countTwins : ByteArray := prog_9_method_5_code
def yX7_countTwins : MethodName := ⟨RX7, "countTwins", "(II)I"⟩
abbrev cX7_layRoute : ByteArray := prog_9_method_6_code
def yX7_layRoute : MethodName := ⟨RX7, "layRoute", "(II)Z"⟩
abbrev cX7_flyFromAll : ByteArray := prog_9_method_7_code
def yX7_flyFromAll : MethodName := ⟨RX7, "flyFromAll", "()V"⟩
abbrev cX7_isFlown : ByteArray := prog_9_method_8_code
def yX7_isFlown : MethodName := ⟨RX7, "isFlown", "(II)Z"⟩
abbrev cX7_areTwins : ByteArray := prog_9_method_9_code
def yX7_areTwins : MethodName := ⟨RX7, "areTwins", "(II)Z"⟩
def RX8 : String := "HillFinder"
def TX8 : u_T := fun k => match k with
  | 0 => ("HillFinder", "tape", "LHillFinder$Tape;", true)
  | 1 => ("HillFinder", "hills", "LHillFinder$Hills;", true)
  | 2 => ("HillFinder", "gauge", "LHillFinder$Gauge;", true)
  | 3 => ("HillFinder", "checks", "LHillFinder$Checks;", true)
  | 4 => ("HillFinder", "row", "LHillFinder$Row;", true)
  | 5 => ("HillFinder", "flight", "LHillFinder$Flight;", true)
  | 6 => ("HillFinder", "search", "LHillFinder$PathSearch;", true)
  | _ => ("HillFinder", "pairs", "LHillFinder$TwinSearch;", true)
def tyX8 : Nat → FieldType := fun k => match k with
  | 0 => .object "HillFinder$Tape"
  | 1 => .object "HillFinder$Hills"
  | 2 => .object "HillFinder$Gauge"
  | 3 => .object "HillFinder$Checks"
  | 4 => .object "HillFinder$Row"
  | 5 => .object "HillFinder$Flight"
  | 6 => .object "HillFinder$PathSearch"
  | _ => .object "HillFinder$TwinSearch"
abbrev wsX80 : List Cond := u_ws RX8 TX8 8
theorem nmX8 : ∀ a, a < 8 → ∀ b, b < 8 → a ≠ b → (TX8 a).2.1 ≠ (TX8 b).2.1 := by decide +kernel
theorem tyX8_ok : ∀ k, k < 8 → parseFieldDescriptor (TX8 k).2.2.1 = some (tyX8 k) := by decide +kernel
abbrev cX8_init : ByteArray := prog_1_method_1_code
def yX8_init : MethodName := ⟨RX8, "<init>", "()V"⟩
abbrev cX8_feed : ByteArray := prog_1_method_2_code
def yX8_feed : MethodName := ⟨RX8, "feed", "(IIIII)I"⟩
abbrev cX8_end : ByteArray := prog_1_method_3_code
def yX8_end : MethodName := ⟨RX8, "end", "(I)Z"⟩
abbrev cX8_map : ByteArray := prog_1_method_4_code
def yX8_map : MethodName := ⟨RX8, "map", "(II)Z"⟩
abbrev cX8_meter : ByteArray := prog_1_method_5_code
def yX8_meter : MethodName := ⟨RX8, "meter", "(III)Z"⟩
abbrev cX8_begin : ByteArray := prog_1_method_6_code
def yX8_begin : MethodName := ⟨RX8, "begin", "(I)Z"⟩
abbrev cX8_move : ByteArray := prog_1_method_7_code
def yX8_move : MethodName := ⟨RX8, "move", "(II)I"⟩
abbrev cX8_read : ByteArray := prog_1_method_8_code
def yX8_read : MethodName := ⟨RX8, "read", "(I)I"⟩
abbrev cX8_share : ByteArray := prog_1_method_9_code
def yX8_share : MethodName := ⟨RX8, "share", "(II)J"⟩
abbrev cX8_likely : ByteArray := prog_1_method_10_code
def yX8_likely : MethodName := ⟨RX8, "likely", "()I"⟩
abbrev cX8_span : ByteArray := prog_1_method_11_code
def yX8_span : MethodName := ⟨RX8, "span", "(I)I"⟩
abbrev cX8_best : ByteArray := prog_1_method_12_code
def yX8_best : MethodName := ⟨RX8, "best", "()I"⟩
abbrev cX8_path : ByteArray := prog_1_method_13_code
def yX8_path : MethodName := ⟨RX8, "path", "(I)I"⟩
abbrev cX8_twins : ByteArray := prog_1_method_14_code
def yX8_twins : MethodName := ⟨RX8, "twins", "()I"⟩
abbrev cX8_twin : ByteArray := prog_1_method_15_code
def yX8_twin : MethodName := ⟨RX8, "twin", "()I"⟩
abbrev cX8_route : ByteArray := prog_1_method_16_code
def yX8_route : MethodName := ⟨RX8, "route", "(I)I"⟩
abbrev cX8_check : ByteArray := prog_1_method_17_code
def yX8_check : MethodName := ⟨RX8, "check", "(II)I"⟩
abbrev cX8_height : ByteArray := prog_1_method_18_code
def yX8_height : MethodName := ⟨RX8, "height", "(I)I"⟩
abbrev cX8_count : ByteArray := prog_1_method_19_code
def yX8_count : MethodName := ⟨RX8, "count", "(I)I"⟩
abbrev cX8_isMove : ByteArray := prog_1_method_20_code
def yX8_isMove : MethodName := ⟨RX8, "isMove", "(II)Z"⟩
abbrev cX8_isReading : ByteArray := prog_1_method_21_code
def yX8_isReading : MethodName := ⟨RX8, "isReading", "(I)Z"⟩
abbrev cX8_commonDivisor : ByteArray := prog_1_method_22_code
def yX8_commonDivisor : MethodName := ⟨RX8, "commonDivisor", "(JJ)J"⟩
def RX9 : String := "HillFinderModel"
def TX9 : u_T := fun k => match k with
  | 0 => ("HillFinderModel", "thrown", "I", false)
  | 1 => ("HillFinderModel", "tape", "[B", true)
  | 2 => ("HillFinderModel", "length", "I", false)
  | 3 => ("HillFinderModel", "size", "I", false)
  | 4 => ("HillFinderModel", "heights", "[I", true)
  | 5 => ("HillFinderModel", "side", "[I", true)
  | 6 => ("HillFinderModel", "spoken", "[I", true)
  | 7 => ("HillFinderModel", "firstOf", "[I", true)
  | 8 => ("HillFinderModel", "secondOf", "[I", true)
  | 9 => ("HillFinderModel", "wide", "I", false)
  | 10 => ("HillFinderModel", "high", "I", false)
  | 11 => ("HillFinderModel", "err", "I", false)
  | 12 => ("HillFinderModel", "w0", "I", false)
  | 13 => ("HillFinderModel", "w1", "I", false)
  | 14 => ("HillFinderModel", "lost", "I", false)
  | 15 => ("HillFinderModel", "mended", "I", false)
  | 16 => ("HillFinderModel", "shares", "[J", true)
  | 17 => ("HillFinderModel", "then", "[J", true)
  | 18 => ("HillFinderModel", "legX", "[I", true)
  | 19 => ("HillFinderModel", "legY", "[I", true)
  | 20 => ("HillFinderModel", "readAt", "[I", true)
  | 21 => ("HillFinderModel", "readV", "[I", true)
  | 22 => ("HillFinderModel", "legs", "I", false)
  | 23 => ("HillFinderModel", "reads", "I", false)
  | 24 => ("HillFinderModel", "start", "I", false)
  | 25 => ("HillFinderModel", "faults", "[I", true)
  | 26 => ("HillFinderModel", "faultsThen", "[I", true)
  | 27 => ("HillFinderModel", "rows", "[I", true)
  | 28 => ("HillFinderModel", "rowsThen", "[I", true)
  | 29 => ("HillFinderModel", "told", "[I", true)
  | 30 => ("HillFinderModel", "ways", "[J", true)
  | 31 => ("HillFinderModel", "waysThen", "[J", true)
  | 32 => ("HillFinderModel", "toldMany", "I", false)
  | 33 => ("HillFinderModel", "at", "[I", true)
  | 34 => ("HillFinderModel", "flown", "[Z", true)
  | 35 => ("HillFinderModel", "alike", "[Z", true)
  | 36 => ("HillFinderModel", "twin", "I", false)
  | _ => ("HillFinderModel", "pair", "I", false)
def tyX9 : Nat → FieldType := fun k => match k with
  | 0 => .int
  | 1 => .array .byte
  | 2 => .int
  | 3 => .int
  | 4 => .array .int
  | 5 => .array .int
  | 6 => .array .int
  | 7 => .array .int
  | 8 => .array .int
  | 9 => .int
  | 10 => .int
  | 11 => .int
  | 12 => .int
  | 13 => .int
  | 14 => .int
  | 15 => .int
  | 16 => .array .long
  | 17 => .array .long
  | 18 => .array .int
  | 19 => .array .int
  | 20 => .array .int
  | 21 => .array .int
  | 22 => .int
  | 23 => .int
  | 24 => .int
  | 25 => .array .int
  | 26 => .array .int
  | 27 => .array .int
  | 28 => .array .int
  | 29 => .array .int
  | 30 => .array .long
  | 31 => .array .long
  | 32 => .int
  | 33 => .array .int
  | 34 => .array .boolean
  | 35 => .array .boolean
  | 36 => .int
  | _ => .int
abbrev wsX90 : List Cond := u_ws RX9 TX9 38
theorem nmX9 : ∀ a, a < 38 → ∀ b, b < 38 → a ≠ b → (TX9 a).2.1 ≠ (TX9 b).2.1 := by decide +kernel
theorem tyX9_ok : ∀ k, k < 38 → parseFieldDescriptor (TX9 k).2.2.1 = some (tyX9 k) := by decide +kernel
abbrev cX9_thrown : ByteArray := prog_11_method_1_code
def yX9_thrown : MethodName := ⟨RX9, "thrown", "()I"⟩
abbrev cX9_throwsIf : ByteArray := prog_11_method_2_code
def yX9_throwsIf : MethodName := ⟨RX9, "throwsIf", "(Z)Z"⟩
abbrev cX9_feed : ByteArray := prog_11_method_3_code
def yX9_feed : MethodName := ⟨RX9, "feed", "(IIIII)I"⟩
abbrev cX9_four : ByteArray := prog_11_method_4_code
def yX9_four : MethodName := ⟨RX9, "four", "(I)V"⟩
abbrev cX9_end : ByteArray := prog_11_method_5_code
def yX9_end : MethodName := ⟨RX9, "end", "(I)Z"⟩
abbrev cX9_taken : ByteArray := prog_11_method_6_code
def yX9_taken : MethodName := ⟨RX9, "taken", "()V"⟩
abbrev cX9_init : ByteArray := prog_11_method_7_code
def yX9_init : MethodName := ⟨RX9, "<init>", "()V"⟩
abbrev cX9_cells : ByteArray := prog_11_method_8_code
def yX9_cells : MethodName := ⟨RX9, "cells", "()I"⟩
abbrev cX9_isCell : ByteArray := prog_11_method_9_code
def yX9_isCell : MethodName := ⟨RX9, "isCell", "(I)Z"⟩
abbrev cX9_map : ByteArray := prog_11_method_10_code
def yX9_map : MethodName := ⟨RX9, "map", "(II)Z"⟩
abbrev cX9_meter : ByteArray := prog_11_method_11_code
def yX9_meter : MethodName := ⟨RX9, "meter", "(III)Z"⟩
abbrev cX9_size : ByteArray := prog_11_method_12_code
def yX9_size : MethodName := ⟨RX9, "size", "(I)I"⟩
abbrev cX9_fits : ByteArray := prog_11_method_13_code
def yX9_fits : MethodName := ⟨RX9, "fits", "(II)Z"⟩
abbrev cX9_fly : ByteArray := prog_11_method_14_code
def yX9_fly : MethodName := ⟨RX9, "fly", "(I)V"⟩
abbrev cX9_begin : ByteArray := prog_11_method_15_code
def yX9_begin : MethodName := ⟨RX9, "begin", "(I)Z"⟩
abbrev cX9_withShare : ByteArray := prog_11_method_16_code
def yX9_withShare : MethodName := ⟨RX9, "withShare", "()I"⟩
abbrev cX9_weight : ByteArray := prog_11_method_17_code
def yX9_weight : MethodName := ⟨RX9, "weight", "(I)I"⟩
abbrev cX9_off : ByteArray := prog_11_method_18_code
def yX9_off : MethodName := ⟨RX9, "off", "(III)I"⟩
abbrev cX9_move : ByteArray := prog_11_method_19_code
def yX9_move : MethodName := ⟨RX9, "move", "(II)I"⟩
abbrev cX9_read : ByteArray := prog_11_method_20_code
def yX9_read : MethodName := ⟨RX9, "read", "(I)I"⟩
abbrev cX9_common : ByteArray := prog_11_method_21_code
def yX9_common : MethodName := ⟨RX9, "common", "(JJ)J"⟩
abbrev cX9_share : ByteArray := prog_11_method_22_code
def yX9_share : MethodName := ⟨RX9, "share", "(II)J"⟩
abbrev cX9_likely : ByteArray := prog_11_method_23_code
def yX9_likely : MethodName := ⟨RX9, "likely", "()I"⟩
abbrev cX9_span : ByteArray := prog_11_method_24_code
def yX9_span : MethodName := ⟨RX9, "span", "(I)I"⟩
abbrev cX9_errs : ByteArray := prog_11_method_25_code
def yX9_errs : MethodName := ⟨RX9, "errs", "(II)I"⟩
abbrev cX9_isBetter : ByteArray := prog_11_method_26_code
def yX9_isBetter : MethodName := ⟨RX9, "isBetter", "(IJIII)Z"⟩
abbrev cX9_best : ByteArray := prog_11_method_27_code
def yX9_best : MethodName := ⟨RX9, "best", "()I"⟩
abbrev cX9_isAhead : ByteArray := prog_11_method_28_code
def yX9_isAhead : MethodName := ⟨RX9, "isAhead", "(II)Z"⟩
abbrev cX9_path : ByteArray := prog_11_method_29_code
def yX9_path : MethodName := ⟨RX9, "path", "(I)I"⟩
abbrev cX9_pairs : ByteArray := prog_11_method_30_code
def yX9_pairs : MethodName := ⟨RX9, "pairs", "(II)I"⟩
abbrev cX9_isRoute : ByteArray := prog_11_method_31_code
def yX9_isRoute : MethodName := ⟨RX9, "isRoute", "(II)Z"⟩
abbrev cX9_twins : ByteArray := prog_11_method_32_code
def yX9_twins : MethodName := ⟨RX9, "twins", "()I"⟩
abbrev cX9_twin : ByteArray := prog_11_method_33_code
def yX9_twin : MethodName := ⟨RX9, "twin", "()I"⟩
abbrev cX9_route : ByteArray := prog_11_method_34_code
def yX9_route : MethodName := ⟨RX9, "route", "(I)I"⟩
abbrev cX9_middle : ByteArray := prog_11_method_35_code
def yX9_middle : MethodName := ⟨RX9, "middle", "(III)I"⟩
abbrev cX9_check : ByteArray := prog_11_method_36_code
def yX9_check : MethodName := ⟨RX9, "check", "(II)I"⟩
abbrev cX9_height : ByteArray := prog_11_method_37_code
def yX9_height : MethodName := ⟨RX9, "height", "(I)I"⟩
abbrev cX9_count : ByteArray := prog_11_method_38_code
def yX9_count : MethodName := ⟨RX9, "count", "(I)I"⟩
def RJx145de : String := "java/io/Serializable"
def TJx145de : u_T := fun k => match k with
  | _ => ("", "", "", false)
def tyJx145de : Nat → FieldType := fun k => match k with
  | _ => .int
abbrev wsJx145de0 : List Cond := u_ws RJx145de TJx145de 0
theorem nmJx145de : ∀ a, a < 0 → ∀ b, b < 0 → a ≠ b → (TJx145de a).2.1 ≠ (TJx145de b).2.1 := by decide +kernel
theorem tyJx145de_ok : ∀ k, k < 0 → parseFieldDescriptor (TJx145de k).2.2.1 = some (tyJx145de k) := by decide +kernel
def RJ9 : String := "java/lang/Math"
def TJ9 : u_T := fun k => match k with
  | _ => ("", "", "", false)
def tyJ9 : Nat → FieldType := fun k => match k with
  | _ => .int
abbrev wsJ90 : List Cond := u_ws RJ9 TJ9 0
theorem nmJ9 : ∀ a, a < 0 → ∀ b, b < 0 → a ≠ b → (TJ9 a).2.1 ≠ (TJ9 b).2.1 := by decide +kernel
theorem tyJ9_ok : ∀ k, k < 0 → parseFieldDescriptor (TJ9 k).2.2.1 = some (tyJ9 k) := by decide +kernel
abbrev cJ9_abs_0f7a4 : ByteArray := prog_14_method_59_code
def yJ9_abs_0f7a4 : MethodName := ⟨RJ9, "abs", "(I)I"⟩
abbrev cJ9_max_7cf53 : ByteArray := prog_14_method_65_code
def yJ9_max_7cf53 : MethodName := ⟨RJ9, "max", "(II)I"⟩
abbrev cJ9_min_7cf53 : ByteArray := prog_14_method_69_code
def yJ9_min_7cf53 : MethodName := ⟨RJ9, "min", "(II)I"⟩
def RJ10 : String := "java/lang/System"
def TJ10 : u_T := fun k => match k with
  | _ => ("", "", "", false)
def tyJ10 : Nat → FieldType := fun k => match k with
  | _ => .int
abbrev wsJ100 : List Cond := u_ws RJ10 TJ10 0
theorem nmJ10 : ∀ a, a < 0 → ∀ b, b < 0 → a ≠ b → (TJ10 a).2.1 ≠ (TJ10 b).2.1 := by decide +kernel
theorem tyJ10_ok : ∀ k, k < 0 → parseFieldDescriptor (TJ10 k).2.2.1 = some (tyJ10 k) := by decide +kernel
def RL : String := "HillFinderLaw"
abbrev cL_share : ByteArray := method_3_code
def yL_share : MethodName := ⟨RL, "share", "(LHillFinder;II[J)I"⟩
abbrev cL_law : ByteArray := code
def yL_law : MethodName := ⟨RL, "law", "([I)Z"⟩
def wsJ9_abs_0f7a4 : List Cond := .code yJ9_abs_0f7a4 cJ9_abs_0f7a4 1 (some .int) :: ([])
def wsJ9_max_7cf53 : List Cond := .code yJ9_max_7cf53 cJ9_max_7cf53 2 (some .int) :: ([])
def wsJ9_min_7cf53 : List Cond := .code yJ9_min_7cf53 cJ9_min_7cf53 2 (some .int) :: ([])
abbrev vwCl : List vw_C := [(RX0, TX0, 6), (RX1, TX1, 6), (RX2, TX2, 3), (RX3, TX3, 3), (RX4, TX4, 10), (RX5, TX5, 7), (RX6, TX6, 2), (RX7, TX7, 11), (RX8, TX8, 8), (RX9, TX9, 38)]
end
section
theorem dX0_init_0 : decode cX0_init 0 = .ok (.aload_n 0, 1) := by decide +kernel
theorem dX0_init_1 : decode cX0_init 1 = .ok (.invokespecial 3, 3) := by decide +kernel
theorem dX0_init_4 : decode cX0_init 4 = .ok (.aload_n 0, 1) := by decide +kernel
theorem dX0_init_5 : decode cX0_init 5 = .ok (.sipush 144, 3) := by decide +kernel
theorem dX0_init_8 : decode cX0_init 8 = .ok (.newarray .int, 2) := by decide +kernel
theorem dX0_init_10 : decode cX0_init 10 = .ok (.putfield 9, 3) := by decide +kernel
theorem dX0_init_13 : decode cX0_init 13 = .ok (.aload_n 0, 1) := by decide +kernel
theorem dX0_init_14 : decode cX0_init 14 = .ok (.sipush 144, 3) := by decide +kernel
theorem dX0_init_17 : decode cX0_init 17 = .ok (.newarray .int, 2) := by decide +kernel
theorem dX0_init_19 : decode cX0_init 19 = .ok (.putfield 15, 3) := by decide +kernel
theorem dX0_init_22 : decode cX0_init 22 = .ok (.aload_n 0, 1) := by decide +kernel
theorem dX0_init_23 : decode cX0_init 23 = .ok (.sipush 144, 3) := by decide +kernel
theorem dX0_init_26 : decode cX0_init 26 = .ok (.newarray .int, 2) := by decide +kernel
theorem dX0_init_28 : decode cX0_init 28 = .ok (.putfield 18, 3) := by decide +kernel
theorem dX0_init_31 : decode cX0_init 31 = .ok (.aload_n 0, 1) := by decide +kernel
theorem dX0_init_32 : decode cX0_init 32 = .ok (.iconst 0, 1) := by decide +kernel
theorem dX0_init_33 : decode cX0_init 33 = .ok (.putfield 21, 3) := by decide +kernel
theorem dX0_init_36 : decode cX0_init 36 = .ok (.aload_n 0, 1) := by decide +kernel
theorem dX0_init_37 : decode cX0_init 37 = .ok (.aload_n 1, 1) := by decide +kernel
theorem dX0_init_38 : decode cX0_init 38 = .ok (.putfield 25, 3) := by decide +kernel
theorem dX0_init_41 : decode cX0_init 41 = .ok (.aload_n 0, 1) := by decide +kernel
theorem dX0_init_42 : decode cX0_init 42 = .ok (.aload_n 2, 1) := by decide +kernel
theorem dX0_init_43 : decode cX0_init 43 = .ok (.putfield 29, 3) := by decide +kernel
theorem dX0_init_46 : decode cX0_init 46 = .ok (.return_, 1) := by decide +kernel
theorem dX0_mendings_0 : decode cX0_mendings 0 = .ok (.aload_n 0, 1) := by decide +kernel
theorem dX0_mendings_1 : decode cX0_mendings 1 = .ok (.getfield 21, 3) := by decide +kernel
theorem dX0_mendings_4 : decode cX0_mendings 4 = .ok (.ireturn, 1) := by decide +kernel
theorem dX0_forget_0 : decode cX0_forget 0 = .ok (.iconst 0, 1) := by decide +kernel
theorem dX0_forget_1 : decode cX0_forget 1 = .ok (.istore_n 1, 1) := by decide +kernel
theorem dX0_forget_2 : decode cX0_forget 2 = .ok (.iload_n 1, 1) := by decide +kernel
theorem dX0_forget_3 : decode cX0_forget 3 = .ok (.sipush 144, 3) := by decide +kernel
theorem dX0_forget_6 : decode cX0_forget 6 = .ok (.if_icmp .ge 16, 3) := by decide +kernel
theorem dX0_forget_9 : decode cX0_forget 9 = .ok (.aload_n 0, 1) := by decide +kernel
theorem dX0_forget_10 : decode cX0_forget 10 = .ok (.getfield 9, 3) := by decide +kernel
theorem dX0_forget_13 : decode cX0_forget 13 = .ok (.iload_n 1, 1) := by decide +kernel
theorem dX0_forget_14 : decode cX0_forget 14 = .ok (.iconst 0, 1) := by decide +kernel
theorem dX0_forget_15 : decode cX0_forget 15 = .ok (.iastore, 1) := by decide +kernel
theorem dX0_forget_16 : decode cX0_forget 16 = .ok (.iinc 1 1, 3) := by decide +kernel
theorem dX0_forget_19 : decode cX0_forget 19 = .ok (.goto (-17), 3) := by decide +kernel
theorem dX0_forget_22 : decode cX0_forget 22 = .ok (.aload_n 0, 1) := by decide +kernel
theorem dX0_forget_23 : decode cX0_forget 23 = .ok (.iconst 0, 1) := by decide +kernel
theorem dX0_forget_24 : decode cX0_forget 24 = .ok (.putfield 21, 3) := by decide +kernel
theorem dX0_forget_27 : decode cX0_forget 27 = .ok (.return_, 1) := by decide +kernel
theorem dX0_hear_0 : decode cX0_hear 0 = .ok (.iload_n 1, 1) := by decide +kernel
theorem dX0_hear_1 : decode cX0_hear 1 = .ok (.ifCond .lt 10, 3) := by decide +kernel
theorem dX0_hear_4 : decode cX0_hear 4 = .ok (.iload_n 1, 1) := by decide +kernel
theorem dX0_hear_5 : decode cX0_hear 5 = .ok (.sipush 144, 3) := by decide +kernel
theorem dX0_hear_8 : decode cX0_hear 8 = .ok (.if_icmp .lt 5, 3) := by decide +kernel
theorem dX0_hear_11 : decode cX0_hear 11 = .ok (.iconst (-1), 1) := by decide +kernel
theorem dX0_hear_12 : decode cX0_hear 12 = .ok (.ireturn, 1) := by decide +kernel
theorem dX0_hear_13 : decode cX0_hear 13 = .ok (.aload_n 0, 1) := by decide +kernel
theorem dX0_hear_14 : decode cX0_hear 14 = .ok (.getfield 25, 3) := by decide +kernel
theorem dX0_hear_17 : decode cX0_hear 17 = .ok (.iload_n 1, 1) := by decide +kernel
theorem dX0_hear_18 : decode cX0_hear 18 = .ok (.invokevirtual 33, 3) := by decide +kernel
theorem dX0_hear_21 : decode cX0_hear 21 = .ok (.istore_n 3, 1) := by decide +kernel
theorem dX0_hear_22 : decode cX0_hear 22 = .ok (.iload_n 3, 1) := by decide +kernel
theorem dX0_hear_23 : decode cX0_hear 23 = .ok (.iconst (-1), 1) := by decide +kernel
theorem dX0_hear_24 : decode cX0_hear 24 = .ok (.if_icmp .ne 10, 3) := by decide +kernel
theorem dX0_hear_27 : decode cX0_hear 27 = .ok (.aload_n 0, 1) := by decide +kernel
theorem dX0_hear_28 : decode cX0_hear 28 = .ok (.iload_n 1, 1) := by decide +kernel
theorem dX0_hear_29 : decode cX0_hear 29 = .ok (.iload_n 2, 1) := by decide +kernel
theorem dX0_hear_30 : decode cX0_hear 30 = .ok (.invokevirtual 39, 3) := by decide +kernel
theorem dX0_hear_33 : decode cX0_hear 33 = .ok (.ireturn, 1) := by decide +kernel
theorem dX0_hear_34 : decode cX0_hear 34 = .ok (.aload_n 0, 1) := by decide +kernel
theorem dX0_hear_35 : decode cX0_hear 35 = .ok (.getfield 29, 3) := by decide +kernel
theorem dX0_hear_38 : decode cX0_hear 38 = .ok (.iload_n 2, 1) := by decide +kernel
theorem dX0_hear_39 : decode cX0_hear 39 = .ok (.iload_n 3, 1) := by decide +kernel
theorem dX0_hear_40 : decode cX0_hear 40 = .ok (.invokevirtual 43, 3) := by decide +kernel
theorem dX0_hear_43 : decode cX0_hear 43 = .ok (.ifCond .eq 12, 3) := by decide +kernel
theorem dX0_hear_46 : decode cX0_hear 46 = .ok (.aload_n 0, 1) := by decide +kernel
theorem dX0_hear_47 : decode cX0_hear 47 = .ok (.getfield 9, 3) := by decide +kernel
theorem dX0_hear_50 : decode cX0_hear 50 = .ok (.iload_n 1, 1) := by decide +kernel
theorem dX0_hear_51 : decode cX0_hear 51 = .ok (.iconst 0, 1) := by decide +kernel
theorem dX0_hear_52 : decode cX0_hear 52 = .ok (.iastore, 1) := by decide +kernel
theorem dX0_hear_53 : decode cX0_hear 53 = .ok (.iconst 0, 1) := by decide +kernel
theorem dX0_hear_54 : decode cX0_hear 54 = .ok (.ireturn, 1) := by decide +kernel
theorem dX0_hear_55 : decode cX0_hear 55 = .ok (.aload_n 0, 1) := by decide +kernel
theorem dX0_hear_56 : decode cX0_hear 56 = .ok (.iload_n 1, 1) := by decide +kernel
theorem dX0_hear_57 : decode cX0_hear 57 = .ok (.iload_n 2, 1) := by decide +kernel
theorem dX0_hear_58 : decode cX0_hear 58 = .ok (.iload_n 2, 1) := by decide +kernel
theorem dX0_hear_59 : decode cX0_hear 59 = .ok (.iload_n 3, 1) := by decide +kernel
theorem dX0_hear_60 : decode cX0_hear 60 = .ok (.if_icmp .le 7, 3) := by decide +kernel
theorem dX0_hear_63 : decode cX0_hear 63 = .ok (.iconst 1, 1) := by decide +kernel
theorem dX0_hear_64 : decode cX0_hear 64 = .ok (.goto 4, 3) := by decide +kernel
theorem dX0_hear_67 : decode cX0_hear 67 = .ok (.iconst (-1), 1) := by decide +kernel
theorem dX0_hear_68 : decode cX0_hear 68 = .ok (.invokevirtual 49, 3) := by decide +kernel
theorem dX0_hear_71 : decode cX0_hear 71 = .ok (.ireturn, 1) := by decide +kernel
theorem dX0_hearAgainst_0 : decode cX0_hearAgainst 0 = .ok (.iload_n 1, 1) := by decide +kernel
theorem dX0_hearAgainst_1 : decode cX0_hearAgainst 1 = .ok (.ifCond .lt 10, 3) := by decide +kernel
theorem dX0_hearAgainst_4 : decode cX0_hearAgainst 4 = .ok (.iload_n 1, 1) := by decide +kernel
theorem dX0_hearAgainst_5 : decode cX0_hearAgainst 5 = .ok (.sipush 144, 3) := by decide +kernel
theorem dX0_hearAgainst_8 : decode cX0_hearAgainst 8 = .ok (.if_icmp .lt 5, 3) := by decide +kernel
theorem dX0_hearAgainst_11 : decode cX0_hearAgainst 11 = .ok (.iconst (-1), 1) := by decide +kernel
theorem dX0_hearAgainst_12 : decode cX0_hearAgainst 12 = .ok (.ireturn, 1) := by decide +kernel
theorem dX0_hearAgainst_13 : decode cX0_hearAgainst 13 = .ok (.iconst 0, 1) := by decide +kernel
theorem dX0_hearAgainst_14 : decode cX0_hearAgainst 14 = .ok (.aload_n 0, 1) := by decide +kernel
theorem dX0_hearAgainst_15 : decode cX0_hearAgainst 15 = .ok (.getfield 9, 3) := by decide +kernel
theorem dX0_hearAgainst_18 : decode cX0_hearAgainst 18 = .ok (.iload_n 1, 1) := by decide +kernel
theorem dX0_hearAgainst_19 : decode cX0_hearAgainst 19 = .ok (.iaload, 1) := by decide +kernel
theorem dX0_hearAgainst_20 : decode cX0_hearAgainst 20 = .ok (.iload_n 3, 1) := by decide +kernel
theorem dX0_hearAgainst_21 : decode cX0_hearAgainst 21 = .ok (.imul, 1) := by decide +kernel
theorem dX0_hearAgainst_22 : decode cX0_hearAgainst 22 = .ok (.invokestatic 53, 3) := by decide +kernel
theorem dX0_hearAgainst_25 : decode cX0_hearAgainst 25 = .ok (.istore 4, 2) := by decide +kernel
theorem dX0_hearAgainst_27 : decode cX0_hearAgainst 27 = .ok (.iload 4, 2) := by decide +kernel
theorem dX0_hearAgainst_29 : decode cX0_hearAgainst 29 = .ok (.iconst 2, 1) := by decide +kernel
theorem dX0_hearAgainst_30 : decode cX0_hearAgainst 30 = .ok (.if_icmp .lt 25, 3) := by decide +kernel
theorem dX0_hearAgainst_33 : decode cX0_hearAgainst 33 = .ok (.aload_n 0, 1) := by decide +kernel
theorem dX0_hearAgainst_34 : decode cX0_hearAgainst 34 = .ok (.iload_n 1, 1) := by decide +kernel
theorem dX0_hearAgainst_35 : decode cX0_hearAgainst 35 = .ok (.aload_n 0, 1) := by decide +kernel
theorem dX0_hearAgainst_36 : decode cX0_hearAgainst 36 = .ok (.getfield 15, 3) := by decide +kernel
theorem dX0_hearAgainst_39 : decode cX0_hearAgainst 39 = .ok (.iload_n 1, 1) := by decide +kernel
theorem dX0_hearAgainst_40 : decode cX0_hearAgainst 40 = .ok (.iaload, 1) := by decide +kernel
theorem dX0_hearAgainst_41 : decode cX0_hearAgainst 41 = .ok (.aload_n 0, 1) := by decide +kernel
theorem dX0_hearAgainst_42 : decode cX0_hearAgainst 42 = .ok (.getfield 18, 3) := by decide +kernel
theorem dX0_hearAgainst_45 : decode cX0_hearAgainst 45 = .ok (.iload_n 1, 1) := by decide +kernel
theorem dX0_hearAgainst_46 : decode cX0_hearAgainst 46 = .ok (.iaload, 1) := by decide +kernel
theorem dX0_hearAgainst_47 : decode cX0_hearAgainst 47 = .ok (.iload_n 2, 1) := by decide +kernel
theorem dX0_hearAgainst_48 : decode cX0_hearAgainst 48 = .ok (.invokestatic 58, 3) := by decide +kernel
theorem dX0_hearAgainst_51 : decode cX0_hearAgainst 51 = .ok (.invokevirtual 39, 3) := by decide +kernel
theorem dX0_hearAgainst_54 : decode cX0_hearAgainst 54 = .ok (.ireturn, 1) := by decide +kernel
theorem dX0_hearAgainst_55 : decode cX0_hearAgainst 55 = .ok (.iload 4, 2) := by decide +kernel
theorem dX0_hearAgainst_57 : decode cX0_hearAgainst 57 = .ok (.ifCond .ne 13, 3) := by decide +kernel
theorem dX0_hearAgainst_60 : decode cX0_hearAgainst 60 = .ok (.aload_n 0, 1) := by decide +kernel
theorem dX0_hearAgainst_61 : decode cX0_hearAgainst 61 = .ok (.getfield 15, 3) := by decide +kernel
theorem dX0_hearAgainst_64 : decode cX0_hearAgainst 64 = .ok (.iload_n 1, 1) := by decide +kernel
theorem dX0_hearAgainst_65 : decode cX0_hearAgainst 65 = .ok (.iload_n 2, 1) := by decide +kernel
theorem dX0_hearAgainst_66 : decode cX0_hearAgainst 66 = .ok (.iastore, 1) := by decide +kernel
theorem dX0_hearAgainst_67 : decode cX0_hearAgainst 67 = .ok (.goto 10, 3) := by decide +kernel
theorem dX0_hearAgainst_70 : decode cX0_hearAgainst 70 = .ok (.aload_n 0, 1) := by decide +kernel
theorem dX0_hearAgainst_71 : decode cX0_hearAgainst 71 = .ok (.getfield 18, 3) := by decide +kernel
theorem dX0_hearAgainst_74 : decode cX0_hearAgainst 74 = .ok (.iload_n 1, 1) := by decide +kernel
theorem dX0_hearAgainst_75 : decode cX0_hearAgainst 75 = .ok (.iload_n 2, 1) := by decide +kernel
theorem dX0_hearAgainst_76 : decode cX0_hearAgainst 76 = .ok (.iastore, 1) := by decide +kernel
theorem dX0_hearAgainst_77 : decode cX0_hearAgainst 77 = .ok (.aload_n 0, 1) := by decide +kernel
theorem dX0_hearAgainst_78 : decode cX0_hearAgainst 78 = .ok (.getfield 9, 3) := by decide +kernel
theorem dX0_hearAgainst_81 : decode cX0_hearAgainst 81 = .ok (.iload_n 1, 1) := by decide +kernel
theorem dX0_hearAgainst_82 : decode cX0_hearAgainst 82 = .ok (.iload 4, 2) := by decide +kernel
theorem dX0_hearAgainst_84 : decode cX0_hearAgainst 84 = .ok (.iconst 1, 1) := by decide +kernel
theorem dX0_hearAgainst_85 : decode cX0_hearAgainst 85 = .ok (.iadd, 1) := by decide +kernel
theorem dX0_hearAgainst_86 : decode cX0_hearAgainst 86 = .ok (.iload_n 3, 1) := by decide +kernel
theorem dX0_hearAgainst_87 : decode cX0_hearAgainst 87 = .ok (.imul, 1) := by decide +kernel
theorem dX0_hearAgainst_88 : decode cX0_hearAgainst 88 = .ok (.iastore, 1) := by decide +kernel
theorem dX0_hearAgainst_89 : decode cX0_hearAgainst 89 = .ok (.iconst 1, 1) := by decide +kernel
theorem dX0_hearAgainst_90 : decode cX0_hearAgainst 90 = .ok (.ireturn, 1) := by decide +kernel
theorem dX0_mend_0 : decode cX0_mend 0 = .ok (.iload_n 1, 1) := by decide +kernel
theorem dX0_mend_1 : decode cX0_mend 1 = .ok (.ifCond .lt 10, 3) := by decide +kernel
theorem dX0_mend_4 : decode cX0_mend 4 = .ok (.iload_n 1, 1) := by decide +kernel
theorem dX0_mend_5 : decode cX0_mend 5 = .ok (.sipush 144, 3) := by decide +kernel
theorem dX0_mend_8 : decode cX0_mend 8 = .ok (.if_icmp .lt 5, 3) := by decide +kernel
theorem dX0_mend_11 : decode cX0_mend 11 = .ok (.iconst (-1), 1) := by decide +kernel
theorem dX0_mend_12 : decode cX0_mend 12 = .ok (.ireturn, 1) := by decide +kernel
theorem dX0_mend_13 : decode cX0_mend 13 = .ok (.aload_n 0, 1) := by decide +kernel
theorem dX0_mend_14 : decode cX0_mend 14 = .ok (.getfield 25, 3) := by decide +kernel
theorem dX0_mend_17 : decode cX0_mend 17 = .ok (.iload_n 1, 1) := by decide +kernel
theorem dX0_mend_18 : decode cX0_mend 18 = .ok (.iload_n 2, 1) := by decide +kernel
theorem dX0_mend_19 : decode cX0_mend 19 = .ok (.invokevirtual 61, 3) := by decide +kernel
theorem dX0_mend_22 : decode cX0_mend 22 = .ok (.aload_n 0, 1) := by decide +kernel
theorem dX0_mend_23 : decode cX0_mend 23 = .ok (.getfield 9, 3) := by decide +kernel
theorem dX0_mend_26 : decode cX0_mend 26 = .ok (.iload_n 1, 1) := by decide +kernel
theorem dX0_mend_27 : decode cX0_mend 27 = .ok (.iconst 0, 1) := by decide +kernel
theorem dX0_mend_28 : decode cX0_mend 28 = .ok (.iastore, 1) := by decide +kernel
theorem dX0_mend_29 : decode cX0_mend 29 = .ok (.aload_n 0, 1) := by decide +kernel
theorem dX0_mend_30 : decode cX0_mend 30 = .ok (.dup, 1) := by decide +kernel
theorem dX0_mend_31 : decode cX0_mend 31 = .ok (.getfield 21, 3) := by decide +kernel
theorem dX0_mend_34 : decode cX0_mend 34 = .ok (.iconst 1, 1) := by decide +kernel
theorem dX0_mend_35 : decode cX0_mend 35 = .ok (.iadd, 1) := by decide +kernel
theorem dX0_mend_36 : decode cX0_mend 36 = .ok (.putfield 21, 3) := by decide +kernel
theorem dX0_mend_39 : decode cX0_mend 39 = .ok (.iconst 2, 1) := by decide +kernel
theorem dX0_mend_40 : decode cX0_mend 40 = .ok (.ireturn, 1) := by decide +kernel
theorem dX0_middle_0 : decode cX0_middle 0 = .ok (.iload_n 0, 1) := by decide +kernel
theorem dX0_middle_1 : decode cX0_middle 1 = .ok (.iload_n 1, 1) := by decide +kernel
theorem dX0_middle_2 : decode cX0_middle 2 = .ok (.invokestatic 65, 3) := by decide +kernel
theorem dX0_middle_5 : decode cX0_middle 5 = .ok (.iload_n 0, 1) := by decide +kernel
theorem dX0_middle_6 : decode cX0_middle 6 = .ok (.iload_n 1, 1) := by decide +kernel
theorem dX0_middle_7 : decode cX0_middle 7 = .ok (.invokestatic 53, 3) := by decide +kernel
theorem dX0_middle_10 : decode cX0_middle 10 = .ok (.iload_n 2, 1) := by decide +kernel
theorem dX0_middle_11 : decode cX0_middle 11 = .ok (.invokestatic 65, 3) := by decide +kernel
theorem dX0_middle_14 : decode cX0_middle 14 = .ok (.invokestatic 53, 3) := by decide +kernel
theorem dX0_middle_17 : decode cX0_middle 17 = .ok (.ireturn, 1) := by decide +kernel
theorem dX1_init_0 : decode cX1_init 0 = .ok (.aload_n 0, 1) := by decide +kernel
theorem dX1_init_1 : decode cX1_init 1 = .ok (.invokespecial 3, 3) := by decide +kernel
theorem dX1_init_4 : decode cX1_init 4 = .ok (.aload_n 0, 1) := by decide +kernel
theorem dX1_init_5 : decode cX1_init 5 = .ok (.sipush 144, 3) := by decide +kernel
theorem dX1_init_8 : decode cX1_init 8 = .ok (.newarray .long, 2) := by decide +kernel
theorem dX1_init_10 : decode cX1_init 10 = .ok (.putfield 9, 3) := by decide +kernel
theorem dX1_init_13 : decode cX1_init 13 = .ok (.aload_n 0, 1) := by decide +kernel
theorem dX1_init_14 : decode cX1_init 14 = .ok (.sipush 144, 3) := by decide +kernel
theorem dX1_init_17 : decode cX1_init 17 = .ok (.newarray .long, 2) := by decide +kernel
theorem dX1_init_19 : decode cX1_init 19 = .ok (.putfield 15, 3) := by decide +kernel
theorem dX1_init_22 : decode cX1_init 22 = .ok (.aload_n 0, 1) := by decide +kernel
theorem dX1_init_23 : decode cX1_init 23 = .ok (.iconst 0, 1) := by decide +kernel
theorem dX1_init_24 : decode cX1_init 24 = .ok (.putfield 18, 3) := by decide +kernel
theorem dX1_init_27 : decode cX1_init 27 = .ok (.aload_n 0, 1) := by decide +kernel
theorem dX1_init_28 : decode cX1_init 28 = .ok (.aload_n 1, 1) := by decide +kernel
theorem dX1_init_29 : decode cX1_init 29 = .ok (.putfield 22, 3) := by decide +kernel
theorem dX1_init_32 : decode cX1_init 32 = .ok (.aload_n 0, 1) := by decide +kernel
theorem dX1_init_33 : decode cX1_init 33 = .ok (.aload_n 2, 1) := by decide +kernel
theorem dX1_init_34 : decode cX1_init 34 = .ok (.putfield 26, 3) := by decide +kernel
theorem dX1_init_37 : decode cX1_init 37 = .ok (.aload_n 0, 1) := by decide +kernel
theorem dX1_init_38 : decode cX1_init 38 = .ok (.aload_n 3, 1) := by decide +kernel
theorem dX1_init_39 : decode cX1_init 39 = .ok (.putfield 30, 3) := by decide +kernel
theorem dX1_init_42 : decode cX1_init 42 = .ok (.return_, 1) := by decide +kernel
theorem dX1_losses_0 : decode cX1_losses 0 = .ok (.aload_n 0, 1) := by decide +kernel
theorem dX1_losses_1 : decode cX1_losses 1 = .ok (.getfield 18, 3) := by decide +kernel
theorem dX1_losses_4 : decode cX1_losses 4 = .ok (.ireturn, 1) := by decide +kernel
theorem dX1_forgetLosses_0 : decode cX1_forgetLosses 0 = .ok (.aload_n 0, 1) := by decide +kernel
theorem dX1_forgetLosses_1 : decode cX1_forgetLosses 1 = .ok (.iconst 0, 1) := by decide +kernel
theorem dX1_forgetLosses_2 : decode cX1_forgetLosses 2 = .ok (.putfield 18, 3) := by decide +kernel
theorem dX1_forgetLosses_5 : decode cX1_forgetLosses 5 = .ok (.return_, 1) := by decide +kernel
theorem dX1_start_0 : decode cX1_start 0 = .ok (.aload_n 0, 1) := by decide +kernel
theorem dX1_start_1 : decode cX1_start 1 = .ok (.getfield 30, 3) := by decide +kernel
theorem dX1_start_4 : decode cX1_start 4 = .ok (.iload_n 1, 1) := by decide +kernel
theorem dX1_start_5 : decode cX1_start 5 = .ok (.invokevirtual 34, 3) := by decide +kernel
theorem dX1_start_8 : decode cX1_start 8 = .ok (.iconst 0, 1) := by decide +kernel
theorem dX1_start_9 : decode cX1_start 9 = .ok (.istore_n 2, 1) := by decide +kernel
theorem dX1_start_10 : decode cX1_start 10 = .ok (.iload_n 2, 1) := by decide +kernel
theorem dX1_start_11 : decode cX1_start 11 = .ok (.sipush 144, 3) := by decide +kernel
theorem dX1_start_14 : decode cX1_start 14 = .ok (.if_icmp .ge 41, 3) := by decide +kernel
theorem dX1_start_17 : decode cX1_start 17 = .ok (.aload_n 0, 1) := by decide +kernel
theorem dX1_start_18 : decode cX1_start 18 = .ok (.getfield 9, 3) := by decide +kernel
theorem dX1_start_21 : decode cX1_start 21 = .ok (.iload_n 2, 1) := by decide +kernel
theorem dX1_start_22 : decode cX1_start 22 = .ok (.aload_n 0, 1) := by decide +kernel
theorem dX1_start_23 : decode cX1_start 23 = .ok (.getfield 22, 3) := by decide +kernel
theorem dX1_start_26 : decode cX1_start 26 = .ok (.iload_n 2, 1) := by decide +kernel
theorem dX1_start_27 : decode cX1_start 27 = .ok (.invokevirtual 40, 3) := by decide +kernel
theorem dX1_start_30 : decode cX1_start 30 = .ok (.ifCond .eq 17, 3) := by decide +kernel
theorem dX1_start_33 : decode cX1_start 33 = .ok (.iload_n 1, 1) := by decide +kernel
theorem dX1_start_34 : decode cX1_start 34 = .ok (.iconst (-1), 1) := by decide +kernel
theorem dX1_start_35 : decode cX1_start 35 = .ok (.if_icmp .eq 8, 3) := by decide +kernel
theorem dX1_start_38 : decode cX1_start 38 = .ok (.iload_n 2, 1) := by decide +kernel
theorem dX1_start_39 : decode cX1_start 39 = .ok (.iload_n 1, 1) := by decide +kernel
theorem dX1_start_40 : decode cX1_start 40 = .ok (.if_icmp .ne 7, 3) := by decide +kernel
theorem dX1_start_43 : decode cX1_start 43 = .ok (.lconst 1, 1) := by decide +kernel
theorem dX1_start_44 : decode cX1_start 44 = .ok (.goto 4, 3) := by decide +kernel
theorem dX1_start_47 : decode cX1_start 47 = .ok (.lconst 0, 1) := by decide +kernel
theorem dX1_start_48 : decode cX1_start 48 = .ok (.lastore, 1) := by decide +kernel
theorem dX1_start_49 : decode cX1_start 49 = .ok (.iinc 2 1, 3) := by decide +kernel
theorem dX1_start_52 : decode cX1_start 52 = .ok (.goto (-42), 3) := by decide +kernel
theorem dX1_start_55 : decode cX1_start 55 = .ok (.return_, 1) := by decide +kernel
theorem dX1_fly_0 : decode cX1_fly 0 = .ok (.aload_n 0, 1) := by decide +kernel
theorem dX1_fly_1 : decode cX1_fly 1 = .ok (.invokevirtual 46, 3) := by decide +kernel
theorem dX1_fly_4 : decode cX1_fly 4 = .ok (.iconst 0, 1) := by decide +kernel
theorem dX1_fly_5 : decode cX1_fly 5 = .ok (.istore_n 3, 1) := by decide +kernel
theorem dX1_fly_6 : decode cX1_fly 6 = .ok (.iload_n 3, 1) := by decide +kernel
theorem dX1_fly_7 : decode cX1_fly 7 = .ok (.aload_n 0, 1) := by decide +kernel
theorem dX1_fly_8 : decode cX1_fly 8 = .ok (.getfield 22, 3) := by decide +kernel
theorem dX1_fly_11 : decode cX1_fly 11 = .ok (.invokevirtual 49, 3) := by decide +kernel
theorem dX1_fly_14 : decode cX1_fly 14 = .ok (.if_icmp .ge 66, 3) := by decide +kernel
theorem dX1_fly_17 : decode cX1_fly 17 = .ok (.iconst 0, 1) := by decide +kernel
theorem dX1_fly_18 : decode cX1_fly 18 = .ok (.istore 4, 2) := by decide +kernel
theorem dX1_fly_20 : decode cX1_fly 20 = .ok (.iload 4, 2) := by decide +kernel
theorem dX1_fly_22 : decode cX1_fly 22 = .ok (.aload_n 0, 1) := by decide +kernel
theorem dX1_fly_23 : decode cX1_fly 23 = .ok (.getfield 22, 3) := by decide +kernel
theorem dX1_fly_26 : decode cX1_fly 26 = .ok (.invokevirtual 53, 3) := by decide +kernel
theorem dX1_fly_29 : decode cX1_fly 29 = .ok (.if_icmp .ge 45, 3) := by decide +kernel
theorem dX1_fly_32 : decode cX1_fly 32 = .ok (.aload_n 0, 1) := by decide +kernel
theorem dX1_fly_33 : decode cX1_fly 33 = .ok (.aload_n 0, 1) := by decide +kernel
theorem dX1_fly_34 : decode cX1_fly 34 = .ok (.getfield 22, 3) := by decide +kernel
theorem dX1_fly_37 : decode cX1_fly 37 = .ok (.iload 4, 2) := by decide +kernel
theorem dX1_fly_39 : decode cX1_fly 39 = .ok (.iload_n 3, 1) := by decide +kernel
theorem dX1_fly_40 : decode cX1_fly 40 = .ok (.invokevirtual 56, 3) := by decide +kernel
theorem dX1_fly_43 : decode cX1_fly 43 = .ok (.invokevirtual 60, 3) := by decide +kernel
theorem dX1_fly_46 : decode cX1_fly 46 = .ok (.lstore 5, 2) := by decide +kernel
theorem dX1_fly_48 : decode cX1_fly 48 = .ok (.lload 5, 2) := by decide +kernel
theorem dX1_fly_50 : decode cX1_fly 50 = .ok (.lconst 0, 1) := by decide +kernel
theorem dX1_fly_51 : decode cX1_fly 51 = .ok (.lcmp, 1) := by decide +kernel
theorem dX1_fly_52 : decode cX1_fly 52 = .ok (.ifCond .le 16, 3) := by decide +kernel
theorem dX1_fly_55 : decode cX1_fly 55 = .ok (.aload_n 0, 1) := by decide +kernel
theorem dX1_fly_56 : decode cX1_fly 56 = .ok (.lload 5, 2) := by decide +kernel
theorem dX1_fly_58 : decode cX1_fly 58 = .ok (.iload 4, 2) := by decide +kernel
theorem dX1_fly_60 : decode cX1_fly 60 = .ok (.iload_n 1, 1) := by decide +kernel
theorem dX1_fly_61 : decode cX1_fly 61 = .ok (.iadd, 1) := by decide +kernel
theorem dX1_fly_62 : decode cX1_fly 62 = .ok (.iload_n 3, 1) := by decide +kernel
theorem dX1_fly_63 : decode cX1_fly 63 = .ok (.iload_n 2, 1) := by decide +kernel
theorem dX1_fly_64 : decode cX1_fly 64 = .ok (.iadd, 1) := by decide +kernel
theorem dX1_fly_65 : decode cX1_fly 65 = .ok (.invokevirtual 64, 3) := by decide +kernel
theorem dX1_fly_68 : decode cX1_fly 68 = .ok (.iinc 4 1, 3) := by decide +kernel
theorem dX1_fly_71 : decode cX1_fly 71 = .ok (.goto (-51), 3) := by decide +kernel
theorem dX1_fly_74 : decode cX1_fly 74 = .ok (.iinc 3 1, 3) := by decide +kernel
theorem dX1_fly_77 : decode cX1_fly 77 = .ok (.goto (-71), 3) := by decide +kernel
theorem dX1_fly_80 : decode cX1_fly 80 = .ok (.aload_n 0, 1) := by decide +kernel
theorem dX1_fly_81 : decode cX1_fly 81 = .ok (.getfield 15, 3) := by decide +kernel
theorem dX1_fly_84 : decode cX1_fly 84 = .ok (.iconst 0, 1) := by decide +kernel
theorem dX1_fly_85 : decode cX1_fly 85 = .ok (.aload_n 0, 1) := by decide +kernel
theorem dX1_fly_86 : decode cX1_fly 86 = .ok (.getfield 9, 3) := by decide +kernel
theorem dX1_fly_89 : decode cX1_fly 89 = .ok (.iconst 0, 1) := by decide +kernel
theorem dX1_fly_90 : decode cX1_fly 90 = .ok (.sipush 144, 3) := by decide +kernel
theorem dX1_fly_93 : decode cX1_fly 93 = .ok (.invokestatic 68, 3) := by decide +kernel
theorem dX1_fly_96 : decode cX1_fly 96 = .ok (.aload_n 0, 1) := by decide +kernel
theorem dX1_fly_97 : decode cX1_fly 97 = .ok (.invokevirtual 74, 3) := by decide +kernel
theorem dX1_fly_100 : decode cX1_fly 100 = .ok (.ifCond .ne 9, 3) := by decide +kernel
theorem dX1_fly_103 : decode cX1_fly 103 = .ok (.aload_n 0, 1) := by decide +kernel
theorem dX1_fly_104 : decode cX1_fly 104 = .ok (.invokevirtual 77, 3) := by decide +kernel
theorem dX1_fly_107 : decode cX1_fly 107 = .ok (.iconst 0, 1) := by decide +kernel
theorem dX1_fly_108 : decode cX1_fly 108 = .ok (.ireturn, 1) := by decide +kernel
theorem dX1_fly_109 : decode cX1_fly 109 = .ok (.aload_n 0, 1) := by decide +kernel
theorem dX1_fly_110 : decode cX1_fly 110 = .ok (.getfield 30, 3) := by decide +kernel
theorem dX1_fly_113 : decode cX1_fly 113 = .ok (.iload_n 1, 1) := by decide +kernel
theorem dX1_fly_114 : decode cX1_fly 114 = .ok (.iload_n 2, 1) := by decide +kernel
theorem dX1_fly_115 : decode cX1_fly 115 = .ok (.invokevirtual 80, 3) := by decide +kernel
theorem dX1_fly_118 : decode cX1_fly 118 = .ok (.iconst 1, 1) := by decide +kernel
theorem dX1_fly_119 : decode cX1_fly 119 = .ok (.ireturn, 1) := by decide +kernel
theorem dX1_clearMoved_0 : decode cX1_clearMoved 0 = .ok (.iconst 0, 1) := by decide +kernel
theorem dX1_clearMoved_1 : decode cX1_clearMoved 1 = .ok (.istore_n 1, 1) := by decide +kernel
theorem dX1_clearMoved_2 : decode cX1_clearMoved 2 = .ok (.iload_n 1, 1) := by decide +kernel
theorem dX1_clearMoved_3 : decode cX1_clearMoved 3 = .ok (.sipush 144, 3) := by decide +kernel
theorem dX1_clearMoved_6 : decode cX1_clearMoved 6 = .ok (.if_icmp .ge 16, 3) := by decide +kernel
theorem dX1_clearMoved_9 : decode cX1_clearMoved 9 = .ok (.aload_n 0, 1) := by decide +kernel
theorem dX1_clearMoved_10 : decode cX1_clearMoved 10 = .ok (.getfield 15, 3) := by decide +kernel
theorem dX1_clearMoved_13 : decode cX1_clearMoved 13 = .ok (.iload_n 1, 1) := by decide +kernel
theorem dX1_clearMoved_14 : decode cX1_clearMoved 14 = .ok (.lconst 0, 1) := by decide +kernel
theorem dX1_clearMoved_15 : decode cX1_clearMoved 15 = .ok (.lastore, 1) := by decide +kernel
theorem dX1_clearMoved_16 : decode cX1_clearMoved 16 = .ok (.iinc 1 1, 3) := by decide +kernel
theorem dX1_clearMoved_19 : decode cX1_clearMoved 19 = .ok (.goto (-17), 3) := by decide +kernel
theorem dX1_clearMoved_22 : decode cX1_clearMoved 22 = .ok (.return_, 1) := by decide +kernel
theorem dX1_spread_0 : decode cX1_spread 0 = .ok (.iconst (-1), 1) := by decide +kernel
theorem dX1_spread_1 : decode cX1_spread 1 = .ok (.istore 5, 2) := by decide +kernel
theorem dX1_spread_3 : decode cX1_spread 3 = .ok (.iload 5, 2) := by decide +kernel
theorem dX1_spread_5 : decode cX1_spread 5 = .ok (.iconst 1, 1) := by decide +kernel
theorem dX1_spread_6 : decode cX1_spread 6 = .ok (.if_icmp .gt 79, 3) := by decide +kernel
theorem dX1_spread_9 : decode cX1_spread 9 = .ok (.iconst (-1), 1) := by decide +kernel
theorem dX1_spread_10 : decode cX1_spread 10 = .ok (.istore 6, 2) := by decide +kernel
theorem dX1_spread_12 : decode cX1_spread 12 = .ok (.iload 6, 2) := by decide +kernel
theorem dX1_spread_14 : decode cX1_spread 14 = .ok (.iconst 1, 1) := by decide +kernel
theorem dX1_spread_15 : decode cX1_spread 15 = .ok (.if_icmp .gt 64, 3) := by decide +kernel
theorem dX1_spread_18 : decode cX1_spread 18 = .ok (.aload_n 0, 1) := by decide +kernel
theorem dX1_spread_19 : decode cX1_spread 19 = .ok (.getfield 22, 3) := by decide +kernel
theorem dX1_spread_22 : decode cX1_spread 22 = .ok (.iload_n 3, 1) := by decide +kernel
theorem dX1_spread_23 : decode cX1_spread 23 = .ok (.iload 6, 2) := by decide +kernel
theorem dX1_spread_25 : decode cX1_spread 25 = .ok (.iadd, 1) := by decide +kernel
theorem dX1_spread_26 : decode cX1_spread 26 = .ok (.iload 4, 2) := by decide +kernel
theorem dX1_spread_28 : decode cX1_spread 28 = .ok (.iload 5, 2) := by decide +kernel
theorem dX1_spread_30 : decode cX1_spread 30 = .ok (.iadd, 1) := by decide +kernel
theorem dX1_spread_31 : decode cX1_spread 31 = .ok (.invokevirtual 56, 3) := by decide +kernel
theorem dX1_spread_34 : decode cX1_spread 34 = .ok (.istore 7, 2) := by decide +kernel
theorem dX1_spread_36 : decode cX1_spread 36 = .ok (.iload 7, 2) := by decide +kernel
theorem dX1_spread_38 : decode cX1_spread 38 = .ok (.ifCond .lt 35, 3) := by decide +kernel
theorem dX1_spread_41 : decode cX1_spread 41 = .ok (.iload 7, 2) := by decide +kernel
theorem dX1_spread_43 : decode cX1_spread 43 = .ok (.sipush 144, 3) := by decide +kernel
theorem dX1_spread_46 : decode cX1_spread 46 = .ok (.if_icmp .ge 27, 3) := by decide +kernel
theorem dX1_spread_49 : decode cX1_spread 49 = .ok (.aload_n 0, 1) := by decide +kernel
theorem dX1_spread_50 : decode cX1_spread 50 = .ok (.getfield 15, 3) := by decide +kernel
theorem dX1_spread_53 : decode cX1_spread 53 = .ok (.iload 7, 2) := by decide +kernel
theorem dX1_spread_55 : decode cX1_spread 55 = .ok (.dup2, 1) := by decide +kernel
theorem dX1_spread_56 : decode cX1_spread 56 = .ok (.laload, 1) := by decide +kernel
theorem dX1_spread_57 : decode cX1_spread 57 = .ok (.lload_n 1, 1) := by decide +kernel
theorem dX1_spread_58 : decode cX1_spread 58 = .ok (.aload_n 0, 1) := by decide +kernel
theorem dX1_spread_59 : decode cX1_spread 59 = .ok (.getfield 26, 3) := by decide +kernel
theorem dX1_spread_62 : decode cX1_spread 62 = .ok (.iload 6, 2) := by decide +kernel
theorem dX1_spread_64 : decode cX1_spread 64 = .ok (.iload 5, 2) := by decide +kernel
theorem dX1_spread_66 : decode cX1_spread 66 = .ok (.invokevirtual 84, 3) := by decide +kernel
theorem dX1_spread_69 : decode cX1_spread 69 = .ok (.i2l, 1) := by decide +kernel
theorem dX1_spread_70 : decode cX1_spread 70 = .ok (.lmul, 1) := by decide +kernel
theorem dX1_spread_71 : decode cX1_spread 71 = .ok (.ladd, 1) := by decide +kernel
theorem dX1_spread_72 : decode cX1_spread 72 = .ok (.lastore, 1) := by decide +kernel
theorem dX1_spread_73 : decode cX1_spread 73 = .ok (.iinc 6 1, 3) := by decide +kernel
theorem dX1_spread_76 : decode cX1_spread 76 = .ok (.goto (-64), 3) := by decide +kernel
theorem dX1_spread_79 : decode cX1_spread 79 = .ok (.iinc 5 1, 3) := by decide +kernel
theorem dX1_spread_82 : decode cX1_spread 82 = .ok (.goto (-79), 3) := by decide +kernel
theorem dX1_spread_85 : decode cX1_spread 85 = .ok (.return_, 1) := by decide +kernel
theorem dX1_sight_0 : decode cX1_sight 0 = .ok (.aload_n 0, 1) := by decide +kernel
theorem dX1_sight_1 : decode cX1_sight 1 = .ok (.iload_n 1, 1) := by decide +kernel
theorem dX1_sight_2 : decode cX1_sight 2 = .ok (.invokevirtual 89, 3) := by decide +kernel
theorem dX1_sight_5 : decode cX1_sight 5 = .ok (.aload_n 0, 1) := by decide +kernel
theorem dX1_sight_6 : decode cX1_sight 6 = .ok (.invokevirtual 74, 3) := by decide +kernel
theorem dX1_sight_9 : decode cX1_sight 9 = .ok (.ifCond .le 13, 3) := by decide +kernel
theorem dX1_sight_12 : decode cX1_sight 12 = .ok (.aload_n 0, 1) := by decide +kernel
theorem dX1_sight_13 : decode cX1_sight 13 = .ok (.getfield 30, 3) := by decide +kernel
theorem dX1_sight_16 : decode cX1_sight 16 = .ok (.iload_n 1, 1) := by decide +kernel
theorem dX1_sight_17 : decode cX1_sight 17 = .ok (.invokevirtual 92, 3) := by decide +kernel
theorem dX1_sight_20 : decode cX1_sight 20 = .ok (.iconst 1, 1) := by decide +kernel
theorem dX1_sight_21 : decode cX1_sight 21 = .ok (.ireturn, 1) := by decide +kernel
theorem dX1_sight_22 : decode cX1_sight 22 = .ok (.aload_n 0, 1) := by decide +kernel
theorem dX1_sight_23 : decode cX1_sight 23 = .ok (.invokevirtual 77, 3) := by decide +kernel
theorem dX1_sight_26 : decode cX1_sight 26 = .ok (.aload_n 0, 1) := by decide +kernel
theorem dX1_sight_27 : decode cX1_sight 27 = .ok (.iload_n 1, 1) := by decide +kernel
theorem dX1_sight_28 : decode cX1_sight 28 = .ok (.invokevirtual 89, 3) := by decide +kernel
theorem dX1_sight_31 : decode cX1_sight 31 = .ok (.aload_n 0, 1) := by decide +kernel
theorem dX1_sight_32 : decode cX1_sight 32 = .ok (.invokevirtual 74, 3) := by decide +kernel
theorem dX1_sight_35 : decode cX1_sight 35 = .ok (.ifCond .ne 8, 3) := by decide +kernel
theorem dX1_sight_38 : decode cX1_sight 38 = .ok (.aload_n 0, 1) := by decide +kernel
theorem dX1_sight_39 : decode cX1_sight 39 = .ok (.iconst (-1), 1) := by decide +kernel
theorem dX1_sight_40 : decode cX1_sight 40 = .ok (.invokevirtual 95, 3) := by decide +kernel
theorem dX1_sight_43 : decode cX1_sight 43 = .ok (.aload_n 0, 1) := by decide +kernel
theorem dX1_sight_44 : decode cX1_sight 44 = .ok (.getfield 30, 3) := by decide +kernel
theorem dX1_sight_47 : decode cX1_sight 47 = .ok (.iload_n 1, 1) := by decide +kernel
theorem dX1_sight_48 : decode cX1_sight 48 = .ok (.invokevirtual 92, 3) := by decide +kernel
theorem dX1_sight_51 : decode cX1_sight 51 = .ok (.iconst 0, 1) := by decide +kernel
theorem dX1_sight_52 : decode cX1_sight 52 = .ok (.ireturn, 1) := by decide +kernel
theorem dX1_dropUnfit_0 : decode cX1_dropUnfit 0 = .ok (.iconst 0, 1) := by decide +kernel
theorem dX1_dropUnfit_1 : decode cX1_dropUnfit 1 = .ok (.istore_n 2, 1) := by decide +kernel
theorem dX1_dropUnfit_2 : decode cX1_dropUnfit 2 = .ok (.iload_n 2, 1) := by decide +kernel
theorem dX1_dropUnfit_3 : decode cX1_dropUnfit 3 = .ok (.sipush 144, 3) := by decide +kernel
theorem dX1_dropUnfit_6 : decode cX1_dropUnfit 6 = .ok (.if_icmp .ge 35, 3) := by decide +kernel
theorem dX1_dropUnfit_9 : decode cX1_dropUnfit 9 = .ok (.aload_n 0, 1) := by decide +kernel
theorem dX1_dropUnfit_10 : decode cX1_dropUnfit 10 = .ok (.getfield 26, 3) := by decide +kernel
theorem dX1_dropUnfit_13 : decode cX1_dropUnfit 13 = .ok (.iload_n 1, 1) := by decide +kernel
theorem dX1_dropUnfit_14 : decode cX1_dropUnfit 14 = .ok (.aload_n 0, 1) := by decide +kernel
theorem dX1_dropUnfit_15 : decode cX1_dropUnfit 15 = .ok (.getfield 22, 3) := by decide +kernel
theorem dX1_dropUnfit_18 : decode cX1_dropUnfit 18 = .ok (.iload_n 2, 1) := by decide +kernel
theorem dX1_dropUnfit_19 : decode cX1_dropUnfit 19 = .ok (.invokevirtual 98, 3) := by decide +kernel
theorem dX1_dropUnfit_22 : decode cX1_dropUnfit 22 = .ok (.invokevirtual 102, 3) := by decide +kernel
theorem dX1_dropUnfit_25 : decode cX1_dropUnfit 25 = .ok (.ifCond .ne 10, 3) := by decide +kernel
theorem dX1_dropUnfit_28 : decode cX1_dropUnfit 28 = .ok (.aload_n 0, 1) := by decide +kernel
theorem dX1_dropUnfit_29 : decode cX1_dropUnfit 29 = .ok (.getfield 9, 3) := by decide +kernel
theorem dX1_dropUnfit_32 : decode cX1_dropUnfit 32 = .ok (.iload_n 2, 1) := by decide +kernel
theorem dX1_dropUnfit_33 : decode cX1_dropUnfit 33 = .ok (.lconst 0, 1) := by decide +kernel
theorem dX1_dropUnfit_34 : decode cX1_dropUnfit 34 = .ok (.lastore, 1) := by decide +kernel
theorem dX1_dropUnfit_35 : decode cX1_dropUnfit 35 = .ok (.iinc 2 1, 3) := by decide +kernel
theorem dX1_dropUnfit_38 : decode cX1_dropUnfit 38 = .ok (.goto (-36), 3) := by decide +kernel
theorem dX1_dropUnfit_41 : decode cX1_dropUnfit 41 = .ok (.return_, 1) := by decide +kernel
theorem dX1_beginAgain_0 : decode cX1_beginAgain 0 = .ok (.aload_n 0, 1) := by decide +kernel
theorem dX1_beginAgain_1 : decode cX1_beginAgain 1 = .ok (.dup, 1) := by decide +kernel
theorem dX1_beginAgain_2 : decode cX1_beginAgain 2 = .ok (.getfield 18, 3) := by decide +kernel
theorem dX1_beginAgain_5 : decode cX1_beginAgain 5 = .ok (.iconst 1, 1) := by decide +kernel
theorem dX1_beginAgain_6 : decode cX1_beginAgain 6 = .ok (.iadd, 1) := by decide +kernel
theorem dX1_beginAgain_7 : decode cX1_beginAgain 7 = .ok (.putfield 18, 3) := by decide +kernel
theorem dX1_beginAgain_10 : decode cX1_beginAgain 10 = .ok (.aload_n 0, 1) := by decide +kernel
theorem dX1_beginAgain_11 : decode cX1_beginAgain 11 = .ok (.iconst (-1), 1) := by decide +kernel
theorem dX1_beginAgain_12 : decode cX1_beginAgain 12 = .ok (.invokevirtual 95, 3) := by decide +kernel
theorem dX1_beginAgain_15 : decode cX1_beginAgain 15 = .ok (.return_, 1) := by decide +kernel
theorem dX1_shareOf_0 : decode cX1_shareOf 0 = .ok (.iload_n 1, 1) := by decide +kernel
theorem dX1_shareOf_1 : decode cX1_shareOf 1 = .ok (.ifCond .lt 19, 3) := by decide +kernel
theorem dX1_shareOf_4 : decode cX1_shareOf 4 = .ok (.iload_n 1, 1) := by decide +kernel
theorem dX1_shareOf_5 : decode cX1_shareOf 5 = .ok (.sipush 144, 3) := by decide +kernel
theorem dX1_shareOf_8 : decode cX1_shareOf 8 = .ok (.if_icmp .ge 12, 3) := by decide +kernel
theorem dX1_shareOf_11 : decode cX1_shareOf 11 = .ok (.aload_n 0, 1) := by decide +kernel
theorem dX1_shareOf_12 : decode cX1_shareOf 12 = .ok (.getfield 9, 3) := by decide +kernel
theorem dX1_shareOf_15 : decode cX1_shareOf 15 = .ok (.iload_n 1, 1) := by decide +kernel
theorem dX1_shareOf_16 : decode cX1_shareOf 16 = .ok (.laload, 1) := by decide +kernel
theorem dX1_shareOf_17 : decode cX1_shareOf 17 = .ok (.goto 4, 3) := by decide +kernel
theorem dX1_shareOf_20 : decode cX1_shareOf 20 = .ok (.lconst 0, 1) := by decide +kernel
theorem dX1_shareOf_21 : decode cX1_shareOf 21 = .ok (.lreturn, 1) := by decide +kernel
theorem dX1_total_0 : decode cX1_total 0 = .ok (.lconst 0, 1) := by decide +kernel
theorem dX1_total_1 : decode cX1_total 1 = .ok (.lstore_n 1, 1) := by decide +kernel
theorem dX1_total_2 : decode cX1_total 2 = .ok (.iconst 0, 1) := by decide +kernel
theorem dX1_total_3 : decode cX1_total 3 = .ok (.istore_n 3, 1) := by decide +kernel
theorem dX1_total_4 : decode cX1_total 4 = .ok (.iload_n 3, 1) := by decide +kernel
theorem dX1_total_5 : decode cX1_total 5 = .ok (.sipush 144, 3) := by decide +kernel
theorem dX1_total_8 : decode cX1_total 8 = .ok (.if_icmp .ge 18, 3) := by decide +kernel
theorem dX1_total_11 : decode cX1_total 11 = .ok (.lload_n 1, 1) := by decide +kernel
theorem dX1_total_12 : decode cX1_total 12 = .ok (.aload_n 0, 1) := by decide +kernel
theorem dX1_total_13 : decode cX1_total 13 = .ok (.getfield 9, 3) := by decide +kernel
theorem dX1_total_16 : decode cX1_total 16 = .ok (.iload_n 3, 1) := by decide +kernel
theorem dX1_total_17 : decode cX1_total 17 = .ok (.laload, 1) := by decide +kernel
theorem dX1_total_18 : decode cX1_total 18 = .ok (.ladd, 1) := by decide +kernel
theorem dX1_total_19 : decode cX1_total 19 = .ok (.lstore_n 1, 1) := by decide +kernel
theorem dX1_total_20 : decode cX1_total 20 = .ok (.iinc 3 1, 3) := by decide +kernel
theorem dX1_total_23 : decode cX1_total 23 = .ok (.goto (-19), 3) := by decide +kernel
theorem dX1_total_26 : decode cX1_total 26 = .ok (.lload_n 1, 1) := by decide +kernel
theorem dX1_total_27 : decode cX1_total 27 = .ok (.lreturn, 1) := by decide +kernel
theorem dX1_holders_0 : decode cX1_holders 0 = .ok (.iconst 0, 1) := by decide +kernel
theorem dX1_holders_1 : decode cX1_holders 1 = .ok (.istore_n 1, 1) := by decide +kernel
theorem dX1_holders_2 : decode cX1_holders 2 = .ok (.iconst 0, 1) := by decide +kernel
theorem dX1_holders_3 : decode cX1_holders 3 = .ok (.istore_n 2, 1) := by decide +kernel
theorem dX1_holders_4 : decode cX1_holders 4 = .ok (.iload_n 2, 1) := by decide +kernel
theorem dX1_holders_5 : decode cX1_holders 5 = .ok (.sipush 144, 3) := by decide +kernel
theorem dX1_holders_8 : decode cX1_holders 8 = .ok (.if_icmp .ge 23, 3) := by decide +kernel
theorem dX1_holders_11 : decode cX1_holders 11 = .ok (.aload_n 0, 1) := by decide +kernel
theorem dX1_holders_12 : decode cX1_holders 12 = .ok (.getfield 9, 3) := by decide +kernel
theorem dX1_holders_15 : decode cX1_holders 15 = .ok (.iload_n 2, 1) := by decide +kernel
theorem dX1_holders_16 : decode cX1_holders 16 = .ok (.laload, 1) := by decide +kernel
theorem dX1_holders_17 : decode cX1_holders 17 = .ok (.lconst 0, 1) := by decide +kernel
theorem dX1_holders_18 : decode cX1_holders 18 = .ok (.lcmp, 1) := by decide +kernel
theorem dX1_holders_19 : decode cX1_holders 19 = .ok (.ifCond .le 6, 3) := by decide +kernel
theorem dX1_holders_22 : decode cX1_holders 22 = .ok (.iinc 1 1, 3) := by decide +kernel
theorem dX1_holders_25 : decode cX1_holders 25 = .ok (.iinc 2 1, 3) := by decide +kernel
theorem dX1_holders_28 : decode cX1_holders 28 = .ok (.goto (-24), 3) := by decide +kernel
theorem dX1_holders_31 : decode cX1_holders 31 = .ok (.iload_n 1, 1) := by decide +kernel
theorem dX1_holders_32 : decode cX1_holders 32 = .ok (.ireturn, 1) := by decide +kernel
theorem dX1_likeliest_0 : decode cX1_likeliest 0 = .ok (.iconst 0, 1) := by decide +kernel
theorem dX1_likeliest_1 : decode cX1_likeliest 1 = .ok (.istore_n 1, 1) := by decide +kernel
theorem dX1_likeliest_2 : decode cX1_likeliest 2 = .ok (.iconst 1, 1) := by decide +kernel
theorem dX1_likeliest_3 : decode cX1_likeliest 3 = .ok (.istore_n 2, 1) := by decide +kernel
theorem dX1_likeliest_4 : decode cX1_likeliest 4 = .ok (.iload_n 2, 1) := by decide +kernel
theorem dX1_likeliest_5 : decode cX1_likeliest 5 = .ok (.sipush 144, 3) := by decide +kernel
theorem dX1_likeliest_8 : decode cX1_likeliest 8 = .ok (.if_icmp .ge 27, 3) := by decide +kernel
theorem dX1_likeliest_11 : decode cX1_likeliest 11 = .ok (.aload_n 0, 1) := by decide +kernel
theorem dX1_likeliest_12 : decode cX1_likeliest 12 = .ok (.getfield 9, 3) := by decide +kernel
theorem dX1_likeliest_15 : decode cX1_likeliest 15 = .ok (.iload_n 2, 1) := by decide +kernel
theorem dX1_likeliest_16 : decode cX1_likeliest 16 = .ok (.laload, 1) := by decide +kernel
theorem dX1_likeliest_17 : decode cX1_likeliest 17 = .ok (.aload_n 0, 1) := by decide +kernel
theorem dX1_likeliest_18 : decode cX1_likeliest 18 = .ok (.getfield 9, 3) := by decide +kernel
theorem dX1_likeliest_21 : decode cX1_likeliest 21 = .ok (.iload_n 1, 1) := by decide +kernel
theorem dX1_likeliest_22 : decode cX1_likeliest 22 = .ok (.laload, 1) := by decide +kernel
theorem dX1_likeliest_23 : decode cX1_likeliest 23 = .ok (.lcmp, 1) := by decide +kernel
theorem dX1_likeliest_24 : decode cX1_likeliest 24 = .ok (.ifCond .le 5, 3) := by decide +kernel
theorem dX1_likeliest_27 : decode cX1_likeliest 27 = .ok (.iload_n 2, 1) := by decide +kernel
theorem dX1_likeliest_28 : decode cX1_likeliest 28 = .ok (.istore_n 1, 1) := by decide +kernel
theorem dX1_likeliest_29 : decode cX1_likeliest 29 = .ok (.iinc 2 1, 3) := by decide +kernel
theorem dX1_likeliest_32 : decode cX1_likeliest 32 = .ok (.goto (-28), 3) := by decide +kernel
theorem dX1_likeliest_35 : decode cX1_likeliest 35 = .ok (.iload_n 1, 1) := by decide +kernel
theorem dX1_likeliest_36 : decode cX1_likeliest 36 = .ok (.ireturn, 1) := by decide +kernel
theorem dX1_edge_0 : decode cX1_edge 0 = .ok (.iload_n 1, 1) := by decide +kernel
theorem dX1_edge_1 : decode cX1_edge 1 = .ok (.ifCond .lt 8, 3) := by decide +kernel
theorem dX1_edge_4 : decode cX1_edge 4 = .ok (.iload_n 1, 1) := by decide +kernel
theorem dX1_edge_5 : decode cX1_edge 5 = .ok (.iconst 3, 1) := by decide +kernel
theorem dX1_edge_6 : decode cX1_edge 6 = .ok (.if_icmp .le 5, 3) := by decide +kernel
theorem dX1_edge_9 : decode cX1_edge 9 = .ok (.iconst (-1), 1) := by decide +kernel
theorem dX1_edge_10 : decode cX1_edge 10 = .ok (.ireturn, 1) := by decide +kernel
theorem dX1_edge_11 : decode cX1_edge 11 = .ok (.iload_n 1, 1) := by decide +kernel
theorem dX1_edge_12 : decode cX1_edge 12 = .ok (.iconst 1, 1) := by decide +kernel
theorem dX1_edge_13 : decode cX1_edge 13 = .ok (.if_icmp .eq 8, 3) := by decide +kernel
theorem dX1_edge_16 : decode cX1_edge 16 = .ok (.iload_n 1, 1) := by decide +kernel
theorem dX1_edge_17 : decode cX1_edge 17 = .ok (.iconst 3, 1) := by decide +kernel
theorem dX1_edge_18 : decode cX1_edge 18 = .ok (.if_icmp .ne 7, 3) := by decide +kernel
theorem dX1_edge_21 : decode cX1_edge 21 = .ok (.iconst 1, 1) := by decide +kernel
theorem dX1_edge_22 : decode cX1_edge 22 = .ok (.goto 4, 3) := by decide +kernel
theorem dX1_edge_25 : decode cX1_edge 25 = .ok (.iconst 0, 1) := by decide +kernel
theorem dX1_edge_26 : decode cX1_edge 26 = .ok (.istore_n 2, 1) := by decide +kernel
theorem dX1_edge_27 : decode cX1_edge 27 = .ok (.iconst (-1), 1) := by decide +kernel
theorem dX1_edge_28 : decode cX1_edge 28 = .ok (.istore_n 3, 1) := by decide +kernel
theorem dX1_edge_29 : decode cX1_edge 29 = .ok (.iconst 0, 1) := by decide +kernel
theorem dX1_edge_30 : decode cX1_edge 30 = .ok (.istore 4, 2) := by decide +kernel
theorem dX1_edge_32 : decode cX1_edge 32 = .ok (.iload 4, 2) := by decide +kernel
theorem dX1_edge_34 : decode cX1_edge 34 = .ok (.aload_n 0, 1) := by decide +kernel
theorem dX1_edge_35 : decode cX1_edge 35 = .ok (.getfield 22, 3) := by decide +kernel
theorem dX1_edge_38 : decode cX1_edge 38 = .ok (.invokevirtual 49, 3) := by decide +kernel
theorem dX1_edge_41 : decode cX1_edge 41 = .ok (.if_icmp .ge 95, 3) := by decide +kernel
theorem dX1_edge_44 : decode cX1_edge 44 = .ok (.iconst 0, 1) := by decide +kernel
theorem dX1_edge_45 : decode cX1_edge 45 = .ok (.istore 5, 2) := by decide +kernel
theorem dX1_edge_47 : decode cX1_edge 47 = .ok (.iload 5, 2) := by decide +kernel
theorem dX1_edge_49 : decode cX1_edge 49 = .ok (.aload_n 0, 1) := by decide +kernel
theorem dX1_edge_50 : decode cX1_edge 50 = .ok (.getfield 22, 3) := by decide +kernel
theorem dX1_edge_53 : decode cX1_edge 53 = .ok (.invokevirtual 53, 3) := by decide +kernel
theorem dX1_edge_56 : decode cX1_edge 56 = .ok (.if_icmp .ge 74, 3) := by decide +kernel
theorem dX1_edge_59 : decode cX1_edge 59 = .ok (.aload_n 0, 1) := by decide +kernel
theorem dX1_edge_60 : decode cX1_edge 60 = .ok (.aload_n 0, 1) := by decide +kernel
theorem dX1_edge_61 : decode cX1_edge 61 = .ok (.getfield 22, 3) := by decide +kernel
theorem dX1_edge_64 : decode cX1_edge 64 = .ok (.iload 5, 2) := by decide +kernel
theorem dX1_edge_66 : decode cX1_edge 66 = .ok (.iload 4, 2) := by decide +kernel
theorem dX1_edge_68 : decode cX1_edge 68 = .ok (.invokevirtual 56, 3) := by decide +kernel
theorem dX1_edge_71 : decode cX1_edge 71 = .ok (.invokevirtual 60, 3) := by decide +kernel
theorem dX1_edge_74 : decode cX1_edge 74 = .ok (.lconst 0, 1) := by decide +kernel
theorem dX1_edge_75 : decode cX1_edge 75 = .ok (.lcmp, 1) := by decide +kernel
theorem dX1_edge_76 : decode cX1_edge 76 = .ok (.ifCond .le 48, 3) := by decide +kernel
theorem dX1_edge_79 : decode cX1_edge 79 = .ok (.iload_n 1, 1) := by decide +kernel
theorem dX1_edge_80 : decode cX1_edge 80 = .ok (.iconst 2, 1) := by decide +kernel
theorem dX1_edge_81 : decode cX1_edge 81 = .ok (.if_icmp .ge 8, 3) := by decide +kernel
theorem dX1_edge_84 : decode cX1_edge 84 = .ok (.iload 5, 2) := by decide +kernel
theorem dX1_edge_86 : decode cX1_edge 86 = .ok (.goto 5, 3) := by decide +kernel
theorem dX1_edge_89 : decode cX1_edge 89 = .ok (.iload 4, 2) := by decide +kernel
theorem dX1_edge_91 : decode cX1_edge 91 = .ok (.istore 6, 2) := by decide +kernel
theorem dX1_edge_93 : decode cX1_edge 93 = .ok (.iload_n 3, 1) := by decide +kernel
theorem dX1_edge_94 : decode cX1_edge 94 = .ok (.iconst (-1), 1) := by decide +kernel
theorem dX1_edge_95 : decode cX1_edge 95 = .ok (.if_icmp .eq 22, 3) := by decide +kernel
theorem dX1_edge_98 : decode cX1_edge 98 = .ok (.iload_n 2, 1) := by decide +kernel
theorem dX1_edge_99 : decode cX1_edge 99 = .ok (.ifCond .eq 12, 3) := by decide +kernel
theorem dX1_edge_102 : decode cX1_edge 102 = .ok (.iload 6, 2) := by decide +kernel
theorem dX1_edge_104 : decode cX1_edge 104 = .ok (.iload_n 3, 1) := by decide +kernel
theorem dX1_edge_105 : decode cX1_edge 105 = .ok (.if_icmp .le 17, 3) := by decide +kernel
theorem dX1_edge_108 : decode cX1_edge 108 = .ok (.goto 9, 3) := by decide +kernel
theorem dX1_edge_111 : decode cX1_edge 111 = .ok (.iload 6, 2) := by decide +kernel
theorem dX1_edge_113 : decode cX1_edge 113 = .ok (.iload_n 3, 1) := by decide +kernel
theorem dX1_edge_114 : decode cX1_edge 114 = .ok (.if_icmp .ge 8, 3) := by decide +kernel
theorem dX1_edge_117 : decode cX1_edge 117 = .ok (.iload 6, 2) := by decide +kernel
theorem dX1_edge_119 : decode cX1_edge 119 = .ok (.goto 4, 3) := by decide +kernel
theorem dX1_edge_122 : decode cX1_edge 122 = .ok (.iload_n 3, 1) := by decide +kernel
theorem dX1_edge_123 : decode cX1_edge 123 = .ok (.istore_n 3, 1) := by decide +kernel
theorem dX1_edge_124 : decode cX1_edge 124 = .ok (.iinc 5 1, 3) := by decide +kernel
theorem dX1_edge_127 : decode cX1_edge 127 = .ok (.goto (-80), 3) := by decide +kernel
theorem dX1_edge_130 : decode cX1_edge 130 = .ok (.iinc 4 1, 3) := by decide +kernel
theorem dX1_edge_133 : decode cX1_edge 133 = .ok (.goto (-101), 3) := by decide +kernel
theorem dX1_edge_136 : decode cX1_edge 136 = .ok (.iload_n 3, 1) := by decide +kernel
theorem dX1_edge_137 : decode cX1_edge 137 = .ok (.ireturn, 1) := by decide +kernel
theorem dX2_init_0 : decode cX2_init 0 = .ok (.aload_n 0, 1) := by decide +kernel
theorem dX2_init_1 : decode cX2_init 1 = .ok (.invokespecial 3, 3) := by decide +kernel
theorem dX2_init_4 : decode cX2_init 4 = .ok (.aload_n 0, 1) := by decide +kernel
theorem dX2_init_5 : decode cX2_init 5 = .ok (.iconst 0, 1) := by decide +kernel
theorem dX2_init_6 : decode cX2_init 6 = .ok (.putfield 9, 3) := by decide +kernel
theorem dX2_init_9 : decode cX2_init 9 = .ok (.aload_n 0, 1) := by decide +kernel
theorem dX2_init_10 : decode cX2_init 10 = .ok (.iconst 1, 1) := by decide +kernel
theorem dX2_init_11 : decode cX2_init 11 = .ok (.putfield 15, 3) := by decide +kernel
theorem dX2_init_14 : decode cX2_init 14 = .ok (.aload_n 0, 1) := by decide +kernel
theorem dX2_init_15 : decode cX2_init 15 = .ok (.iconst 0, 1) := by decide +kernel
theorem dX2_init_16 : decode cX2_init 16 = .ok (.putfield 18, 3) := by decide +kernel
theorem dX2_init_19 : decode cX2_init 19 = .ok (.return_, 1) := by decide +kernel
theorem dX2_err_0 : decode cX2_err 0 = .ok (.aload_n 0, 1) := by decide +kernel
theorem dX2_err_1 : decode cX2_err 1 = .ok (.getfield 9, 3) := by decide +kernel
theorem dX2_err_4 : decode cX2_err 4 = .ok (.ireturn, 1) := by decide +kernel
theorem dX2_set_0 : decode cX2_set 0 = .ok (.iload_n 1, 1) := by decide +kernel
theorem dX2_set_1 : decode cX2_set 1 = .ok (.ifCond .lt 28, 3) := by decide +kernel
theorem dX2_set_4 : decode cX2_set 4 = .ok (.iload_n 1, 1) := by decide +kernel
theorem dX2_set_5 : decode cX2_set 5 = .ok (.bipush 20, 2) := by decide +kernel
theorem dX2_set_7 : decode cX2_set 7 = .ok (.if_icmp .gt 22, 3) := by decide +kernel
theorem dX2_set_10 : decode cX2_set 10 = .ok (.iload_n 2, 1) := by decide +kernel
theorem dX2_set_11 : decode cX2_set 11 = .ok (.iconst 1, 1) := by decide +kernel
theorem dX2_set_12 : decode cX2_set 12 = .ok (.if_icmp .lt 17, 3) := by decide +kernel
theorem dX2_set_15 : decode cX2_set 15 = .ok (.iload_n 2, 1) := by decide +kernel
theorem dX2_set_16 : decode cX2_set 16 = .ok (.iconst 3, 1) := by decide +kernel
theorem dX2_set_17 : decode cX2_set 17 = .ok (.if_icmp .gt 12, 3) := by decide +kernel
theorem dX2_set_20 : decode cX2_set 20 = .ok (.iload_n 3, 1) := by decide +kernel
theorem dX2_set_21 : decode cX2_set 21 = .ok (.ifCond .lt 8, 3) := by decide +kernel
theorem dX2_set_24 : decode cX2_set 24 = .ok (.iload_n 3, 1) := by decide +kernel
theorem dX2_set_25 : decode cX2_set 25 = .ok (.iconst 1, 1) := by decide +kernel
theorem dX2_set_26 : decode cX2_set 26 = .ok (.if_icmp .le 5, 3) := by decide +kernel
theorem dX2_set_29 : decode cX2_set 29 = .ok (.iconst 0, 1) := by decide +kernel
theorem dX2_set_30 : decode cX2_set 30 = .ok (.ireturn, 1) := by decide +kernel
theorem dX2_set_31 : decode cX2_set 31 = .ok (.aload_n 0, 1) := by decide +kernel
theorem dX2_set_32 : decode cX2_set 32 = .ok (.iload_n 1, 1) := by decide +kernel
theorem dX2_set_33 : decode cX2_set 33 = .ok (.putfield 9, 3) := by decide +kernel
theorem dX2_set_36 : decode cX2_set 36 = .ok (.aload_n 0, 1) := by decide +kernel
theorem dX2_set_37 : decode cX2_set 37 = .ok (.iload_n 2, 1) := by decide +kernel
theorem dX2_set_38 : decode cX2_set 38 = .ok (.putfield 15, 3) := by decide +kernel
theorem dX2_set_41 : decode cX2_set 41 = .ok (.aload_n 0, 1) := by decide +kernel
theorem dX2_set_42 : decode cX2_set 42 = .ok (.iload_n 3, 1) := by decide +kernel
theorem dX2_set_43 : decode cX2_set 43 = .ok (.putfield 18, 3) := by decide +kernel
theorem dX2_set_46 : decode cX2_set 46 = .ok (.iconst 1, 1) := by decide +kernel
theorem dX2_set_47 : decode cX2_set 47 = .ok (.ireturn, 1) := by decide +kernel
theorem dX2_weight_0 : decode cX2_weight 0 = .ok (.iload_n 1, 1) := by decide +kernel
theorem dX2_weight_1 : decode cX2_weight 1 = .ok (.ifCond .ne 10, 3) := by decide +kernel
theorem dX2_weight_4 : decode cX2_weight 4 = .ok (.aload_n 0, 1) := by decide +kernel
theorem dX2_weight_5 : decode cX2_weight 5 = .ok (.getfield 15, 3) := by decide +kernel
theorem dX2_weight_8 : decode cX2_weight 8 = .ok (.goto 7, 3) := by decide +kernel
theorem dX2_weight_11 : decode cX2_weight 11 = .ok (.aload_n 0, 1) := by decide +kernel
theorem dX2_weight_12 : decode cX2_weight 12 = .ok (.getfield 18, 3) := by decide +kernel
theorem dX2_weight_15 : decode cX2_weight 15 = .ok (.iload_n 2, 1) := by decide +kernel
theorem dX2_weight_16 : decode cX2_weight 16 = .ok (.ifCond .ne 10, 3) := by decide +kernel
theorem dX2_weight_19 : decode cX2_weight 19 = .ok (.aload_n 0, 1) := by decide +kernel
theorem dX2_weight_20 : decode cX2_weight 20 = .ok (.getfield 15, 3) := by decide +kernel
theorem dX2_weight_23 : decode cX2_weight 23 = .ok (.goto 7, 3) := by decide +kernel
theorem dX2_weight_26 : decode cX2_weight 26 = .ok (.aload_n 0, 1) := by decide +kernel
theorem dX2_weight_27 : decode cX2_weight 27 = .ok (.getfield 18, 3) := by decide +kernel
theorem dX2_weight_30 : decode cX2_weight 30 = .ok (.imul, 1) := by decide +kernel
theorem dX2_weight_31 : decode cX2_weight 31 = .ok (.ireturn, 1) := by decide +kernel
theorem dX2_fits_0 : decode cX2_fits 0 = .ok (.iload_n 2, 1) := by decide +kernel
theorem dX2_fits_1 : decode cX2_fits 1 = .ok (.iconst (-1), 1) := by decide +kernel
theorem dX2_fits_2 : decode cX2_fits 2 = .ok (.if_icmp .eq 16, 3) := by decide +kernel
theorem dX2_fits_5 : decode cX2_fits 5 = .ok (.iload_n 2, 1) := by decide +kernel
theorem dX2_fits_6 : decode cX2_fits 6 = .ok (.iload_n 1, 1) := by decide +kernel
theorem dX2_fits_7 : decode cX2_fits 7 = .ok (.isub, 1) := by decide +kernel
theorem dX2_fits_8 : decode cX2_fits 8 = .ok (.invokestatic 21, 3) := by decide +kernel
theorem dX2_fits_11 : decode cX2_fits 11 = .ok (.aload_n 0, 1) := by decide +kernel
theorem dX2_fits_12 : decode cX2_fits 12 = .ok (.getfield 9, 3) := by decide +kernel
theorem dX2_fits_15 : decode cX2_fits 15 = .ok (.if_icmp .gt 7, 3) := by decide +kernel
theorem dX2_fits_18 : decode cX2_fits 18 = .ok (.iconst 1, 1) := by decide +kernel
theorem dX2_fits_19 : decode cX2_fits 19 = .ok (.goto 4, 3) := by decide +kernel
theorem dX2_fits_22 : decode cX2_fits 22 = .ok (.iconst 0, 1) := by decide +kernel
theorem dX2_fits_23 : decode cX2_fits 23 = .ok (.ireturn, 1) := by decide +kernel
theorem dX2_alike_0 : decode cX2_alike 0 = .ok (.iload_n 1, 1) := by decide +kernel
theorem dX2_alike_1 : decode cX2_alike 1 = .ok (.iconst (-1), 1) := by decide +kernel
theorem dX2_alike_2 : decode cX2_alike 2 = .ok (.if_icmp .eq 23, 3) := by decide +kernel
theorem dX2_alike_5 : decode cX2_alike 5 = .ok (.iload_n 2, 1) := by decide +kernel
theorem dX2_alike_6 : decode cX2_alike 6 = .ok (.iconst (-1), 1) := by decide +kernel
theorem dX2_alike_7 : decode cX2_alike 7 = .ok (.if_icmp .eq 18, 3) := by decide +kernel
theorem dX2_alike_10 : decode cX2_alike 10 = .ok (.iload_n 1, 1) := by decide +kernel
theorem dX2_alike_11 : decode cX2_alike 11 = .ok (.iload_n 2, 1) := by decide +kernel
theorem dX2_alike_12 : decode cX2_alike 12 = .ok (.isub, 1) := by decide +kernel
theorem dX2_alike_13 : decode cX2_alike 13 = .ok (.invokestatic 21, 3) := by decide +kernel
theorem dX2_alike_16 : decode cX2_alike 16 = .ok (.iconst 2, 1) := by decide +kernel
theorem dX2_alike_17 : decode cX2_alike 17 = .ok (.aload_n 0, 1) := by decide +kernel
theorem dX2_alike_18 : decode cX2_alike 18 = .ok (.getfield 9, 3) := by decide +kernel
theorem dX2_alike_21 : decode cX2_alike 21 = .ok (.imul, 1) := by decide +kernel
theorem dX2_alike_22 : decode cX2_alike 22 = .ok (.if_icmp .gt 7, 3) := by decide +kernel
theorem dX2_alike_25 : decode cX2_alike 25 = .ok (.iconst 1, 1) := by decide +kernel
theorem dX2_alike_26 : decode cX2_alike 26 = .ok (.goto 4, 3) := by decide +kernel
theorem dX2_alike_29 : decode cX2_alike 29 = .ok (.iconst 0, 1) := by decide +kernel
theorem dX2_alike_30 : decode cX2_alike 30 = .ok (.ireturn, 1) := by decide +kernel
theorem dX3_init_0 : decode cX3_init 0 = .ok (.aload_n 0, 1) := by decide +kernel
theorem dX3_init_1 : decode cX3_init 1 = .ok (.invokespecial 3, 3) := by decide +kernel
theorem dX3_init_4 : decode cX3_init 4 = .ok (.aload_n 0, 1) := by decide +kernel
theorem dX3_init_5 : decode cX3_init 5 = .ok (.sipush 144, 3) := by decide +kernel
theorem dX3_init_8 : decode cX3_init 8 = .ok (.newarray .int, 2) := by decide +kernel
theorem dX3_init_10 : decode cX3_init 10 = .ok (.putfield 9, 3) := by decide +kernel
theorem dX3_init_13 : decode cX3_init 13 = .ok (.aload_n 0, 1) := by decide +kernel
theorem dX3_init_14 : decode cX3_init 14 = .ok (.iconst 2, 1) := by decide +kernel
theorem dX3_init_15 : decode cX3_init 15 = .ok (.putfield 15, 3) := by decide +kernel
theorem dX3_init_18 : decode cX3_init 18 = .ok (.aload_n 0, 1) := by decide +kernel
theorem dX3_init_19 : decode cX3_init 19 = .ok (.iconst 2, 1) := by decide +kernel
theorem dX3_init_20 : decode cX3_init 20 = .ok (.putfield 19, 3) := by decide +kernel
theorem dX3_init_23 : decode cX3_init 23 = .ok (.iconst 0, 1) := by decide +kernel
theorem dX3_init_24 : decode cX3_init 24 = .ok (.istore_n 1, 1) := by decide +kernel
theorem dX3_init_25 : decode cX3_init 25 = .ok (.iload_n 1, 1) := by decide +kernel
theorem dX3_init_26 : decode cX3_init 26 = .ok (.sipush 144, 3) := by decide +kernel
theorem dX3_init_29 : decode cX3_init 29 = .ok (.if_icmp .ge 16, 3) := by decide +kernel
theorem dX3_init_32 : decode cX3_init 32 = .ok (.aload_n 0, 1) := by decide +kernel
theorem dX3_init_33 : decode cX3_init 33 = .ok (.getfield 9, 3) := by decide +kernel
theorem dX3_init_36 : decode cX3_init 36 = .ok (.iload_n 1, 1) := by decide +kernel
theorem dX3_init_37 : decode cX3_init 37 = .ok (.iconst (-1), 1) := by decide +kernel
theorem dX3_init_38 : decode cX3_init 38 = .ok (.iastore, 1) := by decide +kernel
theorem dX3_init_39 : decode cX3_init 39 = .ok (.iinc 1 1, 3) := by decide +kernel
theorem dX3_init_42 : decode cX3_init 42 = .ok (.goto (-17), 3) := by decide +kernel
theorem dX3_init_45 : decode cX3_init 45 = .ok (.return_, 1) := by decide +kernel
theorem dX3_width_0 : decode cX3_width 0 = .ok (.aload_n 0, 1) := by decide +kernel
theorem dX3_width_1 : decode cX3_width 1 = .ok (.getfield 15, 3) := by decide +kernel
theorem dX3_width_4 : decode cX3_width 4 = .ok (.ireturn, 1) := by decide +kernel
theorem dX3_depth_0 : decode cX3_depth 0 = .ok (.aload_n 0, 1) := by decide +kernel
theorem dX3_depth_1 : decode cX3_depth 1 = .ok (.getfield 19, 3) := by decide +kernel
theorem dX3_depth_4 : decode cX3_depth 4 = .ok (.ireturn, 1) := by decide +kernel
theorem dX3_cells_0 : decode cX3_cells 0 = .ok (.aload_n 0, 1) := by decide +kernel
theorem dX3_cells_1 : decode cX3_cells 1 = .ok (.getfield 15, 3) := by decide +kernel
theorem dX3_cells_4 : decode cX3_cells 4 = .ok (.aload_n 0, 1) := by decide +kernel
theorem dX3_cells_5 : decode cX3_cells 5 = .ok (.getfield 19, 3) := by decide +kernel
theorem dX3_cells_8 : decode cX3_cells 8 = .ok (.imul, 1) := by decide +kernel
theorem dX3_cells_9 : decode cX3_cells 9 = .ok (.ireturn, 1) := by decide +kernel
theorem dX3_has_0 : decode cX3_has 0 = .ok (.iload_n 1, 1) := by decide +kernel
theorem dX3_has_1 : decode cX3_has 1 = .ok (.ifCond .lt 15, 3) := by decide +kernel
theorem dX3_has_4 : decode cX3_has 4 = .ok (.iload_n 1, 1) := by decide +kernel
theorem dX3_has_5 : decode cX3_has 5 = .ok (.aload_n 0, 1) := by decide +kernel
theorem dX3_has_6 : decode cX3_has 6 = .ok (.invokevirtual 22, 3) := by decide +kernel
theorem dX3_has_9 : decode cX3_has 9 = .ok (.if_icmp .ge 7, 3) := by decide +kernel
theorem dX3_has_12 : decode cX3_has 12 = .ok (.iconst 1, 1) := by decide +kernel
theorem dX3_has_13 : decode cX3_has 13 = .ok (.goto 4, 3) := by decide +kernel
theorem dX3_has_16 : decode cX3_has 16 = .ok (.iconst 0, 1) := by decide +kernel
theorem dX3_has_17 : decode cX3_has 17 = .ok (.ireturn, 1) := by decide +kernel
theorem dX3_cellAt_0 : decode cX3_cellAt 0 = .ok (.iload_n 1, 1) := by decide +kernel
theorem dX3_cellAt_1 : decode cX3_cellAt 1 = .ok (.ifCond .lt 34, 3) := by decide +kernel
theorem dX3_cellAt_4 : decode cX3_cellAt 4 = .ok (.iload_n 1, 1) := by decide +kernel
theorem dX3_cellAt_5 : decode cX3_cellAt 5 = .ok (.aload_n 0, 1) := by decide +kernel
theorem dX3_cellAt_6 : decode cX3_cellAt 6 = .ok (.getfield 15, 3) := by decide +kernel
theorem dX3_cellAt_9 : decode cX3_cellAt 9 = .ok (.if_icmp .ge 26, 3) := by decide +kernel
theorem dX3_cellAt_12 : decode cX3_cellAt 12 = .ok (.iload_n 2, 1) := by decide +kernel
theorem dX3_cellAt_13 : decode cX3_cellAt 13 = .ok (.ifCond .lt 22, 3) := by decide +kernel
theorem dX3_cellAt_16 : decode cX3_cellAt 16 = .ok (.iload_n 2, 1) := by decide +kernel
theorem dX3_cellAt_17 : decode cX3_cellAt 17 = .ok (.aload_n 0, 1) := by decide +kernel
theorem dX3_cellAt_18 : decode cX3_cellAt 18 = .ok (.getfield 19, 3) := by decide +kernel
theorem dX3_cellAt_21 : decode cX3_cellAt 21 = .ok (.if_icmp .ge 14, 3) := by decide +kernel
theorem dX3_cellAt_24 : decode cX3_cellAt 24 = .ok (.aload_n 0, 1) := by decide +kernel
theorem dX3_cellAt_25 : decode cX3_cellAt 25 = .ok (.getfield 15, 3) := by decide +kernel
theorem dX3_cellAt_28 : decode cX3_cellAt 28 = .ok (.iload_n 2, 1) := by decide +kernel
theorem dX3_cellAt_29 : decode cX3_cellAt 29 = .ok (.imul, 1) := by decide +kernel
theorem dX3_cellAt_30 : decode cX3_cellAt 30 = .ok (.iload_n 1, 1) := by decide +kernel
theorem dX3_cellAt_31 : decode cX3_cellAt 31 = .ok (.iadd, 1) := by decide +kernel
theorem dX3_cellAt_32 : decode cX3_cellAt 32 = .ok (.goto 4, 3) := by decide +kernel
theorem dX3_cellAt_35 : decode cX3_cellAt 35 = .ok (.iconst (-1), 1) := by decide +kernel
theorem dX3_cellAt_36 : decode cX3_cellAt 36 = .ok (.ireturn, 1) := by decide +kernel
theorem dX3_heightOf_0 : decode cX3_heightOf 0 = .ok (.aload_n 0, 1) := by decide +kernel
theorem dX3_heightOf_1 : decode cX3_heightOf 1 = .ok (.iload_n 1, 1) := by decide +kernel
theorem dX3_heightOf_2 : decode cX3_heightOf 2 = .ok (.invokevirtual 26, 3) := by decide +kernel
theorem dX3_heightOf_5 : decode cX3_heightOf 5 = .ok (.ifCond .eq 12, 3) := by decide +kernel
theorem dX3_heightOf_8 : decode cX3_heightOf 8 = .ok (.aload_n 0, 1) := by decide +kernel
theorem dX3_heightOf_9 : decode cX3_heightOf 9 = .ok (.getfield 9, 3) := by decide +kernel
theorem dX3_heightOf_12 : decode cX3_heightOf 12 = .ok (.iload_n 1, 1) := by decide +kernel
theorem dX3_heightOf_13 : decode cX3_heightOf 13 = .ok (.iaload, 1) := by decide +kernel
theorem dX3_heightOf_14 : decode cX3_heightOf 14 = .ok (.goto 4, 3) := by decide +kernel
theorem dX3_heightOf_17 : decode cX3_heightOf 17 = .ok (.iconst (-1), 1) := by decide +kernel
theorem dX3_heightOf_18 : decode cX3_heightOf 18 = .ok (.ireturn, 1) := by decide +kernel
theorem dX3_setHeight_0 : decode cX3_setHeight 0 = .ok (.aload_n 0, 1) := by decide +kernel
theorem dX3_setHeight_1 : decode cX3_setHeight 1 = .ok (.iload_n 1, 1) := by decide +kernel
theorem dX3_setHeight_2 : decode cX3_setHeight 2 = .ok (.invokevirtual 26, 3) := by decide +kernel
theorem dX3_setHeight_5 : decode cX3_setHeight 5 = .ok (.ifCond .eq 10, 3) := by decide +kernel
theorem dX3_setHeight_8 : decode cX3_setHeight 8 = .ok (.aload_n 0, 1) := by decide +kernel
theorem dX3_setHeight_9 : decode cX3_setHeight 9 = .ok (.getfield 9, 3) := by decide +kernel
theorem dX3_setHeight_12 : decode cX3_setHeight 12 = .ok (.iload_n 1, 1) := by decide +kernel
theorem dX3_setHeight_13 : decode cX3_setHeight 13 = .ok (.iload_n 2, 1) := by decide +kernel
theorem dX3_setHeight_14 : decode cX3_setHeight 14 = .ok (.iastore, 1) := by decide +kernel
theorem dX3_setHeight_15 : decode cX3_setHeight 15 = .ok (.return_, 1) := by decide +kernel
theorem dX3_tell_0 : decode cX3_tell 0 = .ok (.iload_n 1, 1) := by decide +kernel
theorem dX3_tell_1 : decode cX3_tell 1 = .ok (.invokestatic 30, 3) := by decide +kernel
theorem dX3_tell_4 : decode cX3_tell 4 = .ok (.ifCond .eq 27, 3) := by decide +kernel
theorem dX3_tell_7 : decode cX3_tell 7 = .ok (.iload_n 2, 1) := by decide +kernel
theorem dX3_tell_8 : decode cX3_tell 8 = .ok (.invokestatic 30, 3) := by decide +kernel
theorem dX3_tell_11 : decode cX3_tell 11 = .ok (.ifCond .eq 20, 3) := by decide +kernel
theorem dX3_tell_14 : decode cX3_tell 14 = .ok (.aload_n 3, 1) := by decide +kernel
theorem dX3_tell_15 : decode cX3_tell 15 = .ok (.invokevirtual 33, 3) := by decide +kernel
theorem dX3_tell_18 : decode cX3_tell 18 = .ok (.iload_n 1, 1) := by decide +kernel
theorem dX3_tell_19 : decode cX3_tell 19 = .ok (.iload_n 2, 1) := by decide +kernel
theorem dX3_tell_20 : decode cX3_tell 20 = .ok (.imul, 1) := by decide +kernel
theorem dX3_tell_21 : decode cX3_tell 21 = .ok (.if_icmp .ne 10, 3) := by decide +kernel
theorem dX3_tell_24 : decode cX3_tell 24 = .ok (.aload_n 3, 1) := by decide +kernel
theorem dX3_tell_25 : decode cX3_tell 25 = .ok (.invokestatic 38, 3) := by decide +kernel
theorem dX3_tell_28 : decode cX3_tell 28 = .ok (.ifCond .ne 5, 3) := by decide +kernel
theorem dX3_tell_31 : decode cX3_tell 31 = .ok (.iconst 0, 1) := by decide +kernel
theorem dX3_tell_32 : decode cX3_tell 32 = .ok (.ireturn, 1) := by decide +kernel
theorem dX3_tell_33 : decode cX3_tell 33 = .ok (.aload_n 0, 1) := by decide +kernel
theorem dX3_tell_34 : decode cX3_tell 34 = .ok (.iload_n 1, 1) := by decide +kernel
theorem dX3_tell_35 : decode cX3_tell 35 = .ok (.putfield 15, 3) := by decide +kernel
theorem dX3_tell_38 : decode cX3_tell 38 = .ok (.aload_n 0, 1) := by decide +kernel
theorem dX3_tell_39 : decode cX3_tell 39 = .ok (.iload_n 2, 1) := by decide +kernel
theorem dX3_tell_40 : decode cX3_tell 40 = .ok (.putfield 19, 3) := by decide +kernel
theorem dX3_tell_43 : decode cX3_tell 43 = .ok (.iconst 0, 1) := by decide +kernel
theorem dX3_tell_44 : decode cX3_tell 44 = .ok (.istore 4, 2) := by decide +kernel
theorem dX3_tell_46 : decode cX3_tell 46 = .ok (.iload 4, 2) := by decide +kernel
theorem dX3_tell_48 : decode cX3_tell 48 = .ok (.iload_n 1, 1) := by decide +kernel
theorem dX3_tell_49 : decode cX3_tell 49 = .ok (.iload_n 2, 1) := by decide +kernel
theorem dX3_tell_50 : decode cX3_tell 50 = .ok (.imul, 1) := by decide +kernel
theorem dX3_tell_51 : decode cX3_tell 51 = .ok (.if_icmp .ge 38, 3) := by decide +kernel
theorem dX3_tell_54 : decode cX3_tell 54 = .ok (.aload_n 3, 1) := by decide +kernel
theorem dX3_tell_55 : decode cX3_tell 55 = .ok (.iload 4, 2) := by decide +kernel
theorem dX3_tell_57 : decode cX3_tell 57 = .ok (.invokevirtual 42, 3) := by decide +kernel
theorem dX3_tell_60 : decode cX3_tell 60 = .ok (.istore 5, 2) := by decide +kernel
theorem dX3_tell_62 : decode cX3_tell 62 = .ok (.aload_n 0, 1) := by decide +kernel
theorem dX3_tell_63 : decode cX3_tell 63 = .ok (.getfield 9, 3) := by decide +kernel
theorem dX3_tell_66 : decode cX3_tell 66 = .ok (.iload 4, 2) := by decide +kernel
theorem dX3_tell_68 : decode cX3_tell 68 = .ok (.iload 5, 2) := by decide +kernel
theorem dX3_tell_70 : decode cX3_tell 70 = .ok (.sipush 255, 3) := by decide +kernel
theorem dX3_tell_73 : decode cX3_tell 73 = .ok (.if_icmp .ne 7, 3) := by decide +kernel
theorem dX3_tell_76 : decode cX3_tell 76 = .ok (.iconst (-1), 1) := by decide +kernel
theorem dX3_tell_77 : decode cX3_tell 77 = .ok (.goto 5, 3) := by decide +kernel
theorem dX3_tell_80 : decode cX3_tell 80 = .ok (.iload 5, 2) := by decide +kernel
theorem dX3_tell_82 : decode cX3_tell 82 = .ok (.iastore, 1) := by decide +kernel
theorem dX3_tell_83 : decode cX3_tell 83 = .ok (.iinc 4 1, 3) := by decide +kernel
theorem dX3_tell_86 : decode cX3_tell 86 = .ok (.goto (-40), 3) := by decide +kernel
theorem dX3_tell_89 : decode cX3_tell 89 = .ok (.iconst 1, 1) := by decide +kernel
theorem dX3_tell_90 : decode cX3_tell 90 = .ok (.ireturn, 1) := by decide +kernel
theorem dX3_isSide_0 : decode cX3_isSide 0 = .ok (.iload_n 0, 1) := by decide +kernel
theorem dX3_isSide_1 : decode cX3_isSide 1 = .ok (.iconst 2, 1) := by decide +kernel
theorem dX3_isSide_2 : decode cX3_isSide 2 = .ok (.if_icmp .lt 13, 3) := by decide +kernel
theorem dX3_isSide_5 : decode cX3_isSide 5 = .ok (.iload_n 0, 1) := by decide +kernel
theorem dX3_isSide_6 : decode cX3_isSide 6 = .ok (.bipush 12, 2) := by decide +kernel
theorem dX3_isSide_8 : decode cX3_isSide 8 = .ok (.if_icmp .gt 7, 3) := by decide +kernel
theorem dX3_isSide_11 : decode cX3_isSide 11 = .ok (.iconst 1, 1) := by decide +kernel
theorem dX3_isSide_12 : decode cX3_isSide 12 = .ok (.goto 4, 3) := by decide +kernel
theorem dX3_isSide_15 : decode cX3_isSide 15 = .ok (.iconst 0, 1) := by decide +kernel
theorem dX3_isSide_16 : decode cX3_isSide 16 = .ok (.ireturn, 1) := by decide +kernel
theorem dX3_allHeights_0 : decode cX3_allHeights 0 = .ok (.iconst 0, 1) := by decide +kernel
theorem dX3_allHeights_1 : decode cX3_allHeights 1 = .ok (.istore_n 1, 1) := by decide +kernel
theorem dX3_allHeights_2 : decode cX3_allHeights 2 = .ok (.iload_n 1, 1) := by decide +kernel
theorem dX3_allHeights_3 : decode cX3_allHeights 3 = .ok (.aload_n 0, 1) := by decide +kernel
theorem dX3_allHeights_4 : decode cX3_allHeights 4 = .ok (.invokevirtual 33, 3) := by decide +kernel
theorem dX3_allHeights_7 : decode cX3_allHeights 7 = .ok (.if_icmp .ge 31, 3) := by decide +kernel
theorem dX3_allHeights_10 : decode cX3_allHeights 10 = .ok (.aload_n 0, 1) := by decide +kernel
theorem dX3_allHeights_11 : decode cX3_allHeights 11 = .ok (.iload_n 1, 1) := by decide +kernel
theorem dX3_allHeights_12 : decode cX3_allHeights 12 = .ok (.invokevirtual 42, 3) := by decide +kernel
theorem dX3_allHeights_15 : decode cX3_allHeights 15 = .ok (.istore_n 2, 1) := by decide +kernel
theorem dX3_allHeights_16 : decode cX3_allHeights 16 = .ok (.iload_n 2, 1) := by decide +kernel
theorem dX3_allHeights_17 : decode cX3_allHeights 17 = .ok (.invokestatic 46, 3) := by decide +kernel
theorem dX3_allHeights_20 : decode cX3_allHeights 20 = .ok (.ifCond .ne 12, 3) := by decide +kernel
theorem dX3_allHeights_23 : decode cX3_allHeights 23 = .ok (.iload_n 2, 1) := by decide +kernel
theorem dX3_allHeights_24 : decode cX3_allHeights 24 = .ok (.sipush 255, 3) := by decide +kernel
theorem dX3_allHeights_27 : decode cX3_allHeights 27 = .ok (.if_icmp .eq 5, 3) := by decide +kernel
theorem dX3_allHeights_30 : decode cX3_allHeights 30 = .ok (.iconst 0, 1) := by decide +kernel
theorem dX3_allHeights_31 : decode cX3_allHeights 31 = .ok (.ireturn, 1) := by decide +kernel
theorem dX3_allHeights_32 : decode cX3_allHeights 32 = .ok (.iinc 1 1, 3) := by decide +kernel
theorem dX3_allHeights_35 : decode cX3_allHeights 35 = .ok (.goto (-33), 3) := by decide +kernel
theorem dX3_allHeights_38 : decode cX3_allHeights 38 = .ok (.iconst 1, 1) := by decide +kernel
theorem dX3_allHeights_39 : decode cX3_allHeights 39 = .ok (.ireturn, 1) := by decide +kernel
theorem dX4_init_0 : decode cX4_init 0 = .ok (.aload_n 0, 1) := by decide +kernel
theorem dX4_init_1 : decode cX4_init 1 = .ok (.invokespecial 3, 3) := by decide +kernel
theorem dX4_init_4 : decode cX4_init 4 = .ok (.aload_n 0, 1) := by decide +kernel
theorem dX4_init_5 : decode cX4_init 5 = .ok (.sipush 144, 3) := by decide +kernel
theorem dX4_init_8 : decode cX4_init 8 = .ok (.newarray .int, 2) := by decide +kernel
theorem dX4_init_10 : decode cX4_init 10 = .ok (.putfield 9, 3) := by decide +kernel
theorem dX4_init_13 : decode cX4_init 13 = .ok (.aload_n 0, 1) := by decide +kernel
theorem dX4_init_14 : decode cX4_init 14 = .ok (.sipush 144, 3) := by decide +kernel
theorem dX4_init_17 : decode cX4_init 17 = .ok (.newarray .long, 2) := by decide +kernel
theorem dX4_init_19 : decode cX4_init 19 = .ok (.putfield 15, 3) := by decide +kernel
theorem dX4_init_22 : decode cX4_init 22 = .ok (.aload_n 0, 1) := by decide +kernel
theorem dX4_init_23 : decode cX4_init 23 = .ok (.sipush 144, 3) := by decide +kernel
theorem dX4_init_26 : decode cX4_init 26 = .ok (.newarray .int, 2) := by decide +kernel
theorem dX4_init_28 : decode cX4_init 28 = .ok (.putfield 19, 3) := by decide +kernel
theorem dX4_init_31 : decode cX4_init 31 = .ok (.aload_n 0, 1) := by decide +kernel
theorem dX4_init_32 : decode cX4_init 32 = .ok (.sipush 144, 3) := by decide +kernel
theorem dX4_init_35 : decode cX4_init 35 = .ok (.newarray .long, 2) := by decide +kernel
theorem dX4_init_37 : decode cX4_init 37 = .ok (.putfield 22, 3) := by decide +kernel
theorem dX4_init_40 : decode cX4_init 40 = .ok (.aload_n 0, 1) := by decide +kernel
theorem dX4_init_41 : decode cX4_init 41 = .ok (.sipush 1728, 3) := by decide +kernel
theorem dX4_init_44 : decode cX4_init 44 = .ok (.newarray .int, 2) := by decide +kernel
theorem dX4_init_46 : decode cX4_init 46 = .ok (.putfield 25, 3) := by decide +kernel
theorem dX4_init_49 : decode cX4_init 49 = .ok (.aload_n 0, 1) := by decide +kernel
theorem dX4_init_50 : decode cX4_init 50 = .ok (.bipush 13, 2) := by decide +kernel
theorem dX4_init_52 : decode cX4_init 52 = .ok (.newarray .int, 2) := by decide +kernel
theorem dX4_init_54 : decode cX4_init 54 = .ok (.putfield 28, 3) := by decide +kernel
theorem dX4_init_57 : decode cX4_init 57 = .ok (.aload_n 0, 1) := by decide +kernel
theorem dX4_init_58 : decode cX4_init 58 = .ok (.iconst 0, 1) := by decide +kernel
theorem dX4_init_59 : decode cX4_init 59 = .ok (.putfield 31, 3) := by decide +kernel
theorem dX4_init_62 : decode cX4_init 62 = .ok (.aload_n 0, 1) := by decide +kernel
theorem dX4_init_63 : decode cX4_init 63 = .ok (.aload_n 1, 1) := by decide +kernel
theorem dX4_init_64 : decode cX4_init 64 = .ok (.putfield 35, 3) := by decide +kernel
theorem dX4_init_67 : decode cX4_init 67 = .ok (.aload_n 0, 1) := by decide +kernel
theorem dX4_init_68 : decode cX4_init 68 = .ok (.aload_n 2, 1) := by decide +kernel
theorem dX4_init_69 : decode cX4_init 69 = .ok (.putfield 39, 3) := by decide +kernel
theorem dX4_init_72 : decode cX4_init 72 = .ok (.aload_n 0, 1) := by decide +kernel
theorem dX4_init_73 : decode cX4_init 73 = .ok (.aload_n 3, 1) := by decide +kernel
theorem dX4_init_74 : decode cX4_init 74 = .ok (.putfield 43, 3) := by decide +kernel
theorem dX4_init_77 : decode cX4_init 77 = .ok (.return_, 1) := by decide +kernel
theorem dX4_cellOfPath_0 : decode cX4_cellOfPath 0 = .ok (.iload_n 1, 1) := by decide +kernel
theorem dX4_cellOfPath_1 : decode cX4_cellOfPath 1 = .ok (.ifCond .lt 29, 3) := by decide +kernel
theorem dX4_cellOfPath_4 : decode cX4_cellOfPath 4 = .ok (.iload_n 1, 1) := by decide +kernel
theorem dX4_cellOfPath_5 : decode cX4_cellOfPath 5 = .ok (.aload_n 0, 1) := by decide +kernel
theorem dX4_cellOfPath_6 : decode cX4_cellOfPath 6 = .ok (.getfield 31, 3) := by decide +kernel
theorem dX4_cellOfPath_9 : decode cX4_cellOfPath 9 = .ok (.if_icmp .ge 21, 3) := by decide +kernel
theorem dX4_cellOfPath_12 : decode cX4_cellOfPath 12 = .ok (.iload_n 1, 1) := by decide +kernel
theorem dX4_cellOfPath_13 : decode cX4_cellOfPath 13 = .ok (.aload_n 0, 1) := by decide +kernel
theorem dX4_cellOfPath_14 : decode cX4_cellOfPath 14 = .ok (.getfield 28, 3) := by decide +kernel
theorem dX4_cellOfPath_17 : decode cX4_cellOfPath 17 = .ok (.arraylength, 1) := by decide +kernel
theorem dX4_cellOfPath_18 : decode cX4_cellOfPath 18 = .ok (.if_icmp .ge 12, 3) := by decide +kernel
theorem dX4_cellOfPath_21 : decode cX4_cellOfPath 21 = .ok (.aload_n 0, 1) := by decide +kernel
theorem dX4_cellOfPath_22 : decode cX4_cellOfPath 22 = .ok (.getfield 28, 3) := by decide +kernel
theorem dX4_cellOfPath_25 : decode cX4_cellOfPath 25 = .ok (.iload_n 1, 1) := by decide +kernel
theorem dX4_cellOfPath_26 : decode cX4_cellOfPath 26 = .ok (.iaload, 1) := by decide +kernel
theorem dX4_cellOfPath_27 : decode cX4_cellOfPath 27 = .ok (.goto 4, 3) := by decide +kernel
theorem dX4_cellOfPath_30 : decode cX4_cellOfPath 30 = .ok (.iconst (-1), 1) := by decide +kernel
theorem dX4_cellOfPath_31 : decode cX4_cellOfPath 31 = .ok (.ireturn, 1) := by decide +kernel
theorem dX4_findBest_0 : decode cX4_findBest 0 = .ok (.aload_n 0, 1) := by decide +kernel
theorem dX4_findBest_1 : decode cX4_findBest 1 = .ok (.invokevirtual 47, 3) := by decide +kernel
theorem dX4_findBest_4 : decode cX4_findBest 4 = .ok (.aload_n 0, 1) := by decide +kernel
theorem dX4_findBest_5 : decode cX4_findBest 5 = .ok (.getfield 43, 3) := by decide +kernel
theorem dX4_findBest_8 : decode cX4_findBest 8 = .ok (.invokevirtual 50, 3) := by decide +kernel
theorem dX4_findBest_11 : decode cX4_findBest 11 = .ok (.iconst 1, 1) := by decide +kernel
theorem dX4_findBest_12 : decode cX4_findBest 12 = .ok (.isub, 1) := by decide +kernel
theorem dX4_findBest_13 : decode cX4_findBest 13 = .ok (.istore_n 1, 1) := by decide +kernel
theorem dX4_findBest_14 : decode cX4_findBest 14 = .ok (.iload_n 1, 1) := by decide +kernel
theorem dX4_findBest_15 : decode cX4_findBest 15 = .ok (.ifCond .lt 46, 3) := by decide +kernel
theorem dX4_findBest_18 : decode cX4_findBest 18 = .ok (.aload_n 0, 1) := by decide +kernel
theorem dX4_findBest_19 : decode cX4_findBest 19 = .ok (.getfield 9, 3) := by decide +kernel
theorem dX4_findBest_22 : decode cX4_findBest 22 = .ok (.iconst 0, 1) := by decide +kernel
theorem dX4_findBest_23 : decode cX4_findBest 23 = .ok (.aload_n 0, 1) := by decide +kernel
theorem dX4_findBest_24 : decode cX4_findBest 24 = .ok (.getfield 19, 3) := by decide +kernel
theorem dX4_findBest_27 : decode cX4_findBest 27 = .ok (.iconst 0, 1) := by decide +kernel
theorem dX4_findBest_28 : decode cX4_findBest 28 = .ok (.sipush 144, 3) := by decide +kernel
theorem dX4_findBest_31 : decode cX4_findBest 31 = .ok (.invokestatic 56, 3) := by decide +kernel
theorem dX4_findBest_34 : decode cX4_findBest 34 = .ok (.aload_n 0, 1) := by decide +kernel
theorem dX4_findBest_35 : decode cX4_findBest 35 = .ok (.getfield 15, 3) := by decide +kernel
theorem dX4_findBest_38 : decode cX4_findBest 38 = .ok (.iconst 0, 1) := by decide +kernel
theorem dX4_findBest_39 : decode cX4_findBest 39 = .ok (.aload_n 0, 1) := by decide +kernel
theorem dX4_findBest_40 : decode cX4_findBest 40 = .ok (.getfield 22, 3) := by decide +kernel
theorem dX4_findBest_43 : decode cX4_findBest 43 = .ok (.iconst 0, 1) := by decide +kernel
theorem dX4_findBest_44 : decode cX4_findBest 44 = .ok (.sipush 144, 3) := by decide +kernel
theorem dX4_findBest_47 : decode cX4_findBest 47 = .ok (.invokestatic 56, 3) := by decide +kernel
theorem dX4_findBest_50 : decode cX4_findBest 50 = .ok (.aload_n 0, 1) := by decide +kernel
theorem dX4_findBest_51 : decode cX4_findBest 51 = .ok (.iload_n 1, 1) := by decide +kernel
theorem dX4_findBest_52 : decode cX4_findBest 52 = .ok (.invokevirtual 62, 3) := by decide +kernel
theorem dX4_findBest_55 : decode cX4_findBest 55 = .ok (.iinc 1 (-1), 3) := by decide +kernel
theorem dX4_findBest_58 : decode cX4_findBest 58 = .ok (.goto (-44), 3) := by decide +kernel
theorem dX4_findBest_61 : decode cX4_findBest 61 = .ok (.aload_n 0, 1) := by decide +kernel
theorem dX4_findBest_62 : decode cX4_findBest 62 = .ok (.invokevirtual 66, 3) := by decide +kernel
theorem dX4_findBest_65 : decode cX4_findBest 65 = .ok (.istore_n 1, 1) := by decide +kernel
theorem dX4_findBest_66 : decode cX4_findBest 66 = .ok (.iload_n 1, 1) := by decide +kernel
theorem dX4_findBest_67 : decode cX4_findBest 67 = .ok (.ifCond .lt 10, 3) := by decide +kernel
theorem dX4_findBest_70 : decode cX4_findBest 70 = .ok (.iload_n 1, 1) := by decide +kernel
theorem dX4_findBest_71 : decode cX4_findBest 71 = .ok (.sipush 144, 3) := by decide +kernel
theorem dX4_findBest_74 : decode cX4_findBest 74 = .ok (.if_icmp .lt 5, 3) := by decide +kernel
theorem dX4_findBest_77 : decode cX4_findBest 77 = .ok (.iconst (-1), 1) := by decide +kernel
theorem dX4_findBest_78 : decode cX4_findBest 78 = .ok (.ireturn, 1) := by decide +kernel
theorem dX4_findBest_79 : decode cX4_findBest 79 = .ok (.aload_n 0, 1) := by decide +kernel
theorem dX4_findBest_80 : decode cX4_findBest 80 = .ok (.iload_n 1, 1) := by decide +kernel
theorem dX4_findBest_81 : decode cX4_findBest 81 = .ok (.invokevirtual 69, 3) := by decide +kernel
theorem dX4_findBest_84 : decode cX4_findBest 84 = .ok (.aload_n 0, 1) := by decide +kernel
theorem dX4_findBest_85 : decode cX4_findBest 85 = .ok (.getfield 9, 3) := by decide +kernel
theorem dX4_findBest_88 : decode cX4_findBest 88 = .ok (.iload_n 1, 1) := by decide +kernel
theorem dX4_findBest_89 : decode cX4_findBest 89 = .ok (.iaload, 1) := by decide +kernel
theorem dX4_findBest_90 : decode cX4_findBest 90 = .ok (.ireturn, 1) := by decide +kernel
theorem dX4_rateEnds_0 : decode cX4_rateEnds 0 = .ok (.iconst 0, 1) := by decide +kernel
theorem dX4_rateEnds_1 : decode cX4_rateEnds 1 = .ok (.istore_n 1, 1) := by decide +kernel
theorem dX4_rateEnds_2 : decode cX4_rateEnds 2 = .ok (.iload_n 1, 1) := by decide +kernel
theorem dX4_rateEnds_3 : decode cX4_rateEnds 3 = .ok (.sipush 144, 3) := by decide +kernel
theorem dX4_rateEnds_6 : decode cX4_rateEnds 6 = .ok (.if_icmp .ge 59, 3) := by decide +kernel
theorem dX4_rateEnds_9 : decode cX4_rateEnds 9 = .ok (.aload_n 0, 1) := by decide +kernel
theorem dX4_rateEnds_10 : decode cX4_rateEnds 10 = .ok (.getfield 9, 3) := by decide +kernel
theorem dX4_rateEnds_13 : decode cX4_rateEnds 13 = .ok (.iload_n 1, 1) := by decide +kernel
theorem dX4_rateEnds_14 : decode cX4_rateEnds 14 = .ok (.aload_n 0, 1) := by decide +kernel
theorem dX4_rateEnds_15 : decode cX4_rateEnds 15 = .ok (.getfield 35, 3) := by decide +kernel
theorem dX4_rateEnds_18 : decode cX4_rateEnds 18 = .ok (.iload_n 1, 1) := by decide +kernel
theorem dX4_rateEnds_19 : decode cX4_rateEnds 19 = .ok (.invokevirtual 72, 3) := by decide +kernel
theorem dX4_rateEnds_22 : decode cX4_rateEnds 22 = .ok (.ifCond .eq 28, 3) := by decide +kernel
theorem dX4_rateEnds_25 : decode cX4_rateEnds 25 = .ok (.aload_n 0, 1) := by decide +kernel
theorem dX4_rateEnds_26 : decode cX4_rateEnds 26 = .ok (.getfield 43, 3) := by decide +kernel
theorem dX4_rateEnds_29 : decode cX4_rateEnds 29 = .ok (.aload_n 0, 1) := by decide +kernel
theorem dX4_rateEnds_30 : decode cX4_rateEnds 30 = .ok (.getfield 43, 3) := by decide +kernel
theorem dX4_rateEnds_33 : decode cX4_rateEnds 33 = .ok (.invokevirtual 50, 3) := by decide +kernel
theorem dX4_rateEnds_36 : decode cX4_rateEnds 36 = .ok (.aload_n 0, 1) := by decide +kernel
theorem dX4_rateEnds_37 : decode cX4_rateEnds 37 = .ok (.getfield 35, 3) := by decide +kernel
theorem dX4_rateEnds_40 : decode cX4_rateEnds 40 = .ok (.iload_n 1, 1) := by decide +kernel
theorem dX4_rateEnds_41 : decode cX4_rateEnds 41 = .ok (.invokevirtual 78, 3) := by decide +kernel
theorem dX4_rateEnds_44 : decode cX4_rateEnds 44 = .ok (.invokevirtual 82, 3) := by decide +kernel
theorem dX4_rateEnds_47 : decode cX4_rateEnds 47 = .ok (.goto 4, 3) := by decide +kernel
theorem dX4_rateEnds_50 : decode cX4_rateEnds 50 = .ok (.iconst (-1), 1) := by decide +kernel
theorem dX4_rateEnds_51 : decode cX4_rateEnds 51 = .ok (.iastore, 1) := by decide +kernel
theorem dX4_rateEnds_52 : decode cX4_rateEnds 52 = .ok (.aload_n 0, 1) := by decide +kernel
theorem dX4_rateEnds_53 : decode cX4_rateEnds 53 = .ok (.getfield 15, 3) := by decide +kernel
theorem dX4_rateEnds_56 : decode cX4_rateEnds 56 = .ok (.iload_n 1, 1) := by decide +kernel
theorem dX4_rateEnds_57 : decode cX4_rateEnds 57 = .ok (.lconst 1, 1) := by decide +kernel
theorem dX4_rateEnds_58 : decode cX4_rateEnds 58 = .ok (.lastore, 1) := by decide +kernel
theorem dX4_rateEnds_59 : decode cX4_rateEnds 59 = .ok (.iinc 1 1, 3) := by decide +kernel
theorem dX4_rateEnds_62 : decode cX4_rateEnds 62 = .ok (.goto (-60), 3) := by decide +kernel
theorem dX4_rateEnds_65 : decode cX4_rateEnds 65 = .ok (.return_, 1) := by decide +kernel
theorem dX4_stepBack_0 : decode cX4_stepBack 0 = .ok (.iconst 0, 1) := by decide +kernel
theorem dX4_stepBack_1 : decode cX4_stepBack 1 = .ok (.istore_n 2, 1) := by decide +kernel
theorem dX4_stepBack_2 : decode cX4_stepBack 2 = .ok (.iload_n 2, 1) := by decide +kernel
theorem dX4_stepBack_3 : decode cX4_stepBack 3 = .ok (.aload_n 0, 1) := by decide +kernel
theorem dX4_stepBack_4 : decode cX4_stepBack 4 = .ok (.getfield 35, 3) := by decide +kernel
theorem dX4_stepBack_7 : decode cX4_stepBack 7 = .ok (.invokevirtual 86, 3) := by decide +kernel
theorem dX4_stepBack_10 : decode cX4_stepBack 10 = .ok (.if_icmp .ge 62, 3) := by decide +kernel
theorem dX4_stepBack_13 : decode cX4_stepBack 13 = .ok (.iconst 0, 1) := by decide +kernel
theorem dX4_stepBack_14 : decode cX4_stepBack 14 = .ok (.istore_n 3, 1) := by decide +kernel
theorem dX4_stepBack_15 : decode cX4_stepBack 15 = .ok (.iload_n 3, 1) := by decide +kernel
theorem dX4_stepBack_16 : decode cX4_stepBack 16 = .ok (.aload_n 0, 1) := by decide +kernel
theorem dX4_stepBack_17 : decode cX4_stepBack 17 = .ok (.getfield 35, 3) := by decide +kernel
theorem dX4_stepBack_20 : decode cX4_stepBack 20 = .ok (.invokevirtual 89, 3) := by decide +kernel
theorem dX4_stepBack_23 : decode cX4_stepBack 23 = .ok (.if_icmp .ge 43, 3) := by decide +kernel
theorem dX4_stepBack_26 : decode cX4_stepBack 26 = .ok (.aload_n 0, 1) := by decide +kernel
theorem dX4_stepBack_27 : decode cX4_stepBack 27 = .ok (.iload_n 1, 1) := by decide +kernel
theorem dX4_stepBack_28 : decode cX4_stepBack 28 = .ok (.aload_n 0, 1) := by decide +kernel
theorem dX4_stepBack_29 : decode cX4_stepBack 29 = .ok (.getfield 35, 3) := by decide +kernel
theorem dX4_stepBack_32 : decode cX4_stepBack 32 = .ok (.iload_n 3, 1) := by decide +kernel
theorem dX4_stepBack_33 : decode cX4_stepBack 33 = .ok (.iload_n 2, 1) := by decide +kernel
theorem dX4_stepBack_34 : decode cX4_stepBack 34 = .ok (.invokevirtual 92, 3) := by decide +kernel
theorem dX4_stepBack_37 : decode cX4_stepBack 37 = .ok (.iload_n 3, 1) := by decide +kernel
theorem dX4_stepBack_38 : decode cX4_stepBack 38 = .ok (.aload_n 0, 1) := by decide +kernel
theorem dX4_stepBack_39 : decode cX4_stepBack 39 = .ok (.getfield 43, 3) := by decide +kernel
theorem dX4_stepBack_42 : decode cX4_stepBack 42 = .ok (.iload_n 1, 1) := by decide +kernel
theorem dX4_stepBack_43 : decode cX4_stepBack 43 = .ok (.invokevirtual 95, 3) := by decide +kernel
theorem dX4_stepBack_46 : decode cX4_stepBack 46 = .ok (.iadd, 1) := by decide +kernel
theorem dX4_stepBack_47 : decode cX4_stepBack 47 = .ok (.iload_n 2, 1) := by decide +kernel
theorem dX4_stepBack_48 : decode cX4_stepBack 48 = .ok (.aload_n 0, 1) := by decide +kernel
theorem dX4_stepBack_49 : decode cX4_stepBack 49 = .ok (.getfield 43, 3) := by decide +kernel
theorem dX4_stepBack_52 : decode cX4_stepBack 52 = .ok (.iload_n 1, 1) := by decide +kernel
theorem dX4_stepBack_53 : decode cX4_stepBack 53 = .ok (.invokevirtual 98, 3) := by decide +kernel
theorem dX4_stepBack_56 : decode cX4_stepBack 56 = .ok (.iadd, 1) := by decide +kernel
theorem dX4_stepBack_57 : decode cX4_stepBack 57 = .ok (.invokevirtual 101, 3) := by decide +kernel
theorem dX4_stepBack_60 : decode cX4_stepBack 60 = .ok (.iinc 3 1, 3) := by decide +kernel
theorem dX4_stepBack_63 : decode cX4_stepBack 63 = .ok (.goto (-48), 3) := by decide +kernel
theorem dX4_stepBack_66 : decode cX4_stepBack 66 = .ok (.iinc 2 1, 3) := by decide +kernel
theorem dX4_stepBack_69 : decode cX4_stepBack 69 = .ok (.goto (-67), 3) := by decide +kernel
theorem dX4_stepBack_72 : decode cX4_stepBack 72 = .ok (.return_, 1) := by decide +kernel
theorem dX4_rate_0 : decode cX4_rate 0 = .ok (.iload_n 1, 1) := by decide +kernel
theorem dX4_rate_1 : decode cX4_rate 1 = .ok (.sipush 144, 3) := by decide +kernel
theorem dX4_rate_4 : decode cX4_rate 4 = .ok (.imul, 1) := by decide +kernel
theorem dX4_rate_5 : decode cX4_rate 5 = .ok (.iload_n 2, 1) := by decide +kernel
theorem dX4_rate_6 : decode cX4_rate 6 = .ok (.iadd, 1) := by decide +kernel
theorem dX4_rate_7 : decode cX4_rate 7 = .ok (.istore 5, 2) := by decide +kernel
theorem dX4_rate_9 : decode cX4_rate 9 = .ok (.iload_n 2, 1) := by decide +kernel
theorem dX4_rate_10 : decode cX4_rate 10 = .ok (.ifCond .lt 25, 3) := by decide +kernel
theorem dX4_rate_13 : decode cX4_rate 13 = .ok (.iload_n 2, 1) := by decide +kernel
theorem dX4_rate_14 : decode cX4_rate 14 = .ok (.sipush 144, 3) := by decide +kernel
theorem dX4_rate_17 : decode cX4_rate 17 = .ok (.if_icmp .ge 18, 3) := by decide +kernel
theorem dX4_rate_20 : decode cX4_rate 20 = .ok (.iload 5, 2) := by decide +kernel
theorem dX4_rate_22 : decode cX4_rate 22 = .ok (.ifCond .lt 13, 3) := by decide +kernel
theorem dX4_rate_25 : decode cX4_rate 25 = .ok (.iload 5, 2) := by decide +kernel
theorem dX4_rate_27 : decode cX4_rate 27 = .ok (.aload_n 0, 1) := by decide +kernel
theorem dX4_rate_28 : decode cX4_rate 28 = .ok (.getfield 25, 3) := by decide +kernel
theorem dX4_rate_31 : decode cX4_rate 31 = .ok (.arraylength, 1) := by decide +kernel
theorem dX4_rate_32 : decode cX4_rate 32 = .ok (.if_icmp .lt 4, 3) := by decide +kernel
theorem dX4_rate_35 : decode cX4_rate 35 = .ok (.return_, 1) := by decide +kernel
theorem dX4_rate_36 : decode cX4_rate 36 = .ok (.aload_n 0, 1) := by decide +kernel
theorem dX4_rate_37 : decode cX4_rate 37 = .ok (.getfield 9, 3) := by decide +kernel
theorem dX4_rate_40 : decode cX4_rate 40 = .ok (.iload_n 2, 1) := by decide +kernel
theorem dX4_rate_41 : decode cX4_rate 41 = .ok (.iconst (-1), 1) := by decide +kernel
theorem dX4_rate_42 : decode cX4_rate 42 = .ok (.iastore, 1) := by decide +kernel
theorem dX4_rate_43 : decode cX4_rate 43 = .ok (.aload_n 0, 1) := by decide +kernel
theorem dX4_rate_44 : decode cX4_rate 44 = .ok (.getfield 15, 3) := by decide +kernel
theorem dX4_rate_47 : decode cX4_rate 47 = .ok (.iload_n 2, 1) := by decide +kernel
theorem dX4_rate_48 : decode cX4_rate 48 = .ok (.lconst 0, 1) := by decide +kernel
theorem dX4_rate_49 : decode cX4_rate 49 = .ok (.lastore, 1) := by decide +kernel
theorem dX4_rate_50 : decode cX4_rate 50 = .ok (.aload_n 0, 1) := by decide +kernel
theorem dX4_rate_51 : decode cX4_rate 51 = .ok (.getfield 25, 3) := by decide +kernel
theorem dX4_rate_54 : decode cX4_rate 54 = .ok (.iload 5, 2) := by decide +kernel
theorem dX4_rate_56 : decode cX4_rate 56 = .ok (.iconst (-1), 1) := by decide +kernel
theorem dX4_rate_57 : decode cX4_rate 57 = .ok (.iastore, 1) := by decide +kernel
theorem dX4_rate_58 : decode cX4_rate 58 = .ok (.iconst (-1), 1) := by decide +kernel
theorem dX4_rate_59 : decode cX4_rate 59 = .ok (.istore 6, 2) := by decide +kernel
theorem dX4_rate_61 : decode cX4_rate 61 = .ok (.iload 6, 2) := by decide +kernel
theorem dX4_rate_63 : decode cX4_rate 63 = .ok (.iconst 1, 1) := by decide +kernel
theorem dX4_rate_64 : decode cX4_rate 64 = .ok (.if_icmp .gt 111, 3) := by decide +kernel
theorem dX4_rate_67 : decode cX4_rate 67 = .ok (.iconst (-1), 1) := by decide +kernel
theorem dX4_rate_68 : decode cX4_rate 68 = .ok (.istore 7, 2) := by decide +kernel
theorem dX4_rate_70 : decode cX4_rate 70 = .ok (.iload 7, 2) := by decide +kernel
theorem dX4_rate_72 : decode cX4_rate 72 = .ok (.iconst 1, 1) := by decide +kernel
theorem dX4_rate_73 : decode cX4_rate 73 = .ok (.if_icmp .gt 96, 3) := by decide +kernel
theorem dX4_rate_76 : decode cX4_rate 76 = .ok (.aload_n 0, 1) := by decide +kernel
theorem dX4_rate_77 : decode cX4_rate 77 = .ok (.getfield 35, 3) := by decide +kernel
theorem dX4_rate_80 : decode cX4_rate 80 = .ok (.iload_n 3, 1) := by decide +kernel
theorem dX4_rate_81 : decode cX4_rate 81 = .ok (.iload 7, 2) := by decide +kernel
theorem dX4_rate_83 : decode cX4_rate 83 = .ok (.iadd, 1) := by decide +kernel
theorem dX4_rate_84 : decode cX4_rate 84 = .ok (.iload 4, 2) := by decide +kernel
theorem dX4_rate_86 : decode cX4_rate 86 = .ok (.iload 6, 2) := by decide +kernel
theorem dX4_rate_88 : decode cX4_rate 88 = .ok (.iadd, 1) := by decide +kernel
theorem dX4_rate_89 : decode cX4_rate 89 = .ok (.invokevirtual 92, 3) := by decide +kernel
theorem dX4_rate_92 : decode cX4_rate 92 = .ok (.istore 8, 2) := by decide +kernel
theorem dX4_rate_94 : decode cX4_rate 94 = .ok (.aload_n 0, 1) := by decide +kernel
theorem dX4_rate_95 : decode cX4_rate 95 = .ok (.iload 8, 2) := by decide +kernel
theorem dX4_rate_97 : decode cX4_rate 97 = .ok (.aload_n 0, 1) := by decide +kernel
theorem dX4_rate_98 : decode cX4_rate 98 = .ok (.getfield 39, 3) := by decide +kernel
theorem dX4_rate_101 : decode cX4_rate 101 = .ok (.iload 7, 2) := by decide +kernel
theorem dX4_rate_103 : decode cX4_rate 103 = .ok (.iload 6, 2) := by decide +kernel
theorem dX4_rate_105 : decode cX4_rate 105 = .ok (.invokevirtual 105, 3) := by decide +kernel
theorem dX4_rate_108 : decode cX4_rate 108 = .ok (.iload_n 2, 1) := by decide +kernel
theorem dX4_rate_109 : decode cX4_rate 109 = .ok (.invokevirtual 110, 3) := by decide +kernel
theorem dX4_rate_112 : decode cX4_rate 112 = .ok (.ifCond .eq 51, 3) := by decide +kernel
theorem dX4_rate_115 : decode cX4_rate 115 = .ok (.aload_n 0, 1) := by decide +kernel
theorem dX4_rate_116 : decode cX4_rate 116 = .ok (.getfield 9, 3) := by decide +kernel
theorem dX4_rate_119 : decode cX4_rate 119 = .ok (.iload_n 2, 1) := by decide +kernel
theorem dX4_rate_120 : decode cX4_rate 120 = .ok (.aload_n 0, 1) := by decide +kernel
theorem dX4_rate_121 : decode cX4_rate 121 = .ok (.getfield 19, 3) := by decide +kernel
theorem dX4_rate_124 : decode cX4_rate 124 = .ok (.iload 8, 2) := by decide +kernel
theorem dX4_rate_126 : decode cX4_rate 126 = .ok (.iaload, 1) := by decide +kernel
theorem dX4_rate_127 : decode cX4_rate 127 = .ok (.iastore, 1) := by decide +kernel
theorem dX4_rate_128 : decode cX4_rate 128 = .ok (.aload_n 0, 1) := by decide +kernel
theorem dX4_rate_129 : decode cX4_rate 129 = .ok (.getfield 15, 3) := by decide +kernel
theorem dX4_rate_132 : decode cX4_rate 132 = .ok (.iload_n 2, 1) := by decide +kernel
theorem dX4_rate_133 : decode cX4_rate 133 = .ok (.aload_n 0, 1) := by decide +kernel
theorem dX4_rate_134 : decode cX4_rate 134 = .ok (.getfield 22, 3) := by decide +kernel
theorem dX4_rate_137 : decode cX4_rate 137 = .ok (.iload 8, 2) := by decide +kernel
theorem dX4_rate_139 : decode cX4_rate 139 = .ok (.laload, 1) := by decide +kernel
theorem dX4_rate_140 : decode cX4_rate 140 = .ok (.aload_n 0, 1) := by decide +kernel
theorem dX4_rate_141 : decode cX4_rate 141 = .ok (.getfield 39, 3) := by decide +kernel
theorem dX4_rate_144 : decode cX4_rate 144 = .ok (.iload 7, 2) := by decide +kernel
theorem dX4_rate_146 : decode cX4_rate 146 = .ok (.iload 6, 2) := by decide +kernel
theorem dX4_rate_148 : decode cX4_rate 148 = .ok (.invokevirtual 105, 3) := by decide +kernel
theorem dX4_rate_151 : decode cX4_rate 151 = .ok (.i2l, 1) := by decide +kernel
theorem dX4_rate_152 : decode cX4_rate 152 = .ok (.lmul, 1) := by decide +kernel
theorem dX4_rate_153 : decode cX4_rate 153 = .ok (.lastore, 1) := by decide +kernel
theorem dX4_rate_154 : decode cX4_rate 154 = .ok (.aload_n 0, 1) := by decide +kernel
theorem dX4_rate_155 : decode cX4_rate 155 = .ok (.getfield 25, 3) := by decide +kernel
theorem dX4_rate_158 : decode cX4_rate 158 = .ok (.iload 5, 2) := by decide +kernel
theorem dX4_rate_160 : decode cX4_rate 160 = .ok (.iload 8, 2) := by decide +kernel
theorem dX4_rate_162 : decode cX4_rate 162 = .ok (.iastore, 1) := by decide +kernel
theorem dX4_rate_163 : decode cX4_rate 163 = .ok (.iinc 7 1, 3) := by decide +kernel
theorem dX4_rate_166 : decode cX4_rate 166 = .ok (.goto (-96), 3) := by decide +kernel
theorem dX4_rate_169 : decode cX4_rate 169 = .ok (.iinc 6 1, 3) := by decide +kernel
theorem dX4_rate_172 : decode cX4_rate 172 = .ok (.goto (-111), 3) := by decide +kernel
theorem dX4_rate_175 : decode cX4_rate 175 = .ok (.aload_n 0, 1) := by decide +kernel
theorem dX4_rate_176 : decode cX4_rate 176 = .ok (.getfield 9, 3) := by decide +kernel
theorem dX4_rate_179 : decode cX4_rate 179 = .ok (.iload_n 2, 1) := by decide +kernel
theorem dX4_rate_180 : decode cX4_rate 180 = .ok (.iaload, 1) := by decide +kernel
theorem dX4_rate_181 : decode cX4_rate 181 = .ok (.iconst (-1), 1) := by decide +kernel
theorem dX4_rate_182 : decode cX4_rate 182 = .ok (.if_icmp .eq 28, 3) := by decide +kernel
theorem dX4_rate_185 : decode cX4_rate 185 = .ok (.aload_n 0, 1) := by decide +kernel
theorem dX4_rate_186 : decode cX4_rate 186 = .ok (.getfield 9, 3) := by decide +kernel
theorem dX4_rate_189 : decode cX4_rate 189 = .ok (.iload_n 2, 1) := by decide +kernel
theorem dX4_rate_190 : decode cX4_rate 190 = .ok (.dup2, 1) := by decide +kernel
theorem dX4_rate_191 : decode cX4_rate 191 = .ok (.iaload, 1) := by decide +kernel
theorem dX4_rate_192 : decode cX4_rate 192 = .ok (.aload_n 0, 1) := by decide +kernel
theorem dX4_rate_193 : decode cX4_rate 193 = .ok (.getfield 43, 3) := by decide +kernel
theorem dX4_rate_196 : decode cX4_rate 196 = .ok (.iload_n 1, 1) := by decide +kernel
theorem dX4_rate_197 : decode cX4_rate 197 = .ok (.aload_n 0, 1) := by decide +kernel
theorem dX4_rate_198 : decode cX4_rate 198 = .ok (.getfield 35, 3) := by decide +kernel
theorem dX4_rate_201 : decode cX4_rate 201 = .ok (.iload_n 2, 1) := by decide +kernel
theorem dX4_rate_202 : decode cX4_rate 202 = .ok (.invokevirtual 78, 3) := by decide +kernel
theorem dX4_rate_205 : decode cX4_rate 205 = .ok (.invokevirtual 82, 3) := by decide +kernel
theorem dX4_rate_208 : decode cX4_rate 208 = .ok (.iadd, 1) := by decide +kernel
theorem dX4_rate_209 : decode cX4_rate 209 = .ok (.iastore, 1) := by decide +kernel
theorem dX4_rate_210 : decode cX4_rate 210 = .ok (.return_, 1) := by decide +kernel
theorem dX4_leads_0 : decode cX4_leads 0 = .ok (.iload_n 1, 1) := by decide +kernel
theorem dX4_leads_1 : decode cX4_leads 1 = .ok (.ifCond .lt 21, 3) := by decide +kernel
theorem dX4_leads_4 : decode cX4_leads 4 = .ok (.iload_n 1, 1) := by decide +kernel
theorem dX4_leads_5 : decode cX4_leads 5 = .ok (.sipush 144, 3) := by decide +kernel
theorem dX4_leads_8 : decode cX4_leads 8 = .ok (.if_icmp .ge 14, 3) := by decide +kernel
theorem dX4_leads_11 : decode cX4_leads 11 = .ok (.iload_n 3, 1) := by decide +kernel
theorem dX4_leads_12 : decode cX4_leads 12 = .ok (.ifCond .lt 10, 3) := by decide +kernel
theorem dX4_leads_15 : decode cX4_leads 15 = .ok (.iload_n 3, 1) := by decide +kernel
theorem dX4_leads_16 : decode cX4_leads 16 = .ok (.sipush 144, 3) := by decide +kernel
theorem dX4_leads_19 : decode cX4_leads 19 = .ok (.if_icmp .lt 5, 3) := by decide +kernel
theorem dX4_leads_22 : decode cX4_leads 22 = .ok (.iconst 0, 1) := by decide +kernel
theorem dX4_leads_23 : decode cX4_leads 23 = .ok (.ireturn, 1) := by decide +kernel
theorem dX4_leads_24 : decode cX4_leads 24 = .ok (.iload_n 2, 1) := by decide +kernel
theorem dX4_leads_25 : decode cX4_leads 25 = .ok (.ifCond .eq 13, 3) := by decide +kernel
theorem dX4_leads_28 : decode cX4_leads 28 = .ok (.aload_n 0, 1) := by decide +kernel
theorem dX4_leads_29 : decode cX4_leads 29 = .ok (.getfield 19, 3) := by decide +kernel
theorem dX4_leads_32 : decode cX4_leads 32 = .ok (.iload_n 1, 1) := by decide +kernel
theorem dX4_leads_33 : decode cX4_leads 33 = .ok (.iaload, 1) := by decide +kernel
theorem dX4_leads_34 : decode cX4_leads 34 = .ok (.iconst (-1), 1) := by decide +kernel
theorem dX4_leads_35 : decode cX4_leads 35 = .ok (.if_icmp .ne 5, 3) := by decide +kernel
theorem dX4_leads_38 : decode cX4_leads 38 = .ok (.iconst 0, 1) := by decide +kernel
theorem dX4_leads_39 : decode cX4_leads 39 = .ok (.ireturn, 1) := by decide +kernel
theorem dX4_leads_40 : decode cX4_leads 40 = .ok (.aload_n 0, 1) := by decide +kernel
theorem dX4_leads_41 : decode cX4_leads 41 = .ok (.getfield 9, 3) := by decide +kernel
theorem dX4_leads_44 : decode cX4_leads 44 = .ok (.iload_n 3, 1) := by decide +kernel
theorem dX4_leads_45 : decode cX4_leads 45 = .ok (.iaload, 1) := by decide +kernel
theorem dX4_leads_46 : decode cX4_leads 46 = .ok (.iconst (-1), 1) := by decide +kernel
theorem dX4_leads_47 : decode cX4_leads 47 = .ok (.if_icmp .eq 36, 3) := by decide +kernel
theorem dX4_leads_50 : decode cX4_leads 50 = .ok (.aload_n 0, 1) := by decide +kernel
theorem dX4_leads_51 : decode cX4_leads 51 = .ok (.getfield 19, 3) := by decide +kernel
theorem dX4_leads_54 : decode cX4_leads 54 = .ok (.iload_n 1, 1) := by decide +kernel
theorem dX4_leads_55 : decode cX4_leads 55 = .ok (.iaload, 1) := by decide +kernel
theorem dX4_leads_56 : decode cX4_leads 56 = .ok (.aload_n 0, 1) := by decide +kernel
theorem dX4_leads_57 : decode cX4_leads 57 = .ok (.getfield 22, 3) := by decide +kernel
theorem dX4_leads_60 : decode cX4_leads 60 = .ok (.iload_n 1, 1) := by decide +kernel
theorem dX4_leads_61 : decode cX4_leads 61 = .ok (.laload, 1) := by decide +kernel
theorem dX4_leads_62 : decode cX4_leads 62 = .ok (.iload_n 2, 1) := by decide +kernel
theorem dX4_leads_63 : decode cX4_leads 63 = .ok (.i2l, 1) := by decide +kernel
theorem dX4_leads_64 : decode cX4_leads 64 = .ok (.lmul, 1) := by decide +kernel
theorem dX4_leads_65 : decode cX4_leads 65 = .ok (.aload_n 0, 1) := by decide +kernel
theorem dX4_leads_66 : decode cX4_leads 66 = .ok (.getfield 9, 3) := by decide +kernel
theorem dX4_leads_69 : decode cX4_leads 69 = .ok (.iload_n 3, 1) := by decide +kernel
theorem dX4_leads_70 : decode cX4_leads 70 = .ok (.iaload, 1) := by decide +kernel
theorem dX4_leads_71 : decode cX4_leads 71 = .ok (.aload_n 0, 1) := by decide +kernel
theorem dX4_leads_72 : decode cX4_leads 72 = .ok (.getfield 15, 3) := by decide +kernel
theorem dX4_leads_75 : decode cX4_leads 75 = .ok (.iload_n 3, 1) := by decide +kernel
theorem dX4_leads_76 : decode cX4_leads 76 = .ok (.laload, 1) := by decide +kernel
theorem dX4_leads_77 : decode cX4_leads 77 = .ok (.invokestatic 114, 3) := by decide +kernel
theorem dX4_leads_80 : decode cX4_leads 80 = .ok (.ifCond .eq 7, 3) := by decide +kernel
theorem dX4_leads_83 : decode cX4_leads 83 = .ok (.iconst 1, 1) := by decide +kernel
theorem dX4_leads_84 : decode cX4_leads 84 = .ok (.goto 4, 3) := by decide +kernel
theorem dX4_leads_87 : decode cX4_leads 87 = .ok (.iconst 0, 1) := by decide +kernel
theorem dX4_leads_88 : decode cX4_leads 88 = .ok (.ireturn, 1) := by decide +kernel
theorem dX4_isBetter_0 : decode cX4_isBetter 0 = .ok (.iload_n 0, 1) := by decide +kernel
theorem dX4_isBetter_1 : decode cX4_isBetter 1 = .ok (.iload_n 3, 1) := by decide +kernel
theorem dX4_isBetter_2 : decode cX4_isBetter 2 = .ok (.if_icmp .lt 15, 3) := by decide +kernel
theorem dX4_isBetter_5 : decode cX4_isBetter 5 = .ok (.iload_n 0, 1) := by decide +kernel
theorem dX4_isBetter_6 : decode cX4_isBetter 6 = .ok (.iload_n 3, 1) := by decide +kernel
theorem dX4_isBetter_7 : decode cX4_isBetter 7 = .ok (.if_icmp .ne 14, 3) := by decide +kernel
theorem dX4_isBetter_10 : decode cX4_isBetter 10 = .ok (.lload_n 1, 1) := by decide +kernel
theorem dX4_isBetter_11 : decode cX4_isBetter 11 = .ok (.lload 4, 2) := by decide +kernel
theorem dX4_isBetter_13 : decode cX4_isBetter 13 = .ok (.lcmp, 1) := by decide +kernel
theorem dX4_isBetter_14 : decode cX4_isBetter 14 = .ok (.ifCond .le 7, 3) := by decide +kernel
theorem dX4_isBetter_17 : decode cX4_isBetter 17 = .ok (.iconst 1, 1) := by decide +kernel
theorem dX4_isBetter_18 : decode cX4_isBetter 18 = .ok (.goto 4, 3) := by decide +kernel
theorem dX4_isBetter_21 : decode cX4_isBetter 21 = .ok (.iconst 0, 1) := by decide +kernel
theorem dX4_isBetter_22 : decode cX4_isBetter 22 = .ok (.ireturn, 1) := by decide +kernel
theorem dX4_bestFirst_0 : decode cX4_bestFirst 0 = .ok (.iconst (-1), 1) := by decide +kernel
theorem dX4_bestFirst_1 : decode cX4_bestFirst 1 = .ok (.istore_n 1, 1) := by decide +kernel
theorem dX4_bestFirst_2 : decode cX4_bestFirst 2 = .ok (.iconst 0, 1) := by decide +kernel
theorem dX4_bestFirst_3 : decode cX4_bestFirst 3 = .ok (.istore_n 2, 1) := by decide +kernel
theorem dX4_bestFirst_4 : decode cX4_bestFirst 4 = .ok (.iload_n 2, 1) := by decide +kernel
theorem dX4_bestFirst_5 : decode cX4_bestFirst 5 = .ok (.sipush 144, 3) := by decide +kernel
theorem dX4_bestFirst_8 : decode cX4_bestFirst 8 = .ok (.if_icmp .ge 88, 3) := by decide +kernel
theorem dX4_bestFirst_11 : decode cX4_bestFirst 11 = .ok (.aload_n 0, 1) := by decide +kernel
theorem dX4_bestFirst_12 : decode cX4_bestFirst 12 = .ok (.getfield 9, 3) := by decide +kernel
theorem dX4_bestFirst_15 : decode cX4_bestFirst 15 = .ok (.iload_n 2, 1) := by decide +kernel
theorem dX4_bestFirst_16 : decode cX4_bestFirst 16 = .ok (.iaload, 1) := by decide +kernel
theorem dX4_bestFirst_17 : decode cX4_bestFirst 17 = .ok (.iconst (-1), 1) := by decide +kernel
theorem dX4_bestFirst_18 : decode cX4_bestFirst 18 = .ok (.if_icmp .eq 29, 3) := by decide +kernel
theorem dX4_bestFirst_21 : decode cX4_bestFirst 21 = .ok (.aload_n 0, 1) := by decide +kernel
theorem dX4_bestFirst_22 : decode cX4_bestFirst 22 = .ok (.getfield 43, 3) := by decide +kernel
theorem dX4_bestFirst_25 : decode cX4_bestFirst 25 = .ok (.invokevirtual 118, 3) := by decide +kernel
theorem dX4_bestFirst_28 : decode cX4_bestFirst 28 = .ok (.iconst (-1), 1) := by decide +kernel
theorem dX4_bestFirst_29 : decode cX4_bestFirst 29 = .ok (.if_icmp .eq 14, 3) := by decide +kernel
theorem dX4_bestFirst_32 : decode cX4_bestFirst 32 = .ok (.aload_n 0, 1) := by decide +kernel
theorem dX4_bestFirst_33 : decode cX4_bestFirst 33 = .ok (.getfield 43, 3) := by decide +kernel
theorem dX4_bestFirst_36 : decode cX4_bestFirst 36 = .ok (.invokevirtual 118, 3) := by decide +kernel
theorem dX4_bestFirst_39 : decode cX4_bestFirst 39 = .ok (.iload_n 2, 1) := by decide +kernel
theorem dX4_bestFirst_40 : decode cX4_bestFirst 40 = .ok (.if_icmp .ne 7, 3) := by decide +kernel
theorem dX4_bestFirst_43 : decode cX4_bestFirst 43 = .ok (.iconst 1, 1) := by decide +kernel
theorem dX4_bestFirst_44 : decode cX4_bestFirst 44 = .ok (.goto 4, 3) := by decide +kernel
theorem dX4_bestFirst_47 : decode cX4_bestFirst 47 = .ok (.iconst 0, 1) := by decide +kernel
theorem dX4_bestFirst_48 : decode cX4_bestFirst 48 = .ok (.istore_n 3, 1) := by decide +kernel
theorem dX4_bestFirst_49 : decode cX4_bestFirst 49 = .ok (.iload_n 3, 1) := by decide +kernel
theorem dX4_bestFirst_50 : decode cX4_bestFirst 50 = .ok (.ifCond .eq 40, 3) := by decide +kernel
theorem dX4_bestFirst_53 : decode cX4_bestFirst 53 = .ok (.iload_n 1, 1) := by decide +kernel
theorem dX4_bestFirst_54 : decode cX4_bestFirst 54 = .ok (.iconst (-1), 1) := by decide +kernel
theorem dX4_bestFirst_55 : decode cX4_bestFirst 55 = .ok (.if_icmp .eq 33, 3) := by decide +kernel
theorem dX4_bestFirst_58 : decode cX4_bestFirst 58 = .ok (.aload_n 0, 1) := by decide +kernel
theorem dX4_bestFirst_59 : decode cX4_bestFirst 59 = .ok (.getfield 9, 3) := by decide +kernel
theorem dX4_bestFirst_62 : decode cX4_bestFirst 62 = .ok (.iload_n 2, 1) := by decide +kernel
theorem dX4_bestFirst_63 : decode cX4_bestFirst 63 = .ok (.iaload, 1) := by decide +kernel
theorem dX4_bestFirst_64 : decode cX4_bestFirst 64 = .ok (.aload_n 0, 1) := by decide +kernel
theorem dX4_bestFirst_65 : decode cX4_bestFirst 65 = .ok (.getfield 15, 3) := by decide +kernel
theorem dX4_bestFirst_68 : decode cX4_bestFirst 68 = .ok (.iload_n 2, 1) := by decide +kernel
theorem dX4_bestFirst_69 : decode cX4_bestFirst 69 = .ok (.laload, 1) := by decide +kernel
theorem dX4_bestFirst_70 : decode cX4_bestFirst 70 = .ok (.aload_n 0, 1) := by decide +kernel
theorem dX4_bestFirst_71 : decode cX4_bestFirst 71 = .ok (.getfield 9, 3) := by decide +kernel
theorem dX4_bestFirst_74 : decode cX4_bestFirst 74 = .ok (.iload_n 1, 1) := by decide +kernel
theorem dX4_bestFirst_75 : decode cX4_bestFirst 75 = .ok (.iaload, 1) := by decide +kernel
theorem dX4_bestFirst_76 : decode cX4_bestFirst 76 = .ok (.aload_n 0, 1) := by decide +kernel
theorem dX4_bestFirst_77 : decode cX4_bestFirst 77 = .ok (.getfield 15, 3) := by decide +kernel
theorem dX4_bestFirst_80 : decode cX4_bestFirst 80 = .ok (.iload_n 1, 1) := by decide +kernel
theorem dX4_bestFirst_81 : decode cX4_bestFirst 81 = .ok (.laload, 1) := by decide +kernel
theorem dX4_bestFirst_82 : decode cX4_bestFirst 82 = .ok (.invokestatic 114, 3) := by decide +kernel
theorem dX4_bestFirst_85 : decode cX4_bestFirst 85 = .ok (.ifCond .eq 5, 3) := by decide +kernel
theorem dX4_bestFirst_88 : decode cX4_bestFirst 88 = .ok (.iload_n 2, 1) := by decide +kernel
theorem dX4_bestFirst_89 : decode cX4_bestFirst 89 = .ok (.istore_n 1, 1) := by decide +kernel
theorem dX4_bestFirst_90 : decode cX4_bestFirst 90 = .ok (.iinc 2 1, 3) := by decide +kernel
theorem dX4_bestFirst_93 : decode cX4_bestFirst 93 = .ok (.goto (-89), 3) := by decide +kernel
theorem dX4_bestFirst_96 : decode cX4_bestFirst 96 = .ok (.iload_n 1, 1) := by decide +kernel
theorem dX4_bestFirst_97 : decode cX4_bestFirst 97 = .ok (.ireturn, 1) := by decide +kernel
theorem dX4_keepPath_0 : decode cX4_keepPath 0 = .ok (.iload_n 1, 1) := by decide +kernel
theorem dX4_keepPath_1 : decode cX4_keepPath 1 = .ok (.istore_n 2, 1) := by decide +kernel
theorem dX4_keepPath_2 : decode cX4_keepPath 2 = .ok (.aload_n 0, 1) := by decide +kernel
theorem dX4_keepPath_3 : decode cX4_keepPath 3 = .ok (.getfield 28, 3) := by decide +kernel
theorem dX4_keepPath_6 : decode cX4_keepPath 6 = .ok (.iconst 0, 1) := by decide +kernel
theorem dX4_keepPath_7 : decode cX4_keepPath 7 = .ok (.iload_n 2, 1) := by decide +kernel
theorem dX4_keepPath_8 : decode cX4_keepPath 8 = .ok (.iastore, 1) := by decide +kernel
theorem dX4_keepPath_9 : decode cX4_keepPath 9 = .ok (.aload_n 0, 1) := by decide +kernel
theorem dX4_keepPath_10 : decode cX4_keepPath 10 = .ok (.aload_n 0, 1) := by decide +kernel
theorem dX4_keepPath_11 : decode cX4_keepPath 11 = .ok (.getfield 43, 3) := by decide +kernel
theorem dX4_keepPath_14 : decode cX4_keepPath 14 = .ok (.invokevirtual 50, 3) := by decide +kernel
theorem dX4_keepPath_17 : decode cX4_keepPath 17 = .ok (.iconst 1, 1) := by decide +kernel
theorem dX4_keepPath_18 : decode cX4_keepPath 18 = .ok (.iadd, 1) := by decide +kernel
theorem dX4_keepPath_19 : decode cX4_keepPath 19 = .ok (.putfield 31, 3) := by decide +kernel
theorem dX4_keepPath_22 : decode cX4_keepPath 22 = .ok (.iconst 0, 1) := by decide +kernel
theorem dX4_keepPath_23 : decode cX4_keepPath 23 = .ok (.istore_n 3, 1) := by decide +kernel
theorem dX4_keepPath_24 : decode cX4_keepPath 24 = .ok (.iload_n 3, 1) := by decide +kernel
theorem dX4_keepPath_25 : decode cX4_keepPath 25 = .ok (.iconst 1, 1) := by decide +kernel
theorem dX4_keepPath_26 : decode cX4_keepPath 26 = .ok (.iadd, 1) := by decide +kernel
theorem dX4_keepPath_27 : decode cX4_keepPath 27 = .ok (.aload_n 0, 1) := by decide +kernel
theorem dX4_keepPath_28 : decode cX4_keepPath 28 = .ok (.getfield 31, 3) := by decide +kernel
theorem dX4_keepPath_31 : decode cX4_keepPath 31 = .ok (.if_icmp .ge 60, 3) := by decide +kernel
theorem dX4_keepPath_34 : decode cX4_keepPath 34 = .ok (.iload_n 3, 1) := by decide +kernel
theorem dX4_keepPath_35 : decode cX4_keepPath 35 = .ok (.bipush 12, 2) := by decide +kernel
theorem dX4_keepPath_37 : decode cX4_keepPath 37 = .ok (.if_icmp .ge 54, 3) := by decide +kernel
theorem dX4_keepPath_40 : decode cX4_keepPath 40 = .ok (.iload_n 3, 1) := by decide +kernel
theorem dX4_keepPath_41 : decode cX4_keepPath 41 = .ok (.sipush 144, 3) := by decide +kernel
theorem dX4_keepPath_44 : decode cX4_keepPath 44 = .ok (.imul, 1) := by decide +kernel
theorem dX4_keepPath_45 : decode cX4_keepPath 45 = .ok (.iload_n 2, 1) := by decide +kernel
theorem dX4_keepPath_46 : decode cX4_keepPath 46 = .ok (.iadd, 1) := by decide +kernel
theorem dX4_keepPath_47 : decode cX4_keepPath 47 = .ok (.istore 4, 2) := by decide +kernel
theorem dX4_keepPath_49 : decode cX4_keepPath 49 = .ok (.iload 4, 2) := by decide +kernel
theorem dX4_keepPath_51 : decode cX4_keepPath 51 = .ok (.ifCond .lt 23, 3) := by decide +kernel
theorem dX4_keepPath_54 : decode cX4_keepPath 54 = .ok (.iload 4, 2) := by decide +kernel
theorem dX4_keepPath_56 : decode cX4_keepPath 56 = .ok (.aload_n 0, 1) := by decide +kernel
theorem dX4_keepPath_57 : decode cX4_keepPath 57 = .ok (.getfield 25, 3) := by decide +kernel
theorem dX4_keepPath_60 : decode cX4_keepPath 60 = .ok (.arraylength, 1) := by decide +kernel
theorem dX4_keepPath_61 : decode cX4_keepPath 61 = .ok (.if_icmp .ge 13, 3) := by decide +kernel
theorem dX4_keepPath_64 : decode cX4_keepPath 64 = .ok (.aload_n 0, 1) := by decide +kernel
theorem dX4_keepPath_65 : decode cX4_keepPath 65 = .ok (.getfield 25, 3) := by decide +kernel
theorem dX4_keepPath_68 : decode cX4_keepPath 68 = .ok (.iload 4, 2) := by decide +kernel
theorem dX4_keepPath_70 : decode cX4_keepPath 70 = .ok (.iaload, 1) := by decide +kernel
theorem dX4_keepPath_71 : decode cX4_keepPath 71 = .ok (.goto 4, 3) := by decide +kernel
theorem dX4_keepPath_74 : decode cX4_keepPath 74 = .ok (.iconst (-1), 1) := by decide +kernel
theorem dX4_keepPath_75 : decode cX4_keepPath 75 = .ok (.istore_n 2, 1) := by decide +kernel
theorem dX4_keepPath_76 : decode cX4_keepPath 76 = .ok (.aload_n 0, 1) := by decide +kernel
theorem dX4_keepPath_77 : decode cX4_keepPath 77 = .ok (.getfield 28, 3) := by decide +kernel
theorem dX4_keepPath_80 : decode cX4_keepPath 80 = .ok (.iload_n 3, 1) := by decide +kernel
theorem dX4_keepPath_81 : decode cX4_keepPath 81 = .ok (.iconst 1, 1) := by decide +kernel
theorem dX4_keepPath_82 : decode cX4_keepPath 82 = .ok (.iadd, 1) := by decide +kernel
theorem dX4_keepPath_83 : decode cX4_keepPath 83 = .ok (.iload_n 2, 1) := by decide +kernel
theorem dX4_keepPath_84 : decode cX4_keepPath 84 = .ok (.iastore, 1) := by decide +kernel
theorem dX4_keepPath_85 : decode cX4_keepPath 85 = .ok (.iinc 3 1, 3) := by decide +kernel
theorem dX4_keepPath_88 : decode cX4_keepPath 88 = .ok (.goto (-64), 3) := by decide +kernel
theorem dX4_keepPath_91 : decode cX4_keepPath 91 = .ok (.return_, 1) := by decide +kernel
theorem dX5_init_0 : decode cX5_init 0 = .ok (.aload_n 0, 1) := by decide +kernel
theorem dX5_init_1 : decode cX5_init 1 = .ok (.invokespecial 3, 3) := by decide +kernel
theorem dX5_init_4 : decode cX5_init 4 = .ok (.aload_n 0, 1) := by decide +kernel
theorem dX5_init_5 : decode cX5_init 5 = .ok (.bipush 12, 2) := by decide +kernel
theorem dX5_init_7 : decode cX5_init 7 = .ok (.newarray .int, 2) := by decide +kernel
theorem dX5_init_9 : decode cX5_init 9 = .ok (.putfield 9, 3) := by decide +kernel
theorem dX5_init_12 : decode cX5_init 12 = .ok (.aload_n 0, 1) := by decide +kernel
theorem dX5_init_13 : decode cX5_init 13 = .ok (.bipush 12, 2) := by decide +kernel
theorem dX5_init_15 : decode cX5_init 15 = .ok (.newarray .int, 2) := by decide +kernel
theorem dX5_init_17 : decode cX5_init 17 = .ok (.putfield 15, 3) := by decide +kernel
theorem dX5_init_20 : decode cX5_init 20 = .ok (.aload_n 0, 1) := by decide +kernel
theorem dX5_init_21 : decode cX5_init 21 = .ok (.bipush 40, 2) := by decide +kernel
theorem dX5_init_23 : decode cX5_init 23 = .ok (.newarray .int, 2) := by decide +kernel
theorem dX5_init_25 : decode cX5_init 25 = .ok (.putfield 18, 3) := by decide +kernel
theorem dX5_init_28 : decode cX5_init 28 = .ok (.aload_n 0, 1) := by decide +kernel
theorem dX5_init_29 : decode cX5_init 29 = .ok (.bipush 40, 2) := by decide +kernel
theorem dX5_init_31 : decode cX5_init 31 = .ok (.newarray .int, 2) := by decide +kernel
theorem dX5_init_33 : decode cX5_init 33 = .ok (.putfield 21, 3) := by decide +kernel
theorem dX5_init_36 : decode cX5_init 36 = .ok (.aload_n 0, 1) := by decide +kernel
theorem dX5_init_37 : decode cX5_init 37 = .ok (.iconst 0, 1) := by decide +kernel
theorem dX5_init_38 : decode cX5_init 38 = .ok (.putfield 24, 3) := by decide +kernel
theorem dX5_init_41 : decode cX5_init 41 = .ok (.aload_n 0, 1) := by decide +kernel
theorem dX5_init_42 : decode cX5_init 42 = .ok (.iconst 0, 1) := by decide +kernel
theorem dX5_init_43 : decode cX5_init 43 = .ok (.putfield 28, 3) := by decide +kernel
theorem dX5_init_46 : decode cX5_init 46 = .ok (.aload_n 0, 1) := by decide +kernel
theorem dX5_init_47 : decode cX5_init 47 = .ok (.iconst (-1), 1) := by decide +kernel
theorem dX5_init_48 : decode cX5_init 48 = .ok (.putfield 31, 3) := by decide +kernel
theorem dX5_init_51 : decode cX5_init 51 = .ok (.return_, 1) := by decide +kernel
theorem dX5_moves_0 : decode cX5_moves 0 = .ok (.aload_n 0, 1) := by decide +kernel
theorem dX5_moves_1 : decode cX5_moves 1 = .ok (.getfield 24, 3) := by decide +kernel
theorem dX5_moves_4 : decode cX5_moves 4 = .ok (.ireturn, 1) := by decide +kernel
theorem dX5_readings_0 : decode cX5_readings 0 = .ok (.aload_n 0, 1) := by decide +kernel
theorem dX5_readings_1 : decode cX5_readings 1 = .ok (.getfield 28, 3) := by decide +kernel
theorem dX5_readings_4 : decode cX5_readings 4 = .ok (.ireturn, 1) := by decide +kernel
theorem dX5_start_0 : decode cX5_start 0 = .ok (.aload_n 0, 1) := by decide +kernel
theorem dX5_start_1 : decode cX5_start 1 = .ok (.getfield 31, 3) := by decide +kernel
theorem dX5_start_4 : decode cX5_start 4 = .ok (.ireturn, 1) := by decide +kernel
theorem dX5_restart_0 : decode cX5_restart 0 = .ok (.aload_n 0, 1) := by decide +kernel
theorem dX5_restart_1 : decode cX5_restart 1 = .ok (.iconst 0, 1) := by decide +kernel
theorem dX5_restart_2 : decode cX5_restart 2 = .ok (.putfield 24, 3) := by decide +kernel
theorem dX5_restart_5 : decode cX5_restart 5 = .ok (.aload_n 0, 1) := by decide +kernel
theorem dX5_restart_6 : decode cX5_restart 6 = .ok (.iconst 0, 1) := by decide +kernel
theorem dX5_restart_7 : decode cX5_restart 7 = .ok (.putfield 28, 3) := by decide +kernel
theorem dX5_restart_10 : decode cX5_restart 10 = .ok (.aload_n 0, 1) := by decide +kernel
theorem dX5_restart_11 : decode cX5_restart 11 = .ok (.iload_n 1, 1) := by decide +kernel
theorem dX5_restart_12 : decode cX5_restart 12 = .ok (.putfield 31, 3) := by decide +kernel
theorem dX5_restart_15 : decode cX5_restart 15 = .ok (.return_, 1) := by decide +kernel
theorem dX5_addMove_0 : decode cX5_addMove 0 = .ok (.aload_n 0, 1) := by decide +kernel
theorem dX5_addMove_1 : decode cX5_addMove 1 = .ok (.getfield 24, 3) := by decide +kernel
theorem dX5_addMove_4 : decode cX5_addMove 4 = .ok (.bipush 12, 2) := by decide +kernel
theorem dX5_addMove_6 : decode cX5_addMove 6 = .ok (.if_icmp .ge 33, 3) := by decide +kernel
theorem dX5_addMove_9 : decode cX5_addMove 9 = .ok (.aload_n 0, 1) := by decide +kernel
theorem dX5_addMove_10 : decode cX5_addMove 10 = .ok (.getfield 9, 3) := by decide +kernel
theorem dX5_addMove_13 : decode cX5_addMove 13 = .ok (.aload_n 0, 1) := by decide +kernel
theorem dX5_addMove_14 : decode cX5_addMove 14 = .ok (.getfield 24, 3) := by decide +kernel
theorem dX5_addMove_17 : decode cX5_addMove 17 = .ok (.iload_n 1, 1) := by decide +kernel
theorem dX5_addMove_18 : decode cX5_addMove 18 = .ok (.iastore, 1) := by decide +kernel
theorem dX5_addMove_19 : decode cX5_addMove 19 = .ok (.aload_n 0, 1) := by decide +kernel
theorem dX5_addMove_20 : decode cX5_addMove 20 = .ok (.getfield 15, 3) := by decide +kernel
theorem dX5_addMove_23 : decode cX5_addMove 23 = .ok (.aload_n 0, 1) := by decide +kernel
theorem dX5_addMove_24 : decode cX5_addMove 24 = .ok (.getfield 24, 3) := by decide +kernel
theorem dX5_addMove_27 : decode cX5_addMove 27 = .ok (.iload_n 2, 1) := by decide +kernel
theorem dX5_addMove_28 : decode cX5_addMove 28 = .ok (.iastore, 1) := by decide +kernel
theorem dX5_addMove_29 : decode cX5_addMove 29 = .ok (.aload_n 0, 1) := by decide +kernel
theorem dX5_addMove_30 : decode cX5_addMove 30 = .ok (.dup, 1) := by decide +kernel
theorem dX5_addMove_31 : decode cX5_addMove 31 = .ok (.getfield 24, 3) := by decide +kernel
theorem dX5_addMove_34 : decode cX5_addMove 34 = .ok (.iconst 1, 1) := by decide +kernel
theorem dX5_addMove_35 : decode cX5_addMove 35 = .ok (.iadd, 1) := by decide +kernel
theorem dX5_addMove_36 : decode cX5_addMove 36 = .ok (.putfield 24, 3) := by decide +kernel
theorem dX5_addMove_39 : decode cX5_addMove 39 = .ok (.return_, 1) := by decide +kernel
theorem dX5_addReading_0 : decode cX5_addReading 0 = .ok (.aload_n 0, 1) := by decide +kernel
theorem dX5_addReading_1 : decode cX5_addReading 1 = .ok (.getfield 28, 3) := by decide +kernel
theorem dX5_addReading_4 : decode cX5_addReading 4 = .ok (.bipush 40, 2) := by decide +kernel
theorem dX5_addReading_6 : decode cX5_addReading 6 = .ok (.if_icmp .ge 36, 3) := by decide +kernel
theorem dX5_addReading_9 : decode cX5_addReading 9 = .ok (.aload_n 0, 1) := by decide +kernel
theorem dX5_addReading_10 : decode cX5_addReading 10 = .ok (.getfield 18, 3) := by decide +kernel
theorem dX5_addReading_13 : decode cX5_addReading 13 = .ok (.aload_n 0, 1) := by decide +kernel
theorem dX5_addReading_14 : decode cX5_addReading 14 = .ok (.getfield 28, 3) := by decide +kernel
theorem dX5_addReading_17 : decode cX5_addReading 17 = .ok (.iload_n 1, 1) := by decide +kernel
theorem dX5_addReading_18 : decode cX5_addReading 18 = .ok (.iastore, 1) := by decide +kernel
theorem dX5_addReading_19 : decode cX5_addReading 19 = .ok (.aload_n 0, 1) := by decide +kernel
theorem dX5_addReading_20 : decode cX5_addReading 20 = .ok (.getfield 21, 3) := by decide +kernel
theorem dX5_addReading_23 : decode cX5_addReading 23 = .ok (.aload_n 0, 1) := by decide +kernel
theorem dX5_addReading_24 : decode cX5_addReading 24 = .ok (.getfield 28, 3) := by decide +kernel
theorem dX5_addReading_27 : decode cX5_addReading 27 = .ok (.aload_n 0, 1) := by decide +kernel
theorem dX5_addReading_28 : decode cX5_addReading 28 = .ok (.getfield 24, 3) := by decide +kernel
theorem dX5_addReading_31 : decode cX5_addReading 31 = .ok (.iastore, 1) := by decide +kernel
theorem dX5_addReading_32 : decode cX5_addReading 32 = .ok (.aload_n 0, 1) := by decide +kernel
theorem dX5_addReading_33 : decode cX5_addReading 33 = .ok (.dup, 1) := by decide +kernel
theorem dX5_addReading_34 : decode cX5_addReading 34 = .ok (.getfield 28, 3) := by decide +kernel
theorem dX5_addReading_37 : decode cX5_addReading 37 = .ok (.iconst 1, 1) := by decide +kernel
theorem dX5_addReading_38 : decode cX5_addReading 38 = .ok (.iadd, 1) := by decide +kernel
theorem dX5_addReading_39 : decode cX5_addReading 39 = .ok (.putfield 28, 3) := by decide +kernel
theorem dX5_addReading_42 : decode cX5_addReading 42 = .ok (.return_, 1) := by decide +kernel
theorem dX5_dx_0 : decode cX5_dx 0 = .ok (.iload_n 1, 1) := by decide +kernel
theorem dX5_dx_1 : decode cX5_dx 1 = .ok (.ifCond .lt 20, 3) := by decide +kernel
theorem dX5_dx_4 : decode cX5_dx 4 = .ok (.iload_n 1, 1) := by decide +kernel
theorem dX5_dx_5 : decode cX5_dx 5 = .ok (.aload_n 0, 1) := by decide +kernel
theorem dX5_dx_6 : decode cX5_dx 6 = .ok (.getfield 24, 3) := by decide +kernel
theorem dX5_dx_9 : decode cX5_dx 9 = .ok (.if_icmp .ge 12, 3) := by decide +kernel
theorem dX5_dx_12 : decode cX5_dx 12 = .ok (.aload_n 0, 1) := by decide +kernel
theorem dX5_dx_13 : decode cX5_dx 13 = .ok (.getfield 9, 3) := by decide +kernel
theorem dX5_dx_16 : decode cX5_dx 16 = .ok (.iload_n 1, 1) := by decide +kernel
theorem dX5_dx_17 : decode cX5_dx 17 = .ok (.iaload, 1) := by decide +kernel
theorem dX5_dx_18 : decode cX5_dx 18 = .ok (.goto 4, 3) := by decide +kernel
theorem dX5_dx_21 : decode cX5_dx 21 = .ok (.iconst 0, 1) := by decide +kernel
theorem dX5_dx_22 : decode cX5_dx 22 = .ok (.ireturn, 1) := by decide +kernel
theorem dX5_dy_0 : decode cX5_dy 0 = .ok (.iload_n 1, 1) := by decide +kernel
theorem dX5_dy_1 : decode cX5_dy 1 = .ok (.ifCond .lt 20, 3) := by decide +kernel
theorem dX5_dy_4 : decode cX5_dy 4 = .ok (.iload_n 1, 1) := by decide +kernel
theorem dX5_dy_5 : decode cX5_dy 5 = .ok (.aload_n 0, 1) := by decide +kernel
theorem dX5_dy_6 : decode cX5_dy 6 = .ok (.getfield 24, 3) := by decide +kernel
theorem dX5_dy_9 : decode cX5_dy 9 = .ok (.if_icmp .ge 12, 3) := by decide +kernel
theorem dX5_dy_12 : decode cX5_dy 12 = .ok (.aload_n 0, 1) := by decide +kernel
theorem dX5_dy_13 : decode cX5_dy 13 = .ok (.getfield 15, 3) := by decide +kernel
theorem dX5_dy_16 : decode cX5_dy 16 = .ok (.iload_n 1, 1) := by decide +kernel
theorem dX5_dy_17 : decode cX5_dy 17 = .ok (.iaload, 1) := by decide +kernel
theorem dX5_dy_18 : decode cX5_dy 18 = .ok (.goto 4, 3) := by decide +kernel
theorem dX5_dy_21 : decode cX5_dy 21 = .ok (.iconst 0, 1) := by decide +kernel
theorem dX5_dy_22 : decode cX5_dy 22 = .ok (.ireturn, 1) := by decide +kernel
theorem dX5_faultAt_0 : decode cX5_faultAt 0 = .ok (.iload_n 2, 1) := by decide +kernel
theorem dX5_faultAt_1 : decode cX5_faultAt 1 = .ok (.iconst (-1), 1) := by decide +kernel
theorem dX5_faultAt_2 : decode cX5_faultAt 2 = .ok (.if_icmp .ne 5, 3) := by decide +kernel
theorem dX5_faultAt_5 : decode cX5_faultAt 5 = .ok (.iconst 0, 1) := by decide +kernel
theorem dX5_faultAt_6 : decode cX5_faultAt 6 = .ok (.ireturn, 1) := by decide +kernel
theorem dX5_faultAt_7 : decode cX5_faultAt 7 = .ok (.iconst 0, 1) := by decide +kernel
theorem dX5_faultAt_8 : decode cX5_faultAt 8 = .ok (.istore_n 3, 1) := by decide +kernel
theorem dX5_faultAt_9 : decode cX5_faultAt 9 = .ok (.iconst 0, 1) := by decide +kernel
theorem dX5_faultAt_10 : decode cX5_faultAt 10 = .ok (.istore 4, 2) := by decide +kernel
theorem dX5_faultAt_12 : decode cX5_faultAt 12 = .ok (.iload 4, 2) := by decide +kernel
theorem dX5_faultAt_14 : decode cX5_faultAt 14 = .ok (.aload_n 0, 1) := by decide +kernel
theorem dX5_faultAt_15 : decode cX5_faultAt 15 = .ok (.getfield 28, 3) := by decide +kernel
theorem dX5_faultAt_18 : decode cX5_faultAt 18 = .ok (.if_icmp .ge 35, 3) := by decide +kernel
theorem dX5_faultAt_21 : decode cX5_faultAt 21 = .ok (.aload_n 0, 1) := by decide +kernel
theorem dX5_faultAt_22 : decode cX5_faultAt 22 = .ok (.getfield 21, 3) := by decide +kernel
theorem dX5_faultAt_25 : decode cX5_faultAt 25 = .ok (.iload 4, 2) := by decide +kernel
theorem dX5_faultAt_27 : decode cX5_faultAt 27 = .ok (.iaload, 1) := by decide +kernel
theorem dX5_faultAt_28 : decode cX5_faultAt 28 = .ok (.iload_n 1, 1) := by decide +kernel
theorem dX5_faultAt_29 : decode cX5_faultAt 29 = .ok (.if_icmp .ne 18, 3) := by decide +kernel
theorem dX5_faultAt_32 : decode cX5_faultAt 32 = .ok (.iload_n 3, 1) := by decide +kernel
theorem dX5_faultAt_33 : decode cX5_faultAt 33 = .ok (.aload_n 0, 1) := by decide +kernel
theorem dX5_faultAt_34 : decode cX5_faultAt 34 = .ok (.getfield 18, 3) := by decide +kernel
theorem dX5_faultAt_37 : decode cX5_faultAt 37 = .ok (.iload 4, 2) := by decide +kernel
theorem dX5_faultAt_39 : decode cX5_faultAt 39 = .ok (.iaload, 1) := by decide +kernel
theorem dX5_faultAt_40 : decode cX5_faultAt 40 = .ok (.iload_n 2, 1) := by decide +kernel
theorem dX5_faultAt_41 : decode cX5_faultAt 41 = .ok (.isub, 1) := by decide +kernel
theorem dX5_faultAt_42 : decode cX5_faultAt 42 = .ok (.invokestatic 34, 3) := by decide +kernel
theorem dX5_faultAt_45 : decode cX5_faultAt 45 = .ok (.iadd, 1) := by decide +kernel
theorem dX5_faultAt_46 : decode cX5_faultAt 46 = .ok (.istore_n 3, 1) := by decide +kernel
theorem dX5_faultAt_47 : decode cX5_faultAt 47 = .ok (.iinc 4 1, 3) := by decide +kernel
theorem dX5_faultAt_50 : decode cX5_faultAt 50 = .ok (.goto (-38), 3) := by decide +kernel
theorem dX5_faultAt_53 : decode cX5_faultAt 53 = .ok (.iload_n 3, 1) := by decide +kernel
theorem dX5_faultAt_54 : decode cX5_faultAt 54 = .ok (.ireturn, 1) := by decide +kernel
theorem dX6_init_0 : decode cX6_init 0 = .ok (.aload_n 0, 1) := by decide +kernel
theorem dX6_init_1 : decode cX6_init 1 = .ok (.invokespecial 3, 3) := by decide +kernel
theorem dX6_init_4 : decode cX6_init 4 = .ok (.aload_n 0, 1) := by decide +kernel
theorem dX6_init_5 : decode cX6_init 5 = .ok (.sipush 160, 3) := by decide +kernel
theorem dX6_init_8 : decode cX6_init 8 = .ok (.newarray .byte, 2) := by decide +kernel
theorem dX6_init_10 : decode cX6_init 10 = .ok (.putfield 9, 3) := by decide +kernel
theorem dX6_init_13 : decode cX6_init 13 = .ok (.aload_n 0, 1) := by decide +kernel
theorem dX6_init_14 : decode cX6_init 14 = .ok (.iconst 0, 1) := by decide +kernel
theorem dX6_init_15 : decode cX6_init 15 = .ok (.putfield 15, 3) := by decide +kernel
theorem dX6_init_18 : decode cX6_init 18 = .ok (.return_, 1) := by decide +kernel
theorem dX6_size_0 : decode cX6_size 0 = .ok (.aload_n 0, 1) := by decide +kernel
theorem dX6_size_1 : decode cX6_size 1 = .ok (.getfield 15, 3) := by decide +kernel
theorem dX6_size_4 : decode cX6_size 4 = .ok (.ireturn, 1) := by decide +kernel
theorem dX6_append_0 : decode cX6_append 0 = .ok (.bipush 24, 2) := by decide +kernel
theorem dX6_append_2 : decode cX6_append 2 = .ok (.istore_n 2, 1) := by decide +kernel
theorem dX6_append_3 : decode cX6_append 3 = .ok (.iload_n 2, 1) := by decide +kernel
theorem dX6_append_4 : decode cX6_append 4 = .ok (.ifCond .lt 42, 3) := by decide +kernel
theorem dX6_append_7 : decode cX6_append 7 = .ok (.aload_n 0, 1) := by decide +kernel
theorem dX6_append_8 : decode cX6_append 8 = .ok (.getfield 15, 3) := by decide +kernel
theorem dX6_append_11 : decode cX6_append 11 = .ok (.sipush 160, 3) := by decide +kernel
theorem dX6_append_14 : decode cX6_append 14 = .ok (.if_icmp .ge 32, 3) := by decide +kernel
theorem dX6_append_17 : decode cX6_append 17 = .ok (.aload_n 0, 1) := by decide +kernel
theorem dX6_append_18 : decode cX6_append 18 = .ok (.getfield 9, 3) := by decide +kernel
theorem dX6_append_21 : decode cX6_append 21 = .ok (.aload_n 0, 1) := by decide +kernel
theorem dX6_append_22 : decode cX6_append 22 = .ok (.getfield 15, 3) := by decide +kernel
theorem dX6_append_25 : decode cX6_append 25 = .ok (.iload_n 1, 1) := by decide +kernel
theorem dX6_append_26 : decode cX6_append 26 = .ok (.iload_n 2, 1) := by decide +kernel
theorem dX6_append_27 : decode cX6_append 27 = .ok (.ishr, 1) := by decide +kernel
theorem dX6_append_28 : decode cX6_append 28 = .ok (.i2b, 1) := by decide +kernel
theorem dX6_append_29 : decode cX6_append 29 = .ok (.bastore, 1) := by decide +kernel
theorem dX6_append_30 : decode cX6_append 30 = .ok (.aload_n 0, 1) := by decide +kernel
theorem dX6_append_31 : decode cX6_append 31 = .ok (.dup, 1) := by decide +kernel
theorem dX6_append_32 : decode cX6_append 32 = .ok (.getfield 15, 3) := by decide +kernel
theorem dX6_append_35 : decode cX6_append 35 = .ok (.iconst 1, 1) := by decide +kernel
theorem dX6_append_36 : decode cX6_append 36 = .ok (.iadd, 1) := by decide +kernel
theorem dX6_append_37 : decode cX6_append 37 = .ok (.putfield 15, 3) := by decide +kernel
theorem dX6_append_40 : decode cX6_append 40 = .ok (.iinc 2 (-8), 3) := by decide +kernel
theorem dX6_append_43 : decode cX6_append 43 = .ok (.goto (-40), 3) := by decide +kernel
theorem dX6_append_46 : decode cX6_append 46 = .ok (.return_, 1) := by decide +kernel
theorem dX6_cut_0 : decode cX6_cut 0 = .ok (.iload_n 1, 1) := by decide +kernel
theorem dX6_cut_1 : decode cX6_cut 1 = .ok (.ifCond .lt 11, 3) := by decide +kernel
theorem dX6_cut_4 : decode cX6_cut 4 = .ok (.iload_n 1, 1) := by decide +kernel
theorem dX6_cut_5 : decode cX6_cut 5 = .ok (.aload_n 0, 1) := by decide +kernel
theorem dX6_cut_6 : decode cX6_cut 6 = .ok (.getfield 15, 3) := by decide +kernel
theorem dX6_cut_9 : decode cX6_cut 9 = .ok (.if_icmp .le 5, 3) := by decide +kernel
theorem dX6_cut_12 : decode cX6_cut 12 = .ok (.iconst 0, 1) := by decide +kernel
theorem dX6_cut_13 : decode cX6_cut 13 = .ok (.ireturn, 1) := by decide +kernel
theorem dX6_cut_14 : decode cX6_cut 14 = .ok (.aload_n 0, 1) := by decide +kernel
theorem dX6_cut_15 : decode cX6_cut 15 = .ok (.iload_n 1, 1) := by decide +kernel
theorem dX6_cut_16 : decode cX6_cut 16 = .ok (.putfield 15, 3) := by decide +kernel
theorem dX6_cut_19 : decode cX6_cut 19 = .ok (.iconst 1, 1) := by decide +kernel
theorem dX6_cut_20 : decode cX6_cut 20 = .ok (.ireturn, 1) := by decide +kernel
theorem dX6_signedAt_0 : decode cX6_signedAt 0 = .ok (.iload_n 1, 1) := by decide +kernel
theorem dX6_signedAt_1 : decode cX6_signedAt 1 = .ok (.ifCond .lt 20, 3) := by decide +kernel
theorem dX6_signedAt_4 : decode cX6_signedAt 4 = .ok (.iload_n 1, 1) := by decide +kernel
theorem dX6_signedAt_5 : decode cX6_signedAt 5 = .ok (.aload_n 0, 1) := by decide +kernel
theorem dX6_signedAt_6 : decode cX6_signedAt 6 = .ok (.getfield 15, 3) := by decide +kernel
theorem dX6_signedAt_9 : decode cX6_signedAt 9 = .ok (.if_icmp .ge 12, 3) := by decide +kernel
theorem dX6_signedAt_12 : decode cX6_signedAt 12 = .ok (.aload_n 0, 1) := by decide +kernel
theorem dX6_signedAt_13 : decode cX6_signedAt 13 = .ok (.getfield 9, 3) := by decide +kernel
theorem dX6_signedAt_16 : decode cX6_signedAt 16 = .ok (.iload_n 1, 1) := by decide +kernel
theorem dX6_signedAt_17 : decode cX6_signedAt 17 = .ok (.baload, 1) := by decide +kernel
theorem dX6_signedAt_18 : decode cX6_signedAt 18 = .ok (.goto 4, 3) := by decide +kernel
theorem dX6_signedAt_21 : decode cX6_signedAt 21 = .ok (.iconst 0, 1) := by decide +kernel
theorem dX6_signedAt_22 : decode cX6_signedAt 22 = .ok (.ireturn, 1) := by decide +kernel
theorem dX6_unsignedAt_0 : decode cX6_unsignedAt 0 = .ok (.aload_n 0, 1) := by decide +kernel
theorem dX6_unsignedAt_1 : decode cX6_unsignedAt 1 = .ok (.iload_n 1, 1) := by decide +kernel
theorem dX6_unsignedAt_2 : decode cX6_unsignedAt 2 = .ok (.invokevirtual 19, 3) := by decide +kernel
theorem dX6_unsignedAt_5 : decode cX6_unsignedAt 5 = .ok (.sipush 255, 3) := by decide +kernel
theorem dX6_unsignedAt_8 : decode cX6_unsignedAt 8 = .ok (.iand, 1) := by decide +kernel
theorem dX6_unsignedAt_9 : decode cX6_unsignedAt 9 = .ok (.ireturn, 1) := by decide +kernel
theorem dX7_init_0 : decode cX7_init 0 = .ok (.aload_n 0, 1) := by decide +kernel
theorem dX7_init_1 : decode cX7_init 1 = .ok (.invokespecial 3, 3) := by decide +kernel
theorem dX7_init_4 : decode cX7_init 4 = .ok (.aload_n 0, 1) := by decide +kernel
theorem dX7_init_5 : decode cX7_init 5 = .ok (.bipush 9, 2) := by decide +kernel
theorem dX7_init_7 : decode cX7_init 7 = .ok (.newarray .int, 2) := by decide +kernel
theorem dX7_init_9 : decode cX7_init 9 = .ok (.putfield 9, 3) := by decide +kernel
theorem dX7_init_12 : decode cX7_init 12 = .ok (.aload_n 0, 1) := by decide +kernel
theorem dX7_init_13 : decode cX7_init 13 = .ok (.bipush 9, 2) := by decide +kernel
theorem dX7_init_15 : decode cX7_init 15 = .ok (.newarray .int, 2) := by decide +kernel
theorem dX7_init_17 : decode cX7_init 17 = .ok (.putfield 15, 3) := by decide +kernel
theorem dX7_init_20 : decode cX7_init 20 = .ok (.aload_n 0, 1) := by decide +kernel
theorem dX7_init_21 : decode cX7_init 21 = .ok (.iconst 0, 1) := by decide +kernel
theorem dX7_init_22 : decode cX7_init 22 = .ok (.putfield 18, 3) := by decide +kernel
theorem dX7_init_25 : decode cX7_init 25 = .ok (.aload_n 0, 1) := by decide +kernel
theorem dX7_init_26 : decode cX7_init 26 = .ok (.sipush 144, 3) := by decide +kernel
theorem dX7_init_29 : decode cX7_init 29 = .ok (.newarray .int, 2) := by decide +kernel
theorem dX7_init_31 : decode cX7_init 31 = .ok (.putfield 22, 3) := by decide +kernel
theorem dX7_init_34 : decode cX7_init 34 = .ok (.aload_n 0, 1) := by decide +kernel
theorem dX7_init_35 : decode cX7_init 35 = .ok (.iconst 0, 1) := by decide +kernel
theorem dX7_init_36 : decode cX7_init 36 = .ok (.putfield 25, 3) := by decide +kernel
theorem dX7_init_39 : decode cX7_init 39 = .ok (.aload_n 0, 1) := by decide +kernel
theorem dX7_init_40 : decode cX7_init 40 = .ok (.sipush 1296, 3) := by decide +kernel
theorem dX7_init_43 : decode cX7_init 43 = .ok (.newarray .int, 2) := by decide +kernel
theorem dX7_init_45 : decode cX7_init 45 = .ok (.putfield 28, 3) := by decide +kernel
theorem dX7_init_48 : decode cX7_init 48 = .ok (.aload_n 0, 1) := by decide +kernel
theorem dX7_init_49 : decode cX7_init 49 = .ok (.iconst (-1), 1) := by decide +kernel
theorem dX7_init_50 : decode cX7_init 50 = .ok (.putfield 31, 3) := by decide +kernel
theorem dX7_init_53 : decode cX7_init 53 = .ok (.aload_n 0, 1) := by decide +kernel
theorem dX7_init_54 : decode cX7_init 54 = .ok (.iconst (-1), 1) := by decide +kernel
theorem dX7_init_55 : decode cX7_init 55 = .ok (.putfield 34, 3) := by decide +kernel
theorem dX7_init_58 : decode cX7_init 58 = .ok (.aload_n 0, 1) := by decide +kernel
theorem dX7_init_59 : decode cX7_init 59 = .ok (.aload_n 1, 1) := by decide +kernel
theorem dX7_init_60 : decode cX7_init 60 = .ok (.putfield 37, 3) := by decide +kernel
theorem dX7_init_63 : decode cX7_init 63 = .ok (.aload_n 0, 1) := by decide +kernel
theorem dX7_init_64 : decode cX7_init 64 = .ok (.aload_n 2, 1) := by decide +kernel
theorem dX7_init_65 : decode cX7_init 65 = .ok (.putfield 41, 3) := by decide +kernel
theorem dX7_init_68 : decode cX7_init 68 = .ok (.aload_n 0, 1) := by decide +kernel
theorem dX7_init_69 : decode cX7_init 69 = .ok (.aload_n 3, 1) := by decide +kernel
theorem dX7_init_70 : decode cX7_init 70 = .ok (.putfield 45, 3) := by decide +kernel
theorem dX7_init_73 : decode cX7_init 73 = .ok (.return_, 1) := by decide +kernel
theorem dX7_firstPair_0 : decode cX7_firstPair 0 = .ok (.aload_n 0, 1) := by decide +kernel
theorem dX7_firstPair_1 : decode cX7_firstPair 1 = .ok (.getfield 34, 3) := by decide +kernel
theorem dX7_firstPair_4 : decode cX7_firstPair 4 = .ok (.ireturn, 1) := by decide +kernel
theorem dX7_twinsOfTape_0 : decode cX7_twinsOfTape 0 = .ok (.aload_n 0, 1) := by decide +kernel
theorem dX7_twinsOfTape_1 : decode cX7_twinsOfTape 1 = .ok (.iconst 0, 1) := by decide +kernel
theorem dX7_twinsOfTape_2 : decode cX7_twinsOfTape 2 = .ok (.aload_n 0, 1) := by decide +kernel
theorem dX7_twinsOfTape_3 : decode cX7_twinsOfTape 3 = .ok (.getfield 45, 3) := by decide +kernel
theorem dX7_twinsOfTape_6 : decode cX7_twinsOfTape 6 = .ok (.invokevirtual 49, 3) := by decide +kernel
theorem dX7_twinsOfTape_9 : decode cX7_twinsOfTape 9 = .ok (.invokevirtual 55, 3) := by decide +kernel
theorem dX7_twinsOfTape_12 : decode cX7_twinsOfTape 12 = .ok (.istore_n 1, 1) := by decide +kernel
theorem dX7_twinsOfTape_13 : decode cX7_twinsOfTape 13 = .ok (.iload_n 1, 1) := by decide +kernel
theorem dX7_twinsOfTape_14 : decode cX7_twinsOfTape 14 = .ok (.iconst (-1), 1) := by decide +kernel
theorem dX7_twinsOfTape_15 : decode cX7_twinsOfTape 15 = .ok (.if_icmp .eq 11, 3) := by decide +kernel
theorem dX7_twinsOfTape_18 : decode cX7_twinsOfTape 18 = .ok (.aload_n 0, 1) := by decide +kernel
theorem dX7_twinsOfTape_19 : decode cX7_twinsOfTape 19 = .ok (.aload_n 0, 1) := by decide +kernel
theorem dX7_twinsOfTape_20 : decode cX7_twinsOfTape 20 = .ok (.getfield 31, 3) := by decide +kernel
theorem dX7_twinsOfTape_23 : decode cX7_twinsOfTape 23 = .ok (.putfield 34, 3) := by decide +kernel
theorem dX7_twinsOfTape_26 : decode cX7_twinsOfTape 26 = .ok (.iload_n 1, 1) := by decide +kernel
theorem dX7_twinsOfTape_27 : decode cX7_twinsOfTape 27 = .ok (.ireturn, 1) := by decide +kernel
theorem dX7_tellingRoute_0 : decode cX7_tellingRoute 0 = .ok (.iload_n 1, 1) := by decide +kernel
theorem dX7_tellingRoute_1 : decode cX7_tellingRoute 1 = .ok (.iconst 1, 1) := by decide +kernel
theorem dX7_tellingRoute_2 : decode cX7_tellingRoute 2 = .ok (.if_icmp .lt 21, 3) := by decide +kernel
theorem dX7_tellingRoute_5 : decode cX7_tellingRoute 5 = .ok (.iload_n 1, 1) := by decide +kernel
theorem dX7_tellingRoute_6 : decode cX7_tellingRoute 6 = .ok (.bipush 8, 2) := by decide +kernel
theorem dX7_tellingRoute_8 : decode cX7_tellingRoute 8 = .ok (.if_icmp .gt 15, 3) := by decide +kernel
theorem dX7_tellingRoute_11 : decode cX7_tellingRoute 11 = .ok (.aload_n 0, 1) := by decide +kernel
theorem dX7_tellingRoute_12 : decode cX7_tellingRoute 12 = .ok (.getfield 45, 3) := by decide +kernel
theorem dX7_tellingRoute_15 : decode cX7_tellingRoute 15 = .ok (.invokevirtual 49, 3) := by decide +kernel
theorem dX7_tellingRoute_18 : decode cX7_tellingRoute 18 = .ok (.iload_n 1, 1) := by decide +kernel
theorem dX7_tellingRoute_19 : decode cX7_tellingRoute 19 = .ok (.irem, 1) := by decide +kernel
theorem dX7_tellingRoute_20 : decode cX7_tellingRoute 20 = .ok (.ifCond .eq 5, 3) := by decide +kernel
theorem dX7_tellingRoute_23 : decode cX7_tellingRoute 23 = .ok (.iconst (-1), 1) := by decide +kernel
theorem dX7_tellingRoute_24 : decode cX7_tellingRoute 24 = .ok (.ireturn, 1) := by decide +kernel
theorem dX7_tellingRoute_25 : decode cX7_tellingRoute 25 = .ok (.aload_n 0, 1) := by decide +kernel
theorem dX7_tellingRoute_26 : decode cX7_tellingRoute 26 = .ok (.getfield 45, 3) := by decide +kernel
theorem dX7_tellingRoute_29 : decode cX7_tellingRoute 29 = .ok (.invokevirtual 49, 3) := by decide +kernel
theorem dX7_tellingRoute_32 : decode cX7_tellingRoute 32 = .ok (.iload_n 1, 1) := by decide +kernel
theorem dX7_tellingRoute_33 : decode cX7_tellingRoute 33 = .ok (.idiv, 1) := by decide +kernel
theorem dX7_tellingRoute_34 : decode cX7_tellingRoute 34 = .ok (.istore_n 2, 1) := by decide +kernel
theorem dX7_tellingRoute_35 : decode cX7_tellingRoute 35 = .ok (.iconst (-1), 1) := by decide +kernel
theorem dX7_tellingRoute_36 : decode cX7_tellingRoute 36 = .ok (.istore_n 3, 1) := by decide +kernel
theorem dX7_tellingRoute_37 : decode cX7_tellingRoute 37 = .ok (.iconst 0, 1) := by decide +kernel
theorem dX7_tellingRoute_38 : decode cX7_tellingRoute 38 = .ok (.istore 4, 2) := by decide +kernel
theorem dX7_tellingRoute_40 : decode cX7_tellingRoute 40 = .ok (.iconst 0, 1) := by decide +kernel
theorem dX7_tellingRoute_41 : decode cX7_tellingRoute 41 = .ok (.istore 5, 2) := by decide +kernel
theorem dX7_tellingRoute_43 : decode cX7_tellingRoute 43 = .ok (.iload 5, 2) := by decide +kernel
theorem dX7_tellingRoute_45 : decode cX7_tellingRoute 45 = .ok (.iload_n 1, 1) := by decide +kernel
theorem dX7_tellingRoute_46 : decode cX7_tellingRoute 46 = .ok (.if_icmp .ge 47, 3) := by decide +kernel
theorem dX7_tellingRoute_49 : decode cX7_tellingRoute 49 = .ok (.aload_n 0, 1) := by decide +kernel
theorem dX7_tellingRoute_50 : decode cX7_tellingRoute 50 = .ok (.iload 5, 2) := by decide +kernel
theorem dX7_tellingRoute_52 : decode cX7_tellingRoute 52 = .ok (.iload_n 2, 1) := by decide +kernel
theorem dX7_tellingRoute_53 : decode cX7_tellingRoute 53 = .ok (.imul, 1) := by decide +kernel
theorem dX7_tellingRoute_54 : decode cX7_tellingRoute 54 = .ok (.iload_n 2, 1) := by decide +kernel
theorem dX7_tellingRoute_55 : decode cX7_tellingRoute 55 = .ok (.invokevirtual 55, 3) := by decide +kernel
theorem dX7_tellingRoute_58 : decode cX7_tellingRoute 58 = .ok (.istore 6, 2) := by decide +kernel
theorem dX7_tellingRoute_60 : decode cX7_tellingRoute 60 = .ok (.iload 6, 2) := by decide +kernel
theorem dX7_tellingRoute_62 : decode cX7_tellingRoute 62 = .ok (.iconst (-1), 1) := by decide +kernel
theorem dX7_tellingRoute_63 : decode cX7_tellingRoute 63 = .ok (.if_icmp .ne 5, 3) := by decide +kernel
theorem dX7_tellingRoute_66 : decode cX7_tellingRoute 66 = .ok (.iconst (-1), 1) := by decide +kernel
theorem dX7_tellingRoute_67 : decode cX7_tellingRoute 67 = .ok (.ireturn, 1) := by decide +kernel
theorem dX7_tellingRoute_68 : decode cX7_tellingRoute 68 = .ok (.iload_n 3, 1) := by decide +kernel
theorem dX7_tellingRoute_69 : decode cX7_tellingRoute 69 = .ok (.iconst (-1), 1) := by decide +kernel
theorem dX7_tellingRoute_70 : decode cX7_tellingRoute 70 = .ok (.if_icmp .eq 10, 3) := by decide +kernel
theorem dX7_tellingRoute_73 : decode cX7_tellingRoute 73 = .ok (.iload 6, 2) := by decide +kernel
theorem dX7_tellingRoute_75 : decode cX7_tellingRoute 75 = .ok (.iload 4, 2) := by decide +kernel
theorem dX7_tellingRoute_77 : decode cX7_tellingRoute 77 = .ok (.if_icmp .ge 10, 3) := by decide +kernel
theorem dX7_tellingRoute_80 : decode cX7_tellingRoute 80 = .ok (.iload 5, 2) := by decide +kernel
theorem dX7_tellingRoute_82 : decode cX7_tellingRoute 82 = .ok (.istore_n 3, 1) := by decide +kernel
theorem dX7_tellingRoute_83 : decode cX7_tellingRoute 83 = .ok (.iload 6, 2) := by decide +kernel
theorem dX7_tellingRoute_85 : decode cX7_tellingRoute 85 = .ok (.istore 4, 2) := by decide +kernel
theorem dX7_tellingRoute_87 : decode cX7_tellingRoute 87 = .ok (.iinc 5 1, 3) := by decide +kernel
theorem dX7_tellingRoute_90 : decode cX7_tellingRoute 90 = .ok (.goto (-47), 3) := by decide +kernel
theorem dX7_tellingRoute_93 : decode cX7_tellingRoute 93 = .ok (.iload_n 3, 1) := by decide +kernel
theorem dX7_tellingRoute_94 : decode cX7_tellingRoute 94 = .ok (.ireturn, 1) := by decide +kernel
theorem dX7_countTwins_0 : decode cX7_countTwins 0 = .ok (.aload_n 0, 1) := by decide +kernel
theorem dX7_countTwins_1 : decode cX7_countTwins 1 = .ok (.iload_n 1, 1) := by decide +kernel
theorem dX7_countTwins_2 : decode cX7_countTwins 2 = .ok (.iload_n 2, 1) := by decide +kernel
theorem dX7_countTwins_3 : decode cX7_countTwins 3 = .ok (.invokevirtual 59, 3) := by decide +kernel
theorem dX7_countTwins_6 : decode cX7_countTwins 6 = .ok (.ifCond .ne 5, 3) := by decide +kernel
theorem dX7_countTwins_9 : decode cX7_countTwins 9 = .ok (.iconst (-1), 1) := by decide +kernel
theorem dX7_countTwins_10 : decode cX7_countTwins 10 = .ok (.ireturn, 1) := by decide +kernel
theorem dX7_countTwins_11 : decode cX7_countTwins 11 = .ok (.aload_n 0, 1) := by decide +kernel
theorem dX7_countTwins_12 : decode cX7_countTwins 12 = .ok (.invokevirtual 63, 3) := by decide +kernel
theorem dX7_countTwins_15 : decode cX7_countTwins 15 = .ok (.aload_n 0, 1) := by decide +kernel
theorem dX7_countTwins_16 : decode cX7_countTwins 16 = .ok (.iconst (-1), 1) := by decide +kernel
theorem dX7_countTwins_17 : decode cX7_countTwins 17 = .ok (.putfield 31, 3) := by decide +kernel
theorem dX7_countTwins_20 : decode cX7_countTwins 20 = .ok (.iconst 0, 1) := by decide +kernel
theorem dX7_countTwins_21 : decode cX7_countTwins 21 = .ok (.istore_n 3, 1) := by decide +kernel
theorem dX7_countTwins_22 : decode cX7_countTwins 22 = .ok (.iconst 0, 1) := by decide +kernel
theorem dX7_countTwins_23 : decode cX7_countTwins 23 = .ok (.istore 4, 2) := by decide +kernel
theorem dX7_countTwins_25 : decode cX7_countTwins 25 = .ok (.iload 4, 2) := by decide +kernel
theorem dX7_countTwins_27 : decode cX7_countTwins 27 = .ok (.aload_n 0, 1) := by decide +kernel
theorem dX7_countTwins_28 : decode cX7_countTwins 28 = .ok (.getfield 25, 3) := by decide +kernel
theorem dX7_countTwins_31 : decode cX7_countTwins 31 = .ok (.if_icmp .ge 82, 3) := by decide +kernel
theorem dX7_countTwins_34 : decode cX7_countTwins 34 = .ok (.iload 4, 2) := by decide +kernel
theorem dX7_countTwins_36 : decode cX7_countTwins 36 = .ok (.iconst 1, 1) := by decide +kernel
theorem dX7_countTwins_37 : decode cX7_countTwins 37 = .ok (.iadd, 1) := by decide +kernel
theorem dX7_countTwins_38 : decode cX7_countTwins 38 = .ok (.istore 5, 2) := by decide +kernel
theorem dX7_countTwins_40 : decode cX7_countTwins 40 = .ok (.iload 5, 2) := by decide +kernel
theorem dX7_countTwins_42 : decode cX7_countTwins 42 = .ok (.aload_n 0, 1) := by decide +kernel
theorem dX7_countTwins_43 : decode cX7_countTwins 43 = .ok (.getfield 25, 3) := by decide +kernel
theorem dX7_countTwins_46 : decode cX7_countTwins 46 = .ok (.if_icmp .ge 61, 3) := by decide +kernel
theorem dX7_countTwins_49 : decode cX7_countTwins 49 = .ok (.aload_n 0, 1) := by decide +kernel
theorem dX7_countTwins_50 : decode cX7_countTwins 50 = .ok (.iload 4, 2) := by decide +kernel
theorem dX7_countTwins_52 : decode cX7_countTwins 52 = .ok (.iload 5, 2) := by decide +kernel
theorem dX7_countTwins_54 : decode cX7_countTwins 54 = .ok (.invokevirtual 66, 3) := by decide +kernel
theorem dX7_countTwins_57 : decode cX7_countTwins 57 = .ok (.ifCond .eq 44, 3) := by decide +kernel
theorem dX7_countTwins_60 : decode cX7_countTwins 60 = .ok (.iinc 3 1, 3) := by decide +kernel
theorem dX7_countTwins_63 : decode cX7_countTwins 63 = .ok (.aload_n 0, 1) := by decide +kernel
theorem dX7_countTwins_64 : decode cX7_countTwins 64 = .ok (.aload_n 0, 1) := by decide +kernel
theorem dX7_countTwins_65 : decode cX7_countTwins 65 = .ok (.getfield 31, 3) := by decide +kernel
theorem dX7_countTwins_68 : decode cX7_countTwins 68 = .ok (.iconst (-1), 1) := by decide +kernel
theorem dX7_countTwins_69 : decode cX7_countTwins 69 = .ok (.if_icmp .ne 25, 3) := by decide +kernel
theorem dX7_countTwins_72 : decode cX7_countTwins 72 = .ok (.sipush 200, 3) := by decide +kernel
theorem dX7_countTwins_75 : decode cX7_countTwins 75 = .ok (.aload_n 0, 1) := by decide +kernel
theorem dX7_countTwins_76 : decode cX7_countTwins 76 = .ok (.getfield 22, 3) := by decide +kernel
theorem dX7_countTwins_79 : decode cX7_countTwins 79 = .ok (.iload 4, 2) := by decide +kernel
theorem dX7_countTwins_81 : decode cX7_countTwins 81 = .ok (.iaload, 1) := by decide +kernel
theorem dX7_countTwins_82 : decode cX7_countTwins 82 = .ok (.imul, 1) := by decide +kernel
theorem dX7_countTwins_83 : decode cX7_countTwins 83 = .ok (.aload_n 0, 1) := by decide +kernel
theorem dX7_countTwins_84 : decode cX7_countTwins 84 = .ok (.getfield 22, 3) := by decide +kernel
theorem dX7_countTwins_87 : decode cX7_countTwins 87 = .ok (.iload 5, 2) := by decide +kernel
theorem dX7_countTwins_89 : decode cX7_countTwins 89 = .ok (.iaload, 1) := by decide +kernel
theorem dX7_countTwins_90 : decode cX7_countTwins 90 = .ok (.iadd, 1) := by decide +kernel
theorem dX7_countTwins_91 : decode cX7_countTwins 91 = .ok (.goto 7, 3) := by decide +kernel
theorem dX7_countTwins_94 : decode cX7_countTwins 94 = .ok (.aload_n 0, 1) := by decide +kernel
theorem dX7_countTwins_95 : decode cX7_countTwins 95 = .ok (.getfield 31, 3) := by decide +kernel
theorem dX7_countTwins_98 : decode cX7_countTwins 98 = .ok (.putfield 31, 3) := by decide +kernel
theorem dX7_countTwins_101 : decode cX7_countTwins 101 = .ok (.iinc 5 1, 3) := by decide +kernel
theorem dX7_countTwins_104 : decode cX7_countTwins 104 = .ok (.goto (-64), 3) := by decide +kernel
theorem dX7_countTwins_107 : decode cX7_countTwins 107 = .ok (.iinc 4 1, 3) := by decide +kernel
theorem dX7_countTwins_110 : decode cX7_countTwins 110 = .ok (.goto (-85), 3) := by decide +kernel
theorem dX7_countTwins_113 : decode cX7_countTwins 113 = .ok (.iload_n 3, 1) := by decide +kernel
theorem dX7_countTwins_114 : decode cX7_countTwins 114 = .ok (.ireturn, 1) := by decide +kernel
theorem dX7_layRoute_0 : decode cX7_layRoute 0 = .ok (.iload_n 2, 1) := by decide +kernel
theorem dX7_layRoute_1 : decode cX7_layRoute 1 = .ok (.iconst 2, 1) := by decide +kernel
theorem dX7_layRoute_2 : decode cX7_layRoute 2 = .ok (.irem, 1) := by decide +kernel
theorem dX7_layRoute_3 : decode cX7_layRoute 3 = .ok (.ifCond .ne 9, 3) := by decide +kernel
theorem dX7_layRoute_6 : decode cX7_layRoute 6 = .ok (.iload_n 2, 1) := by decide +kernel
theorem dX7_layRoute_7 : decode cX7_layRoute 7 = .ok (.bipush 16, 2) := by decide +kernel
theorem dX7_layRoute_9 : decode cX7_layRoute 9 = .ok (.if_icmp .le 5, 3) := by decide +kernel
theorem dX7_layRoute_12 : decode cX7_layRoute 12 = .ok (.iconst 0, 1) := by decide +kernel
theorem dX7_layRoute_13 : decode cX7_layRoute 13 = .ok (.ireturn, 1) := by decide +kernel
theorem dX7_layRoute_14 : decode cX7_layRoute 14 = .ok (.aload_n 0, 1) := by decide +kernel
theorem dX7_layRoute_15 : decode cX7_layRoute 15 = .ok (.iload_n 2, 1) := by decide +kernel
theorem dX7_layRoute_16 : decode cX7_layRoute 16 = .ok (.iconst 2, 1) := by decide +kernel
theorem dX7_layRoute_17 : decode cX7_layRoute 17 = .ok (.idiv, 1) := by decide +kernel
theorem dX7_layRoute_18 : decode cX7_layRoute 18 = .ok (.putfield 18, 3) := by decide +kernel
theorem dX7_layRoute_21 : decode cX7_layRoute 21 = .ok (.iconst 0, 1) := by decide +kernel
theorem dX7_layRoute_22 : decode cX7_layRoute 22 = .ok (.istore_n 3, 1) := by decide +kernel
theorem dX7_layRoute_23 : decode cX7_layRoute 23 = .ok (.iload_n 3, 1) := by decide +kernel
theorem dX7_layRoute_24 : decode cX7_layRoute 24 = .ok (.aload_n 0, 1) := by decide +kernel
theorem dX7_layRoute_25 : decode cX7_layRoute 25 = .ok (.getfield 18, 3) := by decide +kernel
theorem dX7_layRoute_28 : decode cX7_layRoute 28 = .ok (.if_icmp .ge 85, 3) := by decide +kernel
theorem dX7_layRoute_31 : decode cX7_layRoute 31 = .ok (.aload_n 0, 1) := by decide +kernel
theorem dX7_layRoute_32 : decode cX7_layRoute 32 = .ok (.getfield 45, 3) := by decide +kernel
theorem dX7_layRoute_35 : decode cX7_layRoute 35 = .ok (.iload_n 1, 1) := by decide +kernel
theorem dX7_layRoute_36 : decode cX7_layRoute 36 = .ok (.iconst 2, 1) := by decide +kernel
theorem dX7_layRoute_37 : decode cX7_layRoute 37 = .ok (.iload_n 3, 1) := by decide +kernel
theorem dX7_layRoute_38 : decode cX7_layRoute 38 = .ok (.imul, 1) := by decide +kernel
theorem dX7_layRoute_39 : decode cX7_layRoute 39 = .ok (.iadd, 1) := by decide +kernel
theorem dX7_layRoute_40 : decode cX7_layRoute 40 = .ok (.invokevirtual 69, 3) := by decide +kernel
theorem dX7_layRoute_43 : decode cX7_layRoute 43 = .ok (.istore 4, 2) := by decide +kernel
theorem dX7_layRoute_45 : decode cX7_layRoute 45 = .ok (.aload_n 0, 1) := by decide +kernel
theorem dX7_layRoute_46 : decode cX7_layRoute 46 = .ok (.getfield 45, 3) := by decide +kernel
theorem dX7_layRoute_49 : decode cX7_layRoute 49 = .ok (.iload_n 1, 1) := by decide +kernel
theorem dX7_layRoute_50 : decode cX7_layRoute 50 = .ok (.iconst 2, 1) := by decide +kernel
theorem dX7_layRoute_51 : decode cX7_layRoute 51 = .ok (.iload_n 3, 1) := by decide +kernel
theorem dX7_layRoute_52 : decode cX7_layRoute 52 = .ok (.imul, 1) := by decide +kernel
theorem dX7_layRoute_53 : decode cX7_layRoute 53 = .ok (.iadd, 1) := by decide +kernel
theorem dX7_layRoute_54 : decode cX7_layRoute 54 = .ok (.iconst 1, 1) := by decide +kernel
theorem dX7_layRoute_55 : decode cX7_layRoute 55 = .ok (.iadd, 1) := by decide +kernel
theorem dX7_layRoute_56 : decode cX7_layRoute 56 = .ok (.invokevirtual 69, 3) := by decide +kernel
theorem dX7_layRoute_59 : decode cX7_layRoute 59 = .ok (.istore 5, 2) := by decide +kernel
theorem dX7_layRoute_61 : decode cX7_layRoute 61 = .ok (.iload 4, 2) := by decide +kernel
theorem dX7_layRoute_63 : decode cX7_layRoute 63 = .ok (.iload 5, 2) := by decide +kernel
theorem dX7_layRoute_65 : decode cX7_layRoute 65 = .ok (.invokestatic 73, 3) := by decide +kernel
theorem dX7_layRoute_68 : decode cX7_layRoute 68 = .ok (.ifCond .ne 5, 3) := by decide +kernel
theorem dX7_layRoute_71 : decode cX7_layRoute 71 = .ok (.iconst 0, 1) := by decide +kernel
theorem dX7_layRoute_72 : decode cX7_layRoute 72 = .ok (.ireturn, 1) := by decide +kernel
theorem dX7_layRoute_73 : decode cX7_layRoute 73 = .ok (.aload_n 0, 1) := by decide +kernel
theorem dX7_layRoute_74 : decode cX7_layRoute 74 = .ok (.getfield 9, 3) := by decide +kernel
theorem dX7_layRoute_77 : decode cX7_layRoute 77 = .ok (.iload_n 3, 1) := by decide +kernel
theorem dX7_layRoute_78 : decode cX7_layRoute 78 = .ok (.iconst 1, 1) := by decide +kernel
theorem dX7_layRoute_79 : decode cX7_layRoute 79 = .ok (.iadd, 1) := by decide +kernel
theorem dX7_layRoute_80 : decode cX7_layRoute 80 = .ok (.aload_n 0, 1) := by decide +kernel
theorem dX7_layRoute_81 : decode cX7_layRoute 81 = .ok (.getfield 9, 3) := by decide +kernel
theorem dX7_layRoute_84 : decode cX7_layRoute 84 = .ok (.iload_n 3, 1) := by decide +kernel
theorem dX7_layRoute_85 : decode cX7_layRoute 85 = .ok (.iaload, 1) := by decide +kernel
theorem dX7_layRoute_86 : decode cX7_layRoute 86 = .ok (.iload 4, 2) := by decide +kernel
theorem dX7_layRoute_88 : decode cX7_layRoute 88 = .ok (.iadd, 1) := by decide +kernel
theorem dX7_layRoute_89 : decode cX7_layRoute 89 = .ok (.iastore, 1) := by decide +kernel
theorem dX7_layRoute_90 : decode cX7_layRoute 90 = .ok (.aload_n 0, 1) := by decide +kernel
theorem dX7_layRoute_91 : decode cX7_layRoute 91 = .ok (.getfield 15, 3) := by decide +kernel
theorem dX7_layRoute_94 : decode cX7_layRoute 94 = .ok (.iload_n 3, 1) := by decide +kernel
theorem dX7_layRoute_95 : decode cX7_layRoute 95 = .ok (.iconst 1, 1) := by decide +kernel
theorem dX7_layRoute_96 : decode cX7_layRoute 96 = .ok (.iadd, 1) := by decide +kernel
theorem dX7_layRoute_97 : decode cX7_layRoute 97 = .ok (.aload_n 0, 1) := by decide +kernel
theorem dX7_layRoute_98 : decode cX7_layRoute 98 = .ok (.getfield 15, 3) := by decide +kernel
theorem dX7_layRoute_101 : decode cX7_layRoute 101 = .ok (.iload_n 3, 1) := by decide +kernel
theorem dX7_layRoute_102 : decode cX7_layRoute 102 = .ok (.iaload, 1) := by decide +kernel
theorem dX7_layRoute_103 : decode cX7_layRoute 103 = .ok (.iload 5, 2) := by decide +kernel
theorem dX7_layRoute_105 : decode cX7_layRoute 105 = .ok (.iadd, 1) := by decide +kernel
theorem dX7_layRoute_106 : decode cX7_layRoute 106 = .ok (.iastore, 1) := by decide +kernel
theorem dX7_layRoute_107 : decode cX7_layRoute 107 = .ok (.iinc 3 1, 3) := by decide +kernel
theorem dX7_layRoute_110 : decode cX7_layRoute 110 = .ok (.goto (-87), 3) := by decide +kernel
theorem dX7_layRoute_113 : decode cX7_layRoute 113 = .ok (.iconst 1, 1) := by decide +kernel
theorem dX7_layRoute_114 : decode cX7_layRoute 114 = .ok (.ireturn, 1) := by decide +kernel
theorem dX7_flyFromAll_0 : decode cX7_flyFromAll 0 = .ok (.aload_n 0, 1) := by decide +kernel
theorem dX7_flyFromAll_1 : decode cX7_flyFromAll 1 = .ok (.iconst 0, 1) := by decide +kernel
theorem dX7_flyFromAll_2 : decode cX7_flyFromAll 2 = .ok (.putfield 25, 3) := by decide +kernel
theorem dX7_flyFromAll_5 : decode cX7_flyFromAll 5 = .ok (.iconst 0, 1) := by decide +kernel
theorem dX7_flyFromAll_6 : decode cX7_flyFromAll 6 = .ok (.istore_n 1, 1) := by decide +kernel
theorem dX7_flyFromAll_7 : decode cX7_flyFromAll 7 = .ok (.iload_n 1, 1) := by decide +kernel
theorem dX7_flyFromAll_8 : decode cX7_flyFromAll 8 = .ok (.aload_n 0, 1) := by decide +kernel
theorem dX7_flyFromAll_9 : decode cX7_flyFromAll 9 = .ok (.getfield 37, 3) := by decide +kernel
theorem dX7_flyFromAll_12 : decode cX7_flyFromAll 12 = .ok (.invokevirtual 76, 3) := by decide +kernel
theorem dX7_flyFromAll_15 : decode cX7_flyFromAll 15 = .ok (.if_icmp .ge 75, 3) := by decide +kernel
theorem dX7_flyFromAll_18 : decode cX7_flyFromAll 18 = .ok (.iconst 0, 1) := by decide +kernel
theorem dX7_flyFromAll_19 : decode cX7_flyFromAll 19 = .ok (.istore_n 2, 1) := by decide +kernel
theorem dX7_flyFromAll_20 : decode cX7_flyFromAll 20 = .ok (.iload_n 2, 1) := by decide +kernel
theorem dX7_flyFromAll_21 : decode cX7_flyFromAll 21 = .ok (.aload_n 0, 1) := by decide +kernel
theorem dX7_flyFromAll_22 : decode cX7_flyFromAll 22 = .ok (.getfield 37, 3) := by decide +kernel
theorem dX7_flyFromAll_25 : decode cX7_flyFromAll 25 = .ok (.invokevirtual 81, 3) := by decide +kernel
theorem dX7_flyFromAll_28 : decode cX7_flyFromAll 28 = .ok (.if_icmp .ge 56, 3) := by decide +kernel
theorem dX7_flyFromAll_31 : decode cX7_flyFromAll 31 = .ok (.aload_n 0, 1) := by decide +kernel
theorem dX7_flyFromAll_32 : decode cX7_flyFromAll 32 = .ok (.getfield 25, 3) := by decide +kernel
theorem dX7_flyFromAll_35 : decode cX7_flyFromAll 35 = .ok (.sipush 144, 3) := by decide +kernel
theorem dX7_flyFromAll_38 : decode cX7_flyFromAll 38 = .ok (.if_icmp .ge 40, 3) := by decide +kernel
theorem dX7_flyFromAll_41 : decode cX7_flyFromAll 41 = .ok (.aload_n 0, 1) := by decide +kernel
theorem dX7_flyFromAll_42 : decode cX7_flyFromAll 42 = .ok (.iload_n 2, 1) := by decide +kernel
theorem dX7_flyFromAll_43 : decode cX7_flyFromAll 43 = .ok (.iload_n 1, 1) := by decide +kernel
theorem dX7_flyFromAll_44 : decode cX7_flyFromAll 44 = .ok (.invokevirtual 84, 3) := by decide +kernel
theorem dX7_flyFromAll_47 : decode cX7_flyFromAll 47 = .ok (.ifCond .eq 31, 3) := by decide +kernel
theorem dX7_flyFromAll_50 : decode cX7_flyFromAll 50 = .ok (.aload_n 0, 1) := by decide +kernel
theorem dX7_flyFromAll_51 : decode cX7_flyFromAll 51 = .ok (.getfield 22, 3) := by decide +kernel
theorem dX7_flyFromAll_54 : decode cX7_flyFromAll 54 = .ok (.aload_n 0, 1) := by decide +kernel
theorem dX7_flyFromAll_55 : decode cX7_flyFromAll 55 = .ok (.getfield 25, 3) := by decide +kernel
theorem dX7_flyFromAll_58 : decode cX7_flyFromAll 58 = .ok (.aload_n 0, 1) := by decide +kernel
theorem dX7_flyFromAll_59 : decode cX7_flyFromAll 59 = .ok (.getfield 37, 3) := by decide +kernel
theorem dX7_flyFromAll_62 : decode cX7_flyFromAll 62 = .ok (.iload_n 2, 1) := by decide +kernel
theorem dX7_flyFromAll_63 : decode cX7_flyFromAll 63 = .ok (.iload_n 1, 1) := by decide +kernel
theorem dX7_flyFromAll_64 : decode cX7_flyFromAll 64 = .ok (.invokevirtual 87, 3) := by decide +kernel
theorem dX7_flyFromAll_67 : decode cX7_flyFromAll 67 = .ok (.iastore, 1) := by decide +kernel
theorem dX7_flyFromAll_68 : decode cX7_flyFromAll 68 = .ok (.aload_n 0, 1) := by decide +kernel
theorem dX7_flyFromAll_69 : decode cX7_flyFromAll 69 = .ok (.dup, 1) := by decide +kernel
theorem dX7_flyFromAll_70 : decode cX7_flyFromAll 70 = .ok (.getfield 25, 3) := by decide +kernel
theorem dX7_flyFromAll_73 : decode cX7_flyFromAll 73 = .ok (.iconst 1, 1) := by decide +kernel
theorem dX7_flyFromAll_74 : decode cX7_flyFromAll 74 = .ok (.iadd, 1) := by decide +kernel
theorem dX7_flyFromAll_75 : decode cX7_flyFromAll 75 = .ok (.putfield 25, 3) := by decide +kernel
theorem dX7_flyFromAll_78 : decode cX7_flyFromAll 78 = .ok (.iinc 2 1, 3) := by decide +kernel
theorem dX7_flyFromAll_81 : decode cX7_flyFromAll 81 = .ok (.goto (-61), 3) := by decide +kernel
theorem dX7_flyFromAll_84 : decode cX7_flyFromAll 84 = .ok (.iinc 1 1, 3) := by decide +kernel
theorem dX7_flyFromAll_87 : decode cX7_flyFromAll 87 = .ok (.goto (-80), 3) := by decide +kernel
theorem dX7_flyFromAll_90 : decode cX7_flyFromAll 90 = .ok (.return_, 1) := by decide +kernel
theorem dX7_isFlown_0 : decode cX7_isFlown 0 = .ok (.iconst 0, 1) := by decide +kernel
theorem dX7_isFlown_1 : decode cX7_isFlown 1 = .ok (.istore_n 3, 1) := by decide +kernel
theorem dX7_isFlown_2 : decode cX7_isFlown 2 = .ok (.iload_n 3, 1) := by decide +kernel
theorem dX7_isFlown_3 : decode cX7_isFlown 3 = .ok (.aload_n 0, 1) := by decide +kernel
theorem dX7_isFlown_4 : decode cX7_isFlown 4 = .ok (.getfield 18, 3) := by decide +kernel
theorem dX7_isFlown_7 : decode cX7_isFlown 7 = .ok (.if_icmp .gt 84, 3) := by decide +kernel
theorem dX7_isFlown_10 : decode cX7_isFlown 10 = .ok (.aload_n 0, 1) := by decide +kernel
theorem dX7_isFlown_11 : decode cX7_isFlown 11 = .ok (.getfield 37, 3) := by decide +kernel
theorem dX7_isFlown_14 : decode cX7_isFlown 14 = .ok (.iload_n 1, 1) := by decide +kernel
theorem dX7_isFlown_15 : decode cX7_isFlown 15 = .ok (.aload_n 0, 1) := by decide +kernel
theorem dX7_isFlown_16 : decode cX7_isFlown 16 = .ok (.getfield 9, 3) := by decide +kernel
theorem dX7_isFlown_19 : decode cX7_isFlown 19 = .ok (.iload_n 3, 1) := by decide +kernel
theorem dX7_isFlown_20 : decode cX7_isFlown 20 = .ok (.iaload, 1) := by decide +kernel
theorem dX7_isFlown_21 : decode cX7_isFlown 21 = .ok (.iadd, 1) := by decide +kernel
theorem dX7_isFlown_22 : decode cX7_isFlown 22 = .ok (.iload_n 2, 1) := by decide +kernel
theorem dX7_isFlown_23 : decode cX7_isFlown 23 = .ok (.aload_n 0, 1) := by decide +kernel
theorem dX7_isFlown_24 : decode cX7_isFlown 24 = .ok (.getfield 15, 3) := by decide +kernel
theorem dX7_isFlown_27 : decode cX7_isFlown 27 = .ok (.iload_n 3, 1) := by decide +kernel
theorem dX7_isFlown_28 : decode cX7_isFlown 28 = .ok (.iaload, 1) := by decide +kernel
theorem dX7_isFlown_29 : decode cX7_isFlown 29 = .ok (.iadd, 1) := by decide +kernel
theorem dX7_isFlown_30 : decode cX7_isFlown 30 = .ok (.invokevirtual 87, 3) := by decide +kernel
theorem dX7_isFlown_33 : decode cX7_isFlown 33 = .ok (.istore 4, 2) := by decide +kernel
theorem dX7_isFlown_35 : decode cX7_isFlown 35 = .ok (.aload_n 0, 1) := by decide +kernel
theorem dX7_isFlown_36 : decode cX7_isFlown 36 = .ok (.getfield 25, 3) := by decide +kernel
theorem dX7_isFlown_39 : decode cX7_isFlown 39 = .ok (.bipush 9, 2) := by decide +kernel
theorem dX7_isFlown_41 : decode cX7_isFlown 41 = .ok (.imul, 1) := by decide +kernel
theorem dX7_isFlown_42 : decode cX7_isFlown 42 = .ok (.iload_n 3, 1) := by decide +kernel
theorem dX7_isFlown_43 : decode cX7_isFlown 43 = .ok (.iadd, 1) := by decide +kernel
theorem dX7_isFlown_44 : decode cX7_isFlown 44 = .ok (.istore 5, 2) := by decide +kernel
theorem dX7_isFlown_46 : decode cX7_isFlown 46 = .ok (.iload 4, 2) := by decide +kernel
theorem dX7_isFlown_48 : decode cX7_isFlown 48 = .ok (.iconst (-1), 1) := by decide +kernel
theorem dX7_isFlown_49 : decode cX7_isFlown 49 = .ok (.if_icmp .eq 18, 3) := by decide +kernel
theorem dX7_isFlown_52 : decode cX7_isFlown 52 = .ok (.iload 5, 2) := by decide +kernel
theorem dX7_isFlown_54 : decode cX7_isFlown 54 = .ok (.ifCond .lt 13, 3) := by decide +kernel
theorem dX7_isFlown_57 : decode cX7_isFlown 57 = .ok (.iload 5, 2) := by decide +kernel
theorem dX7_isFlown_59 : decode cX7_isFlown 59 = .ok (.aload_n 0, 1) := by decide +kernel
theorem dX7_isFlown_60 : decode cX7_isFlown 60 = .ok (.getfield 28, 3) := by decide +kernel
theorem dX7_isFlown_63 : decode cX7_isFlown 63 = .ok (.arraylength, 1) := by decide +kernel
theorem dX7_isFlown_64 : decode cX7_isFlown 64 = .ok (.if_icmp .lt 5, 3) := by decide +kernel
theorem dX7_isFlown_67 : decode cX7_isFlown 67 = .ok (.iconst 0, 1) := by decide +kernel
theorem dX7_isFlown_68 : decode cX7_isFlown 68 = .ok (.ireturn, 1) := by decide +kernel
theorem dX7_isFlown_69 : decode cX7_isFlown 69 = .ok (.aload_n 0, 1) := by decide +kernel
theorem dX7_isFlown_70 : decode cX7_isFlown 70 = .ok (.getfield 28, 3) := by decide +kernel
theorem dX7_isFlown_73 : decode cX7_isFlown 73 = .ok (.iload 5, 2) := by decide +kernel
theorem dX7_isFlown_75 : decode cX7_isFlown 75 = .ok (.aload_n 0, 1) := by decide +kernel
theorem dX7_isFlown_76 : decode cX7_isFlown 76 = .ok (.getfield 37, 3) := by decide +kernel
theorem dX7_isFlown_79 : decode cX7_isFlown 79 = .ok (.iload 4, 2) := by decide +kernel
theorem dX7_isFlown_81 : decode cX7_isFlown 81 = .ok (.invokevirtual 90, 3) := by decide +kernel
theorem dX7_isFlown_84 : decode cX7_isFlown 84 = .ok (.iastore, 1) := by decide +kernel
theorem dX7_isFlown_85 : decode cX7_isFlown 85 = .ok (.iinc 3 1, 3) := by decide +kernel
theorem dX7_isFlown_88 : decode cX7_isFlown 88 = .ok (.goto (-86), 3) := by decide +kernel
theorem dX7_isFlown_91 : decode cX7_isFlown 91 = .ok (.iconst 1, 1) := by decide +kernel
theorem dX7_isFlown_92 : decode cX7_isFlown 92 = .ok (.ireturn, 1) := by decide +kernel
theorem dX7_areTwins_0 : decode cX7_areTwins 0 = .ok (.iconst 0, 1) := by decide +kernel
theorem dX7_areTwins_1 : decode cX7_areTwins 1 = .ok (.istore_n 3, 1) := by decide +kernel
theorem dX7_areTwins_2 : decode cX7_areTwins 2 = .ok (.iload_n 3, 1) := by decide +kernel
theorem dX7_areTwins_3 : decode cX7_areTwins 3 = .ok (.aload_n 0, 1) := by decide +kernel
theorem dX7_areTwins_4 : decode cX7_areTwins 4 = .ok (.getfield 18, 3) := by decide +kernel
theorem dX7_areTwins_7 : decode cX7_areTwins 7 = .ok (.if_icmp .gt 83, 3) := by decide +kernel
theorem dX7_areTwins_10 : decode cX7_areTwins 10 = .ok (.iload_n 1, 1) := by decide +kernel
theorem dX7_areTwins_11 : decode cX7_areTwins 11 = .ok (.bipush 9, 2) := by decide +kernel
theorem dX7_areTwins_13 : decode cX7_areTwins 13 = .ok (.imul, 1) := by decide +kernel
theorem dX7_areTwins_14 : decode cX7_areTwins 14 = .ok (.iload_n 3, 1) := by decide +kernel
theorem dX7_areTwins_15 : decode cX7_areTwins 15 = .ok (.iadd, 1) := by decide +kernel
theorem dX7_areTwins_16 : decode cX7_areTwins 16 = .ok (.istore 4, 2) := by decide +kernel
theorem dX7_areTwins_18 : decode cX7_areTwins 18 = .ok (.iload_n 2, 1) := by decide +kernel
theorem dX7_areTwins_19 : decode cX7_areTwins 19 = .ok (.bipush 9, 2) := by decide +kernel
theorem dX7_areTwins_21 : decode cX7_areTwins 21 = .ok (.imul, 1) := by decide +kernel
theorem dX7_areTwins_22 : decode cX7_areTwins 22 = .ok (.iload_n 3, 1) := by decide +kernel
theorem dX7_areTwins_23 : decode cX7_areTwins 23 = .ok (.iadd, 1) := by decide +kernel
theorem dX7_areTwins_24 : decode cX7_areTwins 24 = .ok (.istore 5, 2) := by decide +kernel
theorem dX7_areTwins_26 : decode cX7_areTwins 26 = .ok (.iload 4, 2) := by decide +kernel
theorem dX7_areTwins_28 : decode cX7_areTwins 28 = .ok (.ifCond .lt 28, 3) := by decide +kernel
theorem dX7_areTwins_31 : decode cX7_areTwins 31 = .ok (.iload 4, 2) := by decide +kernel
theorem dX7_areTwins_33 : decode cX7_areTwins 33 = .ok (.aload_n 0, 1) := by decide +kernel
theorem dX7_areTwins_34 : decode cX7_areTwins 34 = .ok (.getfield 28, 3) := by decide +kernel
theorem dX7_areTwins_37 : decode cX7_areTwins 37 = .ok (.arraylength, 1) := by decide +kernel
theorem dX7_areTwins_38 : decode cX7_areTwins 38 = .ok (.if_icmp .ge 18, 3) := by decide +kernel
theorem dX7_areTwins_41 : decode cX7_areTwins 41 = .ok (.iload 5, 2) := by decide +kernel
theorem dX7_areTwins_43 : decode cX7_areTwins 43 = .ok (.ifCond .lt 13, 3) := by decide +kernel
theorem dX7_areTwins_46 : decode cX7_areTwins 46 = .ok (.iload 5, 2) := by decide +kernel
theorem dX7_areTwins_48 : decode cX7_areTwins 48 = .ok (.aload_n 0, 1) := by decide +kernel
theorem dX7_areTwins_49 : decode cX7_areTwins 49 = .ok (.getfield 28, 3) := by decide +kernel
theorem dX7_areTwins_52 : decode cX7_areTwins 52 = .ok (.arraylength, 1) := by decide +kernel
theorem dX7_areTwins_53 : decode cX7_areTwins 53 = .ok (.if_icmp .lt 5, 3) := by decide +kernel
theorem dX7_areTwins_56 : decode cX7_areTwins 56 = .ok (.iconst 0, 1) := by decide +kernel
theorem dX7_areTwins_57 : decode cX7_areTwins 57 = .ok (.ireturn, 1) := by decide +kernel
theorem dX7_areTwins_58 : decode cX7_areTwins 58 = .ok (.aload_n 0, 1) := by decide +kernel
theorem dX7_areTwins_59 : decode cX7_areTwins 59 = .ok (.getfield 41, 3) := by decide +kernel
theorem dX7_areTwins_62 : decode cX7_areTwins 62 = .ok (.aload_n 0, 1) := by decide +kernel
theorem dX7_areTwins_63 : decode cX7_areTwins 63 = .ok (.getfield 28, 3) := by decide +kernel
theorem dX7_areTwins_66 : decode cX7_areTwins 66 = .ok (.iload 4, 2) := by decide +kernel
theorem dX7_areTwins_68 : decode cX7_areTwins 68 = .ok (.iaload, 1) := by decide +kernel
theorem dX7_areTwins_69 : decode cX7_areTwins 69 = .ok (.aload_n 0, 1) := by decide +kernel
theorem dX7_areTwins_70 : decode cX7_areTwins 70 = .ok (.getfield 28, 3) := by decide +kernel
theorem dX7_areTwins_73 : decode cX7_areTwins 73 = .ok (.iload 5, 2) := by decide +kernel
theorem dX7_areTwins_75 : decode cX7_areTwins 75 = .ok (.iaload, 1) := by decide +kernel
theorem dX7_areTwins_76 : decode cX7_areTwins 76 = .ok (.invokevirtual 93, 3) := by decide +kernel
theorem dX7_areTwins_79 : decode cX7_areTwins 79 = .ok (.ifCond .ne 5, 3) := by decide +kernel
theorem dX7_areTwins_82 : decode cX7_areTwins 82 = .ok (.iconst 0, 1) := by decide +kernel
theorem dX7_areTwins_83 : decode cX7_areTwins 83 = .ok (.ireturn, 1) := by decide +kernel
theorem dX7_areTwins_84 : decode cX7_areTwins 84 = .ok (.iinc 3 1, 3) := by decide +kernel
theorem dX7_areTwins_87 : decode cX7_areTwins 87 = .ok (.goto (-85), 3) := by decide +kernel
theorem dX7_areTwins_90 : decode cX7_areTwins 90 = .ok (.iconst 1, 1) := by decide +kernel
theorem dX7_areTwins_91 : decode cX7_areTwins 91 = .ok (.ireturn, 1) := by decide +kernel
theorem dX8_init_0 : decode cX8_init 0 = .ok (.aload_n 0, 1) := by decide +kernel
theorem dX8_init_1 : decode cX8_init 1 = .ok (.invokespecial 1, 3) := by decide +kernel
theorem dX8_init_4 : decode cX8_init 4 = .ok (.aload_n 0, 1) := by decide +kernel
theorem dX8_init_5 : decode cX8_init 5 = .ok (.new 7, 3) := by decide +kernel
theorem dX8_init_8 : decode cX8_init 8 = .ok (.dup, 1) := by decide +kernel
theorem dX8_init_9 : decode cX8_init 9 = .ok (.invokespecial 9, 3) := by decide +kernel
theorem dX8_init_12 : decode cX8_init 12 = .ok (.putfield 10, 3) := by decide +kernel
theorem dX8_init_15 : decode cX8_init 15 = .ok (.aload_n 0, 1) := by decide +kernel
theorem dX8_init_16 : decode cX8_init 16 = .ok (.new 16, 3) := by decide +kernel
theorem dX8_init_19 : decode cX8_init 19 = .ok (.dup, 1) := by decide +kernel
theorem dX8_init_20 : decode cX8_init 20 = .ok (.invokespecial 18, 3) := by decide +kernel
theorem dX8_init_23 : decode cX8_init 23 = .ok (.putfield 19, 3) := by decide +kernel
theorem dX8_init_26 : decode cX8_init 26 = .ok (.aload_n 0, 1) := by decide +kernel
theorem dX8_init_27 : decode cX8_init 27 = .ok (.new 23, 3) := by decide +kernel
theorem dX8_init_30 : decode cX8_init 30 = .ok (.dup, 1) := by decide +kernel
theorem dX8_init_31 : decode cX8_init 31 = .ok (.invokespecial 25, 3) := by decide +kernel
theorem dX8_init_34 : decode cX8_init 34 = .ok (.putfield 26, 3) := by decide +kernel
theorem dX8_init_37 : decode cX8_init 37 = .ok (.aload_n 0, 1) := by decide +kernel
theorem dX8_init_38 : decode cX8_init 38 = .ok (.new 30, 3) := by decide +kernel
theorem dX8_init_41 : decode cX8_init 41 = .ok (.dup, 1) := by decide +kernel
theorem dX8_init_42 : decode cX8_init 42 = .ok (.invokespecial 32, 3) := by decide +kernel
theorem dX8_init_45 : decode cX8_init 45 = .ok (.putfield 33, 3) := by decide +kernel
theorem dX8_init_48 : decode cX8_init 48 = .ok (.aload_n 0, 1) := by decide +kernel
theorem dX8_init_49 : decode cX8_init 49 = .ok (.new 37, 3) := by decide +kernel
theorem dX8_init_52 : decode cX8_init 52 = .ok (.dup, 1) := by decide +kernel
theorem dX8_init_53 : decode cX8_init 53 = .ok (.aload_n 0, 1) := by decide +kernel
theorem dX8_init_54 : decode cX8_init 54 = .ok (.getfield 19, 3) := by decide +kernel
theorem dX8_init_57 : decode cX8_init 57 = .ok (.aload_n 0, 1) := by decide +kernel
theorem dX8_init_58 : decode cX8_init 58 = .ok (.getfield 26, 3) := by decide +kernel
theorem dX8_init_61 : decode cX8_init 61 = .ok (.invokespecial 39, 3) := by decide +kernel
theorem dX8_init_64 : decode cX8_init 64 = .ok (.putfield 42, 3) := by decide +kernel
theorem dX8_init_67 : decode cX8_init 67 = .ok (.aload_n 0, 1) := by decide +kernel
theorem dX8_init_68 : decode cX8_init 68 = .ok (.new 46, 3) := by decide +kernel
theorem dX8_init_71 : decode cX8_init 71 = .ok (.dup, 1) := by decide +kernel
theorem dX8_init_72 : decode cX8_init 72 = .ok (.aload_n 0, 1) := by decide +kernel
theorem dX8_init_73 : decode cX8_init 73 = .ok (.getfield 19, 3) := by decide +kernel
theorem dX8_init_76 : decode cX8_init 76 = .ok (.aload_n 0, 1) := by decide +kernel
theorem dX8_init_77 : decode cX8_init 77 = .ok (.getfield 26, 3) := by decide +kernel
theorem dX8_init_80 : decode cX8_init 80 = .ok (.aload_n 0, 1) := by decide +kernel
theorem dX8_init_81 : decode cX8_init 81 = .ok (.getfield 33, 3) := by decide +kernel
theorem dX8_init_84 : decode cX8_init 84 = .ok (.invokespecial 48, 3) := by decide +kernel
theorem dX8_init_87 : decode cX8_init 87 = .ok (.putfield 51, 3) := by decide +kernel
theorem dX8_init_90 : decode cX8_init 90 = .ok (.aload_n 0, 1) := by decide +kernel
theorem dX8_init_91 : decode cX8_init 91 = .ok (.new 55, 3) := by decide +kernel
theorem dX8_init_94 : decode cX8_init 94 = .ok (.dup, 1) := by decide +kernel
theorem dX8_init_95 : decode cX8_init 95 = .ok (.aload_n 0, 1) := by decide +kernel
theorem dX8_init_96 : decode cX8_init 96 = .ok (.getfield 19, 3) := by decide +kernel
theorem dX8_init_99 : decode cX8_init 99 = .ok (.aload_n 0, 1) := by decide +kernel
theorem dX8_init_100 : decode cX8_init 100 = .ok (.getfield 26, 3) := by decide +kernel
theorem dX8_init_103 : decode cX8_init 103 = .ok (.aload_n 0, 1) := by decide +kernel
theorem dX8_init_104 : decode cX8_init 104 = .ok (.getfield 33, 3) := by decide +kernel
theorem dX8_init_107 : decode cX8_init 107 = .ok (.invokespecial 57, 3) := by decide +kernel
theorem dX8_init_110 : decode cX8_init 110 = .ok (.putfield 58, 3) := by decide +kernel
theorem dX8_init_113 : decode cX8_init 113 = .ok (.aload_n 0, 1) := by decide +kernel
theorem dX8_init_114 : decode cX8_init 114 = .ok (.new 62, 3) := by decide +kernel
theorem dX8_init_117 : decode cX8_init 117 = .ok (.dup, 1) := by decide +kernel
theorem dX8_init_118 : decode cX8_init 118 = .ok (.aload_n 0, 1) := by decide +kernel
theorem dX8_init_119 : decode cX8_init 119 = .ok (.getfield 19, 3) := by decide +kernel
theorem dX8_init_122 : decode cX8_init 122 = .ok (.aload_n 0, 1) := by decide +kernel
theorem dX8_init_123 : decode cX8_init 123 = .ok (.getfield 26, 3) := by decide +kernel
theorem dX8_init_126 : decode cX8_init 126 = .ok (.aload_n 0, 1) := by decide +kernel
theorem dX8_init_127 : decode cX8_init 127 = .ok (.getfield 10, 3) := by decide +kernel
theorem dX8_init_130 : decode cX8_init 130 = .ok (.invokespecial 64, 3) := by decide +kernel
theorem dX8_init_133 : decode cX8_init 133 = .ok (.putfield 67, 3) := by decide +kernel
theorem dX8_init_136 : decode cX8_init 136 = .ok (.aload_n 0, 1) := by decide +kernel
theorem dX8_init_137 : decode cX8_init 137 = .ok (.getfield 51, 3) := by decide +kernel
theorem dX8_init_140 : decode cX8_init 140 = .ok (.iconst (-1), 1) := by decide +kernel
theorem dX8_init_141 : decode cX8_init 141 = .ok (.invokevirtual 71, 3) := by decide +kernel
theorem dX8_init_144 : decode cX8_init 144 = .ok (.return_, 1) := by decide +kernel
theorem dX8_feed_0 : decode cX8_feed 0 = .ok (.aload_n 0, 1) := by decide +kernel
theorem dX8_feed_1 : decode cX8_feed 1 = .ok (.getfield 10, 3) := by decide +kernel
theorem dX8_feed_4 : decode cX8_feed 4 = .ok (.invokevirtual 75, 3) := by decide +kernel
theorem dX8_feed_7 : decode cX8_feed 7 = .ok (.bipush 20, 2) := by decide +kernel
theorem dX8_feed_9 : decode cX8_feed 9 = .ok (.iadd, 1) := by decide +kernel
theorem dX8_feed_10 : decode cX8_feed 10 = .ok (.sipush 160, 3) := by decide +kernel
theorem dX8_feed_13 : decode cX8_feed 13 = .ok (.if_icmp .le 5, 3) := by decide +kernel
theorem dX8_feed_16 : decode cX8_feed 16 = .ok (.iconst (-1), 1) := by decide +kernel
theorem dX8_feed_17 : decode cX8_feed 17 = .ok (.ireturn, 1) := by decide +kernel
theorem dX8_feed_18 : decode cX8_feed 18 = .ok (.aload_n 0, 1) := by decide +kernel
theorem dX8_feed_19 : decode cX8_feed 19 = .ok (.getfield 10, 3) := by decide +kernel
theorem dX8_feed_22 : decode cX8_feed 22 = .ok (.iload_n 1, 1) := by decide +kernel
theorem dX8_feed_23 : decode cX8_feed 23 = .ok (.invokevirtual 79, 3) := by decide +kernel
theorem dX8_feed_26 : decode cX8_feed 26 = .ok (.aload_n 0, 1) := by decide +kernel
theorem dX8_feed_27 : decode cX8_feed 27 = .ok (.getfield 10, 3) := by decide +kernel
theorem dX8_feed_30 : decode cX8_feed 30 = .ok (.iload_n 2, 1) := by decide +kernel
theorem dX8_feed_31 : decode cX8_feed 31 = .ok (.invokevirtual 79, 3) := by decide +kernel
theorem dX8_feed_34 : decode cX8_feed 34 = .ok (.aload_n 0, 1) := by decide +kernel
theorem dX8_feed_35 : decode cX8_feed 35 = .ok (.getfield 10, 3) := by decide +kernel
theorem dX8_feed_38 : decode cX8_feed 38 = .ok (.iload_n 3, 1) := by decide +kernel
theorem dX8_feed_39 : decode cX8_feed 39 = .ok (.invokevirtual 79, 3) := by decide +kernel
theorem dX8_feed_42 : decode cX8_feed 42 = .ok (.aload_n 0, 1) := by decide +kernel
theorem dX8_feed_43 : decode cX8_feed 43 = .ok (.getfield 10, 3) := by decide +kernel
theorem dX8_feed_46 : decode cX8_feed 46 = .ok (.iload 4, 2) := by decide +kernel
theorem dX8_feed_48 : decode cX8_feed 48 = .ok (.invokevirtual 79, 3) := by decide +kernel
theorem dX8_feed_51 : decode cX8_feed 51 = .ok (.aload_n 0, 1) := by decide +kernel
theorem dX8_feed_52 : decode cX8_feed 52 = .ok (.getfield 10, 3) := by decide +kernel
theorem dX8_feed_55 : decode cX8_feed 55 = .ok (.iload 5, 2) := by decide +kernel
theorem dX8_feed_57 : decode cX8_feed 57 = .ok (.invokevirtual 79, 3) := by decide +kernel
theorem dX8_feed_60 : decode cX8_feed 60 = .ok (.aload_n 0, 1) := by decide +kernel
theorem dX8_feed_61 : decode cX8_feed 61 = .ok (.getfield 10, 3) := by decide +kernel
theorem dX8_feed_64 : decode cX8_feed 64 = .ok (.invokevirtual 75, 3) := by decide +kernel
theorem dX8_feed_67 : decode cX8_feed 67 = .ok (.ireturn, 1) := by decide +kernel
theorem dX8_end_0 : decode cX8_end 0 = .ok (.aload_n 0, 1) := by decide +kernel
theorem dX8_end_1 : decode cX8_end 1 = .ok (.getfield 10, 3) := by decide +kernel
theorem dX8_end_4 : decode cX8_end 4 = .ok (.iload_n 1, 1) := by decide +kernel
theorem dX8_end_5 : decode cX8_end 5 = .ok (.invokevirtual 82, 3) := by decide +kernel
theorem dX8_end_8 : decode cX8_end 8 = .ok (.ireturn, 1) := by decide +kernel
theorem dX8_map_0 : decode cX8_map 0 = .ok (.aload_n 0, 1) := by decide +kernel
theorem dX8_map_1 : decode cX8_map 1 = .ok (.getfield 19, 3) := by decide +kernel
theorem dX8_map_4 : decode cX8_map 4 = .ok (.iload_n 1, 1) := by decide +kernel
theorem dX8_map_5 : decode cX8_map 5 = .ok (.iload_n 2, 1) := by decide +kernel
theorem dX8_map_6 : decode cX8_map 6 = .ok (.aload_n 0, 1) := by decide +kernel
theorem dX8_map_7 : decode cX8_map 7 = .ok (.getfield 10, 3) := by decide +kernel
theorem dX8_map_10 : decode cX8_map 10 = .ok (.invokevirtual 86, 3) := by decide +kernel
theorem dX8_map_13 : decode cX8_map 13 = .ok (.istore_n 3, 1) := by decide +kernel
theorem dX8_map_14 : decode cX8_map 14 = .ok (.aload_n 0, 1) := by decide +kernel
theorem dX8_map_15 : decode cX8_map 15 = .ok (.getfield 10, 3) := by decide +kernel
theorem dX8_map_18 : decode cX8_map 18 = .ok (.iconst 0, 1) := by decide +kernel
theorem dX8_map_19 : decode cX8_map 19 = .ok (.invokevirtual 82, 3) := by decide +kernel
theorem dX8_map_22 : decode cX8_map 22 = .ok (.pop, 1) := by decide +kernel
theorem dX8_map_23 : decode cX8_map 23 = .ok (.iload_n 3, 1) := by decide +kernel
theorem dX8_map_24 : decode cX8_map 24 = .ok (.ifCond .eq 25, 3) := by decide +kernel
theorem dX8_map_27 : decode cX8_map 27 = .ok (.aload_n 0, 1) := by decide +kernel
theorem dX8_map_28 : decode cX8_map 28 = .ok (.getfield 42, 3) := by decide +kernel
theorem dX8_map_31 : decode cX8_map 31 = .ok (.invokevirtual 90, 3) := by decide +kernel
theorem dX8_map_34 : decode cX8_map 34 = .ok (.aload_n 0, 1) := by decide +kernel
theorem dX8_map_35 : decode cX8_map 35 = .ok (.getfield 51, 3) := by decide +kernel
theorem dX8_map_38 : decode cX8_map 38 = .ok (.iconst (-1), 1) := by decide +kernel
theorem dX8_map_39 : decode cX8_map 39 = .ok (.invokevirtual 71, 3) := by decide +kernel
theorem dX8_map_42 : decode cX8_map 42 = .ok (.aload_n 0, 1) := by decide +kernel
theorem dX8_map_43 : decode cX8_map 43 = .ok (.getfield 51, 3) := by decide +kernel
theorem dX8_map_46 : decode cX8_map 46 = .ok (.invokevirtual 93, 3) := by decide +kernel
theorem dX8_map_49 : decode cX8_map 49 = .ok (.iload_n 3, 1) := by decide +kernel
theorem dX8_map_50 : decode cX8_map 50 = .ok (.ireturn, 1) := by decide +kernel
theorem dX8_meter_0 : decode cX8_meter 0 = .ok (.aload_n 0, 1) := by decide +kernel
theorem dX8_meter_1 : decode cX8_meter 1 = .ok (.getfield 26, 3) := by decide +kernel
theorem dX8_meter_4 : decode cX8_meter 4 = .ok (.iload_n 1, 1) := by decide +kernel
theorem dX8_meter_5 : decode cX8_meter 5 = .ok (.iload_n 2, 1) := by decide +kernel
theorem dX8_meter_6 : decode cX8_meter 6 = .ok (.iload_n 3, 1) := by decide +kernel
theorem dX8_meter_7 : decode cX8_meter 7 = .ok (.invokevirtual 96, 3) := by decide +kernel
theorem dX8_meter_10 : decode cX8_meter 10 = .ok (.ireturn, 1) := by decide +kernel
theorem dX8_begin_0 : decode cX8_begin 0 = .ok (.iload_n 1, 1) := by decide +kernel
theorem dX8_begin_1 : decode cX8_begin 1 = .ok (.iconst (-1), 1) := by decide +kernel
theorem dX8_begin_2 : decode cX8_begin 2 = .ok (.if_icmp .eq 16, 3) := by decide +kernel
theorem dX8_begin_5 : decode cX8_begin 5 = .ok (.aload_n 0, 1) := by decide +kernel
theorem dX8_begin_6 : decode cX8_begin 6 = .ok (.getfield 19, 3) := by decide +kernel
theorem dX8_begin_9 : decode cX8_begin 9 = .ok (.iload_n 1, 1) := by decide +kernel
theorem dX8_begin_10 : decode cX8_begin 10 = .ok (.invokevirtual 100, 3) := by decide +kernel
theorem dX8_begin_13 : decode cX8_begin 13 = .ok (.ifCond .ne 5, 3) := by decide +kernel
theorem dX8_begin_16 : decode cX8_begin 16 = .ok (.iconst 0, 1) := by decide +kernel
theorem dX8_begin_17 : decode cX8_begin 17 = .ok (.ireturn, 1) := by decide +kernel
theorem dX8_begin_18 : decode cX8_begin 18 = .ok (.aload_n 0, 1) := by decide +kernel
theorem dX8_begin_19 : decode cX8_begin 19 = .ok (.getfield 51, 3) := by decide +kernel
theorem dX8_begin_22 : decode cX8_begin 22 = .ok (.iload_n 1, 1) := by decide +kernel
theorem dX8_begin_23 : decode cX8_begin 23 = .ok (.invokevirtual 71, 3) := by decide +kernel
theorem dX8_begin_26 : decode cX8_begin 26 = .ok (.iconst 1, 1) := by decide +kernel
theorem dX8_begin_27 : decode cX8_begin 27 = .ok (.ireturn, 1) := by decide +kernel
theorem dX8_move_0 : decode cX8_move 0 = .ok (.iload_n 1, 1) := by decide +kernel
theorem dX8_move_1 : decode cX8_move 1 = .ok (.iload_n 2, 1) := by decide +kernel
theorem dX8_move_2 : decode cX8_move 2 = .ok (.invokestatic 103, 3) := by decide +kernel
theorem dX8_move_5 : decode cX8_move 5 = .ok (.ifCond .eq 15, 3) := by decide +kernel
theorem dX8_move_8 : decode cX8_move 8 = .ok (.aload_n 0, 1) := by decide +kernel
theorem dX8_move_9 : decode cX8_move 9 = .ok (.getfield 33, 3) := by decide +kernel
theorem dX8_move_12 : decode cX8_move 12 = .ok (.invokevirtual 107, 3) := by decide +kernel
theorem dX8_move_15 : decode cX8_move 15 = .ok (.bipush 12, 2) := by decide +kernel
theorem dX8_move_17 : decode cX8_move 17 = .ok (.if_icmp .lt 5, 3) := by decide +kernel
theorem dX8_move_20 : decode cX8_move 20 = .ok (.iconst (-1), 1) := by decide +kernel
theorem dX8_move_21 : decode cX8_move 21 = .ok (.ireturn, 1) := by decide +kernel
theorem dX8_move_22 : decode cX8_move 22 = .ok (.aload_n 0, 1) := by decide +kernel
theorem dX8_move_23 : decode cX8_move 23 = .ok (.getfield 51, 3) := by decide +kernel
theorem dX8_move_26 : decode cX8_move 26 = .ok (.iload_n 1, 1) := by decide +kernel
theorem dX8_move_27 : decode cX8_move 27 = .ok (.iload_n 2, 1) := by decide +kernel
theorem dX8_move_28 : decode cX8_move 28 = .ok (.invokevirtual 110, 3) := by decide +kernel
theorem dX8_move_31 : decode cX8_move 31 = .ok (.ifCond .eq 13, 3) := by decide +kernel
theorem dX8_move_34 : decode cX8_move 34 = .ok (.aload_n 0, 1) := by decide +kernel
theorem dX8_move_35 : decode cX8_move 35 = .ok (.getfield 51, 3) := by decide +kernel
theorem dX8_move_38 : decode cX8_move 38 = .ok (.invokevirtual 113, 3) := by decide +kernel
theorem dX8_move_41 : decode cX8_move 41 = .ok (.goto 5, 3) := by decide +kernel
theorem dX8_move_44 : decode cX8_move 44 = .ok (.bipush (-2), 2) := by decide +kernel
theorem dX8_move_46 : decode cX8_move 46 = .ok (.ireturn, 1) := by decide +kernel
theorem dX8_read_0 : decode cX8_read 0 = .ok (.iload_n 1, 1) := by decide +kernel
theorem dX8_read_1 : decode cX8_read 1 = .ok (.invokestatic 116, 3) := by decide +kernel
theorem dX8_read_4 : decode cX8_read 4 = .ok (.ifCond .eq 15, 3) := by decide +kernel
theorem dX8_read_7 : decode cX8_read 7 = .ok (.aload_n 0, 1) := by decide +kernel
theorem dX8_read_8 : decode cX8_read 8 = .ok (.getfield 33, 3) := by decide +kernel
theorem dX8_read_11 : decode cX8_read 11 = .ok (.invokevirtual 119, 3) := by decide +kernel
theorem dX8_read_14 : decode cX8_read 14 = .ok (.bipush 40, 2) := by decide +kernel
theorem dX8_read_16 : decode cX8_read 16 = .ok (.if_icmp .lt 5, 3) := by decide +kernel
theorem dX8_read_19 : decode cX8_read 19 = .ok (.iconst (-1), 1) := by decide +kernel
theorem dX8_read_20 : decode cX8_read 20 = .ok (.ireturn, 1) := by decide +kernel
theorem dX8_read_21 : decode cX8_read 21 = .ok (.aload_n 0, 1) := by decide +kernel
theorem dX8_read_22 : decode cX8_read 22 = .ok (.getfield 51, 3) := by decide +kernel
theorem dX8_read_25 : decode cX8_read 25 = .ok (.iload_n 1, 1) := by decide +kernel
theorem dX8_read_26 : decode cX8_read 26 = .ok (.invokevirtual 122, 3) := by decide +kernel
theorem dX8_read_29 : decode cX8_read 29 = .ok (.ifCond .eq 13, 3) := by decide +kernel
theorem dX8_read_32 : decode cX8_read 32 = .ok (.aload_n 0, 1) := by decide +kernel
theorem dX8_read_33 : decode cX8_read 33 = .ok (.getfield 51, 3) := by decide +kernel
theorem dX8_read_36 : decode cX8_read 36 = .ok (.invokevirtual 113, 3) := by decide +kernel
theorem dX8_read_39 : decode cX8_read 39 = .ok (.goto 5, 3) := by decide +kernel
theorem dX8_read_42 : decode cX8_read 42 = .ok (.bipush (-2), 2) := by decide +kernel
theorem dX8_read_44 : decode cX8_read 44 = .ok (.ireturn, 1) := by decide +kernel
theorem dX8_share_0 : decode cX8_share 0 = .ok (.aload_n 0, 1) := by decide +kernel
theorem dX8_share_1 : decode cX8_share 1 = .ok (.getfield 19, 3) := by decide +kernel
theorem dX8_share_4 : decode cX8_share 4 = .ok (.iload_n 1, 1) := by decide +kernel
theorem dX8_share_5 : decode cX8_share 5 = .ok (.invokevirtual 100, 3) := by decide +kernel
theorem dX8_share_8 : decode cX8_share 8 = .ok (.ifCond .eq 12, 3) := by decide +kernel
theorem dX8_share_11 : decode cX8_share 11 = .ok (.iload_n 2, 1) := by decide +kernel
theorem dX8_share_12 : decode cX8_share 12 = .ok (.ifCond .lt 8, 3) := by decide +kernel
theorem dX8_share_15 : decode cX8_share 15 = .ok (.iload_n 2, 1) := by decide +kernel
theorem dX8_share_16 : decode cX8_share 16 = .ok (.iconst 1, 1) := by decide +kernel
theorem dX8_share_17 : decode cX8_share 17 = .ok (.if_icmp .le 11, 3) := by decide +kernel
theorem dX8_share_20 : decode cX8_share 20 = .ok (.new 125, 3) := by decide +kernel
theorem dX8_share_23 : decode cX8_share 23 = .ok (.dup, 1) := by decide +kernel
theorem dX8_share_24 : decode cX8_share 24 = .ok (.invokespecial 127, 3) := by decide +kernel
theorem dX8_share_27 : decode cX8_share 27 = .ok (.athrow, 1) := by decide +kernel
theorem dX8_share_28 : decode cX8_share 28 = .ok (.aload_n 0, 1) := by decide +kernel
theorem dX8_share_29 : decode cX8_share 29 = .ok (.getfield 51, 3) := by decide +kernel
theorem dX8_share_32 : decode cX8_share 32 = .ok (.iload_n 1, 1) := by decide +kernel
theorem dX8_share_33 : decode cX8_share 33 = .ok (.invokevirtual 128, 3) := by decide +kernel
theorem dX8_share_36 : decode cX8_share 36 = .ok (.lstore_n 3, 1) := by decide +kernel
theorem dX8_share_37 : decode cX8_share 37 = .ok (.aload_n 0, 1) := by decide +kernel
theorem dX8_share_38 : decode cX8_share 38 = .ok (.getfield 51, 3) := by decide +kernel
theorem dX8_share_41 : decode cX8_share 41 = .ok (.invokevirtual 132, 3) := by decide +kernel
theorem dX8_share_44 : decode cX8_share 44 = .ok (.lstore 5, 2) := by decide +kernel
theorem dX8_share_46 : decode cX8_share 46 = .ok (.lload_n 3, 1) := by decide +kernel
theorem dX8_share_47 : decode cX8_share 47 = .ok (.lload 5, 2) := by decide +kernel
theorem dX8_share_49 : decode cX8_share 49 = .ok (.invokestatic 136, 3) := by decide +kernel
theorem dX8_share_52 : decode cX8_share 52 = .ok (.lstore 7, 2) := by decide +kernel
theorem dX8_share_54 : decode cX8_share 54 = .ok (.iload_n 2, 1) := by decide +kernel
theorem dX8_share_55 : decode cX8_share 55 = .ok (.ifCond .ne 10, 3) := by decide +kernel
theorem dX8_share_58 : decode cX8_share 58 = .ok (.lload_n 3, 1) := by decide +kernel
theorem dX8_share_59 : decode cX8_share 59 = .ok (.lload 7, 2) := by decide +kernel
theorem dX8_share_61 : decode cX8_share 61 = .ok (.ldiv, 1) := by decide +kernel
theorem dX8_share_62 : decode cX8_share 62 = .ok (.goto 8, 3) := by decide +kernel
theorem dX8_share_65 : decode cX8_share 65 = .ok (.lload 5, 2) := by decide +kernel
theorem dX8_share_67 : decode cX8_share 67 = .ok (.lload 7, 2) := by decide +kernel
theorem dX8_share_69 : decode cX8_share 69 = .ok (.ldiv, 1) := by decide +kernel
theorem dX8_share_70 : decode cX8_share 70 = .ok (.lreturn, 1) := by decide +kernel
theorem dX8_likely_0 : decode cX8_likely 0 = .ok (.aload_n 0, 1) := by decide +kernel
theorem dX8_likely_1 : decode cX8_likely 1 = .ok (.getfield 51, 3) := by decide +kernel
theorem dX8_likely_4 : decode cX8_likely 4 = .ok (.invokevirtual 140, 3) := by decide +kernel
theorem dX8_likely_7 : decode cX8_likely 7 = .ok (.ireturn, 1) := by decide +kernel
theorem dX8_span_0 : decode cX8_span 0 = .ok (.iload_n 1, 1) := by decide +kernel
theorem dX8_span_1 : decode cX8_span 1 = .ok (.iconst 4, 1) := by decide +kernel
theorem dX8_span_2 : decode cX8_span 2 = .ok (.if_icmp .ne 11, 3) := by decide +kernel
theorem dX8_span_5 : decode cX8_span 5 = .ok (.aload_n 0, 1) := by decide +kernel
theorem dX8_span_6 : decode cX8_span 6 = .ok (.getfield 51, 3) := by decide +kernel
theorem dX8_span_9 : decode cX8_span 9 = .ok (.invokevirtual 113, 3) := by decide +kernel
theorem dX8_span_12 : decode cX8_span 12 = .ok (.ireturn, 1) := by decide +kernel
theorem dX8_span_13 : decode cX8_span 13 = .ok (.aload_n 0, 1) := by decide +kernel
theorem dX8_span_14 : decode cX8_span 14 = .ok (.getfield 51, 3) := by decide +kernel
theorem dX8_span_17 : decode cX8_span 17 = .ok (.iload_n 1, 1) := by decide +kernel
theorem dX8_span_18 : decode cX8_span 18 = .ok (.invokevirtual 143, 3) := by decide +kernel
theorem dX8_span_21 : decode cX8_span 21 = .ok (.ireturn, 1) := by decide +kernel
theorem dX8_best_0 : decode cX8_best 0 = .ok (.aload_n 0, 1) := by decide +kernel
theorem dX8_best_1 : decode cX8_best 1 = .ok (.getfield 58, 3) := by decide +kernel
theorem dX8_best_4 : decode cX8_best 4 = .ok (.invokevirtual 147, 3) := by decide +kernel
theorem dX8_best_7 : decode cX8_best 7 = .ok (.ireturn, 1) := by decide +kernel
theorem dX8_path_0 : decode cX8_path 0 = .ok (.aload_n 0, 1) := by decide +kernel
theorem dX8_path_1 : decode cX8_path 1 = .ok (.getfield 58, 3) := by decide +kernel
theorem dX8_path_4 : decode cX8_path 4 = .ok (.iload_n 1, 1) := by decide +kernel
theorem dX8_path_5 : decode cX8_path 5 = .ok (.invokevirtual 150, 3) := by decide +kernel
theorem dX8_path_8 : decode cX8_path 8 = .ok (.ireturn, 1) := by decide +kernel
theorem dX8_twins_0 : decode cX8_twins 0 = .ok (.aload_n 0, 1) := by decide +kernel
theorem dX8_twins_1 : decode cX8_twins 1 = .ok (.getfield 67, 3) := by decide +kernel
theorem dX8_twins_4 : decode cX8_twins 4 = .ok (.invokevirtual 153, 3) := by decide +kernel
theorem dX8_twins_7 : decode cX8_twins 7 = .ok (.istore_n 1, 1) := by decide +kernel
theorem dX8_twins_8 : decode cX8_twins 8 = .ok (.aload_n 0, 1) := by decide +kernel
theorem dX8_twins_9 : decode cX8_twins 9 = .ok (.getfield 10, 3) := by decide +kernel
theorem dX8_twins_12 : decode cX8_twins 12 = .ok (.iconst 0, 1) := by decide +kernel
theorem dX8_twins_13 : decode cX8_twins 13 = .ok (.invokevirtual 82, 3) := by decide +kernel
theorem dX8_twins_16 : decode cX8_twins 16 = .ok (.pop, 1) := by decide +kernel
theorem dX8_twins_17 : decode cX8_twins 17 = .ok (.iload_n 1, 1) := by decide +kernel
theorem dX8_twins_18 : decode cX8_twins 18 = .ok (.ireturn, 1) := by decide +kernel
theorem dX8_twin_0 : decode cX8_twin 0 = .ok (.aload_n 0, 1) := by decide +kernel
theorem dX8_twin_1 : decode cX8_twin 1 = .ok (.getfield 67, 3) := by decide +kernel
theorem dX8_twin_4 : decode cX8_twin 4 = .ok (.invokevirtual 156, 3) := by decide +kernel
theorem dX8_twin_7 : decode cX8_twin 7 = .ok (.ireturn, 1) := by decide +kernel
theorem dX8_route_0 : decode cX8_route 0 = .ok (.aload_n 0, 1) := by decide +kernel
theorem dX8_route_1 : decode cX8_route 1 = .ok (.getfield 67, 3) := by decide +kernel
theorem dX8_route_4 : decode cX8_route 4 = .ok (.iload_n 1, 1) := by decide +kernel
theorem dX8_route_5 : decode cX8_route 5 = .ok (.invokevirtual 159, 3) := by decide +kernel
theorem dX8_route_8 : decode cX8_route 8 = .ok (.istore_n 2, 1) := by decide +kernel
theorem dX8_route_9 : decode cX8_route 9 = .ok (.aload_n 0, 1) := by decide +kernel
theorem dX8_route_10 : decode cX8_route 10 = .ok (.getfield 10, 3) := by decide +kernel
theorem dX8_route_13 : decode cX8_route 13 = .ok (.iconst 0, 1) := by decide +kernel
theorem dX8_route_14 : decode cX8_route 14 = .ok (.invokevirtual 82, 3) := by decide +kernel
theorem dX8_route_17 : decode cX8_route 17 = .ok (.pop, 1) := by decide +kernel
theorem dX8_route_18 : decode cX8_route 18 = .ok (.iload_n 2, 1) := by decide +kernel
theorem dX8_route_19 : decode cX8_route 19 = .ok (.ireturn, 1) := by decide +kernel
theorem dX8_check_0 : decode cX8_check 0 = .ok (.aload_n 0, 1) := by decide +kernel
theorem dX8_check_1 : decode cX8_check 1 = .ok (.getfield 19, 3) := by decide +kernel
theorem dX8_check_4 : decode cX8_check 4 = .ok (.iload_n 1, 1) := by decide +kernel
theorem dX8_check_5 : decode cX8_check 5 = .ok (.invokevirtual 100, 3) := by decide +kernel
theorem dX8_check_8 : decode cX8_check 8 = .ok (.ifCond .eq 10, 3) := by decide +kernel
theorem dX8_check_11 : decode cX8_check 11 = .ok (.iload_n 2, 1) := by decide +kernel
theorem dX8_check_12 : decode cX8_check 12 = .ok (.invokestatic 116, 3) := by decide +kernel
theorem dX8_check_15 : decode cX8_check 15 = .ok (.ifCond .ne 5, 3) := by decide +kernel
theorem dX8_check_18 : decode cX8_check 18 = .ok (.iconst (-1), 1) := by decide +kernel
theorem dX8_check_19 : decode cX8_check 19 = .ok (.ireturn, 1) := by decide +kernel
theorem dX8_check_20 : decode cX8_check 20 = .ok (.aload_n 0, 1) := by decide +kernel
theorem dX8_check_21 : decode cX8_check 21 = .ok (.getfield 42, 3) := by decide +kernel
theorem dX8_check_24 : decode cX8_check 24 = .ok (.iload_n 1, 1) := by decide +kernel
theorem dX8_check_25 : decode cX8_check 25 = .ok (.iload_n 2, 1) := by decide +kernel
theorem dX8_check_26 : decode cX8_check 26 = .ok (.invokevirtual 162, 3) := by decide +kernel
theorem dX8_check_29 : decode cX8_check 29 = .ok (.ireturn, 1) := by decide +kernel
theorem dX8_height_0 : decode cX8_height 0 = .ok (.aload_n 0, 1) := by decide +kernel
theorem dX8_height_1 : decode cX8_height 1 = .ok (.getfield 19, 3) := by decide +kernel
theorem dX8_height_4 : decode cX8_height 4 = .ok (.iload_n 1, 1) := by decide +kernel
theorem dX8_height_5 : decode cX8_height 5 = .ok (.invokevirtual 100, 3) := by decide +kernel
theorem dX8_height_8 : decode cX8_height 8 = .ok (.ifCond .eq 14, 3) := by decide +kernel
theorem dX8_height_11 : decode cX8_height 11 = .ok (.aload_n 0, 1) := by decide +kernel
theorem dX8_height_12 : decode cX8_height 12 = .ok (.getfield 19, 3) := by decide +kernel
theorem dX8_height_15 : decode cX8_height 15 = .ok (.iload_n 1, 1) := by decide +kernel
theorem dX8_height_16 : decode cX8_height 16 = .ok (.invokevirtual 166, 3) := by decide +kernel
theorem dX8_height_19 : decode cX8_height 19 = .ok (.goto 5, 3) := by decide +kernel
theorem dX8_height_22 : decode cX8_height 22 = .ok (.bipush (-2), 2) := by decide +kernel
theorem dX8_height_24 : decode cX8_height 24 = .ok (.ireturn, 1) := by decide +kernel
theorem dX8_count_0 : decode cX8_count 0 = .ok (.iload_n 1, 1) := by decide +kernel
theorem dX8_count_1 : decode cX8_count 1 = .ok (.tableswitch 111 0 7 #[47, 55, 63, 71, 79, 87, 95, 103], 47) := by decide +kernel
theorem dX8_count_48 : decode cX8_count 48 = .ok (.aload_n 0, 1) := by decide +kernel
theorem dX8_count_49 : decode cX8_count 49 = .ok (.getfield 19, 3) := by decide +kernel
theorem dX8_count_52 : decode cX8_count 52 = .ok (.invokevirtual 169, 3) := by decide +kernel
theorem dX8_count_55 : decode cX8_count 55 = .ok (.ireturn, 1) := by decide +kernel
theorem dX8_count_56 : decode cX8_count 56 = .ok (.aload_n 0, 1) := by decide +kernel
theorem dX8_count_57 : decode cX8_count 57 = .ok (.getfield 19, 3) := by decide +kernel
theorem dX8_count_60 : decode cX8_count 60 = .ok (.invokevirtual 172, 3) := by decide +kernel
theorem dX8_count_63 : decode cX8_count 63 = .ok (.ireturn, 1) := by decide +kernel
theorem dX8_count_64 : decode cX8_count 64 = .ok (.aload_n 0, 1) := by decide +kernel
theorem dX8_count_65 : decode cX8_count 65 = .ok (.getfield 26, 3) := by decide +kernel
theorem dX8_count_68 : decode cX8_count 68 = .ok (.invokevirtual 175, 3) := by decide +kernel
theorem dX8_count_71 : decode cX8_count 71 = .ok (.ireturn, 1) := by decide +kernel
theorem dX8_count_72 : decode cX8_count 72 = .ok (.aload_n 0, 1) := by decide +kernel
theorem dX8_count_73 : decode cX8_count 73 = .ok (.getfield 33, 3) := by decide +kernel
theorem dX8_count_76 : decode cX8_count 76 = .ok (.invokevirtual 107, 3) := by decide +kernel
theorem dX8_count_79 : decode cX8_count 79 = .ok (.ireturn, 1) := by decide +kernel
theorem dX8_count_80 : decode cX8_count 80 = .ok (.aload_n 0, 1) := by decide +kernel
theorem dX8_count_81 : decode cX8_count 81 = .ok (.getfield 33, 3) := by decide +kernel
theorem dX8_count_84 : decode cX8_count 84 = .ok (.invokevirtual 119, 3) := by decide +kernel
theorem dX8_count_87 : decode cX8_count 87 = .ok (.ireturn, 1) := by decide +kernel
theorem dX8_count_88 : decode cX8_count 88 = .ok (.aload_n 0, 1) := by decide +kernel
theorem dX8_count_89 : decode cX8_count 89 = .ok (.getfield 51, 3) := by decide +kernel
theorem dX8_count_92 : decode cX8_count 92 = .ok (.invokevirtual 178, 3) := by decide +kernel
theorem dX8_count_95 : decode cX8_count 95 = .ok (.ireturn, 1) := by decide +kernel
theorem dX8_count_96 : decode cX8_count 96 = .ok (.aload_n 0, 1) := by decide +kernel
theorem dX8_count_97 : decode cX8_count 97 = .ok (.getfield 42, 3) := by decide +kernel
theorem dX8_count_100 : decode cX8_count 100 = .ok (.invokevirtual 181, 3) := by decide +kernel
theorem dX8_count_103 : decode cX8_count 103 = .ok (.ireturn, 1) := by decide +kernel
theorem dX8_count_104 : decode cX8_count 104 = .ok (.aload_n 0, 1) := by decide +kernel
theorem dX8_count_105 : decode cX8_count 105 = .ok (.getfield 10, 3) := by decide +kernel
theorem dX8_count_108 : decode cX8_count 108 = .ok (.invokevirtual 75, 3) := by decide +kernel
theorem dX8_count_111 : decode cX8_count 111 = .ok (.ireturn, 1) := by decide +kernel
theorem dX8_count_112 : decode cX8_count 112 = .ok (.iconst (-1), 1) := by decide +kernel
theorem dX8_count_113 : decode cX8_count 113 = .ok (.ireturn, 1) := by decide +kernel
theorem dX8_isMove_0 : decode cX8_isMove 0 = .ok (.iload_n 0, 1) := by decide +kernel
theorem dX8_isMove_1 : decode cX8_isMove 1 = .ok (.bipush (-5), 2) := by decide +kernel
theorem dX8_isMove_3 : decode cX8_isMove 3 = .ok (.if_icmp .lt 23, 3) := by decide +kernel
theorem dX8_isMove_6 : decode cX8_isMove 6 = .ok (.iload_n 0, 1) := by decide +kernel
theorem dX8_isMove_7 : decode cX8_isMove 7 = .ok (.iconst 5, 1) := by decide +kernel
theorem dX8_isMove_8 : decode cX8_isMove 8 = .ok (.if_icmp .gt 18, 3) := by decide +kernel
theorem dX8_isMove_11 : decode cX8_isMove 11 = .ok (.iload_n 1, 1) := by decide +kernel
theorem dX8_isMove_12 : decode cX8_isMove 12 = .ok (.bipush (-5), 2) := by decide +kernel
theorem dX8_isMove_14 : decode cX8_isMove 14 = .ok (.if_icmp .lt 12, 3) := by decide +kernel
theorem dX8_isMove_17 : decode cX8_isMove 17 = .ok (.iload_n 1, 1) := by decide +kernel
theorem dX8_isMove_18 : decode cX8_isMove 18 = .ok (.iconst 5, 1) := by decide +kernel
theorem dX8_isMove_19 : decode cX8_isMove 19 = .ok (.if_icmp .gt 7, 3) := by decide +kernel
theorem dX8_isMove_22 : decode cX8_isMove 22 = .ok (.iconst 1, 1) := by decide +kernel
theorem dX8_isMove_23 : decode cX8_isMove 23 = .ok (.goto 4, 3) := by decide +kernel
theorem dX8_isMove_26 : decode cX8_isMove 26 = .ok (.iconst 0, 1) := by decide +kernel
theorem dX8_isMove_27 : decode cX8_isMove 27 = .ok (.ireturn, 1) := by decide +kernel
theorem dX8_isReading_0 : decode cX8_isReading 0 = .ok (.iload_n 0, 1) := by decide +kernel
theorem dX8_isReading_1 : decode cX8_isReading 1 = .ok (.ifCond .lt 14, 3) := by decide +kernel
theorem dX8_isReading_4 : decode cX8_isReading 4 = .ok (.iload_n 0, 1) := by decide +kernel
theorem dX8_isReading_5 : decode cX8_isReading 5 = .ok (.sipush 250, 3) := by decide +kernel
theorem dX8_isReading_8 : decode cX8_isReading 8 = .ok (.if_icmp .gt 7, 3) := by decide +kernel
theorem dX8_isReading_11 : decode cX8_isReading 11 = .ok (.iconst 1, 1) := by decide +kernel
theorem dX8_isReading_12 : decode cX8_isReading 12 = .ok (.goto 4, 3) := by decide +kernel
theorem dX8_isReading_15 : decode cX8_isReading 15 = .ok (.iconst 0, 1) := by decide +kernel
theorem dX8_isReading_16 : decode cX8_isReading 16 = .ok (.ireturn, 1) := by decide +kernel
theorem dX8_commonDivisor_0 : decode cX8_commonDivisor 0 = .ok (.lload_n 0, 1) := by decide +kernel
theorem dX8_commonDivisor_1 : decode cX8_commonDivisor 1 = .ok (.lstore 4, 2) := by decide +kernel
theorem dX8_commonDivisor_3 : decode cX8_commonDivisor 3 = .ok (.lload_n 2, 1) := by decide +kernel
theorem dX8_commonDivisor_4 : decode cX8_commonDivisor 4 = .ok (.lstore 6, 2) := by decide +kernel
theorem dX8_commonDivisor_6 : decode cX8_commonDivisor 6 = .ok (.iconst 0, 1) := by decide +kernel
theorem dX8_commonDivisor_7 : decode cX8_commonDivisor 7 = .ok (.istore 8, 2) := by decide +kernel
theorem dX8_commonDivisor_9 : decode cX8_commonDivisor 9 = .ok (.iload 8, 2) := by decide +kernel
theorem dX8_commonDivisor_11 : decode cX8_commonDivisor 11 = .ok (.sipush 200, 3) := by decide +kernel
theorem dX8_commonDivisor_14 : decode cX8_commonDivisor 14 = .ok (.if_icmp .ge 31, 3) := by decide +kernel
theorem dX8_commonDivisor_17 : decode cX8_commonDivisor 17 = .ok (.lload 6, 2) := by decide +kernel
theorem dX8_commonDivisor_19 : decode cX8_commonDivisor 19 = .ok (.lconst 0, 1) := by decide +kernel
theorem dX8_commonDivisor_20 : decode cX8_commonDivisor 20 = .ok (.lcmp, 1) := by decide +kernel
theorem dX8_commonDivisor_21 : decode cX8_commonDivisor 21 = .ok (.ifCond .eq 24, 3) := by decide +kernel
theorem dX8_commonDivisor_24 : decode cX8_commonDivisor 24 = .ok (.lload 4, 2) := by decide +kernel
theorem dX8_commonDivisor_26 : decode cX8_commonDivisor 26 = .ok (.lload 6, 2) := by decide +kernel
theorem dX8_commonDivisor_28 : decode cX8_commonDivisor 28 = .ok (.lrem, 1) := by decide +kernel
theorem dX8_commonDivisor_29 : decode cX8_commonDivisor 29 = .ok (.lstore 9, 2) := by decide +kernel
theorem dX8_commonDivisor_31 : decode cX8_commonDivisor 31 = .ok (.lload 6, 2) := by decide +kernel
theorem dX8_commonDivisor_33 : decode cX8_commonDivisor 33 = .ok (.lstore 4, 2) := by decide +kernel
theorem dX8_commonDivisor_35 : decode cX8_commonDivisor 35 = .ok (.lload 9, 2) := by decide +kernel
theorem dX8_commonDivisor_37 : decode cX8_commonDivisor 37 = .ok (.lstore 6, 2) := by decide +kernel
theorem dX8_commonDivisor_39 : decode cX8_commonDivisor 39 = .ok (.iinc 8 1, 3) := by decide +kernel
theorem dX8_commonDivisor_42 : decode cX8_commonDivisor 42 = .ok (.goto (-33), 3) := by decide +kernel
theorem dX8_commonDivisor_45 : decode cX8_commonDivisor 45 = .ok (.lload 4, 2) := by decide +kernel
theorem dX8_commonDivisor_47 : decode cX8_commonDivisor 47 = .ok (.lconst 1, 1) := by decide +kernel
theorem dX8_commonDivisor_48 : decode cX8_commonDivisor 48 = .ok (.lcmp, 1) := by decide +kernel
theorem dX8_commonDivisor_49 : decode cX8_commonDivisor 49 = .ok (.ifCond .ge 7, 3) := by decide +kernel
theorem dX8_commonDivisor_52 : decode cX8_commonDivisor 52 = .ok (.lconst 1, 1) := by decide +kernel
theorem dX8_commonDivisor_53 : decode cX8_commonDivisor 53 = .ok (.goto 5, 3) := by decide +kernel
theorem dX8_commonDivisor_56 : decode cX8_commonDivisor 56 = .ok (.lload 4, 2) := by decide +kernel
theorem dX8_commonDivisor_58 : decode cX8_commonDivisor 58 = .ok (.lreturn, 1) := by decide +kernel
end
section
theorem dX9_thrown_0 : decode cX9_thrown 0 = .ok (.aload_n 0, 1) := by decide +kernel
theorem dX9_thrown_1 : decode cX9_thrown 1 = .ok (.getfield 1, 3) := by decide +kernel
theorem dX9_thrown_4 : decode cX9_thrown 4 = .ok (.ireturn, 1) := by decide +kernel
theorem dX9_throwsIf_0 : decode cX9_throwsIf 0 = .ok (.aload_n 0, 1) := by decide +kernel
theorem dX9_throwsIf_1 : decode cX9_throwsIf 1 = .ok (.iload_n 1, 1) := by decide +kernel
theorem dX9_throwsIf_2 : decode cX9_throwsIf 2 = .ok (.ifCond .eq 7, 3) := by decide +kernel
theorem dX9_throwsIf_5 : decode cX9_throwsIf 5 = .ok (.iconst 1, 1) := by decide +kernel
theorem dX9_throwsIf_6 : decode cX9_throwsIf 6 = .ok (.goto 4, 3) := by decide +kernel
theorem dX9_throwsIf_9 : decode cX9_throwsIf 9 = .ok (.iconst 0, 1) := by decide +kernel
theorem dX9_throwsIf_10 : decode cX9_throwsIf 10 = .ok (.putfield 1, 3) := by decide +kernel
theorem dX9_throwsIf_13 : decode cX9_throwsIf 13 = .ok (.iload_n 1, 1) := by decide +kernel
theorem dX9_throwsIf_14 : decode cX9_throwsIf 14 = .ok (.ireturn, 1) := by decide +kernel
theorem dX9_feed_0 : decode cX9_feed 0 = .ok (.aload_n 0, 1) := by decide +kernel
theorem dX9_feed_1 : decode cX9_feed 1 = .ok (.iconst 0, 1) := by decide +kernel
theorem dX9_feed_2 : decode cX9_feed 2 = .ok (.putfield 1, 3) := by decide +kernel
theorem dX9_feed_5 : decode cX9_feed 5 = .ok (.aload_n 0, 1) := by decide +kernel
theorem dX9_feed_6 : decode cX9_feed 6 = .ok (.getfield 7, 3) := by decide +kernel
theorem dX9_feed_9 : decode cX9_feed 9 = .ok (.bipush 20, 2) := by decide +kernel
theorem dX9_feed_11 : decode cX9_feed 11 = .ok (.iadd, 1) := by decide +kernel
theorem dX9_feed_12 : decode cX9_feed 12 = .ok (.sipush 160, 3) := by decide +kernel
theorem dX9_feed_15 : decode cX9_feed 15 = .ok (.if_icmp .le 5, 3) := by decide +kernel
theorem dX9_feed_18 : decode cX9_feed 18 = .ok (.iconst (-1), 1) := by decide +kernel
theorem dX9_feed_19 : decode cX9_feed 19 = .ok (.ireturn, 1) := by decide +kernel
theorem dX9_feed_20 : decode cX9_feed 20 = .ok (.aload_n 0, 1) := by decide +kernel
theorem dX9_feed_21 : decode cX9_feed 21 = .ok (.iload_n 1, 1) := by decide +kernel
theorem dX9_feed_22 : decode cX9_feed 22 = .ok (.invokevirtual 10, 3) := by decide +kernel
theorem dX9_feed_25 : decode cX9_feed 25 = .ok (.aload_n 0, 1) := by decide +kernel
theorem dX9_feed_26 : decode cX9_feed 26 = .ok (.iload_n 2, 1) := by decide +kernel
theorem dX9_feed_27 : decode cX9_feed 27 = .ok (.invokevirtual 10, 3) := by decide +kernel
theorem dX9_feed_30 : decode cX9_feed 30 = .ok (.aload_n 0, 1) := by decide +kernel
theorem dX9_feed_31 : decode cX9_feed 31 = .ok (.iload_n 3, 1) := by decide +kernel
theorem dX9_feed_32 : decode cX9_feed 32 = .ok (.invokevirtual 10, 3) := by decide +kernel
theorem dX9_feed_35 : decode cX9_feed 35 = .ok (.aload_n 0, 1) := by decide +kernel
theorem dX9_feed_36 : decode cX9_feed 36 = .ok (.iload 4, 2) := by decide +kernel
theorem dX9_feed_38 : decode cX9_feed 38 = .ok (.invokevirtual 10, 3) := by decide +kernel
theorem dX9_feed_41 : decode cX9_feed 41 = .ok (.aload_n 0, 1) := by decide +kernel
theorem dX9_feed_42 : decode cX9_feed 42 = .ok (.iload 5, 2) := by decide +kernel
theorem dX9_feed_44 : decode cX9_feed 44 = .ok (.invokevirtual 10, 3) := by decide +kernel
theorem dX9_feed_47 : decode cX9_feed 47 = .ok (.aload_n 0, 1) := by decide +kernel
theorem dX9_feed_48 : decode cX9_feed 48 = .ok (.getfield 7, 3) := by decide +kernel
theorem dX9_feed_51 : decode cX9_feed 51 = .ok (.ireturn, 1) := by decide +kernel
theorem dX9_four_0 : decode cX9_four 0 = .ok (.bipush 24, 2) := by decide +kernel
theorem dX9_four_2 : decode cX9_four 2 = .ok (.istore_n 2, 1) := by decide +kernel
theorem dX9_four_3 : decode cX9_four 3 = .ok (.iload_n 2, 1) := by decide +kernel
theorem dX9_four_4 : decode cX9_four 4 = .ok (.ifCond .lt 32, 3) := by decide +kernel
theorem dX9_four_7 : decode cX9_four 7 = .ok (.aload_n 0, 1) := by decide +kernel
theorem dX9_four_8 : decode cX9_four 8 = .ok (.getfield 14, 3) := by decide +kernel
theorem dX9_four_11 : decode cX9_four 11 = .ok (.aload_n 0, 1) := by decide +kernel
theorem dX9_four_12 : decode cX9_four 12 = .ok (.getfield 7, 3) := by decide +kernel
theorem dX9_four_15 : decode cX9_four 15 = .ok (.iload_n 1, 1) := by decide +kernel
theorem dX9_four_16 : decode cX9_four 16 = .ok (.iload_n 2, 1) := by decide +kernel
theorem dX9_four_17 : decode cX9_four 17 = .ok (.ishr, 1) := by decide +kernel
theorem dX9_four_18 : decode cX9_four 18 = .ok (.i2b, 1) := by decide +kernel
theorem dX9_four_19 : decode cX9_four 19 = .ok (.bastore, 1) := by decide +kernel
theorem dX9_four_20 : decode cX9_four 20 = .ok (.aload_n 0, 1) := by decide +kernel
theorem dX9_four_21 : decode cX9_four 21 = .ok (.dup, 1) := by decide +kernel
theorem dX9_four_22 : decode cX9_four 22 = .ok (.getfield 7, 3) := by decide +kernel
theorem dX9_four_25 : decode cX9_four 25 = .ok (.iconst 1, 1) := by decide +kernel
theorem dX9_four_26 : decode cX9_four 26 = .ok (.iadd, 1) := by decide +kernel
theorem dX9_four_27 : decode cX9_four 27 = .ok (.putfield 7, 3) := by decide +kernel
theorem dX9_four_30 : decode cX9_four 30 = .ok (.iinc 2 (-8), 3) := by decide +kernel
theorem dX9_four_33 : decode cX9_four 33 = .ok (.goto (-30), 3) := by decide +kernel
theorem dX9_four_36 : decode cX9_four 36 = .ok (.return_, 1) := by decide +kernel
theorem dX9_end_0 : decode cX9_end 0 = .ok (.aload_n 0, 1) := by decide +kernel
theorem dX9_end_1 : decode cX9_end 1 = .ok (.iconst 0, 1) := by decide +kernel
theorem dX9_end_2 : decode cX9_end 2 = .ok (.putfield 1, 3) := by decide +kernel
theorem dX9_end_5 : decode cX9_end 5 = .ok (.iload_n 1, 1) := by decide +kernel
theorem dX9_end_6 : decode cX9_end 6 = .ok (.ifCond .lt 11, 3) := by decide +kernel
theorem dX9_end_9 : decode cX9_end 9 = .ok (.iload_n 1, 1) := by decide +kernel
theorem dX9_end_10 : decode cX9_end 10 = .ok (.aload_n 0, 1) := by decide +kernel
theorem dX9_end_11 : decode cX9_end 11 = .ok (.getfield 7, 3) := by decide +kernel
theorem dX9_end_14 : decode cX9_end 14 = .ok (.if_icmp .le 5, 3) := by decide +kernel
theorem dX9_end_17 : decode cX9_end 17 = .ok (.iconst 0, 1) := by decide +kernel
theorem dX9_end_18 : decode cX9_end 18 = .ok (.ireturn, 1) := by decide +kernel
theorem dX9_end_19 : decode cX9_end 19 = .ok (.aload_n 0, 1) := by decide +kernel
theorem dX9_end_20 : decode cX9_end 20 = .ok (.iload_n 1, 1) := by decide +kernel
theorem dX9_end_21 : decode cX9_end 21 = .ok (.putfield 7, 3) := by decide +kernel
theorem dX9_end_24 : decode cX9_end 24 = .ok (.iconst 1, 1) := by decide +kernel
theorem dX9_end_25 : decode cX9_end 25 = .ok (.ireturn, 1) := by decide +kernel
theorem dX9_taken_0 : decode cX9_taken 0 = .ok (.aload_n 0, 1) := by decide +kernel
theorem dX9_taken_1 : decode cX9_taken 1 = .ok (.aload_n 0, 1) := by decide +kernel
theorem dX9_taken_2 : decode cX9_taken 2 = .ok (.getfield 7, 3) := by decide +kernel
theorem dX9_taken_5 : decode cX9_taken 5 = .ok (.putfield 18, 3) := by decide +kernel
theorem dX9_taken_8 : decode cX9_taken 8 = .ok (.aload_n 0, 1) := by decide +kernel
theorem dX9_taken_9 : decode cX9_taken 9 = .ok (.iconst 0, 1) := by decide +kernel
theorem dX9_taken_10 : decode cX9_taken 10 = .ok (.putfield 7, 3) := by decide +kernel
theorem dX9_taken_13 : decode cX9_taken 13 = .ok (.return_, 1) := by decide +kernel
theorem dX9_init_0 : decode cX9_init 0 = .ok (.aload_n 0, 1) := by decide +kernel
theorem dX9_init_1 : decode cX9_init 1 = .ok (.invokespecial 21, 3) := by decide +kernel
theorem dX9_init_4 : decode cX9_init 4 = .ok (.aload_n 0, 1) := by decide +kernel
theorem dX9_init_5 : decode cX9_init 5 = .ok (.sipush 160, 3) := by decide +kernel
theorem dX9_init_8 : decode cX9_init 8 = .ok (.newarray .byte, 2) := by decide +kernel
theorem dX9_init_10 : decode cX9_init 10 = .ok (.putfield 14, 3) := by decide +kernel
theorem dX9_init_13 : decode cX9_init 13 = .ok (.aload_n 0, 1) := by decide +kernel
theorem dX9_init_14 : decode cX9_init 14 = .ok (.sipush 144, 3) := by decide +kernel
theorem dX9_init_17 : decode cX9_init 17 = .ok (.newarray .int, 2) := by decide +kernel
theorem dX9_init_19 : decode cX9_init 19 = .ok (.putfield 27, 3) := by decide +kernel
theorem dX9_init_22 : decode cX9_init 22 = .ok (.aload_n 0, 1) := by decide +kernel
theorem dX9_init_23 : decode cX9_init 23 = .ok (.sipush 144, 3) := by decide +kernel
theorem dX9_init_26 : decode cX9_init 26 = .ok (.newarray .int, 2) := by decide +kernel
theorem dX9_init_28 : decode cX9_init 28 = .ok (.putfield 31, 3) := by decide +kernel
theorem dX9_init_31 : decode cX9_init 31 = .ok (.aload_n 0, 1) := by decide +kernel
theorem dX9_init_32 : decode cX9_init 32 = .ok (.sipush 144, 3) := by decide +kernel
theorem dX9_init_35 : decode cX9_init 35 = .ok (.newarray .int, 2) := by decide +kernel
theorem dX9_init_37 : decode cX9_init 37 = .ok (.putfield 34, 3) := by decide +kernel
theorem dX9_init_40 : decode cX9_init 40 = .ok (.aload_n 0, 1) := by decide +kernel
theorem dX9_init_41 : decode cX9_init 41 = .ok (.sipush 144, 3) := by decide +kernel
theorem dX9_init_44 : decode cX9_init 44 = .ok (.newarray .int, 2) := by decide +kernel
theorem dX9_init_46 : decode cX9_init 46 = .ok (.putfield 37, 3) := by decide +kernel
theorem dX9_init_49 : decode cX9_init 49 = .ok (.aload_n 0, 1) := by decide +kernel
theorem dX9_init_50 : decode cX9_init 50 = .ok (.sipush 144, 3) := by decide +kernel
theorem dX9_init_53 : decode cX9_init 53 = .ok (.newarray .int, 2) := by decide +kernel
theorem dX9_init_55 : decode cX9_init 55 = .ok (.putfield 40, 3) := by decide +kernel
theorem dX9_init_58 : decode cX9_init 58 = .ok (.aload_n 0, 1) := by decide +kernel
theorem dX9_init_59 : decode cX9_init 59 = .ok (.iconst 2, 1) := by decide +kernel
theorem dX9_init_60 : decode cX9_init 60 = .ok (.putfield 43, 3) := by decide +kernel
theorem dX9_init_63 : decode cX9_init 63 = .ok (.aload_n 0, 1) := by decide +kernel
theorem dX9_init_64 : decode cX9_init 64 = .ok (.iconst 2, 1) := by decide +kernel
theorem dX9_init_65 : decode cX9_init 65 = .ok (.putfield 46, 3) := by decide +kernel
theorem dX9_init_68 : decode cX9_init 68 = .ok (.aload_n 0, 1) := by decide +kernel
theorem dX9_init_69 : decode cX9_init 69 = .ok (.iconst 1, 1) := by decide +kernel
theorem dX9_init_70 : decode cX9_init 70 = .ok (.putfield 49, 3) := by decide +kernel
theorem dX9_init_73 : decode cX9_init 73 = .ok (.aload_n 0, 1) := by decide +kernel
theorem dX9_init_74 : decode cX9_init 74 = .ok (.sipush 144, 3) := by decide +kernel
theorem dX9_init_77 : decode cX9_init 77 = .ok (.newarray .long, 2) := by decide +kernel
theorem dX9_init_79 : decode cX9_init 79 = .ok (.putfield 52, 3) := by decide +kernel
theorem dX9_init_82 : decode cX9_init 82 = .ok (.aload_n 0, 1) := by decide +kernel
theorem dX9_init_83 : decode cX9_init 83 = .ok (.sipush 144, 3) := by decide +kernel
theorem dX9_init_86 : decode cX9_init 86 = .ok (.newarray .long, 2) := by decide +kernel
theorem dX9_init_88 : decode cX9_init 88 = .ok (.putfield 56, 3) := by decide +kernel
theorem dX9_init_91 : decode cX9_init 91 = .ok (.aload_n 0, 1) := by decide +kernel
theorem dX9_init_92 : decode cX9_init 92 = .ok (.bipush 12, 2) := by decide +kernel
theorem dX9_init_94 : decode cX9_init 94 = .ok (.newarray .int, 2) := by decide +kernel
theorem dX9_init_96 : decode cX9_init 96 = .ok (.putfield 59, 3) := by decide +kernel
theorem dX9_init_99 : decode cX9_init 99 = .ok (.aload_n 0, 1) := by decide +kernel
theorem dX9_init_100 : decode cX9_init 100 = .ok (.bipush 12, 2) := by decide +kernel
theorem dX9_init_102 : decode cX9_init 102 = .ok (.newarray .int, 2) := by decide +kernel
theorem dX9_init_104 : decode cX9_init 104 = .ok (.putfield 62, 3) := by decide +kernel
theorem dX9_init_107 : decode cX9_init 107 = .ok (.aload_n 0, 1) := by decide +kernel
theorem dX9_init_108 : decode cX9_init 108 = .ok (.bipush 40, 2) := by decide +kernel
theorem dX9_init_110 : decode cX9_init 110 = .ok (.newarray .int, 2) := by decide +kernel
theorem dX9_init_112 : decode cX9_init 112 = .ok (.putfield 65, 3) := by decide +kernel
theorem dX9_init_115 : decode cX9_init 115 = .ok (.aload_n 0, 1) := by decide +kernel
theorem dX9_init_116 : decode cX9_init 116 = .ok (.bipush 40, 2) := by decide +kernel
theorem dX9_init_118 : decode cX9_init 118 = .ok (.newarray .int, 2) := by decide +kernel
theorem dX9_init_120 : decode cX9_init 120 = .ok (.putfield 68, 3) := by decide +kernel
theorem dX9_init_123 : decode cX9_init 123 = .ok (.aload_n 0, 1) := by decide +kernel
theorem dX9_init_124 : decode cX9_init 124 = .ok (.sipush 144, 3) := by decide +kernel
theorem dX9_init_127 : decode cX9_init 127 = .ok (.newarray .int, 2) := by decide +kernel
theorem dX9_init_129 : decode cX9_init 129 = .ok (.putfield 71, 3) := by decide +kernel
theorem dX9_init_132 : decode cX9_init 132 = .ok (.aload_n 0, 1) := by decide +kernel
theorem dX9_init_133 : decode cX9_init 133 = .ok (.sipush 144, 3) := by decide +kernel
theorem dX9_init_136 : decode cX9_init 136 = .ok (.newarray .int, 2) := by decide +kernel
theorem dX9_init_138 : decode cX9_init 138 = .ok (.putfield 74, 3) := by decide +kernel
theorem dX9_init_141 : decode cX9_init 141 = .ok (.aload_n 0, 1) := by decide +kernel
theorem dX9_init_142 : decode cX9_init 142 = .ok (.sipush 1872, 3) := by decide +kernel
theorem dX9_init_145 : decode cX9_init 145 = .ok (.newarray .int, 2) := by decide +kernel
theorem dX9_init_147 : decode cX9_init 147 = .ok (.putfield 77, 3) := by decide +kernel
theorem dX9_init_150 : decode cX9_init 150 = .ok (.aload_n 0, 1) := by decide +kernel
theorem dX9_init_151 : decode cX9_init 151 = .ok (.sipush 1872, 3) := by decide +kernel
theorem dX9_init_154 : decode cX9_init 154 = .ok (.newarray .int, 2) := by decide +kernel
theorem dX9_init_156 : decode cX9_init 156 = .ok (.putfield 80, 3) := by decide +kernel
theorem dX9_init_159 : decode cX9_init 159 = .ok (.aload_n 0, 1) := by decide +kernel
theorem dX9_init_160 : decode cX9_init 160 = .ok (.bipush 13, 2) := by decide +kernel
theorem dX9_init_162 : decode cX9_init 162 = .ok (.newarray .int, 2) := by decide +kernel
theorem dX9_init_164 : decode cX9_init 164 = .ok (.putfield 83, 3) := by decide +kernel
theorem dX9_init_167 : decode cX9_init 167 = .ok (.aload_n 0, 1) := by decide +kernel
theorem dX9_init_168 : decode cX9_init 168 = .ok (.sipush 144, 3) := by decide +kernel
theorem dX9_init_171 : decode cX9_init 171 = .ok (.newarray .long, 2) := by decide +kernel
theorem dX9_init_173 : decode cX9_init 173 = .ok (.putfield 86, 3) := by decide +kernel
theorem dX9_init_176 : decode cX9_init 176 = .ok (.aload_n 0, 1) := by decide +kernel
theorem dX9_init_177 : decode cX9_init 177 = .ok (.sipush 144, 3) := by decide +kernel
theorem dX9_init_180 : decode cX9_init 180 = .ok (.newarray .long, 2) := by decide +kernel
theorem dX9_init_182 : decode cX9_init 182 = .ok (.putfield 89, 3) := by decide +kernel
theorem dX9_init_185 : decode cX9_init 185 = .ok (.aload_n 0, 1) := by decide +kernel
theorem dX9_init_186 : decode cX9_init 186 = .ok (.sipush 144, 3) := by decide +kernel
theorem dX9_init_189 : decode cX9_init 189 = .ok (.newarray .int, 2) := by decide +kernel
theorem dX9_init_191 : decode cX9_init 191 = .ok (.putfield 92, 3) := by decide +kernel
theorem dX9_init_194 : decode cX9_init 194 = .ok (.aload_n 0, 1) := by decide +kernel
theorem dX9_init_195 : decode cX9_init 195 = .ok (.sipush 144, 3) := by decide +kernel
theorem dX9_init_198 : decode cX9_init 198 = .ok (.newarray .boolean, 2) := by decide +kernel
theorem dX9_init_200 : decode cX9_init 200 = .ok (.putfield 95, 3) := by decide +kernel
theorem dX9_init_203 : decode cX9_init 203 = .ok (.aload_n 0, 1) := by decide +kernel
theorem dX9_init_204 : decode cX9_init 204 = .ok (.sipush 20736, 3) := by decide +kernel
theorem dX9_init_207 : decode cX9_init 207 = .ok (.newarray .boolean, 2) := by decide +kernel
theorem dX9_init_209 : decode cX9_init 209 = .ok (.putfield 99, 3) := by decide +kernel
theorem dX9_init_212 : decode cX9_init 212 = .ok (.aload_n 0, 1) := by decide +kernel
theorem dX9_init_213 : decode cX9_init 213 = .ok (.iconst (-1), 1) := by decide +kernel
theorem dX9_init_214 : decode cX9_init 214 = .ok (.putfield 102, 3) := by decide +kernel
theorem dX9_init_217 : decode cX9_init 217 = .ok (.iconst 0, 1) := by decide +kernel
theorem dX9_init_218 : decode cX9_init 218 = .ok (.istore_n 1, 1) := by decide +kernel
theorem dX9_init_219 : decode cX9_init 219 = .ok (.iload_n 1, 1) := by decide +kernel
theorem dX9_init_220 : decode cX9_init 220 = .ok (.sipush 144, 3) := by decide +kernel
theorem dX9_init_223 : decode cX9_init 223 = .ok (.if_icmp .ge 18, 3) := by decide +kernel
theorem dX9_init_226 : decode cX9_init 226 = .ok (.aload_n 0, 1) := by decide +kernel
theorem dX9_init_227 : decode cX9_init 227 = .ok (.getfield 27, 3) := by decide +kernel
theorem dX9_init_230 : decode cX9_init 230 = .ok (.iload_n 1, 1) := by decide +kernel
theorem dX9_init_231 : decode cX9_init 231 = .ok (.sipush 255, 3) := by decide +kernel
theorem dX9_init_234 : decode cX9_init 234 = .ok (.iastore, 1) := by decide +kernel
theorem dX9_init_235 : decode cX9_init 235 = .ok (.iinc 1 1, 3) := by decide +kernel
theorem dX9_init_238 : decode cX9_init 238 = .ok (.goto (-19), 3) := by decide +kernel
theorem dX9_init_241 : decode cX9_init 241 = .ok (.aload_n 0, 1) := by decide +kernel
theorem dX9_init_242 : decode cX9_init 242 = .ok (.iconst (-1), 1) := by decide +kernel
theorem dX9_init_243 : decode cX9_init 243 = .ok (.invokevirtual 105, 3) := by decide +kernel
theorem dX9_init_246 : decode cX9_init 246 = .ok (.return_, 1) := by decide +kernel
theorem dX9_cells_0 : decode cX9_cells 0 = .ok (.aload_n 0, 1) := by decide +kernel
theorem dX9_cells_1 : decode cX9_cells 1 = .ok (.getfield 43, 3) := by decide +kernel
theorem dX9_cells_4 : decode cX9_cells 4 = .ok (.aload_n 0, 1) := by decide +kernel
theorem dX9_cells_5 : decode cX9_cells 5 = .ok (.getfield 46, 3) := by decide +kernel
theorem dX9_cells_8 : decode cX9_cells 8 = .ok (.imul, 1) := by decide +kernel
theorem dX9_cells_9 : decode cX9_cells 9 = .ok (.ireturn, 1) := by decide +kernel
theorem dX9_isCell_0 : decode cX9_isCell 0 = .ok (.iload_n 1, 1) := by decide +kernel
theorem dX9_isCell_1 : decode cX9_isCell 1 = .ok (.ifCond .lt 15, 3) := by decide +kernel
theorem dX9_isCell_4 : decode cX9_isCell 4 = .ok (.iload_n 1, 1) := by decide +kernel
theorem dX9_isCell_5 : decode cX9_isCell 5 = .ok (.aload_n 0, 1) := by decide +kernel
theorem dX9_isCell_6 : decode cX9_isCell 6 = .ok (.invokevirtual 108, 3) := by decide +kernel
theorem dX9_isCell_9 : decode cX9_isCell 9 = .ok (.if_icmp .ge 7, 3) := by decide +kernel
theorem dX9_isCell_12 : decode cX9_isCell 12 = .ok (.iconst 1, 1) := by decide +kernel
theorem dX9_isCell_13 : decode cX9_isCell 13 = .ok (.goto 4, 3) := by decide +kernel
theorem dX9_isCell_16 : decode cX9_isCell 16 = .ok (.iconst 0, 1) := by decide +kernel
theorem dX9_isCell_17 : decode cX9_isCell 17 = .ok (.ireturn, 1) := by decide +kernel
theorem dX9_map_0 : decode cX9_map 0 = .ok (.aload_n 0, 1) := by decide +kernel
theorem dX9_map_1 : decode cX9_map 1 = .ok (.iconst 0, 1) := by decide +kernel
theorem dX9_map_2 : decode cX9_map 2 = .ok (.putfield 1, 3) := by decide +kernel
theorem dX9_map_5 : decode cX9_map 5 = .ok (.aload_n 0, 1) := by decide +kernel
theorem dX9_map_6 : decode cX9_map 6 = .ok (.invokevirtual 112, 3) := by decide +kernel
theorem dX9_map_9 : decode cX9_map 9 = .ok (.iload_n 1, 1) := by decide +kernel
theorem dX9_map_10 : decode cX9_map 10 = .ok (.iconst 2, 1) := by decide +kernel
theorem dX9_map_11 : decode cX9_map 11 = .ok (.if_icmp .lt 30, 3) := by decide +kernel
theorem dX9_map_14 : decode cX9_map 14 = .ok (.iload_n 1, 1) := by decide +kernel
theorem dX9_map_15 : decode cX9_map 15 = .ok (.bipush 12, 2) := by decide +kernel
theorem dX9_map_17 : decode cX9_map 17 = .ok (.if_icmp .gt 24, 3) := by decide +kernel
theorem dX9_map_20 : decode cX9_map 20 = .ok (.iload_n 2, 1) := by decide +kernel
theorem dX9_map_21 : decode cX9_map 21 = .ok (.iconst 2, 1) := by decide +kernel
theorem dX9_map_22 : decode cX9_map 22 = .ok (.if_icmp .lt 19, 3) := by decide +kernel
theorem dX9_map_25 : decode cX9_map 25 = .ok (.iload_n 2, 1) := by decide +kernel
theorem dX9_map_26 : decode cX9_map 26 = .ok (.bipush 12, 2) := by decide +kernel
theorem dX9_map_28 : decode cX9_map 28 = .ok (.if_icmp .gt 13, 3) := by decide +kernel
theorem dX9_map_31 : decode cX9_map 31 = .ok (.aload_n 0, 1) := by decide +kernel
theorem dX9_map_32 : decode cX9_map 32 = .ok (.getfield 18, 3) := by decide +kernel
theorem dX9_map_35 : decode cX9_map 35 = .ok (.iload_n 1, 1) := by decide +kernel
theorem dX9_map_36 : decode cX9_map 36 = .ok (.iload_n 2, 1) := by decide +kernel
theorem dX9_map_37 : decode cX9_map 37 = .ok (.imul, 1) := by decide +kernel
theorem dX9_map_38 : decode cX9_map 38 = .ok (.if_icmp .eq 5, 3) := by decide +kernel
theorem dX9_map_41 : decode cX9_map 41 = .ok (.iconst 0, 1) := by decide +kernel
theorem dX9_map_42 : decode cX9_map 42 = .ok (.ireturn, 1) := by decide +kernel
theorem dX9_map_43 : decode cX9_map 43 = .ok (.iconst 0, 1) := by decide +kernel
theorem dX9_map_44 : decode cX9_map 44 = .ok (.istore_n 3, 1) := by decide +kernel
theorem dX9_map_45 : decode cX9_map 45 = .ok (.iload_n 3, 1) := by decide +kernel
theorem dX9_map_46 : decode cX9_map 46 = .ok (.aload_n 0, 1) := by decide +kernel
theorem dX9_map_47 : decode cX9_map 47 = .ok (.getfield 18, 3) := by decide +kernel
theorem dX9_map_50 : decode cX9_map 50 = .ok (.if_icmp .ge 43, 3) := by decide +kernel
theorem dX9_map_53 : decode cX9_map 53 = .ok (.aload_n 0, 1) := by decide +kernel
theorem dX9_map_54 : decode cX9_map 54 = .ok (.getfield 14, 3) := by decide +kernel
theorem dX9_map_57 : decode cX9_map 57 = .ok (.iload_n 3, 1) := by decide +kernel
theorem dX9_map_58 : decode cX9_map 58 = .ok (.baload, 1) := by decide +kernel
theorem dX9_map_59 : decode cX9_map 59 = .ok (.sipush 255, 3) := by decide +kernel
theorem dX9_map_62 : decode cX9_map 62 = .ok (.iand, 1) := by decide +kernel
theorem dX9_map_63 : decode cX9_map 63 = .ok (.sipush 250, 3) := by decide +kernel
theorem dX9_map_66 : decode cX9_map 66 = .ok (.if_icmp .le 21, 3) := by decide +kernel
theorem dX9_map_69 : decode cX9_map 69 = .ok (.aload_n 0, 1) := by decide +kernel
theorem dX9_map_70 : decode cX9_map 70 = .ok (.getfield 14, 3) := by decide +kernel
theorem dX9_map_73 : decode cX9_map 73 = .ok (.iload_n 3, 1) := by decide +kernel
theorem dX9_map_74 : decode cX9_map 74 = .ok (.baload, 1) := by decide +kernel
theorem dX9_map_75 : decode cX9_map 75 = .ok (.sipush 255, 3) := by decide +kernel
theorem dX9_map_78 : decode cX9_map 78 = .ok (.iand, 1) := by decide +kernel
theorem dX9_map_79 : decode cX9_map 79 = .ok (.sipush 255, 3) := by decide +kernel
theorem dX9_map_82 : decode cX9_map 82 = .ok (.if_icmp .eq 5, 3) := by decide +kernel
theorem dX9_map_85 : decode cX9_map 85 = .ok (.iconst 0, 1) := by decide +kernel
theorem dX9_map_86 : decode cX9_map 86 = .ok (.ireturn, 1) := by decide +kernel
theorem dX9_map_87 : decode cX9_map 87 = .ok (.iinc 3 1, 3) := by decide +kernel
theorem dX9_map_90 : decode cX9_map 90 = .ok (.goto (-45), 3) := by decide +kernel
theorem dX9_map_93 : decode cX9_map 93 = .ok (.aload_n 0, 1) := by decide +kernel
theorem dX9_map_94 : decode cX9_map 94 = .ok (.iload_n 1, 1) := by decide +kernel
theorem dX9_map_95 : decode cX9_map 95 = .ok (.putfield 43, 3) := by decide +kernel
theorem dX9_map_98 : decode cX9_map 98 = .ok (.aload_n 0, 1) := by decide +kernel
theorem dX9_map_99 : decode cX9_map 99 = .ok (.iload_n 2, 1) := by decide +kernel
theorem dX9_map_100 : decode cX9_map 100 = .ok (.putfield 46, 3) := by decide +kernel
theorem dX9_map_103 : decode cX9_map 103 = .ok (.iconst 0, 1) := by decide +kernel
theorem dX9_map_104 : decode cX9_map 104 = .ok (.istore_n 3, 1) := by decide +kernel
theorem dX9_map_105 : decode cX9_map 105 = .ok (.iload_n 3, 1) := by decide +kernel
theorem dX9_map_106 : decode cX9_map 106 = .ok (.aload_n 0, 1) := by decide +kernel
theorem dX9_map_107 : decode cX9_map 107 = .ok (.getfield 18, 3) := by decide +kernel
theorem dX9_map_110 : decode cX9_map 110 = .ok (.if_icmp .ge 32, 3) := by decide +kernel
theorem dX9_map_113 : decode cX9_map 113 = .ok (.aload_n 0, 1) := by decide +kernel
theorem dX9_map_114 : decode cX9_map 114 = .ok (.getfield 27, 3) := by decide +kernel
theorem dX9_map_117 : decode cX9_map 117 = .ok (.iload_n 3, 1) := by decide +kernel
theorem dX9_map_118 : decode cX9_map 118 = .ok (.aload_n 0, 1) := by decide +kernel
theorem dX9_map_119 : decode cX9_map 119 = .ok (.getfield 14, 3) := by decide +kernel
theorem dX9_map_122 : decode cX9_map 122 = .ok (.iload_n 3, 1) := by decide +kernel
theorem dX9_map_123 : decode cX9_map 123 = .ok (.baload, 1) := by decide +kernel
theorem dX9_map_124 : decode cX9_map 124 = .ok (.sipush 255, 3) := by decide +kernel
theorem dX9_map_127 : decode cX9_map 127 = .ok (.iand, 1) := by decide +kernel
theorem dX9_map_128 : decode cX9_map 128 = .ok (.iastore, 1) := by decide +kernel
theorem dX9_map_129 : decode cX9_map 129 = .ok (.aload_n 0, 1) := by decide +kernel
theorem dX9_map_130 : decode cX9_map 130 = .ok (.getfield 34, 3) := by decide +kernel
theorem dX9_map_133 : decode cX9_map 133 = .ok (.iload_n 3, 1) := by decide +kernel
theorem dX9_map_134 : decode cX9_map 134 = .ok (.iconst 0, 1) := by decide +kernel
theorem dX9_map_135 : decode cX9_map 135 = .ok (.iastore, 1) := by decide +kernel
theorem dX9_map_136 : decode cX9_map 136 = .ok (.iinc 3 1, 3) := by decide +kernel
theorem dX9_map_139 : decode cX9_map 139 = .ok (.goto (-34), 3) := by decide +kernel
theorem dX9_map_142 : decode cX9_map 142 = .ok (.aload_n 0, 1) := by decide +kernel
theorem dX9_map_143 : decode cX9_map 143 = .ok (.iconst 0, 1) := by decide +kernel
theorem dX9_map_144 : decode cX9_map 144 = .ok (.putfield 115, 3) := by decide +kernel
theorem dX9_map_147 : decode cX9_map 147 = .ok (.aload_n 0, 1) := by decide +kernel
theorem dX9_map_148 : decode cX9_map 148 = .ok (.iconst 0, 1) := by decide +kernel
theorem dX9_map_149 : decode cX9_map 149 = .ok (.putfield 118, 3) := by decide +kernel
theorem dX9_map_152 : decode cX9_map 152 = .ok (.aload_n 0, 1) := by decide +kernel
theorem dX9_map_153 : decode cX9_map 153 = .ok (.iconst (-1), 1) := by decide +kernel
theorem dX9_map_154 : decode cX9_map 154 = .ok (.invokevirtual 105, 3) := by decide +kernel
theorem dX9_map_157 : decode cX9_map 157 = .ok (.iconst 1, 1) := by decide +kernel
theorem dX9_map_158 : decode cX9_map 158 = .ok (.ireturn, 1) := by decide +kernel
theorem dX9_meter_0 : decode cX9_meter 0 = .ok (.aload_n 0, 1) := by decide +kernel
theorem dX9_meter_1 : decode cX9_meter 1 = .ok (.iconst 0, 1) := by decide +kernel
theorem dX9_meter_2 : decode cX9_meter 2 = .ok (.putfield 1, 3) := by decide +kernel
theorem dX9_meter_5 : decode cX9_meter 5 = .ok (.iload_n 1, 1) := by decide +kernel
theorem dX9_meter_6 : decode cX9_meter 6 = .ok (.ifCond .lt 28, 3) := by decide +kernel
theorem dX9_meter_9 : decode cX9_meter 9 = .ok (.iload_n 1, 1) := by decide +kernel
theorem dX9_meter_10 : decode cX9_meter 10 = .ok (.bipush 20, 2) := by decide +kernel
theorem dX9_meter_12 : decode cX9_meter 12 = .ok (.if_icmp .gt 22, 3) := by decide +kernel
theorem dX9_meter_15 : decode cX9_meter 15 = .ok (.iload_n 2, 1) := by decide +kernel
theorem dX9_meter_16 : decode cX9_meter 16 = .ok (.iconst 1, 1) := by decide +kernel
theorem dX9_meter_17 : decode cX9_meter 17 = .ok (.if_icmp .lt 17, 3) := by decide +kernel
theorem dX9_meter_20 : decode cX9_meter 20 = .ok (.iload_n 2, 1) := by decide +kernel
theorem dX9_meter_21 : decode cX9_meter 21 = .ok (.iconst 3, 1) := by decide +kernel
theorem dX9_meter_22 : decode cX9_meter 22 = .ok (.if_icmp .gt 12, 3) := by decide +kernel
theorem dX9_meter_25 : decode cX9_meter 25 = .ok (.iload_n 3, 1) := by decide +kernel
theorem dX9_meter_26 : decode cX9_meter 26 = .ok (.ifCond .lt 8, 3) := by decide +kernel
theorem dX9_meter_29 : decode cX9_meter 29 = .ok (.iload_n 3, 1) := by decide +kernel
theorem dX9_meter_30 : decode cX9_meter 30 = .ok (.iconst 1, 1) := by decide +kernel
theorem dX9_meter_31 : decode cX9_meter 31 = .ok (.if_icmp .le 5, 3) := by decide +kernel
theorem dX9_meter_34 : decode cX9_meter 34 = .ok (.iconst 0, 1) := by decide +kernel
theorem dX9_meter_35 : decode cX9_meter 35 = .ok (.ireturn, 1) := by decide +kernel
theorem dX9_meter_36 : decode cX9_meter 36 = .ok (.aload_n 0, 1) := by decide +kernel
theorem dX9_meter_37 : decode cX9_meter 37 = .ok (.iload_n 1, 1) := by decide +kernel
theorem dX9_meter_38 : decode cX9_meter 38 = .ok (.putfield 121, 3) := by decide +kernel
theorem dX9_meter_41 : decode cX9_meter 41 = .ok (.aload_n 0, 1) := by decide +kernel
theorem dX9_meter_42 : decode cX9_meter 42 = .ok (.iload_n 2, 1) := by decide +kernel
theorem dX9_meter_43 : decode cX9_meter 43 = .ok (.putfield 49, 3) := by decide +kernel
theorem dX9_meter_46 : decode cX9_meter 46 = .ok (.aload_n 0, 1) := by decide +kernel
theorem dX9_meter_47 : decode cX9_meter 47 = .ok (.iload_n 3, 1) := by decide +kernel
theorem dX9_meter_48 : decode cX9_meter 48 = .ok (.putfield 124, 3) := by decide +kernel
theorem dX9_meter_51 : decode cX9_meter 51 = .ok (.iconst 1, 1) := by decide +kernel
theorem dX9_meter_52 : decode cX9_meter 52 = .ok (.ireturn, 1) := by decide +kernel
theorem dX9_size_0 : decode cX9_size 0 = .ok (.iload_n 0, 1) := by decide +kernel
theorem dX9_size_1 : decode cX9_size 1 = .ok (.ifCond .ge 8, 3) := by decide +kernel
theorem dX9_size_4 : decode cX9_size 4 = .ok (.iload_n 0, 1) := by decide +kernel
theorem dX9_size_5 : decode cX9_size 5 = .ok (.ineg, 1) := by decide +kernel
theorem dX9_size_6 : decode cX9_size 6 = .ok (.goto 4, 3) := by decide +kernel
theorem dX9_size_9 : decode cX9_size 9 = .ok (.iload_n 0, 1) := by decide +kernel
theorem dX9_size_10 : decode cX9_size 10 = .ok (.ireturn, 1) := by decide +kernel
theorem dX9_fits_0 : decode cX9_fits 0 = .ok (.aload_n 0, 1) := by decide +kernel
theorem dX9_fits_1 : decode cX9_fits 1 = .ok (.getfield 27, 3) := by decide +kernel
theorem dX9_fits_4 : decode cX9_fits 4 = .ok (.iload_n 1, 1) := by decide +kernel
theorem dX9_fits_5 : decode cX9_fits 5 = .ok (.iaload, 1) := by decide +kernel
theorem dX9_fits_6 : decode cX9_fits 6 = .ok (.sipush 255, 3) := by decide +kernel
theorem dX9_fits_9 : decode cX9_fits 9 = .ok (.if_icmp .eq 21, 3) := by decide +kernel
theorem dX9_fits_12 : decode cX9_fits 12 = .ok (.aload_n 0, 1) := by decide +kernel
theorem dX9_fits_13 : decode cX9_fits 13 = .ok (.getfield 27, 3) := by decide +kernel
theorem dX9_fits_16 : decode cX9_fits 16 = .ok (.iload_n 1, 1) := by decide +kernel
theorem dX9_fits_17 : decode cX9_fits 17 = .ok (.iaload, 1) := by decide +kernel
theorem dX9_fits_18 : decode cX9_fits 18 = .ok (.iload_n 2, 1) := by decide +kernel
theorem dX9_fits_19 : decode cX9_fits 19 = .ok (.isub, 1) := by decide +kernel
theorem dX9_fits_20 : decode cX9_fits 20 = .ok (.invokestatic 127, 3) := by decide +kernel
theorem dX9_fits_23 : decode cX9_fits 23 = .ok (.aload_n 0, 1) := by decide +kernel
theorem dX9_fits_24 : decode cX9_fits 24 = .ok (.getfield 121, 3) := by decide +kernel
theorem dX9_fits_27 : decode cX9_fits 27 = .ok (.if_icmp .gt 7, 3) := by decide +kernel
theorem dX9_fits_30 : decode cX9_fits 30 = .ok (.iconst 1, 1) := by decide +kernel
theorem dX9_fits_31 : decode cX9_fits 31 = .ok (.goto 4, 3) := by decide +kernel
theorem dX9_fits_34 : decode cX9_fits 34 = .ok (.iconst 0, 1) := by decide +kernel
theorem dX9_fits_35 : decode cX9_fits 35 = .ok (.ireturn, 1) := by decide +kernel
theorem dX9_fly_0 : decode cX9_fly 0 = .ok (.iconst 0, 1) := by decide +kernel
theorem dX9_fly_1 : decode cX9_fly 1 = .ok (.istore_n 2, 1) := by decide +kernel
theorem dX9_fly_2 : decode cX9_fly 2 = .ok (.iload_n 2, 1) := by decide +kernel
theorem dX9_fly_3 : decode cX9_fly 3 = .ok (.sipush 144, 3) := by decide +kernel
theorem dX9_fly_6 : decode cX9_fly 6 = .ok (.if_icmp .ge 38, 3) := by decide +kernel
theorem dX9_fly_9 : decode cX9_fly 9 = .ok (.aload_n 0, 1) := by decide +kernel
theorem dX9_fly_10 : decode cX9_fly 10 = .ok (.getfield 52, 3) := by decide +kernel
theorem dX9_fly_13 : decode cX9_fly 13 = .ok (.iload_n 2, 1) := by decide +kernel
theorem dX9_fly_14 : decode cX9_fly 14 = .ok (.iload_n 2, 1) := by decide +kernel
theorem dX9_fly_15 : decode cX9_fly 15 = .ok (.aload_n 0, 1) := by decide +kernel
theorem dX9_fly_16 : decode cX9_fly 16 = .ok (.invokevirtual 108, 3) := by decide +kernel
theorem dX9_fly_19 : decode cX9_fly 19 = .ok (.if_icmp .ge 17, 3) := by decide +kernel
theorem dX9_fly_22 : decode cX9_fly 22 = .ok (.iload_n 1, 1) := by decide +kernel
theorem dX9_fly_23 : decode cX9_fly 23 = .ok (.iconst (-1), 1) := by decide +kernel
theorem dX9_fly_24 : decode cX9_fly 24 = .ok (.if_icmp .eq 8, 3) := by decide +kernel
theorem dX9_fly_27 : decode cX9_fly 27 = .ok (.iload_n 1, 1) := by decide +kernel
theorem dX9_fly_28 : decode cX9_fly 28 = .ok (.iload_n 2, 1) := by decide +kernel
theorem dX9_fly_29 : decode cX9_fly 29 = .ok (.if_icmp .ne 7, 3) := by decide +kernel
theorem dX9_fly_32 : decode cX9_fly 32 = .ok (.lconst 1, 1) := by decide +kernel
theorem dX9_fly_33 : decode cX9_fly 33 = .ok (.goto 4, 3) := by decide +kernel
theorem dX9_fly_36 : decode cX9_fly 36 = .ok (.lconst 0, 1) := by decide +kernel
theorem dX9_fly_37 : decode cX9_fly 37 = .ok (.lastore, 1) := by decide +kernel
theorem dX9_fly_38 : decode cX9_fly 38 = .ok (.iinc 2 1, 3) := by decide +kernel
theorem dX9_fly_41 : decode cX9_fly 41 = .ok (.goto (-39), 3) := by decide +kernel
theorem dX9_fly_44 : decode cX9_fly 44 = .ok (.aload_n 0, 1) := by decide +kernel
theorem dX9_fly_45 : decode cX9_fly 45 = .ok (.iconst 0, 1) := by decide +kernel
theorem dX9_fly_46 : decode cX9_fly 46 = .ok (.putfield 130, 3) := by decide +kernel
theorem dX9_fly_49 : decode cX9_fly 49 = .ok (.aload_n 0, 1) := by decide +kernel
theorem dX9_fly_50 : decode cX9_fly 50 = .ok (.iconst 0, 1) := by decide +kernel
theorem dX9_fly_51 : decode cX9_fly 51 = .ok (.putfield 133, 3) := by decide +kernel
theorem dX9_fly_54 : decode cX9_fly 54 = .ok (.aload_n 0, 1) := by decide +kernel
theorem dX9_fly_55 : decode cX9_fly 55 = .ok (.iload_n 1, 1) := by decide +kernel
theorem dX9_fly_56 : decode cX9_fly 56 = .ok (.putfield 136, 3) := by decide +kernel
theorem dX9_fly_59 : decode cX9_fly 59 = .ok (.return_, 1) := by decide +kernel
theorem dX9_begin_0 : decode cX9_begin 0 = .ok (.aload_n 0, 1) := by decide +kernel
theorem dX9_begin_1 : decode cX9_begin 1 = .ok (.iconst 0, 1) := by decide +kernel
theorem dX9_begin_2 : decode cX9_begin 2 = .ok (.putfield 1, 3) := by decide +kernel
theorem dX9_begin_5 : decode cX9_begin 5 = .ok (.iload_n 1, 1) := by decide +kernel
theorem dX9_begin_6 : decode cX9_begin 6 = .ok (.iconst (-1), 1) := by decide +kernel
theorem dX9_begin_7 : decode cX9_begin 7 = .ok (.if_icmp .eq 13, 3) := by decide +kernel
theorem dX9_begin_10 : decode cX9_begin 10 = .ok (.aload_n 0, 1) := by decide +kernel
theorem dX9_begin_11 : decode cX9_begin 11 = .ok (.iload_n 1, 1) := by decide +kernel
theorem dX9_begin_12 : decode cX9_begin 12 = .ok (.invokevirtual 139, 3) := by decide +kernel
theorem dX9_begin_15 : decode cX9_begin 15 = .ok (.ifCond .ne 5, 3) := by decide +kernel
theorem dX9_begin_18 : decode cX9_begin 18 = .ok (.iconst 0, 1) := by decide +kernel
theorem dX9_begin_19 : decode cX9_begin 19 = .ok (.ireturn, 1) := by decide +kernel
theorem dX9_begin_20 : decode cX9_begin 20 = .ok (.aload_n 0, 1) := by decide +kernel
theorem dX9_begin_21 : decode cX9_begin 21 = .ok (.iload_n 1, 1) := by decide +kernel
theorem dX9_begin_22 : decode cX9_begin 22 = .ok (.invokevirtual 105, 3) := by decide +kernel
theorem dX9_begin_25 : decode cX9_begin 25 = .ok (.iconst 1, 1) := by decide +kernel
theorem dX9_begin_26 : decode cX9_begin 26 = .ok (.ireturn, 1) := by decide +kernel
theorem dX9_withShare_0 : decode cX9_withShare 0 = .ok (.iconst 0, 1) := by decide +kernel
theorem dX9_withShare_1 : decode cX9_withShare 1 = .ok (.istore_n 1, 1) := by decide +kernel
theorem dX9_withShare_2 : decode cX9_withShare 2 = .ok (.iconst 0, 1) := by decide +kernel
theorem dX9_withShare_3 : decode cX9_withShare 3 = .ok (.istore_n 2, 1) := by decide +kernel
theorem dX9_withShare_4 : decode cX9_withShare 4 = .ok (.iload_n 2, 1) := by decide +kernel
theorem dX9_withShare_5 : decode cX9_withShare 5 = .ok (.aload_n 0, 1) := by decide +kernel
theorem dX9_withShare_6 : decode cX9_withShare 6 = .ok (.invokevirtual 108, 3) := by decide +kernel
theorem dX9_withShare_9 : decode cX9_withShare 9 = .ok (.if_icmp .ge 28, 3) := by decide +kernel
theorem dX9_withShare_12 : decode cX9_withShare 12 = .ok (.iload_n 1, 1) := by decide +kernel
theorem dX9_withShare_13 : decode cX9_withShare 13 = .ok (.aload_n 0, 1) := by decide +kernel
theorem dX9_withShare_14 : decode cX9_withShare 14 = .ok (.getfield 52, 3) := by decide +kernel
theorem dX9_withShare_17 : decode cX9_withShare 17 = .ok (.iload_n 2, 1) := by decide +kernel
theorem dX9_withShare_18 : decode cX9_withShare 18 = .ok (.laload, 1) := by decide +kernel
theorem dX9_withShare_19 : decode cX9_withShare 19 = .ok (.lconst 0, 1) := by decide +kernel
theorem dX9_withShare_20 : decode cX9_withShare 20 = .ok (.lcmp, 1) := by decide +kernel
theorem dX9_withShare_21 : decode cX9_withShare 21 = .ok (.ifCond .le 7, 3) := by decide +kernel
theorem dX9_withShare_24 : decode cX9_withShare 24 = .ok (.iconst 1, 1) := by decide +kernel
theorem dX9_withShare_25 : decode cX9_withShare 25 = .ok (.goto 4, 3) := by decide +kernel
theorem dX9_withShare_28 : decode cX9_withShare 28 = .ok (.iconst 0, 1) := by decide +kernel
theorem dX9_withShare_29 : decode cX9_withShare 29 = .ok (.iadd, 1) := by decide +kernel
theorem dX9_withShare_30 : decode cX9_withShare 30 = .ok (.istore_n 1, 1) := by decide +kernel
theorem dX9_withShare_31 : decode cX9_withShare 31 = .ok (.iinc 2 1, 3) := by decide +kernel
theorem dX9_withShare_34 : decode cX9_withShare 34 = .ok (.goto (-30), 3) := by decide +kernel
theorem dX9_withShare_37 : decode cX9_withShare 37 = .ok (.iload_n 1, 1) := by decide +kernel
theorem dX9_withShare_38 : decode cX9_withShare 38 = .ok (.ireturn, 1) := by decide +kernel
theorem dX9_weight_0 : decode cX9_weight 0 = .ok (.iload_n 1, 1) := by decide +kernel
theorem dX9_weight_1 : decode cX9_weight 1 = .ok (.ifCond .ne 10, 3) := by decide +kernel
theorem dX9_weight_4 : decode cX9_weight 4 = .ok (.aload_n 0, 1) := by decide +kernel
theorem dX9_weight_5 : decode cX9_weight 5 = .ok (.getfield 49, 3) := by decide +kernel
theorem dX9_weight_8 : decode cX9_weight 8 = .ok (.goto 7, 3) := by decide +kernel
theorem dX9_weight_11 : decode cX9_weight 11 = .ok (.aload_n 0, 1) := by decide +kernel
theorem dX9_weight_12 : decode cX9_weight 12 = .ok (.getfield 124, 3) := by decide +kernel
theorem dX9_weight_15 : decode cX9_weight 15 = .ok (.ireturn, 1) := by decide +kernel
theorem dX9_off_0 : decode cX9_off 0 = .ok (.iload_n 1, 1) := by decide +kernel
theorem dX9_off_1 : decode cX9_off 1 = .ok (.aload_n 0, 1) := by decide +kernel
theorem dX9_off_2 : decode cX9_off 2 = .ok (.getfield 43, 3) := by decide +kernel
theorem dX9_off_5 : decode cX9_off 5 = .ok (.irem, 1) := by decide +kernel
theorem dX9_off_6 : decode cX9_off 6 = .ok (.iload_n 2, 1) := by decide +kernel
theorem dX9_off_7 : decode cX9_off 7 = .ok (.iadd, 1) := by decide +kernel
theorem dX9_off_8 : decode cX9_off 8 = .ok (.istore 4, 2) := by decide +kernel
theorem dX9_off_10 : decode cX9_off 10 = .ok (.iload_n 1, 1) := by decide +kernel
theorem dX9_off_11 : decode cX9_off 11 = .ok (.aload_n 0, 1) := by decide +kernel
theorem dX9_off_12 : decode cX9_off 12 = .ok (.getfield 43, 3) := by decide +kernel
theorem dX9_off_15 : decode cX9_off 15 = .ok (.idiv, 1) := by decide +kernel
theorem dX9_off_16 : decode cX9_off 16 = .ok (.iload_n 3, 1) := by decide +kernel
theorem dX9_off_17 : decode cX9_off 17 = .ok (.iadd, 1) := by decide +kernel
theorem dX9_off_18 : decode cX9_off 18 = .ok (.istore 5, 2) := by decide +kernel
theorem dX9_off_20 : decode cX9_off 20 = .ok (.iload 4, 2) := by decide +kernel
theorem dX9_off_22 : decode cX9_off 22 = .ok (.ifCond .lt 26, 3) := by decide +kernel
theorem dX9_off_25 : decode cX9_off 25 = .ok (.iload 4, 2) := by decide +kernel
theorem dX9_off_27 : decode cX9_off 27 = .ok (.aload_n 0, 1) := by decide +kernel
theorem dX9_off_28 : decode cX9_off 28 = .ok (.getfield 43, 3) := by decide +kernel
theorem dX9_off_31 : decode cX9_off 31 = .ok (.if_icmp .ge 17, 3) := by decide +kernel
theorem dX9_off_34 : decode cX9_off 34 = .ok (.iload 5, 2) := by decide +kernel
theorem dX9_off_36 : decode cX9_off 36 = .ok (.ifCond .lt 12, 3) := by decide +kernel
theorem dX9_off_39 : decode cX9_off 39 = .ok (.iload 5, 2) := by decide +kernel
theorem dX9_off_41 : decode cX9_off 41 = .ok (.aload_n 0, 1) := by decide +kernel
theorem dX9_off_42 : decode cX9_off 42 = .ok (.getfield 46, 3) := by decide +kernel
theorem dX9_off_45 : decode cX9_off 45 = .ok (.if_icmp .lt 7, 3) := by decide +kernel
theorem dX9_off_48 : decode cX9_off 48 = .ok (.iconst (-1), 1) := by decide +kernel
theorem dX9_off_49 : decode cX9_off 49 = .ok (.goto 13, 3) := by decide +kernel
theorem dX9_off_52 : decode cX9_off 52 = .ok (.aload_n 0, 1) := by decide +kernel
theorem dX9_off_53 : decode cX9_off 53 = .ok (.getfield 43, 3) := by decide +kernel
theorem dX9_off_56 : decode cX9_off 56 = .ok (.iload 5, 2) := by decide +kernel
theorem dX9_off_58 : decode cX9_off 58 = .ok (.imul, 1) := by decide +kernel
theorem dX9_off_59 : decode cX9_off 59 = .ok (.iload 4, 2) := by decide +kernel
theorem dX9_off_61 : decode cX9_off 61 = .ok (.iadd, 1) := by decide +kernel
theorem dX9_off_62 : decode cX9_off 62 = .ok (.ireturn, 1) := by decide +kernel
theorem dX9_move_0 : decode cX9_move 0 = .ok (.aload_n 0, 1) := by decide +kernel
theorem dX9_move_1 : decode cX9_move 1 = .ok (.iconst 0, 1) := by decide +kernel
theorem dX9_move_2 : decode cX9_move 2 = .ok (.putfield 1, 3) := by decide +kernel
theorem dX9_move_5 : decode cX9_move 5 = .ok (.aload_n 0, 1) := by decide +kernel
theorem dX9_move_6 : decode cX9_move 6 = .ok (.getfield 130, 3) := by decide +kernel
theorem dX9_move_9 : decode cX9_move 9 = .ok (.bipush 12, 2) := by decide +kernel
theorem dX9_move_11 : decode cX9_move 11 = .ok (.if_icmp .eq 25, 3) := by decide +kernel
theorem dX9_move_14 : decode cX9_move 14 = .ok (.iload_n 1, 1) := by decide +kernel
theorem dX9_move_15 : decode cX9_move 15 = .ok (.bipush (-5), 2) := by decide +kernel
theorem dX9_move_17 : decode cX9_move 17 = .ok (.if_icmp .lt 19, 3) := by decide +kernel
theorem dX9_move_20 : decode cX9_move 20 = .ok (.iload_n 1, 1) := by decide +kernel
theorem dX9_move_21 : decode cX9_move 21 = .ok (.iconst 5, 1) := by decide +kernel
theorem dX9_move_22 : decode cX9_move 22 = .ok (.if_icmp .gt 14, 3) := by decide +kernel
theorem dX9_move_25 : decode cX9_move 25 = .ok (.iload_n 2, 1) := by decide +kernel
theorem dX9_move_26 : decode cX9_move 26 = .ok (.bipush (-5), 2) := by decide +kernel
theorem dX9_move_28 : decode cX9_move 28 = .ok (.if_icmp .lt 8, 3) := by decide +kernel
theorem dX9_move_31 : decode cX9_move 31 = .ok (.iload_n 2, 1) := by decide +kernel
theorem dX9_move_32 : decode cX9_move 32 = .ok (.iconst 5, 1) := by decide +kernel
theorem dX9_move_33 : decode cX9_move 33 = .ok (.if_icmp .le 5, 3) := by decide +kernel
theorem dX9_move_36 : decode cX9_move 36 = .ok (.iconst (-1), 1) := by decide +kernel
theorem dX9_move_37 : decode cX9_move 37 = .ok (.ireturn, 1) := by decide +kernel
theorem dX9_move_38 : decode cX9_move 38 = .ok (.iconst 0, 1) := by decide +kernel
theorem dX9_move_39 : decode cX9_move 39 = .ok (.istore_n 3, 1) := by decide +kernel
theorem dX9_move_40 : decode cX9_move 40 = .ok (.iload_n 3, 1) := by decide +kernel
theorem dX9_move_41 : decode cX9_move 41 = .ok (.aload_n 0, 1) := by decide +kernel
theorem dX9_move_42 : decode cX9_move 42 = .ok (.invokevirtual 108, 3) := by decide +kernel
theorem dX9_move_45 : decode cX9_move 45 = .ok (.if_icmp .ge 16, 3) := by decide +kernel
theorem dX9_move_48 : decode cX9_move 48 = .ok (.aload_n 0, 1) := by decide +kernel
theorem dX9_move_49 : decode cX9_move 49 = .ok (.getfield 56, 3) := by decide +kernel
theorem dX9_move_52 : decode cX9_move 52 = .ok (.iload_n 3, 1) := by decide +kernel
theorem dX9_move_53 : decode cX9_move 53 = .ok (.lconst 0, 1) := by decide +kernel
theorem dX9_move_54 : decode cX9_move 54 = .ok (.lastore, 1) := by decide +kernel
theorem dX9_move_55 : decode cX9_move 55 = .ok (.iinc 3 1, 3) := by decide +kernel
theorem dX9_move_58 : decode cX9_move 58 = .ok (.goto (-18), 3) := by decide +kernel
theorem dX9_move_61 : decode cX9_move 61 = .ok (.iconst 0, 1) := by decide +kernel
theorem dX9_move_62 : decode cX9_move 62 = .ok (.istore_n 3, 1) := by decide +kernel
theorem dX9_move_63 : decode cX9_move 63 = .ok (.iload_n 3, 1) := by decide +kernel
theorem dX9_move_64 : decode cX9_move 64 = .ok (.aload_n 0, 1) := by decide +kernel
theorem dX9_move_65 : decode cX9_move 65 = .ok (.invokevirtual 108, 3) := by decide +kernel
theorem dX9_move_68 : decode cX9_move 68 = .ok (.if_icmp .ge 91, 3) := by decide +kernel
theorem dX9_move_71 : decode cX9_move 71 = .ok (.iconst (-1), 1) := by decide +kernel
theorem dX9_move_72 : decode cX9_move 72 = .ok (.istore 4, 2) := by decide +kernel
theorem dX9_move_74 : decode cX9_move 74 = .ok (.iload 4, 2) := by decide +kernel
theorem dX9_move_76 : decode cX9_move 76 = .ok (.iconst 2, 1) := by decide +kernel
theorem dX9_move_77 : decode cX9_move 77 = .ok (.if_icmp .ge 76, 3) := by decide +kernel
theorem dX9_move_80 : decode cX9_move 80 = .ok (.iconst (-1), 1) := by decide +kernel
theorem dX9_move_81 : decode cX9_move 81 = .ok (.istore 5, 2) := by decide +kernel
theorem dX9_move_83 : decode cX9_move 83 = .ok (.iload 5, 2) := by decide +kernel
theorem dX9_move_85 : decode cX9_move 85 = .ok (.iconst 2, 1) := by decide +kernel
theorem dX9_move_86 : decode cX9_move 86 = .ok (.if_icmp .ge 61, 3) := by decide +kernel
theorem dX9_move_89 : decode cX9_move 89 = .ok (.aload_n 0, 1) := by decide +kernel
theorem dX9_move_90 : decode cX9_move 90 = .ok (.iload_n 3, 1) := by decide +kernel
theorem dX9_move_91 : decode cX9_move 91 = .ok (.iload_n 1, 1) := by decide +kernel
theorem dX9_move_92 : decode cX9_move 92 = .ok (.iload 4, 2) := by decide +kernel
theorem dX9_move_94 : decode cX9_move 94 = .ok (.iadd, 1) := by decide +kernel
theorem dX9_move_95 : decode cX9_move 95 = .ok (.iload_n 2, 1) := by decide +kernel
theorem dX9_move_96 : decode cX9_move 96 = .ok (.iload 5, 2) := by decide +kernel
theorem dX9_move_98 : decode cX9_move 98 = .ok (.iadd, 1) := by decide +kernel
theorem dX9_move_99 : decode cX9_move 99 = .ok (.invokevirtual 143, 3) := by decide +kernel
theorem dX9_move_102 : decode cX9_move 102 = .ok (.istore 6, 2) := by decide +kernel
theorem dX9_move_104 : decode cX9_move 104 = .ok (.iload 6, 2) := by decide +kernel
theorem dX9_move_106 : decode cX9_move 106 = .ok (.ifCond .lt 35, 3) := by decide +kernel
theorem dX9_move_109 : decode cX9_move 109 = .ok (.aload_n 0, 1) := by decide +kernel
theorem dX9_move_110 : decode cX9_move 110 = .ok (.getfield 56, 3) := by decide +kernel
theorem dX9_move_113 : decode cX9_move 113 = .ok (.iload 6, 2) := by decide +kernel
theorem dX9_move_115 : decode cX9_move 115 = .ok (.dup2, 1) := by decide +kernel
theorem dX9_move_116 : decode cX9_move 116 = .ok (.laload, 1) := by decide +kernel
theorem dX9_move_117 : decode cX9_move 117 = .ok (.aload_n 0, 1) := by decide +kernel
theorem dX9_move_118 : decode cX9_move 118 = .ok (.getfield 52, 3) := by decide +kernel
theorem dX9_move_121 : decode cX9_move 121 = .ok (.iload_n 3, 1) := by decide +kernel
theorem dX9_move_122 : decode cX9_move 122 = .ok (.laload, 1) := by decide +kernel
theorem dX9_move_123 : decode cX9_move 123 = .ok (.aload_n 0, 1) := by decide +kernel
theorem dX9_move_124 : decode cX9_move 124 = .ok (.iload 4, 2) := by decide +kernel
theorem dX9_move_126 : decode cX9_move 126 = .ok (.invokevirtual 147, 3) := by decide +kernel
theorem dX9_move_129 : decode cX9_move 129 = .ok (.i2l, 1) := by decide +kernel
theorem dX9_move_130 : decode cX9_move 130 = .ok (.lmul, 1) := by decide +kernel
theorem dX9_move_131 : decode cX9_move 131 = .ok (.aload_n 0, 1) := by decide +kernel
theorem dX9_move_132 : decode cX9_move 132 = .ok (.iload 5, 2) := by decide +kernel
theorem dX9_move_134 : decode cX9_move 134 = .ok (.invokevirtual 147, 3) := by decide +kernel
theorem dX9_move_137 : decode cX9_move 137 = .ok (.i2l, 1) := by decide +kernel
theorem dX9_move_138 : decode cX9_move 138 = .ok (.lmul, 1) := by decide +kernel
theorem dX9_move_139 : decode cX9_move 139 = .ok (.ladd, 1) := by decide +kernel
theorem dX9_move_140 : decode cX9_move 140 = .ok (.lastore, 1) := by decide +kernel
theorem dX9_move_141 : decode cX9_move 141 = .ok (.iinc 5 1, 3) := by decide +kernel
theorem dX9_move_144 : decode cX9_move 144 = .ok (.goto (-61), 3) := by decide +kernel
theorem dX9_move_147 : decode cX9_move 147 = .ok (.iinc 4 1, 3) := by decide +kernel
theorem dX9_move_150 : decode cX9_move 150 = .ok (.goto (-76), 3) := by decide +kernel
theorem dX9_move_153 : decode cX9_move 153 = .ok (.iinc 3 1, 3) := by decide +kernel
theorem dX9_move_156 : decode cX9_move 156 = .ok (.goto (-93), 3) := by decide +kernel
theorem dX9_move_159 : decode cX9_move 159 = .ok (.iconst 0, 1) := by decide +kernel
theorem dX9_move_160 : decode cX9_move 160 = .ok (.istore_n 3, 1) := by decide +kernel
theorem dX9_move_161 : decode cX9_move 161 = .ok (.iload_n 3, 1) := by decide +kernel
theorem dX9_move_162 : decode cX9_move 162 = .ok (.aload_n 0, 1) := by decide +kernel
theorem dX9_move_163 : decode cX9_move 163 = .ok (.invokevirtual 108, 3) := by decide +kernel
theorem dX9_move_166 : decode cX9_move 166 = .ok (.if_icmp .ge 21, 3) := by decide +kernel
theorem dX9_move_169 : decode cX9_move 169 = .ok (.aload_n 0, 1) := by decide +kernel
theorem dX9_move_170 : decode cX9_move 170 = .ok (.getfield 52, 3) := by decide +kernel
theorem dX9_move_173 : decode cX9_move 173 = .ok (.iload_n 3, 1) := by decide +kernel
theorem dX9_move_174 : decode cX9_move 174 = .ok (.aload_n 0, 1) := by decide +kernel
theorem dX9_move_175 : decode cX9_move 175 = .ok (.getfield 56, 3) := by decide +kernel
theorem dX9_move_178 : decode cX9_move 178 = .ok (.iload_n 3, 1) := by decide +kernel
theorem dX9_move_179 : decode cX9_move 179 = .ok (.laload, 1) := by decide +kernel
theorem dX9_move_180 : decode cX9_move 180 = .ok (.lastore, 1) := by decide +kernel
theorem dX9_move_181 : decode cX9_move 181 = .ok (.iinc 3 1, 3) := by decide +kernel
theorem dX9_move_184 : decode cX9_move 184 = .ok (.goto (-23), 3) := by decide +kernel
theorem dX9_move_187 : decode cX9_move 187 = .ok (.aload_n 0, 1) := by decide +kernel
theorem dX9_move_188 : decode cX9_move 188 = .ok (.invokevirtual 150, 3) := by decide +kernel
theorem dX9_move_191 : decode cX9_move 191 = .ok (.ifCond .ne 21, 3) := by decide +kernel
theorem dX9_move_194 : decode cX9_move 194 = .ok (.aload_n 0, 1) := by decide +kernel
theorem dX9_move_195 : decode cX9_move 195 = .ok (.dup, 1) := by decide +kernel
theorem dX9_move_196 : decode cX9_move 196 = .ok (.getfield 115, 3) := by decide +kernel
theorem dX9_move_199 : decode cX9_move 199 = .ok (.iconst 1, 1) := by decide +kernel
theorem dX9_move_200 : decode cX9_move 200 = .ok (.iadd, 1) := by decide +kernel
theorem dX9_move_201 : decode cX9_move 201 = .ok (.putfield 115, 3) := by decide +kernel
theorem dX9_move_204 : decode cX9_move 204 = .ok (.aload_n 0, 1) := by decide +kernel
theorem dX9_move_205 : decode cX9_move 205 = .ok (.iconst (-1), 1) := by decide +kernel
theorem dX9_move_206 : decode cX9_move 206 = .ok (.invokevirtual 105, 3) := by decide +kernel
theorem dX9_move_209 : decode cX9_move 209 = .ok (.bipush (-2), 2) := by decide +kernel
theorem dX9_move_211 : decode cX9_move 211 = .ok (.ireturn, 1) := by decide +kernel
theorem dX9_move_212 : decode cX9_move 212 = .ok (.aload_n 0, 1) := by decide +kernel
theorem dX9_move_213 : decode cX9_move 213 = .ok (.getfield 59, 3) := by decide +kernel
theorem dX9_move_216 : decode cX9_move 216 = .ok (.aload_n 0, 1) := by decide +kernel
theorem dX9_move_217 : decode cX9_move 217 = .ok (.getfield 130, 3) := by decide +kernel
theorem dX9_move_220 : decode cX9_move 220 = .ok (.iload_n 1, 1) := by decide +kernel
theorem dX9_move_221 : decode cX9_move 221 = .ok (.iastore, 1) := by decide +kernel
theorem dX9_move_222 : decode cX9_move 222 = .ok (.aload_n 0, 1) := by decide +kernel
theorem dX9_move_223 : decode cX9_move 223 = .ok (.getfield 62, 3) := by decide +kernel
theorem dX9_move_226 : decode cX9_move 226 = .ok (.aload_n 0, 1) := by decide +kernel
theorem dX9_move_227 : decode cX9_move 227 = .ok (.getfield 130, 3) := by decide +kernel
theorem dX9_move_230 : decode cX9_move 230 = .ok (.iload_n 2, 1) := by decide +kernel
theorem dX9_move_231 : decode cX9_move 231 = .ok (.iastore, 1) := by decide +kernel
theorem dX9_move_232 : decode cX9_move 232 = .ok (.aload_n 0, 1) := by decide +kernel
theorem dX9_move_233 : decode cX9_move 233 = .ok (.dup, 1) := by decide +kernel
theorem dX9_move_234 : decode cX9_move 234 = .ok (.getfield 130, 3) := by decide +kernel
theorem dX9_move_237 : decode cX9_move 237 = .ok (.iconst 1, 1) := by decide +kernel
theorem dX9_move_238 : decode cX9_move 238 = .ok (.iadd, 1) := by decide +kernel
theorem dX9_move_239 : decode cX9_move 239 = .ok (.putfield 130, 3) := by decide +kernel
theorem dX9_move_242 : decode cX9_move 242 = .ok (.aload_n 0, 1) := by decide +kernel
theorem dX9_move_243 : decode cX9_move 243 = .ok (.invokevirtual 150, 3) := by decide +kernel
theorem dX9_move_246 : decode cX9_move 246 = .ok (.ireturn, 1) := by decide +kernel
theorem dX9_read_0 : decode cX9_read 0 = .ok (.aload_n 0, 1) := by decide +kernel
theorem dX9_read_1 : decode cX9_read 1 = .ok (.iconst 0, 1) := by decide +kernel
theorem dX9_read_2 : decode cX9_read 2 = .ok (.putfield 1, 3) := by decide +kernel
theorem dX9_read_5 : decode cX9_read 5 = .ok (.iload_n 1, 1) := by decide +kernel
theorem dX9_read_6 : decode cX9_read 6 = .ok (.ifCond .lt 19, 3) := by decide +kernel
theorem dX9_read_9 : decode cX9_read 9 = .ok (.iload_n 1, 1) := by decide +kernel
theorem dX9_read_10 : decode cX9_read 10 = .ok (.sipush 250, 3) := by decide +kernel
theorem dX9_read_13 : decode cX9_read 13 = .ok (.if_icmp .gt 12, 3) := by decide +kernel
theorem dX9_read_16 : decode cX9_read 16 = .ok (.aload_n 0, 1) := by decide +kernel
theorem dX9_read_17 : decode cX9_read 17 = .ok (.getfield 133, 3) := by decide +kernel
theorem dX9_read_20 : decode cX9_read 20 = .ok (.bipush 40, 2) := by decide +kernel
theorem dX9_read_22 : decode cX9_read 22 = .ok (.if_icmp .ne 5, 3) := by decide +kernel
theorem dX9_read_25 : decode cX9_read 25 = .ok (.iconst (-1), 1) := by decide +kernel
theorem dX9_read_26 : decode cX9_read 26 = .ok (.ireturn, 1) := by decide +kernel
theorem dX9_read_27 : decode cX9_read 27 = .ok (.iconst 0, 1) := by decide +kernel
theorem dX9_read_28 : decode cX9_read 28 = .ok (.istore_n 2, 1) := by decide +kernel
theorem dX9_read_29 : decode cX9_read 29 = .ok (.iload_n 2, 1) := by decide +kernel
theorem dX9_read_30 : decode cX9_read 30 = .ok (.aload_n 0, 1) := by decide +kernel
theorem dX9_read_31 : decode cX9_read 31 = .ok (.invokevirtual 108, 3) := by decide +kernel
theorem dX9_read_34 : decode cX9_read 34 = .ok (.if_icmp .ge 34, 3) := by decide +kernel
theorem dX9_read_37 : decode cX9_read 37 = .ok (.aload_n 0, 1) := by decide +kernel
theorem dX9_read_38 : decode cX9_read 38 = .ok (.getfield 52, 3) := by decide +kernel
theorem dX9_read_41 : decode cX9_read 41 = .ok (.iload_n 2, 1) := by decide +kernel
theorem dX9_read_42 : decode cX9_read 42 = .ok (.aload_n 0, 1) := by decide +kernel
theorem dX9_read_43 : decode cX9_read 43 = .ok (.iload_n 2, 1) := by decide +kernel
theorem dX9_read_44 : decode cX9_read 44 = .ok (.iload_n 1, 1) := by decide +kernel
theorem dX9_read_45 : decode cX9_read 45 = .ok (.invokevirtual 153, 3) := by decide +kernel
theorem dX9_read_48 : decode cX9_read 48 = .ok (.ifCond .eq 12, 3) := by decide +kernel
theorem dX9_read_51 : decode cX9_read 51 = .ok (.aload_n 0, 1) := by decide +kernel
theorem dX9_read_52 : decode cX9_read 52 = .ok (.getfield 52, 3) := by decide +kernel
theorem dX9_read_55 : decode cX9_read 55 = .ok (.iload_n 2, 1) := by decide +kernel
theorem dX9_read_56 : decode cX9_read 56 = .ok (.laload, 1) := by decide +kernel
theorem dX9_read_57 : decode cX9_read 57 = .ok (.goto 4, 3) := by decide +kernel
theorem dX9_read_60 : decode cX9_read 60 = .ok (.lconst 0, 1) := by decide +kernel
theorem dX9_read_61 : decode cX9_read 61 = .ok (.lastore, 1) := by decide +kernel
theorem dX9_read_62 : decode cX9_read 62 = .ok (.iinc 2 1, 3) := by decide +kernel
theorem dX9_read_65 : decode cX9_read 65 = .ok (.goto (-36), 3) := by decide +kernel
theorem dX9_read_68 : decode cX9_read 68 = .ok (.aload_n 0, 1) := by decide +kernel
theorem dX9_read_69 : decode cX9_read 69 = .ok (.invokevirtual 150, 3) := by decide +kernel
theorem dX9_read_72 : decode cX9_read 72 = .ok (.ifCond .ne 7, 3) := by decide +kernel
theorem dX9_read_75 : decode cX9_read 75 = .ok (.iconst 1, 1) := by decide +kernel
theorem dX9_read_76 : decode cX9_read 76 = .ok (.goto 4, 3) := by decide +kernel
theorem dX9_read_79 : decode cX9_read 79 = .ok (.iconst 0, 1) := by decide +kernel
theorem dX9_read_80 : decode cX9_read 80 = .ok (.istore_n 2, 1) := by decide +kernel
theorem dX9_read_81 : decode cX9_read 81 = .ok (.iload_n 2, 1) := by decide +kernel
theorem dX9_read_82 : decode cX9_read 82 = .ok (.ifCond .eq 84, 3) := by decide +kernel
theorem dX9_read_85 : decode cX9_read 85 = .ok (.aload_n 0, 1) := by decide +kernel
theorem dX9_read_86 : decode cX9_read 86 = .ok (.dup, 1) := by decide +kernel
theorem dX9_read_87 : decode cX9_read 87 = .ok (.getfield 115, 3) := by decide +kernel
theorem dX9_read_90 : decode cX9_read 90 = .ok (.iconst 1, 1) := by decide +kernel
theorem dX9_read_91 : decode cX9_read 91 = .ok (.iadd, 1) := by decide +kernel
theorem dX9_read_92 : decode cX9_read 92 = .ok (.putfield 115, 3) := by decide +kernel
theorem dX9_read_95 : decode cX9_read 95 = .ok (.aload_n 0, 1) := by decide +kernel
theorem dX9_read_96 : decode cX9_read 96 = .ok (.iconst (-1), 1) := by decide +kernel
theorem dX9_read_97 : decode cX9_read 97 = .ok (.invokevirtual 105, 3) := by decide +kernel
theorem dX9_read_100 : decode cX9_read 100 = .ok (.iconst 0, 1) := by decide +kernel
theorem dX9_read_101 : decode cX9_read 101 = .ok (.istore_n 3, 1) := by decide +kernel
theorem dX9_read_102 : decode cX9_read 102 = .ok (.iload_n 3, 1) := by decide +kernel
theorem dX9_read_103 : decode cX9_read 103 = .ok (.aload_n 0, 1) := by decide +kernel
theorem dX9_read_104 : decode cX9_read 104 = .ok (.invokevirtual 108, 3) := by decide +kernel
theorem dX9_read_107 : decode cX9_read 107 = .ok (.if_icmp .ge 29, 3) := by decide +kernel
theorem dX9_read_110 : decode cX9_read 110 = .ok (.aload_n 0, 1) := by decide +kernel
theorem dX9_read_111 : decode cX9_read 111 = .ok (.getfield 52, 3) := by decide +kernel
theorem dX9_read_114 : decode cX9_read 114 = .ok (.iload_n 3, 1) := by decide +kernel
theorem dX9_read_115 : decode cX9_read 115 = .ok (.aload_n 0, 1) := by decide +kernel
theorem dX9_read_116 : decode cX9_read 116 = .ok (.iload_n 3, 1) := by decide +kernel
theorem dX9_read_117 : decode cX9_read 117 = .ok (.iload_n 1, 1) := by decide +kernel
theorem dX9_read_118 : decode cX9_read 118 = .ok (.invokevirtual 153, 3) := by decide +kernel
theorem dX9_read_121 : decode cX9_read 121 = .ok (.ifCond .eq 7, 3) := by decide +kernel
theorem dX9_read_124 : decode cX9_read 124 = .ok (.lconst 1, 1) := by decide +kernel
theorem dX9_read_125 : decode cX9_read 125 = .ok (.goto 4, 3) := by decide +kernel
theorem dX9_read_128 : decode cX9_read 128 = .ok (.lconst 0, 1) := by decide +kernel
theorem dX9_read_129 : decode cX9_read 129 = .ok (.lastore, 1) := by decide +kernel
theorem dX9_read_130 : decode cX9_read 130 = .ok (.iinc 3 1, 3) := by decide +kernel
theorem dX9_read_133 : decode cX9_read 133 = .ok (.goto (-31), 3) := by decide +kernel
theorem dX9_read_136 : decode cX9_read 136 = .ok (.aload_n 0, 1) := by decide +kernel
theorem dX9_read_137 : decode cX9_read 137 = .ok (.invokevirtual 150, 3) := by decide +kernel
theorem dX9_read_140 : decode cX9_read 140 = .ok (.ifCond .ne 26, 3) := by decide +kernel
theorem dX9_read_143 : decode cX9_read 143 = .ok (.iconst 0, 1) := by decide +kernel
theorem dX9_read_144 : decode cX9_read 144 = .ok (.istore_n 3, 1) := by decide +kernel
theorem dX9_read_145 : decode cX9_read 145 = .ok (.iload_n 3, 1) := by decide +kernel
theorem dX9_read_146 : decode cX9_read 146 = .ok (.aload_n 0, 1) := by decide +kernel
theorem dX9_read_147 : decode cX9_read 147 = .ok (.invokevirtual 108, 3) := by decide +kernel
theorem dX9_read_150 : decode cX9_read 150 = .ok (.if_icmp .ge 16, 3) := by decide +kernel
theorem dX9_read_153 : decode cX9_read 153 = .ok (.aload_n 0, 1) := by decide +kernel
theorem dX9_read_154 : decode cX9_read 154 = .ok (.getfield 52, 3) := by decide +kernel
theorem dX9_read_157 : decode cX9_read 157 = .ok (.iload_n 3, 1) := by decide +kernel
theorem dX9_read_158 : decode cX9_read 158 = .ok (.lconst 1, 1) := by decide +kernel
theorem dX9_read_159 : decode cX9_read 159 = .ok (.lastore, 1) := by decide +kernel
theorem dX9_read_160 : decode cX9_read 160 = .ok (.iinc 3 1, 3) := by decide +kernel
theorem dX9_read_163 : decode cX9_read 163 = .ok (.goto (-18), 3) := by decide +kernel
theorem dX9_read_166 : decode cX9_read 166 = .ok (.aload_n 0, 1) := by decide +kernel
theorem dX9_read_167 : decode cX9_read 167 = .ok (.getfield 65, 3) := by decide +kernel
theorem dX9_read_170 : decode cX9_read 170 = .ok (.aload_n 0, 1) := by decide +kernel
theorem dX9_read_171 : decode cX9_read 171 = .ok (.getfield 133, 3) := by decide +kernel
theorem dX9_read_174 : decode cX9_read 174 = .ok (.aload_n 0, 1) := by decide +kernel
theorem dX9_read_175 : decode cX9_read 175 = .ok (.getfield 130, 3) := by decide +kernel
theorem dX9_read_178 : decode cX9_read 178 = .ok (.iastore, 1) := by decide +kernel
theorem dX9_read_179 : decode cX9_read 179 = .ok (.aload_n 0, 1) := by decide +kernel
theorem dX9_read_180 : decode cX9_read 180 = .ok (.getfield 68, 3) := by decide +kernel
theorem dX9_read_183 : decode cX9_read 183 = .ok (.aload_n 0, 1) := by decide +kernel
theorem dX9_read_184 : decode cX9_read 184 = .ok (.getfield 133, 3) := by decide +kernel
theorem dX9_read_187 : decode cX9_read 187 = .ok (.iload_n 1, 1) := by decide +kernel
theorem dX9_read_188 : decode cX9_read 188 = .ok (.iastore, 1) := by decide +kernel
theorem dX9_read_189 : decode cX9_read 189 = .ok (.aload_n 0, 1) := by decide +kernel
theorem dX9_read_190 : decode cX9_read 190 = .ok (.dup, 1) := by decide +kernel
theorem dX9_read_191 : decode cX9_read 191 = .ok (.getfield 133, 3) := by decide +kernel
theorem dX9_read_194 : decode cX9_read 194 = .ok (.iconst 1, 1) := by decide +kernel
theorem dX9_read_195 : decode cX9_read 195 = .ok (.iadd, 1) := by decide +kernel
theorem dX9_read_196 : decode cX9_read 196 = .ok (.putfield 133, 3) := by decide +kernel
theorem dX9_read_199 : decode cX9_read 199 = .ok (.iload_n 2, 1) := by decide +kernel
theorem dX9_read_200 : decode cX9_read 200 = .ok (.ifCond .eq 8, 3) := by decide +kernel
theorem dX9_read_203 : decode cX9_read 203 = .ok (.bipush (-2), 2) := by decide +kernel
theorem dX9_read_205 : decode cX9_read 205 = .ok (.goto 7, 3) := by decide +kernel
theorem dX9_read_208 : decode cX9_read 208 = .ok (.aload_n 0, 1) := by decide +kernel
theorem dX9_read_209 : decode cX9_read 209 = .ok (.invokevirtual 150, 3) := by decide +kernel
theorem dX9_read_212 : decode cX9_read 212 = .ok (.ireturn, 1) := by decide +kernel
theorem dX9_common_0 : decode cX9_common 0 = .ok (.lload_n 0, 1) := by decide +kernel
theorem dX9_common_1 : decode cX9_common 1 = .ok (.lstore 4, 2) := by decide +kernel
theorem dX9_common_3 : decode cX9_common 3 = .ok (.lload_n 2, 1) := by decide +kernel
theorem dX9_common_4 : decode cX9_common 4 = .ok (.lstore 6, 2) := by decide +kernel
theorem dX9_common_6 : decode cX9_common 6 = .ok (.lload 6, 2) := by decide +kernel
theorem dX9_common_8 : decode cX9_common 8 = .ok (.lconst 0, 1) := by decide +kernel
theorem dX9_common_9 : decode cX9_common 9 = .ok (.lcmp, 1) := by decide +kernel
theorem dX9_common_10 : decode cX9_common 10 = .ok (.ifCond .eq 21, 3) := by decide +kernel
theorem dX9_common_13 : decode cX9_common 13 = .ok (.lload 4, 2) := by decide +kernel
theorem dX9_common_15 : decode cX9_common 15 = .ok (.lload 6, 2) := by decide +kernel
theorem dX9_common_17 : decode cX9_common 17 = .ok (.lrem, 1) := by decide +kernel
theorem dX9_common_18 : decode cX9_common 18 = .ok (.lstore 8, 2) := by decide +kernel
theorem dX9_common_20 : decode cX9_common 20 = .ok (.lload 6, 2) := by decide +kernel
theorem dX9_common_22 : decode cX9_common 22 = .ok (.lstore 4, 2) := by decide +kernel
theorem dX9_common_24 : decode cX9_common 24 = .ok (.lload 8, 2) := by decide +kernel
theorem dX9_common_26 : decode cX9_common 26 = .ok (.lstore 6, 2) := by decide +kernel
theorem dX9_common_28 : decode cX9_common 28 = .ok (.goto (-22), 3) := by decide +kernel
theorem dX9_common_31 : decode cX9_common 31 = .ok (.lload 4, 2) := by decide +kernel
theorem dX9_common_33 : decode cX9_common 33 = .ok (.lreturn, 1) := by decide +kernel
theorem dX9_share_0 : decode cX9_share 0 = .ok (.aload_n 0, 1) := by decide +kernel
theorem dX9_share_1 : decode cX9_share 1 = .ok (.aload_n 0, 1) := by decide +kernel
theorem dX9_share_2 : decode cX9_share 2 = .ok (.iload_n 1, 1) := by decide +kernel
theorem dX9_share_3 : decode cX9_share 3 = .ok (.invokevirtual 139, 3) := by decide +kernel
theorem dX9_share_6 : decode cX9_share 6 = .ok (.ifCond .eq 12, 3) := by decide +kernel
theorem dX9_share_9 : decode cX9_share 9 = .ok (.iload_n 2, 1) := by decide +kernel
theorem dX9_share_10 : decode cX9_share 10 = .ok (.ifCond .lt 8, 3) := by decide +kernel
theorem dX9_share_13 : decode cX9_share 13 = .ok (.iload_n 2, 1) := by decide +kernel
theorem dX9_share_14 : decode cX9_share 14 = .ok (.iconst 1, 1) := by decide +kernel
theorem dX9_share_15 : decode cX9_share 15 = .ok (.if_icmp .le 7, 3) := by decide +kernel
theorem dX9_share_18 : decode cX9_share 18 = .ok (.iconst 1, 1) := by decide +kernel
theorem dX9_share_19 : decode cX9_share 19 = .ok (.goto 4, 3) := by decide +kernel
theorem dX9_share_22 : decode cX9_share 22 = .ok (.iconst 0, 1) := by decide +kernel
theorem dX9_share_23 : decode cX9_share 23 = .ok (.invokevirtual 157, 3) := by decide +kernel
theorem dX9_share_26 : decode cX9_share 26 = .ok (.ifCond .eq 5, 3) := by decide +kernel
theorem dX9_share_29 : decode cX9_share 29 = .ok (.lconst 0, 1) := by decide +kernel
theorem dX9_share_30 : decode cX9_share 30 = .ok (.lreturn, 1) := by decide +kernel
theorem dX9_share_31 : decode cX9_share 31 = .ok (.lconst 0, 1) := by decide +kernel
theorem dX9_share_32 : decode cX9_share 32 = .ok (.lstore_n 3, 1) := by decide +kernel
theorem dX9_share_33 : decode cX9_share 33 = .ok (.iconst 0, 1) := by decide +kernel
theorem dX9_share_34 : decode cX9_share 34 = .ok (.istore 5, 2) := by decide +kernel
theorem dX9_share_36 : decode cX9_share 36 = .ok (.iload 5, 2) := by decide +kernel
theorem dX9_share_38 : decode cX9_share 38 = .ok (.aload_n 0, 1) := by decide +kernel
theorem dX9_share_39 : decode cX9_share 39 = .ok (.invokevirtual 108, 3) := by decide +kernel
theorem dX9_share_42 : decode cX9_share 42 = .ok (.if_icmp .ge 19, 3) := by decide +kernel
theorem dX9_share_45 : decode cX9_share 45 = .ok (.lload_n 3, 1) := by decide +kernel
theorem dX9_share_46 : decode cX9_share 46 = .ok (.aload_n 0, 1) := by decide +kernel
theorem dX9_share_47 : decode cX9_share 47 = .ok (.getfield 52, 3) := by decide +kernel
theorem dX9_share_50 : decode cX9_share 50 = .ok (.iload 5, 2) := by decide +kernel
theorem dX9_share_52 : decode cX9_share 52 = .ok (.laload, 1) := by decide +kernel
theorem dX9_share_53 : decode cX9_share 53 = .ok (.ladd, 1) := by decide +kernel
theorem dX9_share_54 : decode cX9_share 54 = .ok (.lstore_n 3, 1) := by decide +kernel
theorem dX9_share_55 : decode cX9_share 55 = .ok (.iinc 5 1, 3) := by decide +kernel
theorem dX9_share_58 : decode cX9_share 58 = .ok (.goto (-22), 3) := by decide +kernel
theorem dX9_share_61 : decode cX9_share 61 = .ok (.aload_n 0, 1) := by decide +kernel
theorem dX9_share_62 : decode cX9_share 62 = .ok (.getfield 52, 3) := by decide +kernel
theorem dX9_share_65 : decode cX9_share 65 = .ok (.iload_n 1, 1) := by decide +kernel
theorem dX9_share_66 : decode cX9_share 66 = .ok (.laload, 1) := by decide +kernel
theorem dX9_share_67 : decode cX9_share 67 = .ok (.lload_n 3, 1) := by decide +kernel
theorem dX9_share_68 : decode cX9_share 68 = .ok (.invokestatic 161, 3) := by decide +kernel
theorem dX9_share_71 : decode cX9_share 71 = .ok (.lstore 5, 2) := by decide +kernel
theorem dX9_share_73 : decode cX9_share 73 = .ok (.iload_n 2, 1) := by decide +kernel
theorem dX9_share_74 : decode cX9_share 74 = .ok (.ifCond .ne 15, 3) := by decide +kernel
theorem dX9_share_77 : decode cX9_share 77 = .ok (.aload_n 0, 1) := by decide +kernel
theorem dX9_share_78 : decode cX9_share 78 = .ok (.getfield 52, 3) := by decide +kernel
theorem dX9_share_81 : decode cX9_share 81 = .ok (.iload_n 1, 1) := by decide +kernel
theorem dX9_share_82 : decode cX9_share 82 = .ok (.laload, 1) := by decide +kernel
theorem dX9_share_83 : decode cX9_share 83 = .ok (.lload 5, 2) := by decide +kernel
theorem dX9_share_85 : decode cX9_share 85 = .ok (.ldiv, 1) := by decide +kernel
theorem dX9_share_86 : decode cX9_share 86 = .ok (.goto 7, 3) := by decide +kernel
theorem dX9_share_89 : decode cX9_share 89 = .ok (.lload_n 3, 1) := by decide +kernel
theorem dX9_share_90 : decode cX9_share 90 = .ok (.lload 5, 2) := by decide +kernel
theorem dX9_share_92 : decode cX9_share 92 = .ok (.ldiv, 1) := by decide +kernel
theorem dX9_share_93 : decode cX9_share 93 = .ok (.lreturn, 1) := by decide +kernel
theorem dX9_likely_0 : decode cX9_likely 0 = .ok (.aload_n 0, 1) := by decide +kernel
theorem dX9_likely_1 : decode cX9_likely 1 = .ok (.iconst 0, 1) := by decide +kernel
theorem dX9_likely_2 : decode cX9_likely 2 = .ok (.putfield 1, 3) := by decide +kernel
theorem dX9_likely_5 : decode cX9_likely 5 = .ok (.iconst 0, 1) := by decide +kernel
theorem dX9_likely_6 : decode cX9_likely 6 = .ok (.istore_n 1, 1) := by decide +kernel
theorem dX9_likely_7 : decode cX9_likely 7 = .ok (.iconst 1, 1) := by decide +kernel
theorem dX9_likely_8 : decode cX9_likely 8 = .ok (.istore_n 2, 1) := by decide +kernel
theorem dX9_likely_9 : decode cX9_likely 9 = .ok (.iload_n 2, 1) := by decide +kernel
theorem dX9_likely_10 : decode cX9_likely 10 = .ok (.aload_n 0, 1) := by decide +kernel
theorem dX9_likely_11 : decode cX9_likely 11 = .ok (.invokevirtual 108, 3) := by decide +kernel
theorem dX9_likely_14 : decode cX9_likely 14 = .ok (.if_icmp .ge 27, 3) := by decide +kernel
theorem dX9_likely_17 : decode cX9_likely 17 = .ok (.aload_n 0, 1) := by decide +kernel
theorem dX9_likely_18 : decode cX9_likely 18 = .ok (.getfield 52, 3) := by decide +kernel
theorem dX9_likely_21 : decode cX9_likely 21 = .ok (.iload_n 2, 1) := by decide +kernel
theorem dX9_likely_22 : decode cX9_likely 22 = .ok (.laload, 1) := by decide +kernel
theorem dX9_likely_23 : decode cX9_likely 23 = .ok (.aload_n 0, 1) := by decide +kernel
theorem dX9_likely_24 : decode cX9_likely 24 = .ok (.getfield 52, 3) := by decide +kernel
theorem dX9_likely_27 : decode cX9_likely 27 = .ok (.iload_n 1, 1) := by decide +kernel
theorem dX9_likely_28 : decode cX9_likely 28 = .ok (.laload, 1) := by decide +kernel
theorem dX9_likely_29 : decode cX9_likely 29 = .ok (.lcmp, 1) := by decide +kernel
theorem dX9_likely_30 : decode cX9_likely 30 = .ok (.ifCond .le 5, 3) := by decide +kernel
theorem dX9_likely_33 : decode cX9_likely 33 = .ok (.iload_n 2, 1) := by decide +kernel
theorem dX9_likely_34 : decode cX9_likely 34 = .ok (.istore_n 1, 1) := by decide +kernel
theorem dX9_likely_35 : decode cX9_likely 35 = .ok (.iinc 2 1, 3) := by decide +kernel
theorem dX9_likely_38 : decode cX9_likely 38 = .ok (.goto (-29), 3) := by decide +kernel
theorem dX9_likely_41 : decode cX9_likely 41 = .ok (.iload_n 1, 1) := by decide +kernel
theorem dX9_likely_42 : decode cX9_likely 42 = .ok (.ireturn, 1) := by decide +kernel
theorem dX9_span_0 : decode cX9_span 0 = .ok (.aload_n 0, 1) := by decide +kernel
theorem dX9_span_1 : decode cX9_span 1 = .ok (.iconst 0, 1) := by decide +kernel
theorem dX9_span_2 : decode cX9_span 2 = .ok (.putfield 1, 3) := by decide +kernel
theorem dX9_span_5 : decode cX9_span 5 = .ok (.iload_n 1, 1) := by decide +kernel
theorem dX9_span_6 : decode cX9_span 6 = .ok (.ifCond .lt 8, 3) := by decide +kernel
theorem dX9_span_9 : decode cX9_span 9 = .ok (.iload_n 1, 1) := by decide +kernel
theorem dX9_span_10 : decode cX9_span 10 = .ok (.iconst 4, 1) := by decide +kernel
theorem dX9_span_11 : decode cX9_span 11 = .ok (.if_icmp .le 5, 3) := by decide +kernel
theorem dX9_span_14 : decode cX9_span 14 = .ok (.iconst (-1), 1) := by decide +kernel
theorem dX9_span_15 : decode cX9_span 15 = .ok (.ireturn, 1) := by decide +kernel
theorem dX9_span_16 : decode cX9_span 16 = .ok (.iload_n 1, 1) := by decide +kernel
theorem dX9_span_17 : decode cX9_span 17 = .ok (.iconst 4, 1) := by decide +kernel
theorem dX9_span_18 : decode cX9_span 18 = .ok (.if_icmp .ne 8, 3) := by decide +kernel
theorem dX9_span_21 : decode cX9_span 21 = .ok (.aload_n 0, 1) := by decide +kernel
theorem dX9_span_22 : decode cX9_span 22 = .ok (.invokevirtual 150, 3) := by decide +kernel
theorem dX9_span_25 : decode cX9_span 25 = .ok (.ireturn, 1) := by decide +kernel
theorem dX9_span_26 : decode cX9_span 26 = .ok (.iconst (-1), 1) := by decide +kernel
theorem dX9_span_27 : decode cX9_span 27 = .ok (.istore_n 2, 1) := by decide +kernel
theorem dX9_span_28 : decode cX9_span 28 = .ok (.iconst 0, 1) := by decide +kernel
theorem dX9_span_29 : decode cX9_span 29 = .ok (.istore_n 3, 1) := by decide +kernel
theorem dX9_span_30 : decode cX9_span 30 = .ok (.iload_n 3, 1) := by decide +kernel
theorem dX9_span_31 : decode cX9_span 31 = .ok (.aload_n 0, 1) := by decide +kernel
theorem dX9_span_32 : decode cX9_span 32 = .ok (.invokevirtual 108, 3) := by decide +kernel
theorem dX9_span_35 : decode cX9_span 35 = .ok (.if_icmp .ge 77, 3) := by decide +kernel
theorem dX9_span_38 : decode cX9_span 38 = .ok (.aload_n 0, 1) := by decide +kernel
theorem dX9_span_39 : decode cX9_span 39 = .ok (.getfield 52, 3) := by decide +kernel
theorem dX9_span_42 : decode cX9_span 42 = .ok (.iload_n 3, 1) := by decide +kernel
theorem dX9_span_43 : decode cX9_span 43 = .ok (.laload, 1) := by decide +kernel
theorem dX9_span_44 : decode cX9_span 44 = .ok (.lconst 0, 1) := by decide +kernel
theorem dX9_span_45 : decode cX9_span 45 = .ok (.lcmp, 1) := by decide +kernel
theorem dX9_span_46 : decode cX9_span 46 = .ok (.ifCond .ne 6, 3) := by decide +kernel
theorem dX9_span_49 : decode cX9_span 49 = .ok (.goto 57, 3) := by decide +kernel
theorem dX9_span_52 : decode cX9_span 52 = .ok (.iload_n 1, 1) := by decide +kernel
theorem dX9_span_53 : decode cX9_span 53 = .ok (.iconst 2, 1) := by decide +kernel
theorem dX9_span_54 : decode cX9_span 54 = .ok (.if_icmp .ge 12, 3) := by decide +kernel
theorem dX9_span_57 : decode cX9_span 57 = .ok (.iload_n 3, 1) := by decide +kernel
theorem dX9_span_58 : decode cX9_span 58 = .ok (.aload_n 0, 1) := by decide +kernel
theorem dX9_span_59 : decode cX9_span 59 = .ok (.getfield 43, 3) := by decide +kernel
theorem dX9_span_62 : decode cX9_span 62 = .ok (.irem, 1) := by decide +kernel
theorem dX9_span_63 : decode cX9_span 63 = .ok (.goto 9, 3) := by decide +kernel
theorem dX9_span_66 : decode cX9_span 66 = .ok (.iload_n 3, 1) := by decide +kernel
theorem dX9_span_67 : decode cX9_span 67 = .ok (.aload_n 0, 1) := by decide +kernel
theorem dX9_span_68 : decode cX9_span 68 = .ok (.getfield 43, 3) := by decide +kernel
theorem dX9_span_71 : decode cX9_span 71 = .ok (.idiv, 1) := by decide +kernel
theorem dX9_span_72 : decode cX9_span 72 = .ok (.istore 4, 2) := by decide +kernel
theorem dX9_span_74 : decode cX9_span 74 = .ok (.iload_n 2, 1) := by decide +kernel
theorem dX9_span_75 : decode cX9_span 75 = .ok (.ifCond .lt 24, 3) := by decide +kernel
theorem dX9_span_78 : decode cX9_span 78 = .ok (.iload_n 1, 1) := by decide +kernel
theorem dX9_span_79 : decode cX9_span 79 = .ok (.iconst 2, 1) := by decide +kernel
theorem dX9_span_80 : decode cX9_span 80 = .ok (.irem, 1) := by decide +kernel
theorem dX9_span_81 : decode cX9_span 81 = .ok (.ifCond .ne 12, 3) := by decide +kernel
theorem dX9_span_84 : decode cX9_span 84 = .ok (.iload 4, 2) := by decide +kernel
theorem dX9_span_86 : decode cX9_span 86 = .ok (.iload_n 2, 1) := by decide +kernel
theorem dX9_span_87 : decode cX9_span 87 = .ok (.if_icmp .ge 17, 3) := by decide +kernel
theorem dX9_span_90 : decode cX9_span 90 = .ok (.goto 9, 3) := by decide +kernel
theorem dX9_span_93 : decode cX9_span 93 = .ok (.iload 4, 2) := by decide +kernel
theorem dX9_span_95 : decode cX9_span 95 = .ok (.iload_n 2, 1) := by decide +kernel
theorem dX9_span_96 : decode cX9_span 96 = .ok (.if_icmp .le 8, 3) := by decide +kernel
theorem dX9_span_99 : decode cX9_span 99 = .ok (.iload 4, 2) := by decide +kernel
theorem dX9_span_101 : decode cX9_span 101 = .ok (.goto 4, 3) := by decide +kernel
theorem dX9_span_104 : decode cX9_span 104 = .ok (.iload_n 2, 1) := by decide +kernel
theorem dX9_span_105 : decode cX9_span 105 = .ok (.istore_n 2, 1) := by decide +kernel
theorem dX9_span_106 : decode cX9_span 106 = .ok (.iinc 3 1, 3) := by decide +kernel
theorem dX9_span_109 : decode cX9_span 109 = .ok (.goto (-79), 3) := by decide +kernel
theorem dX9_span_112 : decode cX9_span 112 = .ok (.iload_n 2, 1) := by decide +kernel
theorem dX9_span_113 : decode cX9_span 113 = .ok (.ireturn, 1) := by decide +kernel
theorem dX9_errs_0 : decode cX9_errs 0 = .ok (.iconst 0, 1) := by decide +kernel
theorem dX9_errs_1 : decode cX9_errs 1 = .ok (.istore_n 3, 1) := by decide +kernel
theorem dX9_errs_2 : decode cX9_errs 2 = .ok (.iconst 0, 1) := by decide +kernel
theorem dX9_errs_3 : decode cX9_errs 3 = .ok (.istore 4, 2) := by decide +kernel
theorem dX9_errs_5 : decode cX9_errs 5 = .ok (.iload 4, 2) := by decide +kernel
theorem dX9_errs_7 : decode cX9_errs 7 = .ok (.aload_n 0, 1) := by decide +kernel
theorem dX9_errs_8 : decode cX9_errs 8 = .ok (.getfield 133, 3) := by decide +kernel
theorem dX9_errs_11 : decode cX9_errs 11 = .ok (.if_icmp .ge 56, 3) := by decide +kernel
theorem dX9_errs_14 : decode cX9_errs 14 = .ok (.iload_n 3, 1) := by decide +kernel
theorem dX9_errs_15 : decode cX9_errs 15 = .ok (.aload_n 0, 1) := by decide +kernel
theorem dX9_errs_16 : decode cX9_errs 16 = .ok (.getfield 65, 3) := by decide +kernel
theorem dX9_errs_19 : decode cX9_errs 19 = .ok (.iload 4, 2) := by decide +kernel
theorem dX9_errs_21 : decode cX9_errs 21 = .ok (.iaload, 1) := by decide +kernel
theorem dX9_errs_22 : decode cX9_errs 22 = .ok (.iload_n 2, 1) := by decide +kernel
theorem dX9_errs_23 : decode cX9_errs 23 = .ok (.if_icmp .ne 35, 3) := by decide +kernel
theorem dX9_errs_26 : decode cX9_errs 26 = .ok (.aload_n 0, 1) := by decide +kernel
theorem dX9_errs_27 : decode cX9_errs 27 = .ok (.getfield 27, 3) := by decide +kernel
theorem dX9_errs_30 : decode cX9_errs 30 = .ok (.iload_n 1, 1) := by decide +kernel
theorem dX9_errs_31 : decode cX9_errs 31 = .ok (.iaload, 1) := by decide +kernel
theorem dX9_errs_32 : decode cX9_errs 32 = .ok (.sipush 255, 3) := by decide +kernel
theorem dX9_errs_35 : decode cX9_errs 35 = .ok (.if_icmp .eq 23, 3) := by decide +kernel
theorem dX9_errs_38 : decode cX9_errs 38 = .ok (.aload_n 0, 1) := by decide +kernel
theorem dX9_errs_39 : decode cX9_errs 39 = .ok (.getfield 27, 3) := by decide +kernel
theorem dX9_errs_42 : decode cX9_errs 42 = .ok (.iload_n 1, 1) := by decide +kernel
theorem dX9_errs_43 : decode cX9_errs 43 = .ok (.iaload, 1) := by decide +kernel
theorem dX9_errs_44 : decode cX9_errs 44 = .ok (.aload_n 0, 1) := by decide +kernel
theorem dX9_errs_45 : decode cX9_errs 45 = .ok (.getfield 68, 3) := by decide +kernel
theorem dX9_errs_48 : decode cX9_errs 48 = .ok (.iload 4, 2) := by decide +kernel
theorem dX9_errs_50 : decode cX9_errs 50 = .ok (.iaload, 1) := by decide +kernel
theorem dX9_errs_51 : decode cX9_errs 51 = .ok (.isub, 1) := by decide +kernel
theorem dX9_errs_52 : decode cX9_errs 52 = .ok (.invokestatic 127, 3) := by decide +kernel
theorem dX9_errs_55 : decode cX9_errs 55 = .ok (.goto 4, 3) := by decide +kernel
theorem dX9_errs_58 : decode cX9_errs 58 = .ok (.iconst 0, 1) := by decide +kernel
theorem dX9_errs_59 : decode cX9_errs 59 = .ok (.iadd, 1) := by decide +kernel
theorem dX9_errs_60 : decode cX9_errs 60 = .ok (.istore_n 3, 1) := by decide +kernel
theorem dX9_errs_61 : decode cX9_errs 61 = .ok (.iinc 4 1, 3) := by decide +kernel
theorem dX9_errs_64 : decode cX9_errs 64 = .ok (.goto (-59), 3) := by decide +kernel
theorem dX9_errs_67 : decode cX9_errs 67 = .ok (.iload_n 3, 1) := by decide +kernel
theorem dX9_errs_68 : decode cX9_errs 68 = .ok (.ireturn, 1) := by decide +kernel
theorem dX9_isBetter_0 : decode cX9_isBetter 0 = .ok (.aload_n 0, 1) := by decide +kernel
theorem dX9_isBetter_1 : decode cX9_isBetter 1 = .ok (.getfield 89, 3) := by decide +kernel
theorem dX9_isBetter_4 : decode cX9_isBetter 4 = .ok (.iload 5, 2) := by decide +kernel
theorem dX9_isBetter_6 : decode cX9_isBetter 6 = .ok (.laload, 1) := by decide +kernel
theorem dX9_isBetter_7 : decode cX9_isBetter 7 = .ok (.lconst 0, 1) := by decide +kernel
theorem dX9_isBetter_8 : decode cX9_isBetter 8 = .ok (.lcmp, 1) := by decide +kernel
theorem dX9_isBetter_9 : decode cX9_isBetter 9 = .ok (.ifCond .eq 14, 3) := by decide +kernel
theorem dX9_isBetter_12 : decode cX9_isBetter 12 = .ok (.iload_n 1, 1) := by decide +kernel
theorem dX9_isBetter_13 : decode cX9_isBetter 13 = .ok (.aload_n 0, 1) := by decide +kernel
theorem dX9_isBetter_14 : decode cX9_isBetter 14 = .ok (.getfield 74, 3) := by decide +kernel
theorem dX9_isBetter_17 : decode cX9_isBetter 17 = .ok (.iload 5, 2) := by decide +kernel
theorem dX9_isBetter_19 : decode cX9_isBetter 19 = .ok (.iaload, 1) := by decide +kernel
theorem dX9_isBetter_20 : decode cX9_isBetter 20 = .ok (.if_icmp .eq 32, 3) := by decide +kernel
theorem dX9_isBetter_23 : decode cX9_isBetter 23 = .ok (.aload_n 0, 1) := by decide +kernel
theorem dX9_isBetter_24 : decode cX9_isBetter 24 = .ok (.getfield 89, 3) := by decide +kernel
theorem dX9_isBetter_27 : decode cX9_isBetter 27 = .ok (.iload 5, 2) := by decide +kernel
theorem dX9_isBetter_29 : decode cX9_isBetter 29 = .ok (.laload, 1) := by decide +kernel
theorem dX9_isBetter_30 : decode cX9_isBetter 30 = .ok (.lconst 0, 1) := by decide +kernel
theorem dX9_isBetter_31 : decode cX9_isBetter 31 = .ok (.lcmp, 1) := by decide +kernel
theorem dX9_isBetter_32 : decode cX9_isBetter 32 = .ok (.ifCond .eq 14, 3) := by decide +kernel
theorem dX9_isBetter_35 : decode cX9_isBetter 35 = .ok (.iload_n 1, 1) := by decide +kernel
theorem dX9_isBetter_36 : decode cX9_isBetter 36 = .ok (.aload_n 0, 1) := by decide +kernel
theorem dX9_isBetter_37 : decode cX9_isBetter 37 = .ok (.getfield 74, 3) := by decide +kernel
theorem dX9_isBetter_40 : decode cX9_isBetter 40 = .ok (.iload 5, 2) := by decide +kernel
theorem dX9_isBetter_42 : decode cX9_isBetter 42 = .ok (.iaload, 1) := by decide +kernel
theorem dX9_isBetter_43 : decode cX9_isBetter 43 = .ok (.if_icmp .ge 7, 3) := by decide +kernel
theorem dX9_isBetter_46 : decode cX9_isBetter 46 = .ok (.iconst 1, 1) := by decide +kernel
theorem dX9_isBetter_47 : decode cX9_isBetter 47 = .ok (.goto 4, 3) := by decide +kernel
theorem dX9_isBetter_50 : decode cX9_isBetter 50 = .ok (.iconst 0, 1) := by decide +kernel
theorem dX9_isBetter_51 : decode cX9_isBetter 51 = .ok (.ireturn, 1) := by decide +kernel
theorem dX9_isBetter_52 : decode cX9_isBetter 52 = .ok (.lload_n 2, 1) := by decide +kernel
theorem dX9_isBetter_53 : decode cX9_isBetter 53 = .ok (.aload_n 0, 1) := by decide +kernel
theorem dX9_isBetter_54 : decode cX9_isBetter 54 = .ok (.getfield 89, 3) := by decide +kernel
theorem dX9_isBetter_57 : decode cX9_isBetter 57 = .ok (.iload 5, 2) := by decide +kernel
theorem dX9_isBetter_59 : decode cX9_isBetter 59 = .ok (.laload, 1) := by decide +kernel
theorem dX9_isBetter_60 : decode cX9_isBetter 60 = .ok (.lcmp, 1) := by decide +kernel
theorem dX9_isBetter_61 : decode cX9_isBetter 61 = .ok (.ifCond .eq 21, 3) := by decide +kernel
theorem dX9_isBetter_64 : decode cX9_isBetter 64 = .ok (.lload_n 2, 1) := by decide +kernel
theorem dX9_isBetter_65 : decode cX9_isBetter 65 = .ok (.aload_n 0, 1) := by decide +kernel
theorem dX9_isBetter_66 : decode cX9_isBetter 66 = .ok (.getfield 89, 3) := by decide +kernel
theorem dX9_isBetter_69 : decode cX9_isBetter 69 = .ok (.iload 5, 2) := by decide +kernel
theorem dX9_isBetter_71 : decode cX9_isBetter 71 = .ok (.laload, 1) := by decide +kernel
theorem dX9_isBetter_72 : decode cX9_isBetter 72 = .ok (.lcmp, 1) := by decide +kernel
theorem dX9_isBetter_73 : decode cX9_isBetter 73 = .ok (.ifCond .le 7, 3) := by decide +kernel
theorem dX9_isBetter_76 : decode cX9_isBetter 76 = .ok (.iconst 1, 1) := by decide +kernel
theorem dX9_isBetter_77 : decode cX9_isBetter 77 = .ok (.goto 4, 3) := by decide +kernel
theorem dX9_isBetter_80 : decode cX9_isBetter 80 = .ok (.iconst 0, 1) := by decide +kernel
theorem dX9_isBetter_81 : decode cX9_isBetter 81 = .ok (.ireturn, 1) := by decide +kernel
theorem dX9_isBetter_82 : decode cX9_isBetter 82 = .ok (.iconst 0, 1) := by decide +kernel
theorem dX9_isBetter_83 : decode cX9_isBetter 83 = .ok (.istore 7, 2) := by decide +kernel
theorem dX9_isBetter_85 : decode cX9_isBetter 85 = .ok (.iload 7, 2) := by decide +kernel
theorem dX9_isBetter_87 : decode cX9_isBetter 87 = .ok (.iload 6, 2) := by decide +kernel
theorem dX9_isBetter_89 : decode cX9_isBetter 89 = .ok (.if_icmp .ge 73, 3) := by decide +kernel
theorem dX9_isBetter_92 : decode cX9_isBetter 92 = .ok (.aload_n 0, 1) := by decide +kernel
theorem dX9_isBetter_93 : decode cX9_isBetter 93 = .ok (.getfield 77, 3) := by decide +kernel
theorem dX9_isBetter_96 : decode cX9_isBetter 96 = .ok (.bipush 13, 2) := by decide +kernel
theorem dX9_isBetter_98 : decode cX9_isBetter 98 = .ok (.iload 4, 2) := by decide +kernel
theorem dX9_isBetter_100 : decode cX9_isBetter 100 = .ok (.imul, 1) := by decide +kernel
theorem dX9_isBetter_101 : decode cX9_isBetter 101 = .ok (.iload 7, 2) := by decide +kernel
theorem dX9_isBetter_103 : decode cX9_isBetter 103 = .ok (.iadd, 1) := by decide +kernel
theorem dX9_isBetter_104 : decode cX9_isBetter 104 = .ok (.iaload, 1) := by decide +kernel
theorem dX9_isBetter_105 : decode cX9_isBetter 105 = .ok (.aload_n 0, 1) := by decide +kernel
theorem dX9_isBetter_106 : decode cX9_isBetter 106 = .ok (.getfield 80, 3) := by decide +kernel
theorem dX9_isBetter_109 : decode cX9_isBetter 109 = .ok (.bipush 13, 2) := by decide +kernel
theorem dX9_isBetter_111 : decode cX9_isBetter 111 = .ok (.iload 5, 2) := by decide +kernel
theorem dX9_isBetter_113 : decode cX9_isBetter 113 = .ok (.imul, 1) := by decide +kernel
theorem dX9_isBetter_114 : decode cX9_isBetter 114 = .ok (.iload 7, 2) := by decide +kernel
theorem dX9_isBetter_116 : decode cX9_isBetter 116 = .ok (.iadd, 1) := by decide +kernel
theorem dX9_isBetter_117 : decode cX9_isBetter 117 = .ok (.iaload, 1) := by decide +kernel
theorem dX9_isBetter_118 : decode cX9_isBetter 118 = .ok (.if_icmp .eq 38, 3) := by decide +kernel
theorem dX9_isBetter_121 : decode cX9_isBetter 121 = .ok (.aload_n 0, 1) := by decide +kernel
theorem dX9_isBetter_122 : decode cX9_isBetter 122 = .ok (.getfield 77, 3) := by decide +kernel
theorem dX9_isBetter_125 : decode cX9_isBetter 125 = .ok (.bipush 13, 2) := by decide +kernel
theorem dX9_isBetter_127 : decode cX9_isBetter 127 = .ok (.iload 4, 2) := by decide +kernel
theorem dX9_isBetter_129 : decode cX9_isBetter 129 = .ok (.imul, 1) := by decide +kernel
theorem dX9_isBetter_130 : decode cX9_isBetter 130 = .ok (.iload 7, 2) := by decide +kernel
theorem dX9_isBetter_132 : decode cX9_isBetter 132 = .ok (.iadd, 1) := by decide +kernel
theorem dX9_isBetter_133 : decode cX9_isBetter 133 = .ok (.iaload, 1) := by decide +kernel
theorem dX9_isBetter_134 : decode cX9_isBetter 134 = .ok (.aload_n 0, 1) := by decide +kernel
theorem dX9_isBetter_135 : decode cX9_isBetter 135 = .ok (.getfield 80, 3) := by decide +kernel
theorem dX9_isBetter_138 : decode cX9_isBetter 138 = .ok (.bipush 13, 2) := by decide +kernel
theorem dX9_isBetter_140 : decode cX9_isBetter 140 = .ok (.iload 5, 2) := by decide +kernel
theorem dX9_isBetter_142 : decode cX9_isBetter 142 = .ok (.imul, 1) := by decide +kernel
theorem dX9_isBetter_143 : decode cX9_isBetter 143 = .ok (.iload 7, 2) := by decide +kernel
theorem dX9_isBetter_145 : decode cX9_isBetter 145 = .ok (.iadd, 1) := by decide +kernel
theorem dX9_isBetter_146 : decode cX9_isBetter 146 = .ok (.iaload, 1) := by decide +kernel
theorem dX9_isBetter_147 : decode cX9_isBetter 147 = .ok (.if_icmp .ge 7, 3) := by decide +kernel
theorem dX9_isBetter_150 : decode cX9_isBetter 150 = .ok (.iconst 1, 1) := by decide +kernel
theorem dX9_isBetter_151 : decode cX9_isBetter 151 = .ok (.goto 4, 3) := by decide +kernel
theorem dX9_isBetter_154 : decode cX9_isBetter 154 = .ok (.iconst 0, 1) := by decide +kernel
theorem dX9_isBetter_155 : decode cX9_isBetter 155 = .ok (.ireturn, 1) := by decide +kernel
theorem dX9_isBetter_156 : decode cX9_isBetter 156 = .ok (.iinc 7 1, 3) := by decide +kernel
theorem dX9_isBetter_159 : decode cX9_isBetter 159 = .ok (.goto (-74), 3) := by decide +kernel
theorem dX9_isBetter_162 : decode cX9_isBetter 162 = .ok (.iconst 0, 1) := by decide +kernel
theorem dX9_isBetter_163 : decode cX9_isBetter 163 = .ok (.ireturn, 1) := by decide +kernel
theorem dX9_best_0 : decode cX9_best 0 = .ok (.aload_n 0, 1) := by decide +kernel
theorem dX9_best_1 : decode cX9_best 1 = .ok (.iconst 0, 1) := by decide +kernel
theorem dX9_best_2 : decode cX9_best 2 = .ok (.putfield 1, 3) := by decide +kernel
theorem dX9_best_5 : decode cX9_best 5 = .ok (.iconst 0, 1) := by decide +kernel
theorem dX9_best_6 : decode cX9_best 6 = .ok (.istore_n 1, 1) := by decide +kernel
theorem dX9_best_7 : decode cX9_best 7 = .ok (.iload_n 1, 1) := by decide +kernel
theorem dX9_best_8 : decode cX9_best 8 = .ok (.aload_n 0, 1) := by decide +kernel
theorem dX9_best_9 : decode cX9_best 9 = .ok (.invokevirtual 108, 3) := by decide +kernel
theorem dX9_best_12 : decode cX9_best 12 = .ok (.if_icmp .ge 58, 3) := by decide +kernel
theorem dX9_best_15 : decode cX9_best 15 = .ok (.aload_n 0, 1) := by decide +kernel
theorem dX9_best_16 : decode cX9_best 16 = .ok (.getfield 86, 3) := by decide +kernel
theorem dX9_best_19 : decode cX9_best 19 = .ok (.iload_n 1, 1) := by decide +kernel
theorem dX9_best_20 : decode cX9_best 20 = .ok (.aload_n 0, 1) := by decide +kernel
theorem dX9_best_21 : decode cX9_best 21 = .ok (.getfield 136, 3) := by decide +kernel
theorem dX9_best_24 : decode cX9_best 24 = .ok (.iconst (-1), 1) := by decide +kernel
theorem dX9_best_25 : decode cX9_best 25 = .ok (.if_icmp .eq 11, 3) := by decide +kernel
theorem dX9_best_28 : decode cX9_best 28 = .ok (.aload_n 0, 1) := by decide +kernel
theorem dX9_best_29 : decode cX9_best 29 = .ok (.getfield 136, 3) := by decide +kernel
theorem dX9_best_32 : decode cX9_best 32 = .ok (.iload_n 1, 1) := by decide +kernel
theorem dX9_best_33 : decode cX9_best 33 = .ok (.if_icmp .ne 7, 3) := by decide +kernel
theorem dX9_best_36 : decode cX9_best 36 = .ok (.lconst 1, 1) := by decide +kernel
theorem dX9_best_37 : decode cX9_best 37 = .ok (.goto 4, 3) := by decide +kernel
theorem dX9_best_40 : decode cX9_best 40 = .ok (.lconst 0, 1) := by decide +kernel
theorem dX9_best_41 : decode cX9_best 41 = .ok (.lastore, 1) := by decide +kernel
theorem dX9_best_42 : decode cX9_best 42 = .ok (.aload_n 0, 1) := by decide +kernel
theorem dX9_best_43 : decode cX9_best 43 = .ok (.getfield 71, 3) := by decide +kernel
theorem dX9_best_46 : decode cX9_best 46 = .ok (.iload_n 1, 1) := by decide +kernel
theorem dX9_best_47 : decode cX9_best 47 = .ok (.aload_n 0, 1) := by decide +kernel
theorem dX9_best_48 : decode cX9_best 48 = .ok (.iload_n 1, 1) := by decide +kernel
theorem dX9_best_49 : decode cX9_best 49 = .ok (.iconst 0, 1) := by decide +kernel
theorem dX9_best_50 : decode cX9_best 50 = .ok (.invokevirtual 165, 3) := by decide +kernel
theorem dX9_best_53 : decode cX9_best 53 = .ok (.iastore, 1) := by decide +kernel
theorem dX9_best_54 : decode cX9_best 54 = .ok (.aload_n 0, 1) := by decide +kernel
theorem dX9_best_55 : decode cX9_best 55 = .ok (.getfield 77, 3) := by decide +kernel
theorem dX9_best_58 : decode cX9_best 58 = .ok (.bipush 13, 2) := by decide +kernel
theorem dX9_best_60 : decode cX9_best 60 = .ok (.iload_n 1, 1) := by decide +kernel
theorem dX9_best_61 : decode cX9_best 61 = .ok (.imul, 1) := by decide +kernel
theorem dX9_best_62 : decode cX9_best 62 = .ok (.iload_n 1, 1) := by decide +kernel
theorem dX9_best_63 : decode cX9_best 63 = .ok (.iastore, 1) := by decide +kernel
theorem dX9_best_64 : decode cX9_best 64 = .ok (.iinc 1 1, 3) := by decide +kernel
theorem dX9_best_67 : decode cX9_best 67 = .ok (.goto (-60), 3) := by decide +kernel
theorem dX9_best_70 : decode cX9_best 70 = .ok (.iconst 0, 1) := by decide +kernel
theorem dX9_best_71 : decode cX9_best 71 = .ok (.istore_n 1, 1) := by decide +kernel
theorem dX9_best_72 : decode cX9_best 72 = .ok (.iload_n 1, 1) := by decide +kernel
theorem dX9_best_73 : decode cX9_best 73 = .ok (.aload_n 0, 1) := by decide +kernel
theorem dX9_best_74 : decode cX9_best 74 = .ok (.getfield 130, 3) := by decide +kernel
theorem dX9_best_77 : decode cX9_best 77 = .ok (.if_icmp .ge 319, 3) := by decide +kernel
theorem dX9_best_80 : decode cX9_best 80 = .ok (.iconst 0, 1) := by decide +kernel
theorem dX9_best_81 : decode cX9_best 81 = .ok (.istore_n 2, 1) := by decide +kernel
theorem dX9_best_82 : decode cX9_best 82 = .ok (.iload_n 2, 1) := by decide +kernel
theorem dX9_best_83 : decode cX9_best 83 = .ok (.aload_n 0, 1) := by decide +kernel
theorem dX9_best_84 : decode cX9_best 84 = .ok (.invokevirtual 108, 3) := by decide +kernel
theorem dX9_best_87 : decode cX9_best 87 = .ok (.if_icmp .ge 16, 3) := by decide +kernel
theorem dX9_best_90 : decode cX9_best 90 = .ok (.aload_n 0, 1) := by decide +kernel
theorem dX9_best_91 : decode cX9_best 91 = .ok (.getfield 89, 3) := by decide +kernel
theorem dX9_best_94 : decode cX9_best 94 = .ok (.iload_n 2, 1) := by decide +kernel
theorem dX9_best_95 : decode cX9_best 95 = .ok (.lconst 0, 1) := by decide +kernel
theorem dX9_best_96 : decode cX9_best 96 = .ok (.lastore, 1) := by decide +kernel
theorem dX9_best_97 : decode cX9_best 97 = .ok (.iinc 2 1, 3) := by decide +kernel
theorem dX9_best_100 : decode cX9_best 100 = .ok (.goto (-18), 3) := by decide +kernel
theorem dX9_best_103 : decode cX9_best 103 = .ok (.iconst 0, 1) := by decide +kernel
theorem dX9_best_104 : decode cX9_best 104 = .ok (.istore_n 2, 1) := by decide +kernel
theorem dX9_best_105 : decode cX9_best 105 = .ok (.iload_n 2, 1) := by decide +kernel
theorem dX9_best_106 : decode cX9_best 106 = .ok (.aload_n 0, 1) := by decide +kernel
theorem dX9_best_107 : decode cX9_best 107 = .ok (.invokevirtual 108, 3) := by decide +kernel
theorem dX9_best_110 : decode cX9_best 110 = .ok (.if_icmp .ge 182, 3) := by decide +kernel
theorem dX9_best_113 : decode cX9_best 113 = .ok (.iconst (-1), 1) := by decide +kernel
theorem dX9_best_114 : decode cX9_best 114 = .ok (.istore_n 3, 1) := by decide +kernel
theorem dX9_best_115 : decode cX9_best 115 = .ok (.iload_n 3, 1) := by decide +kernel
theorem dX9_best_116 : decode cX9_best 116 = .ok (.iconst 2, 1) := by decide +kernel
theorem dX9_best_117 : decode cX9_best 117 = .ok (.if_icmp .ge 169, 3) := by decide +kernel
theorem dX9_best_120 : decode cX9_best 120 = .ok (.iconst (-1), 1) := by decide +kernel
theorem dX9_best_121 : decode cX9_best 121 = .ok (.istore 4, 2) := by decide +kernel
theorem dX9_best_123 : decode cX9_best 123 = .ok (.iload 4, 2) := by decide +kernel
theorem dX9_best_125 : decode cX9_best 125 = .ok (.iconst 2, 1) := by decide +kernel
theorem dX9_best_126 : decode cX9_best 126 = .ok (.if_icmp .ge 154, 3) := by decide +kernel
theorem dX9_best_129 : decode cX9_best 129 = .ok (.aload_n 0, 1) := by decide +kernel
theorem dX9_best_130 : decode cX9_best 130 = .ok (.iload_n 2, 1) := by decide +kernel
theorem dX9_best_131 : decode cX9_best 131 = .ok (.aload_n 0, 1) := by decide +kernel
theorem dX9_best_132 : decode cX9_best 132 = .ok (.getfield 59, 3) := by decide +kernel
theorem dX9_best_135 : decode cX9_best 135 = .ok (.iload_n 1, 1) := by decide +kernel
theorem dX9_best_136 : decode cX9_best 136 = .ok (.iaload, 1) := by decide +kernel
theorem dX9_best_137 : decode cX9_best 137 = .ok (.iload_n 3, 1) := by decide +kernel
theorem dX9_best_138 : decode cX9_best 138 = .ok (.iadd, 1) := by decide +kernel
theorem dX9_best_139 : decode cX9_best 139 = .ok (.aload_n 0, 1) := by decide +kernel
theorem dX9_best_140 : decode cX9_best 140 = .ok (.getfield 62, 3) := by decide +kernel
theorem dX9_best_143 : decode cX9_best 143 = .ok (.iload_n 1, 1) := by decide +kernel
theorem dX9_best_144 : decode cX9_best 144 = .ok (.iaload, 1) := by decide +kernel
theorem dX9_best_145 : decode cX9_best 145 = .ok (.iload 4, 2) := by decide +kernel
theorem dX9_best_147 : decode cX9_best 147 = .ok (.iadd, 1) := by decide +kernel
theorem dX9_best_148 : decode cX9_best 148 = .ok (.invokevirtual 143, 3) := by decide +kernel
theorem dX9_best_151 : decode cX9_best 151 = .ok (.istore 5, 2) := by decide +kernel
theorem dX9_best_153 : decode cX9_best 153 = .ok (.aload_n 0, 1) := by decide +kernel
theorem dX9_best_154 : decode cX9_best 154 = .ok (.getfield 86, 3) := by decide +kernel
theorem dX9_best_157 : decode cX9_best 157 = .ok (.iload_n 2, 1) := by decide +kernel
theorem dX9_best_158 : decode cX9_best 158 = .ok (.laload, 1) := by decide +kernel
theorem dX9_best_159 : decode cX9_best 159 = .ok (.aload_n 0, 1) := by decide +kernel
theorem dX9_best_160 : decode cX9_best 160 = .ok (.iload_n 3, 1) := by decide +kernel
theorem dX9_best_161 : decode cX9_best 161 = .ok (.invokevirtual 147, 3) := by decide +kernel
theorem dX9_best_164 : decode cX9_best 164 = .ok (.i2l, 1) := by decide +kernel
theorem dX9_best_165 : decode cX9_best 165 = .ok (.lmul, 1) := by decide +kernel
theorem dX9_best_166 : decode cX9_best 166 = .ok (.aload_n 0, 1) := by decide +kernel
theorem dX9_best_167 : decode cX9_best 167 = .ok (.iload 4, 2) := by decide +kernel
theorem dX9_best_169 : decode cX9_best 169 = .ok (.invokevirtual 147, 3) := by decide +kernel
theorem dX9_best_172 : decode cX9_best 172 = .ok (.i2l, 1) := by decide +kernel
theorem dX9_best_173 : decode cX9_best 173 = .ok (.lmul, 1) := by decide +kernel
theorem dX9_best_174 : decode cX9_best 174 = .ok (.lstore 6, 2) := by decide +kernel
theorem dX9_best_176 : decode cX9_best 176 = .ok (.iload 5, 2) := by decide +kernel
theorem dX9_best_178 : decode cX9_best 178 = .ok (.ifCond .lt 96, 3) := by decide +kernel
theorem dX9_best_181 : decode cX9_best 181 = .ok (.lload 6, 2) := by decide +kernel
theorem dX9_best_183 : decode cX9_best 183 = .ok (.lconst 0, 1) := by decide +kernel
theorem dX9_best_184 : decode cX9_best 184 = .ok (.lcmp, 1) := by decide +kernel
theorem dX9_best_185 : decode cX9_best 185 = .ok (.ifCond .eq 89, 3) := by decide +kernel
theorem dX9_best_188 : decode cX9_best 188 = .ok (.aload_n 0, 1) := by decide +kernel
theorem dX9_best_189 : decode cX9_best 189 = .ok (.aload_n 0, 1) := by decide +kernel
theorem dX9_best_190 : decode cX9_best 190 = .ok (.getfield 71, 3) := by decide +kernel
theorem dX9_best_193 : decode cX9_best 193 = .ok (.iload_n 2, 1) := by decide +kernel
theorem dX9_best_194 : decode cX9_best 194 = .ok (.iaload, 1) := by decide +kernel
theorem dX9_best_195 : decode cX9_best 195 = .ok (.lload 6, 2) := by decide +kernel
theorem dX9_best_197 : decode cX9_best 197 = .ok (.iload_n 2, 1) := by decide +kernel
theorem dX9_best_198 : decode cX9_best 198 = .ok (.iload 5, 2) := by decide +kernel
theorem dX9_best_200 : decode cX9_best 200 = .ok (.iload_n 1, 1) := by decide +kernel
theorem dX9_best_201 : decode cX9_best 201 = .ok (.iconst 1, 1) := by decide +kernel
theorem dX9_best_202 : decode cX9_best 202 = .ok (.iadd, 1) := by decide +kernel
theorem dX9_best_203 : decode cX9_best 203 = .ok (.invokevirtual 169, 3) := by decide +kernel
theorem dX9_best_206 : decode cX9_best 206 = .ok (.ifCond .ne 6, 3) := by decide +kernel
theorem dX9_best_209 : decode cX9_best 209 = .ok (.goto 65, 3) := by decide +kernel
theorem dX9_best_212 : decode cX9_best 212 = .ok (.aload_n 0, 1) := by decide +kernel
theorem dX9_best_213 : decode cX9_best 213 = .ok (.getfield 89, 3) := by decide +kernel
theorem dX9_best_216 : decode cX9_best 216 = .ok (.iload 5, 2) := by decide +kernel
theorem dX9_best_218 : decode cX9_best 218 = .ok (.lload 6, 2) := by decide +kernel
theorem dX9_best_220 : decode cX9_best 220 = .ok (.lastore, 1) := by decide +kernel
theorem dX9_best_221 : decode cX9_best 221 = .ok (.aload_n 0, 1) := by decide +kernel
theorem dX9_best_222 : decode cX9_best 222 = .ok (.getfield 74, 3) := by decide +kernel
theorem dX9_best_225 : decode cX9_best 225 = .ok (.iload 5, 2) := by decide +kernel
theorem dX9_best_227 : decode cX9_best 227 = .ok (.aload_n 0, 1) := by decide +kernel
theorem dX9_best_228 : decode cX9_best 228 = .ok (.getfield 71, 3) := by decide +kernel
theorem dX9_best_231 : decode cX9_best 231 = .ok (.iload_n 2, 1) := by decide +kernel
theorem dX9_best_232 : decode cX9_best 232 = .ok (.iaload, 1) := by decide +kernel
theorem dX9_best_233 : decode cX9_best 233 = .ok (.iastore, 1) := by decide +kernel
theorem dX9_best_234 : decode cX9_best 234 = .ok (.iconst 0, 1) := by decide +kernel
theorem dX9_best_235 : decode cX9_best 235 = .ok (.istore 8, 2) := by decide +kernel
theorem dX9_best_237 : decode cX9_best 237 = .ok (.iload 8, 2) := by decide +kernel
theorem dX9_best_239 : decode cX9_best 239 = .ok (.iload_n 1, 1) := by decide +kernel
theorem dX9_best_240 : decode cX9_best 240 = .ok (.if_icmp .gt 34, 3) := by decide +kernel
theorem dX9_best_243 : decode cX9_best 243 = .ok (.aload_n 0, 1) := by decide +kernel
theorem dX9_best_244 : decode cX9_best 244 = .ok (.getfield 80, 3) := by decide +kernel
theorem dX9_best_247 : decode cX9_best 247 = .ok (.bipush 13, 2) := by decide +kernel
theorem dX9_best_249 : decode cX9_best 249 = .ok (.iload 5, 2) := by decide +kernel
theorem dX9_best_251 : decode cX9_best 251 = .ok (.imul, 1) := by decide +kernel
theorem dX9_best_252 : decode cX9_best 252 = .ok (.iload 8, 2) := by decide +kernel
theorem dX9_best_254 : decode cX9_best 254 = .ok (.iadd, 1) := by decide +kernel
theorem dX9_best_255 : decode cX9_best 255 = .ok (.aload_n 0, 1) := by decide +kernel
theorem dX9_best_256 : decode cX9_best 256 = .ok (.getfield 77, 3) := by decide +kernel
theorem dX9_best_259 : decode cX9_best 259 = .ok (.bipush 13, 2) := by decide +kernel
theorem dX9_best_261 : decode cX9_best 261 = .ok (.iload_n 2, 1) := by decide +kernel
theorem dX9_best_262 : decode cX9_best 262 = .ok (.imul, 1) := by decide +kernel
theorem dX9_best_263 : decode cX9_best 263 = .ok (.iload 8, 2) := by decide +kernel
theorem dX9_best_265 : decode cX9_best 265 = .ok (.iadd, 1) := by decide +kernel
theorem dX9_best_266 : decode cX9_best 266 = .ok (.iaload, 1) := by decide +kernel
theorem dX9_best_267 : decode cX9_best 267 = .ok (.iastore, 1) := by decide +kernel
theorem dX9_best_268 : decode cX9_best 268 = .ok (.iinc 8 1, 3) := by decide +kernel
theorem dX9_best_271 : decode cX9_best 271 = .ok (.goto (-34), 3) := by decide +kernel
theorem dX9_best_274 : decode cX9_best 274 = .ok (.iinc 4 1, 3) := by decide +kernel
theorem dX9_best_277 : decode cX9_best 277 = .ok (.goto (-154), 3) := by decide +kernel
theorem dX9_best_280 : decode cX9_best 280 = .ok (.iinc 3 1, 3) := by decide +kernel
theorem dX9_best_283 : decode cX9_best 283 = .ok (.goto (-168), 3) := by decide +kernel
theorem dX9_best_286 : decode cX9_best 286 = .ok (.iinc 2 1, 3) := by decide +kernel
theorem dX9_best_289 : decode cX9_best 289 = .ok (.goto (-184), 3) := by decide +kernel
theorem dX9_best_292 : decode cX9_best 292 = .ok (.iconst 0, 1) := by decide +kernel
theorem dX9_best_293 : decode cX9_best 293 = .ok (.istore_n 2, 1) := by decide +kernel
theorem dX9_best_294 : decode cX9_best 294 = .ok (.iload_n 2, 1) := by decide +kernel
theorem dX9_best_295 : decode cX9_best 295 = .ok (.aload_n 0, 1) := by decide +kernel
theorem dX9_best_296 : decode cX9_best 296 = .ok (.invokevirtual 108, 3) := by decide +kernel
theorem dX9_best_299 : decode cX9_best 299 = .ok (.if_icmp .ge 91, 3) := by decide +kernel
theorem dX9_best_302 : decode cX9_best 302 = .ok (.aload_n 0, 1) := by decide +kernel
theorem dX9_best_303 : decode cX9_best 303 = .ok (.getfield 86, 3) := by decide +kernel
theorem dX9_best_306 : decode cX9_best 306 = .ok (.iload_n 2, 1) := by decide +kernel
theorem dX9_best_307 : decode cX9_best 307 = .ok (.aload_n 0, 1) := by decide +kernel
theorem dX9_best_308 : decode cX9_best 308 = .ok (.getfield 89, 3) := by decide +kernel
theorem dX9_best_311 : decode cX9_best 311 = .ok (.iload_n 2, 1) := by decide +kernel
theorem dX9_best_312 : decode cX9_best 312 = .ok (.laload, 1) := by decide +kernel
theorem dX9_best_313 : decode cX9_best 313 = .ok (.lastore, 1) := by decide +kernel
theorem dX9_best_314 : decode cX9_best 314 = .ok (.aload_n 0, 1) := by decide +kernel
theorem dX9_best_315 : decode cX9_best 315 = .ok (.getfield 71, 3) := by decide +kernel
theorem dX9_best_318 : decode cX9_best 318 = .ok (.iload_n 2, 1) := by decide +kernel
theorem dX9_best_319 : decode cX9_best 319 = .ok (.aload_n 0, 1) := by decide +kernel
theorem dX9_best_320 : decode cX9_best 320 = .ok (.getfield 74, 3) := by decide +kernel
theorem dX9_best_323 : decode cX9_best 323 = .ok (.iload_n 2, 1) := by decide +kernel
theorem dX9_best_324 : decode cX9_best 324 = .ok (.iaload, 1) := by decide +kernel
theorem dX9_best_325 : decode cX9_best 325 = .ok (.aload_n 0, 1) := by decide +kernel
theorem dX9_best_326 : decode cX9_best 326 = .ok (.iload_n 2, 1) := by decide +kernel
theorem dX9_best_327 : decode cX9_best 327 = .ok (.iload_n 1, 1) := by decide +kernel
theorem dX9_best_328 : decode cX9_best 328 = .ok (.iconst 1, 1) := by decide +kernel
theorem dX9_best_329 : decode cX9_best 329 = .ok (.iadd, 1) := by decide +kernel
theorem dX9_best_330 : decode cX9_best 330 = .ok (.invokevirtual 165, 3) := by decide +kernel
theorem dX9_best_333 : decode cX9_best 333 = .ok (.iadd, 1) := by decide +kernel
theorem dX9_best_334 : decode cX9_best 334 = .ok (.iastore, 1) := by decide +kernel
theorem dX9_best_335 : decode cX9_best 335 = .ok (.iconst 0, 1) := by decide +kernel
theorem dX9_best_336 : decode cX9_best 336 = .ok (.istore_n 3, 1) := by decide +kernel
theorem dX9_best_337 : decode cX9_best 337 = .ok (.iload_n 3, 1) := by decide +kernel
theorem dX9_best_338 : decode cX9_best 338 = .ok (.iload_n 1, 1) := by decide +kernel
theorem dX9_best_339 : decode cX9_best 339 = .ok (.if_icmp .gt 31, 3) := by decide +kernel
theorem dX9_best_342 : decode cX9_best 342 = .ok (.aload_n 0, 1) := by decide +kernel
theorem dX9_best_343 : decode cX9_best 343 = .ok (.getfield 77, 3) := by decide +kernel
theorem dX9_best_346 : decode cX9_best 346 = .ok (.bipush 13, 2) := by decide +kernel
theorem dX9_best_348 : decode cX9_best 348 = .ok (.iload_n 2, 1) := by decide +kernel
theorem dX9_best_349 : decode cX9_best 349 = .ok (.imul, 1) := by decide +kernel
theorem dX9_best_350 : decode cX9_best 350 = .ok (.iload_n 3, 1) := by decide +kernel
theorem dX9_best_351 : decode cX9_best 351 = .ok (.iadd, 1) := by decide +kernel
theorem dX9_best_352 : decode cX9_best 352 = .ok (.aload_n 0, 1) := by decide +kernel
theorem dX9_best_353 : decode cX9_best 353 = .ok (.getfield 80, 3) := by decide +kernel
theorem dX9_best_356 : decode cX9_best 356 = .ok (.bipush 13, 2) := by decide +kernel
theorem dX9_best_358 : decode cX9_best 358 = .ok (.iload_n 2, 1) := by decide +kernel
theorem dX9_best_359 : decode cX9_best 359 = .ok (.imul, 1) := by decide +kernel
theorem dX9_best_360 : decode cX9_best 360 = .ok (.iload_n 3, 1) := by decide +kernel
theorem dX9_best_361 : decode cX9_best 361 = .ok (.iadd, 1) := by decide +kernel
theorem dX9_best_362 : decode cX9_best 362 = .ok (.iaload, 1) := by decide +kernel
theorem dX9_best_363 : decode cX9_best 363 = .ok (.iastore, 1) := by decide +kernel
theorem dX9_best_364 : decode cX9_best 364 = .ok (.iinc 3 1, 3) := by decide +kernel
theorem dX9_best_367 : decode cX9_best 367 = .ok (.goto (-30), 3) := by decide +kernel
theorem dX9_best_370 : decode cX9_best 370 = .ok (.aload_n 0, 1) := by decide +kernel
theorem dX9_best_371 : decode cX9_best 371 = .ok (.getfield 77, 3) := by decide +kernel
theorem dX9_best_374 : decode cX9_best 374 = .ok (.bipush 13, 2) := by decide +kernel
theorem dX9_best_376 : decode cX9_best 376 = .ok (.iload_n 2, 1) := by decide +kernel
theorem dX9_best_377 : decode cX9_best 377 = .ok (.imul, 1) := by decide +kernel
theorem dX9_best_378 : decode cX9_best 378 = .ok (.iload_n 1, 1) := by decide +kernel
theorem dX9_best_379 : decode cX9_best 379 = .ok (.iadd, 1) := by decide +kernel
theorem dX9_best_380 : decode cX9_best 380 = .ok (.iconst 1, 1) := by decide +kernel
theorem dX9_best_381 : decode cX9_best 381 = .ok (.iadd, 1) := by decide +kernel
theorem dX9_best_382 : decode cX9_best 382 = .ok (.iload_n 2, 1) := by decide +kernel
theorem dX9_best_383 : decode cX9_best 383 = .ok (.iastore, 1) := by decide +kernel
theorem dX9_best_384 : decode cX9_best 384 = .ok (.iinc 2 1, 3) := by decide +kernel
theorem dX9_best_387 : decode cX9_best 387 = .ok (.goto (-93), 3) := by decide +kernel
theorem dX9_best_390 : decode cX9_best 390 = .ok (.iinc 1 1, 3) := by decide +kernel
theorem dX9_best_393 : decode cX9_best 393 = .ok (.goto (-321), 3) := by decide +kernel
theorem dX9_best_396 : decode cX9_best 396 = .ok (.iconst (-1), 1) := by decide +kernel
theorem dX9_best_397 : decode cX9_best 397 = .ok (.istore_n 1, 1) := by decide +kernel
theorem dX9_best_398 : decode cX9_best 398 = .ok (.iconst 0, 1) := by decide +kernel
theorem dX9_best_399 : decode cX9_best 399 = .ok (.istore_n 2, 1) := by decide +kernel
theorem dX9_best_400 : decode cX9_best 400 = .ok (.iload_n 2, 1) := by decide +kernel
theorem dX9_best_401 : decode cX9_best 401 = .ok (.aload_n 0, 1) := by decide +kernel
theorem dX9_best_402 : decode cX9_best 402 = .ok (.invokevirtual 108, 3) := by decide +kernel
theorem dX9_best_405 : decode cX9_best 405 = .ok (.if_icmp .ge 35, 3) := by decide +kernel
theorem dX9_best_408 : decode cX9_best 408 = .ok (.aload_n 0, 1) := by decide +kernel
theorem dX9_best_409 : decode cX9_best 409 = .ok (.getfield 86, 3) := by decide +kernel
theorem dX9_best_412 : decode cX9_best 412 = .ok (.iload_n 2, 1) := by decide +kernel
theorem dX9_best_413 : decode cX9_best 413 = .ok (.laload, 1) := by decide +kernel
theorem dX9_best_414 : decode cX9_best 414 = .ok (.lconst 0, 1) := by decide +kernel
theorem dX9_best_415 : decode cX9_best 415 = .ok (.lcmp, 1) := by decide +kernel
theorem dX9_best_416 : decode cX9_best 416 = .ok (.ifCond .le 18, 3) := by decide +kernel
theorem dX9_best_419 : decode cX9_best 419 = .ok (.iload_n 1, 1) := by decide +kernel
theorem dX9_best_420 : decode cX9_best 420 = .ok (.ifCond .lt 12, 3) := by decide +kernel
theorem dX9_best_423 : decode cX9_best 423 = .ok (.aload_n 0, 1) := by decide +kernel
theorem dX9_best_424 : decode cX9_best 424 = .ok (.iload_n 2, 1) := by decide +kernel
theorem dX9_best_425 : decode cX9_best 425 = .ok (.iload_n 1, 1) := by decide +kernel
theorem dX9_best_426 : decode cX9_best 426 = .ok (.invokevirtual 173, 3) := by decide +kernel
theorem dX9_best_429 : decode cX9_best 429 = .ok (.ifCond .eq 5, 3) := by decide +kernel
theorem dX9_best_432 : decode cX9_best 432 = .ok (.iload_n 2, 1) := by decide +kernel
theorem dX9_best_433 : decode cX9_best 433 = .ok (.istore_n 1, 1) := by decide +kernel
theorem dX9_best_434 : decode cX9_best 434 = .ok (.iinc 2 1, 3) := by decide +kernel
theorem dX9_best_437 : decode cX9_best 437 = .ok (.goto (-37), 3) := by decide +kernel
theorem dX9_best_440 : decode cX9_best 440 = .ok (.iload_n 1, 1) := by decide +kernel
theorem dX9_best_441 : decode cX9_best 441 = .ok (.ifCond .ge 5, 3) := by decide +kernel
theorem dX9_best_444 : decode cX9_best 444 = .ok (.iconst (-1), 1) := by decide +kernel
theorem dX9_best_445 : decode cX9_best 445 = .ok (.ireturn, 1) := by decide +kernel
theorem dX9_best_446 : decode cX9_best 446 = .ok (.aload_n 0, 1) := by decide +kernel
theorem dX9_best_447 : decode cX9_best 447 = .ok (.aload_n 0, 1) := by decide +kernel
theorem dX9_best_448 : decode cX9_best 448 = .ok (.getfield 130, 3) := by decide +kernel
theorem dX9_best_451 : decode cX9_best 451 = .ok (.iconst 1, 1) := by decide +kernel
theorem dX9_best_452 : decode cX9_best 452 = .ok (.iadd, 1) := by decide +kernel
theorem dX9_best_453 : decode cX9_best 453 = .ok (.putfield 176, 3) := by decide +kernel
theorem dX9_best_456 : decode cX9_best 456 = .ok (.iconst 0, 1) := by decide +kernel
theorem dX9_best_457 : decode cX9_best 457 = .ok (.istore_n 2, 1) := by decide +kernel
theorem dX9_best_458 : decode cX9_best 458 = .ok (.iload_n 2, 1) := by decide +kernel
theorem dX9_best_459 : decode cX9_best 459 = .ok (.aload_n 0, 1) := by decide +kernel
theorem dX9_best_460 : decode cX9_best 460 = .ok (.getfield 176, 3) := by decide +kernel
theorem dX9_best_463 : decode cX9_best 463 = .ok (.if_icmp .ge 26, 3) := by decide +kernel
theorem dX9_best_466 : decode cX9_best 466 = .ok (.aload_n 0, 1) := by decide +kernel
theorem dX9_best_467 : decode cX9_best 467 = .ok (.getfield 83, 3) := by decide +kernel
theorem dX9_best_470 : decode cX9_best 470 = .ok (.iload_n 2, 1) := by decide +kernel
theorem dX9_best_471 : decode cX9_best 471 = .ok (.aload_n 0, 1) := by decide +kernel
theorem dX9_best_472 : decode cX9_best 472 = .ok (.getfield 77, 3) := by decide +kernel
theorem dX9_best_475 : decode cX9_best 475 = .ok (.bipush 13, 2) := by decide +kernel
theorem dX9_best_477 : decode cX9_best 477 = .ok (.iload_n 1, 1) := by decide +kernel
theorem dX9_best_478 : decode cX9_best 478 = .ok (.imul, 1) := by decide +kernel
theorem dX9_best_479 : decode cX9_best 479 = .ok (.iload_n 2, 1) := by decide +kernel
theorem dX9_best_480 : decode cX9_best 480 = .ok (.iadd, 1) := by decide +kernel
theorem dX9_best_481 : decode cX9_best 481 = .ok (.iaload, 1) := by decide +kernel
theorem dX9_best_482 : decode cX9_best 482 = .ok (.iastore, 1) := by decide +kernel
theorem dX9_best_483 : decode cX9_best 483 = .ok (.iinc 2 1, 3) := by decide +kernel
theorem dX9_best_486 : decode cX9_best 486 = .ok (.goto (-28), 3) := by decide +kernel
theorem dX9_best_489 : decode cX9_best 489 = .ok (.aload_n 0, 1) := by decide +kernel
theorem dX9_best_490 : decode cX9_best 490 = .ok (.getfield 71, 3) := by decide +kernel
theorem dX9_best_493 : decode cX9_best 493 = .ok (.iload_n 1, 1) := by decide +kernel
theorem dX9_best_494 : decode cX9_best 494 = .ok (.iaload, 1) := by decide +kernel
theorem dX9_best_495 : decode cX9_best 495 = .ok (.ireturn, 1) := by decide +kernel
theorem dX9_isAhead_0 : decode cX9_isAhead 0 = .ok (.aload_n 0, 1) := by decide +kernel
theorem dX9_isAhead_1 : decode cX9_isAhead 1 = .ok (.getfield 71, 3) := by decide +kernel
theorem dX9_isAhead_4 : decode cX9_isAhead 4 = .ok (.iload_n 1, 1) := by decide +kernel
theorem dX9_isAhead_5 : decode cX9_isAhead 5 = .ok (.iaload, 1) := by decide +kernel
theorem dX9_isAhead_6 : decode cX9_isAhead 6 = .ok (.aload_n 0, 1) := by decide +kernel
theorem dX9_isAhead_7 : decode cX9_isAhead 7 = .ok (.getfield 71, 3) := by decide +kernel
theorem dX9_isAhead_10 : decode cX9_isAhead 10 = .ok (.iload_n 2, 1) := by decide +kernel
theorem dX9_isAhead_11 : decode cX9_isAhead 11 = .ok (.iaload, 1) := by decide +kernel
theorem dX9_isAhead_12 : decode cX9_isAhead 12 = .ok (.if_icmp .eq 24, 3) := by decide +kernel
theorem dX9_isAhead_15 : decode cX9_isAhead 15 = .ok (.aload_n 0, 1) := by decide +kernel
theorem dX9_isAhead_16 : decode cX9_isAhead 16 = .ok (.getfield 71, 3) := by decide +kernel
theorem dX9_isAhead_19 : decode cX9_isAhead 19 = .ok (.iload_n 1, 1) := by decide +kernel
theorem dX9_isAhead_20 : decode cX9_isAhead 20 = .ok (.iaload, 1) := by decide +kernel
theorem dX9_isAhead_21 : decode cX9_isAhead 21 = .ok (.aload_n 0, 1) := by decide +kernel
theorem dX9_isAhead_22 : decode cX9_isAhead 22 = .ok (.getfield 71, 3) := by decide +kernel
theorem dX9_isAhead_25 : decode cX9_isAhead 25 = .ok (.iload_n 2, 1) := by decide +kernel
theorem dX9_isAhead_26 : decode cX9_isAhead 26 = .ok (.iaload, 1) := by decide +kernel
theorem dX9_isAhead_27 : decode cX9_isAhead 27 = .ok (.if_icmp .ge 7, 3) := by decide +kernel
theorem dX9_isAhead_30 : decode cX9_isAhead 30 = .ok (.iconst 1, 1) := by decide +kernel
theorem dX9_isAhead_31 : decode cX9_isAhead 31 = .ok (.goto 4, 3) := by decide +kernel
theorem dX9_isAhead_34 : decode cX9_isAhead 34 = .ok (.iconst 0, 1) := by decide +kernel
theorem dX9_isAhead_35 : decode cX9_isAhead 35 = .ok (.ireturn, 1) := by decide +kernel
theorem dX9_isAhead_36 : decode cX9_isAhead 36 = .ok (.aload_n 0, 1) := by decide +kernel
theorem dX9_isAhead_37 : decode cX9_isAhead 37 = .ok (.getfield 86, 3) := by decide +kernel
theorem dX9_isAhead_40 : decode cX9_isAhead 40 = .ok (.iload_n 1, 1) := by decide +kernel
theorem dX9_isAhead_41 : decode cX9_isAhead 41 = .ok (.laload, 1) := by decide +kernel
theorem dX9_isAhead_42 : decode cX9_isAhead 42 = .ok (.aload_n 0, 1) := by decide +kernel
theorem dX9_isAhead_43 : decode cX9_isAhead 43 = .ok (.getfield 86, 3) := by decide +kernel
theorem dX9_isAhead_46 : decode cX9_isAhead 46 = .ok (.iload_n 2, 1) := by decide +kernel
theorem dX9_isAhead_47 : decode cX9_isAhead 47 = .ok (.laload, 1) := by decide +kernel
theorem dX9_isAhead_48 : decode cX9_isAhead 48 = .ok (.lcmp, 1) := by decide +kernel
theorem dX9_isAhead_49 : decode cX9_isAhead 49 = .ok (.ifCond .eq 25, 3) := by decide +kernel
theorem dX9_isAhead_52 : decode cX9_isAhead 52 = .ok (.aload_n 0, 1) := by decide +kernel
theorem dX9_isAhead_53 : decode cX9_isAhead 53 = .ok (.getfield 86, 3) := by decide +kernel
theorem dX9_isAhead_56 : decode cX9_isAhead 56 = .ok (.iload_n 1, 1) := by decide +kernel
theorem dX9_isAhead_57 : decode cX9_isAhead 57 = .ok (.laload, 1) := by decide +kernel
theorem dX9_isAhead_58 : decode cX9_isAhead 58 = .ok (.aload_n 0, 1) := by decide +kernel
theorem dX9_isAhead_59 : decode cX9_isAhead 59 = .ok (.getfield 86, 3) := by decide +kernel
theorem dX9_isAhead_62 : decode cX9_isAhead 62 = .ok (.iload_n 2, 1) := by decide +kernel
theorem dX9_isAhead_63 : decode cX9_isAhead 63 = .ok (.laload, 1) := by decide +kernel
theorem dX9_isAhead_64 : decode cX9_isAhead 64 = .ok (.lcmp, 1) := by decide +kernel
theorem dX9_isAhead_65 : decode cX9_isAhead 65 = .ok (.ifCond .le 7, 3) := by decide +kernel
theorem dX9_isAhead_68 : decode cX9_isAhead 68 = .ok (.iconst 1, 1) := by decide +kernel
theorem dX9_isAhead_69 : decode cX9_isAhead 69 = .ok (.goto 4, 3) := by decide +kernel
theorem dX9_isAhead_72 : decode cX9_isAhead 72 = .ok (.iconst 0, 1) := by decide +kernel
theorem dX9_isAhead_73 : decode cX9_isAhead 73 = .ok (.ireturn, 1) := by decide +kernel
theorem dX9_isAhead_74 : decode cX9_isAhead 74 = .ok (.iconst 0, 1) := by decide +kernel
theorem dX9_isAhead_75 : decode cX9_isAhead 75 = .ok (.istore_n 3, 1) := by decide +kernel
theorem dX9_isAhead_76 : decode cX9_isAhead 76 = .ok (.iload_n 3, 1) := by decide +kernel
theorem dX9_isAhead_77 : decode cX9_isAhead 77 = .ok (.aload_n 0, 1) := by decide +kernel
theorem dX9_isAhead_78 : decode cX9_isAhead 78 = .ok (.getfield 130, 3) := by decide +kernel
theorem dX9_isAhead_81 : decode cX9_isAhead 81 = .ok (.if_icmp .gt 65, 3) := by decide +kernel
theorem dX9_isAhead_84 : decode cX9_isAhead 84 = .ok (.aload_n 0, 1) := by decide +kernel
theorem dX9_isAhead_85 : decode cX9_isAhead 85 = .ok (.getfield 77, 3) := by decide +kernel
theorem dX9_isAhead_88 : decode cX9_isAhead 88 = .ok (.bipush 13, 2) := by decide +kernel
theorem dX9_isAhead_90 : decode cX9_isAhead 90 = .ok (.iload_n 1, 1) := by decide +kernel
theorem dX9_isAhead_91 : decode cX9_isAhead 91 = .ok (.imul, 1) := by decide +kernel
theorem dX9_isAhead_92 : decode cX9_isAhead 92 = .ok (.iload_n 3, 1) := by decide +kernel
theorem dX9_isAhead_93 : decode cX9_isAhead 93 = .ok (.iadd, 1) := by decide +kernel
theorem dX9_isAhead_94 : decode cX9_isAhead 94 = .ok (.iaload, 1) := by decide +kernel
theorem dX9_isAhead_95 : decode cX9_isAhead 95 = .ok (.aload_n 0, 1) := by decide +kernel
theorem dX9_isAhead_96 : decode cX9_isAhead 96 = .ok (.getfield 77, 3) := by decide +kernel
theorem dX9_isAhead_99 : decode cX9_isAhead 99 = .ok (.bipush 13, 2) := by decide +kernel
theorem dX9_isAhead_101 : decode cX9_isAhead 101 = .ok (.iload_n 2, 1) := by decide +kernel
theorem dX9_isAhead_102 : decode cX9_isAhead 102 = .ok (.imul, 1) := by decide +kernel
theorem dX9_isAhead_103 : decode cX9_isAhead 103 = .ok (.iload_n 3, 1) := by decide +kernel
theorem dX9_isAhead_104 : decode cX9_isAhead 104 = .ok (.iadd, 1) := by decide +kernel
theorem dX9_isAhead_105 : decode cX9_isAhead 105 = .ok (.iaload, 1) := by decide +kernel
theorem dX9_isAhead_106 : decode cX9_isAhead 106 = .ok (.if_icmp .eq 34, 3) := by decide +kernel
theorem dX9_isAhead_109 : decode cX9_isAhead 109 = .ok (.aload_n 0, 1) := by decide +kernel
theorem dX9_isAhead_110 : decode cX9_isAhead 110 = .ok (.getfield 77, 3) := by decide +kernel
theorem dX9_isAhead_113 : decode cX9_isAhead 113 = .ok (.bipush 13, 2) := by decide +kernel
theorem dX9_isAhead_115 : decode cX9_isAhead 115 = .ok (.iload_n 1, 1) := by decide +kernel
theorem dX9_isAhead_116 : decode cX9_isAhead 116 = .ok (.imul, 1) := by decide +kernel
theorem dX9_isAhead_117 : decode cX9_isAhead 117 = .ok (.iload_n 3, 1) := by decide +kernel
theorem dX9_isAhead_118 : decode cX9_isAhead 118 = .ok (.iadd, 1) := by decide +kernel
theorem dX9_isAhead_119 : decode cX9_isAhead 119 = .ok (.iaload, 1) := by decide +kernel
theorem dX9_isAhead_120 : decode cX9_isAhead 120 = .ok (.aload_n 0, 1) := by decide +kernel
theorem dX9_isAhead_121 : decode cX9_isAhead 121 = .ok (.getfield 77, 3) := by decide +kernel
theorem dX9_isAhead_124 : decode cX9_isAhead 124 = .ok (.bipush 13, 2) := by decide +kernel
theorem dX9_isAhead_126 : decode cX9_isAhead 126 = .ok (.iload_n 2, 1) := by decide +kernel
theorem dX9_isAhead_127 : decode cX9_isAhead 127 = .ok (.imul, 1) := by decide +kernel
theorem dX9_isAhead_128 : decode cX9_isAhead 128 = .ok (.iload_n 3, 1) := by decide +kernel
theorem dX9_isAhead_129 : decode cX9_isAhead 129 = .ok (.iadd, 1) := by decide +kernel
theorem dX9_isAhead_130 : decode cX9_isAhead 130 = .ok (.iaload, 1) := by decide +kernel
theorem dX9_isAhead_131 : decode cX9_isAhead 131 = .ok (.if_icmp .ge 7, 3) := by decide +kernel
theorem dX9_isAhead_134 : decode cX9_isAhead 134 = .ok (.iconst 1, 1) := by decide +kernel
theorem dX9_isAhead_135 : decode cX9_isAhead 135 = .ok (.goto 4, 3) := by decide +kernel
theorem dX9_isAhead_138 : decode cX9_isAhead 138 = .ok (.iconst 0, 1) := by decide +kernel
theorem dX9_isAhead_139 : decode cX9_isAhead 139 = .ok (.ireturn, 1) := by decide +kernel
theorem dX9_isAhead_140 : decode cX9_isAhead 140 = .ok (.iinc 3 1, 3) := by decide +kernel
theorem dX9_isAhead_143 : decode cX9_isAhead 143 = .ok (.goto (-67), 3) := by decide +kernel
theorem dX9_isAhead_146 : decode cX9_isAhead 146 = .ok (.iconst 0, 1) := by decide +kernel
theorem dX9_isAhead_147 : decode cX9_isAhead 147 = .ok (.ireturn, 1) := by decide +kernel
theorem dX9_path_0 : decode cX9_path 0 = .ok (.aload_n 0, 1) := by decide +kernel
theorem dX9_path_1 : decode cX9_path 1 = .ok (.iconst 0, 1) := by decide +kernel
theorem dX9_path_2 : decode cX9_path 2 = .ok (.putfield 1, 3) := by decide +kernel
theorem dX9_path_5 : decode cX9_path 5 = .ok (.iload_n 1, 1) := by decide +kernel
theorem dX9_path_6 : decode cX9_path 6 = .ok (.ifCond .lt 11, 3) := by decide +kernel
theorem dX9_path_9 : decode cX9_path 9 = .ok (.iload_n 1, 1) := by decide +kernel
theorem dX9_path_10 : decode cX9_path 10 = .ok (.aload_n 0, 1) := by decide +kernel
theorem dX9_path_11 : decode cX9_path 11 = .ok (.getfield 176, 3) := by decide +kernel
theorem dX9_path_14 : decode cX9_path 14 = .ok (.if_icmp .lt 7, 3) := by decide +kernel
theorem dX9_path_17 : decode cX9_path 17 = .ok (.iconst (-1), 1) := by decide +kernel
theorem dX9_path_18 : decode cX9_path 18 = .ok (.goto 9, 3) := by decide +kernel
theorem dX9_path_21 : decode cX9_path 21 = .ok (.aload_n 0, 1) := by decide +kernel
theorem dX9_path_22 : decode cX9_path 22 = .ok (.getfield 83, 3) := by decide +kernel
theorem dX9_path_25 : decode cX9_path 25 = .ok (.iload_n 1, 1) := by decide +kernel
theorem dX9_path_26 : decode cX9_path 26 = .ok (.iaload, 1) := by decide +kernel
theorem dX9_path_27 : decode cX9_path 27 = .ok (.ireturn, 1) := by decide +kernel
theorem dX9_pairs_0 : decode cX9_pairs 0 = .ok (.aload_n 0, 1) := by decide +kernel
theorem dX9_pairs_1 : decode cX9_pairs 1 = .ok (.invokevirtual 108, 3) := by decide +kernel
theorem dX9_pairs_4 : decode cX9_pairs 4 = .ok (.istore_n 3, 1) := by decide +kernel
theorem dX9_pairs_5 : decode cX9_pairs 5 = .ok (.iconst 0, 1) := by decide +kernel
theorem dX9_pairs_6 : decode cX9_pairs 6 = .ok (.istore 4, 2) := by decide +kernel
theorem dX9_pairs_8 : decode cX9_pairs 8 = .ok (.iload 4, 2) := by decide +kernel
theorem dX9_pairs_10 : decode cX9_pairs 10 = .ok (.iload_n 3, 1) := by decide +kernel
theorem dX9_pairs_11 : decode cX9_pairs 11 = .ok (.if_icmp .ge 26, 3) := by decide +kernel
theorem dX9_pairs_14 : decode cX9_pairs 14 = .ok (.aload_n 0, 1) := by decide +kernel
theorem dX9_pairs_15 : decode cX9_pairs 15 = .ok (.getfield 92, 3) := by decide +kernel
theorem dX9_pairs_18 : decode cX9_pairs 18 = .ok (.iload 4, 2) := by decide +kernel
theorem dX9_pairs_20 : decode cX9_pairs 20 = .ok (.iload 4, 2) := by decide +kernel
theorem dX9_pairs_22 : decode cX9_pairs 22 = .ok (.iastore, 1) := by decide +kernel
theorem dX9_pairs_23 : decode cX9_pairs 23 = .ok (.aload_n 0, 1) := by decide +kernel
theorem dX9_pairs_24 : decode cX9_pairs 24 = .ok (.getfield 95, 3) := by decide +kernel
theorem dX9_pairs_27 : decode cX9_pairs 27 = .ok (.iload 4, 2) := by decide +kernel
theorem dX9_pairs_29 : decode cX9_pairs 29 = .ok (.iconst 1, 1) := by decide +kernel
theorem dX9_pairs_30 : decode cX9_pairs 30 = .ok (.bastore, 1) := by decide +kernel
theorem dX9_pairs_31 : decode cX9_pairs 31 = .ok (.iinc 4 1, 3) := by decide +kernel
theorem dX9_pairs_34 : decode cX9_pairs 34 = .ok (.goto (-26), 3) := by decide +kernel
theorem dX9_pairs_37 : decode cX9_pairs 37 = .ok (.iconst 0, 1) := by decide +kernel
theorem dX9_pairs_38 : decode cX9_pairs 38 = .ok (.istore 4, 2) := by decide +kernel
theorem dX9_pairs_40 : decode cX9_pairs 40 = .ok (.iload 4, 2) := by decide +kernel
theorem dX9_pairs_42 : decode cX9_pairs 42 = .ok (.iload_n 3, 1) := by decide +kernel
theorem dX9_pairs_43 : decode cX9_pairs 43 = .ok (.iload_n 3, 1) := by decide +kernel
theorem dX9_pairs_44 : decode cX9_pairs 44 = .ok (.imul, 1) := by decide +kernel
theorem dX9_pairs_45 : decode cX9_pairs 45 = .ok (.if_icmp .ge 17, 3) := by decide +kernel
theorem dX9_pairs_48 : decode cX9_pairs 48 = .ok (.aload_n 0, 1) := by decide +kernel
theorem dX9_pairs_49 : decode cX9_pairs 49 = .ok (.getfield 99, 3) := by decide +kernel
theorem dX9_pairs_52 : decode cX9_pairs 52 = .ok (.iload 4, 2) := by decide +kernel
theorem dX9_pairs_54 : decode cX9_pairs 54 = .ok (.iconst 1, 1) := by decide +kernel
theorem dX9_pairs_55 : decode cX9_pairs 55 = .ok (.bastore, 1) := by decide +kernel
theorem dX9_pairs_56 : decode cX9_pairs 56 = .ok (.iinc 4 1, 3) := by decide +kernel
theorem dX9_pairs_59 : decode cX9_pairs 59 = .ok (.goto (-19), 3) := by decide +kernel
theorem dX9_pairs_62 : decode cX9_pairs 62 = .ok (.iconst 0, 1) := by decide +kernel
theorem dX9_pairs_63 : decode cX9_pairs 63 = .ok (.istore 4, 2) := by decide +kernel
theorem dX9_pairs_65 : decode cX9_pairs 65 = .ok (.iload 4, 2) := by decide +kernel
theorem dX9_pairs_67 : decode cX9_pairs 67 = .ok (.iload_n 2, 1) := by decide +kernel
theorem dX9_pairs_68 : decode cX9_pairs 68 = .ok (.if_icmp .gt 295, 3) := by decide +kernel
theorem dX9_pairs_71 : decode cX9_pairs 71 = .ok (.iconst 0, 1) := by decide +kernel
theorem dX9_pairs_72 : decode cX9_pairs 72 = .ok (.istore 5, 2) := by decide +kernel
theorem dX9_pairs_74 : decode cX9_pairs 74 = .ok (.iload 5, 2) := by decide +kernel
theorem dX9_pairs_76 : decode cX9_pairs 76 = .ok (.iload_n 3, 1) := by decide +kernel
theorem dX9_pairs_77 : decode cX9_pairs 77 = .ok (.if_icmp .ge 100, 3) := by decide +kernel
theorem dX9_pairs_80 : decode cX9_pairs 80 = .ok (.iload 4, 2) := by decide +kernel
theorem dX9_pairs_82 : decode cX9_pairs 82 = .ok (.ifCond .le 57, 3) := by decide +kernel
theorem dX9_pairs_85 : decode cX9_pairs 85 = .ok (.aload_n 0, 1) := by decide +kernel
theorem dX9_pairs_86 : decode cX9_pairs 86 = .ok (.getfield 95, 3) := by decide +kernel
theorem dX9_pairs_89 : decode cX9_pairs 89 = .ok (.iload 5, 2) := by decide +kernel
theorem dX9_pairs_91 : decode cX9_pairs 91 = .ok (.baload, 1) := by decide +kernel
theorem dX9_pairs_92 : decode cX9_pairs 92 = .ok (.ifCond .eq 47, 3) := by decide +kernel
theorem dX9_pairs_95 : decode cX9_pairs 95 = .ok (.aload_n 0, 1) := by decide +kernel
theorem dX9_pairs_96 : decode cX9_pairs 96 = .ok (.getfield 92, 3) := by decide +kernel
theorem dX9_pairs_99 : decode cX9_pairs 99 = .ok (.iload 5, 2) := by decide +kernel
theorem dX9_pairs_101 : decode cX9_pairs 101 = .ok (.aload_n 0, 1) := by decide +kernel
theorem dX9_pairs_102 : decode cX9_pairs 102 = .ok (.aload_n 0, 1) := by decide +kernel
theorem dX9_pairs_103 : decode cX9_pairs 103 = .ok (.getfield 92, 3) := by decide +kernel
theorem dX9_pairs_106 : decode cX9_pairs 106 = .ok (.iload 5, 2) := by decide +kernel
theorem dX9_pairs_108 : decode cX9_pairs 108 = .ok (.iaload, 1) := by decide +kernel
theorem dX9_pairs_109 : decode cX9_pairs 109 = .ok (.aload_n 0, 1) := by decide +kernel
theorem dX9_pairs_110 : decode cX9_pairs 110 = .ok (.getfield 14, 3) := by decide +kernel
theorem dX9_pairs_113 : decode cX9_pairs 113 = .ok (.iload_n 1, 1) := by decide +kernel
theorem dX9_pairs_114 : decode cX9_pairs 114 = .ok (.iconst 2, 1) := by decide +kernel
theorem dX9_pairs_115 : decode cX9_pairs 115 = .ok (.iload 4, 2) := by decide +kernel
theorem dX9_pairs_117 : decode cX9_pairs 117 = .ok (.imul, 1) := by decide +kernel
theorem dX9_pairs_118 : decode cX9_pairs 118 = .ok (.iadd, 1) := by decide +kernel
theorem dX9_pairs_119 : decode cX9_pairs 119 = .ok (.iconst 2, 1) := by decide +kernel
theorem dX9_pairs_120 : decode cX9_pairs 120 = .ok (.isub, 1) := by decide +kernel
theorem dX9_pairs_121 : decode cX9_pairs 121 = .ok (.baload, 1) := by decide +kernel
theorem dX9_pairs_122 : decode cX9_pairs 122 = .ok (.aload_n 0, 1) := by decide +kernel
theorem dX9_pairs_123 : decode cX9_pairs 123 = .ok (.getfield 14, 3) := by decide +kernel
theorem dX9_pairs_126 : decode cX9_pairs 126 = .ok (.iload_n 1, 1) := by decide +kernel
theorem dX9_pairs_127 : decode cX9_pairs 127 = .ok (.iconst 2, 1) := by decide +kernel
theorem dX9_pairs_128 : decode cX9_pairs 128 = .ok (.iload 4, 2) := by decide +kernel
theorem dX9_pairs_130 : decode cX9_pairs 130 = .ok (.imul, 1) := by decide +kernel
theorem dX9_pairs_131 : decode cX9_pairs 131 = .ok (.iadd, 1) := by decide +kernel
theorem dX9_pairs_132 : decode cX9_pairs 132 = .ok (.iconst 1, 1) := by decide +kernel
theorem dX9_pairs_133 : decode cX9_pairs 133 = .ok (.isub, 1) := by decide +kernel
theorem dX9_pairs_134 : decode cX9_pairs 134 = .ok (.baload, 1) := by decide +kernel
theorem dX9_pairs_135 : decode cX9_pairs 135 = .ok (.invokevirtual 143, 3) := by decide +kernel
theorem dX9_pairs_138 : decode cX9_pairs 138 = .ok (.iastore, 1) := by decide +kernel
theorem dX9_pairs_139 : decode cX9_pairs 139 = .ok (.aload_n 0, 1) := by decide +kernel
theorem dX9_pairs_140 : decode cX9_pairs 140 = .ok (.getfield 95, 3) := by decide +kernel
theorem dX9_pairs_143 : decode cX9_pairs 143 = .ok (.iload 5, 2) := by decide +kernel
theorem dX9_pairs_145 : decode cX9_pairs 145 = .ok (.aload_n 0, 1) := by decide +kernel
theorem dX9_pairs_146 : decode cX9_pairs 146 = .ok (.getfield 95, 3) := by decide +kernel
theorem dX9_pairs_149 : decode cX9_pairs 149 = .ok (.iload 5, 2) := by decide +kernel
theorem dX9_pairs_151 : decode cX9_pairs 151 = .ok (.baload, 1) := by decide +kernel
theorem dX9_pairs_152 : decode cX9_pairs 152 = .ok (.ifCond .eq 17, 3) := by decide +kernel
theorem dX9_pairs_155 : decode cX9_pairs 155 = .ok (.aload_n 0, 1) := by decide +kernel
theorem dX9_pairs_156 : decode cX9_pairs 156 = .ok (.getfield 92, 3) := by decide +kernel
theorem dX9_pairs_159 : decode cX9_pairs 159 = .ok (.iload 5, 2) := by decide +kernel
theorem dX9_pairs_161 : decode cX9_pairs 161 = .ok (.iaload, 1) := by decide +kernel
theorem dX9_pairs_162 : decode cX9_pairs 162 = .ok (.ifCond .lt 7, 3) := by decide +kernel
theorem dX9_pairs_165 : decode cX9_pairs 165 = .ok (.iconst 1, 1) := by decide +kernel
theorem dX9_pairs_166 : decode cX9_pairs 166 = .ok (.goto 4, 3) := by decide +kernel
theorem dX9_pairs_169 : decode cX9_pairs 169 = .ok (.iconst 0, 1) := by decide +kernel
theorem dX9_pairs_170 : decode cX9_pairs 170 = .ok (.bastore, 1) := by decide +kernel
theorem dX9_pairs_171 : decode cX9_pairs 171 = .ok (.iinc 5 1, 3) := by decide +kernel
theorem dX9_pairs_174 : decode cX9_pairs 174 = .ok (.goto (-100), 3) := by decide +kernel
theorem dX9_pairs_177 : decode cX9_pairs 177 = .ok (.iconst 0, 1) := by decide +kernel
theorem dX9_pairs_178 : decode cX9_pairs 178 = .ok (.istore 5, 2) := by decide +kernel
theorem dX9_pairs_180 : decode cX9_pairs 180 = .ok (.iload 5, 2) := by decide +kernel
theorem dX9_pairs_182 : decode cX9_pairs 182 = .ok (.iload_n 3, 1) := by decide +kernel
theorem dX9_pairs_183 : decode cX9_pairs 183 = .ok (.if_icmp .ge 174, 3) := by decide +kernel
theorem dX9_pairs_186 : decode cX9_pairs 186 = .ok (.iconst 0, 1) := by decide +kernel
theorem dX9_pairs_187 : decode cX9_pairs 187 = .ok (.istore 6, 2) := by decide +kernel
theorem dX9_pairs_189 : decode cX9_pairs 189 = .ok (.iload 6, 2) := by decide +kernel
theorem dX9_pairs_191 : decode cX9_pairs 191 = .ok (.iload 5, 2) := by decide +kernel
theorem dX9_pairs_193 : decode cX9_pairs 193 = .ok (.if_icmp .ge 158, 3) := by decide +kernel
theorem dX9_pairs_196 : decode cX9_pairs 196 = .ok (.aload_n 0, 1) := by decide +kernel
theorem dX9_pairs_197 : decode cX9_pairs 197 = .ok (.getfield 95, 3) := by decide +kernel
theorem dX9_pairs_200 : decode cX9_pairs 200 = .ok (.iload 5, 2) := by decide +kernel
theorem dX9_pairs_202 : decode cX9_pairs 202 = .ok (.baload, 1) := by decide +kernel
theorem dX9_pairs_203 : decode cX9_pairs 203 = .ok (.ifCond .eq 17, 3) := by decide +kernel
theorem dX9_pairs_206 : decode cX9_pairs 206 = .ok (.aload_n 0, 1) := by decide +kernel
theorem dX9_pairs_207 : decode cX9_pairs 207 = .ok (.getfield 95, 3) := by decide +kernel
theorem dX9_pairs_210 : decode cX9_pairs 210 = .ok (.iload 6, 2) := by decide +kernel
theorem dX9_pairs_212 : decode cX9_pairs 212 = .ok (.baload, 1) := by decide +kernel
theorem dX9_pairs_213 : decode cX9_pairs 213 = .ok (.ifCond .eq 7, 3) := by decide +kernel
theorem dX9_pairs_216 : decode cX9_pairs 216 = .ok (.iconst 1, 1) := by decide +kernel
theorem dX9_pairs_217 : decode cX9_pairs 217 = .ok (.goto 4, 3) := by decide +kernel
theorem dX9_pairs_220 : decode cX9_pairs 220 = .ok (.iconst 0, 1) := by decide +kernel
theorem dX9_pairs_221 : decode cX9_pairs 221 = .ok (.istore 7, 2) := by decide +kernel
theorem dX9_pairs_223 : decode cX9_pairs 223 = .ok (.iload 7, 2) := by decide +kernel
theorem dX9_pairs_225 : decode cX9_pairs 225 = .ok (.ifCond .eq 83, 3) := by decide +kernel
theorem dX9_pairs_228 : decode cX9_pairs 228 = .ok (.aload_n 0, 1) := by decide +kernel
theorem dX9_pairs_229 : decode cX9_pairs 229 = .ok (.getfield 27, 3) := by decide +kernel
theorem dX9_pairs_232 : decode cX9_pairs 232 = .ok (.aload_n 0, 1) := by decide +kernel
theorem dX9_pairs_233 : decode cX9_pairs 233 = .ok (.getfield 92, 3) := by decide +kernel
theorem dX9_pairs_236 : decode cX9_pairs 236 = .ok (.iload 5, 2) := by decide +kernel
theorem dX9_pairs_238 : decode cX9_pairs 238 = .ok (.iaload, 1) := by decide +kernel
theorem dX9_pairs_239 : decode cX9_pairs 239 = .ok (.iaload, 1) := by decide +kernel
theorem dX9_pairs_240 : decode cX9_pairs 240 = .ok (.sipush 255, 3) := by decide +kernel
theorem dX9_pairs_243 : decode cX9_pairs 243 = .ok (.if_icmp .eq 58, 3) := by decide +kernel
theorem dX9_pairs_246 : decode cX9_pairs 246 = .ok (.aload_n 0, 1) := by decide +kernel
theorem dX9_pairs_247 : decode cX9_pairs 247 = .ok (.getfield 27, 3) := by decide +kernel
theorem dX9_pairs_250 : decode cX9_pairs 250 = .ok (.aload_n 0, 1) := by decide +kernel
theorem dX9_pairs_251 : decode cX9_pairs 251 = .ok (.getfield 92, 3) := by decide +kernel
theorem dX9_pairs_254 : decode cX9_pairs 254 = .ok (.iload 6, 2) := by decide +kernel
theorem dX9_pairs_256 : decode cX9_pairs 256 = .ok (.iaload, 1) := by decide +kernel
theorem dX9_pairs_257 : decode cX9_pairs 257 = .ok (.iaload, 1) := by decide +kernel
theorem dX9_pairs_258 : decode cX9_pairs 258 = .ok (.sipush 255, 3) := by decide +kernel
theorem dX9_pairs_261 : decode cX9_pairs 261 = .ok (.if_icmp .eq 40, 3) := by decide +kernel
theorem dX9_pairs_264 : decode cX9_pairs 264 = .ok (.aload_n 0, 1) := by decide +kernel
theorem dX9_pairs_265 : decode cX9_pairs 265 = .ok (.getfield 27, 3) := by decide +kernel
theorem dX9_pairs_268 : decode cX9_pairs 268 = .ok (.aload_n 0, 1) := by decide +kernel
theorem dX9_pairs_269 : decode cX9_pairs 269 = .ok (.getfield 92, 3) := by decide +kernel
theorem dX9_pairs_272 : decode cX9_pairs 272 = .ok (.iload 5, 2) := by decide +kernel
theorem dX9_pairs_274 : decode cX9_pairs 274 = .ok (.iaload, 1) := by decide +kernel
theorem dX9_pairs_275 : decode cX9_pairs 275 = .ok (.iaload, 1) := by decide +kernel
theorem dX9_pairs_276 : decode cX9_pairs 276 = .ok (.aload_n 0, 1) := by decide +kernel
theorem dX9_pairs_277 : decode cX9_pairs 277 = .ok (.getfield 27, 3) := by decide +kernel
theorem dX9_pairs_280 : decode cX9_pairs 280 = .ok (.aload_n 0, 1) := by decide +kernel
theorem dX9_pairs_281 : decode cX9_pairs 281 = .ok (.getfield 92, 3) := by decide +kernel
theorem dX9_pairs_284 : decode cX9_pairs 284 = .ok (.iload 6, 2) := by decide +kernel
theorem dX9_pairs_286 : decode cX9_pairs 286 = .ok (.iaload, 1) := by decide +kernel
theorem dX9_pairs_287 : decode cX9_pairs 287 = .ok (.iaload, 1) := by decide +kernel
theorem dX9_pairs_288 : decode cX9_pairs 288 = .ok (.isub, 1) := by decide +kernel
theorem dX9_pairs_289 : decode cX9_pairs 289 = .ok (.invokestatic 127, 3) := by decide +kernel
theorem dX9_pairs_292 : decode cX9_pairs 292 = .ok (.iconst 2, 1) := by decide +kernel
theorem dX9_pairs_293 : decode cX9_pairs 293 = .ok (.aload_n 0, 1) := by decide +kernel
theorem dX9_pairs_294 : decode cX9_pairs 294 = .ok (.getfield 121, 3) := by decide +kernel
theorem dX9_pairs_297 : decode cX9_pairs 297 = .ok (.imul, 1) := by decide +kernel
theorem dX9_pairs_298 : decode cX9_pairs 298 = .ok (.if_icmp .gt 7, 3) := by decide +kernel
theorem dX9_pairs_301 : decode cX9_pairs 301 = .ok (.iconst 1, 1) := by decide +kernel
theorem dX9_pairs_302 : decode cX9_pairs 302 = .ok (.goto 4, 3) := by decide +kernel
theorem dX9_pairs_305 : decode cX9_pairs 305 = .ok (.iconst 0, 1) := by decide +kernel
theorem dX9_pairs_306 : decode cX9_pairs 306 = .ok (.istore 7, 2) := by decide +kernel
theorem dX9_pairs_308 : decode cX9_pairs 308 = .ok (.aload_n 0, 1) := by decide +kernel
theorem dX9_pairs_309 : decode cX9_pairs 309 = .ok (.getfield 99, 3) := by decide +kernel
theorem dX9_pairs_312 : decode cX9_pairs 312 = .ok (.iload_n 3, 1) := by decide +kernel
theorem dX9_pairs_313 : decode cX9_pairs 313 = .ok (.iload 5, 2) := by decide +kernel
theorem dX9_pairs_315 : decode cX9_pairs 315 = .ok (.imul, 1) := by decide +kernel
theorem dX9_pairs_316 : decode cX9_pairs 316 = .ok (.iload 6, 2) := by decide +kernel
theorem dX9_pairs_318 : decode cX9_pairs 318 = .ok (.iadd, 1) := by decide +kernel
theorem dX9_pairs_319 : decode cX9_pairs 319 = .ok (.aload_n 0, 1) := by decide +kernel
theorem dX9_pairs_320 : decode cX9_pairs 320 = .ok (.getfield 99, 3) := by decide +kernel
theorem dX9_pairs_323 : decode cX9_pairs 323 = .ok (.iload_n 3, 1) := by decide +kernel
theorem dX9_pairs_324 : decode cX9_pairs 324 = .ok (.iload 5, 2) := by decide +kernel
theorem dX9_pairs_326 : decode cX9_pairs 326 = .ok (.imul, 1) := by decide +kernel
theorem dX9_pairs_327 : decode cX9_pairs 327 = .ok (.iload 6, 2) := by decide +kernel
theorem dX9_pairs_329 : decode cX9_pairs 329 = .ok (.iadd, 1) := by decide +kernel
theorem dX9_pairs_330 : decode cX9_pairs 330 = .ok (.baload, 1) := by decide +kernel
theorem dX9_pairs_331 : decode cX9_pairs 331 = .ok (.ifCond .eq 12, 3) := by decide +kernel
theorem dX9_pairs_334 : decode cX9_pairs 334 = .ok (.iload 7, 2) := by decide +kernel
theorem dX9_pairs_336 : decode cX9_pairs 336 = .ok (.ifCond .eq 7, 3) := by decide +kernel
theorem dX9_pairs_339 : decode cX9_pairs 339 = .ok (.iconst 1, 1) := by decide +kernel
theorem dX9_pairs_340 : decode cX9_pairs 340 = .ok (.goto 4, 3) := by decide +kernel
theorem dX9_pairs_343 : decode cX9_pairs 343 = .ok (.iconst 0, 1) := by decide +kernel
theorem dX9_pairs_344 : decode cX9_pairs 344 = .ok (.bastore, 1) := by decide +kernel
theorem dX9_pairs_345 : decode cX9_pairs 345 = .ok (.iinc 6 1, 3) := by decide +kernel
theorem dX9_pairs_348 : decode cX9_pairs 348 = .ok (.goto (-159), 3) := by decide +kernel
theorem dX9_pairs_351 : decode cX9_pairs 351 = .ok (.iinc 5 1, 3) := by decide +kernel
theorem dX9_pairs_354 : decode cX9_pairs 354 = .ok (.goto (-174), 3) := by decide +kernel
theorem dX9_pairs_357 : decode cX9_pairs 357 = .ok (.iinc 4 1, 3) := by decide +kernel
theorem dX9_pairs_360 : decode cX9_pairs 360 = .ok (.goto (-295), 3) := by decide +kernel
theorem dX9_pairs_363 : decode cX9_pairs 363 = .ok (.iconst 0, 1) := by decide +kernel
theorem dX9_pairs_364 : decode cX9_pairs 364 = .ok (.istore 4, 2) := by decide +kernel
theorem dX9_pairs_366 : decode cX9_pairs 366 = .ok (.aload_n 0, 1) := by decide +kernel
theorem dX9_pairs_367 : decode cX9_pairs 367 = .ok (.iconst (-1), 1) := by decide +kernel
theorem dX9_pairs_368 : decode cX9_pairs 368 = .ok (.putfield 179, 3) := by decide +kernel
theorem dX9_pairs_371 : decode cX9_pairs 371 = .ok (.iconst 0, 1) := by decide +kernel
theorem dX9_pairs_372 : decode cX9_pairs 372 = .ok (.istore 5, 2) := by decide +kernel
theorem dX9_pairs_374 : decode cX9_pairs 374 = .ok (.iload 5, 2) := by decide +kernel
theorem dX9_pairs_376 : decode cX9_pairs 376 = .ok (.iload_n 3, 1) := by decide +kernel
theorem dX9_pairs_377 : decode cX9_pairs 377 = .ok (.if_icmp .ge 75, 3) := by decide +kernel
theorem dX9_pairs_380 : decode cX9_pairs 380 = .ok (.iload 5, 2) := by decide +kernel
theorem dX9_pairs_382 : decode cX9_pairs 382 = .ok (.iconst 1, 1) := by decide +kernel
theorem dX9_pairs_383 : decode cX9_pairs 383 = .ok (.iadd, 1) := by decide +kernel
theorem dX9_pairs_384 : decode cX9_pairs 384 = .ok (.istore 6, 2) := by decide +kernel
theorem dX9_pairs_386 : decode cX9_pairs 386 = .ok (.iload 6, 2) := by decide +kernel
theorem dX9_pairs_388 : decode cX9_pairs 388 = .ok (.iload_n 3, 1) := by decide +kernel
theorem dX9_pairs_389 : decode cX9_pairs 389 = .ok (.if_icmp .ge 57, 3) := by decide +kernel
theorem dX9_pairs_392 : decode cX9_pairs 392 = .ok (.aload_n 0, 1) := by decide +kernel
theorem dX9_pairs_393 : decode cX9_pairs 393 = .ok (.getfield 99, 3) := by decide +kernel
theorem dX9_pairs_396 : decode cX9_pairs 396 = .ok (.iload_n 3, 1) := by decide +kernel
theorem dX9_pairs_397 : decode cX9_pairs 397 = .ok (.iload 6, 2) := by decide +kernel
theorem dX9_pairs_399 : decode cX9_pairs 399 = .ok (.imul, 1) := by decide +kernel
theorem dX9_pairs_400 : decode cX9_pairs 400 = .ok (.iload 5, 2) := by decide +kernel
theorem dX9_pairs_402 : decode cX9_pairs 402 = .ok (.iadd, 1) := by decide +kernel
theorem dX9_pairs_403 : decode cX9_pairs 403 = .ok (.baload, 1) := by decide +kernel
theorem dX9_pairs_404 : decode cX9_pairs 404 = .ok (.ifCond .ne 6, 3) := by decide +kernel
theorem dX9_pairs_407 : decode cX9_pairs 407 = .ok (.goto 33, 3) := by decide +kernel
theorem dX9_pairs_410 : decode cX9_pairs 410 = .ok (.iinc 4 1, 3) := by decide +kernel
theorem dX9_pairs_413 : decode cX9_pairs 413 = .ok (.aload_n 0, 1) := by decide +kernel
theorem dX9_pairs_414 : decode cX9_pairs 414 = .ok (.aload_n 0, 1) := by decide +kernel
theorem dX9_pairs_415 : decode cX9_pairs 415 = .ok (.getfield 179, 3) := by decide +kernel
theorem dX9_pairs_418 : decode cX9_pairs 418 = .ok (.ifCond .ge 15, 3) := by decide +kernel
theorem dX9_pairs_421 : decode cX9_pairs 421 = .ok (.sipush 200, 3) := by decide +kernel
theorem dX9_pairs_424 : decode cX9_pairs 424 = .ok (.iload 5, 2) := by decide +kernel
theorem dX9_pairs_426 : decode cX9_pairs 426 = .ok (.imul, 1) := by decide +kernel
theorem dX9_pairs_427 : decode cX9_pairs 427 = .ok (.iload 6, 2) := by decide +kernel
theorem dX9_pairs_429 : decode cX9_pairs 429 = .ok (.iadd, 1) := by decide +kernel
theorem dX9_pairs_430 : decode cX9_pairs 430 = .ok (.goto 7, 3) := by decide +kernel
theorem dX9_pairs_433 : decode cX9_pairs 433 = .ok (.aload_n 0, 1) := by decide +kernel
theorem dX9_pairs_434 : decode cX9_pairs 434 = .ok (.getfield 179, 3) := by decide +kernel
theorem dX9_pairs_437 : decode cX9_pairs 437 = .ok (.putfield 179, 3) := by decide +kernel
theorem dX9_pairs_440 : decode cX9_pairs 440 = .ok (.iinc 6 1, 3) := by decide +kernel
theorem dX9_pairs_443 : decode cX9_pairs 443 = .ok (.goto (-57), 3) := by decide +kernel
theorem dX9_pairs_446 : decode cX9_pairs 446 = .ok (.iinc 5 1, 3) := by decide +kernel
theorem dX9_pairs_449 : decode cX9_pairs 449 = .ok (.goto (-75), 3) := by decide +kernel
theorem dX9_pairs_452 : decode cX9_pairs 452 = .ok (.iload 4, 2) := by decide +kernel
theorem dX9_pairs_454 : decode cX9_pairs 454 = .ok (.ireturn, 1) := by decide +kernel
theorem dX9_isRoute_0 : decode cX9_isRoute 0 = .ok (.iload_n 2, 1) := by decide +kernel
theorem dX9_isRoute_1 : decode cX9_isRoute 1 = .ok (.iconst 2, 1) := by decide +kernel
theorem dX9_isRoute_2 : decode cX9_isRoute 2 = .ok (.irem, 1) := by decide +kernel
theorem dX9_isRoute_3 : decode cX9_isRoute 3 = .ok (.ifCond .ne 9, 3) := by decide +kernel
theorem dX9_isRoute_6 : decode cX9_isRoute 6 = .ok (.iload_n 2, 1) := by decide +kernel
theorem dX9_isRoute_7 : decode cX9_isRoute 7 = .ok (.bipush 16, 2) := by decide +kernel
theorem dX9_isRoute_9 : decode cX9_isRoute 9 = .ok (.if_icmp .le 5, 3) := by decide +kernel
theorem dX9_isRoute_12 : decode cX9_isRoute 12 = .ok (.iconst 0, 1) := by decide +kernel
theorem dX9_isRoute_13 : decode cX9_isRoute 13 = .ok (.ireturn, 1) := by decide +kernel
theorem dX9_isRoute_14 : decode cX9_isRoute 14 = .ok (.iconst 0, 1) := by decide +kernel
theorem dX9_isRoute_15 : decode cX9_isRoute 15 = .ok (.istore_n 3, 1) := by decide +kernel
theorem dX9_isRoute_16 : decode cX9_isRoute 16 = .ok (.iload_n 3, 1) := by decide +kernel
theorem dX9_isRoute_17 : decode cX9_isRoute 17 = .ok (.iload_n 2, 1) := by decide +kernel
theorem dX9_isRoute_18 : decode cX9_isRoute 18 = .ok (.if_icmp .ge 36, 3) := by decide +kernel
theorem dX9_isRoute_21 : decode cX9_isRoute 21 = .ok (.aload_n 0, 1) := by decide +kernel
theorem dX9_isRoute_22 : decode cX9_isRoute 22 = .ok (.getfield 14, 3) := by decide +kernel
theorem dX9_isRoute_25 : decode cX9_isRoute 25 = .ok (.iload_n 1, 1) := by decide +kernel
theorem dX9_isRoute_26 : decode cX9_isRoute 26 = .ok (.iload_n 3, 1) := by decide +kernel
theorem dX9_isRoute_27 : decode cX9_isRoute 27 = .ok (.iadd, 1) := by decide +kernel
theorem dX9_isRoute_28 : decode cX9_isRoute 28 = .ok (.baload, 1) := by decide +kernel
theorem dX9_isRoute_29 : decode cX9_isRoute 29 = .ok (.bipush (-5), 2) := by decide +kernel
theorem dX9_isRoute_31 : decode cX9_isRoute 31 = .ok (.if_icmp .lt 15, 3) := by decide +kernel
theorem dX9_isRoute_34 : decode cX9_isRoute 34 = .ok (.aload_n 0, 1) := by decide +kernel
theorem dX9_isRoute_35 : decode cX9_isRoute 35 = .ok (.getfield 14, 3) := by decide +kernel
theorem dX9_isRoute_38 : decode cX9_isRoute 38 = .ok (.iload_n 1, 1) := by decide +kernel
theorem dX9_isRoute_39 : decode cX9_isRoute 39 = .ok (.iload_n 3, 1) := by decide +kernel
theorem dX9_isRoute_40 : decode cX9_isRoute 40 = .ok (.iadd, 1) := by decide +kernel
theorem dX9_isRoute_41 : decode cX9_isRoute 41 = .ok (.baload, 1) := by decide +kernel
theorem dX9_isRoute_42 : decode cX9_isRoute 42 = .ok (.iconst 5, 1) := by decide +kernel
theorem dX9_isRoute_43 : decode cX9_isRoute 43 = .ok (.if_icmp .le 5, 3) := by decide +kernel
theorem dX9_isRoute_46 : decode cX9_isRoute 46 = .ok (.iconst 0, 1) := by decide +kernel
theorem dX9_isRoute_47 : decode cX9_isRoute 47 = .ok (.ireturn, 1) := by decide +kernel
theorem dX9_isRoute_48 : decode cX9_isRoute 48 = .ok (.iinc 3 1, 3) := by decide +kernel
theorem dX9_isRoute_51 : decode cX9_isRoute 51 = .ok (.goto (-35), 3) := by decide +kernel
theorem dX9_isRoute_54 : decode cX9_isRoute 54 = .ok (.iconst 1, 1) := by decide +kernel
theorem dX9_isRoute_55 : decode cX9_isRoute 55 = .ok (.ireturn, 1) := by decide +kernel
theorem dX9_twins_0 : decode cX9_twins 0 = .ok (.aload_n 0, 1) := by decide +kernel
theorem dX9_twins_1 : decode cX9_twins 1 = .ok (.iconst 0, 1) := by decide +kernel
theorem dX9_twins_2 : decode cX9_twins 2 = .ok (.putfield 1, 3) := by decide +kernel
theorem dX9_twins_5 : decode cX9_twins 5 = .ok (.aload_n 0, 1) := by decide +kernel
theorem dX9_twins_6 : decode cX9_twins 6 = .ok (.invokevirtual 112, 3) := by decide +kernel
theorem dX9_twins_9 : decode cX9_twins 9 = .ok (.aload_n 0, 1) := by decide +kernel
theorem dX9_twins_10 : decode cX9_twins 10 = .ok (.iconst 0, 1) := by decide +kernel
theorem dX9_twins_11 : decode cX9_twins 11 = .ok (.aload_n 0, 1) := by decide +kernel
theorem dX9_twins_12 : decode cX9_twins 12 = .ok (.getfield 18, 3) := by decide +kernel
theorem dX9_twins_15 : decode cX9_twins 15 = .ok (.invokevirtual 182, 3) := by decide +kernel
theorem dX9_twins_18 : decode cX9_twins 18 = .ok (.ifCond .ne 5, 3) := by decide +kernel
theorem dX9_twins_21 : decode cX9_twins 21 = .ok (.iconst (-1), 1) := by decide +kernel
theorem dX9_twins_22 : decode cX9_twins 22 = .ok (.ireturn, 1) := by decide +kernel
theorem dX9_twins_23 : decode cX9_twins 23 = .ok (.aload_n 0, 1) := by decide +kernel
theorem dX9_twins_24 : decode cX9_twins 24 = .ok (.iconst 0, 1) := by decide +kernel
theorem dX9_twins_25 : decode cX9_twins 25 = .ok (.aload_n 0, 1) := by decide +kernel
theorem dX9_twins_26 : decode cX9_twins 26 = .ok (.getfield 18, 3) := by decide +kernel
theorem dX9_twins_29 : decode cX9_twins 29 = .ok (.iconst 2, 1) := by decide +kernel
theorem dX9_twins_30 : decode cX9_twins 30 = .ok (.idiv, 1) := by decide +kernel
theorem dX9_twins_31 : decode cX9_twins 31 = .ok (.invokevirtual 185, 3) := by decide +kernel
theorem dX9_twins_34 : decode cX9_twins 34 = .ok (.istore_n 1, 1) := by decide +kernel
theorem dX9_twins_35 : decode cX9_twins 35 = .ok (.aload_n 0, 1) := by decide +kernel
theorem dX9_twins_36 : decode cX9_twins 36 = .ok (.aload_n 0, 1) := by decide +kernel
theorem dX9_twins_37 : decode cX9_twins 37 = .ok (.getfield 179, 3) := by decide +kernel
theorem dX9_twins_40 : decode cX9_twins 40 = .ok (.putfield 102, 3) := by decide +kernel
theorem dX9_twins_43 : decode cX9_twins 43 = .ok (.iload_n 1, 1) := by decide +kernel
theorem dX9_twins_44 : decode cX9_twins 44 = .ok (.ireturn, 1) := by decide +kernel
theorem dX9_twin_0 : decode cX9_twin 0 = .ok (.aload_n 0, 1) := by decide +kernel
theorem dX9_twin_1 : decode cX9_twin 1 = .ok (.iconst 0, 1) := by decide +kernel
theorem dX9_twin_2 : decode cX9_twin 2 = .ok (.putfield 1, 3) := by decide +kernel
theorem dX9_twin_5 : decode cX9_twin 5 = .ok (.aload_n 0, 1) := by decide +kernel
theorem dX9_twin_6 : decode cX9_twin 6 = .ok (.getfield 102, 3) := by decide +kernel
theorem dX9_twin_9 : decode cX9_twin 9 = .ok (.ireturn, 1) := by decide +kernel
theorem dX9_route_0 : decode cX9_route 0 = .ok (.aload_n 0, 1) := by decide +kernel
theorem dX9_route_1 : decode cX9_route 1 = .ok (.iconst 0, 1) := by decide +kernel
theorem dX9_route_2 : decode cX9_route 2 = .ok (.putfield 1, 3) := by decide +kernel
theorem dX9_route_5 : decode cX9_route 5 = .ok (.aload_n 0, 1) := by decide +kernel
theorem dX9_route_6 : decode cX9_route 6 = .ok (.invokevirtual 112, 3) := by decide +kernel
theorem dX9_route_9 : decode cX9_route 9 = .ok (.iload_n 1, 1) := by decide +kernel
theorem dX9_route_10 : decode cX9_route 10 = .ok (.iconst 1, 1) := by decide +kernel
theorem dX9_route_11 : decode cX9_route 11 = .ok (.if_icmp .lt 18, 3) := by decide +kernel
theorem dX9_route_14 : decode cX9_route 14 = .ok (.iload_n 1, 1) := by decide +kernel
theorem dX9_route_15 : decode cX9_route 15 = .ok (.bipush 8, 2) := by decide +kernel
theorem dX9_route_17 : decode cX9_route 17 = .ok (.if_icmp .gt 12, 3) := by decide +kernel
theorem dX9_route_20 : decode cX9_route 20 = .ok (.aload_n 0, 1) := by decide +kernel
theorem dX9_route_21 : decode cX9_route 21 = .ok (.getfield 18, 3) := by decide +kernel
theorem dX9_route_24 : decode cX9_route 24 = .ok (.iload_n 1, 1) := by decide +kernel
theorem dX9_route_25 : decode cX9_route 25 = .ok (.irem, 1) := by decide +kernel
theorem dX9_route_26 : decode cX9_route 26 = .ok (.ifCond .eq 5, 3) := by decide +kernel
theorem dX9_route_29 : decode cX9_route 29 = .ok (.iconst (-1), 1) := by decide +kernel
theorem dX9_route_30 : decode cX9_route 30 = .ok (.ireturn, 1) := by decide +kernel
theorem dX9_route_31 : decode cX9_route 31 = .ok (.aload_n 0, 1) := by decide +kernel
theorem dX9_route_32 : decode cX9_route 32 = .ok (.getfield 18, 3) := by decide +kernel
theorem dX9_route_35 : decode cX9_route 35 = .ok (.iload_n 1, 1) := by decide +kernel
theorem dX9_route_36 : decode cX9_route 36 = .ok (.idiv, 1) := by decide +kernel
theorem dX9_route_37 : decode cX9_route 37 = .ok (.istore_n 2, 1) := by decide +kernel
theorem dX9_route_38 : decode cX9_route 38 = .ok (.iconst 0, 1) := by decide +kernel
theorem dX9_route_39 : decode cX9_route 39 = .ok (.istore_n 3, 1) := by decide +kernel
theorem dX9_route_40 : decode cX9_route 40 = .ok (.iload_n 3, 1) := by decide +kernel
theorem dX9_route_41 : decode cX9_route 41 = .ok (.iload_n 1, 1) := by decide +kernel
theorem dX9_route_42 : decode cX9_route 42 = .ok (.if_icmp .ge 22, 3) := by decide +kernel
theorem dX9_route_45 : decode cX9_route 45 = .ok (.aload_n 0, 1) := by decide +kernel
theorem dX9_route_46 : decode cX9_route 46 = .ok (.iload_n 2, 1) := by decide +kernel
theorem dX9_route_47 : decode cX9_route 47 = .ok (.iload_n 3, 1) := by decide +kernel
theorem dX9_route_48 : decode cX9_route 48 = .ok (.imul, 1) := by decide +kernel
theorem dX9_route_49 : decode cX9_route 49 = .ok (.iload_n 2, 1) := by decide +kernel
theorem dX9_route_50 : decode cX9_route 50 = .ok (.invokevirtual 182, 3) := by decide +kernel
theorem dX9_route_53 : decode cX9_route 53 = .ok (.ifCond .ne 5, 3) := by decide +kernel
theorem dX9_route_56 : decode cX9_route 56 = .ok (.iconst (-1), 1) := by decide +kernel
theorem dX9_route_57 : decode cX9_route 57 = .ok (.ireturn, 1) := by decide +kernel
theorem dX9_route_58 : decode cX9_route 58 = .ok (.iinc 3 1, 3) := by decide +kernel
theorem dX9_route_61 : decode cX9_route 61 = .ok (.goto (-21), 3) := by decide +kernel
theorem dX9_route_64 : decode cX9_route 64 = .ok (.iconst 0, 1) := by decide +kernel
theorem dX9_route_65 : decode cX9_route 65 = .ok (.istore_n 3, 1) := by decide +kernel
theorem dX9_route_66 : decode cX9_route 66 = .ok (.iconst (-1), 1) := by decide +kernel
theorem dX9_route_67 : decode cX9_route 67 = .ok (.istore 4, 2) := by decide +kernel
theorem dX9_route_69 : decode cX9_route 69 = .ok (.iconst 0, 1) := by decide +kernel
theorem dX9_route_70 : decode cX9_route 70 = .ok (.istore 5, 2) := by decide +kernel
theorem dX9_route_72 : decode cX9_route 72 = .ok (.iload 5, 2) := by decide +kernel
theorem dX9_route_74 : decode cX9_route 74 = .ok (.iload_n 1, 1) := by decide +kernel
theorem dX9_route_75 : decode cX9_route 75 = .ok (.if_icmp .ge 44, 3) := by decide +kernel
theorem dX9_route_78 : decode cX9_route 78 = .ok (.aload_n 0, 1) := by decide +kernel
theorem dX9_route_79 : decode cX9_route 79 = .ok (.iload_n 2, 1) := by decide +kernel
theorem dX9_route_80 : decode cX9_route 80 = .ok (.iload 5, 2) := by decide +kernel
theorem dX9_route_82 : decode cX9_route 82 = .ok (.imul, 1) := by decide +kernel
theorem dX9_route_83 : decode cX9_route 83 = .ok (.iload_n 2, 1) := by decide +kernel
theorem dX9_route_84 : decode cX9_route 84 = .ok (.iconst 2, 1) := by decide +kernel
theorem dX9_route_85 : decode cX9_route 85 = .ok (.idiv, 1) := by decide +kernel
theorem dX9_route_86 : decode cX9_route 86 = .ok (.invokevirtual 185, 3) := by decide +kernel
theorem dX9_route_89 : decode cX9_route 89 = .ok (.istore 6, 2) := by decide +kernel
theorem dX9_route_91 : decode cX9_route 91 = .ok (.iload 4, 2) := by decide +kernel
theorem dX9_route_93 : decode cX9_route 93 = .ok (.ifCond .lt 13, 3) := by decide +kernel
theorem dX9_route_96 : decode cX9_route 96 = .ok (.iload 6, 2) := by decide +kernel
theorem dX9_route_98 : decode cX9_route 98 = .ok (.iload 4, 2) := by decide +kernel
theorem dX9_route_100 : decode cX9_route 100 = .ok (.if_icmp .lt 6, 3) := by decide +kernel
theorem dX9_route_103 : decode cX9_route 103 = .ok (.goto 10, 3) := by decide +kernel
theorem dX9_route_106 : decode cX9_route 106 = .ok (.iload 6, 2) := by decide +kernel
theorem dX9_route_108 : decode cX9_route 108 = .ok (.istore 4, 2) := by decide +kernel
theorem dX9_route_110 : decode cX9_route 110 = .ok (.iload 5, 2) := by decide +kernel
theorem dX9_route_112 : decode cX9_route 112 = .ok (.istore_n 3, 1) := by decide +kernel
theorem dX9_route_113 : decode cX9_route 113 = .ok (.iinc 5 1, 3) := by decide +kernel
theorem dX9_route_116 : decode cX9_route 116 = .ok (.goto (-44), 3) := by decide +kernel
theorem dX9_route_119 : decode cX9_route 119 = .ok (.iload_n 3, 1) := by decide +kernel
theorem dX9_route_120 : decode cX9_route 120 = .ok (.ireturn, 1) := by decide +kernel
theorem dX9_middle_0 : decode cX9_middle 0 = .ok (.iload_n 0, 1) := by decide +kernel
theorem dX9_middle_1 : decode cX9_middle 1 = .ok (.iload_n 1, 1) := by decide +kernel
theorem dX9_middle_2 : decode cX9_middle 2 = .ok (.if_icmp .ge 7, 3) := by decide +kernel
theorem dX9_middle_5 : decode cX9_middle 5 = .ok (.iload_n 0, 1) := by decide +kernel
theorem dX9_middle_6 : decode cX9_middle 6 = .ok (.goto 4, 3) := by decide +kernel
theorem dX9_middle_9 : decode cX9_middle 9 = .ok (.iload_n 1, 1) := by decide +kernel
theorem dX9_middle_10 : decode cX9_middle 10 = .ok (.istore_n 3, 1) := by decide +kernel
theorem dX9_middle_11 : decode cX9_middle 11 = .ok (.iload_n 0, 1) := by decide +kernel
theorem dX9_middle_12 : decode cX9_middle 12 = .ok (.iload_n 1, 1) := by decide +kernel
theorem dX9_middle_13 : decode cX9_middle 13 = .ok (.if_icmp .ge 7, 3) := by decide +kernel
theorem dX9_middle_16 : decode cX9_middle 16 = .ok (.iload_n 1, 1) := by decide +kernel
theorem dX9_middle_17 : decode cX9_middle 17 = .ok (.goto 4, 3) := by decide +kernel
theorem dX9_middle_20 : decode cX9_middle 20 = .ok (.iload_n 0, 1) := by decide +kernel
theorem dX9_middle_21 : decode cX9_middle 21 = .ok (.istore 4, 2) := by decide +kernel
theorem dX9_middle_23 : decode cX9_middle 23 = .ok (.iload_n 2, 1) := by decide +kernel
theorem dX9_middle_24 : decode cX9_middle 24 = .ok (.iload_n 3, 1) := by decide +kernel
theorem dX9_middle_25 : decode cX9_middle 25 = .ok (.if_icmp .ge 7, 3) := by decide +kernel
theorem dX9_middle_28 : decode cX9_middle 28 = .ok (.iload_n 3, 1) := by decide +kernel
theorem dX9_middle_29 : decode cX9_middle 29 = .ok (.goto 15, 3) := by decide +kernel
theorem dX9_middle_32 : decode cX9_middle 32 = .ok (.iload_n 2, 1) := by decide +kernel
theorem dX9_middle_33 : decode cX9_middle 33 = .ok (.iload 4, 2) := by decide +kernel
theorem dX9_middle_35 : decode cX9_middle 35 = .ok (.if_icmp .le 8, 3) := by decide +kernel
theorem dX9_middle_38 : decode cX9_middle 38 = .ok (.iload 4, 2) := by decide +kernel
theorem dX9_middle_40 : decode cX9_middle 40 = .ok (.goto 4, 3) := by decide +kernel
theorem dX9_middle_43 : decode cX9_middle 43 = .ok (.iload_n 2, 1) := by decide +kernel
theorem dX9_middle_44 : decode cX9_middle 44 = .ok (.ireturn, 1) := by decide +kernel
theorem dX9_check_0 : decode cX9_check 0 = .ok (.aload_n 0, 1) := by decide +kernel
theorem dX9_check_1 : decode cX9_check 1 = .ok (.iconst 0, 1) := by decide +kernel
theorem dX9_check_2 : decode cX9_check 2 = .ok (.putfield 1, 3) := by decide +kernel
theorem dX9_check_5 : decode cX9_check 5 = .ok (.aload_n 0, 1) := by decide +kernel
theorem dX9_check_6 : decode cX9_check 6 = .ok (.iload_n 1, 1) := by decide +kernel
theorem dX9_check_7 : decode cX9_check 7 = .ok (.invokevirtual 139, 3) := by decide +kernel
theorem dX9_check_10 : decode cX9_check 10 = .ok (.ifCond .eq 14, 3) := by decide +kernel
theorem dX9_check_13 : decode cX9_check 13 = .ok (.iload_n 2, 1) := by decide +kernel
theorem dX9_check_14 : decode cX9_check 14 = .ok (.ifCond .lt 10, 3) := by decide +kernel
theorem dX9_check_17 : decode cX9_check 17 = .ok (.iload_n 2, 1) := by decide +kernel
theorem dX9_check_18 : decode cX9_check 18 = .ok (.sipush 250, 3) := by decide +kernel
theorem dX9_check_21 : decode cX9_check 21 = .ok (.if_icmp .le 5, 3) := by decide +kernel
theorem dX9_check_24 : decode cX9_check 24 = .ok (.iconst (-1), 1) := by decide +kernel
theorem dX9_check_25 : decode cX9_check 25 = .ok (.ireturn, 1) := by decide +kernel
theorem dX9_check_26 : decode cX9_check 26 = .ok (.aload_n 0, 1) := by decide +kernel
theorem dX9_check_27 : decode cX9_check 27 = .ok (.getfield 27, 3) := by decide +kernel
theorem dX9_check_30 : decode cX9_check 30 = .ok (.iload_n 1, 1) := by decide +kernel
theorem dX9_check_31 : decode cX9_check 31 = .ok (.iaload, 1) := by decide +kernel
theorem dX9_check_32 : decode cX9_check 32 = .ok (.sipush 255, 3) := by decide +kernel
theorem dX9_check_35 : decode cX9_check 35 = .ok (.if_icmp .ne 29, 3) := by decide +kernel
theorem dX9_check_38 : decode cX9_check 38 = .ok (.aload_n 0, 1) := by decide +kernel
theorem dX9_check_39 : decode cX9_check 39 = .ok (.getfield 27, 3) := by decide +kernel
theorem dX9_check_42 : decode cX9_check 42 = .ok (.iload_n 1, 1) := by decide +kernel
theorem dX9_check_43 : decode cX9_check 43 = .ok (.iload_n 2, 1) := by decide +kernel
theorem dX9_check_44 : decode cX9_check 44 = .ok (.iastore, 1) := by decide +kernel
theorem dX9_check_45 : decode cX9_check 45 = .ok (.aload_n 0, 1) := by decide +kernel
theorem dX9_check_46 : decode cX9_check 46 = .ok (.getfield 34, 3) := by decide +kernel
theorem dX9_check_49 : decode cX9_check 49 = .ok (.iload_n 1, 1) := by decide +kernel
theorem dX9_check_50 : decode cX9_check 50 = .ok (.iconst 0, 1) := by decide +kernel
theorem dX9_check_51 : decode cX9_check 51 = .ok (.iastore, 1) := by decide +kernel
theorem dX9_check_52 : decode cX9_check 52 = .ok (.aload_n 0, 1) := by decide +kernel
theorem dX9_check_53 : decode cX9_check 53 = .ok (.dup, 1) := by decide +kernel
theorem dX9_check_54 : decode cX9_check 54 = .ok (.getfield 118, 3) := by decide +kernel
theorem dX9_check_57 : decode cX9_check 57 = .ok (.iconst 1, 1) := by decide +kernel
theorem dX9_check_58 : decode cX9_check 58 = .ok (.iadd, 1) := by decide +kernel
theorem dX9_check_59 : decode cX9_check 59 = .ok (.putfield 118, 3) := by decide +kernel
theorem dX9_check_62 : decode cX9_check 62 = .ok (.iconst 2, 1) := by decide +kernel
theorem dX9_check_63 : decode cX9_check 63 = .ok (.ireturn, 1) := by decide +kernel
theorem dX9_check_64 : decode cX9_check 64 = .ok (.aload_n 0, 1) := by decide +kernel
theorem dX9_check_65 : decode cX9_check 65 = .ok (.iload_n 1, 1) := by decide +kernel
theorem dX9_check_66 : decode cX9_check 66 = .ok (.iload_n 2, 1) := by decide +kernel
theorem dX9_check_67 : decode cX9_check 67 = .ok (.invokevirtual 153, 3) := by decide +kernel
theorem dX9_check_70 : decode cX9_check 70 = .ok (.ifCond .eq 12, 3) := by decide +kernel
theorem dX9_check_73 : decode cX9_check 73 = .ok (.aload_n 0, 1) := by decide +kernel
theorem dX9_check_74 : decode cX9_check 74 = .ok (.getfield 34, 3) := by decide +kernel
theorem dX9_check_77 : decode cX9_check 77 = .ok (.iload_n 1, 1) := by decide +kernel
theorem dX9_check_78 : decode cX9_check 78 = .ok (.iconst 0, 1) := by decide +kernel
theorem dX9_check_79 : decode cX9_check 79 = .ok (.iastore, 1) := by decide +kernel
theorem dX9_check_80 : decode cX9_check 80 = .ok (.iconst 0, 1) := by decide +kernel
theorem dX9_check_81 : decode cX9_check 81 = .ok (.ireturn, 1) := by decide +kernel
theorem dX9_check_82 : decode cX9_check 82 = .ok (.iload_n 2, 1) := by decide +kernel
theorem dX9_check_83 : decode cX9_check 83 = .ok (.aload_n 0, 1) := by decide +kernel
theorem dX9_check_84 : decode cX9_check 84 = .ok (.getfield 27, 3) := by decide +kernel
theorem dX9_check_87 : decode cX9_check 87 = .ok (.iload_n 1, 1) := by decide +kernel
theorem dX9_check_88 : decode cX9_check 88 = .ok (.iaload, 1) := by decide +kernel
theorem dX9_check_89 : decode cX9_check 89 = .ok (.if_icmp .le 7, 3) := by decide +kernel
theorem dX9_check_92 : decode cX9_check 92 = .ok (.iconst 1, 1) := by decide +kernel
theorem dX9_check_93 : decode cX9_check 93 = .ok (.goto 4, 3) := by decide +kernel
theorem dX9_check_96 : decode cX9_check 96 = .ok (.iconst (-1), 1) := by decide +kernel
theorem dX9_check_97 : decode cX9_check 97 = .ok (.istore_n 3, 1) := by decide +kernel
theorem dX9_check_98 : decode cX9_check 98 = .ok (.aload_n 0, 1) := by decide +kernel
theorem dX9_check_99 : decode cX9_check 99 = .ok (.getfield 34, 3) := by decide +kernel
theorem dX9_check_102 : decode cX9_check 102 = .ok (.iload_n 1, 1) := by decide +kernel
theorem dX9_check_103 : decode cX9_check 103 = .ok (.iaload, 1) := by decide +kernel
theorem dX9_check_104 : decode cX9_check 104 = .ok (.ifCond .eq 13, 3) := by decide +kernel
theorem dX9_check_107 : decode cX9_check 107 = .ok (.aload_n 0, 1) := by decide +kernel
theorem dX9_check_108 : decode cX9_check 108 = .ok (.getfield 31, 3) := by decide +kernel
theorem dX9_check_111 : decode cX9_check 111 = .ok (.iload_n 1, 1) := by decide +kernel
theorem dX9_check_112 : decode cX9_check 112 = .ok (.iaload, 1) := by decide +kernel
theorem dX9_check_113 : decode cX9_check 113 = .ok (.iload_n 3, 1) := by decide +kernel
theorem dX9_check_114 : decode cX9_check 114 = .ok (.if_icmp .eq 26, 3) := by decide +kernel
theorem dX9_check_117 : decode cX9_check 117 = .ok (.aload_n 0, 1) := by decide +kernel
theorem dX9_check_118 : decode cX9_check 118 = .ok (.getfield 34, 3) := by decide +kernel
theorem dX9_check_121 : decode cX9_check 121 = .ok (.iload_n 1, 1) := by decide +kernel
theorem dX9_check_122 : decode cX9_check 122 = .ok (.iconst 1, 1) := by decide +kernel
theorem dX9_check_123 : decode cX9_check 123 = .ok (.iastore, 1) := by decide +kernel
theorem dX9_check_124 : decode cX9_check 124 = .ok (.aload_n 0, 1) := by decide +kernel
theorem dX9_check_125 : decode cX9_check 125 = .ok (.getfield 31, 3) := by decide +kernel
theorem dX9_check_128 : decode cX9_check 128 = .ok (.iload_n 1, 1) := by decide +kernel
theorem dX9_check_129 : decode cX9_check 129 = .ok (.iload_n 3, 1) := by decide +kernel
theorem dX9_check_130 : decode cX9_check 130 = .ok (.iastore, 1) := by decide +kernel
theorem dX9_check_131 : decode cX9_check 131 = .ok (.aload_n 0, 1) := by decide +kernel
theorem dX9_check_132 : decode cX9_check 132 = .ok (.getfield 37, 3) := by decide +kernel
theorem dX9_check_135 : decode cX9_check 135 = .ok (.iload_n 1, 1) := by decide +kernel
theorem dX9_check_136 : decode cX9_check 136 = .ok (.iload_n 2, 1) := by decide +kernel
theorem dX9_check_137 : decode cX9_check 137 = .ok (.iastore, 1) := by decide +kernel
theorem dX9_check_138 : decode cX9_check 138 = .ok (.iconst 1, 1) := by decide +kernel
theorem dX9_check_139 : decode cX9_check 139 = .ok (.ireturn, 1) := by decide +kernel
theorem dX9_check_140 : decode cX9_check 140 = .ok (.aload_n 0, 1) := by decide +kernel
theorem dX9_check_141 : decode cX9_check 141 = .ok (.getfield 34, 3) := by decide +kernel
theorem dX9_check_144 : decode cX9_check 144 = .ok (.iload_n 1, 1) := by decide +kernel
theorem dX9_check_145 : decode cX9_check 145 = .ok (.iaload, 1) := by decide +kernel
theorem dX9_check_146 : decode cX9_check 146 = .ok (.iconst 1, 1) := by decide +kernel
theorem dX9_check_147 : decode cX9_check 147 = .ok (.if_icmp .ne 19, 3) := by decide +kernel
theorem dX9_check_150 : decode cX9_check 150 = .ok (.aload_n 0, 1) := by decide +kernel
theorem dX9_check_151 : decode cX9_check 151 = .ok (.getfield 34, 3) := by decide +kernel
theorem dX9_check_154 : decode cX9_check 154 = .ok (.iload_n 1, 1) := by decide +kernel
theorem dX9_check_155 : decode cX9_check 155 = .ok (.iconst 2, 1) := by decide +kernel
theorem dX9_check_156 : decode cX9_check 156 = .ok (.iastore, 1) := by decide +kernel
theorem dX9_check_157 : decode cX9_check 157 = .ok (.aload_n 0, 1) := by decide +kernel
theorem dX9_check_158 : decode cX9_check 158 = .ok (.getfield 40, 3) := by decide +kernel
theorem dX9_check_161 : decode cX9_check 161 = .ok (.iload_n 1, 1) := by decide +kernel
theorem dX9_check_162 : decode cX9_check 162 = .ok (.iload_n 2, 1) := by decide +kernel
theorem dX9_check_163 : decode cX9_check 163 = .ok (.iastore, 1) := by decide +kernel
theorem dX9_check_164 : decode cX9_check 164 = .ok (.iconst 1, 1) := by decide +kernel
theorem dX9_check_165 : decode cX9_check 165 = .ok (.ireturn, 1) := by decide +kernel
theorem dX9_check_166 : decode cX9_check 166 = .ok (.aload_n 0, 1) := by decide +kernel
theorem dX9_check_167 : decode cX9_check 167 = .ok (.getfield 27, 3) := by decide +kernel
theorem dX9_check_170 : decode cX9_check 170 = .ok (.iload_n 1, 1) := by decide +kernel
theorem dX9_check_171 : decode cX9_check 171 = .ok (.aload_n 0, 1) := by decide +kernel
theorem dX9_check_172 : decode cX9_check 172 = .ok (.getfield 37, 3) := by decide +kernel
theorem dX9_check_175 : decode cX9_check 175 = .ok (.iload_n 1, 1) := by decide +kernel
theorem dX9_check_176 : decode cX9_check 176 = .ok (.iaload, 1) := by decide +kernel
theorem dX9_check_177 : decode cX9_check 177 = .ok (.aload_n 0, 1) := by decide +kernel
theorem dX9_check_178 : decode cX9_check 178 = .ok (.getfield 40, 3) := by decide +kernel
theorem dX9_check_181 : decode cX9_check 181 = .ok (.iload_n 1, 1) := by decide +kernel
theorem dX9_check_182 : decode cX9_check 182 = .ok (.iaload, 1) := by decide +kernel
theorem dX9_check_183 : decode cX9_check 183 = .ok (.iload_n 2, 1) := by decide +kernel
theorem dX9_check_184 : decode cX9_check 184 = .ok (.invokestatic 188, 3) := by decide +kernel
theorem dX9_check_187 : decode cX9_check 187 = .ok (.iastore, 1) := by decide +kernel
theorem dX9_check_188 : decode cX9_check 188 = .ok (.aload_n 0, 1) := by decide +kernel
theorem dX9_check_189 : decode cX9_check 189 = .ok (.getfield 34, 3) := by decide +kernel
theorem dX9_check_192 : decode cX9_check 192 = .ok (.iload_n 1, 1) := by decide +kernel
theorem dX9_check_193 : decode cX9_check 193 = .ok (.iconst 0, 1) := by decide +kernel
theorem dX9_check_194 : decode cX9_check 194 = .ok (.iastore, 1) := by decide +kernel
theorem dX9_check_195 : decode cX9_check 195 = .ok (.aload_n 0, 1) := by decide +kernel
theorem dX9_check_196 : decode cX9_check 196 = .ok (.dup, 1) := by decide +kernel
theorem dX9_check_197 : decode cX9_check 197 = .ok (.getfield 118, 3) := by decide +kernel
theorem dX9_check_200 : decode cX9_check 200 = .ok (.iconst 1, 1) := by decide +kernel
theorem dX9_check_201 : decode cX9_check 201 = .ok (.iadd, 1) := by decide +kernel
theorem dX9_check_202 : decode cX9_check 202 = .ok (.putfield 118, 3) := by decide +kernel
theorem dX9_check_205 : decode cX9_check 205 = .ok (.iconst 2, 1) := by decide +kernel
theorem dX9_check_206 : decode cX9_check 206 = .ok (.ireturn, 1) := by decide +kernel
theorem dX9_height_0 : decode cX9_height 0 = .ok (.aload_n 0, 1) := by decide +kernel
theorem dX9_height_1 : decode cX9_height 1 = .ok (.iconst 0, 1) := by decide +kernel
theorem dX9_height_2 : decode cX9_height 2 = .ok (.putfield 1, 3) := by decide +kernel
theorem dX9_height_5 : decode cX9_height 5 = .ok (.aload_n 0, 1) := by decide +kernel
theorem dX9_height_6 : decode cX9_height 6 = .ok (.iload_n 1, 1) := by decide +kernel
theorem dX9_height_7 : decode cX9_height 7 = .ok (.invokevirtual 139, 3) := by decide +kernel
theorem dX9_height_10 : decode cX9_height 10 = .ok (.ifCond .ne 8, 3) := by decide +kernel
theorem dX9_height_13 : decode cX9_height 13 = .ok (.bipush (-2), 2) := by decide +kernel
theorem dX9_height_15 : decode cX9_height 15 = .ok (.goto 25, 3) := by decide +kernel
theorem dX9_height_18 : decode cX9_height 18 = .ok (.aload_n 0, 1) := by decide +kernel
theorem dX9_height_19 : decode cX9_height 19 = .ok (.getfield 27, 3) := by decide +kernel
theorem dX9_height_22 : decode cX9_height 22 = .ok (.iload_n 1, 1) := by decide +kernel
theorem dX9_height_23 : decode cX9_height 23 = .ok (.iaload, 1) := by decide +kernel
theorem dX9_height_24 : decode cX9_height 24 = .ok (.sipush 255, 3) := by decide +kernel
theorem dX9_height_27 : decode cX9_height 27 = .ok (.if_icmp .ne 7, 3) := by decide +kernel
theorem dX9_height_30 : decode cX9_height 30 = .ok (.iconst (-1), 1) := by decide +kernel
theorem dX9_height_31 : decode cX9_height 31 = .ok (.goto 9, 3) := by decide +kernel
theorem dX9_height_34 : decode cX9_height 34 = .ok (.aload_n 0, 1) := by decide +kernel
theorem dX9_height_35 : decode cX9_height 35 = .ok (.getfield 27, 3) := by decide +kernel
theorem dX9_height_38 : decode cX9_height 38 = .ok (.iload_n 1, 1) := by decide +kernel
theorem dX9_height_39 : decode cX9_height 39 = .ok (.iaload, 1) := by decide +kernel
theorem dX9_height_40 : decode cX9_height 40 = .ok (.ireturn, 1) := by decide +kernel
theorem dX9_count_0 : decode cX9_count 0 = .ok (.aload_n 0, 1) := by decide +kernel
theorem dX9_count_1 : decode cX9_count 1 = .ok (.iconst 0, 1) := by decide +kernel
theorem dX9_count_2 : decode cX9_count 2 = .ok (.putfield 1, 3) := by decide +kernel
theorem dX9_count_5 : decode cX9_count 5 = .ok (.iload_n 1, 1) := by decide +kernel
theorem dX9_count_6 : decode cX9_count 6 = .ok (.tableswitch 86 0 7 #[46, 51, 56, 61, 66, 71, 76, 81], 46) := by decide +kernel
theorem dX9_count_52 : decode cX9_count 52 = .ok (.aload_n 0, 1) := by decide +kernel
theorem dX9_count_53 : decode cX9_count 53 = .ok (.getfield 43, 3) := by decide +kernel
theorem dX9_count_56 : decode cX9_count 56 = .ok (.ireturn, 1) := by decide +kernel
theorem dX9_count_57 : decode cX9_count 57 = .ok (.aload_n 0, 1) := by decide +kernel
theorem dX9_count_58 : decode cX9_count 58 = .ok (.getfield 46, 3) := by decide +kernel
theorem dX9_count_61 : decode cX9_count 61 = .ok (.ireturn, 1) := by decide +kernel
theorem dX9_count_62 : decode cX9_count 62 = .ok (.aload_n 0, 1) := by decide +kernel
theorem dX9_count_63 : decode cX9_count 63 = .ok (.getfield 121, 3) := by decide +kernel
theorem dX9_count_66 : decode cX9_count 66 = .ok (.ireturn, 1) := by decide +kernel
theorem dX9_count_67 : decode cX9_count 67 = .ok (.aload_n 0, 1) := by decide +kernel
theorem dX9_count_68 : decode cX9_count 68 = .ok (.getfield 130, 3) := by decide +kernel
theorem dX9_count_71 : decode cX9_count 71 = .ok (.ireturn, 1) := by decide +kernel
theorem dX9_count_72 : decode cX9_count 72 = .ok (.aload_n 0, 1) := by decide +kernel
theorem dX9_count_73 : decode cX9_count 73 = .ok (.getfield 133, 3) := by decide +kernel
theorem dX9_count_76 : decode cX9_count 76 = .ok (.ireturn, 1) := by decide +kernel
theorem dX9_count_77 : decode cX9_count 77 = .ok (.aload_n 0, 1) := by decide +kernel
theorem dX9_count_78 : decode cX9_count 78 = .ok (.getfield 115, 3) := by decide +kernel
theorem dX9_count_81 : decode cX9_count 81 = .ok (.ireturn, 1) := by decide +kernel
theorem dX9_count_82 : decode cX9_count 82 = .ok (.aload_n 0, 1) := by decide +kernel
theorem dX9_count_83 : decode cX9_count 83 = .ok (.getfield 118, 3) := by decide +kernel
theorem dX9_count_86 : decode cX9_count 86 = .ok (.ireturn, 1) := by decide +kernel
theorem dX9_count_87 : decode cX9_count 87 = .ok (.aload_n 0, 1) := by decide +kernel
theorem dX9_count_88 : decode cX9_count 88 = .ok (.getfield 7, 3) := by decide +kernel
theorem dX9_count_91 : decode cX9_count 91 = .ok (.ireturn, 1) := by decide +kernel
theorem dX9_count_92 : decode cX9_count 92 = .ok (.iconst (-1), 1) := by decide +kernel
theorem dX9_count_93 : decode cX9_count 93 = .ok (.ireturn, 1) := by decide +kernel
theorem dJ9_abs_0f7a4_0 : decode cJ9_abs_0f7a4 0 = .ok (.iload_n 0, 1) := by decide +kernel
theorem dJ9_abs_0f7a4_1 : decode cJ9_abs_0f7a4 1 = .ok (.ifCond .ge 8, 3) := by decide +kernel
theorem dJ9_abs_0f7a4_4 : decode cJ9_abs_0f7a4 4 = .ok (.iload_n 0, 1) := by decide +kernel
theorem dJ9_abs_0f7a4_5 : decode cJ9_abs_0f7a4 5 = .ok (.ineg, 1) := by decide +kernel
theorem dJ9_abs_0f7a4_6 : decode cJ9_abs_0f7a4 6 = .ok (.goto 4, 3) := by decide +kernel
theorem dJ9_abs_0f7a4_9 : decode cJ9_abs_0f7a4 9 = .ok (.iload_n 0, 1) := by decide +kernel
theorem dJ9_abs_0f7a4_10 : decode cJ9_abs_0f7a4 10 = .ok (.ireturn, 1) := by decide +kernel
theorem dJ9_max_7cf53_0 : decode cJ9_max_7cf53 0 = .ok (.iload_n 0, 1) := by decide +kernel
theorem dJ9_max_7cf53_1 : decode cJ9_max_7cf53 1 = .ok (.iload_n 1, 1) := by decide +kernel
theorem dJ9_max_7cf53_2 : decode cJ9_max_7cf53 2 = .ok (.if_icmp .lt 7, 3) := by decide +kernel
theorem dJ9_max_7cf53_5 : decode cJ9_max_7cf53 5 = .ok (.iload_n 0, 1) := by decide +kernel
theorem dJ9_max_7cf53_6 : decode cJ9_max_7cf53 6 = .ok (.goto 4, 3) := by decide +kernel
theorem dJ9_max_7cf53_9 : decode cJ9_max_7cf53 9 = .ok (.iload_n 1, 1) := by decide +kernel
theorem dJ9_max_7cf53_10 : decode cJ9_max_7cf53 10 = .ok (.ireturn, 1) := by decide +kernel
theorem dJ9_min_7cf53_0 : decode cJ9_min_7cf53 0 = .ok (.iload_n 0, 1) := by decide +kernel
theorem dJ9_min_7cf53_1 : decode cJ9_min_7cf53 1 = .ok (.iload_n 1, 1) := by decide +kernel
theorem dJ9_min_7cf53_2 : decode cJ9_min_7cf53 2 = .ok (.if_icmp .gt 7, 3) := by decide +kernel
theorem dJ9_min_7cf53_5 : decode cJ9_min_7cf53 5 = .ok (.iload_n 0, 1) := by decide +kernel
theorem dJ9_min_7cf53_6 : decode cJ9_min_7cf53 6 = .ok (.goto 4, 3) := by decide +kernel
theorem dJ9_min_7cf53_9 : decode cJ9_min_7cf53 9 = .ok (.iload_n 1, 1) := by decide +kernel
theorem dJ9_min_7cf53_10 : decode cJ9_min_7cf53 10 = .ok (.ireturn, 1) := by decide +kernel
theorem dL_share_0 : decode cL_share 0 = .ok (.aload_n 3, 1) := by decide +kernel
theorem dL_share_1 : decode cL_share 1 = .ok (.iconst 0, 1) := by decide +kernel
theorem dL_share_2 : decode cL_share 2 = .ok (.aload_n 0, 1) := by decide +kernel
theorem dL_share_3 : decode cL_share 3 = .ok (.iload_n 1, 1) := by decide +kernel
theorem dL_share_4 : decode cL_share 4 = .ok (.iload_n 2, 1) := by decide +kernel
theorem dL_share_5 : decode cL_share 5 = .ok (.invokevirtual 7, 3) := by decide +kernel
theorem dL_share_8 : decode cL_share 8 = .ok (.lastore, 1) := by decide +kernel
theorem dL_share_9 : decode cL_share 9 = .ok (.goto 7, 3) := by decide +kernel
theorem dL_share_12 : decode cL_share 12 = .ok (.astore 4, 2) := by decide +kernel
theorem dL_share_14 : decode cL_share 14 = .ok (.iconst 1, 1) := by decide +kernel
theorem dL_share_15 : decode cL_share 15 = .ok (.ireturn, 1) := by decide +kernel
theorem dL_share_16 : decode cL_share 16 = .ok (.iconst 0, 1) := by decide +kernel
theorem dL_share_17 : decode cL_share 17 = .ok (.ireturn, 1) := by decide +kernel
theorem dL_law_0 : decode cL_law 0 = .ok (.new 8, 3) := by decide +kernel
theorem dL_law_3 : decode cL_law 3 = .ok (.dup, 1) := by decide +kernel
theorem dL_law_4 : decode cL_law 4 = .ok (.invokespecial 15, 3) := by decide +kernel
theorem dL_law_7 : decode cL_law 7 = .ok (.astore_n 1, 1) := by decide +kernel
theorem dL_law_8 : decode cL_law 8 = .ok (.new 16, 3) := by decide +kernel
theorem dL_law_11 : decode cL_law 11 = .ok (.dup, 1) := by decide +kernel
theorem dL_law_12 : decode cL_law 12 = .ok (.invokespecial 18, 3) := by decide +kernel
theorem dL_law_15 : decode cL_law 15 = .ok (.astore_n 2, 1) := by decide +kernel
theorem dL_law_16 : decode cL_law 16 = .ok (.iconst 1, 1) := by decide +kernel
theorem dL_law_17 : decode cL_law 17 = .ok (.newarray .long, 2) := by decide +kernel
theorem dL_law_19 : decode cL_law 19 = .ok (.astore_n 3, 1) := by decide +kernel
theorem dL_law_20 : decode cL_law 20 = .ok (.iconst 0, 1) := by decide +kernel
theorem dL_law_21 : decode cL_law 21 = .ok (.istore 4, 2) := by decide +kernel
theorem dL_law_23 : decode cL_law 23 = .ok (.iload 4, 2) := by decide +kernel
theorem dL_law_25 : decode cL_law 25 = .ok (.aload_n 0, 1) := by decide +kernel
theorem dL_law_26 : decode cL_law 26 = .ok (.arraylength, 1) := by decide +kernel
theorem dL_law_27 : decode cL_law 27 = .ok (.bipush 6, 2) := by decide +kernel
theorem dL_law_29 : decode cL_law 29 = .ok (.isub, 1) := by decide +kernel
theorem dL_law_30 : decode cL_law 30 = .ok (.if_icmp .gt 656, 3) := by decide +kernel
theorem dL_law_33 : decode cL_law 33 = .ok (.aload_n 0, 1) := by decide +kernel
theorem dL_law_34 : decode cL_law 34 = .ok (.iload 4, 2) := by decide +kernel
theorem dL_law_36 : decode cL_law 36 = .ok (.iaload, 1) := by decide +kernel
theorem dL_law_37 : decode cL_law 37 = .ok (.bipush 31, 2) := by decide +kernel
theorem dL_law_39 : decode cL_law 39 = .ok (.iand, 1) := by decide +kernel
theorem dL_law_40 : decode cL_law 40 = .ok (.tableswitch 640 0 17 #[88, 161, 186, 223, 272, 297, 334, 359, 426, 439, 464, 477, 502, 515, 528, 553, 590, 615], 88) := by decide +kernel
theorem dL_law_128 : decode cL_law 128 = .ok (.aload_n 1, 1) := by decide +kernel
theorem dL_law_129 : decode cL_law 129 = .ok (.aload_n 0, 1) := by decide +kernel
theorem dL_law_130 : decode cL_law 130 = .ok (.iload 4, 2) := by decide +kernel
theorem dL_law_132 : decode cL_law 132 = .ok (.iconst 1, 1) := by decide +kernel
theorem dL_law_133 : decode cL_law 133 = .ok (.iadd, 1) := by decide +kernel
theorem dL_law_134 : decode cL_law 134 = .ok (.iaload, 1) := by decide +kernel
theorem dL_law_135 : decode cL_law 135 = .ok (.aload_n 0, 1) := by decide +kernel
theorem dL_law_136 : decode cL_law 136 = .ok (.iload 4, 2) := by decide +kernel
theorem dL_law_138 : decode cL_law 138 = .ok (.iconst 2, 1) := by decide +kernel
theorem dL_law_139 : decode cL_law 139 = .ok (.iadd, 1) := by decide +kernel
theorem dL_law_140 : decode cL_law 140 = .ok (.iaload, 1) := by decide +kernel
theorem dL_law_141 : decode cL_law 141 = .ok (.aload_n 0, 1) := by decide +kernel
theorem dL_law_142 : decode cL_law 142 = .ok (.iload 4, 2) := by decide +kernel
theorem dL_law_144 : decode cL_law 144 = .ok (.iconst 3, 1) := by decide +kernel
theorem dL_law_145 : decode cL_law 145 = .ok (.iadd, 1) := by decide +kernel
theorem dL_law_146 : decode cL_law 146 = .ok (.iaload, 1) := by decide +kernel
theorem dL_law_147 : decode cL_law 147 = .ok (.aload_n 0, 1) := by decide +kernel
theorem dL_law_148 : decode cL_law 148 = .ok (.iload 4, 2) := by decide +kernel
theorem dL_law_150 : decode cL_law 150 = .ok (.iconst 4, 1) := by decide +kernel
theorem dL_law_151 : decode cL_law 151 = .ok (.iadd, 1) := by decide +kernel
theorem dL_law_152 : decode cL_law 152 = .ok (.iaload, 1) := by decide +kernel
theorem dL_law_153 : decode cL_law 153 = .ok (.aload_n 0, 1) := by decide +kernel
theorem dL_law_154 : decode cL_law 154 = .ok (.iload 4, 2) := by decide +kernel
theorem dL_law_156 : decode cL_law 156 = .ok (.iconst 5, 1) := by decide +kernel
theorem dL_law_157 : decode cL_law 157 = .ok (.iadd, 1) := by decide +kernel
theorem dL_law_158 : decode cL_law 158 = .ok (.iaload, 1) := by decide +kernel
theorem dL_law_159 : decode cL_law 159 = .ok (.invokevirtual 19, 3) := by decide +kernel
theorem dL_law_162 : decode cL_law 162 = .ok (.aload_n 2, 1) := by decide +kernel
theorem dL_law_163 : decode cL_law 163 = .ok (.aload_n 0, 1) := by decide +kernel
theorem dL_law_164 : decode cL_law 164 = .ok (.iload 4, 2) := by decide +kernel
theorem dL_law_166 : decode cL_law 166 = .ok (.iconst 1, 1) := by decide +kernel
theorem dL_law_167 : decode cL_law 167 = .ok (.iadd, 1) := by decide +kernel
theorem dL_law_168 : decode cL_law 168 = .ok (.iaload, 1) := by decide +kernel
theorem dL_law_169 : decode cL_law 169 = .ok (.aload_n 0, 1) := by decide +kernel
theorem dL_law_170 : decode cL_law 170 = .ok (.iload 4, 2) := by decide +kernel
theorem dL_law_172 : decode cL_law 172 = .ok (.iconst 2, 1) := by decide +kernel
theorem dL_law_173 : decode cL_law 173 = .ok (.iadd, 1) := by decide +kernel
theorem dL_law_174 : decode cL_law 174 = .ok (.iaload, 1) := by decide +kernel
theorem dL_law_175 : decode cL_law 175 = .ok (.aload_n 0, 1) := by decide +kernel
theorem dL_law_176 : decode cL_law 176 = .ok (.iload 4, 2) := by decide +kernel
theorem dL_law_178 : decode cL_law 178 = .ok (.iconst 3, 1) := by decide +kernel
theorem dL_law_179 : decode cL_law 179 = .ok (.iadd, 1) := by decide +kernel
theorem dL_law_180 : decode cL_law 180 = .ok (.iaload, 1) := by decide +kernel
theorem dL_law_181 : decode cL_law 181 = .ok (.aload_n 0, 1) := by decide +kernel
theorem dL_law_182 : decode cL_law 182 = .ok (.iload 4, 2) := by decide +kernel
theorem dL_law_184 : decode cL_law 184 = .ok (.iconst 4, 1) := by decide +kernel
theorem dL_law_185 : decode cL_law 185 = .ok (.iadd, 1) := by decide +kernel
theorem dL_law_186 : decode cL_law 186 = .ok (.iaload, 1) := by decide +kernel
theorem dL_law_187 : decode cL_law 187 = .ok (.aload_n 0, 1) := by decide +kernel
theorem dL_law_188 : decode cL_law 188 = .ok (.iload 4, 2) := by decide +kernel
theorem dL_law_190 : decode cL_law 190 = .ok (.iconst 5, 1) := by decide +kernel
theorem dL_law_191 : decode cL_law 191 = .ok (.iadd, 1) := by decide +kernel
theorem dL_law_192 : decode cL_law 192 = .ok (.iaload, 1) := by decide +kernel
theorem dL_law_193 : decode cL_law 193 = .ok (.invokevirtual 23, 3) := by decide +kernel
theorem dL_law_196 : decode cL_law 196 = .ok (.if_icmp .eq 484, 3) := by decide +kernel
theorem dL_law_199 : decode cL_law 199 = .ok (.iconst 0, 1) := by decide +kernel
theorem dL_law_200 : decode cL_law 200 = .ok (.ireturn, 1) := by decide +kernel
theorem dL_law_201 : decode cL_law 201 = .ok (.aload_n 1, 1) := by decide +kernel
theorem dL_law_202 : decode cL_law 202 = .ok (.aload_n 0, 1) := by decide +kernel
theorem dL_law_203 : decode cL_law 203 = .ok (.iload 4, 2) := by decide +kernel
theorem dL_law_205 : decode cL_law 205 = .ok (.iconst 1, 1) := by decide +kernel
theorem dL_law_206 : decode cL_law 206 = .ok (.iadd, 1) := by decide +kernel
theorem dL_law_207 : decode cL_law 207 = .ok (.iaload, 1) := by decide +kernel
theorem dL_law_208 : decode cL_law 208 = .ok (.invokevirtual 24, 3) := by decide +kernel
theorem dL_law_211 : decode cL_law 211 = .ok (.aload_n 2, 1) := by decide +kernel
theorem dL_law_212 : decode cL_law 212 = .ok (.aload_n 0, 1) := by decide +kernel
theorem dL_law_213 : decode cL_law 213 = .ok (.iload 4, 2) := by decide +kernel
theorem dL_law_215 : decode cL_law 215 = .ok (.iconst 1, 1) := by decide +kernel
theorem dL_law_216 : decode cL_law 216 = .ok (.iadd, 1) := by decide +kernel
theorem dL_law_217 : decode cL_law 217 = .ok (.iaload, 1) := by decide +kernel
theorem dL_law_218 : decode cL_law 218 = .ok (.invokevirtual 28, 3) := by decide +kernel
theorem dL_law_221 : decode cL_law 221 = .ok (.if_icmp .eq 459, 3) := by decide +kernel
theorem dL_law_224 : decode cL_law 224 = .ok (.iconst 0, 1) := by decide +kernel
theorem dL_law_225 : decode cL_law 225 = .ok (.ireturn, 1) := by decide +kernel
theorem dL_law_226 : decode cL_law 226 = .ok (.aload_n 1, 1) := by decide +kernel
theorem dL_law_227 : decode cL_law 227 = .ok (.aload_n 0, 1) := by decide +kernel
theorem dL_law_228 : decode cL_law 228 = .ok (.iload 4, 2) := by decide +kernel
theorem dL_law_230 : decode cL_law 230 = .ok (.iconst 1, 1) := by decide +kernel
theorem dL_law_231 : decode cL_law 231 = .ok (.iadd, 1) := by decide +kernel
theorem dL_law_232 : decode cL_law 232 = .ok (.iaload, 1) := by decide +kernel
theorem dL_law_233 : decode cL_law 233 = .ok (.aload_n 0, 1) := by decide +kernel
theorem dL_law_234 : decode cL_law 234 = .ok (.iload 4, 2) := by decide +kernel
theorem dL_law_236 : decode cL_law 236 = .ok (.iconst 2, 1) := by decide +kernel
theorem dL_law_237 : decode cL_law 237 = .ok (.iadd, 1) := by decide +kernel
theorem dL_law_238 : decode cL_law 238 = .ok (.iaload, 1) := by decide +kernel
theorem dL_law_239 : decode cL_law 239 = .ok (.invokevirtual 29, 3) := by decide +kernel
theorem dL_law_242 : decode cL_law 242 = .ok (.aload_n 2, 1) := by decide +kernel
theorem dL_law_243 : decode cL_law 243 = .ok (.aload_n 0, 1) := by decide +kernel
theorem dL_law_244 : decode cL_law 244 = .ok (.iload 4, 2) := by decide +kernel
theorem dL_law_246 : decode cL_law 246 = .ok (.iconst 1, 1) := by decide +kernel
theorem dL_law_247 : decode cL_law 247 = .ok (.iadd, 1) := by decide +kernel
theorem dL_law_248 : decode cL_law 248 = .ok (.iaload, 1) := by decide +kernel
theorem dL_law_249 : decode cL_law 249 = .ok (.aload_n 0, 1) := by decide +kernel
theorem dL_law_250 : decode cL_law 250 = .ok (.iload 4, 2) := by decide +kernel
theorem dL_law_252 : decode cL_law 252 = .ok (.iconst 2, 1) := by decide +kernel
theorem dL_law_253 : decode cL_law 253 = .ok (.iadd, 1) := by decide +kernel
theorem dL_law_254 : decode cL_law 254 = .ok (.iaload, 1) := by decide +kernel
theorem dL_law_255 : decode cL_law 255 = .ok (.invokevirtual 33, 3) := by decide +kernel
theorem dL_law_258 : decode cL_law 258 = .ok (.if_icmp .eq 422, 3) := by decide +kernel
theorem dL_law_261 : decode cL_law 261 = .ok (.iconst 0, 1) := by decide +kernel
theorem dL_law_262 : decode cL_law 262 = .ok (.ireturn, 1) := by decide +kernel
theorem dL_law_263 : decode cL_law 263 = .ok (.aload_n 1, 1) := by decide +kernel
theorem dL_law_264 : decode cL_law 264 = .ok (.aload_n 0, 1) := by decide +kernel
theorem dL_law_265 : decode cL_law 265 = .ok (.iload 4, 2) := by decide +kernel
theorem dL_law_267 : decode cL_law 267 = .ok (.iconst 1, 1) := by decide +kernel
theorem dL_law_268 : decode cL_law 268 = .ok (.iadd, 1) := by decide +kernel
theorem dL_law_269 : decode cL_law 269 = .ok (.iaload, 1) := by decide +kernel
theorem dL_law_270 : decode cL_law 270 = .ok (.aload_n 0, 1) := by decide +kernel
theorem dL_law_271 : decode cL_law 271 = .ok (.iload 4, 2) := by decide +kernel
theorem dL_law_273 : decode cL_law 273 = .ok (.iconst 2, 1) := by decide +kernel
theorem dL_law_274 : decode cL_law 274 = .ok (.iadd, 1) := by decide +kernel
theorem dL_law_275 : decode cL_law 275 = .ok (.iaload, 1) := by decide +kernel
theorem dL_law_276 : decode cL_law 276 = .ok (.aload_n 0, 1) := by decide +kernel
theorem dL_law_277 : decode cL_law 277 = .ok (.iload 4, 2) := by decide +kernel
theorem dL_law_279 : decode cL_law 279 = .ok (.iconst 3, 1) := by decide +kernel
theorem dL_law_280 : decode cL_law 280 = .ok (.iadd, 1) := by decide +kernel
theorem dL_law_281 : decode cL_law 281 = .ok (.iaload, 1) := by decide +kernel
theorem dL_law_282 : decode cL_law 282 = .ok (.invokevirtual 34, 3) := by decide +kernel
theorem dL_law_285 : decode cL_law 285 = .ok (.aload_n 2, 1) := by decide +kernel
theorem dL_law_286 : decode cL_law 286 = .ok (.aload_n 0, 1) := by decide +kernel
theorem dL_law_287 : decode cL_law 287 = .ok (.iload 4, 2) := by decide +kernel
theorem dL_law_289 : decode cL_law 289 = .ok (.iconst 1, 1) := by decide +kernel
theorem dL_law_290 : decode cL_law 290 = .ok (.iadd, 1) := by decide +kernel
theorem dL_law_291 : decode cL_law 291 = .ok (.iaload, 1) := by decide +kernel
theorem dL_law_292 : decode cL_law 292 = .ok (.aload_n 0, 1) := by decide +kernel
theorem dL_law_293 : decode cL_law 293 = .ok (.iload 4, 2) := by decide +kernel
theorem dL_law_295 : decode cL_law 295 = .ok (.iconst 2, 1) := by decide +kernel
theorem dL_law_296 : decode cL_law 296 = .ok (.iadd, 1) := by decide +kernel
theorem dL_law_297 : decode cL_law 297 = .ok (.iaload, 1) := by decide +kernel
theorem dL_law_298 : decode cL_law 298 = .ok (.aload_n 0, 1) := by decide +kernel
theorem dL_law_299 : decode cL_law 299 = .ok (.iload 4, 2) := by decide +kernel
theorem dL_law_301 : decode cL_law 301 = .ok (.iconst 3, 1) := by decide +kernel
theorem dL_law_302 : decode cL_law 302 = .ok (.iadd, 1) := by decide +kernel
theorem dL_law_303 : decode cL_law 303 = .ok (.iaload, 1) := by decide +kernel
theorem dL_law_304 : decode cL_law 304 = .ok (.invokevirtual 38, 3) := by decide +kernel
theorem dL_law_307 : decode cL_law 307 = .ok (.if_icmp .eq 373, 3) := by decide +kernel
theorem dL_law_310 : decode cL_law 310 = .ok (.iconst 0, 1) := by decide +kernel
theorem dL_law_311 : decode cL_law 311 = .ok (.ireturn, 1) := by decide +kernel
theorem dL_law_312 : decode cL_law 312 = .ok (.aload_n 1, 1) := by decide +kernel
theorem dL_law_313 : decode cL_law 313 = .ok (.aload_n 0, 1) := by decide +kernel
theorem dL_law_314 : decode cL_law 314 = .ok (.iload 4, 2) := by decide +kernel
theorem dL_law_316 : decode cL_law 316 = .ok (.iconst 1, 1) := by decide +kernel
theorem dL_law_317 : decode cL_law 317 = .ok (.iadd, 1) := by decide +kernel
theorem dL_law_318 : decode cL_law 318 = .ok (.iaload, 1) := by decide +kernel
theorem dL_law_319 : decode cL_law 319 = .ok (.invokevirtual 39, 3) := by decide +kernel
theorem dL_law_322 : decode cL_law 322 = .ok (.aload_n 2, 1) := by decide +kernel
theorem dL_law_323 : decode cL_law 323 = .ok (.aload_n 0, 1) := by decide +kernel
theorem dL_law_324 : decode cL_law 324 = .ok (.iload 4, 2) := by decide +kernel
theorem dL_law_326 : decode cL_law 326 = .ok (.iconst 1, 1) := by decide +kernel
theorem dL_law_327 : decode cL_law 327 = .ok (.iadd, 1) := by decide +kernel
theorem dL_law_328 : decode cL_law 328 = .ok (.iaload, 1) := by decide +kernel
theorem dL_law_329 : decode cL_law 329 = .ok (.invokevirtual 42, 3) := by decide +kernel
theorem dL_law_332 : decode cL_law 332 = .ok (.if_icmp .eq 348, 3) := by decide +kernel
theorem dL_law_335 : decode cL_law 335 = .ok (.iconst 0, 1) := by decide +kernel
theorem dL_law_336 : decode cL_law 336 = .ok (.ireturn, 1) := by decide +kernel
theorem dL_law_337 : decode cL_law 337 = .ok (.aload_n 1, 1) := by decide +kernel
theorem dL_law_338 : decode cL_law 338 = .ok (.aload_n 0, 1) := by decide +kernel
theorem dL_law_339 : decode cL_law 339 = .ok (.iload 4, 2) := by decide +kernel
theorem dL_law_341 : decode cL_law 341 = .ok (.iconst 1, 1) := by decide +kernel
theorem dL_law_342 : decode cL_law 342 = .ok (.iadd, 1) := by decide +kernel
theorem dL_law_343 : decode cL_law 343 = .ok (.iaload, 1) := by decide +kernel
theorem dL_law_344 : decode cL_law 344 = .ok (.aload_n 0, 1) := by decide +kernel
theorem dL_law_345 : decode cL_law 345 = .ok (.iload 4, 2) := by decide +kernel
theorem dL_law_347 : decode cL_law 347 = .ok (.iconst 2, 1) := by decide +kernel
theorem dL_law_348 : decode cL_law 348 = .ok (.iadd, 1) := by decide +kernel
theorem dL_law_349 : decode cL_law 349 = .ok (.iaload, 1) := by decide +kernel
theorem dL_law_350 : decode cL_law 350 = .ok (.invokevirtual 43, 3) := by decide +kernel
theorem dL_law_353 : decode cL_law 353 = .ok (.aload_n 2, 1) := by decide +kernel
theorem dL_law_354 : decode cL_law 354 = .ok (.aload_n 0, 1) := by decide +kernel
theorem dL_law_355 : decode cL_law 355 = .ok (.iload 4, 2) := by decide +kernel
theorem dL_law_357 : decode cL_law 357 = .ok (.iconst 1, 1) := by decide +kernel
theorem dL_law_358 : decode cL_law 358 = .ok (.iadd, 1) := by decide +kernel
theorem dL_law_359 : decode cL_law 359 = .ok (.iaload, 1) := by decide +kernel
theorem dL_law_360 : decode cL_law 360 = .ok (.aload_n 0, 1) := by decide +kernel
theorem dL_law_361 : decode cL_law 361 = .ok (.iload 4, 2) := by decide +kernel
theorem dL_law_363 : decode cL_law 363 = .ok (.iconst 2, 1) := by decide +kernel
theorem dL_law_364 : decode cL_law 364 = .ok (.iadd, 1) := by decide +kernel
theorem dL_law_365 : decode cL_law 365 = .ok (.iaload, 1) := by decide +kernel
theorem dL_law_366 : decode cL_law 366 = .ok (.invokevirtual 47, 3) := by decide +kernel
theorem dL_law_369 : decode cL_law 369 = .ok (.if_icmp .eq 311, 3) := by decide +kernel
theorem dL_law_372 : decode cL_law 372 = .ok (.iconst 0, 1) := by decide +kernel
theorem dL_law_373 : decode cL_law 373 = .ok (.ireturn, 1) := by decide +kernel
theorem dL_law_374 : decode cL_law 374 = .ok (.aload_n 1, 1) := by decide +kernel
theorem dL_law_375 : decode cL_law 375 = .ok (.aload_n 0, 1) := by decide +kernel
theorem dL_law_376 : decode cL_law 376 = .ok (.iload 4, 2) := by decide +kernel
theorem dL_law_378 : decode cL_law 378 = .ok (.iconst 1, 1) := by decide +kernel
theorem dL_law_379 : decode cL_law 379 = .ok (.iadd, 1) := by decide +kernel
theorem dL_law_380 : decode cL_law 380 = .ok (.iaload, 1) := by decide +kernel
theorem dL_law_381 : decode cL_law 381 = .ok (.invokevirtual 48, 3) := by decide +kernel
theorem dL_law_384 : decode cL_law 384 = .ok (.aload_n 2, 1) := by decide +kernel
theorem dL_law_385 : decode cL_law 385 = .ok (.aload_n 0, 1) := by decide +kernel
theorem dL_law_386 : decode cL_law 386 = .ok (.iload 4, 2) := by decide +kernel
theorem dL_law_388 : decode cL_law 388 = .ok (.iconst 1, 1) := by decide +kernel
theorem dL_law_389 : decode cL_law 389 = .ok (.iadd, 1) := by decide +kernel
theorem dL_law_390 : decode cL_law 390 = .ok (.iaload, 1) := by decide +kernel
theorem dL_law_391 : decode cL_law 391 = .ok (.invokevirtual 52, 3) := by decide +kernel
theorem dL_law_394 : decode cL_law 394 = .ok (.if_icmp .eq 286, 3) := by decide +kernel
theorem dL_law_397 : decode cL_law 397 = .ok (.iconst 0, 1) := by decide +kernel
theorem dL_law_398 : decode cL_law 398 = .ok (.ireturn, 1) := by decide +kernel
theorem dL_law_399 : decode cL_law 399 = .ok (.aload_n 1, 1) := by decide +kernel
theorem dL_law_400 : decode cL_law 400 = .ok (.aload_n 0, 1) := by decide +kernel
theorem dL_law_401 : decode cL_law 401 = .ok (.iload 4, 2) := by decide +kernel
theorem dL_law_403 : decode cL_law 403 = .ok (.iconst 1, 1) := by decide +kernel
theorem dL_law_404 : decode cL_law 404 = .ok (.iadd, 1) := by decide +kernel
theorem dL_law_405 : decode cL_law 405 = .ok (.iaload, 1) := by decide +kernel
theorem dL_law_406 : decode cL_law 406 = .ok (.aload_n 0, 1) := by decide +kernel
theorem dL_law_407 : decode cL_law 407 = .ok (.iload 4, 2) := by decide +kernel
theorem dL_law_409 : decode cL_law 409 = .ok (.iconst 2, 1) := by decide +kernel
theorem dL_law_410 : decode cL_law 410 = .ok (.iadd, 1) := by decide +kernel
theorem dL_law_411 : decode cL_law 411 = .ok (.iaload, 1) := by decide +kernel
theorem dL_law_412 : decode cL_law 412 = .ok (.aload_n 3, 1) := by decide +kernel
theorem dL_law_413 : decode cL_law 413 = .ok (.invokestatic 53, 3) := by decide +kernel
theorem dL_law_416 : decode cL_law 416 = .ok (.istore 5, 2) := by decide +kernel
theorem dL_law_418 : decode cL_law 418 = .ok (.aload_n 2, 1) := by decide +kernel
theorem dL_law_419 : decode cL_law 419 = .ok (.aload_n 0, 1) := by decide +kernel
theorem dL_law_420 : decode cL_law 420 = .ok (.iload 4, 2) := by decide +kernel
theorem dL_law_422 : decode cL_law 422 = .ok (.iconst 1, 1) := by decide +kernel
theorem dL_law_423 : decode cL_law 423 = .ok (.iadd, 1) := by decide +kernel
theorem dL_law_424 : decode cL_law 424 = .ok (.iaload, 1) := by decide +kernel
theorem dL_law_425 : decode cL_law 425 = .ok (.aload_n 0, 1) := by decide +kernel
theorem dL_law_426 : decode cL_law 426 = .ok (.iload 4, 2) := by decide +kernel
theorem dL_law_428 : decode cL_law 428 = .ok (.iconst 2, 1) := by decide +kernel
theorem dL_law_429 : decode cL_law 429 = .ok (.iadd, 1) := by decide +kernel
theorem dL_law_430 : decode cL_law 430 = .ok (.iaload, 1) := by decide +kernel
theorem dL_law_431 : decode cL_law 431 = .ok (.invokevirtual 58, 3) := by decide +kernel
theorem dL_law_434 : decode cL_law 434 = .ok (.lstore 6, 2) := by decide +kernel
theorem dL_law_436 : decode cL_law 436 = .ok (.aload_n 2, 1) := by decide +kernel
theorem dL_law_437 : decode cL_law 437 = .ok (.invokevirtual 59, 3) := by decide +kernel
theorem dL_law_440 : decode cL_law 440 = .ok (.iload 5, 2) := by decide +kernel
theorem dL_law_442 : decode cL_law 442 = .ok (.if_icmp .eq 5, 3) := by decide +kernel
theorem dL_law_445 : decode cL_law 445 = .ok (.iconst 0, 1) := by decide +kernel
theorem dL_law_446 : decode cL_law 446 = .ok (.ireturn, 1) := by decide +kernel
theorem dL_law_447 : decode cL_law 447 = .ok (.iload 5, 2) := by decide +kernel
theorem dL_law_449 : decode cL_law 449 = .ok (.ifCond .ne 14, 3) := by decide +kernel
theorem dL_law_452 : decode cL_law 452 = .ok (.aload_n 3, 1) := by decide +kernel
theorem dL_law_453 : decode cL_law 453 = .ok (.iconst 0, 1) := by decide +kernel
theorem dL_law_454 : decode cL_law 454 = .ok (.laload, 1) := by decide +kernel
theorem dL_law_455 : decode cL_law 455 = .ok (.lload 6, 2) := by decide +kernel
theorem dL_law_457 : decode cL_law 457 = .ok (.lcmp, 1) := by decide +kernel
theorem dL_law_458 : decode cL_law 458 = .ok (.ifCond .eq 5, 3) := by decide +kernel
theorem dL_law_461 : decode cL_law 461 = .ok (.iconst 0, 1) := by decide +kernel
theorem dL_law_462 : decode cL_law 462 = .ok (.ireturn, 1) := by decide +kernel
theorem dL_law_463 : decode cL_law 463 = .ok (.goto 217, 3) := by decide +kernel
theorem dL_law_466 : decode cL_law 466 = .ok (.aload_n 1, 1) := by decide +kernel
theorem dL_law_467 : decode cL_law 467 = .ok (.invokevirtual 63, 3) := by decide +kernel
theorem dL_law_470 : decode cL_law 470 = .ok (.aload_n 2, 1) := by decide +kernel
theorem dL_law_471 : decode cL_law 471 = .ok (.invokevirtual 66, 3) := by decide +kernel
theorem dL_law_474 : decode cL_law 474 = .ok (.if_icmp .eq 206, 3) := by decide +kernel
theorem dL_law_477 : decode cL_law 477 = .ok (.iconst 0, 1) := by decide +kernel
theorem dL_law_478 : decode cL_law 478 = .ok (.ireturn, 1) := by decide +kernel
theorem dL_law_479 : decode cL_law 479 = .ok (.aload_n 1, 1) := by decide +kernel
theorem dL_law_480 : decode cL_law 480 = .ok (.aload_n 0, 1) := by decide +kernel
theorem dL_law_481 : decode cL_law 481 = .ok (.iload 4, 2) := by decide +kernel
theorem dL_law_483 : decode cL_law 483 = .ok (.iconst 1, 1) := by decide +kernel
theorem dL_law_484 : decode cL_law 484 = .ok (.iadd, 1) := by decide +kernel
theorem dL_law_485 : decode cL_law 485 = .ok (.iaload, 1) := by decide +kernel
theorem dL_law_486 : decode cL_law 486 = .ok (.invokevirtual 67, 3) := by decide +kernel
theorem dL_law_489 : decode cL_law 489 = .ok (.aload_n 2, 1) := by decide +kernel
theorem dL_law_490 : decode cL_law 490 = .ok (.aload_n 0, 1) := by decide +kernel
theorem dL_law_491 : decode cL_law 491 = .ok (.iload 4, 2) := by decide +kernel
theorem dL_law_493 : decode cL_law 493 = .ok (.iconst 1, 1) := by decide +kernel
theorem dL_law_494 : decode cL_law 494 = .ok (.iadd, 1) := by decide +kernel
theorem dL_law_495 : decode cL_law 495 = .ok (.iaload, 1) := by decide +kernel
theorem dL_law_496 : decode cL_law 496 = .ok (.invokevirtual 70, 3) := by decide +kernel
theorem dL_law_499 : decode cL_law 499 = .ok (.if_icmp .eq 181, 3) := by decide +kernel
theorem dL_law_502 : decode cL_law 502 = .ok (.iconst 0, 1) := by decide +kernel
theorem dL_law_503 : decode cL_law 503 = .ok (.ireturn, 1) := by decide +kernel
theorem dL_law_504 : decode cL_law 504 = .ok (.aload_n 1, 1) := by decide +kernel
theorem dL_law_505 : decode cL_law 505 = .ok (.invokevirtual 71, 3) := by decide +kernel
theorem dL_law_508 : decode cL_law 508 = .ok (.aload_n 2, 1) := by decide +kernel
theorem dL_law_509 : decode cL_law 509 = .ok (.invokevirtual 74, 3) := by decide +kernel
theorem dL_law_512 : decode cL_law 512 = .ok (.if_icmp .eq 168, 3) := by decide +kernel
theorem dL_law_515 : decode cL_law 515 = .ok (.iconst 0, 1) := by decide +kernel
theorem dL_law_516 : decode cL_law 516 = .ok (.ireturn, 1) := by decide +kernel
theorem dL_law_517 : decode cL_law 517 = .ok (.aload_n 1, 1) := by decide +kernel
theorem dL_law_518 : decode cL_law 518 = .ok (.aload_n 0, 1) := by decide +kernel
theorem dL_law_519 : decode cL_law 519 = .ok (.iload 4, 2) := by decide +kernel
theorem dL_law_521 : decode cL_law 521 = .ok (.iconst 1, 1) := by decide +kernel
theorem dL_law_522 : decode cL_law 522 = .ok (.iadd, 1) := by decide +kernel
theorem dL_law_523 : decode cL_law 523 = .ok (.iaload, 1) := by decide +kernel
theorem dL_law_524 : decode cL_law 524 = .ok (.invokevirtual 75, 3) := by decide +kernel
theorem dL_law_527 : decode cL_law 527 = .ok (.aload_n 2, 1) := by decide +kernel
theorem dL_law_528 : decode cL_law 528 = .ok (.aload_n 0, 1) := by decide +kernel
theorem dL_law_529 : decode cL_law 529 = .ok (.iload 4, 2) := by decide +kernel
theorem dL_law_531 : decode cL_law 531 = .ok (.iconst 1, 1) := by decide +kernel
theorem dL_law_532 : decode cL_law 532 = .ok (.iadd, 1) := by decide +kernel
theorem dL_law_533 : decode cL_law 533 = .ok (.iaload, 1) := by decide +kernel
theorem dL_law_534 : decode cL_law 534 = .ok (.invokevirtual 78, 3) := by decide +kernel
theorem dL_law_537 : decode cL_law 537 = .ok (.if_icmp .eq 143, 3) := by decide +kernel
theorem dL_law_540 : decode cL_law 540 = .ok (.iconst 0, 1) := by decide +kernel
theorem dL_law_541 : decode cL_law 541 = .ok (.ireturn, 1) := by decide +kernel
theorem dL_law_542 : decode cL_law 542 = .ok (.aload_n 1, 1) := by decide +kernel
theorem dL_law_543 : decode cL_law 543 = .ok (.invokevirtual 79, 3) := by decide +kernel
theorem dL_law_546 : decode cL_law 546 = .ok (.aload_n 2, 1) := by decide +kernel
theorem dL_law_547 : decode cL_law 547 = .ok (.invokevirtual 82, 3) := by decide +kernel
theorem dL_law_550 : decode cL_law 550 = .ok (.if_icmp .eq 130, 3) := by decide +kernel
theorem dL_law_553 : decode cL_law 553 = .ok (.iconst 0, 1) := by decide +kernel
theorem dL_law_554 : decode cL_law 554 = .ok (.ireturn, 1) := by decide +kernel
theorem dL_law_555 : decode cL_law 555 = .ok (.aload_n 1, 1) := by decide +kernel
theorem dL_law_556 : decode cL_law 556 = .ok (.invokevirtual 83, 3) := by decide +kernel
theorem dL_law_559 : decode cL_law 559 = .ok (.aload_n 2, 1) := by decide +kernel
theorem dL_law_560 : decode cL_law 560 = .ok (.invokevirtual 86, 3) := by decide +kernel
theorem dL_law_563 : decode cL_law 563 = .ok (.if_icmp .eq 117, 3) := by decide +kernel
theorem dL_law_566 : decode cL_law 566 = .ok (.iconst 0, 1) := by decide +kernel
theorem dL_law_567 : decode cL_law 567 = .ok (.ireturn, 1) := by decide +kernel
theorem dL_law_568 : decode cL_law 568 = .ok (.aload_n 1, 1) := by decide +kernel
theorem dL_law_569 : decode cL_law 569 = .ok (.aload_n 0, 1) := by decide +kernel
theorem dL_law_570 : decode cL_law 570 = .ok (.iload 4, 2) := by decide +kernel
theorem dL_law_572 : decode cL_law 572 = .ok (.iconst 1, 1) := by decide +kernel
theorem dL_law_573 : decode cL_law 573 = .ok (.iadd, 1) := by decide +kernel
theorem dL_law_574 : decode cL_law 574 = .ok (.iaload, 1) := by decide +kernel
theorem dL_law_575 : decode cL_law 575 = .ok (.invokevirtual 87, 3) := by decide +kernel
theorem dL_law_578 : decode cL_law 578 = .ok (.aload_n 2, 1) := by decide +kernel
theorem dL_law_579 : decode cL_law 579 = .ok (.aload_n 0, 1) := by decide +kernel
theorem dL_law_580 : decode cL_law 580 = .ok (.iload 4, 2) := by decide +kernel
theorem dL_law_582 : decode cL_law 582 = .ok (.iconst 1, 1) := by decide +kernel
theorem dL_law_583 : decode cL_law 583 = .ok (.iadd, 1) := by decide +kernel
theorem dL_law_584 : decode cL_law 584 = .ok (.iaload, 1) := by decide +kernel
theorem dL_law_585 : decode cL_law 585 = .ok (.invokevirtual 90, 3) := by decide +kernel
theorem dL_law_588 : decode cL_law 588 = .ok (.if_icmp .eq 92, 3) := by decide +kernel
theorem dL_law_591 : decode cL_law 591 = .ok (.iconst 0, 1) := by decide +kernel
theorem dL_law_592 : decode cL_law 592 = .ok (.ireturn, 1) := by decide +kernel
theorem dL_law_593 : decode cL_law 593 = .ok (.aload_n 1, 1) := by decide +kernel
theorem dL_law_594 : decode cL_law 594 = .ok (.aload_n 0, 1) := by decide +kernel
theorem dL_law_595 : decode cL_law 595 = .ok (.iload 4, 2) := by decide +kernel
theorem dL_law_597 : decode cL_law 597 = .ok (.iconst 1, 1) := by decide +kernel
theorem dL_law_598 : decode cL_law 598 = .ok (.iadd, 1) := by decide +kernel
theorem dL_law_599 : decode cL_law 599 = .ok (.iaload, 1) := by decide +kernel
theorem dL_law_600 : decode cL_law 600 = .ok (.aload_n 0, 1) := by decide +kernel
theorem dL_law_601 : decode cL_law 601 = .ok (.iload 4, 2) := by decide +kernel
theorem dL_law_603 : decode cL_law 603 = .ok (.iconst 2, 1) := by decide +kernel
theorem dL_law_604 : decode cL_law 604 = .ok (.iadd, 1) := by decide +kernel
theorem dL_law_605 : decode cL_law 605 = .ok (.iaload, 1) := by decide +kernel
theorem dL_law_606 : decode cL_law 606 = .ok (.invokevirtual 91, 3) := by decide +kernel
theorem dL_law_609 : decode cL_law 609 = .ok (.aload_n 2, 1) := by decide +kernel
theorem dL_law_610 : decode cL_law 610 = .ok (.aload_n 0, 1) := by decide +kernel
theorem dL_law_611 : decode cL_law 611 = .ok (.iload 4, 2) := by decide +kernel
theorem dL_law_613 : decode cL_law 613 = .ok (.iconst 1, 1) := by decide +kernel
theorem dL_law_614 : decode cL_law 614 = .ok (.iadd, 1) := by decide +kernel
theorem dL_law_615 : decode cL_law 615 = .ok (.iaload, 1) := by decide +kernel
theorem dL_law_616 : decode cL_law 616 = .ok (.aload_n 0, 1) := by decide +kernel
theorem dL_law_617 : decode cL_law 617 = .ok (.iload 4, 2) := by decide +kernel
theorem dL_law_619 : decode cL_law 619 = .ok (.iconst 2, 1) := by decide +kernel
theorem dL_law_620 : decode cL_law 620 = .ok (.iadd, 1) := by decide +kernel
theorem dL_law_621 : decode cL_law 621 = .ok (.iaload, 1) := by decide +kernel
theorem dL_law_622 : decode cL_law 622 = .ok (.invokevirtual 94, 3) := by decide +kernel
theorem dL_law_625 : decode cL_law 625 = .ok (.if_icmp .eq 55, 3) := by decide +kernel
theorem dL_law_628 : decode cL_law 628 = .ok (.iconst 0, 1) := by decide +kernel
theorem dL_law_629 : decode cL_law 629 = .ok (.ireturn, 1) := by decide +kernel
theorem dL_law_630 : decode cL_law 630 = .ok (.aload_n 1, 1) := by decide +kernel
theorem dL_law_631 : decode cL_law 631 = .ok (.aload_n 0, 1) := by decide +kernel
theorem dL_law_632 : decode cL_law 632 = .ok (.iload 4, 2) := by decide +kernel
theorem dL_law_634 : decode cL_law 634 = .ok (.iconst 1, 1) := by decide +kernel
theorem dL_law_635 : decode cL_law 635 = .ok (.iadd, 1) := by decide +kernel
theorem dL_law_636 : decode cL_law 636 = .ok (.iaload, 1) := by decide +kernel
theorem dL_law_637 : decode cL_law 637 = .ok (.invokevirtual 95, 3) := by decide +kernel
theorem dL_law_640 : decode cL_law 640 = .ok (.aload_n 2, 1) := by decide +kernel
theorem dL_law_641 : decode cL_law 641 = .ok (.aload_n 0, 1) := by decide +kernel
theorem dL_law_642 : decode cL_law 642 = .ok (.iload 4, 2) := by decide +kernel
theorem dL_law_644 : decode cL_law 644 = .ok (.iconst 1, 1) := by decide +kernel
theorem dL_law_645 : decode cL_law 645 = .ok (.iadd, 1) := by decide +kernel
theorem dL_law_646 : decode cL_law 646 = .ok (.iaload, 1) := by decide +kernel
theorem dL_law_647 : decode cL_law 647 = .ok (.invokevirtual 98, 3) := by decide +kernel
theorem dL_law_650 : decode cL_law 650 = .ok (.if_icmp .eq 30, 3) := by decide +kernel
theorem dL_law_653 : decode cL_law 653 = .ok (.iconst 0, 1) := by decide +kernel
theorem dL_law_654 : decode cL_law 654 = .ok (.ireturn, 1) := by decide +kernel
theorem dL_law_655 : decode cL_law 655 = .ok (.aload_n 1, 1) := by decide +kernel
theorem dL_law_656 : decode cL_law 656 = .ok (.aload_n 0, 1) := by decide +kernel
theorem dL_law_657 : decode cL_law 657 = .ok (.iload 4, 2) := by decide +kernel
theorem dL_law_659 : decode cL_law 659 = .ok (.iconst 1, 1) := by decide +kernel
theorem dL_law_660 : decode cL_law 660 = .ok (.iadd, 1) := by decide +kernel
theorem dL_law_661 : decode cL_law 661 = .ok (.iaload, 1) := by decide +kernel
theorem dL_law_662 : decode cL_law 662 = .ok (.invokevirtual 99, 3) := by decide +kernel
theorem dL_law_665 : decode cL_law 665 = .ok (.aload_n 2, 1) := by decide +kernel
theorem dL_law_666 : decode cL_law 666 = .ok (.aload_n 0, 1) := by decide +kernel
theorem dL_law_667 : decode cL_law 667 = .ok (.iload 4, 2) := by decide +kernel
theorem dL_law_669 : decode cL_law 669 = .ok (.iconst 1, 1) := by decide +kernel
theorem dL_law_670 : decode cL_law 670 = .ok (.iadd, 1) := by decide +kernel
theorem dL_law_671 : decode cL_law 671 = .ok (.iaload, 1) := by decide +kernel
theorem dL_law_672 : decode cL_law 672 = .ok (.invokevirtual 102, 3) := by decide +kernel
theorem dL_law_675 : decode cL_law 675 = .ok (.if_icmp .eq 5, 3) := by decide +kernel
theorem dL_law_678 : decode cL_law 678 = .ok (.iconst 0, 1) := by decide +kernel
theorem dL_law_679 : decode cL_law 679 = .ok (.ireturn, 1) := by decide +kernel
theorem dL_law_680 : decode cL_law 680 = .ok (.iinc 4 6, 3) := by decide +kernel
theorem dL_law_683 : decode cL_law 683 = .ok (.goto (-660), 3) := by decide +kernel
theorem dL_law_686 : decode cL_law 686 = .ok (.iconst 1, 1) := by decide +kernel
theorem dL_law_687 : decode cL_law 687 = .ok (.ireturn, 1) := by decide +kernel
end
section
/-! The pure machine: what a method sees, with the cells numbered from the law's first one -/
abbrev pm_C : Type := (Nat × Nat × (Nat → Int32)) ⊕ (Nat × (Nat → Int64)) ⊕ Nat ⊕ Unit
abbrev pm_ia (kd n : Nat) (f : Nat → Int32) : pm_C := .inl (kd, n, f)
abbrev pm_la (n : Nat) (f : Nat → Int64) : pm_C := .inr (.inl (n, f))
abbrev pm_ob (ci : Nat) : pm_C := .inr (.inr (.inl ci))
abbrev pm_jk : pm_C := .inr (.inr (.inr ()))
abbrev pm_h : Type := Nat → pm_C
abbrev pm_g : Type := Nat → Nat → Value
/-- room: cells, slots; how many cells there are -/
abbrev pm_z : Type := Nat × Nat × Nat
def pm_ty : Nat → FieldType
  | 0 => .int
  | 1 => .byte
  | 2 => .boolean
  | _ => .long
/-- launch, class tables, array classes, base, the script's cell, its length and values, the heap at the beginning -/
abbrev pm_G : Type := Launch × va_G × (Nat → ClassId) × Nat × Nat × Nat × (Nat → Int32) × Heap
abbrev pm_l (G : pm_G) : Launch := G.1
abbrev pm_D (G : pm_G) : va_G := G.2.1
abbrev pm_dA (G : pm_G) : Nat → ClassId := G.2.2.1
abbrev pm_b (G : pm_G) : Nat := G.2.2.2.1
abbrev pm_s (G : pm_G) : Nat := G.2.2.2.2.1
abbrev pm_L (G : pm_G) : Nat := G.2.2.2.2.2.1
abbrev pm_xs (G : pm_G) : Nat → Int32 := G.2.2.2.2.2.2.1
abbrev pm_H0 (G : pm_G) : Heap := G.2.2.2.2.2.2.2
/-- a value of the pure machine, on the machine -/
def pm_tr (G : pm_G) : Value → Value
  | .ref k => .ref (pm_b G + k)
  | .retAddr _ => .ref (pm_s G)
  | .int v => .int v
  | .long v => .long v
  | .float v => .float v
  | .double v => .double v
  | .null => .null
theorem pm_tr_cat (G : pm_G) (v : Value) : (pm_tr G v).category = v.category := by cases v <;> rfl
theorem pm_tr_cats (G : pm_G) (st : List Value) : ((st.map (pm_tr G)).map fun v => v.category).sum = (st.map fun v => v.category).sum := by
  rw [List.map_map]
  congr 1
  exact List.map_congr_left (fun v _ => pm_tr_cat G v)
/-- one cell -/
def pm_at (G : pm_G) (a : Nat) (c : pm_C) (gv : Nat → Value) (H : Heap) : Prop := match c with
  | .inl q => H[pm_b G + a]? = some (arrV (pm_dA G q.1) q.2.1 (fun j => .int (q.2.2 j)))
  | .inr (.inl q) => H[pm_b G + a]? = some (arrV (pm_dA G 3) q.1 (fun j => .long (q.2 j)))
  | .inr (.inr (.inl ci)) => ∃ r : vw_C, vwCl[ci]? = some r ∧ t_OB (pm_b G + a) ((pm_D G).1 ci) r.2.2 ((pm_D G).2 ci) H (fun k => pm_tr G (gv k))
  | .inr (.inr (.inr _)) => True
def pm_R (G : pm_G) (n : Nat) (h : pm_h) (g : pm_g) (H : Heap) : Prop := H.size = pm_b G + n ∧ (∀ a, pm_at G a (h a) (g a) H) ∧ ∀ q, q < pm_b G → H[q]? = (pm_H0 G)[q]?
theorem pm_at.kept {G : pm_G} {a : Nat} {c : pm_C} {gv : Nat → Value} {H H1 : Heap} (h : pm_at G a c gv H) (hq : H1[pm_b G + a]? = H[pm_b G + a]?) : pm_at G a c gv H1 := by
  rcases c with q | q | ci | u
  · exact hq.trans h
  · exact hq.trans h
  · obtain ⟨r, h1, h2⟩ := h
    exact ⟨r, h1, h2.kept hq⟩
  · exact trivial
theorem pm_at.push {G : pm_G} {a n : Nat} {c : pm_C} {gv : Nat → Value} {H H1 : Heap} (h : pm_at G a c gv H) (hz : H.size = pm_b G + n) (hq : ∀ q : Nat, q < pm_b G + n → H1[q]? = H[q]?) : pm_at G a c gv H1 := by
  have key : ∀ x : Cell, H[pm_b G + a]? = some x → H1[pm_b G + a]? = H[pm_b G + a]? := fun x hx => hq _ (by rw [← hz]; exact (Array.getElem?_eq_some_iff.mp hx).1)
  rcases c with q | q | ci | u
  · exact (key _ h).trans h
  · exact (key _ h).trans h
  · obtain ⟨r, h1, cell, h2, h3⟩ := h
    exact ⟨r, h1, cell, (key _ h2).trans h2, h3⟩
  · exact trivial
/-- the tables' words that stay -/
def pm_T : List Jvm.Cond := lw_tbl.filter goodWord
def pm_N : List (String × Nat × MethodName × String) := lw_tbl.filterMap (fun w => match w with | .methodLinkNest a i x h => some (a, i, x, h) | _ => none)
theorem pm_inT {w : Jvm.Cond} (i : Nat) (h : lw_tbl[i]? = some w) (hg : goodWord w = true) : w ∈ pm_T := List.mem_filter.mpr ⟨List.mem_of_getElem? h, hg⟩
theorem pm_inN {a : String} {j : Nat} {x : MethodName} {b : String} (i : Nat) (h : lw_tbl[i]? = some (.methodLinkNest a j x b)) : (a, j, x, b) ∈ pm_N := List.mem_filterMap.mpr ⟨_, List.mem_of_getElem? h, rfl⟩
/-- what the tables say: class tables, array classes, words, the script -/
def pm_K (G : pm_G) (s : State) : Prop := (∀ (c : Nat) (q : vw_C), vwCl[c]? = some q → u_Kn s q.1 q.2.1 q.2.2 ((pm_D G).1 c) ((pm_D G).2 c)) ∧ (∀ kd : Nat, kd < 4 → ArrOfT s (pm_dA G kd) (pm_ty kd) ∧ s.vm.findClass ("[" ++ (pm_ty kd).toString) = some (pm_dA G kd)) ∧
  (∀ w ∈ pm_T, ∀ a' : Array Value, w.before a' s = true) ∧ (∀ q ∈ pm_N, va_Nw (.methodLinkNest q.1 q.2.1 q.2.2.1 q.2.2.2) s) ∧ va_X (pm_s G) (pm_L G) (pm_xs G) s (pm_H0 G) ∧ pm_s G < pm_b G ∧ (pm_l G).stackTraces = false ∧ vx_Zq Bundle.tN "UNASSIGNED_STACK" Bundle.steD (fun q => pm_b G ≤ q) s (pm_H0 G) ∧ vx_Zq Bundle.tN "SUPPRESSED_SENTINEL" Bundle.listD (fun q => pm_b G ≤ q) s (pm_H0 G) ∧ va_Nw (.castable "java/util/NoSuchElementException" "java/util/NoSuchElementException") s
theorem pm_K.moved {G : pm_G} {s U : State} (hW : s.WarmedH U.vm) (h : pm_K G s) : pm_K G U := by
  obtain ⟨h1, h2, h3, h4, h5, h6, h7, h8, h9, h10⟩ := h
  have hvm : s.vm.Alike U.vm := hW.alike
  refine ⟨fun c q hq => u_Kn_moved hvm (h1 c q hq), fun kd hk => ⟨arrOfT_moved hvm (h2 kd hk).1, by rw [hvm.findClass]; exact (h2 kd hk).2⟩, fun w hw a' => ?_, fun q hq => va_Nw.warmM hW (h4 q hq), va_X.moved hvm h5, h6, h7, h8.moved hvm, h9.moved hvm, va_Nw.warmC hW h10⟩
  exact word_at hW (good_of_word (List.mem_filter.mp hw).2) (h3 w hw #[])
/-- the vm alone -/
theorem pm_K.same {G : pm_G} {s U : State} (hv : s.vm = U.vm) (h : pm_K G s) : pm_K G U := by
  have hW : s.WarmedH U.vm := by rw [← hv]; exact State.WarmedH.refl _
  exact h.moved hW
/-- a method: name, code, locals, answer's type, room of frames and of locals -/
abbrev pm_M : Type := MethodName × ByteArray × Nat × Option FieldType × Nat × Nat
abbrev pm_y (M : pm_M) : MethodName := M.1
abbrev pm_cc (M : pm_M) : ByteArray := M.2.1
abbrev pm_ml (M : pm_M) : Nat := M.2.2.1
abbrev pm_rt (M : pm_M) : Option FieldType := M.2.2.2.1
abbrev pm_fr (M : pm_M) : Nat := M.2.2.2.2.1
abbrev pm_lr (M : pm_M) : Nat := M.2.2.2.2.2
/-- the handlers that a method has: of the law's share alone any -/
def pm_th (M : pm_M) : Option (List (Nat × Nat × Nat × Nat)) := if (pm_y M).cls = "HillFinderLaw" then (if (pm_y M).name = "share" then some [(0, 9, 12, 13)] else none) else some []
def pm_tb (M : pm_M) (c : Code) : Prop := ∀ hh, pm_th M = some hh → c.exceptionTable.toList = tableOf hh
def pm_X (G : pm_G) (M : pm_M) (p : Program) (R : Room) (s : State) (m : MethodId) (meth : Method) (c : Code) : Prop :=
  p.tables.exec = Jvm.exec ∧ c.code = pm_cc M ∧ c.maxLocals = pm_ml M ∧ meth.sig.returnType = pm_rt M ∧ meth.locks = false ∧ meth.name = (pm_y M).name ∧ s.vm.findClass (pm_y M).cls = some m.cls ∧ pm_K G s ∧ R.frames = pm_fr M ∧ R.locals = pm_lr M ∧ pm_tb M c
/-- the locals: .float: nothing is known there -/
abbrev pm_u : Value := .float 0
def pm_un : Value → Bool
  | .float _ => true
  | _ => false
def pm_lo (G : pm_G) (lc : Array Slot) (n : Nat) (l : List Value) : Prop := lc.size = n ∧ lv_wf lc ∧ ∀ (i : Nat) (v : Value), l[i]? = some v → pm_un v = false → lc[i]? = some (.val (pm_tr G v))
def pm_as (G : pm_G) (l : List Value) : List (Nat × Value) := (l.zipIdx.filter (fun q => !pm_un q.1)).map (fun q => (q.2, pm_tr G q.1))
theorem pm_as_mem {G : pm_G} {l : List Value} {q : Nat × Value} : q ∈ pm_as G l ↔ ∃ v, l[q.1]? = some v ∧ pm_un v = false ∧ q.2 = pm_tr G v := by
  constructor
  · intro h
    obtain ⟨x, hx, rfl⟩ := List.mem_map.mp h
    obtain ⟨h1, h2⟩ := List.mem_filter.mp hx
    exact ⟨x.1, List.mem_zipIdx_iff_getElem?.mp h1, by simpa using h2, rfl⟩
  · rintro ⟨v, h1, h2, h3⟩
    refine List.mem_map.mpr ⟨(v, q.1), List.mem_filter.mpr ⟨List.mem_zipIdx_iff_getElem?.mpr h1, by simpa using h2⟩, ?_⟩
    rw [← h3]
theorem pm_lo.has {G : pm_G} {lc : Array Slot} {n : Nat} {l : List Value} (h : pm_lo G lc n l) : lv_has lc n (pm_as G l) := by
  refine ⟨h.1, h.2.1, fun q hq => ?_⟩
  obtain ⟨v, h1, h2, h3⟩ := pm_as_mem.mp hq
  rw [h3]
  exact h.2.2 _ v h1 h2
theorem pm_lo.of {G : pm_G} {lc : Array Slot} {n : Nat} {l : List Value} {lv : List (Nat × Value)} (h : lv_has lc n lv) (hs : ∀ (i : Nat) (v : Value), l[i]? = some v → pm_un v = false → (i, pm_tr G v) ∈ lv) : pm_lo G lc n l :=
  ⟨h.1, h.2.1, fun i v h1 h2 => h.2.2 (i, pm_tr G v) (hs i v h1 h2)⟩
/-- behind a store of one slot -/
theorem pm_lo.st1 {G : pm_G} {lc : Array Slot} {n i : Nat} {l l' : List Value} {v : Value} (h : lv_has lc n ((i, pm_tr G v) :: (pm_as G l).filter (fun q => !(q.1 == i) && !(q.1 + 1 == i && q.2.category == 2)))) (hl : l' = l.set i v) (hc : ∀ w, l[i - 1]? = some w → w.category = 1 ∨ i = 0) : pm_lo G lc n l' := by
  subst hl
  refine pm_lo.of h fun j w h1 h2 => ?_
  by_cases hj : i = j
  · subst hj
    by_cases hi : i < l.length
    · rw [List.getElem?_set_self hi] at h1
      cases h1
      exact List.mem_cons_self
    · rw [List.getElem?_eq_none (by rw [List.length_set]; omega)] at h1
      cases h1
  · rw [List.getElem?_set_ne hj] at h1
    refine List.mem_cons_of_mem _ (List.mem_filter.mpr ⟨pm_as_mem.mpr ⟨w, h1, h2, rfl⟩, ?_⟩)
    simp only [Bool.and_eq_true, Bool.not_eq_true', beq_eq_false_iff_ne, ne_eq, Bool.and_eq_false_iff]
    refine ⟨fun q => hj q.symm, ?_⟩
    by_cases hk : j + 1 = i
    · right
      rw [pm_tr_cat]
      have hh : l[i - 1]? = some w := by rw [← hk]; exact h1
      rcases hc w hh with z | z
      · rw [z]; decide
      · omega
    · exact Or.inl hk
/-- behind a store of two -/
theorem pm_lo.st2 {G : pm_G} {lc : Array Slot} {n i : Nat} {l l' : List Value} {v : Value} (h : lv_has lc n ((i, pm_tr G v) :: (pm_as G l).filter (fun q => !(q.1 == i) && (!(q.1 == i + 1) && !(q.1 + 1 == i && q.2.category == 2))))) (hl : l' = (l.set i v).set (i + 1) pm_u) (hc : ∀ w, l[i - 1]? = some w → w.category = 1 ∨ i = 0) : pm_lo G lc n l' := by
  subst hl
  refine pm_lo.of h fun j w h1 h2 => ?_
  by_cases hj1 : i + 1 = j
  · subst hj1
    by_cases hi : i + 1 < (l.set i v).length
    · rw [List.getElem?_set_self hi] at h1
      cases h1
      cases h2
    · rw [List.getElem?_eq_none (by rw [List.length_set]; omega)] at h1
      cases h1
  rw [List.getElem?_set_ne hj1] at h1
  by_cases hj : i = j
  · subst hj
    by_cases hi : i < l.length
    · rw [List.getElem?_set_self hi] at h1
      cases h1
      exact List.mem_cons_self
    · rw [List.getElem?_eq_none (by rw [List.length_set]; omega)] at h1
      cases h1
  · rw [List.getElem?_set_ne hj] at h1
    refine List.mem_cons_of_mem _ (List.mem_filter.mpr ⟨pm_as_mem.mpr ⟨w, h1, h2, rfl⟩, ?_⟩)
    simp only [Bool.and_eq_true, Bool.not_eq_true', beq_eq_false_iff_ne, ne_eq, Bool.and_eq_false_iff]
    refine ⟨fun q => hj q.symm, fun q => hj1 q.symm, ?_⟩
    by_cases hk : j + 1 = i
    · right
      rw [pm_tr_cat]
      have hh : l[i - 1]? = some w := by rw [← hk]; exact h1
      rcases hc w hh with z | z
      · rw [z]; decide
      · omega
    · exact Or.inl hk
/-- the locals at a method's entry -/
def pm_en : List Value → List Value
  | [] => []
  | v :: r => if v.category = 2 then v :: pm_u :: pm_en r else v :: pm_en r
theorem pm_en_args (G : pm_G) (k : Nat) : ∀ (As : List Value) (o : Nat) (i : Nat) (v : Value), (pm_en As ++ List.replicate k pm_u)[i]? = some v → pm_un v = false → (o + i, pm_tr G v) ∈ lv_args o (As.map (pm_tr G))
  | [], o, i, v, h1, h2 => by
    simp only [pm_en, List.nil_append] at h1
    have := List.eq_of_mem_replicate (List.mem_of_getElem? h1)
    rw [this] at h2
    cases h2
  | w :: r, o, i, v, h1, h2 => by
    simp only [pm_en] at h1
    simp only [List.map_cons, lv_args, pm_tr_cat]
    by_cases hc : w.category = 2
    · rw [if_pos hc] at h1 ⊢
      match i, h1 with
      | 0, h1 => cases h1; exact List.mem_cons_self
      | 1, h1 => cases h1; cases h2
      | i + 2, h1 =>
        have := pm_en_args G k r (o + 2) i v h1 h2
        rw [show o + (i + 2) = o + 2 + i by omega]
        exact List.mem_cons_of_mem _ this
    · rw [if_neg hc] at h1 ⊢
      match i, h1 with
      | 0, h1 => cases h1; exact List.mem_cons_self
      | i + 1, h1 =>
        have := pm_en_args G k r (o + 1) i v h1 h2
        rw [show o + (i + 1) = o + 1 + i by omega]
        exact List.mem_cons_of_mem _ this
theorem pm_en_len (G : pm_G) : ∀ As : List Value, (lg_sl (As.map (pm_tr G))).length = (pm_en As).length
  | [] => rfl
  | w :: r => by
    have ih := pm_en_len G r
    simp only [lg_sl, List.map_cons, List.flatMap_cons, List.length_append, pm_tr_cat, pm_en] at ih ⊢
    by_cases hc : w.category = 2
    · rw [if_pos hc, if_pos hc]; simp only [List.length_cons, List.length_nil]; omega
    · rw [if_neg hc, if_neg hc]; simp only [List.length_cons, List.length_nil]; omega
/-- THE JUDGEMENT: from here, whatever stands around it, the method comes to Φ -/
abbrev pm_F : Type := List Frame → Array Value → State → Nat → Nat → State → Prop
def pm_W (G : pm_G) (M : pm_M) (zm : pm_z) (Φ : pm_F) (pc : Nat) (ls st : List Value) (z : pm_z) (h : pm_h) (g : pm_g) : Prop :=
  ∀ (p : Program) (e : Env) (R : Room) (s : State) (m : MethodId) (args : Array Value) (below : List Frame) (meth : Method) (c : Code) (H : Heap) (locs : List Loc) (z0 : pm_z) (lc : Array Slot),
    pm_X G M p R s m meth c → pm_R G z.2.2 h g H → (∀ q ∈ locs, pm_b G ≤ q.base) → pm_lo G lc (pm_ml M) ls → z0.1 ≤ z.1 → z0.2.1 ≤ z.2.1 → z.1 ≤ zm.1 → z.2.1 ≤ zm.2.1 → R.cells = zm.1 - z0.1 → R.slots = zm.2.1 - z0.2.1 →
    W p (pm_l G) e R s m args below meth c H locs (z.1 - z0.1) (z.2.1 - z0.2.1) (Φ below args s (zm.1 - z0.1) (zm.2.1 - z0.2.1)) (F0 m pc lc (st.map (pm_tr G)))
/-- a method's end -/
def pm_Φ (G : pm_G) (zm : pm_z) (Q : Option Value → pm_h → pm_g → Prop) : pm_F := fun below args s mc ms =>
  MQ below (fun _ _ o t => ∃ (r : Option Value) (h' : pm_h) (g' : pm_g), Q r h' g' ∧ o = .returned (r.map (pm_tr G)) ∧ pm_R G zm.2.2 h' g' t.heap) args s mc ms (fun q => pm_b G ≤ q)
/-- a method's contract -/
def pm_Met (G : pm_G) (M : pm_M) (As : List Value) (z zm : pm_z) (h : pm_h) (g : pm_g) (Q : Option Value → pm_h → pm_g → Prop) : Prop :=
  Met (pm_l G) (pm_y M) [.code (pm_y M) (pm_cc M) (pm_ml M) (pm_rt M)] ({ frames := pm_fr M, cells := zm.1 - z.1, slots := zm.2.1 - z.2.1, locals := pm_lr M } : Room) (fun a U => a = (As.map (pm_tr G)).toArray ∧ pm_R G z.2.2 h g U.heap ∧ pm_K G U)
    (fun _ _ o t => ∃ (r : Option Value) (h' : pm_h) (g' : pm_g), Q r h' g' ∧ o = .returned (r.map (pm_tr G)) ∧ pm_R G zm.2.2 h' g' t.heap) (zm.1 - z.1) (zm.2.1 - z.2.1) (fun q => pm_b G ≤ q)
theorem pm_Met.of {G : pm_G} {M : pm_M} {As ls : List Value} {z zm : pm_z} {h : pm_h} {g : pm_g} {Q : Option Value → pm_h → pm_g → Prop} (hp : plainName (pm_y M).cls = true) (hth : pm_th M = some []) (hls : pm_en As ++ List.replicate (pm_ml M - (pm_en As).length) pm_u = ls) (hle : (pm_en As).length ≤ pm_ml M) (hz1 : z.1 ≤ zm.1) (hz2 : z.2.1 ≤ zm.2.1)
    (k : pm_W G M zm (pm_Φ G zm Q) 0 ls [] z h g) : pm_Met G M As z zm h g Q := by
  refine Met.ofW (cc := pm_cc M) (maxL := pm_ml M) (ret := pm_rt M) hp rfl ?_
  intro p e s m args below meth c s₁ B hml hP
  obtain ⟨rfl, hR, hK⟩ := hP
  have hown : s.vm.findClass (pm_y M).cls = some m.cls := findClass_of_methodNamed B.named
  have hlen := pm_en_len G As
  have hl := lv_entry (As.map (pm_tr G)) (n := pm_ml M) (by rw [hlen]; exact hle)
  rw [lg_entry_eq]
  generalize (lg_sl (As.map (pm_tr G)) ++ List.replicate (pm_ml M - (lg_sl (As.map (pm_tr G))).length) Slot.unset).toArray = lc at hl ⊢
  have hlo : pm_lo G lc (pm_ml M) ls := by
    refine pm_lo.of hl fun i v h1 h2 => ?_
    rw [← hls] at h1
    have := pm_en_args G _ As 0 i v h1 h2
    rwa [Nat.zero_add] at this
  have X : pm_X G M p (headSpec [Cond.code (pm_y M) (pm_cc M) (pm_ml M) (pm_rt M)] ({ frames := pm_fr M, cells := zm.1 - z.1, slots := zm.2.1 - z.2.1, locals := pm_lr M } : Room)).room s m meth c :=
    ⟨B.exec, B.bytes, hml, B.returns, B.notSynchronized, (name_of_methodNamed B.named B.method).1, hown, hK, rfl, rfl, fun hh hhe => by
      cases hth.symm.trans hhe
      obtain ⟨meth9, c9, h1, h2, -, -, -, -, h7, -⟩ := Cond.code_spec B.named (atoms_spec (ws := [Cond.code (pm_y M) (pm_cc M) (pm_ml M) (pm_rt M)]) B.pre _ List.mem_cons_self)
      cases Option.some.inj (h1.symm.trans B.method)
      cases Option.some.inj (h2.symm.trans (Stand.of_body B).code)
      rw [Array.isEmpty_iff.mp h7]
      rfl⟩
  have w := k p e _ s m ((As.map (pm_tr G)).toArray) below meth c s.heap [] z lc X hR (fun q hq => by cases hq) hlo (Nat.le_refl _) (Nat.le_refl _) hz1 hz2 rfl rfl
  rw [Nat.sub_self, Nat.sub_self] at w
  exact w
end
section
section PX
variable {G : pm_G} {M : pm_M} {zm : pm_z} {Φ : pm_F} {pc pc' : Nat} {ls st : List Value} {z : pm_z} {h : pm_h} {g : pm_g}
theorem px_iconst {n : Int} {v : Int32} (hd : decode (pm_cc M) pc = .ok (.iconst n, 1)) (hp : pc + 1 = pc') (hv : Int32.ofInt n = v) (k : pm_W G M zm Φ pc' ls (.int v :: st) z h g) : pm_W G M zm Φ pc ls (st) z h g := by
  subst hp
  intro p e R s m args below meth c H locs z0 lc X hR hL hlo a1 a2 a3 a4 a5 a6
  exact lv_iconst X.1 X.2.1 hd hv (k p e R s m args below meth c H locs z0 lc X hR hL hlo a1 a2 a3 a4 a5 a6)
theorem px_bipush {n : Int} {v : Int32} (hd : decode (pm_cc M) pc = .ok (.bipush n, 2)) (hp : pc + 2 = pc') (hv : (Int8.ofInt n).toInt32 = v) (k : pm_W G M zm Φ pc' ls (.int v :: st) z h g) : pm_W G M zm Φ pc ls (st) z h g := by
  subst hp
  intro p e R s m args below meth c H locs z0 lc X hR hL hlo a1 a2 a3 a4 a5 a6
  exact lv_bipush X.1 X.2.1 hd hv (k p e R s m args below meth c H locs z0 lc X hR hL hlo a1 a2 a3 a4 a5 a6)
theorem px_sipush {n : Int} {v : Int32} (hd : decode (pm_cc M) pc = .ok (.sipush n, 3)) (hp : pc + 3 = pc') (hv : (Int16.ofInt n).toInt32 = v) (k : pm_W G M zm Φ pc' ls (.int v :: st) z h g) : pm_W G M zm Φ pc ls (st) z h g := by
  subst hp
  intro p e R s m args below meth c H locs z0 lc X hR hL hlo a1 a2 a3 a4 a5 a6
  exact lv_sipush X.1 X.2.1 hd hv (k p e R s m args below meth c H locs z0 lc X hR hL hlo a1 a2 a3 a4 a5 a6)
theorem px_lconst {n : Fin 2} {v : Int64} (hd : decode (pm_cc M) pc = .ok (.lconst n, 1)) (hp : pc + 1 = pc') (hv : Int64.ofNat (n : Nat) = v) (k : pm_W G M zm Φ pc' ls (.long v :: st) z h g) : pm_W G M zm Φ pc ls (st) z h g := by
  subst hp
  intro p e R s m args below meth c H locs z0 lc X hR hL hlo a1 a2 a3 a4 a5 a6
  exact lv_lconst X.1 X.2.1 hd hv (k p e R s m args below meth c H locs z0 lc X hR hL hlo a1 a2 a3 a4 a5 a6)
theorem px_iload_n {j : Fin 4} {i : Nat} {x : Int32} (hd : decode (pm_cc M) pc = .ok (.iload_n j, 1)) (hp : pc + 1 = pc') (hi : (j : Nat) = i) (hl : ls[i]? = some (.int x)) (k : pm_W G M zm Φ pc' ls (.int x :: st) z h g) : pm_W G M zm Φ pc ls (st) z h g := by
  subst hp
  intro p e R s m args below meth c H locs z0 lc X hR hL hlo a1 a2 a3 a4 a5 a6
  exact lv_iload_n X.1 X.2.1 hd hi (hlo.2.2 i _ hl rfl) (k p e R s m args below meth c H locs z0 lc X hR hL hlo a1 a2 a3 a4 a5 a6)
theorem px_iload {i : Nat} {x : Int32} (hd : decode (pm_cc M) pc = .ok (.iload i, 2)) (hp : pc + 2 = pc') (hl : ls[i]? = some (.int x)) (k : pm_W G M zm Φ pc' ls (.int x :: st) z h g) : pm_W G M zm Φ pc ls (st) z h g := by
  subst hp
  intro p e R s m args below meth c H locs z0 lc X hR hL hlo a1 a2 a3 a4 a5 a6
  exact lv_iload X.1 X.2.1 hd (hlo.2.2 i _ hl rfl) (k p e R s m args below meth c H locs z0 lc X hR hL hlo a1 a2 a3 a4 a5 a6)
theorem px_lload_n {j : Fin 4} {i : Nat} {x : Int64} (hd : decode (pm_cc M) pc = .ok (.lload_n j, 1)) (hp : pc + 1 = pc') (hi : (j : Nat) = i) (hl : ls[i]? = some (.long x)) (k : pm_W G M zm Φ pc' ls (.long x :: st) z h g) : pm_W G M zm Φ pc ls (st) z h g := by
  subst hp
  intro p e R s m args below meth c H locs z0 lc X hR hL hlo a1 a2 a3 a4 a5 a6
  exact lv_lload_n X.1 X.2.1 hd hi (hlo.2.2 i _ hl rfl) (k p e R s m args below meth c H locs z0 lc X hR hL hlo a1 a2 a3 a4 a5 a6)
theorem px_lload {i : Nat} {x : Int64} (hd : decode (pm_cc M) pc = .ok (.lload i, 2)) (hp : pc + 2 = pc') (hl : ls[i]? = some (.long x)) (k : pm_W G M zm Φ pc' ls (.long x :: st) z h g) : pm_W G M zm Φ pc ls (st) z h g := by
  subst hp
  intro p e R s m args below meth c H locs z0 lc X hR hL hlo a1 a2 a3 a4 a5 a6
  exact lv_lload X.1 X.2.1 hd (hlo.2.2 i _ hl rfl) (k p e R s m args below meth c H locs z0 lc X hR hL hlo a1 a2 a3 a4 a5 a6)
theorem px_aload_n {j : Fin 4} {i x : Nat} (hd : decode (pm_cc M) pc = .ok (.aload_n j, 1)) (hp : pc + 1 = pc') (hi : (j : Nat) = i) (hl : ls[i]? = some (.ref x)) (k : pm_W G M zm Φ pc' ls (.ref x :: st) z h g) : pm_W G M zm Φ pc ls (st) z h g := by
  subst hp
  intro p e R s m args below meth c H locs z0 lc X hR hL hlo a1 a2 a3 a4 a5 a6
  exact lv_aload_n X.1 X.2.1 hd hi (hlo.2.2 i _ hl rfl) (k p e R s m args below meth c H locs z0 lc X hR hL hlo a1 a2 a3 a4 a5 a6)
theorem px_aload {i x : Nat} (hd : decode (pm_cc M) pc = .ok (.aload i, 2)) (hp : pc + 2 = pc') (hl : ls[i]? = some (.ref x)) (k : pm_W G M zm Φ pc' ls (.ref x :: st) z h g) : pm_W G M zm Φ pc ls (st) z h g := by
  subst hp
  intro p e R s m args below meth c H locs z0 lc X hR hL hlo a1 a2 a3 a4 a5 a6
  exact lv_aload X.1 X.2.1 hd (hlo.2.2 i _ hl rfl) (k p e R s m args below meth c H locs z0 lc X hR hL hlo a1 a2 a3 a4 a5 a6)
theorem px_aload_s {j : Fin 4} {i x : Nat} (hd : decode (pm_cc M) pc = .ok (.aload_n j, 1)) (hp : pc + 1 = pc') (hi : (j : Nat) = i) (hl : ls[i]? = some (.retAddr x)) (k : pm_W G M zm Φ pc' ls (.retAddr x :: st) z h g) : pm_W G M zm Φ pc ls (st) z h g := by
  subst hp
  intro p e R s m args below meth c H locs z0 lc X hR hL hlo a1 a2 a3 a4 a5 a6
  exact lv_aload_n X.1 X.2.1 hd hi (hlo.2.2 i _ hl rfl) (k p e R s m args below meth c H locs z0 lc X hR hL hlo a1 a2 a3 a4 a5 a6)
theorem px_istore_n {j : Fin 4} {i : Nat} {x : Int32} {ls' : List Value} (hd : decode (pm_cc M) pc = .ok (.istore_n j, 1)) (hp : pc + 1 = pc') (hi : (j : Nat) = i) (hn : i < pm_ml M) (hc : ∀ w, ls[i - 1]? = some w → w.category = 1 ∨ i = 0) (hs : ls' = (ls.set i (.int x))) (k : pm_W G M zm Φ pc' ls' (st) z h g) : pm_W G M zm Φ pc ls (.int x :: st) z h g := by
  subst hp
  intro p e R s m args below meth c H locs z0 lc X hR hL hlo a1 a2 a3 a4 a5 a6
  exact lv_istore_n X.1 X.2.1 hd hi hlo.has hn rfl (fun lc' hl' => k p e R s m args below meth c H locs z0 lc' X hR hL (pm_lo.st1 (v := .int x) hl' hs hc) a1 a2 a3 a4 a5 a6)
theorem px_istore {i : Nat} {x : Int32} {ls' : List Value} (hd : decode (pm_cc M) pc = .ok (.istore i, 2)) (hp : pc + 2 = pc') (hn : i < pm_ml M) (hc : ∀ w, ls[i - 1]? = some w → w.category = 1 ∨ i = 0) (hs : ls' = (ls.set i (.int x))) (k : pm_W G M zm Φ pc' ls' (st) z h g) : pm_W G M zm Φ pc ls (.int x :: st) z h g := by
  subst hp
  intro p e R s m args below meth c H locs z0 lc X hR hL hlo a1 a2 a3 a4 a5 a6
  exact lv_istore X.1 X.2.1 hd hlo.has hn rfl (fun lc' hl' => k p e R s m args below meth c H locs z0 lc' X hR hL (pm_lo.st1 (v := .int x) hl' hs hc) a1 a2 a3 a4 a5 a6)
theorem px_lstore_n {j : Fin 4} {i : Nat} {x : Int64} {ls' : List Value} (hd : decode (pm_cc M) pc = .ok (.lstore_n j, 1)) (hp : pc + 1 = pc') (hi : (j : Nat) = i) (hn : i + 1 < pm_ml M) (hc : ∀ w, ls[i - 1]? = some w → w.category = 1 ∨ i = 0) (hs : ls' = ((ls.set i (.long x)).set (i + 1) pm_u)) (k : pm_W G M zm Φ pc' ls' (st) z h g) : pm_W G M zm Φ pc ls (.long x :: st) z h g := by
  subst hp
  intro p e R s m args below meth c H locs z0 lc X hR hL hlo a1 a2 a3 a4 a5 a6
  exact lv_lstore_n X.1 X.2.1 hd hi hlo.has hn rfl (fun lc' hl' => k p e R s m args below meth c H locs z0 lc' X hR hL (pm_lo.st2 (v := .long x) hl' hs hc) a1 a2 a3 a4 a5 a6)
theorem px_lstore {i : Nat} {x : Int64} {ls' : List Value} (hd : decode (pm_cc M) pc = .ok (.lstore i, 2)) (hp : pc + 2 = pc') (hn : i + 1 < pm_ml M) (hc : ∀ w, ls[i - 1]? = some w → w.category = 1 ∨ i = 0) (hs : ls' = ((ls.set i (.long x)).set (i + 1) pm_u)) (k : pm_W G M zm Φ pc' ls' (st) z h g) : pm_W G M zm Φ pc ls (.long x :: st) z h g := by
  subst hp
  intro p e R s m args below meth c H locs z0 lc X hR hL hlo a1 a2 a3 a4 a5 a6
  exact lv_lstore X.1 X.2.1 hd hlo.has hn rfl (fun lc' hl' => k p e R s m args below meth c H locs z0 lc' X hR hL (pm_lo.st2 (v := .long x) hl' hs hc) a1 a2 a3 a4 a5 a6)
theorem px_astore_n {j : Fin 4} {i : Nat} {x : Nat} {ls' : List Value} (hd : decode (pm_cc M) pc = .ok (.astore_n j, 1)) (hp : pc + 1 = pc') (hi : (j : Nat) = i) (hn : i < pm_ml M) (hc : ∀ w, ls[i - 1]? = some w → w.category = 1 ∨ i = 0) (hs : ls' = (ls.set i (.ref x))) (k : pm_W G M zm Φ pc' ls' (st) z h g) : pm_W G M zm Φ pc ls (.ref x :: st) z h g := by
  subst hp
  intro p e R s m args below meth c H locs z0 lc X hR hL hlo a1 a2 a3 a4 a5 a6
  exact lv_astore_n X.1 X.2.1 hd hi hlo.has hn rfl (fun lc' hl' => k p e R s m args below meth c H locs z0 lc' X hR hL (pm_lo.st1 (v := .ref x) hl' hs hc) a1 a2 a3 a4 a5 a6)
theorem px_astore {i : Nat} {x : Nat} {ls' : List Value} (hd : decode (pm_cc M) pc = .ok (.astore i, 2)) (hp : pc + 2 = pc') (hn : i < pm_ml M) (hc : ∀ w, ls[i - 1]? = some w → w.category = 1 ∨ i = 0) (hs : ls' = (ls.set i (.ref x))) (k : pm_W G M zm Φ pc' ls' (st) z h g) : pm_W G M zm Φ pc ls (.ref x :: st) z h g := by
  subst hp
  intro p e R s m args below meth c H locs z0 lc X hR hL hlo a1 a2 a3 a4 a5 a6
  exact lv_astore X.1 X.2.1 hd hlo.has hn rfl (fun lc' hl' => k p e R s m args below meth c H locs z0 lc' X hR hL (pm_lo.st1 (v := .ref x) hl' hs hc) a1 a2 a3 a4 a5 a6)
theorem px_iinc {i : Nat} {n : Int} {x w : Int32} {ls' : List Value} (hd : decode (pm_cc M) pc = .ok (.iinc i n, 3)) (hp : pc + 3 = pc') (hn : i < pm_ml M) (hl : ls[i]? = some (.int x)) (hw : Int32.ofInt n = w) (hc : ∀ v, ls[i - 1]? = some v → v.category = 1 ∨ i = 0) (hs : ls' = ls.set i (.int (x + w))) (k : pm_W G M zm Φ pc' ls' (st) z h g) : pm_W G M zm Φ pc ls (st) z h g := by
  subst hp
  intro p e R s m args below meth c H locs z0 lc X hR hL hlo a1 a2 a3 a4 a5 a6
  have hm : (i, Value.int x) ∈ pm_as G ls := pm_as_mem.mpr ⟨_, hl, rfl, rfl⟩
  obtain ⟨q, hq⟩ := List.getElem?_of_mem hm
  exact lv_iinc X.1 X.2.1 hd hlo.has hq (by rw [hw]) hn rfl (fun lc' hl' => k p e R s m args below meth c H locs z0 lc' X hR hL (pm_lo.st1 (v := .int (x + w)) hl' hs hc) a1 a2 a3 a4 a5 a6)
theorem px_iadd {x y : Int32} (hd : decode (pm_cc M) pc = .ok (.iadd, 1)) (hp : pc + 1 = pc') (k : pm_W G M zm Φ pc' ls (.int (x + y) :: st) z h g) : pm_W G M zm Φ pc ls (.int y :: .int x :: st) z h g := by
  subst hp
  intro p e R s m args below meth c H locs z0 lc X hR hL hlo a1 a2 a3 a4 a5 a6
  exact lv_iadd X.1 X.2.1 hd (k p e R s m args below meth c H locs z0 lc X hR hL hlo a1 a2 a3 a4 a5 a6)
theorem px_isub {x y : Int32} (hd : decode (pm_cc M) pc = .ok (.isub, 1)) (hp : pc + 1 = pc') (k : pm_W G M zm Φ pc' ls (.int (x - y) :: st) z h g) : pm_W G M zm Φ pc ls (.int y :: .int x :: st) z h g := by
  subst hp
  intro p e R s m args below meth c H locs z0 lc X hR hL hlo a1 a2 a3 a4 a5 a6
  exact lv_isub X.1 X.2.1 hd (k p e R s m args below meth c H locs z0 lc X hR hL hlo a1 a2 a3 a4 a5 a6)
theorem px_imul {x y : Int32} (hd : decode (pm_cc M) pc = .ok (.imul, 1)) (hp : pc + 1 = pc') (k : pm_W G M zm Φ pc' ls (.int (x * y) :: st) z h g) : pm_W G M zm Φ pc ls (.int y :: .int x :: st) z h g := by
  subst hp
  intro p e R s m args below meth c H locs z0 lc X hR hL hlo a1 a2 a3 a4 a5 a6
  exact lv_imul X.1 X.2.1 hd (k p e R s m args below meth c H locs z0 lc X hR hL hlo a1 a2 a3 a4 a5 a6)
theorem px_iand {x y : Int32} (hd : decode (pm_cc M) pc = .ok (.iand, 1)) (hp : pc + 1 = pc') (k : pm_W G M zm Φ pc' ls (.int (x &&& y) :: st) z h g) : pm_W G M zm Φ pc ls (.int y :: .int x :: st) z h g := by
  subst hp
  intro p e R s m args below meth c H locs z0 lc X hR hL hlo a1 a2 a3 a4 a5 a6
  exact lv_iand X.1 X.2.1 hd (k p e R s m args below meth c H locs z0 lc X hR hL hlo a1 a2 a3 a4 a5 a6)
theorem px_ishl {x y : Int32} (hd : decode (pm_cc M) pc = .ok (.ishl, 1)) (hp : pc + 1 = pc') (k : pm_W G M zm Φ pc' ls (.int (x <<< (y &&& 31)) :: st) z h g) : pm_W G M zm Φ pc ls (.int y :: .int x :: st) z h g := by
  subst hp
  intro p e R s m args below meth c H locs z0 lc X hR hL hlo a1 a2 a3 a4 a5 a6
  exact lv_ishl X.1 X.2.1 hd (k p e R s m args below meth c H locs z0 lc X hR hL hlo a1 a2 a3 a4 a5 a6)
theorem px_ishr {x y : Int32} (hd : decode (pm_cc M) pc = .ok (.ishr, 1)) (hp : pc + 1 = pc') (k : pm_W G M zm Φ pc' ls (.int (x >>> (y &&& 31)) :: st) z h g) : pm_W G M zm Φ pc ls (.int y :: .int x :: st) z h g := by
  subst hp
  intro p e R s m args below meth c H locs z0 lc X hR hL hlo a1 a2 a3 a4 a5 a6
  exact lv_ishr X.1 X.2.1 hd (k p e R s m args below meth c H locs z0 lc X hR hL hlo a1 a2 a3 a4 a5 a6)
theorem px_idiv {x y : Int32} (hd : decode (pm_cc M) pc = .ok (.idiv, 1)) (hp : pc + 1 = pc') (hne : ¬ y = 0) (k : pm_W G M zm Φ pc' ls (.int (x / y) :: st) z h g) : pm_W G M zm Φ pc ls (.int y :: .int x :: st) z h g := by
  subst hp
  intro p e R s m args below meth c H locs z0 lc X hR hL hlo a1 a2 a3 a4 a5 a6
  exact lv_idiv X.1 X.2.1 hd hne (k p e R s m args below meth c H locs z0 lc X hR hL hlo a1 a2 a3 a4 a5 a6)
theorem px_irem {x y : Int32} (hd : decode (pm_cc M) pc = .ok (.irem, 1)) (hp : pc + 1 = pc') (hne : ¬ y = 0) (k : pm_W G M zm Φ pc' ls (.int (x - x / y * y) :: st) z h g) : pm_W G M zm Φ pc ls (.int y :: .int x :: st) z h g := by
  subst hp
  intro p e R s m args below meth c H locs z0 lc X hR hL hlo a1 a2 a3 a4 a5 a6
  exact lv_irem X.1 X.2.1 hd hne (k p e R s m args below meth c H locs z0 lc X hR hL hlo a1 a2 a3 a4 a5 a6)
theorem px_ladd {x y : Int64} (hd : decode (pm_cc M) pc = .ok (.ladd, 1)) (hp : pc + 1 = pc') (k : pm_W G M zm Φ pc' ls (.long (x + y) :: st) z h g) : pm_W G M zm Φ pc ls (.long y :: .long x :: st) z h g := by
  subst hp
  intro p e R s m args below meth c H locs z0 lc X hR hL hlo a1 a2 a3 a4 a5 a6
  exact lv_ladd X.1 X.2.1 hd (k p e R s m args below meth c H locs z0 lc X hR hL hlo a1 a2 a3 a4 a5 a6)
theorem px_lmul {x y : Int64} (hd : decode (pm_cc M) pc = .ok (.lmul, 1)) (hp : pc + 1 = pc') (k : pm_W G M zm Φ pc' ls (.long (x * y) :: st) z h g) : pm_W G M zm Φ pc ls (.long y :: .long x :: st) z h g := by
  subst hp
  intro p e R s m args below meth c H locs z0 lc X hR hL hlo a1 a2 a3 a4 a5 a6
  exact lv_lmul X.1 X.2.1 hd (k p e R s m args below meth c H locs z0 lc X hR hL hlo a1 a2 a3 a4 a5 a6)
theorem px_ldiv {x y : Int64} (hd : decode (pm_cc M) pc = .ok (.ldiv, 1)) (hp : pc + 1 = pc') (hne : ¬ y = 0) (k : pm_W G M zm Φ pc' ls (.long (x / y) :: st) z h g) : pm_W G M zm Φ pc ls (.long y :: .long x :: st) z h g := by
  subst hp
  intro p e R s m args below meth c H locs z0 lc X hR hL hlo a1 a2 a3 a4 a5 a6
  exact lv_ldiv X.1 X.2.1 hd hne (k p e R s m args below meth c H locs z0 lc X hR hL hlo a1 a2 a3 a4 a5 a6)
theorem px_lrem {x y : Int64} (hd : decode (pm_cc M) pc = .ok (.lrem, 1)) (hp : pc + 1 = pc') (hne : ¬ y = 0) (k : pm_W G M zm Φ pc' ls (.long (x - x / y * y) :: st) z h g) : pm_W G M zm Φ pc ls (.long y :: .long x :: st) z h g := by
  subst hp
  intro p e R s m args below meth c H locs z0 lc X hR hL hlo a1 a2 a3 a4 a5 a6
  exact lv_lrem X.1 X.2.1 hd hne (k p e R s m args below meth c H locs z0 lc X hR hL hlo a1 a2 a3 a4 a5 a6)
theorem px_ineg {x : Int32} (hd : decode (pm_cc M) pc = .ok (.ineg, 1)) (hp : pc + 1 = pc') (k : pm_W G M zm Φ pc' ls (.int (-x) :: st) z h g) : pm_W G M zm Φ pc ls (.int x :: st) z h g := by
  subst hp
  intro p e R s m args below meth c H locs z0 lc X hR hL hlo a1 a2 a3 a4 a5 a6
  exact lv_ineg X.1 X.2.1 hd (k p e R s m args below meth c H locs z0 lc X hR hL hlo a1 a2 a3 a4 a5 a6)
theorem px_i2l {x : Int32} (hd : decode (pm_cc M) pc = .ok (.i2l, 1)) (hp : pc + 1 = pc') (k : pm_W G M zm Φ pc' ls (.long x.toInt64 :: st) z h g) : pm_W G M zm Φ pc ls (.int x :: st) z h g := by
  subst hp
  intro p e R s m args below meth c H locs z0 lc X hR hL hlo a1 a2 a3 a4 a5 a6
  exact lv_i2l X.1 X.2.1 hd rfl (k p e R s m args below meth c H locs z0 lc X hR hL hlo a1 a2 a3 a4 a5 a6)
theorem px_i2b {x : Int32} (hd : decode (pm_cc M) pc = .ok (.i2b, 1)) (hp : pc + 1 = pc') (k : pm_W G M zm Φ pc' ls (.int x.toInt8.toInt32 :: st) z h g) : pm_W G M zm Φ pc ls (.int x :: st) z h g := by
  subst hp
  intro p e R s m args below meth c H locs z0 lc X hR hL hlo a1 a2 a3 a4 a5 a6
  exact lv_i2b X.1 X.2.1 hd rfl (k p e R s m args below meth c H locs z0 lc X hR hL hlo a1 a2 a3 a4 a5 a6)
theorem px_lcmp {x y : Int64} (hd : decode (pm_cc M) pc = .ok (.lcmp, 1)) (hp : pc + 1 = pc') (k : pm_W G M zm Φ pc' ls (.int (lg_cmp x y) :: st) z h g) : pm_W G M zm Φ pc ls (.long y :: .long x :: st) z h g := by
  subst hp
  intro p e R s m args below meth c H locs z0 lc X hR hL hlo a1 a2 a3 a4 a5 a6
  exact W.lcmp X.1 X.2.1 hd (k p e R s m args below meth c H locs z0 lc X hR hL hlo a1 a2 a3 a4 a5 a6)
theorem px_dup {v : Value} (hd : decode (pm_cc M) pc = .ok (.dup, 1)) (hp : pc + 1 = pc') (hc : v.category = 1) (k : pm_W G M zm Φ pc' ls (v :: v :: st) z h g) : pm_W G M zm Φ pc ls (v :: st) z h g := by
  subst hp
  intro p e R s m args below meth c H locs z0 lc X hR hL hlo a1 a2 a3 a4 a5 a6
  exact lv_dup X.1 X.2.1 hd ((pm_tr_cat G v).trans hc) (k p e R s m args below meth c H locs z0 lc X hR hL hlo a1 a2 a3 a4 a5 a6)
theorem px_pop {v : Value} (hd : decode (pm_cc M) pc = .ok (.pop, 1)) (hp : pc + 1 = pc') (hc : v.category = 1) (k : pm_W G M zm Φ pc' ls (st) z h g) : pm_W G M zm Φ pc ls (v :: st) z h g := by
  subst hp
  intro p e R s m args below meth c H locs z0 lc X hR hL hlo a1 a2 a3 a4 a5 a6
  exact lv_pop X.1 X.2.1 hd ((pm_tr_cat G v).trans hc) (k p e R s m args below meth c H locs z0 lc X hR hL hlo a1 a2 a3 a4 a5 a6)
theorem px_dup2 {v w : Value} (hd : decode (pm_cc M) pc = .ok (.dup2, 1)) (hp : pc + 1 = pc') (hc : v.category = 1) (hc2 : w.category = 1) (k : pm_W G M zm Φ pc' ls (v :: w :: v :: w :: st) z h g) : pm_W G M zm Φ pc ls (v :: w :: st) z h g := by
  subst hp
  intro p e R s m args below meth c H locs z0 lc X hR hL hlo a1 a2 a3 a4 a5 a6
  exact lv_dup2_11 X.1 X.2.1 hd ((pm_tr_cat G v).trans hc) ((pm_tr_cat G w).trans hc2) (k p e R s m args below meth c H locs z0 lc X hR hL hlo a1 a2 a3 a4 a5 a6)
theorem px_if_eq {x : Int32} {off : Int} {tgt : Nat} (hd : decode (pm_cc M) pc = .ok (.ifCond .eq off, 3)) (ht : (pc : Int) + off = (tgt : Int)) (hp : pc + 3 = pc') (kt : x = 0 → pm_W G M zm Φ tgt ls (st) z h g) (kf : ¬ x = 0 → pm_W G M zm Φ pc' ls (st) z h g) : pm_W G M zm Φ pc ls (.int x :: st) z h g := by
  subst hp
  intro p e R s m args below meth c H locs z0 lc X hR hL hlo a1 a2 a3 a4 a5 a6
  exact lv_if_eq X.1 X.2.1 hd ht (fun q => kt q p e R s m args below meth c H locs z0 lc X hR hL hlo a1 a2 a3 a4 a5 a6) (fun q => kf q p e R s m args below meth c H locs z0 lc X hR hL hlo a1 a2 a3 a4 a5 a6)
theorem px_icmp_eq {x y : Int32} {off : Int} {tgt : Nat} (hd : decode (pm_cc M) pc = .ok (.if_icmp .eq off, 3)) (ht : (pc : Int) + off = (tgt : Int)) (hp : pc + 3 = pc') (kt : x = y → pm_W G M zm Φ tgt ls (st) z h g) (kf : ¬ x = y → pm_W G M zm Φ pc' ls (st) z h g) : pm_W G M zm Φ pc ls (.int y :: .int x :: st) z h g := by
  subst hp
  intro p e R s m args below meth c H locs z0 lc X hR hL hlo a1 a2 a3 a4 a5 a6
  exact lv_icmp_eq X.1 X.2.1 hd ht (fun q => kt q p e R s m args below meth c H locs z0 lc X hR hL hlo a1 a2 a3 a4 a5 a6) (fun q => kf q p e R s m args below meth c H locs z0 lc X hR hL hlo a1 a2 a3 a4 a5 a6)
theorem px_if_ne {x : Int32} {off : Int} {tgt : Nat} (hd : decode (pm_cc M) pc = .ok (.ifCond .ne off, 3)) (ht : (pc : Int) + off = (tgt : Int)) (hp : pc + 3 = pc') (kt : ¬ x = 0 → pm_W G M zm Φ tgt ls (st) z h g) (kf : x = 0 → pm_W G M zm Φ pc' ls (st) z h g) : pm_W G M zm Φ pc ls (.int x :: st) z h g := by
  subst hp
  intro p e R s m args below meth c H locs z0 lc X hR hL hlo a1 a2 a3 a4 a5 a6
  exact lv_if_ne X.1 X.2.1 hd ht (fun q => kt q p e R s m args below meth c H locs z0 lc X hR hL hlo a1 a2 a3 a4 a5 a6) (fun q => kf q p e R s m args below meth c H locs z0 lc X hR hL hlo a1 a2 a3 a4 a5 a6)
theorem px_icmp_ne {x y : Int32} {off : Int} {tgt : Nat} (hd : decode (pm_cc M) pc = .ok (.if_icmp .ne off, 3)) (ht : (pc : Int) + off = (tgt : Int)) (hp : pc + 3 = pc') (kt : ¬ x = y → pm_W G M zm Φ tgt ls (st) z h g) (kf : x = y → pm_W G M zm Φ pc' ls (st) z h g) : pm_W G M zm Φ pc ls (.int y :: .int x :: st) z h g := by
  subst hp
  intro p e R s m args below meth c H locs z0 lc X hR hL hlo a1 a2 a3 a4 a5 a6
  exact lv_icmp_ne X.1 X.2.1 hd ht (fun q => kt q p e R s m args below meth c H locs z0 lc X hR hL hlo a1 a2 a3 a4 a5 a6) (fun q => kf q p e R s m args below meth c H locs z0 lc X hR hL hlo a1 a2 a3 a4 a5 a6)
theorem px_if_lt {x : Int32} {off : Int} {tgt : Nat} (hd : decode (pm_cc M) pc = .ok (.ifCond .lt off, 3)) (ht : (pc : Int) + off = (tgt : Int)) (hp : pc + 3 = pc') (kt : x < 0 → pm_W G M zm Φ tgt ls (st) z h g) (kf : ¬ x < 0 → pm_W G M zm Φ pc' ls (st) z h g) : pm_W G M zm Φ pc ls (.int x :: st) z h g := by
  subst hp
  intro p e R s m args below meth c H locs z0 lc X hR hL hlo a1 a2 a3 a4 a5 a6
  exact lv_if_lt X.1 X.2.1 hd ht (fun q => kt q p e R s m args below meth c H locs z0 lc X hR hL hlo a1 a2 a3 a4 a5 a6) (fun q => kf q p e R s m args below meth c H locs z0 lc X hR hL hlo a1 a2 a3 a4 a5 a6)
theorem px_icmp_lt {x y : Int32} {off : Int} {tgt : Nat} (hd : decode (pm_cc M) pc = .ok (.if_icmp .lt off, 3)) (ht : (pc : Int) + off = (tgt : Int)) (hp : pc + 3 = pc') (kt : x < y → pm_W G M zm Φ tgt ls (st) z h g) (kf : ¬ x < y → pm_W G M zm Φ pc' ls (st) z h g) : pm_W G M zm Φ pc ls (.int y :: .int x :: st) z h g := by
  subst hp
  intro p e R s m args below meth c H locs z0 lc X hR hL hlo a1 a2 a3 a4 a5 a6
  exact lv_icmp_lt X.1 X.2.1 hd ht (fun q => kt q p e R s m args below meth c H locs z0 lc X hR hL hlo a1 a2 a3 a4 a5 a6) (fun q => kf q p e R s m args below meth c H locs z0 lc X hR hL hlo a1 a2 a3 a4 a5 a6)
theorem px_if_ge {x : Int32} {off : Int} {tgt : Nat} (hd : decode (pm_cc M) pc = .ok (.ifCond .ge off, 3)) (ht : (pc : Int) + off = (tgt : Int)) (hp : pc + 3 = pc') (kt : 0 ≤ x → pm_W G M zm Φ tgt ls (st) z h g) (kf : ¬ 0 ≤ x → pm_W G M zm Φ pc' ls (st) z h g) : pm_W G M zm Φ pc ls (.int x :: st) z h g := by
  subst hp
  intro p e R s m args below meth c H locs z0 lc X hR hL hlo a1 a2 a3 a4 a5 a6
  exact lv_if_ge X.1 X.2.1 hd ht (fun q => kt q p e R s m args below meth c H locs z0 lc X hR hL hlo a1 a2 a3 a4 a5 a6) (fun q => kf q p e R s m args below meth c H locs z0 lc X hR hL hlo a1 a2 a3 a4 a5 a6)
theorem px_icmp_ge {x y : Int32} {off : Int} {tgt : Nat} (hd : decode (pm_cc M) pc = .ok (.if_icmp .ge off, 3)) (ht : (pc : Int) + off = (tgt : Int)) (hp : pc + 3 = pc') (kt : y ≤ x → pm_W G M zm Φ tgt ls (st) z h g) (kf : ¬ y ≤ x → pm_W G M zm Φ pc' ls (st) z h g) : pm_W G M zm Φ pc ls (.int y :: .int x :: st) z h g := by
  subst hp
  intro p e R s m args below meth c H locs z0 lc X hR hL hlo a1 a2 a3 a4 a5 a6
  exact lv_icmp_ge X.1 X.2.1 hd ht (fun q => kt q p e R s m args below meth c H locs z0 lc X hR hL hlo a1 a2 a3 a4 a5 a6) (fun q => kf q p e R s m args below meth c H locs z0 lc X hR hL hlo a1 a2 a3 a4 a5 a6)
theorem px_if_gt {x : Int32} {off : Int} {tgt : Nat} (hd : decode (pm_cc M) pc = .ok (.ifCond .gt off, 3)) (ht : (pc : Int) + off = (tgt : Int)) (hp : pc + 3 = pc') (kt : 0 < x → pm_W G M zm Φ tgt ls (st) z h g) (kf : ¬ 0 < x → pm_W G M zm Φ pc' ls (st) z h g) : pm_W G M zm Φ pc ls (.int x :: st) z h g := by
  subst hp
  intro p e R s m args below meth c H locs z0 lc X hR hL hlo a1 a2 a3 a4 a5 a6
  exact lv_if_gt X.1 X.2.1 hd ht (fun q => kt q p e R s m args below meth c H locs z0 lc X hR hL hlo a1 a2 a3 a4 a5 a6) (fun q => kf q p e R s m args below meth c H locs z0 lc X hR hL hlo a1 a2 a3 a4 a5 a6)
theorem px_icmp_gt {x y : Int32} {off : Int} {tgt : Nat} (hd : decode (pm_cc M) pc = .ok (.if_icmp .gt off, 3)) (ht : (pc : Int) + off = (tgt : Int)) (hp : pc + 3 = pc') (kt : y < x → pm_W G M zm Φ tgt ls (st) z h g) (kf : ¬ y < x → pm_W G M zm Φ pc' ls (st) z h g) : pm_W G M zm Φ pc ls (.int y :: .int x :: st) z h g := by
  subst hp
  intro p e R s m args below meth c H locs z0 lc X hR hL hlo a1 a2 a3 a4 a5 a6
  exact lv_icmp_gt X.1 X.2.1 hd ht (fun q => kt q p e R s m args below meth c H locs z0 lc X hR hL hlo a1 a2 a3 a4 a5 a6) (fun q => kf q p e R s m args below meth c H locs z0 lc X hR hL hlo a1 a2 a3 a4 a5 a6)
theorem px_if_le {x : Int32} {off : Int} {tgt : Nat} (hd : decode (pm_cc M) pc = .ok (.ifCond .le off, 3)) (ht : (pc : Int) + off = (tgt : Int)) (hp : pc + 3 = pc') (kt : x ≤ 0 → pm_W G M zm Φ tgt ls (st) z h g) (kf : ¬ x ≤ 0 → pm_W G M zm Φ pc' ls (st) z h g) : pm_W G M zm Φ pc ls (.int x :: st) z h g := by
  subst hp
  intro p e R s m args below meth c H locs z0 lc X hR hL hlo a1 a2 a3 a4 a5 a6
  exact lv_if_le X.1 X.2.1 hd ht (fun q => kt q p e R s m args below meth c H locs z0 lc X hR hL hlo a1 a2 a3 a4 a5 a6) (fun q => kf q p e R s m args below meth c H locs z0 lc X hR hL hlo a1 a2 a3 a4 a5 a6)
theorem px_icmp_le {x y : Int32} {off : Int} {tgt : Nat} (hd : decode (pm_cc M) pc = .ok (.if_icmp .le off, 3)) (ht : (pc : Int) + off = (tgt : Int)) (hp : pc + 3 = pc') (kt : x ≤ y → pm_W G M zm Φ tgt ls (st) z h g) (kf : ¬ x ≤ y → pm_W G M zm Φ pc' ls (st) z h g) : pm_W G M zm Φ pc ls (.int y :: .int x :: st) z h g := by
  subst hp
  intro p e R s m args below meth c H locs z0 lc X hR hL hlo a1 a2 a3 a4 a5 a6
  exact lv_icmp_le X.1 X.2.1 hd ht (fun q => kt q p e R s m args below meth c H locs z0 lc X hR hL hlo a1 a2 a3 a4 a5 a6) (fun q => kf q p e R s m args below meth c H locs z0 lc X hR hL hlo a1 a2 a3 a4 a5 a6)
theorem px_goto {off : Int} {tgt : Nat} (hd : decode (pm_cc M) pc = .ok (.goto off, 3)) (ht : (pc : Int) + off = (tgt : Int)) (k : pm_W G M zm Φ tgt ls (st) z h g) : pm_W G M zm Φ pc ls (st) z h g := by
  intro p e R s m args below meth c H locs z0 lc X hR hL hlo a1 a2 a3 a4 a5 a6
  exact lv_goto X.1 X.2.1 hd ht (k p e R s m args below meth c H locs z0 lc X hR hL hlo a1 a2 a3 a4 a5 a6)
theorem px_tblOut {dflt lo hi : Int} {offs : Array Int} {len : Nat} {x : Int32} {tgt : Nat} (hd : decode (pm_cc M) pc = .ok (.tableswitch dflt lo hi offs, len)) (hx : x.toInt < lo ∨ hi < x.toInt) (ht : (pc : Int) + dflt = (tgt : Int)) (k : pm_W G M zm Φ tgt ls (st) z h g) : pm_W G M zm Φ pc ls (.int x :: st) z h g := by
  intro p e R s m args below meth c H locs z0 lc X hR hL hlo a1 a2 a3 a4 a5 a6
  exact lv_tableOut X.1 X.2.1 hd hx ht (k p e R s m args below meth c H locs z0 lc X hR hL hlo a1 a2 a3 a4 a5 a6)
theorem px_tblIn {dflt lo hi : Int} {offs : Array Int} {len : Nat} {x : Int32} {off : Int} {tgt : Nat} (hd : decode (pm_cc M) pc = .ok (.tableswitch dflt lo hi offs, len)) (h1 : ¬ x.toInt < lo) (h2 : ¬ hi < x.toInt) (ho : offs[(x.toInt - lo).toNat]? = some off) (ht : (pc : Int) + off = (tgt : Int)) (k : pm_W G M zm Φ tgt ls (st) z h g) : pm_W G M zm Φ pc ls (.int x :: st) z h g := by
  intro p e R s m args below meth c H locs z0 lc X hR hL hlo a1 a2 a3 a4 a5 a6
  exact lv_tableIn X.1 X.2.1 hd h1 h2 ho ht (k p e R s m args below meth c H locs z0 lc X hR hL hlo a1 a2 a3 a4 a5 a6)
end PX
def pm_up (h : pm_h) (a : Nat) (c : pm_C) : pm_h := fun j => if j = a then c else h j
def pm_uf (g : pm_g) (a k : Nat) (v : Value) : pm_g := fun a' k' => if a' = a ∧ k' = k then v else g a' k'
def pm_nf (g : pm_g) (a : Nat) (d : Nat → Value) : pm_g := fun a' k' => if a' = a then d k' else g a' k'
theorem pm_up_s (h : pm_h) (a : Nat) (c : pm_C) : pm_up h a c a = c := if_pos rfl
theorem pm_up_n (h : pm_h) {a b : Nat} (c : pm_C) (hn : b ≠ a) : pm_up h a c b = h b := if_neg hn
theorem pm_up_e {h : pm_h} {a : Nat} {c d : pm_C} (e : c = d) : pm_up h a c a = d := (pm_up_s h a c).trans e
theorem pm_up_o {h : pm_h} {a b : Nat} {c d : pm_C} (hn : b ≠ a) (e : h b = d) : pm_up h a c b = d := (pm_up_n h c hn).trans e
theorem pm_up_up (h : pm_h) (a : Nat) (c d : pm_C) : pm_up (pm_up h a c) a d = pm_up h a d := by
  funext j
  unfold pm_up
  by_cases q : j = a
  · rw [if_pos q, if_pos q]
  · rw [if_neg q, if_neg q, if_neg q]
theorem pm_up_self {h : pm_h} {a : Nat} {c : pm_C} (e : h a = c) : pm_up h a c = h := by
  funext j
  unfold pm_up
  by_cases q : j = a
  · rw [if_pos q, q, e]
  · rw [if_neg q]
theorem pm_up_comm (h : pm_h) {a b : Nat} (c d : pm_C) (hn : a ≠ b) : pm_up (pm_up h a c) b d = pm_up (pm_up h b d) a c := by
  funext j
  unfold pm_up
  by_cases q : j = a
  · have q3 : ¬ j = b := by omega
    rw [if_neg q3, if_pos q, if_pos q]
  · by_cases q2 : j = b
    · rw [if_pos q2, if_neg q, if_pos q2]
    · rw [if_neg q2, if_neg q, if_neg q, if_neg q2]
theorem pm_uf_e {g : pm_g} {a k : Nat} {v w : Value} (e : v = w) : pm_uf g a k v a k = w := (if_pos ⟨rfl, rfl⟩ : pm_uf g a k v a k = v).trans e
theorem pm_uf_o {g : pm_g} {a k b j : Nat} {v w : Value} (hn : ¬ (b = a ∧ j = k)) (e : g b j = w) : pm_uf g a k v b j = w := (if_neg hn : pm_uf g a k v b j = g b j).trans e
theorem pm_uf_a {g : pm_g} {a k b : Nat} {v : Value} (hn : b ≠ a) : pm_uf g a k v b = g b := funext fun _ => if_neg fun q => hn q.1
theorem pm_uf_uf (g : pm_g) (a k : Nat) (v w : Value) : pm_uf (pm_uf g a k v) a k w = pm_uf g a k w := by
  funext b j
  unfold pm_uf
  by_cases q : b = a ∧ j = k
  · rw [if_pos q, if_pos q]
  · rw [if_neg q, if_neg q, if_neg q]
theorem pm_uf_self {g : pm_g} {a k : Nat} {v : Value} (e : g a k = v) : pm_uf g a k v = g := by
  funext b j
  unfold pm_uf
  by_cases q : b = a ∧ j = k
  · rw [if_pos q, q.1, q.2, e]
  · rw [if_neg q]
theorem pm_uf_comm (g : pm_g) {a k b j : Nat} (v w : Value) (hn : ¬ (a = b ∧ k = j)) : pm_uf (pm_uf g a k v) b j w = pm_uf (pm_uf g b j w) a k v := by
  funext c i
  unfold pm_uf
  by_cases q : c = a ∧ i = k
  · have q3 : ¬ (c = b ∧ i = j) := by omega
    rw [if_neg q3, if_pos q, if_pos q]
  · by_cases q2 : c = b ∧ i = j
    · rw [if_pos q2, if_neg q, if_pos q2]
    · rw [if_neg q2, if_neg q, if_neg q, if_neg q2]
theorem pm_nf_s (g : pm_g) (a : Nat) (d : Nat → Value) : pm_nf g a d a = d := funext fun _ => if_pos rfl
theorem pm_nf_a {g : pm_g} {a b : Nat} {d : Nat → Value} (hn : b ≠ a) : pm_nf g a d b = g b := funext fun _ => if_neg hn
theorem pm_nf_e {g : pm_g} {a k : Nat} {d : Nat → Value} {w : Value} (e : d k = w) : pm_nf g a d a k = w := (if_pos rfl : pm_nf g a d a k = d k).trans e
theorem pm_nf_o {g : pm_g} {a b k : Nat} {d : Nat → Value} {w : Value} (hn : b ≠ a) (e : g b k = w) : pm_nf g a d b k = w := (if_neg hn : pm_nf g a d b k = g b k).trans e
theorem pm_at.nf {G : pm_G} {g : pm_g} {a n : Nat} {d : Nat → Value} {c : pm_C} {H : Heap} (hz : H.size = pm_b G + n) (ha : n ≤ a) (h : pm_at G a c (g a) H) : pm_at G a c (d) H := by
  have key : ∀ x : Cell, ¬ H[pm_b G + a]? = some x := fun x hx => by
    have := (Array.getElem?_eq_some_iff.mp hx).1
    omega
  rcases c with q | q | ci | u
  · exact absurd h (key _)
  · exact absurd h (key _)
  · obtain ⟨r, h1, cell, h2, h3⟩ := h
    exact absurd h2 (key _)
  · exact trivial
/-- one cell written -/
theorem pm_R.put {G : pm_G} {n a : Nat} {h : pm_h} {g : pm_g} {H H1 : Heap} {c : pm_C} {g' : pm_g} (hR : pm_R G n h g H) (hz : H1.size = H.size) (ho : ∀ q : Nat, q ≠ pm_b G + a → H1[q]? = H[q]?) (hc : pm_at G a c (g' a) H1) (hg : ∀ b, b ≠ a → g' b = g b) : pm_R G n (pm_up h a c) g' H1 := by
  refine ⟨hz.trans hR.1, fun b => ?_, fun q hq => (ho q (by omega)).trans (hR.2.2 q hq)⟩
  by_cases hb : b = a
  · subst hb
    rw [pm_up_s]
    exact hc
  · rw [pm_up_n _ _ hb, hg b hb]
    exact (hR.2.1 b).kept (ho _ (by omega))
/-- one cell made -/
theorem pm_R.mk {G : pm_G} {n : Nat} {h : pm_h} {g : pm_g} {H H1 : Heap} {c : pm_C} {g' : pm_g} (hR : pm_R G n h g H) (hz : H1.size = H.size + 1) (ho : ∀ q : Nat, q < H.size → H1[q]? = H[q]?) (hc : pm_at G n c (g' n) H1) (hg : ∀ b, b ≠ n → g' b = g b) : pm_R G (n + 1) (pm_up h n c) g' H1 := by
  refine ⟨by rw [hz, hR.1]; omega, fun b => ?_, fun q hq => (ho q (by rw [hR.1]; omega)).trans (hR.2.2 q hq)⟩
  by_cases hb : b = n
  · subst hb
    rw [pm_up_s]
    exact hc
  · rw [pm_up_n _ _ hb, hg b hb]
    exact (hR.2.1 b).push hR.1 (fun q hq => ho q (by rw [hR.1]; exact hq))
end
section
set_option maxRecDepth 100000 in
theorem pm_lay0 : ∀ w ∈ wsX00, w ∈ pm_T := by
  have e : wsX00 = [145, 147, 149, 151, 153, 155].filterMap (fun i => lw_tbl[i]?) := by decide +kernel
  have f : wsX00.all goodWord = true := by decide +kernel
  intro w hw
  have h1 := List.all_eq_true.mp f w hw
  rw [e] at hw
  obtain ⟨i, -, hi⟩ := List.mem_filterMap.mp hw
  exact List.mem_filter.mpr ⟨List.mem_of_getElem? hi, h1⟩
set_option maxRecDepth 100000 in
theorem pm_lay1 : ∀ w ∈ wsX10, w ∈ pm_T := by
  have e : wsX10 = [170, 172, 174, 176, 178, 180].filterMap (fun i => lw_tbl[i]?) := by decide +kernel
  have f : wsX10.all goodWord = true := by decide +kernel
  intro w hw
  have h1 := List.all_eq_true.mp f w hw
  rw [e] at hw
  obtain ⟨i, -, hi⟩ := List.mem_filterMap.mp hw
  exact List.mem_filter.mpr ⟨List.mem_of_getElem? hi, h1⟩
set_option maxRecDepth 100000 in
theorem pm_lay2 : ∀ w ∈ wsX20, w ∈ pm_T := by
  have e : wsX20 = [98, 100, 102].filterMap (fun i => lw_tbl[i]?) := by decide +kernel
  have f : wsX20.all goodWord = true := by decide +kernel
  intro w hw
  have h1 := List.all_eq_true.mp f w hw
  rw [e] at hw
  obtain ⟨i, -, hi⟩ := List.mem_filterMap.mp hw
  exact List.mem_filter.mpr ⟨List.mem_of_getElem? hi, h1⟩
set_option maxRecDepth 100000 in
theorem pm_lay3 : ∀ w ∈ wsX30, w ∈ pm_T := by
  have e : wsX30 = [81, 83, 85].filterMap (fun i => lw_tbl[i]?) := by decide +kernel
  have f : wsX30.all goodWord = true := by decide +kernel
  intro w hw
  have h1 := List.all_eq_true.mp f w hw
  rw [e] at hw
  obtain ⟨i, -, hi⟩ := List.mem_filterMap.mp hw
  exact List.mem_filter.mpr ⟨List.mem_of_getElem? hi, h1⟩
set_option maxRecDepth 100000 in
theorem pm_lay4 : ∀ w ∈ wsX40, w ∈ pm_T := by
  have e : wsX40 = [200, 202, 204, 206, 208, 210, 212, 214, 216, 218].filterMap (fun i => lw_tbl[i]?) := by decide +kernel
  have f : wsX40.all goodWord = true := by decide +kernel
  intro w hw
  have h1 := List.all_eq_true.mp f w hw
  rw [e] at hw
  obtain ⟨i, -, hi⟩ := List.mem_filterMap.mp hw
  exact List.mem_filter.mpr ⟨List.mem_of_getElem? hi, h1⟩
set_option maxRecDepth 100000 in
theorem pm_lay5 : ∀ w ∈ wsX50, w ∈ pm_T := by
  have e : wsX50 = [118, 120, 122, 124, 126, 128, 130].filterMap (fun i => lw_tbl[i]?) := by decide +kernel
  have f : wsX50.all goodWord = true := by decide +kernel
  intro w hw
  have h1 := List.all_eq_true.mp f w hw
  rw [e] at hw
  obtain ⟨i, -, hi⟩ := List.mem_filterMap.mp hw
  exact List.mem_filter.mpr ⟨List.mem_of_getElem? hi, h1⟩
set_option maxRecDepth 100000 in
theorem pm_lay6 : ∀ w ∈ wsX60, w ∈ pm_T := by
  have e : wsX60 = [66, 68].filterMap (fun i => lw_tbl[i]?) := by decide +kernel
  have f : wsX60.all goodWord = true := by decide +kernel
  intro w hw
  have h1 := List.all_eq_true.mp f w hw
  rw [e] at hw
  obtain ⟨i, -, hi⟩ := List.mem_filterMap.mp hw
  exact List.mem_filter.mpr ⟨List.mem_of_getElem? hi, h1⟩
set_option maxRecDepth 100000 in
theorem pm_lay7 : ∀ w ∈ wsX70, w ∈ pm_T := by
  have e : wsX70 = [238, 240, 242, 244, 246, 248, 250, 252, 254, 256, 258].filterMap (fun i => lw_tbl[i]?) := by decide +kernel
  have f : wsX70.all goodWord = true := by decide +kernel
  intro w hw
  have h1 := List.all_eq_true.mp f w hw
  rw [e] at hw
  obtain ⟨i, -, hi⟩ := List.mem_filterMap.mp hw
  exact List.mem_filter.mpr ⟨List.mem_of_getElem? hi, h1⟩
set_option maxRecDepth 100000 in
theorem pm_lay8 : ∀ w ∈ wsX80, w ∈ pm_T := by
  have e : wsX80 = [285, 287, 289, 291, 293, 295, 297, 299].filterMap (fun i => lw_tbl[i]?) := by decide +kernel
  have f : wsX80.all goodWord = true := by decide +kernel
  intro w hw
  have h1 := List.all_eq_true.mp f w hw
  rw [e] at hw
  obtain ⟨i, -, hi⟩ := List.mem_filterMap.mp hw
  exact List.mem_filter.mpr ⟨List.mem_of_getElem? hi, h1⟩
set_option maxRecDepth 100000 in
theorem pm_lay9 : ∀ w ∈ wsX90, w ∈ pm_T := by
  have e : wsX90 = [800, 802, 804, 806, 808, 810, 812, 814, 816, 818, 820, 822, 824, 826, 828, 830, 832, 834, 836, 838, 840, 842, 844, 846, 848, 850, 852, 854, 856, 858, 860, 862, 864, 866, 868, 870, 872, 874].filterMap (fun i => lw_tbl[i]?) := by decide +kernel
  have f : wsX90.all goodWord = true := by decide +kernel
  intro w hw
  have h1 := List.all_eq_true.mp f w hw
  rw [e] at hw
  obtain ⟨i, -, hi⟩ := List.mem_filterMap.mp hw
  exact List.mem_filter.mpr ⟨List.mem_of_getElem? hi, h1⟩
/-- the tables of the classes -/
theorem pm_cls {ci : Nat} {q : vw_C} (h : vwCl[ci]? = some q) : (∀ w ∈ u_ws q.1 q.2.1 q.2.2, w ∈ pm_T) ∧ (∃ ty : Nat → FieldType, ∀ k, k < q.2.2 → parseFieldDescriptor (q.2.1 k).2.2.1 = some (ty k)) ∧ ∀ a, a < q.2.2 → ∀ b, b < q.2.2 → a ≠ b → (q.2.1 a).2.1 ≠ (q.2.1 b).2.1 := by
  match ci, h with
  | 0, h => cases h; exact ⟨pm_lay0, ⟨tyX0, tyX0_ok⟩, nmX0⟩
  | 1, h => cases h; exact ⟨pm_lay1, ⟨tyX1, tyX1_ok⟩, nmX1⟩
  | 2, h => cases h; exact ⟨pm_lay2, ⟨tyX2, tyX2_ok⟩, nmX2⟩
  | 3, h => cases h; exact ⟨pm_lay3, ⟨tyX3, tyX3_ok⟩, nmX3⟩
  | 4, h => cases h; exact ⟨pm_lay4, ⟨tyX4, tyX4_ok⟩, nmX4⟩
  | 5, h => cases h; exact ⟨pm_lay5, ⟨tyX5, tyX5_ok⟩, nmX5⟩
  | 6, h => cases h; exact ⟨pm_lay6, ⟨tyX6, tyX6_ok⟩, nmX6⟩
  | 7, h => cases h; exact ⟨pm_lay7, ⟨tyX7, tyX7_ok⟩, nmX7⟩
  | 8, h => cases h; exact ⟨pm_lay8, ⟨tyX8, tyX8_ok⟩, nmX8⟩
  | 9, h => cases h; exact ⟨pm_lay9, ⟨tyX9, tyX9_ok⟩, nmX9⟩
  | ci + 10, h => simp [vwCl] at h
/-- a field's link: its class's number, its number in it -/
def pm_fl (own : String) (index ci k : Nat) : Prop := ∃ q : vw_C, vwCl[ci]? = some q ∧ k < q.2.2 ∧ Jvm.Cond.fieldLink own index (q.2.1 k).1 (q.2.1 k).2.1 (q.2.1 k).2.2.1 ∈ pm_T
/-- .. of an int field that isn't final -/
def pm_fi (own : String) (index ci k : Nat) : Prop := ∃ q : vw_C, vwCl[ci]? = some q ∧ k < q.2.2 ∧ Jvm.Cond.fieldLink own index (q.2.1 k).1 (q.2.1 k).2.1 (q.2.1 k).2.2.1 ∈ pm_T ∧ (q.2.1 k).2.2.1 = "I" ∧ (q.2.1 k).2.2.2 = false
/-- .. of a final field, a reference -/
def pm_ff (own : String) (index ci k : Nat) : Prop := ∃ q : vw_C, vwCl[ci]? = some q ∧ k < q.2.2 ∧ Jvm.Cond.fieldLink own index (q.2.1 k).1 (q.2.1 k).2.1 (q.2.1 k).2.2.1 ∈ pm_T ∧ (∃ ty, parseFieldDescriptor (q.2.1 k).2.2.1 = some ty ∧ ∀ a : Nat, narrow ty (.ref a) = .ref a ∧ fits ty (.ref a) = true) ∧ (q.2.1 k).2.2.2 = true ∧ (q.2.1 k).1 = own
/-- a class's link -/
def pm_nw (own : String) (index ci : Nat) (n : Nat) (d : Nat → Value) : Prop := ∃ (q : vw_C) (ty : Nat → FieldType), vwCl[ci]? = some q ∧ q.2.2 = n ∧ Jvm.Cond.classLink own index q.1 ∈ pm_T ∧ Jvm.Cond.instantiable q.1 q.2.2 ∈ pm_T ∧ Jvm.Cond.initialized q.1 ∈ pm_T ∧ (∀ k, k < q.2.2 → parseFieldDescriptor (q.2.1 k).2.2.1 = some (ty k)) ∧ ∀ k, k < q.2.2 → d k = defaultValue (ty k)
theorem pm_tr_df (G : pm_G) (ty : FieldType) : pm_tr G (defaultValue ty) = defaultValue ty := by cases ty <;> rfl
section PH
variable {G : pm_G} {M : pm_M} {zm : pm_z} {Φ : pm_F} {pc pc' : Nat} {ls st : List Value} {z : pm_z} {h : pm_h} {g : pm_g}
theorem px_getf {index ci k a : Nat} {v : Value} (hf : pm_fl (pm_y M).cls index ci k) (hd : decode (pm_cc M) pc = .ok (.getfield index, 3)) (hp : pc + 3 = pc') (hc : h a = pm_ob ci) (hv : g a k = v) (kk : pm_W G M zm Φ pc' ls (v :: st) z h g) : pm_W G M zm Φ pc ls (.ref a :: st) z h g := by
  subst hp
  obtain ⟨q, hq, hk, hlk⟩ := hf
  intro p e R s m args below meth c H locs z0 lc X hR hL hlo a1 a2 a3 a4 a5 a6
  obtain ⟨hx, hb, hml, hrt, hlk0, hnm, hown, hK, hfr, hlr, htb⟩ := id X
  have hat := hR.2.1 a
  rw [hc] at hat
  obtain ⟨r, h1, cell, q1, q2, q3, q4⟩ := hat
  cases hq.symm.trans h1
  obtain ⟨hS, hfc, kC, hkC, hkind⟩ := hK.1 ci _ hq
  obtain ⟨cf, kf, fi, f, hi, hsl⟩ := hS k hk
  have hts : ∀ w ∈ pm_T, w.before args s = true := fun w hw => hK.2.2.1 w hw args
  refine W.getf hx hb hown (hts _ hlk) hi (u_facts hfc hkC (u_lays hts (pm_cls hq).1 hk) hi).1 q1 (by rw [q3]; exact fun h => by cases h) (v := pm_tr G v) ?_ rfl rfl hd (kk p e R s m args below meth c H locs z0 lc X hR hL hlo a1 a2 a3 a4 a5 a6)
  rw [hsl, q4 k hk]
  show some (pm_tr G (g a k)) = _
  rw [hv]
theorem px_put {index ci k a : Nat} {v : Value} {q : vw_C} {ty : FieldType} (hq : vwCl[ci]? = some q) (hk : k < q.2.2) (hlk : Jvm.Cond.fieldLink (pm_y M).cls index (q.2.1 k).1 (q.2.1 k).2.1 (q.2.1 k).2.2.1 ∈ pm_T) (hty : parseFieldDescriptor (q.2.1 k).2.2.1 = some ty) (hn : narrow ty (pm_tr G v) = pm_tr G v) (hft : fits ty (pm_tr G v) = true)
    (hfin : (q.2.1 k).2.2.2 = false ∨ ((q.2.1 k).2.2.2 = true ∧ (pm_y M).name = "<init>" ∧ (q.2.1 k).1 = (pm_y M).cls)) (hd : decode (pm_cc M) pc = .ok (.putfield index, 3)) (hp : pc + 3 = pc') (hc : h a = pm_ob ci) (kk : pm_W G M zm Φ pc' ls (st) z h (pm_uf g a k v)) : pm_W G M zm Φ pc ls (v :: .ref a :: st) z h g := by
  subst hp
  intro p e R s m args below meth c H locs z0 lc X hR hL hlo a1 a2 a3 a4 a5 a6
  obtain ⟨hx, hb, hml, hrt, hlk0, hnm, hown, hK, hfr, hlr, htb⟩ := id X
  have hat := hR.2.1 a
  rw [hc] at hat
  obtain ⟨r, h1, cell, q1, q2, q3, q4⟩ := hat
  cases hq.symm.trans h1
  have hKn := hK.1 ci _ hq
  obtain ⟨hS, hfc, kC, hkC, hkind⟩ := id hKn
  obtain ⟨cf, kf, fi, f, hi, hsl⟩ := hS k hk
  have hts : ∀ w ∈ pm_T, w.before args s = true := fun w hw => hK.2.2.1 w hw args
  obtain ⟨hlays, ⟨tys, htys⟩, hnms⟩ := pm_cls hq
  have hst := (u_facts hfc hkC (u_lays hts hlays hk) hi).1
  have hap : ∀ x y, x < q.2.2 → y < q.2.2 → x ≠ y → (pm_D G).2 ci x ≠ (pm_D G).2 ci y := by
    intro x y hx hy hne
    obtain ⟨_, _, _, fa, hia, ea⟩ := hS x hx
    obtain ⟨_, _, _, fb, hib, eb⟩ := hS y hy
    rw [← ea, ← eb]
    refine u_apart (u_lays hts hlays hx) (u_lays hts hlays hy) hia hib ?_
    rw [(State.fieldFound?_type hia (htys x hx)).1, (State.fieldFound?_type hib (htys y hy)).1]
    exact hnms x hx y hy hne
  have fin : ∀ H' : Heap, H'[pm_b G + a]? = some (cell.setSlot f.slot (pm_tr G v)) → H'.size = H.size → (∀ q, q ≠ pm_b G + a → H'[q]? = H[q]?) → W p (pm_l G) e R s m args below meth c H' (locs ++ [⟨pm_b G + a, f.slot⟩]) (z.1 - z0.1) (z.2.1 - z0.2.1) (Φ below args s (zm.1 - z0.1) (zm.2.1 - z0.2.1)) (F0 m (pc + 3) lc (st.map (pm_tr G))) := by
    intro H' e1 e2 e3
    rw [hsl] at e1
    have hR' : pm_R G z.2.2 (pm_up h a (pm_ob ci)) (pm_uf g a k v) H' := by
      refine hR.put e2 e3 ⟨_, hq, t_OB.to (V := updV (fun j => pm_tr G (g a j)) k (pm_tr G v)) ⟨_, e1, q2, q3, t_set q4 hap hk (pm_tr G v)⟩ (fun j _ => ?_)⟩ (fun b hb => pm_uf_a hb)
      simp only [updV, pm_uf]
      by_cases hj : j = k
      · simp [hj]
      · simp [hj]
    rw [pm_up_self hc] at hR'
    refine kk p e R s m args below meth c H' _ z0 lc X hR' (fun l hl => ?_) hlo a1 a2 a3 a4 a5 a6
    rcases List.mem_append.mp hl with hl | hl
    · exact hL l hl
    · rw [List.mem_singleton.mp hl]
      exact Nat.le_add_right _ _
  have hslot : f.slot < cell.slots.size := by rw [hsl]; exact k2_hasslot (q4 k hk)
  have hlay := hts _ (hlays _ (u_in_lay hk))
  rcases hfin with hfin | ⟨hfin, hin, hdecl⟩
  · unfold u_lay at hlay
    rw [if_neg (by rw [hfin]; decide)] at hlay
    have h6 := u_store hfc hkC hkind hlay hi hty hn hft
    exact W.putK hx hb (f := f) ⟨hown, hts _ hlk, ⟨_, _, _, hi⟩, hst⟩ (by rw [q2]; exact h6) q1 q3 hslot rfl rfl hd fin
  · unfold u_lay at hlay
    rw [if_pos hfin] at hlay
    have hcf : m.cls = cf := by
      obtain ⟨_, _, c', _, _, _, -, -, hf', -, -, -, hown2, -⟩ := Cond.laysFinal_spec hlay
      have e1 : c' = cf := by have := hi.symm.trans hf'; simp at this; exact this.1.symm
      rw [hdecl] at hown2
      rw [← e1]; exact Option.some.inj (hown.symm.trans hown2)
    have h6 := u_fits hfc hkC hkind (Or.inr hlay) hi hty hn hft
    exact W.putFinK hx hb hown (hts _ hlk) hi hst hcf (hnm.trans hin) (by rw [q2]; exact h6) q1 q3 hslot rfl rfl hd fin
theorem px_puti {index ci k a : Nat} {x : Int32} (hf : pm_fi (pm_y M).cls index ci k) (hd : decode (pm_cc M) pc = .ok (.putfield index, 3)) (hp : pc + 3 = pc') (hc : h a = pm_ob ci) (kk : pm_W G M zm Φ pc' ls (st) z h (pm_uf g a k (.int x))) : pm_W G M zm Φ pc ls (.int x :: .ref a :: st) z h g := by
  obtain ⟨q, hq, hk, hlk, hI, hfin⟩ := hf
  exact px_put hq hk hlk (ty := .int) (by rw [hI]; decide +kernel) rfl rfl (Or.inl hfin) hd hp hc kk
theorem px_putr {index ci k a b : Nat} (hf : pm_ff (pm_y M).cls index ci k) (hin : (pm_y M).name = "<init>") (hd : decode (pm_cc M) pc = .ok (.putfield index, 3)) (hp : pc + 3 = pc') (hc : h a = pm_ob ci) (kk : pm_W G M zm Φ pc' ls (st) z h (pm_uf g a k (.ref b))) : pm_W G M zm Φ pc ls (.ref b :: .ref a :: st) z h g := by
  obtain ⟨q, hq, hk, hlk, ⟨ty, h1, h2⟩, hfin, hdecl⟩ := hf
  exact px_put hq hk hlk h1 (h2 _).1 (h2 _).2 (Or.inr ⟨hfin, hin, hdecl⟩) hd hp hc kk
theorem px_iald {a n : Nat} {f : Nat → Int32} {i : Int32} (hd : decode (pm_cc M) pc = .ok (.iaload, 1)) (hp : pc + 1 = pc') (hc : h a = pm_ia 0 n f) (hin : vp_in i n) (kk : pm_W G M zm Φ pc' ls (.int (f i.toNatClampNeg) :: st) z h g) : pm_W G M zm Φ pc ls (.int i :: .ref a :: st) z h g := by
  subst hp
  intro p e R s m args below meth c H locs z0 lc X hR hL hlo a1 a2 a3 a4 a5 a6
  have hat := hR.2.1 a
  rw [hc] at hat
  have hlt : i.toNatClampNeg < n := Nat.not_le.mp fun q => hin (Or.inr q)
  exact W.iald (v := .int (f i.toNatClampNeg)) X.1 X.2.1 hat ((X.2.2.2.2.2.2.2.1.2.1 0 (by decide)).1 n (fun j => .int (f j))) (fun q => by cases q) (by rw [arrV_size]; exact hin) (by rw [arrV_read _ _ hlt]) rfl rfl hd (kk p e R s m args below meth c H locs z0 lc X hR hL hlo a1 a2 a3 a4 a5 a6)
theorem px_bald {a n : Nat} {f : Nat → Int32} {i : Int32} (hd : decode (pm_cc M) pc = .ok (.baload, 1)) (hp : pc + 1 = pc') (hc : h a = pm_ia 1 n f) (hin : vp_in i n) (kk : pm_W G M zm Φ pc' ls (.int (f i.toNatClampNeg) :: st) z h g) : pm_W G M zm Φ pc ls (.int i :: .ref a :: st) z h g := by
  subst hp
  intro p e R s m args below meth c H locs z0 lc X hR hL hlo a1 a2 a3 a4 a5 a6
  have hat := hR.2.1 a
  rw [hc] at hat
  have hlt : i.toNatClampNeg < n := Nat.not_le.mp fun q => hin (Or.inr q)
  exact W.bald (v := .int (f i.toNatClampNeg)) X.1 X.2.1 hat ((X.2.2.2.2.2.2.2.1.2.1 1 (by decide)).1 n (fun j => .int (f j))) (fun q => by cases q) (by rw [arrV_size]; exact hin) (by rw [arrV_read _ _ hlt]) rfl rfl hd (kk p e R s m args below meth c H locs z0 lc X hR hL hlo a1 a2 a3 a4 a5 a6)
theorem px_zald {a n : Nat} {f : Nat → Int32} {i : Int32} (hd : decode (pm_cc M) pc = .ok (.baload, 1)) (hp : pc + 1 = pc') (hc : h a = pm_ia 2 n f) (hin : vp_in i n) (kk : pm_W G M zm Φ pc' ls (.int (f i.toNatClampNeg) :: st) z h g) : pm_W G M zm Φ pc ls (.int i :: .ref a :: st) z h g := by
  subst hp
  intro p e R s m args below meth c H locs z0 lc X hR hL hlo a1 a2 a3 a4 a5 a6
  have hat := hR.2.1 a
  rw [hc] at hat
  have hlt : i.toNatClampNeg < n := Nat.not_le.mp fun q => hin (Or.inr q)
  exact W.zald (v := .int (f i.toNatClampNeg)) X.1 X.2.1 hat ((X.2.2.2.2.2.2.2.1.2.1 2 (by decide)).1 n (fun j => .int (f j))) (fun q => by cases q) (by rw [arrV_size]; exact hin) (by rw [arrV_read _ _ hlt]) rfl rfl hd (kk p e R s m args below meth c H locs z0 lc X hR hL hlo a1 a2 a3 a4 a5 a6)
theorem px_lald {a n : Nat} {f : Nat → Int64} {i : Int32} (hd : decode (pm_cc M) pc = .ok (.laload, 1)) (hp : pc + 1 = pc') (hc : h a = pm_la n f) (hin : vp_in i n) (kk : pm_W G M zm Φ pc' ls (.long (f i.toNatClampNeg) :: st) z h g) : pm_W G M zm Φ pc ls (.int i :: .ref a :: st) z h g := by
  subst hp
  intro p e R s m args below meth c H locs z0 lc X hR hL hlo a1 a2 a3 a4 a5 a6
  have hat := hR.2.1 a
  rw [hc] at hat
  have hlt : i.toNatClampNeg < n := Nat.not_le.mp fun q => hin (Or.inr q)
  exact W.lald (v := .long (f i.toNatClampNeg)) X.1 X.2.1 hat ((X.2.2.2.2.2.2.2.1.2.1 3 (by decide)).1 n (fun j => .long (f j))) (fun q => by cases q) (by rw [arrV_size]; exact hin) (by rw [arrV_read _ _ hlt]) rfl rfl hd (kk p e R s m args below meth c H locs z0 lc X hR hL hlo a1 a2 a3 a4 a5 a6)
theorem px_iast {a n : Nat} {f : Nat → Int32} {i x : Int32} (hd : decode (pm_cc M) pc = .ok (.iastore, 1)) (hp : pc + 1 = pc') (hc : h a = pm_ia 0 n f) (hin : vp_in i n) (kk : pm_W G M zm Φ pc' ls (st) z (pm_up h a (pm_ia 0 n (upd f i.toNatClampNeg x))) g) : pm_W G M zm Φ pc ls (.int x :: .int i :: .ref a :: st) z h g := by
  subst hp
  intro p e R s m args below meth c H locs z0 lc X hR hL hlo a1 a2 a3 a4 a5 a6
  have hat := hR.2.1 a
  rw [hc] at hat
  refine W.iast X.1 X.2.1 hat ((X.2.2.2.2.2.2.2.1.2.1 0 (by decide)).1 n (fun j => .int (f j))) (fun q => by cases q) (by rw [arrV_size]; exact hin) rfl rfl hd fun H' e1 e2 e3 => ?_
  have hR' : pm_R G z.2.2 (pm_up h a (pm_ia 0 n (upd f i.toNatClampNeg x))) g H' := by
    refine hR.put e2 e3 ?_ (fun _ _ => rfl)
    show H'[pm_b G + a]? = some _
    rw [e1, arrV_store]
    congr 2
    funext q
    by_cases hq : q = i.toNatClampNeg
    · subst hq
      simp [updV, upd, vp_nar]
      try rfl
    · simp [updV, upd, hq]
  refine kk p e R s m args below meth c H' _ z0 lc X hR' (fun l hl => ?_) hlo a1 a2 a3 a4 a5 a6
  rcases List.mem_append.mp hl with hl | hl
  · exact hL l hl
  · rw [List.mem_singleton.mp hl]
    exact Nat.le_add_right _ _
theorem px_bast {a n : Nat} {f : Nat → Int32} {i x : Int32} (hd : decode (pm_cc M) pc = .ok (.bastore, 1)) (hp : pc + 1 = pc') (hc : h a = pm_ia 1 n f) (hin : vp_in i n) (kk : pm_W G M zm Φ pc' ls (st) z (pm_up h a (pm_ia 1 n (upd f i.toNatClampNeg (vp_nar .byte x)))) g) : pm_W G M zm Φ pc ls (.int x :: .int i :: .ref a :: st) z h g := by
  subst hp
  intro p e R s m args below meth c H locs z0 lc X hR hL hlo a1 a2 a3 a4 a5 a6
  have hat := hR.2.1 a
  rw [hc] at hat
  refine W.bast X.1 X.2.1 hat ((X.2.2.2.2.2.2.2.1.2.1 1 (by decide)).1 n (fun j => .int (f j))) (fun q => by cases q) (by rw [arrV_size]; exact hin) rfl rfl hd fun H' e1 e2 e3 => ?_
  have hR' : pm_R G z.2.2 (pm_up h a (pm_ia 1 n (upd f i.toNatClampNeg (vp_nar .byte x)))) g H' := by
    refine hR.put e2 e3 ?_ (fun _ _ => rfl)
    show H'[pm_b G + a]? = some _
    rw [e1, arrV_store]
    congr 2
    funext q
    by_cases hq : q = i.toNatClampNeg
    · subst hq
      simp [updV, upd, vp_nar]
      try rfl
    · simp [updV, upd, hq]
  refine kk p e R s m args below meth c H' _ z0 lc X hR' (fun l hl => ?_) hlo a1 a2 a3 a4 a5 a6
  rcases List.mem_append.mp hl with hl | hl
  · exact hL l hl
  · rw [List.mem_singleton.mp hl]
    exact Nat.le_add_right _ _
theorem px_zast {a n : Nat} {f : Nat → Int32} {i x : Int32} (hd : decode (pm_cc M) pc = .ok (.bastore, 1)) (hp : pc + 1 = pc') (hc : h a = pm_ia 2 n f) (hin : vp_in i n) (kk : pm_W G M zm Φ pc' ls (st) z (pm_up h a (pm_ia 2 n (upd f i.toNatClampNeg (vp_nar .boolean x)))) g) : pm_W G M zm Φ pc ls (.int x :: .int i :: .ref a :: st) z h g := by
  subst hp
  intro p e R s m args below meth c H locs z0 lc X hR hL hlo a1 a2 a3 a4 a5 a6
  have hat := hR.2.1 a
  rw [hc] at hat
  refine W.zast X.1 X.2.1 hat ((X.2.2.2.2.2.2.2.1.2.1 2 (by decide)).1 n (fun j => .int (f j))) (fun q => by cases q) (by rw [arrV_size]; exact hin) rfl rfl hd fun H' e1 e2 e3 => ?_
  have hR' : pm_R G z.2.2 (pm_up h a (pm_ia 2 n (upd f i.toNatClampNeg (vp_nar .boolean x)))) g H' := by
    refine hR.put e2 e3 ?_ (fun _ _ => rfl)
    show H'[pm_b G + a]? = some _
    rw [e1, arrV_store]
    congr 2
    funext q
    by_cases hq : q = i.toNatClampNeg
    · subst hq
      simp [updV, upd, vp_nar]
      try rfl
    · simp [updV, upd, hq]
  refine kk p e R s m args below meth c H' _ z0 lc X hR' (fun l hl => ?_) hlo a1 a2 a3 a4 a5 a6
  rcases List.mem_append.mp hl with hl | hl
  · exact hL l hl
  · rw [List.mem_singleton.mp hl]
    exact Nat.le_add_right _ _
theorem px_last {a n : Nat} {f : Nat → Int64} {i : Int32} {x : Int64} (hd : decode (pm_cc M) pc = .ok (.lastore, 1)) (hp : pc + 1 = pc') (hc : h a = pm_la n f) (hin : vp_in i n) (kk : pm_W G M zm Φ pc' ls (st) z (pm_up h a (pm_la n (vp_updL f i.toNatClampNeg x))) g) : pm_W G M zm Φ pc ls (.long x :: .int i :: .ref a :: st) z h g := by
  subst hp
  intro p e R s m args below meth c H locs z0 lc X hR hL hlo a1 a2 a3 a4 a5 a6
  have hat := hR.2.1 a
  rw [hc] at hat
  refine W.last X.1 X.2.1 hat ((X.2.2.2.2.2.2.2.1.2.1 3 (by decide)).1 n (fun j => .long (f j))) (fun q => by cases q) (by rw [arrV_size]; exact hin) rfl rfl hd fun H' e1 e2 e3 => ?_
  have hR' : pm_R G z.2.2 (pm_up h a (pm_la n (vp_updL f i.toNatClampNeg x))) g H' := by
    refine hR.put e2 e3 ?_ (fun _ _ => rfl)
    show H'[pm_b G + a]? = some _
    rw [e1, arrV_store]
    congr 2
    funext q
    by_cases hq : q = i.toNatClampNeg
    · subst hq
      simp [updV, vp_updL]
    · simp [updV, vp_updL, hq]
  refine kk p e R s m args below meth c H' _ z0 lc X hR' (fun l hl => ?_) hlo a1 a2 a3 a4 a5 a6
  rcases List.mem_append.mp hl with hl | hl
  · exact hL l hl
  · rw [List.mem_singleton.mp hl]
    exact Nat.le_add_right _ _
theorem px_aleni {a n kd : Nat} {f : Nat → Int32} (hk : kd < 4) (hd : decode (pm_cc M) pc = .ok (.arraylength, 1)) (hp : pc + 1 = pc') (hc : h a = pm_ia kd n f) (kk : pm_W G M zm Φ pc' ls (.int (Int32.ofNat n) :: st) z h g) : pm_W G M zm Φ pc ls (.ref a :: st) z h g := by
  subst hp
  intro p e R s m args below meth c H locs z0 lc X hR hL hlo a1 a2 a3 a4 a5 a6
  have hat := hR.2.1 a
  rw [hc] at hat
  exact W.alen (n := Int32.ofNat n) X.1 X.2.1 hat ((X.2.2.2.2.2.2.2.1.2.1 kd hk).1 n (fun j => .int (f j))) (by rw [arrV_size] <;> rfl) rfl rfl hd (kk p e R s m args below meth c H locs z0 lc X hR hL hlo a1 a2 a3 a4 a5 a6)
theorem px_slen {a : Nat} (hd : decode (pm_cc M) pc = .ok (.arraylength, 1)) (hp : pc + 1 = pc') (kk : pm_W G M zm Φ pc' ls (.int (Int32.ofNat (pm_L G)) :: st) z h g) : pm_W G M zm Φ pc ls (.retAddr a :: st) z h g := by
  subst hp
  intro p e R s m args below meth c H locs z0 lc X hR hL hlo a1 a2 a3 a4 a5 a6
  obtain ⟨⟨scr, h1, h2, h3, h4, h5⟩, hlt, -⟩ := X.2.2.2.2.2.2.2.1.2.2.2.2
  exact W.alen (n := Int32.ofNat (pm_L G)) X.1 X.2.1 (by rw [hR.2.2 _ hlt]; exact h1) h2 (by rw [h4] <;> rfl) rfl rfl hd (kk p e R s m args below meth c H locs z0 lc X hR hL hlo a1 a2 a3 a4 a5 a6)
theorem px_sld {a : Nat} {i : Int32} (hd : decode (pm_cc M) pc = .ok (.iaload, 1)) (hp : pc + 1 = pc') (hin : vp_in i (pm_L G)) (kk : pm_W G M zm Φ pc' ls (.int (pm_xs G i.toNatClampNeg) :: st) z h g) : pm_W G M zm Φ pc ls (.int i :: .retAddr a :: st) z h g := by
  subst hp
  intro p e R s m args below meth c H locs z0 lc X hR hL hlo a1 a2 a3 a4 a5 a6
  obtain ⟨⟨scr, h1, h2, h3, h4, h5⟩, hlt, -⟩ := X.2.2.2.2.2.2.2.1.2.2.2.2
  have hl : i.toNatClampNeg < pm_L G := Nat.not_le.mp fun q => hin (Or.inr q)
  exact W.iald (v := .int (pm_xs G i.toNatClampNeg)) X.1 X.2.1 (by rw [hR.2.2 _ hlt]; exact h1) h2 h3 (by rw [h4]; exact hin) (h5 _ hl) rfl rfl hd (kk p e R s m args below meth c H locs z0 lc X hR hL hlo a1 a2 a3 a4 a5 a6)
theorem px_newi {n : Int32} {N : Nat} (hw : Jvm.Cond.arrayClass .int ∈ pm_T) (hd : decode (pm_cc M) pc = .ok (.newarray .int, 2)) (hp : pc + 2 = pc') (hn : ¬ n < 0) (hN : n.toNatClampNeg = N) (hbytes : N * 8 ≤ 536870912) (hz1 : z.1 + 1 ≤ zm.1) (hz2 : z.2.1 + N ≤ zm.2.1) (kk : pm_W G M zm Φ pc' ls (.ref z.2.2 :: st) (z.1 + 1, z.2.1 + N, z.2.2 + 1) (pm_up h z.2.2 (pm_ia 0 N (fun _ => 0))) g) : pm_W G M zm Φ pc ls (.int n :: st) z h g := by
  subst hp
  intro p e R s m args below meth c H locs z0 lc X hR hL hlo a1 a2 a3 a4 a5 a6
  have hc := (X.2.2.2.2.2.2.2.1.2.1 0 (by decide)).2
  refine va_newaK X.1 X.2.1 (atype := .int) (X.2.2.2.2.2.2.2.1.2.2.1 _ hw args) rfl hd rfl hn hN (Nat.le_trans (Nat.mul_le_mul (Nat.le_refl N) (by decide)) hbytes) (by omega) (by omega) hR.1 fun H' cA e1 e2 e3 hA hf => ?_
  cases Option.some.inj (hf.symm.trans hc)
  have hR' : pm_R G (z.2.2 + 1) (pm_up h z.2.2 (pm_ia 0 N (fun _ => 0))) g H' := hR.mk (by rw [e2, hR.1]) (fun q hq => e3 q (by rw [← hR.1]; exact hq)) e1 (fun _ _ => rfl)
  have w := kk p e R s m args below meth c H' locs z0 lc X hR' hL hlo (by show z0.1 ≤ z.1 + 1; omega) (by show z0.2.1 ≤ z.2.1 + N; omega) hz1 hz2 a5 a6
  rw [show z.1 - z0.1 + 1 = z.1 + 1 - z0.1 by omega, show z.2.1 - z0.2.1 + N = z.2.1 + N - z0.2.1 by omega]
  exact w
theorem px_newb {n : Int32} {N : Nat} (hw : Jvm.Cond.arrayClass .byte ∈ pm_T) (hd : decode (pm_cc M) pc = .ok (.newarray .byte, 2)) (hp : pc + 2 = pc') (hn : ¬ n < 0) (hN : n.toNatClampNeg = N) (hbytes : N * 8 ≤ 536870912) (hz1 : z.1 + 1 ≤ zm.1) (hz2 : z.2.1 + N ≤ zm.2.1) (kk : pm_W G M zm Φ pc' ls (.ref z.2.2 :: st) (z.1 + 1, z.2.1 + N, z.2.2 + 1) (pm_up h z.2.2 (pm_ia 1 N (fun _ => 0))) g) : pm_W G M zm Φ pc ls (.int n :: st) z h g := by
  subst hp
  intro p e R s m args below meth c H locs z0 lc X hR hL hlo a1 a2 a3 a4 a5 a6
  have hc := (X.2.2.2.2.2.2.2.1.2.1 1 (by decide)).2
  refine va_newaK X.1 X.2.1 (atype := .byte) (X.2.2.2.2.2.2.2.1.2.2.1 _ hw args) rfl hd rfl hn hN (Nat.le_trans (Nat.mul_le_mul (Nat.le_refl N) (by decide)) hbytes) (by omega) (by omega) hR.1 fun H' cA e1 e2 e3 hA hf => ?_
  cases Option.some.inj (hf.symm.trans hc)
  have hR' : pm_R G (z.2.2 + 1) (pm_up h z.2.2 (pm_ia 1 N (fun _ => 0))) g H' := hR.mk (by rw [e2, hR.1]) (fun q hq => e3 q (by rw [← hR.1]; exact hq)) e1 (fun _ _ => rfl)
  have w := kk p e R s m args below meth c H' locs z0 lc X hR' hL hlo (by show z0.1 ≤ z.1 + 1; omega) (by show z0.2.1 ≤ z.2.1 + N; omega) hz1 hz2 a5 a6
  rw [show z.1 - z0.1 + 1 = z.1 + 1 - z0.1 by omega, show z.2.1 - z0.2.1 + N = z.2.1 + N - z0.2.1 by omega]
  exact w
theorem px_newz {n : Int32} {N : Nat} (hw : Jvm.Cond.arrayClass .boolean ∈ pm_T) (hd : decode (pm_cc M) pc = .ok (.newarray .boolean, 2)) (hp : pc + 2 = pc') (hn : ¬ n < 0) (hN : n.toNatClampNeg = N) (hbytes : N * 8 ≤ 536870912) (hz1 : z.1 + 1 ≤ zm.1) (hz2 : z.2.1 + N ≤ zm.2.1) (kk : pm_W G M zm Φ pc' ls (.ref z.2.2 :: st) (z.1 + 1, z.2.1 + N, z.2.2 + 1) (pm_up h z.2.2 (pm_ia 2 N (fun _ => 0))) g) : pm_W G M zm Φ pc ls (.int n :: st) z h g := by
  subst hp
  intro p e R s m args below meth c H locs z0 lc X hR hL hlo a1 a2 a3 a4 a5 a6
  have hc := (X.2.2.2.2.2.2.2.1.2.1 2 (by decide)).2
  refine va_newaK X.1 X.2.1 (atype := .boolean) (X.2.2.2.2.2.2.2.1.2.2.1 _ hw args) rfl hd rfl hn hN (Nat.le_trans (Nat.mul_le_mul (Nat.le_refl N) (by decide)) hbytes) (by omega) (by omega) hR.1 fun H' cA e1 e2 e3 hA hf => ?_
  cases Option.some.inj (hf.symm.trans hc)
  have hR' : pm_R G (z.2.2 + 1) (pm_up h z.2.2 (pm_ia 2 N (fun _ => 0))) g H' := hR.mk (by rw [e2, hR.1]) (fun q hq => e3 q (by rw [← hR.1]; exact hq)) e1 (fun _ _ => rfl)
  have w := kk p e R s m args below meth c H' locs z0 lc X hR' hL hlo (by show z0.1 ≤ z.1 + 1; omega) (by show z0.2.1 ≤ z.2.1 + N; omega) hz1 hz2 a5 a6
  rw [show z.1 - z0.1 + 1 = z.1 + 1 - z0.1 by omega, show z.2.1 - z0.2.1 + N = z.2.1 + N - z0.2.1 by omega]
  exact w
theorem px_newl {n : Int32} {N : Nat} (hw : Jvm.Cond.arrayClass .long ∈ pm_T) (hd : decode (pm_cc M) pc = .ok (.newarray .long, 2)) (hp : pc + 2 = pc') (hn : ¬ n < 0) (hN : n.toNatClampNeg = N) (hbytes : N * 8 ≤ 536870912) (hz1 : z.1 + 1 ≤ zm.1) (hz2 : z.2.1 + N ≤ zm.2.1) (kk : pm_W G M zm Φ pc' ls (.ref z.2.2 :: st) (z.1 + 1, z.2.1 + N, z.2.2 + 1) (pm_up h z.2.2 (pm_la N (fun _ => 0))) g) : pm_W G M zm Φ pc ls (.int n :: st) z h g := by
  subst hp
  intro p e R s m args below meth c H locs z0 lc X hR hL hlo a1 a2 a3 a4 a5 a6
  have hc := (X.2.2.2.2.2.2.2.1.2.1 3 (by decide)).2
  refine va_newaK X.1 X.2.1 (atype := .long) (X.2.2.2.2.2.2.2.1.2.2.1 _ hw args) rfl hd rfl hn hN (Nat.le_trans (Nat.mul_le_mul (Nat.le_refl N) (by decide)) hbytes) (by omega) (by omega) hR.1 fun H' cA e1 e2 e3 hA hf => ?_
  cases Option.some.inj (hf.symm.trans hc)
  have hR' : pm_R G (z.2.2 + 1) (pm_up h z.2.2 (pm_la N (fun _ => 0))) g H' := hR.mk (by rw [e2, hR.1]) (fun q hq => e3 q (by rw [← hR.1]; exact hq)) e1 (fun _ _ => rfl)
  have w := kk p e R s m args below meth c H' locs z0 lc X hR' hL hlo (by show z0.1 ≤ z.1 + 1; omega) (by show z0.2.1 ≤ z.2.1 + N; omega) hz1 hz2 a5 a6
  rw [show z.1 - z0.1 + 1 = z.1 + 1 - z0.1 by omega, show z.2.1 - z0.2.1 + N = z.2.1 + N - z0.2.1 by omega]
  exact w
theorem px_new {index ci n : Nat} {d : Nat → Value} (hf : pm_nw (pm_y M).cls index ci n d) (hd : decode (pm_cc M) pc = .ok (.new index, 3)) (hp : pc + 3 = pc') (hz1 : z.1 + 1 ≤ zm.1) (hz2 : z.2.1 + n ≤ zm.2.1) (kk : pm_W G M zm Φ pc' ls (.ref z.2.2 :: st) (z.1 + 1, z.2.1 + n, z.2.2 + 1) (pm_up h z.2.2 (pm_ob ci)) (pm_nf g z.2.2 d)) : pm_W G M zm Φ pc ls (st) z h g := by
  subst hp
  obtain ⟨q, ty, hq, hn, hcl, hin, hini, hty, hdf⟩ := hf
  subst hn
  intro p e R s m args below meth c H locs z0 lc X hR hL hlo a1 a2 a3 a4 a5 a6
  obtain ⟨hx, hb, hml, hrt, hlk0, hnm, hown, hK, hfr, hlr, htb⟩ := id X
  have hKn := hK.1 ci _ hq
  have hts : ∀ w ∈ pm_T, w.before args s = true := fun w hw => hK.2.2.1 w hw args
  refine W.newcK hx hb hown (hts _ hcl) (hts _ hin) (hts _ hini) rfl hd (by omega) (by omega) hKn.2.1 hR.1 fun H' kC hkC e1 e2 e3 => ?_
  have hR' : pm_R G (z.2.2 + 1) (pm_up h z.2.2 (pm_ob ci)) (pm_nf g z.2.2 d) H' := by
    refine hR.mk (by rw [e2, hR.1]) (fun q hq => e3 q (by rw [← hR.1]; exact hq)) ⟨_, hq, (u_born ty hts (pm_cls hq).1 hKn hkC e1 hty).to (fun j hj => ?_)⟩ (fun _ hb => pm_nf_a hb)
    rw [pm_nf_s, hdf j hj, pm_tr_df]
  have w := kk p e R s m args below meth c H' locs z0 lc X hR' hL hlo (by show z0.1 ≤ z.1 + 1; omega) (by show z0.2.1 ≤ z.2.1 + q.2.2; omega) hz1 hz2 a5 a6
  rw [show z.1 - z0.1 + 1 = z.1 + 1 - z0.1 by omega, show z.2.1 - z0.2.1 + q.2.2 = z.2.1 + q.2.2 - z0.2.1 by omega]
  exact w
theorem px_oi {index a : Nat} (hl : Jvm.Cond.methodLink (pm_y M).cls index Lib.objectInit ∈ pm_T) (hi : Jvm.Cond.instanceMethod Lib.objectInit ∈ pm_T) (hcd : Jvm.Cond.code Lib.objectInit ⟨#[0xb1]⟩ 1 none ∈ pm_T) (hd : decode (pm_cc M) pc = .ok (.invokespecial index, 3)) (hp : pc + 3 = pc') (h1 : 1 ≤ pm_fr M) (h2 : (st.map fun v => v.category).sum + 12 ≤ pm_lr M) (kk : pm_W G M zm Φ pc' ls (st) z h g) : pm_W G M zm Φ pc ls (.ref a :: st) z h g := by
  subst hp
  intro p e R s m args below meth c H locs z0 lc X hR hL hlo a1 a2 a3 a4 a5 a6
  obtain ⟨hx, hb, hml, hrt, hlk0, hnm, hown, hK, hfr, hlr, htb⟩ := id X
  have hts : ∀ w ∈ pm_T, w.before args s = true := fun w hw => hK.2.2.1 w hw args
  refine W.objInit hx hb hown (hts _ hl) (hts _ hi) (hts _ hcd) rfl (by show lc.size = _; rw [hlo.1, hml]) rfl hd (by rw [hfr]; exact h1) ?_ (kk p e R s m args below meth c H locs z0 lc X hR hL hlo a1 a2 a3 a4 a5 a6)
  show 2 * 0 + ((st.map (pm_tr G)).map fun v => v.category).sum + 12 ≤ R.locals
  rw [pm_tr_cats, hlr]
  omega
theorem px_mmax {index : Nat} {x y : Int32} (hl : Jvm.Cond.methodLink (pm_y M).cls index Lib.Math.max.name ∈ pm_T) (hs : Jvm.Cond.static Lib.Math.max.name ∈ pm_T) (hi : Jvm.Cond.initialized "java/lang/Math" ∈ pm_T) (hcd : Jvm.Cond.code Lib.Math.max.name Lib.Math.max.code 2 (some .int) ∈ pm_T) (hd : decode (pm_cc M) pc = .ok (.invokestatic index, 3)) (hp : pc + 3 = pc') (h1 : 1 ≤ pm_fr M) (h2 : (st.map fun v => v.category).sum + 13 ≤ pm_lr M) (kk : pm_W G M zm Φ pc' ls (.int (if x < y then y else x) :: st) z h g) : pm_W G M zm Φ pc ls (.int y :: .int x :: st) z h g := by
  subst hp
  intro p e R s m args below meth c H locs z0 lc X hR hL hlo a1 a2 a3 a4 a5 a6
  obtain ⟨hx, hb, hml, hrt, hlk0, hnm, hown, hK, hfr, hlr, htb⟩ := id X
  have hts : ∀ w ∈ pm_T, w.before args s = true := fun w hw => hK.2.2.1 w hw args
  have w := kk p e R s m args below meth c H locs z0 lc X hR hL hlo a1 a2 a3 a4 a5 a6
  refine va_mmax hx hb (by rw [hlo.1, hml]) hown (hts _ hl) (hts _ hs) (hts _ hi) (hts _ hcd) (by rw [hfr]; exact h1) (by rw [pm_tr_cats, hlr]; omega) (by omega) (by omega) hd w
theorem px_mmin {index : Nat} {x y : Int32} (hl : Jvm.Cond.methodLink (pm_y M).cls index Lib.Math.min.name ∈ pm_T) (hs : Jvm.Cond.static Lib.Math.min.name ∈ pm_T) (hi : Jvm.Cond.initialized "java/lang/Math" ∈ pm_T) (hcd : Jvm.Cond.code Lib.Math.min.name Lib.Math.min.code 2 (some .int) ∈ pm_T) (hd : decode (pm_cc M) pc = .ok (.invokestatic index, 3)) (hp : pc + 3 = pc') (h1 : 1 ≤ pm_fr M) (h2 : (st.map fun v => v.category).sum + 13 ≤ pm_lr M) (kk : pm_W G M zm Φ pc' ls (.int (if y < x then y else x) :: st) z h g) : pm_W G M zm Φ pc ls (.int y :: .int x :: st) z h g := by
  subst hp
  intro p e R s m args below meth c H locs z0 lc X hR hL hlo a1 a2 a3 a4 a5 a6
  obtain ⟨hx, hb, hml, hrt, hlk0, hnm, hown, hK, hfr, hlr, htb⟩ := id X
  have hts : ∀ w ∈ pm_T, w.before args s = true := fun w hw => hK.2.2.1 w hw args
  have w := kk p e R s m args below meth c H locs z0 lc X hR hL hlo a1 a2 a3 a4 a5 a6
  refine va_mmin hx hb (by rw [hlo.1, hml]) hown (hts _ hl) (hts _ hs) (hts _ hi) (hts _ hcd) (by rw [hfr]; exact h1) (by rw [pm_tr_cats, hlr]; omega) (by omega) (by omega) hd w
theorem px_mabs {index : Nat} {x : Int32} (hl : Jvm.Cond.methodLink (pm_y M).cls index Lib.Math.abs.name ∈ pm_T) (hs : Jvm.Cond.static Lib.Math.abs.name ∈ pm_T) (hi : Jvm.Cond.initialized "java/lang/Math" ∈ pm_T) (hcd : Jvm.Cond.code Lib.Math.abs.name Lib.Math.abs.code 1 (some .int) ∈ pm_T) (hd : decode (pm_cc M) pc = .ok (.invokestatic index, 3)) (hp : pc + 3 = pc') (h1 : 1 ≤ pm_fr M) (h2 : (st.map fun v => v.category).sum + 13 ≤ pm_lr M) (kk : pm_W G M zm Φ pc' ls (.int (if 0 ≤ x then x else 0 - x) :: st) z h g) : pm_W G M zm Φ pc ls (.int x :: st) z h g := by
  subst hp
  intro p e R s m args below meth c H locs z0 lc X hR hL hlo a1 a2 a3 a4 a5 a6
  obtain ⟨hx, hb, hml, hrt, hlk0, hnm, hown, hK, hfr, hlr, htb⟩ := id X
  have hts : ∀ w ∈ pm_T, w.before args s = true := fun w hw => hK.2.2.1 w hw args
  have w := kk p e R s m args below meth c H locs z0 lc X hR hL hlo a1 a2 a3 a4 a5 a6
  refine va_mabs hx hb (by rw [hlo.1, hml]) hown (hts _ hl) (hts _ hs) (hts _ hi) (hts _ hcd) (by rw [hfr]; exact h1) (by rw [pm_tr_cats, hlr]; omega) (by omega) (by omega) hd w
end PH
-- words
theorem wd_arr_i : Jvm.Cond.arrayClass .int ∈ pm_T := pm_inT 88 (by decide +kernel) (by decide +kernel)
theorem wd_arr_b : Jvm.Cond.arrayClass .byte ∈ pm_T := pm_inT 71 (by decide +kernel) (by decide +kernel)
theorem wd_arr_z : Jvm.Cond.arrayClass .boolean ∈ pm_T := pm_inT 877 (by decide +kernel) (by decide +kernel)
theorem wd_arr_l : Jvm.Cond.arrayClass .long ∈ pm_T := pm_inT 183 (by decide +kernel) (by decide +kernel)
theorem fl_6_9 : pm_fl RX6 9 6 0 := ⟨_, rfl, by decide +kernel, pm_inT 64 (by decide +kernel) (by decide +kernel)⟩
theorem ff_6_9 : pm_ff RX6 9 6 0 := ⟨_, rfl, by decide +kernel, pm_inT 64 (by decide +kernel) (by decide +kernel), ⟨_, tyX6_ok 0 (by decide), fun _ => ⟨rfl, rfl⟩⟩, rfl, rfl⟩
theorem fl_6_15 : pm_fl RX6 15 6 1 := ⟨_, rfl, by decide +kernel, pm_inT 65 (by decide +kernel) (by decide +kernel)⟩
theorem fi_6_15 : pm_fi RX6 15 6 1 := ⟨_, rfl, by decide +kernel, pm_inT 65 (by decide +kernel) (by decide +kernel), rfl, rfl⟩
theorem fl_3_9 : pm_fl RX3 9 3 0 := ⟨_, rfl, by decide +kernel, pm_inT 78 (by decide +kernel) (by decide +kernel)⟩
theorem ff_3_9 : pm_ff RX3 9 3 0 := ⟨_, rfl, by decide +kernel, pm_inT 78 (by decide +kernel) (by decide +kernel), ⟨_, tyX3_ok 0 (by decide), fun _ => ⟨rfl, rfl⟩⟩, rfl, rfl⟩
theorem fl_3_15 : pm_fl RX3 15 3 1 := ⟨_, rfl, by decide +kernel, pm_inT 79 (by decide +kernel) (by decide +kernel)⟩
theorem fi_3_15 : pm_fi RX3 15 3 1 := ⟨_, rfl, by decide +kernel, pm_inT 79 (by decide +kernel) (by decide +kernel), rfl, rfl⟩
theorem fl_3_19 : pm_fl RX3 19 3 2 := ⟨_, rfl, by decide +kernel, pm_inT 80 (by decide +kernel) (by decide +kernel)⟩
theorem fi_3_19 : pm_fi RX3 19 3 2 := ⟨_, rfl, by decide +kernel, pm_inT 80 (by decide +kernel) (by decide +kernel), rfl, rfl⟩
theorem fl_2_9 : pm_fl RX2 9 2 0 := ⟨_, rfl, by decide +kernel, pm_inT 95 (by decide +kernel) (by decide +kernel)⟩
theorem fi_2_9 : pm_fi RX2 9 2 0 := ⟨_, rfl, by decide +kernel, pm_inT 95 (by decide +kernel) (by decide +kernel), rfl, rfl⟩
theorem fl_2_15 : pm_fl RX2 15 2 1 := ⟨_, rfl, by decide +kernel, pm_inT 96 (by decide +kernel) (by decide +kernel)⟩
theorem fi_2_15 : pm_fi RX2 15 2 1 := ⟨_, rfl, by decide +kernel, pm_inT 96 (by decide +kernel) (by decide +kernel), rfl, rfl⟩
theorem fl_2_18 : pm_fl RX2 18 2 2 := ⟨_, rfl, by decide +kernel, pm_inT 97 (by decide +kernel) (by decide +kernel)⟩
theorem fi_2_18 : pm_fi RX2 18 2 2 := ⟨_, rfl, by decide +kernel, pm_inT 97 (by decide +kernel) (by decide +kernel), rfl, rfl⟩
theorem fl_5_9 : pm_fl RX5 9 5 0 := ⟨_, rfl, by decide +kernel, pm_inT 111 (by decide +kernel) (by decide +kernel)⟩
theorem ff_5_9 : pm_ff RX5 9 5 0 := ⟨_, rfl, by decide +kernel, pm_inT 111 (by decide +kernel) (by decide +kernel), ⟨_, tyX5_ok 0 (by decide), fun _ => ⟨rfl, rfl⟩⟩, rfl, rfl⟩
theorem fl_5_15 : pm_fl RX5 15 5 1 := ⟨_, rfl, by decide +kernel, pm_inT 112 (by decide +kernel) (by decide +kernel)⟩
theorem ff_5_15 : pm_ff RX5 15 5 1 := ⟨_, rfl, by decide +kernel, pm_inT 112 (by decide +kernel) (by decide +kernel), ⟨_, tyX5_ok 1 (by decide), fun _ => ⟨rfl, rfl⟩⟩, rfl, rfl⟩
theorem fl_5_18 : pm_fl RX5 18 5 2 := ⟨_, rfl, by decide +kernel, pm_inT 113 (by decide +kernel) (by decide +kernel)⟩
theorem ff_5_18 : pm_ff RX5 18 5 2 := ⟨_, rfl, by decide +kernel, pm_inT 113 (by decide +kernel) (by decide +kernel), ⟨_, tyX5_ok 2 (by decide), fun _ => ⟨rfl, rfl⟩⟩, rfl, rfl⟩
theorem fl_5_21 : pm_fl RX5 21 5 3 := ⟨_, rfl, by decide +kernel, pm_inT 114 (by decide +kernel) (by decide +kernel)⟩
theorem ff_5_21 : pm_ff RX5 21 5 3 := ⟨_, rfl, by decide +kernel, pm_inT 114 (by decide +kernel) (by decide +kernel), ⟨_, tyX5_ok 3 (by decide), fun _ => ⟨rfl, rfl⟩⟩, rfl, rfl⟩
theorem fl_5_24 : pm_fl RX5 24 5 4 := ⟨_, rfl, by decide +kernel, pm_inT 115 (by decide +kernel) (by decide +kernel)⟩
theorem fi_5_24 : pm_fi RX5 24 5 4 := ⟨_, rfl, by decide +kernel, pm_inT 115 (by decide +kernel) (by decide +kernel), rfl, rfl⟩
theorem fl_5_28 : pm_fl RX5 28 5 5 := ⟨_, rfl, by decide +kernel, pm_inT 116 (by decide +kernel) (by decide +kernel)⟩
theorem fi_5_28 : pm_fi RX5 28 5 5 := ⟨_, rfl, by decide +kernel, pm_inT 116 (by decide +kernel) (by decide +kernel), rfl, rfl⟩
theorem fl_5_31 : pm_fl RX5 31 5 6 := ⟨_, rfl, by decide +kernel, pm_inT 117 (by decide +kernel) (by decide +kernel)⟩
theorem fi_5_31 : pm_fi RX5 31 5 6 := ⟨_, rfl, by decide +kernel, pm_inT 117 (by decide +kernel) (by decide +kernel), rfl, rfl⟩
theorem fl_0_25 : pm_fl RX0 25 0 0 := ⟨_, rfl, by decide +kernel, pm_inT 139 (by decide +kernel) (by decide +kernel)⟩
theorem ff_0_25 : pm_ff RX0 25 0 0 := ⟨_, rfl, by decide +kernel, pm_inT 139 (by decide +kernel) (by decide +kernel), ⟨_, tyX0_ok 0 (by decide), fun _ => ⟨rfl, rfl⟩⟩, rfl, rfl⟩
theorem fl_0_29 : pm_fl RX0 29 0 1 := ⟨_, rfl, by decide +kernel, pm_inT 140 (by decide +kernel) (by decide +kernel)⟩
theorem ff_0_29 : pm_ff RX0 29 0 1 := ⟨_, rfl, by decide +kernel, pm_inT 140 (by decide +kernel) (by decide +kernel), ⟨_, tyX0_ok 1 (by decide), fun _ => ⟨rfl, rfl⟩⟩, rfl, rfl⟩
theorem fl_0_9 : pm_fl RX0 9 0 2 := ⟨_, rfl, by decide +kernel, pm_inT 141 (by decide +kernel) (by decide +kernel)⟩
theorem ff_0_9 : pm_ff RX0 9 0 2 := ⟨_, rfl, by decide +kernel, pm_inT 141 (by decide +kernel) (by decide +kernel), ⟨_, tyX0_ok 2 (by decide), fun _ => ⟨rfl, rfl⟩⟩, rfl, rfl⟩
theorem fl_0_15 : pm_fl RX0 15 0 3 := ⟨_, rfl, by decide +kernel, pm_inT 142 (by decide +kernel) (by decide +kernel)⟩
theorem ff_0_15 : pm_ff RX0 15 0 3 := ⟨_, rfl, by decide +kernel, pm_inT 142 (by decide +kernel) (by decide +kernel), ⟨_, tyX0_ok 3 (by decide), fun _ => ⟨rfl, rfl⟩⟩, rfl, rfl⟩
theorem fl_0_18 : pm_fl RX0 18 0 4 := ⟨_, rfl, by decide +kernel, pm_inT 143 (by decide +kernel) (by decide +kernel)⟩
theorem ff_0_18 : pm_ff RX0 18 0 4 := ⟨_, rfl, by decide +kernel, pm_inT 143 (by decide +kernel) (by decide +kernel), ⟨_, tyX0_ok 4 (by decide), fun _ => ⟨rfl, rfl⟩⟩, rfl, rfl⟩
theorem fl_0_21 : pm_fl RX0 21 0 5 := ⟨_, rfl, by decide +kernel, pm_inT 144 (by decide +kernel) (by decide +kernel)⟩
theorem fi_0_21 : pm_fi RX0 21 0 5 := ⟨_, rfl, by decide +kernel, pm_inT 144 (by decide +kernel) (by decide +kernel), rfl, rfl⟩
theorem fl_1_22 : pm_fl RX1 22 1 0 := ⟨_, rfl, by decide +kernel, pm_inT 164 (by decide +kernel) (by decide +kernel)⟩
theorem ff_1_22 : pm_ff RX1 22 1 0 := ⟨_, rfl, by decide +kernel, pm_inT 164 (by decide +kernel) (by decide +kernel), ⟨_, tyX1_ok 0 (by decide), fun _ => ⟨rfl, rfl⟩⟩, rfl, rfl⟩
theorem fl_1_26 : pm_fl RX1 26 1 1 := ⟨_, rfl, by decide +kernel, pm_inT 165 (by decide +kernel) (by decide +kernel)⟩
theorem ff_1_26 : pm_ff RX1 26 1 1 := ⟨_, rfl, by decide +kernel, pm_inT 165 (by decide +kernel) (by decide +kernel), ⟨_, tyX1_ok 1 (by decide), fun _ => ⟨rfl, rfl⟩⟩, rfl, rfl⟩
theorem fl_1_30 : pm_fl RX1 30 1 2 := ⟨_, rfl, by decide +kernel, pm_inT 166 (by decide +kernel) (by decide +kernel)⟩
theorem ff_1_30 : pm_ff RX1 30 1 2 := ⟨_, rfl, by decide +kernel, pm_inT 166 (by decide +kernel) (by decide +kernel), ⟨_, tyX1_ok 2 (by decide), fun _ => ⟨rfl, rfl⟩⟩, rfl, rfl⟩
theorem fl_1_9 : pm_fl RX1 9 1 3 := ⟨_, rfl, by decide +kernel, pm_inT 167 (by decide +kernel) (by decide +kernel)⟩
theorem ff_1_9 : pm_ff RX1 9 1 3 := ⟨_, rfl, by decide +kernel, pm_inT 167 (by decide +kernel) (by decide +kernel), ⟨_, tyX1_ok 3 (by decide), fun _ => ⟨rfl, rfl⟩⟩, rfl, rfl⟩
theorem fl_1_15 : pm_fl RX1 15 1 4 := ⟨_, rfl, by decide +kernel, pm_inT 168 (by decide +kernel) (by decide +kernel)⟩
theorem ff_1_15 : pm_ff RX1 15 1 4 := ⟨_, rfl, by decide +kernel, pm_inT 168 (by decide +kernel) (by decide +kernel), ⟨_, tyX1_ok 4 (by decide), fun _ => ⟨rfl, rfl⟩⟩, rfl, rfl⟩
theorem fl_1_18 : pm_fl RX1 18 1 5 := ⟨_, rfl, by decide +kernel, pm_inT 169 (by decide +kernel) (by decide +kernel)⟩
theorem fi_1_18 : pm_fi RX1 18 1 5 := ⟨_, rfl, by decide +kernel, pm_inT 169 (by decide +kernel) (by decide +kernel), rfl, rfl⟩
theorem fl_4_35 : pm_fl RX4 35 4 0 := ⟨_, rfl, by decide +kernel, pm_inT 190 (by decide +kernel) (by decide +kernel)⟩
theorem ff_4_35 : pm_ff RX4 35 4 0 := ⟨_, rfl, by decide +kernel, pm_inT 190 (by decide +kernel) (by decide +kernel), ⟨_, tyX4_ok 0 (by decide), fun _ => ⟨rfl, rfl⟩⟩, rfl, rfl⟩
theorem fl_4_39 : pm_fl RX4 39 4 1 := ⟨_, rfl, by decide +kernel, pm_inT 191 (by decide +kernel) (by decide +kernel)⟩
theorem ff_4_39 : pm_ff RX4 39 4 1 := ⟨_, rfl, by decide +kernel, pm_inT 191 (by decide +kernel) (by decide +kernel), ⟨_, tyX4_ok 1 (by decide), fun _ => ⟨rfl, rfl⟩⟩, rfl, rfl⟩
theorem fl_4_43 : pm_fl RX4 43 4 2 := ⟨_, rfl, by decide +kernel, pm_inT 192 (by decide +kernel) (by decide +kernel)⟩
theorem ff_4_43 : pm_ff RX4 43 4 2 := ⟨_, rfl, by decide +kernel, pm_inT 192 (by decide +kernel) (by decide +kernel), ⟨_, tyX4_ok 2 (by decide), fun _ => ⟨rfl, rfl⟩⟩, rfl, rfl⟩
theorem fl_4_9 : pm_fl RX4 9 4 3 := ⟨_, rfl, by decide +kernel, pm_inT 193 (by decide +kernel) (by decide +kernel)⟩
theorem ff_4_9 : pm_ff RX4 9 4 3 := ⟨_, rfl, by decide +kernel, pm_inT 193 (by decide +kernel) (by decide +kernel), ⟨_, tyX4_ok 3 (by decide), fun _ => ⟨rfl, rfl⟩⟩, rfl, rfl⟩
theorem fl_4_15 : pm_fl RX4 15 4 4 := ⟨_, rfl, by decide +kernel, pm_inT 194 (by decide +kernel) (by decide +kernel)⟩
theorem ff_4_15 : pm_ff RX4 15 4 4 := ⟨_, rfl, by decide +kernel, pm_inT 194 (by decide +kernel) (by decide +kernel), ⟨_, tyX4_ok 4 (by decide), fun _ => ⟨rfl, rfl⟩⟩, rfl, rfl⟩
theorem fl_4_19 : pm_fl RX4 19 4 5 := ⟨_, rfl, by decide +kernel, pm_inT 195 (by decide +kernel) (by decide +kernel)⟩
theorem ff_4_19 : pm_ff RX4 19 4 5 := ⟨_, rfl, by decide +kernel, pm_inT 195 (by decide +kernel) (by decide +kernel), ⟨_, tyX4_ok 5 (by decide), fun _ => ⟨rfl, rfl⟩⟩, rfl, rfl⟩
theorem fl_4_22 : pm_fl RX4 22 4 6 := ⟨_, rfl, by decide +kernel, pm_inT 196 (by decide +kernel) (by decide +kernel)⟩
theorem ff_4_22 : pm_ff RX4 22 4 6 := ⟨_, rfl, by decide +kernel, pm_inT 196 (by decide +kernel) (by decide +kernel), ⟨_, tyX4_ok 6 (by decide), fun _ => ⟨rfl, rfl⟩⟩, rfl, rfl⟩
theorem fl_4_25 : pm_fl RX4 25 4 7 := ⟨_, rfl, by decide +kernel, pm_inT 197 (by decide +kernel) (by decide +kernel)⟩
theorem ff_4_25 : pm_ff RX4 25 4 7 := ⟨_, rfl, by decide +kernel, pm_inT 197 (by decide +kernel) (by decide +kernel), ⟨_, tyX4_ok 7 (by decide), fun _ => ⟨rfl, rfl⟩⟩, rfl, rfl⟩
theorem fl_4_28 : pm_fl RX4 28 4 8 := ⟨_, rfl, by decide +kernel, pm_inT 198 (by decide +kernel) (by decide +kernel)⟩
theorem ff_4_28 : pm_ff RX4 28 4 8 := ⟨_, rfl, by decide +kernel, pm_inT 198 (by decide +kernel) (by decide +kernel), ⟨_, tyX4_ok 8 (by decide), fun _ => ⟨rfl, rfl⟩⟩, rfl, rfl⟩
theorem fl_4_31 : pm_fl RX4 31 4 9 := ⟨_, rfl, by decide +kernel, pm_inT 199 (by decide +kernel) (by decide +kernel)⟩
theorem fi_4_31 : pm_fi RX4 31 4 9 := ⟨_, rfl, by decide +kernel, pm_inT 199 (by decide +kernel) (by decide +kernel), rfl, rfl⟩
theorem fl_7_37 : pm_fl RX7 37 7 0 := ⟨_, rfl, by decide +kernel, pm_inT 227 (by decide +kernel) (by decide +kernel)⟩
theorem ff_7_37 : pm_ff RX7 37 7 0 := ⟨_, rfl, by decide +kernel, pm_inT 227 (by decide +kernel) (by decide +kernel), ⟨_, tyX7_ok 0 (by decide), fun _ => ⟨rfl, rfl⟩⟩, rfl, rfl⟩
theorem fl_7_41 : pm_fl RX7 41 7 1 := ⟨_, rfl, by decide +kernel, pm_inT 228 (by decide +kernel) (by decide +kernel)⟩
theorem ff_7_41 : pm_ff RX7 41 7 1 := ⟨_, rfl, by decide +kernel, pm_inT 228 (by decide +kernel) (by decide +kernel), ⟨_, tyX7_ok 1 (by decide), fun _ => ⟨rfl, rfl⟩⟩, rfl, rfl⟩
theorem fl_7_45 : pm_fl RX7 45 7 2 := ⟨_, rfl, by decide +kernel, pm_inT 229 (by decide +kernel) (by decide +kernel)⟩
theorem ff_7_45 : pm_ff RX7 45 7 2 := ⟨_, rfl, by decide +kernel, pm_inT 229 (by decide +kernel) (by decide +kernel), ⟨_, tyX7_ok 2 (by decide), fun _ => ⟨rfl, rfl⟩⟩, rfl, rfl⟩
theorem fl_7_9 : pm_fl RX7 9 7 3 := ⟨_, rfl, by decide +kernel, pm_inT 230 (by decide +kernel) (by decide +kernel)⟩
theorem ff_7_9 : pm_ff RX7 9 7 3 := ⟨_, rfl, by decide +kernel, pm_inT 230 (by decide +kernel) (by decide +kernel), ⟨_, tyX7_ok 3 (by decide), fun _ => ⟨rfl, rfl⟩⟩, rfl, rfl⟩
theorem fl_7_15 : pm_fl RX7 15 7 4 := ⟨_, rfl, by decide +kernel, pm_inT 231 (by decide +kernel) (by decide +kernel)⟩
theorem ff_7_15 : pm_ff RX7 15 7 4 := ⟨_, rfl, by decide +kernel, pm_inT 231 (by decide +kernel) (by decide +kernel), ⟨_, tyX7_ok 4 (by decide), fun _ => ⟨rfl, rfl⟩⟩, rfl, rfl⟩
theorem fl_7_18 : pm_fl RX7 18 7 5 := ⟨_, rfl, by decide +kernel, pm_inT 232 (by decide +kernel) (by decide +kernel)⟩
theorem fi_7_18 : pm_fi RX7 18 7 5 := ⟨_, rfl, by decide +kernel, pm_inT 232 (by decide +kernel) (by decide +kernel), rfl, rfl⟩
theorem fl_7_22 : pm_fl RX7 22 7 6 := ⟨_, rfl, by decide +kernel, pm_inT 233 (by decide +kernel) (by decide +kernel)⟩
theorem ff_7_22 : pm_ff RX7 22 7 6 := ⟨_, rfl, by decide +kernel, pm_inT 233 (by decide +kernel) (by decide +kernel), ⟨_, tyX7_ok 6 (by decide), fun _ => ⟨rfl, rfl⟩⟩, rfl, rfl⟩
theorem fl_7_25 : pm_fl RX7 25 7 7 := ⟨_, rfl, by decide +kernel, pm_inT 234 (by decide +kernel) (by decide +kernel)⟩
theorem fi_7_25 : pm_fi RX7 25 7 7 := ⟨_, rfl, by decide +kernel, pm_inT 234 (by decide +kernel) (by decide +kernel), rfl, rfl⟩
theorem fl_7_28 : pm_fl RX7 28 7 8 := ⟨_, rfl, by decide +kernel, pm_inT 235 (by decide +kernel) (by decide +kernel)⟩
theorem ff_7_28 : pm_ff RX7 28 7 8 := ⟨_, rfl, by decide +kernel, pm_inT 235 (by decide +kernel) (by decide +kernel), ⟨_, tyX7_ok 8 (by decide), fun _ => ⟨rfl, rfl⟩⟩, rfl, rfl⟩
theorem fl_7_31 : pm_fl RX7 31 7 9 := ⟨_, rfl, by decide +kernel, pm_inT 236 (by decide +kernel) (by decide +kernel)⟩
theorem fi_7_31 : pm_fi RX7 31 7 9 := ⟨_, rfl, by decide +kernel, pm_inT 236 (by decide +kernel) (by decide +kernel), rfl, rfl⟩
theorem fl_7_34 : pm_fl RX7 34 7 10 := ⟨_, rfl, by decide +kernel, pm_inT 237 (by decide +kernel) (by decide +kernel)⟩
theorem fi_7_34 : pm_fi RX7 34 7 10 := ⟨_, rfl, by decide +kernel, pm_inT 237 (by decide +kernel) (by decide +kernel), rfl, rfl⟩
theorem fl_8_10 : pm_fl RX8 10 8 0 := ⟨_, rfl, by decide +kernel, pm_inT 277 (by decide +kernel) (by decide +kernel)⟩
theorem ff_8_10 : pm_ff RX8 10 8 0 := ⟨_, rfl, by decide +kernel, pm_inT 277 (by decide +kernel) (by decide +kernel), ⟨_, tyX8_ok 0 (by decide), fun _ => ⟨rfl, rfl⟩⟩, rfl, rfl⟩
theorem fl_8_19 : pm_fl RX8 19 8 1 := ⟨_, rfl, by decide +kernel, pm_inT 278 (by decide +kernel) (by decide +kernel)⟩
theorem ff_8_19 : pm_ff RX8 19 8 1 := ⟨_, rfl, by decide +kernel, pm_inT 278 (by decide +kernel) (by decide +kernel), ⟨_, tyX8_ok 1 (by decide), fun _ => ⟨rfl, rfl⟩⟩, rfl, rfl⟩
theorem fl_8_26 : pm_fl RX8 26 8 2 := ⟨_, rfl, by decide +kernel, pm_inT 279 (by decide +kernel) (by decide +kernel)⟩
theorem ff_8_26 : pm_ff RX8 26 8 2 := ⟨_, rfl, by decide +kernel, pm_inT 279 (by decide +kernel) (by decide +kernel), ⟨_, tyX8_ok 2 (by decide), fun _ => ⟨rfl, rfl⟩⟩, rfl, rfl⟩
theorem fl_8_42 : pm_fl RX8 42 8 3 := ⟨_, rfl, by decide +kernel, pm_inT 280 (by decide +kernel) (by decide +kernel)⟩
theorem ff_8_42 : pm_ff RX8 42 8 3 := ⟨_, rfl, by decide +kernel, pm_inT 280 (by decide +kernel) (by decide +kernel), ⟨_, tyX8_ok 3 (by decide), fun _ => ⟨rfl, rfl⟩⟩, rfl, rfl⟩
theorem fl_8_33 : pm_fl RX8 33 8 4 := ⟨_, rfl, by decide +kernel, pm_inT 281 (by decide +kernel) (by decide +kernel)⟩
theorem ff_8_33 : pm_ff RX8 33 8 4 := ⟨_, rfl, by decide +kernel, pm_inT 281 (by decide +kernel) (by decide +kernel), ⟨_, tyX8_ok 4 (by decide), fun _ => ⟨rfl, rfl⟩⟩, rfl, rfl⟩
theorem fl_8_51 : pm_fl RX8 51 8 5 := ⟨_, rfl, by decide +kernel, pm_inT 282 (by decide +kernel) (by decide +kernel)⟩
theorem ff_8_51 : pm_ff RX8 51 8 5 := ⟨_, rfl, by decide +kernel, pm_inT 282 (by decide +kernel) (by decide +kernel), ⟨_, tyX8_ok 5 (by decide), fun _ => ⟨rfl, rfl⟩⟩, rfl, rfl⟩
theorem fl_8_58 : pm_fl RX8 58 8 6 := ⟨_, rfl, by decide +kernel, pm_inT 283 (by decide +kernel) (by decide +kernel)⟩
theorem ff_8_58 : pm_ff RX8 58 8 6 := ⟨_, rfl, by decide +kernel, pm_inT 283 (by decide +kernel) (by decide +kernel), ⟨_, tyX8_ok 6 (by decide), fun _ => ⟨rfl, rfl⟩⟩, rfl, rfl⟩
theorem fl_8_67 : pm_fl RX8 67 8 7 := ⟨_, rfl, by decide +kernel, pm_inT 284 (by decide +kernel) (by decide +kernel)⟩
theorem ff_8_67 : pm_ff RX8 67 8 7 := ⟨_, rfl, by decide +kernel, pm_inT 284 (by decide +kernel) (by decide +kernel), ⟨_, tyX8_ok 7 (by decide), fun _ => ⟨rfl, rfl⟩⟩, rfl, rfl⟩
theorem fl_9_1 : pm_fl RX9 1 9 0 := ⟨_, rfl, by decide +kernel, pm_inT 762 (by decide +kernel) (by decide +kernel)⟩
theorem fi_9_1 : pm_fi RX9 1 9 0 := ⟨_, rfl, by decide +kernel, pm_inT 762 (by decide +kernel) (by decide +kernel), rfl, rfl⟩
theorem fl_9_14 : pm_fl RX9 14 9 1 := ⟨_, rfl, by decide +kernel, pm_inT 763 (by decide +kernel) (by decide +kernel)⟩
theorem ff_9_14 : pm_ff RX9 14 9 1 := ⟨_, rfl, by decide +kernel, pm_inT 763 (by decide +kernel) (by decide +kernel), ⟨_, tyX9_ok 1 (by decide), fun _ => ⟨rfl, rfl⟩⟩, rfl, rfl⟩
theorem fl_9_7 : pm_fl RX9 7 9 2 := ⟨_, rfl, by decide +kernel, pm_inT 764 (by decide +kernel) (by decide +kernel)⟩
theorem fi_9_7 : pm_fi RX9 7 9 2 := ⟨_, rfl, by decide +kernel, pm_inT 764 (by decide +kernel) (by decide +kernel), rfl, rfl⟩
theorem fl_9_18 : pm_fl RX9 18 9 3 := ⟨_, rfl, by decide +kernel, pm_inT 765 (by decide +kernel) (by decide +kernel)⟩
theorem fi_9_18 : pm_fi RX9 18 9 3 := ⟨_, rfl, by decide +kernel, pm_inT 765 (by decide +kernel) (by decide +kernel), rfl, rfl⟩
theorem fl_9_27 : pm_fl RX9 27 9 4 := ⟨_, rfl, by decide +kernel, pm_inT 766 (by decide +kernel) (by decide +kernel)⟩
theorem ff_9_27 : pm_ff RX9 27 9 4 := ⟨_, rfl, by decide +kernel, pm_inT 766 (by decide +kernel) (by decide +kernel), ⟨_, tyX9_ok 4 (by decide), fun _ => ⟨rfl, rfl⟩⟩, rfl, rfl⟩
theorem fl_9_31 : pm_fl RX9 31 9 5 := ⟨_, rfl, by decide +kernel, pm_inT 767 (by decide +kernel) (by decide +kernel)⟩
theorem ff_9_31 : pm_ff RX9 31 9 5 := ⟨_, rfl, by decide +kernel, pm_inT 767 (by decide +kernel) (by decide +kernel), ⟨_, tyX9_ok 5 (by decide), fun _ => ⟨rfl, rfl⟩⟩, rfl, rfl⟩
theorem fl_9_34 : pm_fl RX9 34 9 6 := ⟨_, rfl, by decide +kernel, pm_inT 768 (by decide +kernel) (by decide +kernel)⟩
theorem ff_9_34 : pm_ff RX9 34 9 6 := ⟨_, rfl, by decide +kernel, pm_inT 768 (by decide +kernel) (by decide +kernel), ⟨_, tyX9_ok 6 (by decide), fun _ => ⟨rfl, rfl⟩⟩, rfl, rfl⟩
theorem fl_9_37 : pm_fl RX9 37 9 7 := ⟨_, rfl, by decide +kernel, pm_inT 769 (by decide +kernel) (by decide +kernel)⟩
theorem ff_9_37 : pm_ff RX9 37 9 7 := ⟨_, rfl, by decide +kernel, pm_inT 769 (by decide +kernel) (by decide +kernel), ⟨_, tyX9_ok 7 (by decide), fun _ => ⟨rfl, rfl⟩⟩, rfl, rfl⟩
theorem fl_9_40 : pm_fl RX9 40 9 8 := ⟨_, rfl, by decide +kernel, pm_inT 770 (by decide +kernel) (by decide +kernel)⟩
theorem ff_9_40 : pm_ff RX9 40 9 8 := ⟨_, rfl, by decide +kernel, pm_inT 770 (by decide +kernel) (by decide +kernel), ⟨_, tyX9_ok 8 (by decide), fun _ => ⟨rfl, rfl⟩⟩, rfl, rfl⟩
theorem fl_9_43 : pm_fl RX9 43 9 9 := ⟨_, rfl, by decide +kernel, pm_inT 771 (by decide +kernel) (by decide +kernel)⟩
theorem fi_9_43 : pm_fi RX9 43 9 9 := ⟨_, rfl, by decide +kernel, pm_inT 771 (by decide +kernel) (by decide +kernel), rfl, rfl⟩
theorem fl_9_46 : pm_fl RX9 46 9 10 := ⟨_, rfl, by decide +kernel, pm_inT 772 (by decide +kernel) (by decide +kernel)⟩
theorem fi_9_46 : pm_fi RX9 46 9 10 := ⟨_, rfl, by decide +kernel, pm_inT 772 (by decide +kernel) (by decide +kernel), rfl, rfl⟩
theorem fl_9_121 : pm_fl RX9 121 9 11 := ⟨_, rfl, by decide +kernel, pm_inT 773 (by decide +kernel) (by decide +kernel)⟩
theorem fi_9_121 : pm_fi RX9 121 9 11 := ⟨_, rfl, by decide +kernel, pm_inT 773 (by decide +kernel) (by decide +kernel), rfl, rfl⟩
theorem fl_9_49 : pm_fl RX9 49 9 12 := ⟨_, rfl, by decide +kernel, pm_inT 774 (by decide +kernel) (by decide +kernel)⟩
theorem fi_9_49 : pm_fi RX9 49 9 12 := ⟨_, rfl, by decide +kernel, pm_inT 774 (by decide +kernel) (by decide +kernel), rfl, rfl⟩
theorem fl_9_124 : pm_fl RX9 124 9 13 := ⟨_, rfl, by decide +kernel, pm_inT 775 (by decide +kernel) (by decide +kernel)⟩
theorem fi_9_124 : pm_fi RX9 124 9 13 := ⟨_, rfl, by decide +kernel, pm_inT 775 (by decide +kernel) (by decide +kernel), rfl, rfl⟩
theorem fl_9_115 : pm_fl RX9 115 9 14 := ⟨_, rfl, by decide +kernel, pm_inT 776 (by decide +kernel) (by decide +kernel)⟩
theorem fi_9_115 : pm_fi RX9 115 9 14 := ⟨_, rfl, by decide +kernel, pm_inT 776 (by decide +kernel) (by decide +kernel), rfl, rfl⟩
theorem fl_9_118 : pm_fl RX9 118 9 15 := ⟨_, rfl, by decide +kernel, pm_inT 777 (by decide +kernel) (by decide +kernel)⟩
theorem fi_9_118 : pm_fi RX9 118 9 15 := ⟨_, rfl, by decide +kernel, pm_inT 777 (by decide +kernel) (by decide +kernel), rfl, rfl⟩
theorem fl_9_52 : pm_fl RX9 52 9 16 := ⟨_, rfl, by decide +kernel, pm_inT 778 (by decide +kernel) (by decide +kernel)⟩
theorem ff_9_52 : pm_ff RX9 52 9 16 := ⟨_, rfl, by decide +kernel, pm_inT 778 (by decide +kernel) (by decide +kernel), ⟨_, tyX9_ok 16 (by decide), fun _ => ⟨rfl, rfl⟩⟩, rfl, rfl⟩
theorem fl_9_56 : pm_fl RX9 56 9 17 := ⟨_, rfl, by decide +kernel, pm_inT 779 (by decide +kernel) (by decide +kernel)⟩
theorem ff_9_56 : pm_ff RX9 56 9 17 := ⟨_, rfl, by decide +kernel, pm_inT 779 (by decide +kernel) (by decide +kernel), ⟨_, tyX9_ok 17 (by decide), fun _ => ⟨rfl, rfl⟩⟩, rfl, rfl⟩
theorem fl_9_59 : pm_fl RX9 59 9 18 := ⟨_, rfl, by decide +kernel, pm_inT 780 (by decide +kernel) (by decide +kernel)⟩
theorem ff_9_59 : pm_ff RX9 59 9 18 := ⟨_, rfl, by decide +kernel, pm_inT 780 (by decide +kernel) (by decide +kernel), ⟨_, tyX9_ok 18 (by decide), fun _ => ⟨rfl, rfl⟩⟩, rfl, rfl⟩
theorem fl_9_62 : pm_fl RX9 62 9 19 := ⟨_, rfl, by decide +kernel, pm_inT 781 (by decide +kernel) (by decide +kernel)⟩
theorem ff_9_62 : pm_ff RX9 62 9 19 := ⟨_, rfl, by decide +kernel, pm_inT 781 (by decide +kernel) (by decide +kernel), ⟨_, tyX9_ok 19 (by decide), fun _ => ⟨rfl, rfl⟩⟩, rfl, rfl⟩
theorem fl_9_65 : pm_fl RX9 65 9 20 := ⟨_, rfl, by decide +kernel, pm_inT 782 (by decide +kernel) (by decide +kernel)⟩
theorem ff_9_65 : pm_ff RX9 65 9 20 := ⟨_, rfl, by decide +kernel, pm_inT 782 (by decide +kernel) (by decide +kernel), ⟨_, tyX9_ok 20 (by decide), fun _ => ⟨rfl, rfl⟩⟩, rfl, rfl⟩
theorem fl_9_68 : pm_fl RX9 68 9 21 := ⟨_, rfl, by decide +kernel, pm_inT 783 (by decide +kernel) (by decide +kernel)⟩
theorem ff_9_68 : pm_ff RX9 68 9 21 := ⟨_, rfl, by decide +kernel, pm_inT 783 (by decide +kernel) (by decide +kernel), ⟨_, tyX9_ok 21 (by decide), fun _ => ⟨rfl, rfl⟩⟩, rfl, rfl⟩
theorem fl_9_130 : pm_fl RX9 130 9 22 := ⟨_, rfl, by decide +kernel, pm_inT 784 (by decide +kernel) (by decide +kernel)⟩
theorem fi_9_130 : pm_fi RX9 130 9 22 := ⟨_, rfl, by decide +kernel, pm_inT 784 (by decide +kernel) (by decide +kernel), rfl, rfl⟩
theorem fl_9_133 : pm_fl RX9 133 9 23 := ⟨_, rfl, by decide +kernel, pm_inT 785 (by decide +kernel) (by decide +kernel)⟩
theorem fi_9_133 : pm_fi RX9 133 9 23 := ⟨_, rfl, by decide +kernel, pm_inT 785 (by decide +kernel) (by decide +kernel), rfl, rfl⟩
theorem fl_9_136 : pm_fl RX9 136 9 24 := ⟨_, rfl, by decide +kernel, pm_inT 786 (by decide +kernel) (by decide +kernel)⟩
theorem fi_9_136 : pm_fi RX9 136 9 24 := ⟨_, rfl, by decide +kernel, pm_inT 786 (by decide +kernel) (by decide +kernel), rfl, rfl⟩
theorem fl_9_71 : pm_fl RX9 71 9 25 := ⟨_, rfl, by decide +kernel, pm_inT 787 (by decide +kernel) (by decide +kernel)⟩
theorem ff_9_71 : pm_ff RX9 71 9 25 := ⟨_, rfl, by decide +kernel, pm_inT 787 (by decide +kernel) (by decide +kernel), ⟨_, tyX9_ok 25 (by decide), fun _ => ⟨rfl, rfl⟩⟩, rfl, rfl⟩
theorem fl_9_74 : pm_fl RX9 74 9 26 := ⟨_, rfl, by decide +kernel, pm_inT 788 (by decide +kernel) (by decide +kernel)⟩
theorem ff_9_74 : pm_ff RX9 74 9 26 := ⟨_, rfl, by decide +kernel, pm_inT 788 (by decide +kernel) (by decide +kernel), ⟨_, tyX9_ok 26 (by decide), fun _ => ⟨rfl, rfl⟩⟩, rfl, rfl⟩
theorem fl_9_77 : pm_fl RX9 77 9 27 := ⟨_, rfl, by decide +kernel, pm_inT 789 (by decide +kernel) (by decide +kernel)⟩
theorem ff_9_77 : pm_ff RX9 77 9 27 := ⟨_, rfl, by decide +kernel, pm_inT 789 (by decide +kernel) (by decide +kernel), ⟨_, tyX9_ok 27 (by decide), fun _ => ⟨rfl, rfl⟩⟩, rfl, rfl⟩
theorem fl_9_80 : pm_fl RX9 80 9 28 := ⟨_, rfl, by decide +kernel, pm_inT 790 (by decide +kernel) (by decide +kernel)⟩
theorem ff_9_80 : pm_ff RX9 80 9 28 := ⟨_, rfl, by decide +kernel, pm_inT 790 (by decide +kernel) (by decide +kernel), ⟨_, tyX9_ok 28 (by decide), fun _ => ⟨rfl, rfl⟩⟩, rfl, rfl⟩
theorem fl_9_83 : pm_fl RX9 83 9 29 := ⟨_, rfl, by decide +kernel, pm_inT 791 (by decide +kernel) (by decide +kernel)⟩
theorem ff_9_83 : pm_ff RX9 83 9 29 := ⟨_, rfl, by decide +kernel, pm_inT 791 (by decide +kernel) (by decide +kernel), ⟨_, tyX9_ok 29 (by decide), fun _ => ⟨rfl, rfl⟩⟩, rfl, rfl⟩
theorem fl_9_86 : pm_fl RX9 86 9 30 := ⟨_, rfl, by decide +kernel, pm_inT 792 (by decide +kernel) (by decide +kernel)⟩
theorem ff_9_86 : pm_ff RX9 86 9 30 := ⟨_, rfl, by decide +kernel, pm_inT 792 (by decide +kernel) (by decide +kernel), ⟨_, tyX9_ok 30 (by decide), fun _ => ⟨rfl, rfl⟩⟩, rfl, rfl⟩
theorem fl_9_89 : pm_fl RX9 89 9 31 := ⟨_, rfl, by decide +kernel, pm_inT 793 (by decide +kernel) (by decide +kernel)⟩
theorem ff_9_89 : pm_ff RX9 89 9 31 := ⟨_, rfl, by decide +kernel, pm_inT 793 (by decide +kernel) (by decide +kernel), ⟨_, tyX9_ok 31 (by decide), fun _ => ⟨rfl, rfl⟩⟩, rfl, rfl⟩
theorem fl_9_176 : pm_fl RX9 176 9 32 := ⟨_, rfl, by decide +kernel, pm_inT 794 (by decide +kernel) (by decide +kernel)⟩
theorem fi_9_176 : pm_fi RX9 176 9 32 := ⟨_, rfl, by decide +kernel, pm_inT 794 (by decide +kernel) (by decide +kernel), rfl, rfl⟩
theorem fl_9_92 : pm_fl RX9 92 9 33 := ⟨_, rfl, by decide +kernel, pm_inT 795 (by decide +kernel) (by decide +kernel)⟩
theorem ff_9_92 : pm_ff RX9 92 9 33 := ⟨_, rfl, by decide +kernel, pm_inT 795 (by decide +kernel) (by decide +kernel), ⟨_, tyX9_ok 33 (by decide), fun _ => ⟨rfl, rfl⟩⟩, rfl, rfl⟩
theorem fl_9_95 : pm_fl RX9 95 9 34 := ⟨_, rfl, by decide +kernel, pm_inT 796 (by decide +kernel) (by decide +kernel)⟩
theorem ff_9_95 : pm_ff RX9 95 9 34 := ⟨_, rfl, by decide +kernel, pm_inT 796 (by decide +kernel) (by decide +kernel), ⟨_, tyX9_ok 34 (by decide), fun _ => ⟨rfl, rfl⟩⟩, rfl, rfl⟩
theorem fl_9_99 : pm_fl RX9 99 9 35 := ⟨_, rfl, by decide +kernel, pm_inT 797 (by decide +kernel) (by decide +kernel)⟩
theorem ff_9_99 : pm_ff RX9 99 9 35 := ⟨_, rfl, by decide +kernel, pm_inT 797 (by decide +kernel) (by decide +kernel), ⟨_, tyX9_ok 35 (by decide), fun _ => ⟨rfl, rfl⟩⟩, rfl, rfl⟩
theorem fl_9_102 : pm_fl RX9 102 9 36 := ⟨_, rfl, by decide +kernel, pm_inT 798 (by decide +kernel) (by decide +kernel)⟩
theorem fi_9_102 : pm_fi RX9 102 9 36 := ⟨_, rfl, by decide +kernel, pm_inT 798 (by decide +kernel) (by decide +kernel), rfl, rfl⟩
theorem fl_9_179 : pm_fl RX9 179 9 37 := ⟨_, rfl, by decide +kernel, pm_inT 799 (by decide +kernel) (by decide +kernel)⟩
theorem fi_9_179 : pm_fi RX9 179 9 37 := ⟨_, rfl, by decide +kernel, pm_inT 799 (by decide +kernel) (by decide +kernel), rfl, rfl⟩
end
section
def pm_pu : Option Value → List Value → List Value
  | some v, st => v :: st
  | none, st => st
/-- a callee: its code stands in the tables, its class is made, so many arguments -/
def pm_ok (M : pm_M) (n : Nat) : Prop := Jvm.Cond.code (pm_y M) (pm_cc M) (pm_ml M) (pm_rt M) ∈ pm_T ∧ Jvm.Cond.initialized (pm_y M).cls ∈ pm_T ∧ (pm_y M).cls ≠ "java/lang/invoke/MethodHandle" ∧ (pm_y M).cls ≠ "java/lang/invoke/VarHandle" ∧ (parseMethodDescriptor (pm_y M).desc).map (fun d => d.parameters.length) = some n
def pm_iv (M : pm_M) : Prop := Jvm.Cond.instanceMethod (pm_y M) ∈ pm_T ∧ Jvm.Cond.selects (pm_y M).cls (pm_y M) (pm_y M) ∈ pm_T
def pm_cl (ci : Nat) (C : String) : Prop := ∃ q : vw_C, vwCl[ci]? = some q ∧ q.1 = C
def pm_le (z zm : pm_z) : Prop := z.1 ≤ zm.1 ∧ z.2.1 ≤ zm.2.1
theorem pm_le.rf {z : pm_z} : pm_le z z := ⟨Nat.le_refl _, Nat.le_refl _⟩
def pm_rm (M' M : pm_M) : Prop := pm_fr M' + 1 ≤ pm_fr M ∧ 8 + (pm_ml M' + 11) + pm_lr M' ≤ pm_lr M
def pm_Pc (G : pm_G) (As : List Value) (n : Nat) (h : pm_h) (g : pm_g) : Array Value → State → Prop := fun a U => a = (As.map (pm_tr G)).toArray ∧ pm_R G n h g U.heap ∧ pm_K G U
theorem pm_blind {G : pm_G} {As : List Value} {n : Nat} {h : pm_h} {g : pm_g} : FrameBlind (pm_Pc G As n h g) := fun a U gg mk q => ⟨q.1, q.2.1, pm_K.same (s := U) (U := U.calling gg mk a) rfl q.2.2⟩
section PC
variable {G : pm_G} {M : pm_M} {zm : pm_z} {Φ : pm_F} {pc pc' : Nat} {ls st : List Value} {z : pm_z} {h : pm_h} {g : pm_g}
theorem pm_callB {M' : pm_M} {index n : Nat} {R : Room} {s : State} {m : MethodId} {args : Array Value} {meth : Method} {c : Code} {p : Program} {z zm' : pm_z} (X : pm_X G M p R s m meth c) (hok : pm_ok M' n) (hrm : pm_rm M' M) (hl : Jvm.Cond.methodLink (pm_y M).cls index (pm_y M') ∈ pm_T) :
    CallB R s args (pm_y M).cls index (pm_y M') (pm_cc M') (pm_ml M') (pm_rt M') [.code (pm_y M') (pm_cc M') (pm_ml M') (pm_rt M')] ({ frames := pm_fr M', cells := zm'.1 - z.1, slots := zm'.2.1 - z.2.1, locals := pm_lr M' } : Room) (zm'.1 - z.1) (zm'.2.1 - z.2.1) n := by
  obtain ⟨hx, hb, hml, hrt, hlk0, hnm, hown, hK, hfr, hlr, htb⟩ := X
  obtain ⟨o1, o2, o3, o4, o5⟩ := hok
  have hts : ∀ w ∈ pm_T, w.before args s = true := fun w hw => hK.2.2.1 w hw args
  refine ⟨rfl, rfl, by rw [hfr]; exact hrm.1, by rw [hlr]; exact hrm.2, fun w hw a' U hW => ?_, List.mem_cons_self, hts _ o1, hts _ o2, ⟨o3, o4⟩, fun sig h => ?_, hts _ hl⟩
  · rw [List.mem_singleton.mp hw]
    exact (hK.moved hW).2.2.1 _ o1 a'
  · rw [h] at o5
    exact (Option.some.inj o5).symm
/-- behind a call -/
theorem pm_back {p : Program} {e : Env} {R : Room} {s : State} {m : MethodId} {args : Array Value} {below : List Frame} {meth : Method} {c : Code} {H : Heap} {locs : List Loc} {z0 zm' : pm_z} {lc : Array Slot} {Q' : Option Value → pm_h → pm_g → Prop} {stk : List Value}
    (X : pm_X G M p R s m meth c) (hR : pm_R G z.2.2 h g H) (hL : ∀ q ∈ locs, pm_b G ≤ q.base) (hlo : pm_lo G lc (pm_ml M) ls) (a1 : z0.1 ≤ z.1) (a2 : z0.2.1 ≤ z.2.1) (a5 : R.cells = zm.1 - z0.1) (a6 : R.slots = zm.2.1 - z0.2.1) (hzz : pm_le z zm') (hzm : pm_le zm' zm)
    (run : va_Run p (pm_l G) e R s m args below meth c H locs (z.1 - z0.1) (z.2.1 - z0.2.1) (zm'.1 - z.1) (zm'.2.1 - z.2.1) (F0 m pc lc stk) (st.map (pm_tr G)) (fun _ o t => ∃ (r : Option Value) (h' : pm_h) (g' : pm_g), Q' r h' g' ∧ o = .returned (r.map (pm_tr G)) ∧ pm_R G zm'.2.2 h' g' t.heap) (fun q => pm_b G ≤ q))
    (kk : ∀ r h' g', Q' r h' g' → pm_W G M zm Φ (pc + 3) ls (pm_pu r st) zm' h' g') : W p (pm_l G) e R s m args below meth c H locs (z.1 - z0.1) (z.2.1 - z0.2.1) (Φ below args s (zm.1 - z0.1) (zm.2.1 - z0.2.1)) (F0 m pc lc stk) := by
  intro T hT X'
  obtain ⟨v, st₀, t, T', L, h0, X2, hL2, e1, e2, ⟨r, h', g', hQ, hv, hR'⟩, stp⟩ := run T hT X'
  cases hv
  obtain ⟨z1, z2⟩ := hzz
  have w := kk r h' g' hQ p e R s m args below meth c T'.heap (locs ++ L) z0 lc X (by rw [e1]; exact hR') (fun q hq => by
    rcases List.mem_append.mp hq with hq | hq
    · exact hL q hq
    · exact hL2 q hq) hlo (by omega) (by omega) hzm.1 hzm.2 a5 a6
  rw [show z.1 - z0.1 + (zm'.1 - z.1) = zm'.1 - z0.1 by omega, show z.2.1 - z0.2.1 + (zm'.2.1 - z.2.1) = zm'.2.1 - z0.2.1 by omega] at X2
  obtain ⟨t2, b1, b2⟩ := w T' rfl X2
  refine ⟨t2, stp t2 ?_, b2⟩
  cases r <;> exact b1
theorem px_callV {M' : pm_M} {index n a ci : Nat} {As stk : List Value} {zm' : pm_z} {Q' : Option Value → pm_h → pm_g → Prop} (hM : pm_Met G M' (.ref a :: As) z zm' h g Q') (hok : pm_ok M' n) (hiv : pm_iv M') (hl : Jvm.Cond.methodLink (pm_y M).cls index (pm_y M') ∈ pm_T) (hrm : pm_rm M' M) (hd : decode (pm_cc M) pc = .ok (.invokevirtual index, 3)) (hp : pc + 3 = pc') (hn : As.length = n) (hst : stk = As.reverse ++ .ref a :: st) (hs : (st.map fun v => v.category).sum ≤ 8) (hc : h a = pm_ob ci) (hcl : pm_cl ci (pm_y M').cls) (hzz : pm_le z zm') (hzm : pm_le zm' zm) (kk : ∀ r h' g', Q' r h' g' → pm_W G M zm Φ pc' ls (pm_pu r st) zm' h' g') : pm_W G M zm Φ pc ls (stk) z h g := by
  subst hp
  subst hst
  intro p e R s m args below meth c H locs z0 lc X hR hL hlo a1 a2 a3 a4 a5 a6
  have hK := X.2.2.2.2.2.2.2.1
  have hts : ∀ w ∈ pm_T, w.before args s = true := fun w hw => hK.2.2.1 w hw args
  refine pm_back (st := st) (Q' := Q') X hR hL hlo a1 a2 a5 a6 hzz hzm ?_ kk
  refine va_runV (Ts := pm_T) (As := As.map (pm_tr G)) (b := pm_b G + a) (n := n) ⟨X.1, X.2.1, X.2.2.1, X.2.2.2.2.2.2.1, hts⟩ hM ⟨pm_callB X hok hrm hl, hts _ hiv.1, hts _ hiv.2⟩ ⟨pm_blind (As := .ref a :: As), ?_, fun U hU hW => ⟨rfl, by rw [hU]; exact hR, hK.moved hW⟩⟩ rfl (by rw [List.length_map]; exact hn) hlo.1 (by simp [List.map_append, List.map_reverse, List.map_cons, pm_tr]) (lv_room (by rw [pm_tr_cats]; exact hs)) hd ⟨by rw [a5]; have := hzz.1; have := hzm.1; omega, by rw [a6]; have := hzz.2; have := hzm.2; omega⟩
  obtain ⟨q, hq, hqc⟩ := hcl
  have hat := hR.2.1 a
  rw [hc] at hat
  obtain ⟨r, h1, cell, q1, q2, q3, q4⟩ := hat
  cases hq.symm.trans h1
  exact ⟨cell, q1, by rw [q3]; rfl, by rw [q2, ← hqc]; exact (hK.1 ci _ hq).2.1⟩
theorem px_callS {M' : pm_M} {index n : Nat} {As stk : List Value} {zm' : pm_z} {Q' : Option Value → pm_h → pm_g → Prop} (hM : pm_Met G M' As z zm' h g Q') (hok : pm_ok M' n) (hsv : Jvm.Cond.static (pm_y M') ∈ pm_T) (hl : Jvm.Cond.methodLink (pm_y M).cls index (pm_y M') ∈ pm_T) (hrm : pm_rm M' M) (hd : decode (pm_cc M) pc = .ok (.invokestatic index, 3)) (hp : pc + 3 = pc') (hn : As.length = n) (hst : stk = As.reverse ++ st) (hs : (st.map fun v => v.category).sum ≤ 8) (hzz : pm_le z zm') (hzm : pm_le zm' zm) (kk : ∀ r h' g', Q' r h' g' → pm_W G M zm Φ pc' ls (pm_pu r st) zm' h' g') : pm_W G M zm Φ pc ls (stk) z h g := by
  subst hp
  subst hst
  intro p e R s m args below meth c H locs z0 lc X hR hL hlo a1 a2 a3 a4 a5 a6
  have hK := X.2.2.2.2.2.2.2.1
  have hts : ∀ w ∈ pm_T, w.before args s = true := fun w hw => hK.2.2.1 w hw args
  refine pm_back (st := st) (Q' := Q') X hR hL hlo a1 a2 a5 a6 hzz hzm ?_ kk
  refine va_runS (Ts := pm_T) (As := As.map (pm_tr G)) (n := n) ⟨X.1, X.2.1, X.2.2.1, X.2.2.2.2.2.2.1, hts⟩ hM ⟨pm_callB X hok hrm hl, hts _ hsv⟩ ⟨pm_blind (As := As), fun U hU hW => ⟨rfl, by rw [hU]; exact hR, hK.moved hW⟩⟩ rfl (by rw [List.length_map]; exact hn) hlo.1 (by simp [List.map_append, List.map_reverse, List.map_cons, pm_tr]) (lv_room (by rw [pm_tr_cats]; exact hs)) hd ⟨by rw [a5]; have := hzz.1; have := hzm.1; omega, by rw [a6]; have := hzz.2; have := hzm.2; omega⟩
theorem px_callI {M' : pm_M} {index n a : Nat} {As stk : List Value} {zm' : pm_z} {Q' : Option Value → pm_h → pm_g → Prop} (hM : pm_Met G M' (.ref a :: As) z zm' h g Q') (hok : pm_ok M' n) (hret : pm_rt M' = none) (hin : (pm_y M').name = "<init>") (hiv : Jvm.Cond.instanceMethod (pm_y M') ∈ pm_T) (hl : Jvm.Cond.methodLink (pm_y M).cls index (pm_y M') ∈ pm_T) (hrm : pm_rm M' M) (hd : decode (pm_cc M) pc = .ok (.invokespecial index, 3)) (hp : pc + 3 = pc') (hn : As.length = n) (hst : stk = As.reverse ++ .ref a :: st) (hs : (st.map fun v => v.category).sum ≤ 8) (hzz : pm_le z zm') (hzm : pm_le zm' zm) (kk : ∀ r h' g', Q' r h' g' → pm_W G M zm Φ pc' ls (pm_pu r st) zm' h' g') : pm_W G M zm Φ pc ls (stk) z h g := by
  subst hp
  subst hst
  obtain ⟨y1, c1, l1, r1, f1, r2⟩ := M'
  have hret : r1 = none := hret
  subst hret
  intro p e R s m args below meth c H locs z0 lc X hR hL hlo a1 a2 a3 a4 a5 a6
  have hK := X.2.2.2.2.2.2.2.1
  have hts : ∀ w ∈ pm_T, w.before args s = true := fun w hw => hK.2.2.1 w hw args
  refine pm_back (st := st) (Q' := Q') X hR hL hlo a1 a2 a5 a6 hzz hzm ?_ kk
  refine va_runI (Ts := pm_T) (As := As.map (pm_tr G)) (b := pm_b G + a) (n := n) ⟨X.1, X.2.1, X.2.2.1, X.2.2.2.2.2.2.1, hts⟩ hM ⟨pm_callB X hok hrm hl, hin, hts _ hiv⟩ ⟨pm_blind (As := (.ref a :: As)), fun U hU hW => ⟨rfl, by rw [hU]; exact hR, hK.moved hW⟩⟩ rfl (by rw [List.length_map]; exact hn) hlo.1 (by simp [List.map_append, List.map_reverse, List.map_cons, pm_tr]) (lv_room (by rw [pm_tr_cats]; exact hs)) hd ⟨by rw [a5]; have := hzz.1; have := hzm.1; omega, by rw [a6]; have := hzz.2; have := hzm.2; omega⟩
theorem px_callNS {M' : pm_M} {index n : Nat} {As stk : List Value} {zm' : pm_z} {Q' : Option Value → pm_h → pm_g → Prop} (hM : pm_Met G M' As z zm' h g Q') (hok : pm_ok M' n) {host : String} (hsv : Jvm.Cond.static (pm_y M') ∈ pm_T) (hl : ((pm_y M).cls, index, pm_y M', host) ∈ pm_N) (hrm : pm_rm M' M) (hd : decode (pm_cc M) pc = .ok (.invokestatic index, 3)) (hp : pc + 3 = pc') (hn : As.length = n) (hst : stk = As.reverse ++ st) (hs : (st.map fun v => v.category).sum ≤ 8) (hzz : pm_le z zm') (hzm : pm_le zm' zm) (kk : ∀ r h' g', Q' r h' g' → pm_W G M zm Φ pc' ls (pm_pu r st) zm' h' g') : pm_W G M zm Φ pc ls (stk) z h g := by
  subst hp
  subst hst
  intro p e R s m args below meth c H locs z0 lc X hR hL hlo a1 a2 a3 a4 a5 a6
  have hK := X.2.2.2.2.2.2.2.1
  have hts : ∀ w ∈ pm_T, w.before args s = true := fun w hw => hK.2.2.1 w hw args
  refine pm_back (st := st) (Q' := Q') X hR hL hlo a1 a2 a5 a6 hzz hzm ?_ kk
  refine va_runSN (Ts := pm_T) (As := As.map (pm_tr G)) (n := n) ⟨X.1, X.2.1, X.2.2.1, X.2.2.2.2.2.2.1, hts⟩ hM (bytes := pm_cc M') (maxL := pm_ml M') (ret := pm_rt M') ⟨⟨⟨rfl, rfl, by rw [X.2.2.2.2.2.2.2.2.1]; exact hrm.1, by rw [X.2.2.2.2.2.2.2.2.2.1]; exact hrm.2, fun w hw a' U hW => by rw [List.mem_singleton.mp hw]; exact (hK.moved hW).2.2.1 _ hok.1 a', List.mem_cons_self⟩, hts _ hok.1, hts _ hok.2.1, ⟨hok.2.2.1, hok.2.2.2.1⟩, fun sig hg => by have o5 := hok.2.2.2.2; rw [hg] at o5; exact (Option.some.inj o5).symm, va_Nw.use rfl (hK.2.2.2.1 _ hl)⟩, hts _ hsv, trivial⟩ ⟨pm_blind (As := As), fun U hU hW => ⟨rfl, by rw [hU]; exact hR, hK.moved hW⟩⟩ rfl (by rw [List.length_map]; exact hn) hlo.1 (by simp [List.map_append, List.map_reverse, List.map_cons, pm_tr]) (lv_room (by rw [pm_tr_cats]; exact hs)) hd ⟨by rw [a5]; have := hzz.1; have := hzm.1; omega, by rw [a6]; have := hzz.2; have := hzm.2; omega⟩
theorem px_callNI {M' : pm_M} {index n a : Nat} {As stk : List Value} {zm' : pm_z} {Q' : Option Value → pm_h → pm_g → Prop} (hM : pm_Met G M' (.ref a :: As) z zm' h g Q') (hok : pm_ok M' n) {host : String} (hret : pm_rt M' = none) (hin : (pm_y M').name = "<init>") (hiv : Jvm.Cond.instanceMethod (pm_y M') ∈ pm_T) (hl : ((pm_y M).cls, index, pm_y M', host) ∈ pm_N) (hrm : pm_rm M' M) (hd : decode (pm_cc M) pc = .ok (.invokespecial index, 3)) (hp : pc + 3 = pc') (hn : As.length = n) (hst : stk = As.reverse ++ .ref a :: st) (hs : (st.map fun v => v.category).sum ≤ 8) (hzz : pm_le z zm') (hzm : pm_le zm' zm) (kk : ∀ r h' g', Q' r h' g' → pm_W G M zm Φ pc' ls (pm_pu r st) zm' h' g') : pm_W G M zm Φ pc ls (stk) z h g := by
  subst hp
  subst hst
  obtain ⟨y1, c1, l1, r1, f1, r2⟩ := M'
  have hret : r1 = none := hret
  subst hret
  intro p e R s m args below meth c H locs z0 lc X hR hL hlo a1 a2 a3 a4 a5 a6
  have hK := X.2.2.2.2.2.2.2.1
  have hts : ∀ w ∈ pm_T, w.before args s = true := fun w hw => hK.2.2.1 w hw args
  refine pm_back (st := st) (Q' := Q') X hR hL hlo a1 a2 a5 a6 hzz hzm ?_ kk
  refine va_runIN (Ts := pm_T) (As := As.map (pm_tr G)) (b := pm_b G + a) (n := n) ⟨X.1, X.2.1, X.2.2.1, X.2.2.2.2.2.2.1, hts⟩ hM (bytes := c1) (maxL := l1) ⟨⟨⟨rfl, rfl, by rw [X.2.2.2.2.2.2.2.2.1]; exact hrm.1, by rw [X.2.2.2.2.2.2.2.2.2.1]; exact hrm.2, fun w hw a' U hW => by rw [List.mem_singleton.mp hw]; exact (hK.moved hW).2.2.1 _ hok.1 a', List.mem_cons_self⟩, hts _ hok.1, hts _ hok.2.1, ⟨hok.2.2.1, hok.2.2.2.1⟩, fun sig hg => by have o5 := hok.2.2.2.2; rw [hg] at o5; exact (Option.some.inj o5).symm, va_Nw.use rfl (hK.2.2.2.1 _ hl)⟩, hin, hts _ hiv⟩ ⟨pm_blind (As := (.ref a :: As)), fun U hU hW => ⟨rfl, by rw [hU]; exact hR, hK.moved hW⟩⟩ rfl (by rw [List.length_map]; exact hn) hlo.1 (by simp [List.map_append, List.map_reverse, List.map_cons, pm_tr]) (lv_room (by rw [pm_tr_cats]; exact hs)) hd ⟨by rw [a5]; have := hzz.1; have := hzm.1; omega, by rw [a6]; have := hzz.2; have := hzm.2; omega⟩
variable {Q : Option Value → pm_h → pm_g → Prop}
theorem px_zret {x : Int32} {ty : FieldType} (hd : decode (pm_cc M) pc = .ok (.ireturn, 1)) (hr : pm_rt M = some ty) (hn : narrow ty (.int x) = .int x) (hz : z = zm) (hQ : Q (some (.int x)) h g) : pm_W G M zm (pm_Φ G zm Q) pc ls [.int x] z h g := by
  subst hz
  intro p e R s m args below meth c H locs z0 lc X hR hL hlo a1 a2 a3 a4 a5 a6
  exact W.zret X.1 X.2.1 (X.2.2.2.1.trans hr) hn (fun t ht hW => ⟨_, h, g, hQ, rfl, by rw [ht]; exact hR⟩) hL hd X.2.2.2.2.1
theorem px_iret {x : Int32} (hd : decode (pm_cc M) pc = .ok (.ireturn, 1)) (hr : pm_rt M = some .int) (hz : z = zm) (hQ : Q (some (.int x)) h g) : pm_W G M zm (pm_Φ G zm Q) pc ls [.int x] z h g := px_zret hd hr rfl hz hQ
theorem px_lret {x : Int64} (hd : decode (pm_cc M) pc = .ok (.lreturn, 1)) (hr : pm_rt M = some .long) (hz : z = zm) (hQ : Q (some (.long x)) h g) : pm_W G M zm (pm_Φ G zm Q) pc ls [.long x] z h g := by
  subst hz
  intro p e R s m args below meth c H locs z0 lc X hR hL hlo a1 a2 a3 a4 a5 a6
  exact W.lret X.1 X.2.1 (X.2.2.2.1.trans hr) (fun t ht hW => ⟨_, h, g, hQ, rfl, by rw [ht]; exact hR⟩) hL hd X.2.2.2.2.1
theorem px_vret (hd : decode (pm_cc M) pc = .ok (.return_, 1)) (hr : pm_rt M = none) (hz : z = zm) (hQ : Q none h g) : pm_W G M zm (pm_Φ G zm Q) pc ls [] z h g := by
  subst hz
  intro p e R s m args below meth c H locs z0 lc X hR hL hlo a1 a2 a3 a4 a5 a6
  exact W.vret X.1 X.2.1 (X.2.2.2.1.trans hr) (fun t ht hW => ⟨_, h, g, hQ, rfl, by rw [ht]; exact hR⟩) hL hd X.2.2.2.2.1
theorem px_copyi {index a0 a n0 n1 : Nat} {f f1 : Nat → Int32} {sp dp n : Int32} (hl : Jvm.Cond.methodLink (pm_y M).cls index arraycopyName ∈ pm_T) (hnat : Jvm.Cond.native arraycopyName ∈ pm_T) (hs : Jvm.Cond.static arraycopyName ∈ pm_T) (hi : Jvm.Cond.initialized "java/lang/System" ∈ pm_T) (hd : decode (pm_cc M) pc = .ok (.invokestatic index, 3)) (hp : pc + 3 = pc') (hf1 : 1 ≤ pm_fr M) (hf2 : (st.map fun v => v.category).sum + (nativeFrameWords "java/lang/System" "arraycopy" 5 + 11) ≤ pm_lr M)
    (hc0 : h a0 = pm_ia 0 n0 f) (hc1 : h a = pm_ia 0 n1 f1) (h1 : ¬ sp < 0) (h2 : ¬ dp < 0) (h3 : ¬ n < 0) (h4 : sp.toNatClampNeg + n.toNatClampNeg ≤ n0) (h5 : dp.toNatClampNeg + n.toNatClampNeg ≤ n1) (kk : pm_W G M zm Φ pc' ls (st) z (pm_up h a (pm_ia 0 n1 (va_cpy f f1 sp.toNatClampNeg dp.toNatClampNeg n.toNatClampNeg))) g) : pm_W G M zm Φ pc ls (.int n :: .int dp :: .ref a :: .int sp :: .ref a0 :: st) z h g := by
  subst hp
  intro p e R s m args below meth c H locs z0 lc X hR hL hlo a1 a2 a3 a4 a5 a6
  obtain ⟨hx, hb, hml, hrt, hlk0, hnm, hown, hK, hfr, hlr, htb⟩ := id X
  have hts : ∀ w ∈ pm_T, w.before args s = true := fun w hw => hK.2.2.1 w hw args
  have nn : ∀ z : Int32, ¬ z < 0 → z.toInt = (z.toNatClampNeg : Int) := by
    intro z hz
    have hz0 : (0 : Int) ≤ z.toInt := by
      have := Int32.not_lt.mp hz
      simpa using Int32.le_iff_toInt_le.mp this
    show z.toInt = ((z.toInt.toNat : Nat) : Int)
    omega
  have hat0 : H[pm_b G + a0]? = some (arrV (pm_dA G 0) n0 (fun j => .int (f j))) := by have := hR.2.1 a0; rw [hc0] at this; exact this
  have hat1 : H[pm_b G + a]? = some (arrV (pm_dA G 0) n1 (fun j => .int (f1 j))) := by have := hR.2.1 a; rw [hc1] at this; exact this
  obtain ⟨-, k0, hk0, cm0, hkk0⟩ := (hK.2.1 0 (by decide)).1 n0 (fun j => .int (f j))
  obtain ⟨-, k1, hk1, cm1, hkk1⟩ := (hK.2.1 0 (by decide)).1 n1 (fun j => .int (f1 j))
  intro T hT X'
  obtain ⟨vm', X2, step⟩ := X'.arraycopy hx hown (hts _ hl) (hts _ hnat) (hts _ hs) (hts _ hi) (src := pm_b G + a0) (dst := pm_b G + a) (srcPos := sp) (destPos := dp) (n := n) (by rw [hT]; exact hat0) (by rw [hT]; exact hat1)
    (fun _ h => by cases h) (fun _ h => by cases h) (fun h => by cases h) (fun h => by cases h) hk0 hk1 hkk0 hkk1 (by simp [pm_ty, refKind]) h1 h2 h3
    (by rw [nn sp h1, nn n h3, arrV_size]; omega) (by rw [nn dp h2, nn n h3, arrV_size]; omega)
    (fun vm₁ _ i hi => by
      have e : (arrV (pm_dA G 0) n0 (fun j => .int (f j))).slots.getD (sp.toNatClampNeg + i) .null = .int (f (sp.toNatClampNeg + i)) := by
        rw [Array.getD_eq_getD_getElem?, arrV_read _ _ (by omega)]
        rfl
      rw [e]
      exact ⟨rfl, trivial⟩)
    (g := F0 m pc lc (.int n :: .int dp :: .ref (pm_b G + a) :: .int sp :: .ref (pm_b G + a0) :: st.map (pm_tr G))) rfl (by show lc.size = _; rw [hlo.1, hml]) (rest := st.map (pm_tr G)) rfl (by rw [hb]; exact hd) (by rw [hfr]; exact hf1) (by show 2 * 0 + _ + _ ≤ _; rw [pm_tr_cats, hlr]; omega)
  have e1 : copied (arrV (pm_dA G 0) n0 (fun j => .int (f j))) (arrV (pm_dA G 0) n1 (fun j => .int (f1 j))) sp dp n = arrV (pm_dA G 0) n1 (fun j => .int (va_cpy f f1 sp.toNatClampNeg dp.toNatClampNeg n.toNatClampNeg j)) := va_copied (fun z => .int z) (pm_dA G 0) (pm_dA G 0) f f1 h4
  rw [e1] at X2 step
  have hlt : pm_b G + a < H.size := (Array.getElem?_eq_some_iff.mp hat1).1
  have hR' : pm_R G z.2.2 (pm_up h a (pm_ia 0 n1 (va_cpy f f1 sp.toNatClampNeg dp.toNatClampNeg n.toNatClampNeg))) g (H.setIfInBounds (pm_b G + a) (arrV (pm_dA G 0) n1 (fun j => .int (va_cpy f f1 sp.toNatClampNeg dp.toNatClampNeg n.toNatClampNeg j)))) :=
    hR.put (by simp) (fun q hq => by simp [Array.getElem?_setIfInBounds, Ne.symm hq]) (show (H.setIfInBounds (pm_b G + a) _)[pm_b G + a]? = some _ by simp [Array.getElem?_setIfInBounds, hlt]) (fun _ _ => rfl)
  obtain ⟨t, b1, b2⟩ := kk p e R s m args below meth c _ _ z0 lc X hR' (fun l hl => by
    rcases List.mem_append.mp hl with hl | hl
    · exact hL l hl
    · obtain ⟨x, -, hx⟩ := List.mem_map.mp hl
      rw [← hx]
      exact Nat.le_add_right _ _) hlo a1 a2 a3 a4 a5 a6 _ (by rw [← hT]; rfl) X2
  exact ⟨t, step t b1, b2⟩
theorem px_copyl {index a0 a n0 n1 : Nat} {f f1 : Nat → Int64} {sp dp n : Int32} (hl : Jvm.Cond.methodLink (pm_y M).cls index arraycopyName ∈ pm_T) (hnat : Jvm.Cond.native arraycopyName ∈ pm_T) (hs : Jvm.Cond.static arraycopyName ∈ pm_T) (hi : Jvm.Cond.initialized "java/lang/System" ∈ pm_T) (hd : decode (pm_cc M) pc = .ok (.invokestatic index, 3)) (hp : pc + 3 = pc') (hf1 : 1 ≤ pm_fr M) (hf2 : (st.map fun v => v.category).sum + (nativeFrameWords "java/lang/System" "arraycopy" 5 + 11) ≤ pm_lr M)
    (hc0 : h a0 = pm_la n0 f) (hc1 : h a = pm_la n1 f1) (h1 : ¬ sp < 0) (h2 : ¬ dp < 0) (h3 : ¬ n < 0) (h4 : sp.toNatClampNeg + n.toNatClampNeg ≤ n0) (h5 : dp.toNatClampNeg + n.toNatClampNeg ≤ n1) (kk : pm_W G M zm Φ pc' ls (st) z (pm_up h a (pm_la n1 (va_cpy f f1 sp.toNatClampNeg dp.toNatClampNeg n.toNatClampNeg))) g) : pm_W G M zm Φ pc ls (.int n :: .int dp :: .ref a :: .int sp :: .ref a0 :: st) z h g := by
  subst hp
  intro p e R s m args below meth c H locs z0 lc X hR hL hlo a1 a2 a3 a4 a5 a6
  obtain ⟨hx, hb, hml, hrt, hlk0, hnm, hown, hK, hfr, hlr, htb⟩ := id X
  have hts : ∀ w ∈ pm_T, w.before args s = true := fun w hw => hK.2.2.1 w hw args
  have nn : ∀ z : Int32, ¬ z < 0 → z.toInt = (z.toNatClampNeg : Int) := by
    intro z hz
    have hz0 : (0 : Int) ≤ z.toInt := by
      have := Int32.not_lt.mp hz
      simpa using Int32.le_iff_toInt_le.mp this
    show z.toInt = ((z.toInt.toNat : Nat) : Int)
    omega
  have hat0 : H[pm_b G + a0]? = some (arrV (pm_dA G 3) n0 (fun j => .long (f j))) := by have := hR.2.1 a0; rw [hc0] at this; exact this
  have hat1 : H[pm_b G + a]? = some (arrV (pm_dA G 3) n1 (fun j => .long (f1 j))) := by have := hR.2.1 a; rw [hc1] at this; exact this
  obtain ⟨-, k0, hk0, cm0, hkk0⟩ := (hK.2.1 3 (by decide)).1 n0 (fun j => .long (f j))
  obtain ⟨-, k1, hk1, cm1, hkk1⟩ := (hK.2.1 3 (by decide)).1 n1 (fun j => .long (f1 j))
  intro T hT X'
  obtain ⟨vm', X2, step⟩ := X'.arraycopy hx hown (hts _ hl) (hts _ hnat) (hts _ hs) (hts _ hi) (src := pm_b G + a0) (dst := pm_b G + a) (srcPos := sp) (destPos := dp) (n := n) (by rw [hT]; exact hat0) (by rw [hT]; exact hat1)
    (fun _ h => by cases h) (fun _ h => by cases h) (fun h => by cases h) (fun h => by cases h) hk0 hk1 hkk0 hkk1 (by simp [pm_ty, refKind]) h1 h2 h3
    (by rw [nn sp h1, nn n h3, arrV_size]; omega) (by rw [nn dp h2, nn n h3, arrV_size]; omega)
    (fun vm₁ _ i hi => by
      have e : (arrV (pm_dA G 3) n0 (fun j => .long (f j))).slots.getD (sp.toNatClampNeg + i) .null = .long (f (sp.toNatClampNeg + i)) := by
        rw [Array.getD_eq_getD_getElem?, arrV_read _ _ (by omega)]
        rfl
      rw [e]
      exact ⟨rfl, trivial⟩)
    (g := F0 m pc lc (.int n :: .int dp :: .ref (pm_b G + a) :: .int sp :: .ref (pm_b G + a0) :: st.map (pm_tr G))) rfl (by show lc.size = _; rw [hlo.1, hml]) (rest := st.map (pm_tr G)) rfl (by rw [hb]; exact hd) (by rw [hfr]; exact hf1) (by show 2 * 0 + _ + _ ≤ _; rw [pm_tr_cats, hlr]; omega)
  have e1 : copied (arrV (pm_dA G 3) n0 (fun j => .long (f j))) (arrV (pm_dA G 3) n1 (fun j => .long (f1 j))) sp dp n = arrV (pm_dA G 3) n1 (fun j => .long (va_cpy f f1 sp.toNatClampNeg dp.toNatClampNeg n.toNatClampNeg j)) := va_copied (fun z => .long z) (pm_dA G 3) (pm_dA G 3) f f1 h4
  rw [e1] at X2 step
  have hlt : pm_b G + a < H.size := (Array.getElem?_eq_some_iff.mp hat1).1
  have hR' : pm_R G z.2.2 (pm_up h a (pm_la n1 (va_cpy f f1 sp.toNatClampNeg dp.toNatClampNeg n.toNatClampNeg))) g (H.setIfInBounds (pm_b G + a) (arrV (pm_dA G 3) n1 (fun j => .long (va_cpy f f1 sp.toNatClampNeg dp.toNatClampNeg n.toNatClampNeg j)))) :=
    hR.put (by simp) (fun q hq => by simp [Array.getElem?_setIfInBounds, Ne.symm hq]) (show (H.setIfInBounds (pm_b G + a) _)[pm_b G + a]? = some _ by simp [Array.getElem?_setIfInBounds, hlt]) (fun _ _ => rfl)
  obtain ⟨t, b1, b2⟩ := kk p e R s m args below meth c _ _ z0 lc X hR' (fun l hl => by
    rcases List.mem_append.mp hl with hl | hl
    · exact hL l hl
    · obtain ⟨x, -, hx⟩ := List.mem_map.mp hl
      rw [← hx]
      exact Nat.le_add_right _ _) hlo a1 a2 a3 a4 a5 a6 _ (by rw [← hT]; rfl) X2
  exact ⟨t, step t b1, b2⟩
end PC
end
section
theorem wd_ini_0 : Jvm.Cond.initialized RX0 ∈ pm_T := pm_inT 39 (by decide +kernel) (by decide +kernel)
theorem pl_0 : plainName RX0 = true := by decide +kernel
theorem wd_ini_1 : Jvm.Cond.initialized RX1 ∈ pm_T := pm_inT 40 (by decide +kernel) (by decide +kernel)
theorem pl_1 : plainName RX1 = true := by decide +kernel
theorem wd_ini_2 : Jvm.Cond.initialized RX2 ∈ pm_T := pm_inT 37 (by decide +kernel) (by decide +kernel)
theorem pl_2 : plainName RX2 = true := by decide +kernel
theorem wd_ini_3 : Jvm.Cond.initialized RX3 ∈ pm_T := pm_inT 36 (by decide +kernel) (by decide +kernel)
theorem pl_3 : plainName RX3 = true := by decide +kernel
theorem wd_ini_4 : Jvm.Cond.initialized RX4 ∈ pm_T := pm_inT 41 (by decide +kernel) (by decide +kernel)
theorem pl_4 : plainName RX4 = true := by decide +kernel
theorem wd_ini_5 : Jvm.Cond.initialized RX5 ∈ pm_T := pm_inT 38 (by decide +kernel) (by decide +kernel)
theorem pl_5 : plainName RX5 = true := by decide +kernel
theorem wd_ini_6 : Jvm.Cond.initialized RX6 ∈ pm_T := pm_inT 35 (by decide +kernel) (by decide +kernel)
theorem pl_6 : plainName RX6 = true := by decide +kernel
theorem wd_ini_7 : Jvm.Cond.initialized RX7 ∈ pm_T := pm_inT 42 (by decide +kernel) (by decide +kernel)
theorem pl_7 : plainName RX7 = true := by decide +kernel
theorem wd_ini_8 : Jvm.Cond.initialized RX8 ∈ pm_T := pm_inT 34 (by decide +kernel) (by decide +kernel)
theorem pl_8 : plainName RX8 = true := by decide +kernel
theorem wd_ini_9 : Jvm.Cond.initialized RX9 ∈ pm_T := pm_inT 43 (by decide +kernel) (by decide +kernel)
theorem pl_9 : plainName RX9 = true := by decide +kernel
theorem wd_ini_L : Jvm.Cond.initialized RL ∈ pm_T := pm_inT 33 (by decide +kernel) (by decide +kernel)
theorem pl_L : plainName RL = true := by decide +kernel
theorem wd_ini_math : Jvm.Cond.initialized "java/lang/Math" ∈ pm_T := pm_inT 45 (by decide +kernel) (by decide +kernel)
theorem wd_ini_sys : Jvm.Cond.initialized "java/lang/System" ∈ pm_T := pm_inT 44 (by decide +kernel) (by decide +kernel)
theorem wd_oi_i : Jvm.Cond.instanceMethod Lib.objectInit ∈ pm_T := pm_inT 56 (by decide +kernel) (by decide +kernel)
theorem wd_oi_c : Jvm.Cond.code Lib.objectInit ⟨#[0xb1]⟩ 1 none ∈ pm_T := pm_inT 57 (by decide +kernel) (by decide +kernel)
theorem wd_abs_s : Jvm.Cond.static Lib.Math.abs.name ∈ pm_T := pm_inT 456 (by decide +kernel) (by decide +kernel)
theorem wd_abs_c : Jvm.Cond.code Lib.Math.abs.name Lib.Math.abs.code 1 (some .int) ∈ pm_T := pm_inT 457 (by decide +kernel) (by decide +kernel)
theorem wd_min_s : Jvm.Cond.static Lib.Math.min.name ∈ pm_T := pm_inT 630 (by decide +kernel) (by decide +kernel)
theorem wd_min_c : Jvm.Cond.code Lib.Math.min.name Lib.Math.min.code 2 (some .int) ∈ pm_T := pm_inT 631 (by decide +kernel) (by decide +kernel)
theorem wd_max_s : Jvm.Cond.static Lib.Math.max.name ∈ pm_T := pm_inT 624 (by decide +kernel) (by decide +kernel)
theorem wd_max_c : Jvm.Cond.code Lib.Math.max.name Lib.Math.max.code 2 (some .int) ∈ pm_T := pm_inT 625 (by decide +kernel) (by decide +kernel)
theorem wd_cp_s : Jvm.Cond.static arraycopyName ∈ pm_T := pm_inT 413 (by decide +kernel) (by decide +kernel)
theorem wd_cp_n : Jvm.Cond.native arraycopyName ∈ pm_T := pm_inT 414 (by decide +kernel) (by decide +kernel)
abbrev mX0_init : pm_M := (yX0_init, cX0_init, 3, none, 1, 24)
theorem okX0_init : pm_ok mX0_init 2 := ⟨pm_inT 137 (by decide +kernel) (by decide +kernel), wd_ini_0, by decide, by decide, by decide +kernel⟩
theorem ivX0_init : Jvm.Cond.instanceMethod (pm_y mX0_init) ∈ pm_T := pm_inT 136 (by decide +kernel) (by decide +kernel)
abbrev mX0_mendings : pm_M := (yX0_mendings, cX0_mendings, 1, (some .int), 0, 0)
theorem okX0_mendings : pm_ok mX0_mendings 0 := ⟨pm_inT 654 (by decide +kernel) (by decide +kernel), wd_ini_0, by decide, by decide, by decide +kernel⟩
theorem ivX0_mendings : pm_iv mX0_mendings := ⟨pm_inT 652 (by decide +kernel) (by decide +kernel), pm_inT 653 (by decide +kernel) (by decide +kernel)⟩
abbrev mX0_forget : pm_M := (yX0_forget, cX0_forget, 2, none, 0, 0)
theorem okX0_forget : pm_ok mX0_forget 0 := ⟨pm_inT 351 (by decide +kernel) (by decide +kernel), wd_ini_0, by decide, by decide, by decide +kernel⟩
theorem ivX0_forget : pm_iv mX0_forget := ⟨pm_inT 349 (by decide +kernel) (by decide +kernel), pm_inT 350 (by decide +kernel) (by decide +kernel)⟩
abbrev mX0_hear : pm_M := (yX0_hear, cX0_hear, 4, (some .int), 5, 109)
theorem okX0_hear : pm_ok mX0_hear 2 := ⟨pm_inT 608 (by decide +kernel) (by decide +kernel), wd_ini_0, by decide, by decide, by decide +kernel⟩
theorem ivX0_hear : pm_iv mX0_hear := ⟨pm_inT 606 (by decide +kernel) (by decide +kernel), pm_inT 607 (by decide +kernel) (by decide +kernel)⟩
abbrev mX0_hearAgainst : pm_M := (yX0_hearAgainst, cX0_hearAgainst, 5, (some .int), 4, 85)
theorem okX0_hearAgainst : pm_ok mX0_hearAgainst 3 := ⟨pm_inT 622 (by decide +kernel) (by decide +kernel), wd_ini_0, by decide, by decide, by decide +kernel⟩
theorem ivX0_hearAgainst : pm_iv mX0_hearAgainst := ⟨pm_inT 621 (by decide +kernel) (by decide +kernel), pm_inT 16 (by decide +kernel) (by decide +kernel)⟩
abbrev mX0_mend : pm_M := (yX0_mend, cX0_mend, 3, (some .int), 3, 63)
theorem okX0_mend : pm_ok mX0_mend 2 := ⟨pm_inT 613 (by decide +kernel) (by decide +kernel), wd_ini_0, by decide, by decide, by decide +kernel⟩
theorem ivX0_mend : pm_iv mX0_mend := ⟨pm_inT 612 (by decide +kernel) (by decide +kernel), pm_inT 15 (by decide +kernel) (by decide +kernel)⟩
abbrev mX0_middle : pm_M := (yX0_middle, cX0_middle, 3, (some .int), 1, 24)
theorem okX0_middle : pm_ok mX0_middle 3 := ⟨pm_inT 628 (by decide +kernel) (by decide +kernel), wd_ini_0, by decide, by decide, by decide +kernel⟩
theorem stX0_middle : Jvm.Cond.static (pm_y mX0_middle) ∈ pm_T := pm_inT 627 (by decide +kernel) (by decide +kernel)
abbrev mX1_init : pm_M := (yX1_init, cX1_init, 4, none, 1, 24)
theorem okX1_init : pm_ok mX1_init 3 := ⟨pm_inT 162 (by decide +kernel) (by decide +kernel), wd_ini_1, by decide, by decide, by decide +kernel⟩
theorem ivX1_init : Jvm.Cond.instanceMethod (pm_y mX1_init) ∈ pm_T := pm_inT 161 (by decide +kernel) (by decide +kernel)
abbrev mX1_losses : pm_M := (yX1_losses, cX1_losses, 1, (some .int), 0, 0)
theorem okX1_losses : pm_ok mX1_losses 0 := ⟨pm_inT 650 (by decide +kernel) (by decide +kernel), wd_ini_1, by decide, by decide, by decide +kernel⟩
theorem ivX1_losses : pm_iv mX1_losses := ⟨pm_inT 648 (by decide +kernel) (by decide +kernel), pm_inT 649 (by decide +kernel) (by decide +kernel)⟩
abbrev mX1_forgetLosses : pm_M := (yX1_forgetLosses, cX1_forgetLosses, 1, none, 0, 0)
theorem okX1_forgetLosses : pm_ok mX1_forgetLosses 0 := ⟨pm_inT 355 (by decide +kernel) (by decide +kernel), wd_ini_1, by decide, by decide, by decide +kernel⟩
theorem ivX1_forgetLosses : pm_iv mX1_forgetLosses := ⟨pm_inT 353 (by decide +kernel) (by decide +kernel), pm_inT 354 (by decide +kernel) (by decide +kernel)⟩
abbrev mX1_start : pm_M := (yX1_start, cX1_start, 3, none, 2, 41)
theorem okX1_start : pm_ok mX1_start 1 := ⟨pm_inT 264 (by decide +kernel) (by decide +kernel), wd_ini_1, by decide, by decide, by decide +kernel⟩
theorem ivX1_start : pm_iv mX1_start := ⟨pm_inT 262 (by decide +kernel) (by decide +kernel), pm_inT 263 (by decide +kernel) (by decide +kernel)⟩
abbrev mX1_fly : pm_M := (yX1_fly, cX1_fly, 7, (some .boolean), 4, 83)
theorem okX1_fly : pm_ok mX1_fly 2 := ⟨pm_inT 383 (by decide +kernel) (by decide +kernel), wd_ini_1, by decide, by decide, by decide +kernel⟩
theorem ivX1_fly : pm_iv mX1_fly := ⟨pm_inT 381 (by decide +kernel) (by decide +kernel), pm_inT 382 (by decide +kernel) (by decide +kernel)⟩
abbrev mX1_clearMoved : pm_M := (yX1_clearMoved, cX1_clearMoved, 2, none, 0, 0)
theorem okX1_clearMoved : pm_ok mX1_clearMoved 0 := ⟨pm_inT 387 (by decide +kernel) (by decide +kernel), wd_ini_1, by decide, by decide, by decide +kernel⟩
theorem ivX1_clearMoved : pm_iv mX1_clearMoved := ⟨pm_inT 386 (by decide +kernel) (by decide +kernel), pm_inT 0 (by decide +kernel) (by decide +kernel)⟩
abbrev mX1_spread : pm_M := (yX1_spread, cX1_spread, 8, none, 1, 22)
theorem okX1_spread : pm_ok mX1_spread 3 := ⟨pm_inT 407 (by decide +kernel) (by decide +kernel), wd_ini_1, by decide, by decide, by decide +kernel⟩
theorem ivX1_spread : pm_iv mX1_spread := ⟨pm_inT 406 (by decide +kernel) (by decide +kernel), pm_inT 1 (by decide +kernel) (by decide +kernel)⟩
abbrev mX1_sight : pm_M := (yX1_sight, cX1_sight, 2, (some .boolean), 4, 84)
theorem okX1_sight : pm_ok mX1_sight 1 := ⟨pm_inT 441 (by decide +kernel) (by decide +kernel), wd_ini_1, by decide, by decide, by decide +kernel⟩
theorem ivX1_sight : pm_iv mX1_sight := ⟨pm_inT 439 (by decide +kernel) (by decide +kernel), pm_inT 440 (by decide +kernel) (by decide +kernel)⟩
abbrev mX1_dropUnfit : pm_M := (yX1_dropUnfit, cX1_dropUnfit, 3, none, 3, 62)
theorem okX1_dropUnfit : pm_ok mX1_dropUnfit 1 := ⟨pm_inT 445 (by decide +kernel) (by decide +kernel), wd_ini_1, by decide, by decide, by decide +kernel⟩
theorem ivX1_dropUnfit : pm_iv mX1_dropUnfit := ⟨pm_inT 444 (by decide +kernel) (by decide +kernel), pm_inT 3 (by decide +kernel) (by decide +kernel)⟩
abbrev mX1_beginAgain : pm_M := (yX1_beginAgain, cX1_beginAgain, 1, none, 3, 63)
theorem okX1_beginAgain : pm_ok mX1_beginAgain 0 := ⟨pm_inT 422 (by decide +kernel) (by decide +kernel), wd_ini_1, by decide, by decide, by decide +kernel⟩
theorem ivX1_beginAgain : pm_iv mX1_beginAgain := ⟨pm_inT 421 (by decide +kernel) (by decide +kernel), pm_inT 2 (by decide +kernel) (by decide +kernel)⟩
abbrev mX1_shareOf : pm_M := (yX1_shareOf, cX1_shareOf, 2, (some .long), 0, 0)
theorem okX1_shareOf : pm_ok mX1_shareOf 1 := ⟨pm_inT 403 (by decide +kernel) (by decide +kernel), wd_ini_1, by decide, by decide, by decide +kernel⟩
theorem ivX1_shareOf : pm_iv mX1_shareOf := ⟨pm_inT 401 (by decide +kernel) (by decide +kernel), pm_inT 402 (by decide +kernel) (by decide +kernel)⟩
abbrev mX1_total : pm_M := (yX1_total, cX1_total, 4, (some .long), 0, 0)
theorem okX1_total : pm_ok mX1_total 0 := ⟨pm_inT 728 (by decide +kernel) (by decide +kernel), wd_ini_1, by decide, by decide, by decide +kernel⟩
theorem ivX1_total : pm_iv mX1_total := ⟨pm_inT 726 (by decide +kernel) (by decide +kernel), pm_inT 727 (by decide +kernel) (by decide +kernel)⟩
abbrev mX1_holders : pm_M := (yX1_holders, cX1_holders, 3, (some .int), 0, 0)
theorem okX1_holders : pm_ok mX1_holders 0 := ⟨pm_inT 418 (by decide +kernel) (by decide +kernel), wd_ini_1, by decide, by decide, by decide +kernel⟩
theorem ivX1_holders : pm_iv mX1_holders := ⟨pm_inT 416 (by decide +kernel) (by decide +kernel), pm_inT 417 (by decide +kernel) (by decide +kernel)⟩
abbrev mX1_likeliest : pm_M := (yX1_likeliest, cX1_likeliest, 3, (some .int), 0, 0)
theorem okX1_likeliest : pm_ok mX1_likeliest 0 := ⟨pm_inT 469 (by decide +kernel) (by decide +kernel), wd_ini_1, by decide, by decide, by decide +kernel⟩
theorem ivX1_likeliest : pm_iv mX1_likeliest := ⟨pm_inT 467 (by decide +kernel) (by decide +kernel), pm_inT 468 (by decide +kernel) (by decide +kernel)⟩
abbrev mX1_edge : pm_M := (yX1_edge, cX1_edge, 7, (some .int), 1, 22)
theorem okX1_edge : pm_ok mX1_edge 1 := ⟨pm_inT 477 (by decide +kernel) (by decide +kernel), wd_ini_1, by decide, by decide, by decide +kernel⟩
theorem ivX1_edge : pm_iv mX1_edge := ⟨pm_inT 475 (by decide +kernel) (by decide +kernel), pm_inT 476 (by decide +kernel) (by decide +kernel)⟩
abbrev mX2_init : pm_M := (yX2_init, cX2_init, 1, none, 1, 24)
theorem okX2_init : pm_ok mX2_init 0 := ⟨pm_inT 93 (by decide +kernel) (by decide +kernel), wd_ini_2, by decide, by decide, by decide +kernel⟩
theorem ivX2_init : Jvm.Cond.instanceMethod (pm_y mX2_init) ∈ pm_T := pm_inT 92 (by decide +kernel) (by decide +kernel)
abbrev mX2_err : pm_M := (yX2_err, cX2_err, 1, (some .int), 0, 0)
theorem okX2_err : pm_ok mX2_err 0 := ⟨pm_inT 646 (by decide +kernel) (by decide +kernel), wd_ini_2, by decide, by decide, by decide +kernel⟩
theorem ivX2_err : pm_iv mX2_err := ⟨pm_inT 644 (by decide +kernel) (by decide +kernel), pm_inT 645 (by decide +kernel) (by decide +kernel)⟩
abbrev mX2_set : pm_M := (yX2_set, cX2_set, 4, (some .boolean), 0, 0)
theorem okX2_set : pm_ok mX2_set 3 := ⟨pm_inT 363 (by decide +kernel) (by decide +kernel), wd_ini_2, by decide, by decide, by decide +kernel⟩
theorem ivX2_set : pm_iv mX2_set := ⟨pm_inT 361 (by decide +kernel) (by decide +kernel), pm_inT 362 (by decide +kernel) (by decide +kernel)⟩
abbrev mX2_weight : pm_M := (yX2_weight, cX2_weight, 3, (some .int), 0, 0)
theorem okX2_weight : pm_ok mX2_weight 2 := ⟨pm_inT 411 (by decide +kernel) (by decide +kernel), wd_ini_2, by decide, by decide, by decide +kernel⟩
theorem ivX2_weight : pm_iv mX2_weight := ⟨pm_inT 409 (by decide +kernel) (by decide +kernel), pm_inT 410 (by decide +kernel) (by decide +kernel)⟩
abbrev mX2_fits : pm_M := (yX2_fits, cX2_fits, 3, (some .boolean), 1, 24)
theorem okX2_fits : pm_ok mX2_fits 2 := ⟨pm_inT 454 (by decide +kernel) (by decide +kernel), wd_ini_2, by decide, by decide, by decide +kernel⟩
theorem ivX2_fits : pm_iv mX2_fits := ⟨pm_inT 452 (by decide +kernel) (by decide +kernel), pm_inT 453 (by decide +kernel) (by decide +kernel)⟩
abbrev mX2_alike : pm_M := (yX2_alike, cX2_alike, 3, (some .boolean), 1, 24)
theorem okX2_alike : pm_ok mX2_alike 2 := ⟨pm_inT 584 (by decide +kernel) (by decide +kernel), wd_ini_2, by decide, by decide, by decide +kernel⟩
theorem ivX2_alike : pm_iv mX2_alike := ⟨pm_inT 582 (by decide +kernel) (by decide +kernel), pm_inT 583 (by decide +kernel) (by decide +kernel)⟩
abbrev mX3_init : pm_M := (yX3_init, cX3_init, 2, none, 1, 24)
theorem okX3_init : pm_ok mX3_init 0 := ⟨pm_inT 76 (by decide +kernel) (by decide +kernel), wd_ini_3, by decide, by decide, by decide +kernel⟩
theorem ivX3_init : Jvm.Cond.instanceMethod (pm_y mX3_init) ∈ pm_T := pm_inT 75 (by decide +kernel) (by decide +kernel)
abbrev mX3_width : pm_M := (yX3_width, cX3_width, 1, (some .int), 0, 0)
theorem okX3_width : pm_ok mX3_width 0 := ⟨pm_inT 395 (by decide +kernel) (by decide +kernel), wd_ini_3, by decide, by decide, by decide +kernel⟩
theorem ivX3_width : pm_iv mX3_width := ⟨pm_inT 393 (by decide +kernel) (by decide +kernel), pm_inT 394 (by decide +kernel) (by decide +kernel)⟩
abbrev mX3_depth : pm_M := (yX3_depth, cX3_depth, 1, (some .int), 0, 0)
theorem okX3_depth : pm_ok mX3_depth 0 := ⟨pm_inT 391 (by decide +kernel) (by decide +kernel), wd_ini_3, by decide, by decide, by decide +kernel⟩
theorem ivX3_depth : pm_iv mX3_depth := ⟨pm_inT 389 (by decide +kernel) (by decide +kernel), pm_inT 390 (by decide +kernel) (by decide +kernel)⟩
abbrev mX3_cells : pm_M := (yX3_cells, cX3_cells, 1, (some .int), 0, 0)
theorem okX3_cells : pm_ok mX3_cells 0 := ⟨pm_inT 276 (by decide +kernel) (by decide +kernel), wd_ini_3, by decide, by decide, by decide +kernel⟩
theorem ivX3_cells : pm_iv mX3_cells := ⟨pm_inT 274 (by decide +kernel) (by decide +kernel), pm_inT 275 (by decide +kernel) (by decide +kernel)⟩
abbrev mX3_has : pm_M := (yX3_has, cX3_has, 2, (some .boolean), 1, 20)
theorem okX3_has : pm_ok mX3_has 1 := ⟨pm_inT 272 (by decide +kernel) (by decide +kernel), wd_ini_3, by decide, by decide, by decide +kernel⟩
theorem ivX3_has : pm_iv mX3_has := ⟨pm_inT 270 (by decide +kernel) (by decide +kernel), pm_inT 271 (by decide +kernel) (by decide +kernel)⟩
abbrev mX3_cellAt : pm_M := (yX3_cellAt, cX3_cellAt, 3, (some .int), 0, 0)
theorem okX3_cellAt : pm_ok mX3_cellAt 2 := ⟨pm_inT 399 (by decide +kernel) (by decide +kernel), wd_ini_3, by decide, by decide, by decide +kernel⟩
theorem ivX3_cellAt : pm_iv mX3_cellAt := ⟨pm_inT 397 (by decide +kernel) (by decide +kernel), pm_inT 398 (by decide +kernel) (by decide +kernel)⟩
abbrev mX3_heightOf : pm_M := (yX3_heightOf, cX3_heightOf, 2, (some .int), 2, 41)
theorem okX3_heightOf : pm_ok mX3_heightOf 1 := ⟨pm_inT 449 (by decide +kernel) (by decide +kernel), wd_ini_3, by decide, by decide, by decide +kernel⟩
theorem ivX3_heightOf : pm_iv mX3_heightOf := ⟨pm_inT 447 (by decide +kernel) (by decide +kernel), pm_inT 448 (by decide +kernel) (by decide +kernel)⟩
abbrev mX3_setHeight : pm_M := (yX3_setHeight, cX3_setHeight, 3, none, 2, 41)
theorem okX3_setHeight : pm_ok mX3_setHeight 2 := ⟨pm_inT 617 (by decide +kernel) (by decide +kernel), wd_ini_3, by decide, by decide, by decide +kernel⟩
theorem ivX3_setHeight : pm_iv mX3_setHeight := ⟨pm_inT 615 (by decide +kernel) (by decide +kernel), pm_inT 616 (by decide +kernel) (by decide +kernel)⟩
abbrev mX3_tell : pm_M := (yX3_tell, cX3_tell, 6, (some .boolean), 3, 64)
theorem okX3_tell : pm_ok mX3_tell 3 := ⟨pm_inT 329 (by decide +kernel) (by decide +kernel), wd_ini_3, by decide, by decide, by decide +kernel⟩
theorem ivX3_tell : pm_iv mX3_tell := ⟨pm_inT 327 (by decide +kernel) (by decide +kernel), pm_inT 328 (by decide +kernel) (by decide +kernel)⟩
abbrev mX3_isSide : pm_M := (yX3_isSide, cX3_isSide, 1, (some .boolean), 0, 0)
theorem okX3_isSide : pm_ok mX3_isSide 1 := ⟨pm_inT 332 (by decide +kernel) (by decide +kernel), wd_ini_3, by decide, by decide, by decide +kernel⟩
theorem stX3_isSide : Jvm.Cond.static (pm_y mX3_isSide) ∈ pm_T := pm_inT 331 (by decide +kernel) (by decide +kernel)
abbrev mX3_allHeights : pm_M := (yX3_allHeights, cX3_allHeights, 3, (some .boolean), 2, 42)
theorem okX3_allHeights : pm_ok mX3_allHeights 1 := ⟨pm_inT 336 (by decide +kernel) (by decide +kernel), wd_ini_3, by decide, by decide, by decide +kernel⟩
theorem stX3_allHeights : Jvm.Cond.static (pm_y mX3_allHeights) ∈ pm_T := pm_inT 335 (by decide +kernel) (by decide +kernel)
abbrev mX4_init : pm_M := (yX4_init, cX4_init, 4, none, 1, 24)
theorem okX4_init : pm_ok mX4_init 3 := ⟨pm_inT 188 (by decide +kernel) (by decide +kernel), wd_ini_4, by decide, by decide, by decide +kernel⟩
theorem ivX4_init : Jvm.Cond.instanceMethod (pm_y mX4_init) ∈ pm_T := pm_inT 187 (by decide +kernel) (by decide +kernel)
abbrev mX4_cellOfPath : pm_M := (yX4_cellOfPath, cX4_cellOfPath, 2, (some .int), 0, 0)
theorem okX4_cellOfPath : pm_ok mX4_cellOfPath 1 := ⟨pm_inT 545 (by decide +kernel) (by decide +kernel), wd_ini_4, by decide, by decide, by decide +kernel⟩
theorem ivX4_cellOfPath : pm_iv mX4_cellOfPath := ⟨pm_inT 543 (by decide +kernel) (by decide +kernel), pm_inT 544 (by decide +kernel) (by decide +kernel)⟩
abbrev mX4_findBest : pm_M := (yX4_findBest, cX4_findBest, 2, (some .int), 5, 113)
theorem okX4_findBest : pm_ok mX4_findBest 0 := ⟨pm_inT 485 (by decide +kernel) (by decide +kernel), wd_ini_4, by decide, by decide, by decide +kernel⟩
theorem ivX4_findBest : pm_iv mX4_findBest := ⟨pm_inT 483 (by decide +kernel) (by decide +kernel), pm_inT 484 (by decide +kernel) (by decide +kernel)⟩
abbrev mX4_rateEnds : pm_M := (yX4_rateEnds, cX4_rateEnds, 2, none, 3, 62)
theorem okX4_rateEnds : pm_ok mX4_rateEnds 0 := ⟨pm_inT 489 (by decide +kernel) (by decide +kernel), wd_ini_4, by decide, by decide, by decide +kernel⟩
theorem ivX4_rateEnds : pm_iv mX4_rateEnds := ⟨pm_inT 488 (by decide +kernel) (by decide +kernel), pm_inT 4 (by decide +kernel) (by decide +kernel)⟩
abbrev mX4_stepBack : pm_M := (yX4_stepBack, cX4_stepBack, 4, none, 4, 90)
theorem okX4_stepBack : pm_ok mX4_stepBack 1 := ⟨pm_inT 502 (by decide +kernel) (by decide +kernel), wd_ini_4, by decide, by decide, by decide +kernel⟩
theorem ivX4_stepBack : pm_iv mX4_stepBack := ⟨pm_inT 501 (by decide +kernel) (by decide +kernel), pm_inT 5 (by decide +kernel) (by decide +kernel)⟩
abbrev mX4_rate : pm_M := (yX4_rate, cX4_rate, 9, none, 3, 62)
theorem okX4_rate : pm_ok mX4_rate 4 := ⟨pm_inT 517 (by decide +kernel) (by decide +kernel), wd_ini_4, by decide, by decide, by decide +kernel⟩
theorem ivX4_rate : pm_iv mX4_rate := ⟨pm_inT 516 (by decide +kernel) (by decide +kernel), pm_inT 6 (by decide +kernel) (by decide +kernel)⟩
abbrev mX4_leads : pm_M := (yX4_leads, cX4_leads, 4, (some .boolean), 1, 25)
theorem okX4_leads : pm_ok mX4_leads 3 := ⟨pm_inT 522 (by decide +kernel) (by decide +kernel), wd_ini_4, by decide, by decide, by decide +kernel⟩
theorem ivX4_leads : pm_iv mX4_leads := ⟨pm_inT 521 (by decide +kernel) (by decide +kernel), pm_inT 7 (by decide +kernel) (by decide +kernel)⟩
abbrev mX4_isBetter : pm_M := (yX4_isBetter, cX4_isBetter, 6, (some .boolean), 0, 0)
theorem okX4_isBetter : pm_ok mX4_isBetter 4 := ⟨pm_inT 525 (by decide +kernel) (by decide +kernel), wd_ini_4, by decide, by decide, by decide +kernel⟩
theorem stX4_isBetter : Jvm.Cond.static (pm_y mX4_isBetter) ∈ pm_T := pm_inT 524 (by decide +kernel) (by decide +kernel)
abbrev mX4_bestFirst : pm_M := (yX4_bestFirst, cX4_bestFirst, 4, (some .int), 1, 25)
theorem okX4_bestFirst : pm_ok mX4_bestFirst 0 := ⟨pm_inT 529 (by decide +kernel) (by decide +kernel), wd_ini_4, by decide, by decide, by decide +kernel⟩
theorem ivX4_bestFirst : pm_iv mX4_bestFirst := ⟨pm_inT 528 (by decide +kernel) (by decide +kernel), pm_inT 8 (by decide +kernel) (by decide +kernel)⟩
abbrev mX4_keepPath : pm_M := (yX4_keepPath, cX4_keepPath, 5, none, 1, 20)
theorem okX4_keepPath : pm_ok mX4_keepPath 1 := ⟨pm_inT 537 (by decide +kernel) (by decide +kernel), wd_ini_4, by decide, by decide, by decide +kernel⟩
theorem ivX4_keepPath : pm_iv mX4_keepPath := ⟨pm_inT 536 (by decide +kernel) (by decide +kernel), pm_inT 9 (by decide +kernel) (by decide +kernel)⟩
abbrev mX5_init : pm_M := (yX5_init, cX5_init, 1, none, 1, 24)
theorem okX5_init : pm_ok mX5_init 0 := ⟨pm_inT 109 (by decide +kernel) (by decide +kernel), wd_ini_5, by decide, by decide, by decide +kernel⟩
theorem ivX5_init : Jvm.Cond.instanceMethod (pm_y mX5_init) ∈ pm_T := pm_inT 108 (by decide +kernel) (by decide +kernel)
abbrev mX5_moves : pm_M := (yX5_moves, cX5_moves, 1, (some .int), 0, 0)
theorem okX5_moves : pm_ok mX5_moves 0 := ⟨pm_inT 379 (by decide +kernel) (by decide +kernel), wd_ini_5, by decide, by decide, by decide +kernel⟩
theorem ivX5_moves : pm_iv mX5_moves := ⟨pm_inT 377 (by decide +kernel) (by decide +kernel), pm_inT 378 (by decide +kernel) (by decide +kernel)⟩
abbrev mX5_readings : pm_M := (yX5_readings, cX5_readings, 1, (some .int), 0, 0)
theorem okX5_readings : pm_ok mX5_readings 0 := ⟨pm_inT 437 (by decide +kernel) (by decide +kernel), wd_ini_5, by decide, by decide, by decide +kernel⟩
theorem ivX5_readings : pm_iv mX5_readings := ⟨pm_inT 435 (by decide +kernel) (by decide +kernel), pm_inT 436 (by decide +kernel) (by decide +kernel)⟩
abbrev mX5_start : pm_M := (yX5_start, cX5_start, 1, (some .int), 0, 0)
theorem okX5_start : pm_ok mX5_start 0 := ⟨pm_inT 533 (by decide +kernel) (by decide +kernel), wd_ini_5, by decide, by decide, by decide +kernel⟩
theorem ivX5_start : pm_iv mX5_start := ⟨pm_inT 531 (by decide +kernel) (by decide +kernel), pm_inT 532 (by decide +kernel) (by decide +kernel)⟩
abbrev mX5_restart : pm_M := (yX5_restart, cX5_restart, 2, none, 0, 0)
theorem okX5_restart : pm_ok mX5_restart 1 := ⟨pm_inT 268 (by decide +kernel) (by decide +kernel), wd_ini_5, by decide, by decide, by decide +kernel⟩
theorem ivX5_restart : pm_iv mX5_restart := ⟨pm_inT 266 (by decide +kernel) (by decide +kernel), pm_inT 267 (by decide +kernel) (by decide +kernel)⟩
abbrev mX5_addMove : pm_M := (yX5_addMove, cX5_addMove, 3, none, 0, 0)
theorem okX5_addMove : pm_ok mX5_addMove 2 := ⟨pm_inT 427 (by decide +kernel) (by decide +kernel), wd_ini_5, by decide, by decide, by decide +kernel⟩
theorem ivX5_addMove : pm_iv mX5_addMove := ⟨pm_inT 425 (by decide +kernel) (by decide +kernel), pm_inT 426 (by decide +kernel) (by decide +kernel)⟩
abbrev mX5_addReading : pm_M := (yX5_addReading, cX5_addReading, 2, none, 0, 0)
theorem okX5_addReading : pm_ok mX5_addReading 1 := ⟨pm_inT 461 (by decide +kernel) (by decide +kernel), wd_ini_5, by decide, by decide, by decide +kernel⟩
theorem ivX5_addReading : pm_iv mX5_addReading := ⟨pm_inT 459 (by decide +kernel) (by decide +kernel), pm_inT 460 (by decide +kernel) (by decide +kernel)⟩
abbrev mX5_dx : pm_M := (yX5_dx, cX5_dx, 2, (some .int), 0, 0)
theorem okX5_dx : pm_ok mX5_dx 1 := ⟨pm_inT 509 (by decide +kernel) (by decide +kernel), wd_ini_5, by decide, by decide, by decide +kernel⟩
theorem ivX5_dx : pm_iv mX5_dx := ⟨pm_inT 507 (by decide +kernel) (by decide +kernel), pm_inT 508 (by decide +kernel) (by decide +kernel)⟩
abbrev mX5_dy : pm_M := (yX5_dy, cX5_dy, 2, (some .int), 0, 0)
theorem okX5_dy : pm_ok mX5_dy 1 := ⟨pm_inT 513 (by decide +kernel) (by decide +kernel), wd_ini_5, by decide, by decide, by decide +kernel⟩
theorem ivX5_dy : pm_iv mX5_dy := ⟨pm_inT 511 (by decide +kernel) (by decide +kernel), pm_inT 512 (by decide +kernel) (by decide +kernel)⟩
abbrev mX5_faultAt : pm_M := (yX5_faultAt, cX5_faultAt, 5, (some .int), 1, 24)
theorem okX5_faultAt : pm_ok mX5_faultAt 2 := ⟨pm_inT 496 (by decide +kernel) (by decide +kernel), wd_ini_5, by decide, by decide, by decide +kernel⟩
theorem ivX5_faultAt : pm_iv mX5_faultAt := ⟨pm_inT 494 (by decide +kernel) (by decide +kernel), pm_inT 495 (by decide +kernel) (by decide +kernel)⟩
abbrev mX6_init : pm_M := (yX6_init, cX6_init, 1, none, 1, 24)
theorem okX6_init : pm_ok mX6_init 0 := ⟨pm_inT 62 (by decide +kernel) (by decide +kernel), wd_ini_6, by decide, by decide, by decide +kernel⟩
theorem ivX6_init : Jvm.Cond.instanceMethod (pm_y mX6_init) ∈ pm_T := pm_inT 61 (by decide +kernel) (by decide +kernel)
abbrev mX6_size : pm_M := (yX6_size, cX6_size, 1, (some .int), 0, 0)
theorem okX6_size : pm_ok mX6_size 0 := ⟨pm_inT 309 (by decide +kernel) (by decide +kernel), wd_ini_6, by decide, by decide, by decide +kernel⟩
theorem ivX6_size : pm_iv mX6_size := ⟨pm_inT 307 (by decide +kernel) (by decide +kernel), pm_inT 308 (by decide +kernel) (by decide +kernel)⟩
abbrev mX6_append : pm_M := (yX6_append, cX6_append, 3, none, 0, 0)
theorem okX6_append : pm_ok mX6_append 1 := ⟨pm_inT 313 (by decide +kernel) (by decide +kernel), wd_ini_6, by decide, by decide, by decide +kernel⟩
theorem ivX6_append : pm_iv mX6_append := ⟨pm_inT 311 (by decide +kernel) (by decide +kernel), pm_inT 312 (by decide +kernel) (by decide +kernel)⟩
abbrev mX6_cut : pm_M := (yX6_cut, cX6_cut, 2, (some .boolean), 0, 0)
theorem okX6_cut : pm_ok mX6_cut 1 := ⟨pm_inT 321 (by decide +kernel) (by decide +kernel), wd_ini_6, by decide, by decide, by decide +kernel⟩
theorem ivX6_cut : pm_iv mX6_cut := ⟨pm_inT 319 (by decide +kernel) (by decide +kernel), pm_inT 320 (by decide +kernel) (by decide +kernel)⟩
abbrev mX6_signedAt : pm_M := (yX6_signedAt, cX6_signedAt, 2, (some .int), 0, 0)
theorem okX6_signedAt : pm_ok mX6_signedAt 1 := ⟨pm_inT 344 (by decide +kernel) (by decide +kernel), wd_ini_6, by decide, by decide, by decide +kernel⟩
theorem ivX6_signedAt : pm_iv mX6_signedAt := ⟨pm_inT 342 (by decide +kernel) (by decide +kernel), pm_inT 343 (by decide +kernel) (by decide +kernel)⟩
abbrev mX6_unsignedAt : pm_M := (yX6_unsignedAt, cX6_unsignedAt, 2, (some .int), 1, 21)
theorem okX6_unsignedAt : pm_ok mX6_unsignedAt 1 := ⟨pm_inT 340 (by decide +kernel) (by decide +kernel), wd_ini_6, by decide, by decide, by decide +kernel⟩
theorem ivX6_unsignedAt : pm_iv mX6_unsignedAt := ⟨pm_inT 338 (by decide +kernel) (by decide +kernel), pm_inT 339 (by decide +kernel) (by decide +kernel)⟩
abbrev mX7_init : pm_M := (yX7_init, cX7_init, 4, none, 1, 24)
theorem okX7_init : pm_ok mX7_init 3 := ⟨pm_inT 225 (by decide +kernel) (by decide +kernel), wd_ini_7, by decide, by decide, by decide +kernel⟩
theorem ivX7_init : Jvm.Cond.instanceMethod (pm_y mX7_init) ∈ pm_T := pm_inT 224 (by decide +kernel) (by decide +kernel)
abbrev mX7_firstPair : pm_M := (yX7_firstPair, cX7_firstPair, 1, (some .int), 0, 0)
theorem okX7_firstPair : pm_ok mX7_firstPair 0 := ⟨pm_inT 592 (by decide +kernel) (by decide +kernel), wd_ini_7, by decide, by decide, by decide +kernel⟩
theorem ivX7_firstPair : pm_iv mX7_firstPair := ⟨pm_inT 590 (by decide +kernel) (by decide +kernel), pm_inT 591 (by decide +kernel) (by decide +kernel)⟩
abbrev mX7_twinsOfTape : pm_M := (yX7_twinsOfTape, cX7_twinsOfTape, 2, (some .int), 6, 134)
theorem okX7_twinsOfTape : pm_ok mX7_twinsOfTape 0 := ⟨pm_inT 553 (by decide +kernel) (by decide +kernel), wd_ini_7, by decide, by decide, by decide +kernel⟩
theorem ivX7_twinsOfTape : pm_iv mX7_twinsOfTape := ⟨pm_inT 551 (by decide +kernel) (by decide +kernel), pm_inT 552 (by decide +kernel) (by decide +kernel)⟩
abbrev mX7_tellingRoute : pm_M := (yX7_tellingRoute, cX7_tellingRoute, 7, (some .int), 6, 134)
theorem okX7_tellingRoute : pm_ok mX7_tellingRoute 1 := ⟨pm_inT 600 (by decide +kernel) (by decide +kernel), wd_ini_7, by decide, by decide, by decide +kernel⟩
theorem ivX7_tellingRoute : pm_iv mX7_tellingRoute := ⟨pm_inT 598 (by decide +kernel) (by decide +kernel), pm_inT 599 (by decide +kernel) (by decide +kernel)⟩
abbrev mX7_countTwins : pm_M := (yX7_countTwins, cX7_countTwins, 6, (some .int), 5, 109)
theorem okX7_countTwins : pm_ok mX7_countTwins 2 := ⟨pm_inT 558 (by decide +kernel) (by decide +kernel), wd_ini_7, by decide, by decide, by decide +kernel⟩
theorem ivX7_countTwins : pm_iv mX7_countTwins := ⟨pm_inT 557 (by decide +kernel) (by decide +kernel), pm_inT 10 (by decide +kernel) (by decide +kernel)⟩
abbrev mX7_layRoute : pm_M := (yX7_layRoute, cX7_layRoute, 6, (some .boolean), 1, 21)
theorem okX7_layRoute : pm_ok mX7_layRoute 2 := ⟨pm_inT 562 (by decide +kernel) (by decide +kernel), wd_ini_7, by decide, by decide, by decide +kernel⟩
theorem ivX7_layRoute : pm_iv mX7_layRoute := ⟨pm_inT 561 (by decide +kernel) (by decide +kernel), pm_inT 11 (by decide +kernel) (by decide +kernel)⟩
abbrev mX7_flyFromAll : pm_M := (yX7_flyFromAll, cX7_flyFromAll, 3, none, 4, 87)
theorem okX7_flyFromAll : pm_ok mX7_flyFromAll 0 := ⟨pm_inT 568 (by decide +kernel) (by decide +kernel), wd_ini_7, by decide, by decide, by decide +kernel⟩
theorem ivX7_flyFromAll : pm_iv mX7_flyFromAll := ⟨pm_inT 567 (by decide +kernel) (by decide +kernel), pm_inT 12 (by decide +kernel) (by decide +kernel)⟩
abbrev mX7_isFlown : pm_M := (yX7_isFlown, cX7_isFlown, 6, (some .boolean), 3, 62)
theorem okX7_isFlown : pm_ok mX7_isFlown 2 := ⟨pm_inT 574 (by decide +kernel) (by decide +kernel), wd_ini_7, by decide, by decide, by decide +kernel⟩
theorem ivX7_isFlown : pm_iv mX7_isFlown := ⟨pm_inT 573 (by decide +kernel) (by decide +kernel), pm_inT 13 (by decide +kernel) (by decide +kernel)⟩
abbrev mX7_areTwins : pm_M := (yX7_areTwins, cX7_areTwins, 6, (some .boolean), 2, 46)
theorem okX7_areTwins : pm_ok mX7_areTwins 2 := ⟨pm_inT 580 (by decide +kernel) (by decide +kernel), wd_ini_7, by decide, by decide, by decide +kernel⟩
theorem ivX7_areTwins : pm_iv mX7_areTwins := ⟨pm_inT 579 (by decide +kernel) (by decide +kernel), pm_inT 14 (by decide +kernel) (by decide +kernel)⟩
abbrev mX8_init : pm_M := (yX8_init, cX8_init, 1, none, 3, 63)
theorem okX8_init : pm_ok mX8_init 0 := ⟨pm_inT 54 (by decide +kernel) (by decide +kernel), wd_ini_8, by decide, by decide, by decide +kernel⟩
theorem ivX8_init : Jvm.Cond.instanceMethod (pm_y mX8_init) ∈ pm_T := pm_inT 53 (by decide +kernel) (by decide +kernel)
abbrev mX8_feed : pm_M := (yX8_feed, cX8_feed, 6, (some .int), 1, 22)
theorem okX8_feed : pm_ok mX8_feed 5 := ⟨pm_inT 305 (by decide +kernel) (by decide +kernel), wd_ini_8, by decide, by decide, by decide +kernel⟩
theorem ivX8_feed : pm_iv mX8_feed := ⟨pm_inT 303 (by decide +kernel) (by decide +kernel), pm_inT 304 (by decide +kernel) (by decide +kernel)⟩
abbrev mX8_end : pm_M := (yX8_end, cX8_end, 2, (some .boolean), 1, 21)
theorem okX8_end : pm_ok mX8_end 1 := ⟨pm_inT 317 (by decide +kernel) (by decide +kernel), wd_ini_8, by decide, by decide, by decide +kernel⟩
theorem ivX8_end : pm_iv mX8_end := ⟨pm_inT 315 (by decide +kernel) (by decide +kernel), pm_inT 316 (by decide +kernel) (by decide +kernel)⟩
abbrev mX8_map : pm_M := (yX8_map, cX8_map, 4, (some .boolean), 4, 89)
theorem okX8_map : pm_ok mX8_map 2 := ⟨pm_inT 325 (by decide +kernel) (by decide +kernel), wd_ini_8, by decide, by decide, by decide +kernel⟩
theorem ivX8_map : pm_iv mX8_map := ⟨pm_inT 323 (by decide +kernel) (by decide +kernel), pm_inT 324 (by decide +kernel) (by decide +kernel)⟩
abbrev mX8_meter : pm_M := (yX8_meter, cX8_meter, 4, (some .boolean), 1, 23)
theorem okX8_meter : pm_ok mX8_meter 3 := ⟨pm_inT 359 (by decide +kernel) (by decide +kernel), wd_ini_8, by decide, by decide, by decide +kernel⟩
theorem ivX8_meter : pm_iv mX8_meter := ⟨pm_inT 357 (by decide +kernel) (by decide +kernel), pm_inT 358 (by decide +kernel) (by decide +kernel)⟩
abbrev mX8_begin : pm_M := (yX8_begin, cX8_begin, 2, (some .boolean), 3, 63)
theorem okX8_begin : pm_ok mX8_begin 1 := ⟨pm_inT 367 (by decide +kernel) (by decide +kernel), wd_ini_8, by decide, by decide, by decide +kernel⟩
theorem ivX8_begin : pm_iv mX8_begin := ⟨pm_inT 365 (by decide +kernel) (by decide +kernel), pm_inT 366 (by decide +kernel) (by decide +kernel)⟩
abbrev mX8_move : pm_M := (yX8_move, cX8_move, 3, (some .int), 5, 109)
theorem okX8_move : pm_ok mX8_move 2 := ⟨pm_inT 372 (by decide +kernel) (by decide +kernel), wd_ini_8, by decide, by decide, by decide +kernel⟩
theorem ivX8_move : pm_iv mX8_move := ⟨pm_inT 370 (by decide +kernel) (by decide +kernel), pm_inT 371 (by decide +kernel) (by decide +kernel)⟩
abbrev mX8_read : pm_M := (yX8_read, cX8_read, 2, (some .int), 5, 105)
theorem okX8_read : pm_ok mX8_read 1 := ⟨pm_inT 432 (by decide +kernel) (by decide +kernel), wd_ini_8, by decide, by decide, by decide +kernel⟩
theorem ivX8_read : pm_iv mX8_read := ⟨pm_inT 430 (by decide +kernel) (by decide +kernel), pm_inT 431 (by decide +kernel) (by decide +kernel)⟩
abbrev mX8_share : pm_M := (yX8_share, cX8_share, 9, (some .long), 7, 120)
theorem okX8_share : pm_ok mX8_share 2 := ⟨pm_inT 662 (by decide +kernel) (by decide +kernel), wd_ini_8, by decide, by decide, by decide +kernel⟩
theorem ivX8_share : pm_iv mX8_share := ⟨pm_inT 660 (by decide +kernel) (by decide +kernel), pm_inT 661 (by decide +kernel) (by decide +kernel)⟩
abbrev mX8_likely : pm_M := (yX8_likely, cX8_likely, 1, (some .int), 1, 22)
theorem okX8_likely : pm_ok mX8_likely 0 := ⟨pm_inT 465 (by decide +kernel) (by decide +kernel), wd_ini_8, by decide, by decide, by decide +kernel⟩
theorem ivX8_likely : pm_iv mX8_likely := ⟨pm_inT 463 (by decide +kernel) (by decide +kernel), pm_inT 464 (by decide +kernel) (by decide +kernel)⟩
abbrev mX8_span : pm_M := (yX8_span, cX8_span, 2, (some .int), 2, 48)
theorem okX8_span : pm_ok mX8_span 1 := ⟨pm_inT 473 (by decide +kernel) (by decide +kernel), wd_ini_8, by decide, by decide, by decide +kernel⟩
theorem ivX8_span : pm_iv mX8_span := ⟨pm_inT 471 (by decide +kernel) (by decide +kernel), pm_inT 472 (by decide +kernel) (by decide +kernel)⟩
abbrev mX8_best : pm_M := (yX8_best, cX8_best, 1, (some .int), 6, 134)
theorem okX8_best : pm_ok mX8_best 0 := ⟨pm_inT 481 (by decide +kernel) (by decide +kernel), wd_ini_8, by decide, by decide, by decide +kernel⟩
theorem ivX8_best : pm_iv mX8_best := ⟨pm_inT 479 (by decide +kernel) (by decide +kernel), pm_inT 480 (by decide +kernel) (by decide +kernel)⟩
abbrev mX8_path : pm_M := (yX8_path, cX8_path, 2, (some .int), 1, 21)
theorem okX8_path : pm_ok mX8_path 1 := ⟨pm_inT 541 (by decide +kernel) (by decide +kernel), wd_ini_8, by decide, by decide, by decide +kernel⟩
theorem ivX8_path : pm_iv mX8_path := ⟨pm_inT 539 (by decide +kernel) (by decide +kernel), pm_inT 540 (by decide +kernel) (by decide +kernel)⟩
abbrev mX8_twins : pm_M := (yX8_twins, cX8_twins, 2, (some .int), 7, 155)
theorem okX8_twins : pm_ok mX8_twins 0 := ⟨pm_inT 549 (by decide +kernel) (by decide +kernel), wd_ini_8, by decide, by decide, by decide +kernel⟩
theorem ivX8_twins : pm_iv mX8_twins := ⟨pm_inT 547 (by decide +kernel) (by decide +kernel), pm_inT 548 (by decide +kernel) (by decide +kernel)⟩
abbrev mX8_twin : pm_M := (yX8_twin, cX8_twin, 1, (some .int), 1, 20)
theorem okX8_twin : pm_ok mX8_twin 0 := ⟨pm_inT 588 (by decide +kernel) (by decide +kernel), wd_ini_8, by decide, by decide, by decide +kernel⟩
theorem ivX8_twin : pm_iv mX8_twin := ⟨pm_inT 586 (by decide +kernel) (by decide +kernel), pm_inT 587 (by decide +kernel) (by decide +kernel)⟩
abbrev mX8_route : pm_M := (yX8_route, cX8_route, 3, (some .int), 7, 160)
theorem okX8_route : pm_ok mX8_route 1 := ⟨pm_inT 596 (by decide +kernel) (by decide +kernel), wd_ini_8, by decide, by decide, by decide +kernel⟩
theorem ivX8_route : pm_iv mX8_route := ⟨pm_inT 594 (by decide +kernel) (by decide +kernel), pm_inT 595 (by decide +kernel) (by decide +kernel)⟩
abbrev mX8_check : pm_M := (yX8_check, cX8_check, 3, (some .int), 6, 132)
theorem okX8_check : pm_ok mX8_check 2 := ⟨pm_inT 604 (by decide +kernel) (by decide +kernel), wd_ini_8, by decide, by decide, by decide +kernel⟩
theorem ivX8_check : pm_iv mX8_check := ⟨pm_inT 602 (by decide +kernel) (by decide +kernel), pm_inT 603 (by decide +kernel) (by decide +kernel)⟩
abbrev mX8_height : pm_M := (yX8_height, cX8_height, 2, (some .int), 3, 62)
theorem okX8_height : pm_ok mX8_height 1 := ⟨pm_inT 635 (by decide +kernel) (by decide +kernel), wd_ini_8, by decide, by decide, by decide +kernel⟩
theorem ivX8_height : pm_iv mX8_height := ⟨pm_inT 633 (by decide +kernel) (by decide +kernel), pm_inT 634 (by decide +kernel) (by decide +kernel)⟩
abbrev mX8_count : pm_M := (yX8_count, cX8_count, 2, (some .int), 1, 20)
theorem okX8_count : pm_ok mX8_count 1 := ⟨pm_inT 640 (by decide +kernel) (by decide +kernel), wd_ini_8, by decide, by decide, by decide +kernel⟩
theorem ivX8_count : pm_iv mX8_count := ⟨pm_inT 638 (by decide +kernel) (by decide +kernel), pm_inT 639 (by decide +kernel) (by decide +kernel)⟩
abbrev mX8_isMove : pm_M := (yX8_isMove, cX8_isMove, 2, (some .boolean), 0, 0)
theorem okX8_isMove : pm_ok mX8_isMove 2 := ⟨pm_inT 375 (by decide +kernel) (by decide +kernel), wd_ini_8, by decide, by decide, by decide +kernel⟩
theorem stX8_isMove : Jvm.Cond.static (pm_y mX8_isMove) ∈ pm_T := pm_inT 374 (by decide +kernel) (by decide +kernel)
abbrev mX8_isReading : pm_M := (yX8_isReading, cX8_isReading, 1, (some .boolean), 0, 0)
theorem okX8_isReading : pm_ok mX8_isReading 1 := ⟨pm_inT 347 (by decide +kernel) (by decide +kernel), wd_ini_8, by decide, by decide, by decide +kernel⟩
theorem stX8_isReading : Jvm.Cond.static (pm_y mX8_isReading) ∈ pm_T := pm_inT 346 (by decide +kernel) (by decide +kernel)
abbrev mX8_commonDivisor : pm_M := (yX8_commonDivisor, cX8_commonDivisor, 11, (some .long), 0, 0)
theorem okX8_commonDivisor : pm_ok mX8_commonDivisor 2 := ⟨pm_inT 731 (by decide +kernel) (by decide +kernel), wd_ini_8, by decide, by decide, by decide +kernel⟩
theorem stX8_commonDivisor : Jvm.Cond.static (pm_y mX8_commonDivisor) ∈ pm_T := pm_inT 730 (by decide +kernel) (by decide +kernel)
abbrev mX9_thrown : pm_M := (yX9_thrown, cX9_thrown, 1, (some .int), 0, 0)
theorem okX9_thrown : pm_ok mX9_thrown 0 := ⟨pm_inT 735 (by decide +kernel) (by decide +kernel), wd_ini_9, by decide, by decide, by decide +kernel⟩
theorem ivX9_thrown : pm_iv mX9_thrown := ⟨pm_inT 733 (by decide +kernel) (by decide +kernel), pm_inT 734 (by decide +kernel) (by decide +kernel)⟩
abbrev mX9_throwsIf : pm_M := (yX9_throwsIf, cX9_throwsIf, 2, (some .boolean), 0, 0)
theorem okX9_throwsIf : pm_ok mX9_throwsIf 1 := ⟨pm_inT 932 (by decide +kernel) (by decide +kernel), wd_ini_9, by decide, by decide, by decide +kernel⟩
theorem ivX9_throwsIf : pm_iv mX9_throwsIf := ⟨pm_inT 931 (by decide +kernel) (by decide +kernel), pm_inT 27 (by decide +kernel) (by decide +kernel)⟩
abbrev mX9_feed : pm_M := (yX9_feed, cX9_feed, 6, (some .int), 1, 22)
theorem okX9_feed : pm_ok mX9_feed 5 := ⟨pm_inT 739 (by decide +kernel) (by decide +kernel), wd_ini_9, by decide, by decide, by decide +kernel⟩
theorem ivX9_feed : pm_iv mX9_feed := ⟨pm_inT 737 (by decide +kernel) (by decide +kernel), pm_inT 738 (by decide +kernel) (by decide +kernel)⟩
abbrev mX9_four : pm_M := (yX9_four, cX9_four, 3, none, 0, 0)
theorem okX9_four : pm_ok mX9_four 1 := ⟨pm_inT 744 (by decide +kernel) (by decide +kernel), wd_ini_9, by decide, by decide, by decide +kernel⟩
theorem ivX9_four : pm_iv mX9_four := ⟨pm_inT 742 (by decide +kernel) (by decide +kernel), pm_inT 18 (by decide +kernel) (by decide +kernel)⟩
abbrev mX9_end : pm_M := (yX9_end, cX9_end, 2, (some .boolean), 0, 0)
theorem okX9_end : pm_ok mX9_end 1 := ⟨pm_inT 748 (by decide +kernel) (by decide +kernel), wd_ini_9, by decide, by decide, by decide +kernel⟩
theorem ivX9_end : pm_iv mX9_end := ⟨pm_inT 746 (by decide +kernel) (by decide +kernel), pm_inT 747 (by decide +kernel) (by decide +kernel)⟩
abbrev mX9_taken : pm_M := (yX9_taken, cX9_taken, 1, none, 0, 0)
theorem okX9_taken : pm_ok mX9_taken 0 := ⟨pm_inT 885 (by decide +kernel) (by decide +kernel), wd_ini_9, by decide, by decide, by decide +kernel⟩
theorem ivX9_taken : pm_iv mX9_taken := ⟨pm_inT 884 (by decide +kernel) (by decide +kernel), pm_inT 21 (by decide +kernel) (by decide +kernel)⟩
abbrev mX9_init : pm_M := (yX9_init, cX9_init, 2, none, 2, 42)
theorem okX9_init : pm_ok mX9_init 0 := ⟨pm_inT 752 (by decide +kernel) (by decide +kernel), wd_ini_9, by decide, by decide, by decide +kernel⟩
theorem ivX9_init : Jvm.Cond.instanceMethod (pm_y mX9_init) ∈ pm_T := pm_inT 751 (by decide +kernel) (by decide +kernel)
abbrev mX9_cells : pm_M := (yX9_cells, cX9_cells, 1, (some .int), 0, 0)
theorem okX9_cells : pm_ok mX9_cells 0 := ⟨pm_inT 761 (by decide +kernel) (by decide +kernel), wd_ini_9, by decide, by decide, by decide +kernel⟩
theorem ivX9_cells : pm_iv mX9_cells := ⟨pm_inT 760 (by decide +kernel) (by decide +kernel), pm_inT 20 (by decide +kernel) (by decide +kernel)⟩
abbrev mX9_isCell : pm_M := (yX9_isCell, cX9_isCell, 2, (some .boolean), 1, 20)
theorem okX9_isCell : pm_ok mX9_isCell 1 := ⟨pm_inT 897 (by decide +kernel) (by decide +kernel), wd_ini_9, by decide, by decide, by decide +kernel⟩
theorem ivX9_isCell : pm_iv mX9_isCell := ⟨pm_inT 896 (by decide +kernel) (by decide +kernel), pm_inT 22 (by decide +kernel) (by decide +kernel)⟩
abbrev mX9_map : pm_M := (yX9_map, cX9_map, 4, (some .boolean), 2, 42)
theorem okX9_map : pm_ok mX9_map 2 := ⟨pm_inT 881 (by decide +kernel) (by decide +kernel), wd_ini_9, by decide, by decide, by decide +kernel⟩
theorem ivX9_map : pm_iv mX9_map := ⟨pm_inT 879 (by decide +kernel) (by decide +kernel), pm_inT 880 (by decide +kernel) (by decide +kernel)⟩
abbrev mX9_meter : pm_M := (yX9_meter, cX9_meter, 4, (some .boolean), 0, 0)
theorem okX9_meter : pm_ok mX9_meter 3 := ⟨pm_inT 889 (by decide +kernel) (by decide +kernel), wd_ini_9, by decide, by decide, by decide +kernel⟩
theorem ivX9_meter : pm_iv mX9_meter := ⟨pm_inT 887 (by decide +kernel) (by decide +kernel), pm_inT 888 (by decide +kernel) (by decide +kernel)⟩
abbrev mX9_size : pm_M := (yX9_size, cX9_size, 1, (some .int), 0, 0)
theorem okX9_size : pm_ok mX9_size 1 := ⟨pm_inT 924 (by decide +kernel) (by decide +kernel), wd_ini_9, by decide, by decide, by decide +kernel⟩
theorem stX9_size : Jvm.Cond.static (pm_y mX9_size) ∈ pm_T := pm_inT 923 (by decide +kernel) (by decide +kernel)
abbrev mX9_fits : pm_M := (yX9_fits, cX9_fits, 3, (some .boolean), 1, 20)
theorem okX9_fits : pm_ok mX9_fits 2 := ⟨pm_inT 921 (by decide +kernel) (by decide +kernel), wd_ini_9, by decide, by decide, by decide +kernel⟩
theorem ivX9_fits : pm_iv mX9_fits := ⟨pm_inT 920 (by decide +kernel) (by decide +kernel), pm_inT 26 (by decide +kernel) (by decide +kernel)⟩
abbrev mX9_fly : pm_M := (yX9_fly, cX9_fly, 3, none, 1, 20)
theorem okX9_fly : pm_ok mX9_fly 1 := ⟨pm_inT 757 (by decide +kernel) (by decide +kernel), wd_ini_9, by decide, by decide, by decide +kernel⟩
theorem ivX9_fly : pm_iv mX9_fly := ⟨pm_inT 756 (by decide +kernel) (by decide +kernel), pm_inT 19 (by decide +kernel) (by decide +kernel)⟩
abbrev mX9_begin : pm_M := (yX9_begin, cX9_begin, 2, (some .boolean), 2, 42)
theorem okX9_begin : pm_ok mX9_begin 1 := ⟨pm_inT 893 (by decide +kernel) (by decide +kernel), wd_ini_9, by decide, by decide, by decide +kernel⟩
theorem ivX9_begin : pm_iv mX9_begin := ⟨pm_inT 891 (by decide +kernel) (by decide +kernel), pm_inT 892 (by decide +kernel) (by decide +kernel)⟩
abbrev mX9_withShare : pm_M := (yX9_withShare, cX9_withShare, 3, (some .int), 1, 20)
theorem okX9_withShare : pm_ok mX9_withShare 0 := ⟨pm_inT 913 (by decide +kernel) (by decide +kernel), wd_ini_9, by decide, by decide, by decide +kernel⟩
theorem ivX9_withShare : pm_iv mX9_withShare := ⟨pm_inT 912 (by decide +kernel) (by decide +kernel), pm_inT 25 (by decide +kernel) (by decide +kernel)⟩
abbrev mX9_weight : pm_M := (yX9_weight, cX9_weight, 2, (some .int), 0, 0)
theorem okX9_weight : pm_ok mX9_weight 1 := ⟨pm_inT 909 (by decide +kernel) (by decide +kernel), wd_ini_9, by decide, by decide, by decide +kernel⟩
theorem ivX9_weight : pm_iv mX9_weight := ⟨pm_inT 908 (by decide +kernel) (by decide +kernel), pm_inT 24 (by decide +kernel) (by decide +kernel)⟩
abbrev mX9_off : pm_M := (yX9_off, cX9_off, 6, (some .int), 0, 0)
theorem okX9_off : pm_ok mX9_off 3 := ⟨pm_inT 905 (by decide +kernel) (by decide +kernel), wd_ini_9, by decide, by decide, by decide +kernel⟩
theorem ivX9_off : pm_iv mX9_off := ⟨pm_inT 904 (by decide +kernel) (by decide +kernel), pm_inT 23 (by decide +kernel) (by decide +kernel)⟩
abbrev mX9_move : pm_M := (yX9_move, cX9_move, 7, (some .int), 2, 42)
theorem okX9_move : pm_ok mX9_move 2 := ⟨pm_inT 901 (by decide +kernel) (by decide +kernel), wd_ini_9, by decide, by decide, by decide +kernel⟩
theorem ivX9_move : pm_iv mX9_move := ⟨pm_inT 899 (by decide +kernel) (by decide +kernel), pm_inT 900 (by decide +kernel) (by decide +kernel)⟩
abbrev mX9_read : pm_M := (yX9_read, cX9_read, 4, (some .int), 2, 42)
theorem okX9_read : pm_ok mX9_read 1 := ⟨pm_inT 917 (by decide +kernel) (by decide +kernel), wd_ini_9, by decide, by decide, by decide +kernel⟩
theorem ivX9_read : pm_iv mX9_read := ⟨pm_inT 915 (by decide +kernel) (by decide +kernel), pm_inT 916 (by decide +kernel) (by decide +kernel)⟩
abbrev mX9_common : pm_M := (yX9_common, cX9_common, 10, (some .long), 0, 0)
theorem okX9_common : pm_ok mX9_common 2 := ⟨pm_inT 935 (by decide +kernel) (by decide +kernel), wd_ini_9, by decide, by decide, by decide +kernel⟩
theorem stX9_common : Jvm.Cond.static (pm_y mX9_common) ∈ pm_T := pm_inT 934 (by decide +kernel) (by decide +kernel)
abbrev mX9_share : pm_M := (yX9_share, cX9_share, 7, (some .long), 2, 41)
theorem okX9_share : pm_ok mX9_share 2 := ⟨pm_inT 928 (by decide +kernel) (by decide +kernel), wd_ini_9, by decide, by decide, by decide +kernel⟩
theorem ivX9_share : pm_iv mX9_share := ⟨pm_inT 926 (by decide +kernel) (by decide +kernel), pm_inT 927 (by decide +kernel) (by decide +kernel)⟩
abbrev mX9_likely : pm_M := (yX9_likely, cX9_likely, 3, (some .int), 1, 20)
theorem okX9_likely : pm_ok mX9_likely 0 := ⟨pm_inT 939 (by decide +kernel) (by decide +kernel), wd_ini_9, by decide, by decide, by decide +kernel⟩
theorem ivX9_likely : pm_iv mX9_likely := ⟨pm_inT 937 (by decide +kernel) (by decide +kernel), pm_inT 938 (by decide +kernel) (by decide +kernel)⟩
abbrev mX9_span : pm_M := (yX9_span, cX9_span, 5, (some .int), 2, 42)
theorem okX9_span : pm_ok mX9_span 1 := ⟨pm_inT 943 (by decide +kernel) (by decide +kernel), wd_ini_9, by decide, by decide, by decide +kernel⟩
theorem ivX9_span : pm_iv mX9_span := ⟨pm_inT 941 (by decide +kernel) (by decide +kernel), pm_inT 942 (by decide +kernel) (by decide +kernel)⟩
abbrev mX9_errs : pm_M := (yX9_errs, cX9_errs, 5, (some .int), 1, 20)
theorem okX9_errs : pm_ok mX9_errs 2 := ⟨pm_inT 951 (by decide +kernel) (by decide +kernel), wd_ini_9, by decide, by decide, by decide +kernel⟩
theorem ivX9_errs : pm_iv mX9_errs := ⟨pm_inT 950 (by decide +kernel) (by decide +kernel), pm_inT 28 (by decide +kernel) (by decide +kernel)⟩
abbrev mX9_isBetter : pm_M := (yX9_isBetter, cX9_isBetter, 8, (some .boolean), 0, 0)
theorem okX9_isBetter : pm_ok mX9_isBetter 5 := ⟨pm_inT 955 (by decide +kernel) (by decide +kernel), wd_ini_9, by decide, by decide, by decide +kernel⟩
theorem ivX9_isBetter : pm_iv mX9_isBetter := ⟨pm_inT 954 (by decide +kernel) (by decide +kernel), pm_inT 29 (by decide +kernel) (by decide +kernel)⟩
abbrev mX9_best : pm_M := (yX9_best, cX9_best, 9, (some .int), 2, 44)
theorem okX9_best : pm_ok mX9_best 0 := ⟨pm_inT 947 (by decide +kernel) (by decide +kernel), wd_ini_9, by decide, by decide, by decide +kernel⟩
theorem ivX9_best : pm_iv mX9_best := ⟨pm_inT 945 (by decide +kernel) (by decide +kernel), pm_inT 946 (by decide +kernel) (by decide +kernel)⟩
abbrev mX9_isAhead : pm_M := (yX9_isAhead, cX9_isAhead, 4, (some .boolean), 0, 0)
theorem okX9_isAhead : pm_ok mX9_isAhead 2 := ⟨pm_inT 959 (by decide +kernel) (by decide +kernel), wd_ini_9, by decide, by decide, by decide +kernel⟩
theorem ivX9_isAhead : pm_iv mX9_isAhead := ⟨pm_inT 958 (by decide +kernel) (by decide +kernel), pm_inT 30 (by decide +kernel) (by decide +kernel)⟩
abbrev mX9_path : pm_M := (yX9_path, cX9_path, 2, (some .int), 0, 0)
theorem okX9_path : pm_ok mX9_path 1 := ⟨pm_inT 963 (by decide +kernel) (by decide +kernel), wd_ini_9, by decide, by decide, by decide +kernel⟩
theorem ivX9_path : pm_iv mX9_path := ⟨pm_inT 961 (by decide +kernel) (by decide +kernel), pm_inT 962 (by decide +kernel) (by decide +kernel)⟩
abbrev mX9_pairs : pm_M := (yX9_pairs, cX9_pairs, 8, (some .int), 1, 25)
theorem okX9_pairs : pm_ok mX9_pairs 2 := ⟨pm_inT 975 (by decide +kernel) (by decide +kernel), wd_ini_9, by decide, by decide, by decide +kernel⟩
theorem ivX9_pairs : pm_iv mX9_pairs := ⟨pm_inT 974 (by decide +kernel) (by decide +kernel), pm_inT 32 (by decide +kernel) (by decide +kernel)⟩
abbrev mX9_isRoute : pm_M := (yX9_isRoute, cX9_isRoute, 4, (some .boolean), 0, 0)
theorem okX9_isRoute : pm_ok mX9_isRoute 2 := ⟨pm_inT 971 (by decide +kernel) (by decide +kernel), wd_ini_9, by decide, by decide, by decide +kernel⟩
theorem ivX9_isRoute : pm_iv mX9_isRoute := ⟨pm_inT 970 (by decide +kernel) (by decide +kernel), pm_inT 31 (by decide +kernel) (by decide +kernel)⟩
abbrev mX9_twins : pm_M := (yX9_twins, cX9_twins, 2, (some .int), 2, 52)
theorem okX9_twins : pm_ok mX9_twins 0 := ⟨pm_inT 967 (by decide +kernel) (by decide +kernel), wd_ini_9, by decide, by decide, by decide +kernel⟩
theorem ivX9_twins : pm_iv mX9_twins := ⟨pm_inT 965 (by decide +kernel) (by decide +kernel), pm_inT 966 (by decide +kernel) (by decide +kernel)⟩
abbrev mX9_twin : pm_M := (yX9_twin, cX9_twin, 1, (some .int), 0, 0)
theorem okX9_twin : pm_ok mX9_twin 0 := ⟨pm_inT 979 (by decide +kernel) (by decide +kernel), wd_ini_9, by decide, by decide, by decide +kernel⟩
theorem ivX9_twin : pm_iv mX9_twin := ⟨pm_inT 977 (by decide +kernel) (by decide +kernel), pm_inT 978 (by decide +kernel) (by decide +kernel)⟩
abbrev mX9_route : pm_M := (yX9_route, cX9_route, 7, (some .int), 2, 52)
theorem okX9_route : pm_ok mX9_route 1 := ⟨pm_inT 983 (by decide +kernel) (by decide +kernel), wd_ini_9, by decide, by decide, by decide +kernel⟩
theorem ivX9_route : pm_iv mX9_route := ⟨pm_inT 981 (by decide +kernel) (by decide +kernel), pm_inT 982 (by decide +kernel) (by decide +kernel)⟩
abbrev mX9_middle : pm_M := (yX9_middle, cX9_middle, 5, (some .int), 0, 0)
theorem okX9_middle : pm_ok mX9_middle 3 := ⟨pm_inT 990 (by decide +kernel) (by decide +kernel), wd_ini_9, by decide, by decide, by decide +kernel⟩
theorem stX9_middle : Jvm.Cond.static (pm_y mX9_middle) ∈ pm_T := pm_inT 989 (by decide +kernel) (by decide +kernel)
abbrev mX9_check : pm_M := (yX9_check, cX9_check, 4, (some .int), 2, 42)
theorem okX9_check : pm_ok mX9_check 2 := ⟨pm_inT 987 (by decide +kernel) (by decide +kernel), wd_ini_9, by decide, by decide, by decide +kernel⟩
theorem ivX9_check : pm_iv mX9_check := ⟨pm_inT 985 (by decide +kernel) (by decide +kernel), pm_inT 986 (by decide +kernel) (by decide +kernel)⟩
abbrev mX9_height : pm_M := (yX9_height, cX9_height, 2, (some .int), 2, 41)
theorem okX9_height : pm_ok mX9_height 1 := ⟨pm_inT 994 (by decide +kernel) (by decide +kernel), wd_ini_9, by decide, by decide, by decide +kernel⟩
theorem ivX9_height : pm_iv mX9_height := ⟨pm_inT 992 (by decide +kernel) (by decide +kernel), pm_inT 993 (by decide +kernel) (by decide +kernel)⟩
abbrev mX9_count : pm_M := (yX9_count, cX9_count, 2, (some .int), 0, 0)
theorem okX9_count : pm_ok mX9_count 1 := ⟨pm_inT 998 (by decide +kernel) (by decide +kernel), wd_ini_9, by decide, by decide, by decide +kernel⟩
theorem ivX9_count : pm_iv mX9_count := ⟨pm_inT 996 (by decide +kernel) (by decide +kernel), pm_inT 997 (by decide +kernel) (by decide +kernel)⟩
abbrev mL_share : pm_M := (yL_share, cL_share, 5, some .int, 8, 200)
abbrev mL_law : pm_M := (x, code, 8, ret, 10, 366)
theorem ml_X8_1 : Jvm.Cond.methodLink RX8 1 Lib.objectInit ∈ pm_T := pm_inT 55 (by decide +kernel) (by decide +kernel)
theorem ml_X8_18 : Jvm.Cond.methodLink RX8 18 yX3_init ∈ pm_T := pm_inT 74 (by decide +kernel) (by decide +kernel)
theorem ml_X8_39 : Jvm.Cond.methodLink RX8 39 yX0_init ∈ pm_T := pm_inT 135 (by decide +kernel) (by decide +kernel)
theorem ml_X8_48 : Jvm.Cond.methodLink RX8 48 yX1_init ∈ pm_T := pm_inT 160 (by decide +kernel) (by decide +kernel)
theorem ml_X8_57 : Jvm.Cond.methodLink RX8 57 yX4_init ∈ pm_T := pm_inT 186 (by decide +kernel) (by decide +kernel)
theorem ml_X8_64 : Jvm.Cond.methodLink RX8 64 yX7_init ∈ pm_T := pm_inT 223 (by decide +kernel) (by decide +kernel)
theorem ml_X8_71 : Jvm.Cond.methodLink RX8 71 yX1_start ∈ pm_T := pm_inT 261 (by decide +kernel) (by decide +kernel)
theorem ml_X8_75 : Jvm.Cond.methodLink RX8 75 yX6_size ∈ pm_T := pm_inT 306 (by decide +kernel) (by decide +kernel)
theorem ml_X8_79 : Jvm.Cond.methodLink RX8 79 yX6_append ∈ pm_T := pm_inT 310 (by decide +kernel) (by decide +kernel)
theorem ml_X8_82 : Jvm.Cond.methodLink RX8 82 yX6_cut ∈ pm_T := pm_inT 318 (by decide +kernel) (by decide +kernel)
theorem ml_X8_86 : Jvm.Cond.methodLink RX8 86 yX3_tell ∈ pm_T := pm_inT 326 (by decide +kernel) (by decide +kernel)
theorem ml_X8_90 : Jvm.Cond.methodLink RX8 90 yX0_forget ∈ pm_T := pm_inT 348 (by decide +kernel) (by decide +kernel)
theorem ml_X8_93 : Jvm.Cond.methodLink RX8 93 yX1_forgetLosses ∈ pm_T := pm_inT 352 (by decide +kernel) (by decide +kernel)
theorem ml_X8_96 : Jvm.Cond.methodLink RX8 96 yX2_set ∈ pm_T := pm_inT 360 (by decide +kernel) (by decide +kernel)
theorem ml_X8_100 : Jvm.Cond.methodLink RX8 100 yX3_has ∈ pm_T := pm_inT 368 (by decide +kernel) (by decide +kernel)
theorem ml_X8_103 : Jvm.Cond.methodLink RX8 103 yX8_isMove ∈ pm_T := pm_inT 373 (by decide +kernel) (by decide +kernel)
theorem ml_X8_107 : Jvm.Cond.methodLink RX8 107 yX5_moves ∈ pm_T := pm_inT 376 (by decide +kernel) (by decide +kernel)
theorem ml_X8_110 : Jvm.Cond.methodLink RX8 110 yX1_fly ∈ pm_T := pm_inT 380 (by decide +kernel) (by decide +kernel)
theorem ml_X8_113 : Jvm.Cond.methodLink RX8 113 yX1_holders ∈ pm_T := pm_inT 428 (by decide +kernel) (by decide +kernel)
theorem ml_X8_116 : Jvm.Cond.methodLink RX8 116 yX8_isReading ∈ pm_T := pm_inT 433 (by decide +kernel) (by decide +kernel)
theorem ml_X8_119 : Jvm.Cond.methodLink RX8 119 yX5_readings ∈ pm_T := pm_inT 434 (by decide +kernel) (by decide +kernel)
theorem ml_X8_122 : Jvm.Cond.methodLink RX8 122 yX1_sight ∈ pm_T := pm_inT 438 (by decide +kernel) (by decide +kernel)
theorem ml_X8_128 : Jvm.Cond.methodLink RX8 128 yX1_shareOf ∈ pm_T := pm_inT 724 (by decide +kernel) (by decide +kernel)
theorem ml_X8_132 : Jvm.Cond.methodLink RX8 132 yX1_total ∈ pm_T := pm_inT 725 (by decide +kernel) (by decide +kernel)
theorem ml_X8_136 : Jvm.Cond.methodLink RX8 136 yX8_commonDivisor ∈ pm_T := pm_inT 729 (by decide +kernel) (by decide +kernel)
theorem ml_X8_140 : Jvm.Cond.methodLink RX8 140 yX1_likeliest ∈ pm_T := pm_inT 466 (by decide +kernel) (by decide +kernel)
theorem ml_X8_143 : Jvm.Cond.methodLink RX8 143 yX1_edge ∈ pm_T := pm_inT 474 (by decide +kernel) (by decide +kernel)
theorem ml_X8_147 : Jvm.Cond.methodLink RX8 147 yX4_findBest ∈ pm_T := pm_inT 482 (by decide +kernel) (by decide +kernel)
theorem ml_X8_150 : Jvm.Cond.methodLink RX8 150 yX4_cellOfPath ∈ pm_T := pm_inT 542 (by decide +kernel) (by decide +kernel)
theorem ml_X8_153 : Jvm.Cond.methodLink RX8 153 yX7_twinsOfTape ∈ pm_T := pm_inT 550 (by decide +kernel) (by decide +kernel)
theorem ml_X8_156 : Jvm.Cond.methodLink RX8 156 yX7_firstPair ∈ pm_T := pm_inT 589 (by decide +kernel) (by decide +kernel)
theorem ml_X8_159 : Jvm.Cond.methodLink RX8 159 yX7_tellingRoute ∈ pm_T := pm_inT 597 (by decide +kernel) (by decide +kernel)
theorem ml_X8_162 : Jvm.Cond.methodLink RX8 162 yX0_hear ∈ pm_T := pm_inT 605 (by decide +kernel) (by decide +kernel)
theorem ml_X8_166 : Jvm.Cond.methodLink RX8 166 yX3_heightOf ∈ pm_T := pm_inT 636 (by decide +kernel) (by decide +kernel)
theorem ml_X8_169 : Jvm.Cond.methodLink RX8 169 yX3_width ∈ pm_T := pm_inT 641 (by decide +kernel) (by decide +kernel)
theorem ml_X8_172 : Jvm.Cond.methodLink RX8 172 yX3_depth ∈ pm_T := pm_inT 642 (by decide +kernel) (by decide +kernel)
theorem ml_X8_175 : Jvm.Cond.methodLink RX8 175 yX2_err ∈ pm_T := pm_inT 643 (by decide +kernel) (by decide +kernel)
theorem ml_X8_178 : Jvm.Cond.methodLink RX8 178 yX1_losses ∈ pm_T := pm_inT 647 (by decide +kernel) (by decide +kernel)
theorem ml_X8_181 : Jvm.Cond.methodLink RX8 181 yX0_mendings ∈ pm_T := pm_inT 651 (by decide +kernel) (by decide +kernel)
theorem ml_X0_3 : Jvm.Cond.methodLink RX0 3 Lib.objectInit ∈ pm_T := pm_inT 138 (by decide +kernel) (by decide +kernel)
theorem ml_X0_33 : Jvm.Cond.methodLink RX0 33 yX3_heightOf ∈ pm_T := pm_inT 609 (by decide +kernel) (by decide +kernel)
theorem ml_X0_39 : Jvm.Cond.methodLink RX0 39 yX0_mend ∈ pm_T := pm_inT 610 (by decide +kernel) (by decide +kernel)
theorem ml_X0_43 : Jvm.Cond.methodLink RX0 43 yX2_fits ∈ pm_T := pm_inT 618 (by decide +kernel) (by decide +kernel)
theorem ml_X0_49 : Jvm.Cond.methodLink RX0 49 yX0_hearAgainst ∈ pm_T := pm_inT 619 (by decide +kernel) (by decide +kernel)
theorem ml_X0_53 : Jvm.Cond.methodLink RX0 53 Lib.Math.max.name ∈ pm_T := pm_inT 623 (by decide +kernel) (by decide +kernel)
theorem ml_X0_58 : Jvm.Cond.methodLink RX0 58 yX0_middle ∈ pm_T := pm_inT 626 (by decide +kernel) (by decide +kernel)
theorem ml_X0_61 : Jvm.Cond.methodLink RX0 61 yX3_setHeight ∈ pm_T := pm_inT 614 (by decide +kernel) (by decide +kernel)
theorem ml_X0_65 : Jvm.Cond.methodLink RX0 65 Lib.Math.min.name ∈ pm_T := pm_inT 629 (by decide +kernel) (by decide +kernel)
theorem ml_X1_3 : Jvm.Cond.methodLink RX1 3 Lib.objectInit ∈ pm_T := pm_inT 163 (by decide +kernel) (by decide +kernel)
theorem ml_X1_34 : Jvm.Cond.methodLink RX1 34 yX5_restart ∈ pm_T := pm_inT 265 (by decide +kernel) (by decide +kernel)
theorem ml_X1_40 : Jvm.Cond.methodLink RX1 40 yX3_has ∈ pm_T := pm_inT 269 (by decide +kernel) (by decide +kernel)
theorem ml_X1_46 : Jvm.Cond.methodLink RX1 46 yX1_clearMoved ∈ pm_T := pm_inT 384 (by decide +kernel) (by decide +kernel)
theorem ml_X1_49 : Jvm.Cond.methodLink RX1 49 yX3_depth ∈ pm_T := pm_inT 388 (by decide +kernel) (by decide +kernel)
theorem ml_X1_53 : Jvm.Cond.methodLink RX1 53 yX3_width ∈ pm_T := pm_inT 392 (by decide +kernel) (by decide +kernel)
theorem ml_X1_56 : Jvm.Cond.methodLink RX1 56 yX3_cellAt ∈ pm_T := pm_inT 396 (by decide +kernel) (by decide +kernel)
theorem ml_X1_60 : Jvm.Cond.methodLink RX1 60 yX1_shareOf ∈ pm_T := pm_inT 400 (by decide +kernel) (by decide +kernel)
theorem ml_X1_64 : Jvm.Cond.methodLink RX1 64 yX1_spread ∈ pm_T := pm_inT 404 (by decide +kernel) (by decide +kernel)
theorem ml_X1_68 : Jvm.Cond.methodLink RX1 68 arraycopyName ∈ pm_T := pm_inT 412 (by decide +kernel) (by decide +kernel)
theorem ml_X1_74 : Jvm.Cond.methodLink RX1 74 yX1_holders ∈ pm_T := pm_inT 415 (by decide +kernel) (by decide +kernel)
theorem ml_X1_77 : Jvm.Cond.methodLink RX1 77 yX1_beginAgain ∈ pm_T := pm_inT 419 (by decide +kernel) (by decide +kernel)
theorem ml_X1_80 : Jvm.Cond.methodLink RX1 80 yX5_addMove ∈ pm_T := pm_inT 424 (by decide +kernel) (by decide +kernel)
theorem ml_X1_84 : Jvm.Cond.methodLink RX1 84 yX2_weight ∈ pm_T := pm_inT 408 (by decide +kernel) (by decide +kernel)
theorem ml_X1_89 : Jvm.Cond.methodLink RX1 89 yX1_dropUnfit ∈ pm_T := pm_inT 442 (by decide +kernel) (by decide +kernel)
theorem ml_X1_92 : Jvm.Cond.methodLink RX1 92 yX5_addReading ∈ pm_T := pm_inT 458 (by decide +kernel) (by decide +kernel)
theorem ml_X1_95 : Jvm.Cond.methodLink RX1 95 yX1_start ∈ pm_T := pm_inT 423 (by decide +kernel) (by decide +kernel)
theorem ml_X1_98 : Jvm.Cond.methodLink RX1 98 yX3_heightOf ∈ pm_T := pm_inT 446 (by decide +kernel) (by decide +kernel)
theorem ml_X1_102 : Jvm.Cond.methodLink RX1 102 yX2_fits ∈ pm_T := pm_inT 451 (by decide +kernel) (by decide +kernel)
theorem ml_X2_3 : Jvm.Cond.methodLink RX2 3 Lib.objectInit ∈ pm_T := pm_inT 94 (by decide +kernel) (by decide +kernel)
theorem ml_X2_21 : Jvm.Cond.methodLink RX2 21 Lib.Math.abs.name ∈ pm_T := pm_inT 455 (by decide +kernel) (by decide +kernel)
theorem ml_X3_3 : Jvm.Cond.methodLink RX3 3 Lib.objectInit ∈ pm_T := pm_inT 77 (by decide +kernel) (by decide +kernel)
theorem ml_X3_22 : Jvm.Cond.methodLink RX3 22 yX3_cells ∈ pm_T := pm_inT 273 (by decide +kernel) (by decide +kernel)
theorem ml_X3_26 : Jvm.Cond.methodLink RX3 26 yX3_has ∈ pm_T := pm_inT 450 (by decide +kernel) (by decide +kernel)
theorem ml_X3_30 : Jvm.Cond.methodLink RX3 30 yX3_isSide ∈ pm_T := pm_inT 330 (by decide +kernel) (by decide +kernel)
theorem ml_X3_33 : Jvm.Cond.methodLink RX3 33 yX6_size ∈ pm_T := pm_inT 333 (by decide +kernel) (by decide +kernel)
theorem ml_X3_38 : Jvm.Cond.methodLink RX3 38 yX3_allHeights ∈ pm_T := pm_inT 334 (by decide +kernel) (by decide +kernel)
theorem ml_X3_42 : Jvm.Cond.methodLink RX3 42 yX6_unsignedAt ∈ pm_T := pm_inT 337 (by decide +kernel) (by decide +kernel)
theorem ml_X4_3 : Jvm.Cond.methodLink RX4 3 Lib.objectInit ∈ pm_T := pm_inT 189 (by decide +kernel) (by decide +kernel)
theorem ml_X4_47 : Jvm.Cond.methodLink RX4 47 yX4_rateEnds ∈ pm_T := pm_inT 486 (by decide +kernel) (by decide +kernel)
theorem ml_X4_50 : Jvm.Cond.methodLink RX4 50 yX5_moves ∈ pm_T := pm_inT 491 (by decide +kernel) (by decide +kernel)
theorem ml_X4_56 : Jvm.Cond.methodLink RX4 56 arraycopyName ∈ pm_T := pm_inT 498 (by decide +kernel) (by decide +kernel)
theorem ml_X4_62 : Jvm.Cond.methodLink RX4 62 yX4_stepBack ∈ pm_T := pm_inT 499 (by decide +kernel) (by decide +kernel)
theorem ml_X4_66 : Jvm.Cond.methodLink RX4 66 yX4_bestFirst ∈ pm_T := pm_inT 526 (by decide +kernel) (by decide +kernel)
theorem ml_X4_69 : Jvm.Cond.methodLink RX4 69 yX4_keepPath ∈ pm_T := pm_inT 534 (by decide +kernel) (by decide +kernel)
theorem ml_X4_72 : Jvm.Cond.methodLink RX4 72 yX3_has ∈ pm_T := pm_inT 490 (by decide +kernel) (by decide +kernel)
theorem ml_X4_78 : Jvm.Cond.methodLink RX4 78 yX3_heightOf ∈ pm_T := pm_inT 492 (by decide +kernel) (by decide +kernel)
theorem ml_X4_82 : Jvm.Cond.methodLink RX4 82 yX5_faultAt ∈ pm_T := pm_inT 493 (by decide +kernel) (by decide +kernel)
theorem ml_X4_86 : Jvm.Cond.methodLink RX4 86 yX3_depth ∈ pm_T := pm_inT 503 (by decide +kernel) (by decide +kernel)
theorem ml_X4_89 : Jvm.Cond.methodLink RX4 89 yX3_width ∈ pm_T := pm_inT 504 (by decide +kernel) (by decide +kernel)
theorem ml_X4_92 : Jvm.Cond.methodLink RX4 92 yX3_cellAt ∈ pm_T := pm_inT 505 (by decide +kernel) (by decide +kernel)
theorem ml_X4_95 : Jvm.Cond.methodLink RX4 95 yX5_dx ∈ pm_T := pm_inT 506 (by decide +kernel) (by decide +kernel)
theorem ml_X4_98 : Jvm.Cond.methodLink RX4 98 yX5_dy ∈ pm_T := pm_inT 510 (by decide +kernel) (by decide +kernel)
theorem ml_X4_101 : Jvm.Cond.methodLink RX4 101 yX4_rate ∈ pm_T := pm_inT 514 (by decide +kernel) (by decide +kernel)
theorem ml_X4_105 : Jvm.Cond.methodLink RX4 105 yX2_weight ∈ pm_T := pm_inT 518 (by decide +kernel) (by decide +kernel)
theorem ml_X4_110 : Jvm.Cond.methodLink RX4 110 yX4_leads ∈ pm_T := pm_inT 519 (by decide +kernel) (by decide +kernel)
theorem ml_X4_114 : Jvm.Cond.methodLink RX4 114 yX4_isBetter ∈ pm_T := pm_inT 523 (by decide +kernel) (by decide +kernel)
theorem ml_X4_118 : Jvm.Cond.methodLink RX4 118 yX5_start ∈ pm_T := pm_inT 530 (by decide +kernel) (by decide +kernel)
theorem ml_X5_3 : Jvm.Cond.methodLink RX5 3 Lib.objectInit ∈ pm_T := pm_inT 110 (by decide +kernel) (by decide +kernel)
theorem ml_X5_34 : Jvm.Cond.methodLink RX5 34 Lib.Math.abs.name ∈ pm_T := pm_inT 497 (by decide +kernel) (by decide +kernel)
theorem ml_X6_3 : Jvm.Cond.methodLink RX6 3 Lib.objectInit ∈ pm_T := pm_inT 63 (by decide +kernel) (by decide +kernel)
theorem ml_X6_19 : Jvm.Cond.methodLink RX6 19 yX6_signedAt ∈ pm_T := pm_inT 341 (by decide +kernel) (by decide +kernel)
theorem ml_X7_3 : Jvm.Cond.methodLink RX7 3 Lib.objectInit ∈ pm_T := pm_inT 226 (by decide +kernel) (by decide +kernel)
theorem ml_X7_49 : Jvm.Cond.methodLink RX7 49 yX6_size ∈ pm_T := pm_inT 554 (by decide +kernel) (by decide +kernel)
theorem ml_X7_55 : Jvm.Cond.methodLink RX7 55 yX7_countTwins ∈ pm_T := pm_inT 555 (by decide +kernel) (by decide +kernel)
theorem ml_X7_59 : Jvm.Cond.methodLink RX7 59 yX7_layRoute ∈ pm_T := pm_inT 559 (by decide +kernel) (by decide +kernel)
theorem ml_X7_63 : Jvm.Cond.methodLink RX7 63 yX7_flyFromAll ∈ pm_T := pm_inT 565 (by decide +kernel) (by decide +kernel)
theorem ml_X7_66 : Jvm.Cond.methodLink RX7 66 yX7_areTwins ∈ pm_T := pm_inT 577 (by decide +kernel) (by decide +kernel)
theorem ml_X7_69 : Jvm.Cond.methodLink RX7 69 yX6_signedAt ∈ pm_T := pm_inT 563 (by decide +kernel) (by decide +kernel)
theorem ml_X7_76 : Jvm.Cond.methodLink RX7 76 yX3_depth ∈ pm_T := pm_inT 569 (by decide +kernel) (by decide +kernel)
theorem ml_X7_81 : Jvm.Cond.methodLink RX7 81 yX3_width ∈ pm_T := pm_inT 570 (by decide +kernel) (by decide +kernel)
theorem ml_X7_84 : Jvm.Cond.methodLink RX7 84 yX7_isFlown ∈ pm_T := pm_inT 571 (by decide +kernel) (by decide +kernel)
theorem ml_X7_87 : Jvm.Cond.methodLink RX7 87 yX3_cellAt ∈ pm_T := pm_inT 575 (by decide +kernel) (by decide +kernel)
theorem ml_X7_90 : Jvm.Cond.methodLink RX7 90 yX3_heightOf ∈ pm_T := pm_inT 576 (by decide +kernel) (by decide +kernel)
theorem ml_X7_93 : Jvm.Cond.methodLink RX7 93 yX2_alike ∈ pm_T := pm_inT 581 (by decide +kernel) (by decide +kernel)
theorem ml_L_7 : Jvm.Cond.methodLink RL 7 yX8_share ∈ pm_T := pm_inT 659 (by decide +kernel) (by decide +kernel)
theorem ml_L_15 : Jvm.Cond.methodLink RL 15 yX8_init ∈ pm_T := pm_inT 52 (by decide +kernel) (by decide +kernel)
theorem ml_L_18 : Jvm.Cond.methodLink RL 18 yX9_init ∈ pm_T := pm_inT 750 (by decide +kernel) (by decide +kernel)
theorem ml_L_19 : Jvm.Cond.methodLink RL 19 yX8_feed ∈ pm_T := pm_inT 302 (by decide +kernel) (by decide +kernel)
theorem ml_L_23 : Jvm.Cond.methodLink RL 23 yX9_feed ∈ pm_T := pm_inT 736 (by decide +kernel) (by decide +kernel)
theorem ml_L_24 : Jvm.Cond.methodLink RL 24 yX8_end ∈ pm_T := pm_inT 314 (by decide +kernel) (by decide +kernel)
theorem ml_L_28 : Jvm.Cond.methodLink RL 28 yX9_end ∈ pm_T := pm_inT 745 (by decide +kernel) (by decide +kernel)
theorem ml_L_29 : Jvm.Cond.methodLink RL 29 yX8_map ∈ pm_T := pm_inT 322 (by decide +kernel) (by decide +kernel)
theorem ml_L_33 : Jvm.Cond.methodLink RL 33 yX9_map ∈ pm_T := pm_inT 878 (by decide +kernel) (by decide +kernel)
theorem ml_L_34 : Jvm.Cond.methodLink RL 34 yX8_meter ∈ pm_T := pm_inT 356 (by decide +kernel) (by decide +kernel)
theorem ml_L_38 : Jvm.Cond.methodLink RL 38 yX9_meter ∈ pm_T := pm_inT 886 (by decide +kernel) (by decide +kernel)
theorem ml_L_39 : Jvm.Cond.methodLink RL 39 yX8_begin ∈ pm_T := pm_inT 364 (by decide +kernel) (by decide +kernel)
theorem ml_L_42 : Jvm.Cond.methodLink RL 42 yX9_begin ∈ pm_T := pm_inT 890 (by decide +kernel) (by decide +kernel)
theorem ml_L_43 : Jvm.Cond.methodLink RL 43 yX8_move ∈ pm_T := pm_inT 369 (by decide +kernel) (by decide +kernel)
theorem ml_L_47 : Jvm.Cond.methodLink RL 47 yX9_move ∈ pm_T := pm_inT 898 (by decide +kernel) (by decide +kernel)
theorem ml_L_48 : Jvm.Cond.methodLink RL 48 yX8_read ∈ pm_T := pm_inT 429 (by decide +kernel) (by decide +kernel)
theorem ml_L_52 : Jvm.Cond.methodLink RL 52 yX9_read ∈ pm_T := pm_inT 914 (by decide +kernel) (by decide +kernel)
theorem ml_L_53 : Jvm.Cond.methodLink RL 53 yL_share ∈ pm_T := pm_inT 655 (by decide +kernel) (by decide +kernel)
theorem ml_L_58 : Jvm.Cond.methodLink RL 58 yX9_share ∈ pm_T := pm_inT 925 (by decide +kernel) (by decide +kernel)
theorem ml_L_59 : Jvm.Cond.methodLink RL 59 yX9_thrown ∈ pm_T := pm_inT 732 (by decide +kernel) (by decide +kernel)
theorem ml_L_63 : Jvm.Cond.methodLink RL 63 yX8_likely ∈ pm_T := pm_inT 462 (by decide +kernel) (by decide +kernel)
theorem ml_L_66 : Jvm.Cond.methodLink RL 66 yX9_likely ∈ pm_T := pm_inT 936 (by decide +kernel) (by decide +kernel)
theorem ml_L_67 : Jvm.Cond.methodLink RL 67 yX8_span ∈ pm_T := pm_inT 470 (by decide +kernel) (by decide +kernel)
theorem ml_L_70 : Jvm.Cond.methodLink RL 70 yX9_span ∈ pm_T := pm_inT 940 (by decide +kernel) (by decide +kernel)
theorem ml_L_71 : Jvm.Cond.methodLink RL 71 yX8_best ∈ pm_T := pm_inT 478 (by decide +kernel) (by decide +kernel)
theorem ml_L_74 : Jvm.Cond.methodLink RL 74 yX9_best ∈ pm_T := pm_inT 944 (by decide +kernel) (by decide +kernel)
theorem ml_L_75 : Jvm.Cond.methodLink RL 75 yX8_path ∈ pm_T := pm_inT 538 (by decide +kernel) (by decide +kernel)
theorem ml_L_78 : Jvm.Cond.methodLink RL 78 yX9_path ∈ pm_T := pm_inT 960 (by decide +kernel) (by decide +kernel)
theorem ml_L_79 : Jvm.Cond.methodLink RL 79 yX8_twins ∈ pm_T := pm_inT 546 (by decide +kernel) (by decide +kernel)
theorem ml_L_82 : Jvm.Cond.methodLink RL 82 yX9_twins ∈ pm_T := pm_inT 964 (by decide +kernel) (by decide +kernel)
theorem ml_L_83 : Jvm.Cond.methodLink RL 83 yX8_twin ∈ pm_T := pm_inT 585 (by decide +kernel) (by decide +kernel)
theorem ml_L_86 : Jvm.Cond.methodLink RL 86 yX9_twin ∈ pm_T := pm_inT 976 (by decide +kernel) (by decide +kernel)
theorem ml_L_87 : Jvm.Cond.methodLink RL 87 yX8_route ∈ pm_T := pm_inT 593 (by decide +kernel) (by decide +kernel)
theorem ml_L_90 : Jvm.Cond.methodLink RL 90 yX9_route ∈ pm_T := pm_inT 980 (by decide +kernel) (by decide +kernel)
theorem ml_L_91 : Jvm.Cond.methodLink RL 91 yX8_check ∈ pm_T := pm_inT 601 (by decide +kernel) (by decide +kernel)
theorem ml_L_94 : Jvm.Cond.methodLink RL 94 yX9_check ∈ pm_T := pm_inT 984 (by decide +kernel) (by decide +kernel)
theorem ml_L_95 : Jvm.Cond.methodLink RL 95 yX8_height ∈ pm_T := pm_inT 632 (by decide +kernel) (by decide +kernel)
theorem ml_L_98 : Jvm.Cond.methodLink RL 98 yX9_height ∈ pm_T := pm_inT 991 (by decide +kernel) (by decide +kernel)
theorem ml_L_99 : Jvm.Cond.methodLink RL 99 yX8_count ∈ pm_T := pm_inT 637 (by decide +kernel) (by decide +kernel)
theorem ml_L_102 : Jvm.Cond.methodLink RL 102 yX9_count ∈ pm_T := pm_inT 995 (by decide +kernel) (by decide +kernel)
theorem ml_X9_10 : Jvm.Cond.methodLink RX9 10 yX9_four ∈ pm_T := pm_inT 740 (by decide +kernel) (by decide +kernel)
theorem ml_X9_21 : Jvm.Cond.methodLink RX9 21 Lib.objectInit ∈ pm_T := pm_inT 753 (by decide +kernel) (by decide +kernel)
theorem ml_X9_105 : Jvm.Cond.methodLink RX9 105 yX9_fly ∈ pm_T := pm_inT 754 (by decide +kernel) (by decide +kernel)
theorem ml_X9_108 : Jvm.Cond.methodLink RX9 108 yX9_cells ∈ pm_T := pm_inT 758 (by decide +kernel) (by decide +kernel)
theorem ml_X9_112 : Jvm.Cond.methodLink RX9 112 yX9_taken ∈ pm_T := pm_inT 882 (by decide +kernel) (by decide +kernel)
theorem ml_X9_127 : Jvm.Cond.methodLink RX9 127 yX9_size ∈ pm_T := pm_inT 922 (by decide +kernel) (by decide +kernel)
theorem ml_X9_139 : Jvm.Cond.methodLink RX9 139 yX9_isCell ∈ pm_T := pm_inT 894 (by decide +kernel) (by decide +kernel)
theorem ml_X9_143 : Jvm.Cond.methodLink RX9 143 yX9_off ∈ pm_T := pm_inT 902 (by decide +kernel) (by decide +kernel)
theorem ml_X9_147 : Jvm.Cond.methodLink RX9 147 yX9_weight ∈ pm_T := pm_inT 906 (by decide +kernel) (by decide +kernel)
theorem ml_X9_150 : Jvm.Cond.methodLink RX9 150 yX9_withShare ∈ pm_T := pm_inT 910 (by decide +kernel) (by decide +kernel)
theorem ml_X9_153 : Jvm.Cond.methodLink RX9 153 yX9_fits ∈ pm_T := pm_inT 918 (by decide +kernel) (by decide +kernel)
theorem ml_X9_157 : Jvm.Cond.methodLink RX9 157 yX9_throwsIf ∈ pm_T := pm_inT 929 (by decide +kernel) (by decide +kernel)
theorem ml_X9_161 : Jvm.Cond.methodLink RX9 161 yX9_common ∈ pm_T := pm_inT 933 (by decide +kernel) (by decide +kernel)
theorem ml_X9_165 : Jvm.Cond.methodLink RX9 165 yX9_errs ∈ pm_T := pm_inT 948 (by decide +kernel) (by decide +kernel)
theorem ml_X9_169 : Jvm.Cond.methodLink RX9 169 yX9_isBetter ∈ pm_T := pm_inT 952 (by decide +kernel) (by decide +kernel)
theorem ml_X9_173 : Jvm.Cond.methodLink RX9 173 yX9_isAhead ∈ pm_T := pm_inT 956 (by decide +kernel) (by decide +kernel)
theorem ml_X9_182 : Jvm.Cond.methodLink RX9 182 yX9_isRoute ∈ pm_T := pm_inT 968 (by decide +kernel) (by decide +kernel)
theorem ml_X9_185 : Jvm.Cond.methodLink RX9 185 yX9_pairs ∈ pm_T := pm_inT 972 (by decide +kernel) (by decide +kernel)
theorem ml_X9_188 : Jvm.Cond.methodLink RX9 188 yX9_middle ∈ pm_T := pm_inT 988 (by decide +kernel) (by decide +kernel)
theorem mn_X8_9 : (RX8, 9, yX6_init, "HillFinder") ∈ pm_N := pm_inN 60 (by decide +kernel)
theorem mn_X8_25 : (RX8, 25, yX2_init, "HillFinder") ∈ pm_N := pm_inN 91 (by decide +kernel)
theorem mn_X8_32 : (RX8, 32, yX5_init, "HillFinder") ∈ pm_N := pm_inN 107 (by decide +kernel)
theorem mn_X3_46 : (RX3, 46, yX8_isReading, "HillFinder") ∈ pm_N := pm_inN 345 (by decide +kernel)
theorem mn_X7_73 : (RX7, 73, yX8_isMove, "HillFinder") ∈ pm_N := pm_inN 564 (by decide +kernel)
theorem nw_X8_7 : pm_nw RX8 7 6 2 (fun k => defaultValue (tyX6 k)) := ⟨_, tyX6, rfl, rfl, pm_inT 58 (by decide +kernel) (by decide +kernel), pm_inT 59 (by decide +kernel) (by decide +kernel), wd_ini_6, tyX6_ok, fun _ _ => rfl⟩
theorem nw_X8_16 : pm_nw RX8 16 3 3 (fun k => defaultValue (tyX3 k)) := ⟨_, tyX3, rfl, rfl, pm_inT 72 (by decide +kernel) (by decide +kernel), pm_inT 73 (by decide +kernel) (by decide +kernel), wd_ini_3, tyX3_ok, fun _ _ => rfl⟩
theorem nw_X8_23 : pm_nw RX8 23 2 3 (fun k => defaultValue (tyX2 k)) := ⟨_, tyX2, rfl, rfl, pm_inT 89 (by decide +kernel) (by decide +kernel), pm_inT 90 (by decide +kernel) (by decide +kernel), wd_ini_2, tyX2_ok, fun _ _ => rfl⟩
theorem nw_X8_30 : pm_nw RX8 30 5 7 (fun k => defaultValue (tyX5 k)) := ⟨_, tyX5, rfl, rfl, pm_inT 105 (by decide +kernel) (by decide +kernel), pm_inT 106 (by decide +kernel) (by decide +kernel), wd_ini_5, tyX5_ok, fun _ _ => rfl⟩
theorem nw_X8_37 : pm_nw RX8 37 0 6 (fun k => defaultValue (tyX0 k)) := ⟨_, tyX0, rfl, rfl, pm_inT 133 (by decide +kernel) (by decide +kernel), pm_inT 134 (by decide +kernel) (by decide +kernel), wd_ini_0, tyX0_ok, fun _ _ => rfl⟩
theorem nw_X8_46 : pm_nw RX8 46 1 6 (fun k => defaultValue (tyX1 k)) := ⟨_, tyX1, rfl, rfl, pm_inT 158 (by decide +kernel) (by decide +kernel), pm_inT 159 (by decide +kernel) (by decide +kernel), wd_ini_1, tyX1_ok, fun _ _ => rfl⟩
theorem nw_X8_55 : pm_nw RX8 55 4 10 (fun k => defaultValue (tyX4 k)) := ⟨_, tyX4, rfl, rfl, pm_inT 184 (by decide +kernel) (by decide +kernel), pm_inT 185 (by decide +kernel) (by decide +kernel), wd_ini_4, tyX4_ok, fun _ _ => rfl⟩
theorem nw_X8_62 : pm_nw RX8 62 7 11 (fun k => defaultValue (tyX7 k)) := ⟨_, tyX7, rfl, rfl, pm_inT 221 (by decide +kernel) (by decide +kernel), pm_inT 222 (by decide +kernel) (by decide +kernel), wd_ini_7, tyX7_ok, fun _ _ => rfl⟩
theorem nw_L_8 : pm_nw RL 8 8 8 (fun k => defaultValue (tyX8 k)) := ⟨_, tyX8, rfl, rfl, pm_inT 50 (by decide +kernel) (by decide +kernel), pm_inT 51 (by decide +kernel) (by decide +kernel), wd_ini_8, tyX8_ok, fun _ _ => rfl⟩
theorem nw_L_16 : pm_nw RL 16 9 38 (fun k => defaultValue (tyX9 k)) := ⟨_, tyX9, rfl, rfl, pm_inT 749 (by decide +kernel) (by decide +kernel), pm_inT 743 (by decide +kernel) (by decide +kernel), wd_ini_9, tyX9_ok, fun _ _ => rfl⟩
end
section
theorem enX0_init {G : pm_G} {z zm : pm_z} {h : pm_h} {g : pm_g} {Q : Option Value → pm_h → pm_g → Prop} {b0 : Nat} {b1 : Nat} {b2 : Nat} (hz : pm_le z zm) (k : pm_W G mX0_init zm (pm_Φ G zm Q) 0 [.ref b0, .ref b1, .ref b2] [] z h g) : pm_Met G mX0_init [.ref b0, .ref b1, .ref b2] z zm h g Q := pm_Met.of pl_0 rfl rfl (Nat.le_of_ble_eq_true rfl) hz.1 hz.2 k
theorem enX0_mendings {G : pm_G} {z zm : pm_z} {h : pm_h} {g : pm_g} {Q : Option Value → pm_h → pm_g → Prop} {b0 : Nat} (hz : pm_le z zm) (k : pm_W G mX0_mendings zm (pm_Φ G zm Q) 0 [.ref b0] [] z h g) : pm_Met G mX0_mendings [.ref b0] z zm h g Q := pm_Met.of pl_0 rfl rfl (Nat.le_of_ble_eq_true rfl) hz.1 hz.2 k
theorem enX0_forget {G : pm_G} {z zm : pm_z} {h : pm_h} {g : pm_g} {Q : Option Value → pm_h → pm_g → Prop} {b0 : Nat} (hz : pm_le z zm) (k : pm_W G mX0_forget zm (pm_Φ G zm Q) 0 [.ref b0, pm_u] [] z h g) : pm_Met G mX0_forget [.ref b0] z zm h g Q := pm_Met.of pl_0 rfl rfl (Nat.le_of_ble_eq_true rfl) hz.1 hz.2 k
theorem enX0_hear {G : pm_G} {z zm : pm_z} {h : pm_h} {g : pm_g} {Q : Option Value → pm_h → pm_g → Prop} {b0 : Nat} {b1 : Int32} {b2 : Int32} (hz : pm_le z zm) (k : pm_W G mX0_hear zm (pm_Φ G zm Q) 0 [.ref b0, .int b1, .int b2, pm_u] [] z h g) : pm_Met G mX0_hear [.ref b0, .int b1, .int b2] z zm h g Q := pm_Met.of pl_0 rfl rfl (Nat.le_of_ble_eq_true rfl) hz.1 hz.2 k
theorem enX0_hearAgainst {G : pm_G} {z zm : pm_z} {h : pm_h} {g : pm_g} {Q : Option Value → pm_h → pm_g → Prop} {b0 : Nat} {b1 : Int32} {b2 : Int32} {b3 : Int32} (hz : pm_le z zm) (k : pm_W G mX0_hearAgainst zm (pm_Φ G zm Q) 0 [.ref b0, .int b1, .int b2, .int b3, pm_u] [] z h g) : pm_Met G mX0_hearAgainst [.ref b0, .int b1, .int b2, .int b3] z zm h g Q := pm_Met.of pl_0 rfl rfl (Nat.le_of_ble_eq_true rfl) hz.1 hz.2 k
theorem enX0_mend {G : pm_G} {z zm : pm_z} {h : pm_h} {g : pm_g} {Q : Option Value → pm_h → pm_g → Prop} {b0 : Nat} {b1 : Int32} {b2 : Int32} (hz : pm_le z zm) (k : pm_W G mX0_mend zm (pm_Φ G zm Q) 0 [.ref b0, .int b1, .int b2] [] z h g) : pm_Met G mX0_mend [.ref b0, .int b1, .int b2] z zm h g Q := pm_Met.of pl_0 rfl rfl (Nat.le_of_ble_eq_true rfl) hz.1 hz.2 k
theorem enX0_middle {G : pm_G} {z zm : pm_z} {h : pm_h} {g : pm_g} {Q : Option Value → pm_h → pm_g → Prop} {b0 : Int32} {b1 : Int32} {b2 : Int32} (hz : pm_le z zm) (k : pm_W G mX0_middle zm (pm_Φ G zm Q) 0 [.int b0, .int b1, .int b2] [] z h g) : pm_Met G mX0_middle [.int b0, .int b1, .int b2] z zm h g Q := pm_Met.of pl_0 rfl rfl (Nat.le_of_ble_eq_true rfl) hz.1 hz.2 k
theorem enX1_init {G : pm_G} {z zm : pm_z} {h : pm_h} {g : pm_g} {Q : Option Value → pm_h → pm_g → Prop} {b0 : Nat} {b1 : Nat} {b2 : Nat} {b3 : Nat} (hz : pm_le z zm) (k : pm_W G mX1_init zm (pm_Φ G zm Q) 0 [.ref b0, .ref b1, .ref b2, .ref b3] [] z h g) : pm_Met G mX1_init [.ref b0, .ref b1, .ref b2, .ref b3] z zm h g Q := pm_Met.of pl_1 rfl rfl (Nat.le_of_ble_eq_true rfl) hz.1 hz.2 k
theorem enX1_losses {G : pm_G} {z zm : pm_z} {h : pm_h} {g : pm_g} {Q : Option Value → pm_h → pm_g → Prop} {b0 : Nat} (hz : pm_le z zm) (k : pm_W G mX1_losses zm (pm_Φ G zm Q) 0 [.ref b0] [] z h g) : pm_Met G mX1_losses [.ref b0] z zm h g Q := pm_Met.of pl_1 rfl rfl (Nat.le_of_ble_eq_true rfl) hz.1 hz.2 k
theorem enX1_forgetLosses {G : pm_G} {z zm : pm_z} {h : pm_h} {g : pm_g} {Q : Option Value → pm_h → pm_g → Prop} {b0 : Nat} (hz : pm_le z zm) (k : pm_W G mX1_forgetLosses zm (pm_Φ G zm Q) 0 [.ref b0] [] z h g) : pm_Met G mX1_forgetLosses [.ref b0] z zm h g Q := pm_Met.of pl_1 rfl rfl (Nat.le_of_ble_eq_true rfl) hz.1 hz.2 k
theorem enX1_start {G : pm_G} {z zm : pm_z} {h : pm_h} {g : pm_g} {Q : Option Value → pm_h → pm_g → Prop} {b0 : Nat} {b1 : Int32} (hz : pm_le z zm) (k : pm_W G mX1_start zm (pm_Φ G zm Q) 0 [.ref b0, .int b1, pm_u] [] z h g) : pm_Met G mX1_start [.ref b0, .int b1] z zm h g Q := pm_Met.of pl_1 rfl rfl (Nat.le_of_ble_eq_true rfl) hz.1 hz.2 k
theorem enX1_fly {G : pm_G} {z zm : pm_z} {h : pm_h} {g : pm_g} {Q : Option Value → pm_h → pm_g → Prop} {b0 : Nat} {b1 : Int32} {b2 : Int32} (hz : pm_le z zm) (k : pm_W G mX1_fly zm (pm_Φ G zm Q) 0 [.ref b0, .int b1, .int b2, pm_u, pm_u, pm_u, pm_u] [] z h g) : pm_Met G mX1_fly [.ref b0, .int b1, .int b2] z zm h g Q := pm_Met.of pl_1 rfl rfl (Nat.le_of_ble_eq_true rfl) hz.1 hz.2 k
theorem enX1_clearMoved {G : pm_G} {z zm : pm_z} {h : pm_h} {g : pm_g} {Q : Option Value → pm_h → pm_g → Prop} {b0 : Nat} (hz : pm_le z zm) (k : pm_W G mX1_clearMoved zm (pm_Φ G zm Q) 0 [.ref b0, pm_u] [] z h g) : pm_Met G mX1_clearMoved [.ref b0] z zm h g Q := pm_Met.of pl_1 rfl rfl (Nat.le_of_ble_eq_true rfl) hz.1 hz.2 k
theorem enX1_spread {G : pm_G} {z zm : pm_z} {h : pm_h} {g : pm_g} {Q : Option Value → pm_h → pm_g → Prop} {b0 : Nat} {b1 : Int64} {b2 : Int32} {b3 : Int32} (hz : pm_le z zm) (k : pm_W G mX1_spread zm (pm_Φ G zm Q) 0 [.ref b0, .long b1, pm_u, .int b2, .int b3, pm_u, pm_u, pm_u] [] z h g) : pm_Met G mX1_spread [.ref b0, .long b1, .int b2, .int b3] z zm h g Q := pm_Met.of pl_1 rfl rfl (Nat.le_of_ble_eq_true rfl) hz.1 hz.2 k
theorem enX1_sight {G : pm_G} {z zm : pm_z} {h : pm_h} {g : pm_g} {Q : Option Value → pm_h → pm_g → Prop} {b0 : Nat} {b1 : Int32} (hz : pm_le z zm) (k : pm_W G mX1_sight zm (pm_Φ G zm Q) 0 [.ref b0, .int b1] [] z h g) : pm_Met G mX1_sight [.ref b0, .int b1] z zm h g Q := pm_Met.of pl_1 rfl rfl (Nat.le_of_ble_eq_true rfl) hz.1 hz.2 k
theorem enX1_dropUnfit {G : pm_G} {z zm : pm_z} {h : pm_h} {g : pm_g} {Q : Option Value → pm_h → pm_g → Prop} {b0 : Nat} {b1 : Int32} (hz : pm_le z zm) (k : pm_W G mX1_dropUnfit zm (pm_Φ G zm Q) 0 [.ref b0, .int b1, pm_u] [] z h g) : pm_Met G mX1_dropUnfit [.ref b0, .int b1] z zm h g Q := pm_Met.of pl_1 rfl rfl (Nat.le_of_ble_eq_true rfl) hz.1 hz.2 k
theorem enX1_beginAgain {G : pm_G} {z zm : pm_z} {h : pm_h} {g : pm_g} {Q : Option Value → pm_h → pm_g → Prop} {b0 : Nat} (hz : pm_le z zm) (k : pm_W G mX1_beginAgain zm (pm_Φ G zm Q) 0 [.ref b0] [] z h g) : pm_Met G mX1_beginAgain [.ref b0] z zm h g Q := pm_Met.of pl_1 rfl rfl (Nat.le_of_ble_eq_true rfl) hz.1 hz.2 k
theorem enX1_shareOf {G : pm_G} {z zm : pm_z} {h : pm_h} {g : pm_g} {Q : Option Value → pm_h → pm_g → Prop} {b0 : Nat} {b1 : Int32} (hz : pm_le z zm) (k : pm_W G mX1_shareOf zm (pm_Φ G zm Q) 0 [.ref b0, .int b1] [] z h g) : pm_Met G mX1_shareOf [.ref b0, .int b1] z zm h g Q := pm_Met.of pl_1 rfl rfl (Nat.le_of_ble_eq_true rfl) hz.1 hz.2 k
theorem enX1_total {G : pm_G} {z zm : pm_z} {h : pm_h} {g : pm_g} {Q : Option Value → pm_h → pm_g → Prop} {b0 : Nat} (hz : pm_le z zm) (k : pm_W G mX1_total zm (pm_Φ G zm Q) 0 [.ref b0, pm_u, pm_u, pm_u] [] z h g) : pm_Met G mX1_total [.ref b0] z zm h g Q := pm_Met.of pl_1 rfl rfl (Nat.le_of_ble_eq_true rfl) hz.1 hz.2 k
theorem enX1_holders {G : pm_G} {z zm : pm_z} {h : pm_h} {g : pm_g} {Q : Option Value → pm_h → pm_g → Prop} {b0 : Nat} (hz : pm_le z zm) (k : pm_W G mX1_holders zm (pm_Φ G zm Q) 0 [.ref b0, pm_u, pm_u] [] z h g) : pm_Met G mX1_holders [.ref b0] z zm h g Q := pm_Met.of pl_1 rfl rfl (Nat.le_of_ble_eq_true rfl) hz.1 hz.2 k
theorem enX1_likeliest {G : pm_G} {z zm : pm_z} {h : pm_h} {g : pm_g} {Q : Option Value → pm_h → pm_g → Prop} {b0 : Nat} (hz : pm_le z zm) (k : pm_W G mX1_likeliest zm (pm_Φ G zm Q) 0 [.ref b0, pm_u, pm_u] [] z h g) : pm_Met G mX1_likeliest [.ref b0] z zm h g Q := pm_Met.of pl_1 rfl rfl (Nat.le_of_ble_eq_true rfl) hz.1 hz.2 k
theorem enX1_edge {G : pm_G} {z zm : pm_z} {h : pm_h} {g : pm_g} {Q : Option Value → pm_h → pm_g → Prop} {b0 : Nat} {b1 : Int32} (hz : pm_le z zm) (k : pm_W G mX1_edge zm (pm_Φ G zm Q) 0 [.ref b0, .int b1, pm_u, pm_u, pm_u, pm_u, pm_u] [] z h g) : pm_Met G mX1_edge [.ref b0, .int b1] z zm h g Q := pm_Met.of pl_1 rfl rfl (Nat.le_of_ble_eq_true rfl) hz.1 hz.2 k
theorem enX2_init {G : pm_G} {z zm : pm_z} {h : pm_h} {g : pm_g} {Q : Option Value → pm_h → pm_g → Prop} {b0 : Nat} (hz : pm_le z zm) (k : pm_W G mX2_init zm (pm_Φ G zm Q) 0 [.ref b0] [] z h g) : pm_Met G mX2_init [.ref b0] z zm h g Q := pm_Met.of pl_2 rfl rfl (Nat.le_of_ble_eq_true rfl) hz.1 hz.2 k
theorem enX2_err {G : pm_G} {z zm : pm_z} {h : pm_h} {g : pm_g} {Q : Option Value → pm_h → pm_g → Prop} {b0 : Nat} (hz : pm_le z zm) (k : pm_W G mX2_err zm (pm_Φ G zm Q) 0 [.ref b0] [] z h g) : pm_Met G mX2_err [.ref b0] z zm h g Q := pm_Met.of pl_2 rfl rfl (Nat.le_of_ble_eq_true rfl) hz.1 hz.2 k
theorem enX2_set {G : pm_G} {z zm : pm_z} {h : pm_h} {g : pm_g} {Q : Option Value → pm_h → pm_g → Prop} {b0 : Nat} {b1 : Int32} {b2 : Int32} {b3 : Int32} (hz : pm_le z zm) (k : pm_W G mX2_set zm (pm_Φ G zm Q) 0 [.ref b0, .int b1, .int b2, .int b3] [] z h g) : pm_Met G mX2_set [.ref b0, .int b1, .int b2, .int b3] z zm h g Q := pm_Met.of pl_2 rfl rfl (Nat.le_of_ble_eq_true rfl) hz.1 hz.2 k
theorem enX2_weight {G : pm_G} {z zm : pm_z} {h : pm_h} {g : pm_g} {Q : Option Value → pm_h → pm_g → Prop} {b0 : Nat} {b1 : Int32} {b2 : Int32} (hz : pm_le z zm) (k : pm_W G mX2_weight zm (pm_Φ G zm Q) 0 [.ref b0, .int b1, .int b2] [] z h g) : pm_Met G mX2_weight [.ref b0, .int b1, .int b2] z zm h g Q := pm_Met.of pl_2 rfl rfl (Nat.le_of_ble_eq_true rfl) hz.1 hz.2 k
theorem enX2_fits {G : pm_G} {z zm : pm_z} {h : pm_h} {g : pm_g} {Q : Option Value → pm_h → pm_g → Prop} {b0 : Nat} {b1 : Int32} {b2 : Int32} (hz : pm_le z zm) (k : pm_W G mX2_fits zm (pm_Φ G zm Q) 0 [.ref b0, .int b1, .int b2] [] z h g) : pm_Met G mX2_fits [.ref b0, .int b1, .int b2] z zm h g Q := pm_Met.of pl_2 rfl rfl (Nat.le_of_ble_eq_true rfl) hz.1 hz.2 k
theorem enX2_alike {G : pm_G} {z zm : pm_z} {h : pm_h} {g : pm_g} {Q : Option Value → pm_h → pm_g → Prop} {b0 : Nat} {b1 : Int32} {b2 : Int32} (hz : pm_le z zm) (k : pm_W G mX2_alike zm (pm_Φ G zm Q) 0 [.ref b0, .int b1, .int b2] [] z h g) : pm_Met G mX2_alike [.ref b0, .int b1, .int b2] z zm h g Q := pm_Met.of pl_2 rfl rfl (Nat.le_of_ble_eq_true rfl) hz.1 hz.2 k
theorem enX3_init {G : pm_G} {z zm : pm_z} {h : pm_h} {g : pm_g} {Q : Option Value → pm_h → pm_g → Prop} {b0 : Nat} (hz : pm_le z zm) (k : pm_W G mX3_init zm (pm_Φ G zm Q) 0 [.ref b0, pm_u] [] z h g) : pm_Met G mX3_init [.ref b0] z zm h g Q := pm_Met.of pl_3 rfl rfl (Nat.le_of_ble_eq_true rfl) hz.1 hz.2 k
theorem enX3_width {G : pm_G} {z zm : pm_z} {h : pm_h} {g : pm_g} {Q : Option Value → pm_h → pm_g → Prop} {b0 : Nat} (hz : pm_le z zm) (k : pm_W G mX3_width zm (pm_Φ G zm Q) 0 [.ref b0] [] z h g) : pm_Met G mX3_width [.ref b0] z zm h g Q := pm_Met.of pl_3 rfl rfl (Nat.le_of_ble_eq_true rfl) hz.1 hz.2 k
theorem enX3_depth {G : pm_G} {z zm : pm_z} {h : pm_h} {g : pm_g} {Q : Option Value → pm_h → pm_g → Prop} {b0 : Nat} (hz : pm_le z zm) (k : pm_W G mX3_depth zm (pm_Φ G zm Q) 0 [.ref b0] [] z h g) : pm_Met G mX3_depth [.ref b0] z zm h g Q := pm_Met.of pl_3 rfl rfl (Nat.le_of_ble_eq_true rfl) hz.1 hz.2 k
theorem enX3_cells {G : pm_G} {z zm : pm_z} {h : pm_h} {g : pm_g} {Q : Option Value → pm_h → pm_g → Prop} {b0 : Nat} (hz : pm_le z zm) (k : pm_W G mX3_cells zm (pm_Φ G zm Q) 0 [.ref b0] [] z h g) : pm_Met G mX3_cells [.ref b0] z zm h g Q := pm_Met.of pl_3 rfl rfl (Nat.le_of_ble_eq_true rfl) hz.1 hz.2 k
theorem enX3_has {G : pm_G} {z zm : pm_z} {h : pm_h} {g : pm_g} {Q : Option Value → pm_h → pm_g → Prop} {b0 : Nat} {b1 : Int32} (hz : pm_le z zm) (k : pm_W G mX3_has zm (pm_Φ G zm Q) 0 [.ref b0, .int b1] [] z h g) : pm_Met G mX3_has [.ref b0, .int b1] z zm h g Q := pm_Met.of pl_3 rfl rfl (Nat.le_of_ble_eq_true rfl) hz.1 hz.2 k
theorem enX3_cellAt {G : pm_G} {z zm : pm_z} {h : pm_h} {g : pm_g} {Q : Option Value → pm_h → pm_g → Prop} {b0 : Nat} {b1 : Int32} {b2 : Int32} (hz : pm_le z zm) (k : pm_W G mX3_cellAt zm (pm_Φ G zm Q) 0 [.ref b0, .int b1, .int b2] [] z h g) : pm_Met G mX3_cellAt [.ref b0, .int b1, .int b2] z zm h g Q := pm_Met.of pl_3 rfl rfl (Nat.le_of_ble_eq_true rfl) hz.1 hz.2 k
theorem enX3_heightOf {G : pm_G} {z zm : pm_z} {h : pm_h} {g : pm_g} {Q : Option Value → pm_h → pm_g → Prop} {b0 : Nat} {b1 : Int32} (hz : pm_le z zm) (k : pm_W G mX3_heightOf zm (pm_Φ G zm Q) 0 [.ref b0, .int b1] [] z h g) : pm_Met G mX3_heightOf [.ref b0, .int b1] z zm h g Q := pm_Met.of pl_3 rfl rfl (Nat.le_of_ble_eq_true rfl) hz.1 hz.2 k
theorem enX3_setHeight {G : pm_G} {z zm : pm_z} {h : pm_h} {g : pm_g} {Q : Option Value → pm_h → pm_g → Prop} {b0 : Nat} {b1 : Int32} {b2 : Int32} (hz : pm_le z zm) (k : pm_W G mX3_setHeight zm (pm_Φ G zm Q) 0 [.ref b0, .int b1, .int b2] [] z h g) : pm_Met G mX3_setHeight [.ref b0, .int b1, .int b2] z zm h g Q := pm_Met.of pl_3 rfl rfl (Nat.le_of_ble_eq_true rfl) hz.1 hz.2 k
theorem enX3_tell {G : pm_G} {z zm : pm_z} {h : pm_h} {g : pm_g} {Q : Option Value → pm_h → pm_g → Prop} {b0 : Nat} {b1 : Int32} {b2 : Int32} {b3 : Nat} (hz : pm_le z zm) (k : pm_W G mX3_tell zm (pm_Φ G zm Q) 0 [.ref b0, .int b1, .int b2, .ref b3, pm_u, pm_u] [] z h g) : pm_Met G mX3_tell [.ref b0, .int b1, .int b2, .ref b3] z zm h g Q := pm_Met.of pl_3 rfl rfl (Nat.le_of_ble_eq_true rfl) hz.1 hz.2 k
theorem enX3_isSide {G : pm_G} {z zm : pm_z} {h : pm_h} {g : pm_g} {Q : Option Value → pm_h → pm_g → Prop} {b0 : Int32} (hz : pm_le z zm) (k : pm_W G mX3_isSide zm (pm_Φ G zm Q) 0 [.int b0] [] z h g) : pm_Met G mX3_isSide [.int b0] z zm h g Q := pm_Met.of pl_3 rfl rfl (Nat.le_of_ble_eq_true rfl) hz.1 hz.2 k
theorem enX3_allHeights {G : pm_G} {z zm : pm_z} {h : pm_h} {g : pm_g} {Q : Option Value → pm_h → pm_g → Prop} {b0 : Nat} (hz : pm_le z zm) (k : pm_W G mX3_allHeights zm (pm_Φ G zm Q) 0 [.ref b0, pm_u, pm_u] [] z h g) : pm_Met G mX3_allHeights [.ref b0] z zm h g Q := pm_Met.of pl_3 rfl rfl (Nat.le_of_ble_eq_true rfl) hz.1 hz.2 k
theorem enX4_init {G : pm_G} {z zm : pm_z} {h : pm_h} {g : pm_g} {Q : Option Value → pm_h → pm_g → Prop} {b0 : Nat} {b1 : Nat} {b2 : Nat} {b3 : Nat} (hz : pm_le z zm) (k : pm_W G mX4_init zm (pm_Φ G zm Q) 0 [.ref b0, .ref b1, .ref b2, .ref b3] [] z h g) : pm_Met G mX4_init [.ref b0, .ref b1, .ref b2, .ref b3] z zm h g Q := pm_Met.of pl_4 rfl rfl (Nat.le_of_ble_eq_true rfl) hz.1 hz.2 k
theorem enX4_cellOfPath {G : pm_G} {z zm : pm_z} {h : pm_h} {g : pm_g} {Q : Option Value → pm_h → pm_g → Prop} {b0 : Nat} {b1 : Int32} (hz : pm_le z zm) (k : pm_W G mX4_cellOfPath zm (pm_Φ G zm Q) 0 [.ref b0, .int b1] [] z h g) : pm_Met G mX4_cellOfPath [.ref b0, .int b1] z zm h g Q := pm_Met.of pl_4 rfl rfl (Nat.le_of_ble_eq_true rfl) hz.1 hz.2 k
theorem enX4_findBest {G : pm_G} {z zm : pm_z} {h : pm_h} {g : pm_g} {Q : Option Value → pm_h → pm_g → Prop} {b0 : Nat} (hz : pm_le z zm) (k : pm_W G mX4_findBest zm (pm_Φ G zm Q) 0 [.ref b0, pm_u] [] z h g) : pm_Met G mX4_findBest [.ref b0] z zm h g Q := pm_Met.of pl_4 rfl rfl (Nat.le_of_ble_eq_true rfl) hz.1 hz.2 k
theorem enX4_rateEnds {G : pm_G} {z zm : pm_z} {h : pm_h} {g : pm_g} {Q : Option Value → pm_h → pm_g → Prop} {b0 : Nat} (hz : pm_le z zm) (k : pm_W G mX4_rateEnds zm (pm_Φ G zm Q) 0 [.ref b0, pm_u] [] z h g) : pm_Met G mX4_rateEnds [.ref b0] z zm h g Q := pm_Met.of pl_4 rfl rfl (Nat.le_of_ble_eq_true rfl) hz.1 hz.2 k
theorem enX4_stepBack {G : pm_G} {z zm : pm_z} {h : pm_h} {g : pm_g} {Q : Option Value → pm_h → pm_g → Prop} {b0 : Nat} {b1 : Int32} (hz : pm_le z zm) (k : pm_W G mX4_stepBack zm (pm_Φ G zm Q) 0 [.ref b0, .int b1, pm_u, pm_u] [] z h g) : pm_Met G mX4_stepBack [.ref b0, .int b1] z zm h g Q := pm_Met.of pl_4 rfl rfl (Nat.le_of_ble_eq_true rfl) hz.1 hz.2 k
theorem enX4_rate {G : pm_G} {z zm : pm_z} {h : pm_h} {g : pm_g} {Q : Option Value → pm_h → pm_g → Prop} {b0 : Nat} {b1 : Int32} {b2 : Int32} {b3 : Int32} {b4 : Int32} (hz : pm_le z zm) (k : pm_W G mX4_rate zm (pm_Φ G zm Q) 0 [.ref b0, .int b1, .int b2, .int b3, .int b4, pm_u, pm_u, pm_u, pm_u] [] z h g) : pm_Met G mX4_rate [.ref b0, .int b1, .int b2, .int b3, .int b4] z zm h g Q := pm_Met.of pl_4 rfl rfl (Nat.le_of_ble_eq_true rfl) hz.1 hz.2 k
theorem enX4_leads {G : pm_G} {z zm : pm_z} {h : pm_h} {g : pm_g} {Q : Option Value → pm_h → pm_g → Prop} {b0 : Nat} {b1 : Int32} {b2 : Int32} {b3 : Int32} (hz : pm_le z zm) (k : pm_W G mX4_leads zm (pm_Φ G zm Q) 0 [.ref b0, .int b1, .int b2, .int b3] [] z h g) : pm_Met G mX4_leads [.ref b0, .int b1, .int b2, .int b3] z zm h g Q := pm_Met.of pl_4 rfl rfl (Nat.le_of_ble_eq_true rfl) hz.1 hz.2 k
theorem enX4_isBetter {G : pm_G} {z zm : pm_z} {h : pm_h} {g : pm_g} {Q : Option Value → pm_h → pm_g → Prop} {b0 : Int32} {b1 : Int64} {b2 : Int32} {b3 : Int64} (hz : pm_le z zm) (k : pm_W G mX4_isBetter zm (pm_Φ G zm Q) 0 [.int b0, .long b1, pm_u, .int b2, .long b3, pm_u] [] z h g) : pm_Met G mX4_isBetter [.int b0, .long b1, .int b2, .long b3] z zm h g Q := pm_Met.of pl_4 rfl rfl (Nat.le_of_ble_eq_true rfl) hz.1 hz.2 k
theorem enX4_bestFirst {G : pm_G} {z zm : pm_z} {h : pm_h} {g : pm_g} {Q : Option Value → pm_h → pm_g → Prop} {b0 : Nat} (hz : pm_le z zm) (k : pm_W G mX4_bestFirst zm (pm_Φ G zm Q) 0 [.ref b0, pm_u, pm_u, pm_u] [] z h g) : pm_Met G mX4_bestFirst [.ref b0] z zm h g Q := pm_Met.of pl_4 rfl rfl (Nat.le_of_ble_eq_true rfl) hz.1 hz.2 k
theorem enX4_keepPath {G : pm_G} {z zm : pm_z} {h : pm_h} {g : pm_g} {Q : Option Value → pm_h → pm_g → Prop} {b0 : Nat} {b1 : Int32} (hz : pm_le z zm) (k : pm_W G mX4_keepPath zm (pm_Φ G zm Q) 0 [.ref b0, .int b1, pm_u, pm_u, pm_u] [] z h g) : pm_Met G mX4_keepPath [.ref b0, .int b1] z zm h g Q := pm_Met.of pl_4 rfl rfl (Nat.le_of_ble_eq_true rfl) hz.1 hz.2 k
theorem enX5_init {G : pm_G} {z zm : pm_z} {h : pm_h} {g : pm_g} {Q : Option Value → pm_h → pm_g → Prop} {b0 : Nat} (hz : pm_le z zm) (k : pm_W G mX5_init zm (pm_Φ G zm Q) 0 [.ref b0] [] z h g) : pm_Met G mX5_init [.ref b0] z zm h g Q := pm_Met.of pl_5 rfl rfl (Nat.le_of_ble_eq_true rfl) hz.1 hz.2 k
theorem enX5_moves {G : pm_G} {z zm : pm_z} {h : pm_h} {g : pm_g} {Q : Option Value → pm_h → pm_g → Prop} {b0 : Nat} (hz : pm_le z zm) (k : pm_W G mX5_moves zm (pm_Φ G zm Q) 0 [.ref b0] [] z h g) : pm_Met G mX5_moves [.ref b0] z zm h g Q := pm_Met.of pl_5 rfl rfl (Nat.le_of_ble_eq_true rfl) hz.1 hz.2 k
theorem enX5_readings {G : pm_G} {z zm : pm_z} {h : pm_h} {g : pm_g} {Q : Option Value → pm_h → pm_g → Prop} {b0 : Nat} (hz : pm_le z zm) (k : pm_W G mX5_readings zm (pm_Φ G zm Q) 0 [.ref b0] [] z h g) : pm_Met G mX5_readings [.ref b0] z zm h g Q := pm_Met.of pl_5 rfl rfl (Nat.le_of_ble_eq_true rfl) hz.1 hz.2 k
theorem enX5_start {G : pm_G} {z zm : pm_z} {h : pm_h} {g : pm_g} {Q : Option Value → pm_h → pm_g → Prop} {b0 : Nat} (hz : pm_le z zm) (k : pm_W G mX5_start zm (pm_Φ G zm Q) 0 [.ref b0] [] z h g) : pm_Met G mX5_start [.ref b0] z zm h g Q := pm_Met.of pl_5 rfl rfl (Nat.le_of_ble_eq_true rfl) hz.1 hz.2 k
theorem enX5_restart {G : pm_G} {z zm : pm_z} {h : pm_h} {g : pm_g} {Q : Option Value → pm_h → pm_g → Prop} {b0 : Nat} {b1 : Int32} (hz : pm_le z zm) (k : pm_W G mX5_restart zm (pm_Φ G zm Q) 0 [.ref b0, .int b1] [] z h g) : pm_Met G mX5_restart [.ref b0, .int b1] z zm h g Q := pm_Met.of pl_5 rfl rfl (Nat.le_of_ble_eq_true rfl) hz.1 hz.2 k
theorem enX5_addMove {G : pm_G} {z zm : pm_z} {h : pm_h} {g : pm_g} {Q : Option Value → pm_h → pm_g → Prop} {b0 : Nat} {b1 : Int32} {b2 : Int32} (hz : pm_le z zm) (k : pm_W G mX5_addMove zm (pm_Φ G zm Q) 0 [.ref b0, .int b1, .int b2] [] z h g) : pm_Met G mX5_addMove [.ref b0, .int b1, .int b2] z zm h g Q := pm_Met.of pl_5 rfl rfl (Nat.le_of_ble_eq_true rfl) hz.1 hz.2 k
theorem enX5_addReading {G : pm_G} {z zm : pm_z} {h : pm_h} {g : pm_g} {Q : Option Value → pm_h → pm_g → Prop} {b0 : Nat} {b1 : Int32} (hz : pm_le z zm) (k : pm_W G mX5_addReading zm (pm_Φ G zm Q) 0 [.ref b0, .int b1] [] z h g) : pm_Met G mX5_addReading [.ref b0, .int b1] z zm h g Q := pm_Met.of pl_5 rfl rfl (Nat.le_of_ble_eq_true rfl) hz.1 hz.2 k
theorem enX5_dx {G : pm_G} {z zm : pm_z} {h : pm_h} {g : pm_g} {Q : Option Value → pm_h → pm_g → Prop} {b0 : Nat} {b1 : Int32} (hz : pm_le z zm) (k : pm_W G mX5_dx zm (pm_Φ G zm Q) 0 [.ref b0, .int b1] [] z h g) : pm_Met G mX5_dx [.ref b0, .int b1] z zm h g Q := pm_Met.of pl_5 rfl rfl (Nat.le_of_ble_eq_true rfl) hz.1 hz.2 k
theorem enX5_dy {G : pm_G} {z zm : pm_z} {h : pm_h} {g : pm_g} {Q : Option Value → pm_h → pm_g → Prop} {b0 : Nat} {b1 : Int32} (hz : pm_le z zm) (k : pm_W G mX5_dy zm (pm_Φ G zm Q) 0 [.ref b0, .int b1] [] z h g) : pm_Met G mX5_dy [.ref b0, .int b1] z zm h g Q := pm_Met.of pl_5 rfl rfl (Nat.le_of_ble_eq_true rfl) hz.1 hz.2 k
theorem enX5_faultAt {G : pm_G} {z zm : pm_z} {h : pm_h} {g : pm_g} {Q : Option Value → pm_h → pm_g → Prop} {b0 : Nat} {b1 : Int32} {b2 : Int32} (hz : pm_le z zm) (k : pm_W G mX5_faultAt zm (pm_Φ G zm Q) 0 [.ref b0, .int b1, .int b2, pm_u, pm_u] [] z h g) : pm_Met G mX5_faultAt [.ref b0, .int b1, .int b2] z zm h g Q := pm_Met.of pl_5 rfl rfl (Nat.le_of_ble_eq_true rfl) hz.1 hz.2 k
theorem enX6_init {G : pm_G} {z zm : pm_z} {h : pm_h} {g : pm_g} {Q : Option Value → pm_h → pm_g → Prop} {b0 : Nat} (hz : pm_le z zm) (k : pm_W G mX6_init zm (pm_Φ G zm Q) 0 [.ref b0] [] z h g) : pm_Met G mX6_init [.ref b0] z zm h g Q := pm_Met.of pl_6 rfl rfl (Nat.le_of_ble_eq_true rfl) hz.1 hz.2 k
theorem enX6_size {G : pm_G} {z zm : pm_z} {h : pm_h} {g : pm_g} {Q : Option Value → pm_h → pm_g → Prop} {b0 : Nat} (hz : pm_le z zm) (k : pm_W G mX6_size zm (pm_Φ G zm Q) 0 [.ref b0] [] z h g) : pm_Met G mX6_size [.ref b0] z zm h g Q := pm_Met.of pl_6 rfl rfl (Nat.le_of_ble_eq_true rfl) hz.1 hz.2 k
theorem enX6_append {G : pm_G} {z zm : pm_z} {h : pm_h} {g : pm_g} {Q : Option Value → pm_h → pm_g → Prop} {b0 : Nat} {b1 : Int32} (hz : pm_le z zm) (k : pm_W G mX6_append zm (pm_Φ G zm Q) 0 [.ref b0, .int b1, pm_u] [] z h g) : pm_Met G mX6_append [.ref b0, .int b1] z zm h g Q := pm_Met.of pl_6 rfl rfl (Nat.le_of_ble_eq_true rfl) hz.1 hz.2 k
theorem enX6_cut {G : pm_G} {z zm : pm_z} {h : pm_h} {g : pm_g} {Q : Option Value → pm_h → pm_g → Prop} {b0 : Nat} {b1 : Int32} (hz : pm_le z zm) (k : pm_W G mX6_cut zm (pm_Φ G zm Q) 0 [.ref b0, .int b1] [] z h g) : pm_Met G mX6_cut [.ref b0, .int b1] z zm h g Q := pm_Met.of pl_6 rfl rfl (Nat.le_of_ble_eq_true rfl) hz.1 hz.2 k
theorem enX6_signedAt {G : pm_G} {z zm : pm_z} {h : pm_h} {g : pm_g} {Q : Option Value → pm_h → pm_g → Prop} {b0 : Nat} {b1 : Int32} (hz : pm_le z zm) (k : pm_W G mX6_signedAt zm (pm_Φ G zm Q) 0 [.ref b0, .int b1] [] z h g) : pm_Met G mX6_signedAt [.ref b0, .int b1] z zm h g Q := pm_Met.of pl_6 rfl rfl (Nat.le_of_ble_eq_true rfl) hz.1 hz.2 k
theorem enX6_unsignedAt {G : pm_G} {z zm : pm_z} {h : pm_h} {g : pm_g} {Q : Option Value → pm_h → pm_g → Prop} {b0 : Nat} {b1 : Int32} (hz : pm_le z zm) (k : pm_W G mX6_unsignedAt zm (pm_Φ G zm Q) 0 [.ref b0, .int b1] [] z h g) : pm_Met G mX6_unsignedAt [.ref b0, .int b1] z zm h g Q := pm_Met.of pl_6 rfl rfl (Nat.le_of_ble_eq_true rfl) hz.1 hz.2 k
theorem enX7_init {G : pm_G} {z zm : pm_z} {h : pm_h} {g : pm_g} {Q : Option Value → pm_h → pm_g → Prop} {b0 : Nat} {b1 : Nat} {b2 : Nat} {b3 : Nat} (hz : pm_le z zm) (k : pm_W G mX7_init zm (pm_Φ G zm Q) 0 [.ref b0, .ref b1, .ref b2, .ref b3] [] z h g) : pm_Met G mX7_init [.ref b0, .ref b1, .ref b2, .ref b3] z zm h g Q := pm_Met.of pl_7 rfl rfl (Nat.le_of_ble_eq_true rfl) hz.1 hz.2 k
theorem enX7_firstPair {G : pm_G} {z zm : pm_z} {h : pm_h} {g : pm_g} {Q : Option Value → pm_h → pm_g → Prop} {b0 : Nat} (hz : pm_le z zm) (k : pm_W G mX7_firstPair zm (pm_Φ G zm Q) 0 [.ref b0] [] z h g) : pm_Met G mX7_firstPair [.ref b0] z zm h g Q := pm_Met.of pl_7 rfl rfl (Nat.le_of_ble_eq_true rfl) hz.1 hz.2 k
theorem enX7_twinsOfTape {G : pm_G} {z zm : pm_z} {h : pm_h} {g : pm_g} {Q : Option Value → pm_h → pm_g → Prop} {b0 : Nat} (hz : pm_le z zm) (k : pm_W G mX7_twinsOfTape zm (pm_Φ G zm Q) 0 [.ref b0, pm_u] [] z h g) : pm_Met G mX7_twinsOfTape [.ref b0] z zm h g Q := pm_Met.of pl_7 rfl rfl (Nat.le_of_ble_eq_true rfl) hz.1 hz.2 k
theorem enX7_tellingRoute {G : pm_G} {z zm : pm_z} {h : pm_h} {g : pm_g} {Q : Option Value → pm_h → pm_g → Prop} {b0 : Nat} {b1 : Int32} (hz : pm_le z zm) (k : pm_W G mX7_tellingRoute zm (pm_Φ G zm Q) 0 [.ref b0, .int b1, pm_u, pm_u, pm_u, pm_u, pm_u] [] z h g) : pm_Met G mX7_tellingRoute [.ref b0, .int b1] z zm h g Q := pm_Met.of pl_7 rfl rfl (Nat.le_of_ble_eq_true rfl) hz.1 hz.2 k
theorem enX7_countTwins {G : pm_G} {z zm : pm_z} {h : pm_h} {g : pm_g} {Q : Option Value → pm_h → pm_g → Prop} {b0 : Nat} {b1 : Int32} {b2 : Int32} (hz : pm_le z zm) (k : pm_W G mX7_countTwins zm (pm_Φ G zm Q) 0 [.ref b0, .int b1, .int b2, pm_u, pm_u, pm_u] [] z h g) : pm_Met G mX7_countTwins [.ref b0, .int b1, .int b2] z zm h g Q := pm_Met.of pl_7 rfl rfl (Nat.le_of_ble_eq_true rfl) hz.1 hz.2 k
theorem enX7_layRoute {G : pm_G} {z zm : pm_z} {h : pm_h} {g : pm_g} {Q : Option Value → pm_h → pm_g → Prop} {b0 : Nat} {b1 : Int32} {b2 : Int32} (hz : pm_le z zm) (k : pm_W G mX7_layRoute zm (pm_Φ G zm Q) 0 [.ref b0, .int b1, .int b2, pm_u, pm_u, pm_u] [] z h g) : pm_Met G mX7_layRoute [.ref b0, .int b1, .int b2] z zm h g Q := pm_Met.of pl_7 rfl rfl (Nat.le_of_ble_eq_true rfl) hz.1 hz.2 k
theorem enX7_flyFromAll {G : pm_G} {z zm : pm_z} {h : pm_h} {g : pm_g} {Q : Option Value → pm_h → pm_g → Prop} {b0 : Nat} (hz : pm_le z zm) (k : pm_W G mX7_flyFromAll zm (pm_Φ G zm Q) 0 [.ref b0, pm_u, pm_u] [] z h g) : pm_Met G mX7_flyFromAll [.ref b0] z zm h g Q := pm_Met.of pl_7 rfl rfl (Nat.le_of_ble_eq_true rfl) hz.1 hz.2 k
theorem enX7_isFlown {G : pm_G} {z zm : pm_z} {h : pm_h} {g : pm_g} {Q : Option Value → pm_h → pm_g → Prop} {b0 : Nat} {b1 : Int32} {b2 : Int32} (hz : pm_le z zm) (k : pm_W G mX7_isFlown zm (pm_Φ G zm Q) 0 [.ref b0, .int b1, .int b2, pm_u, pm_u, pm_u] [] z h g) : pm_Met G mX7_isFlown [.ref b0, .int b1, .int b2] z zm h g Q := pm_Met.of pl_7 rfl rfl (Nat.le_of_ble_eq_true rfl) hz.1 hz.2 k
theorem enX7_areTwins {G : pm_G} {z zm : pm_z} {h : pm_h} {g : pm_g} {Q : Option Value → pm_h → pm_g → Prop} {b0 : Nat} {b1 : Int32} {b2 : Int32} (hz : pm_le z zm) (k : pm_W G mX7_areTwins zm (pm_Φ G zm Q) 0 [.ref b0, .int b1, .int b2, pm_u, pm_u, pm_u] [] z h g) : pm_Met G mX7_areTwins [.ref b0, .int b1, .int b2] z zm h g Q := pm_Met.of pl_7 rfl rfl (Nat.le_of_ble_eq_true rfl) hz.1 hz.2 k
theorem enX8_init {G : pm_G} {z zm : pm_z} {h : pm_h} {g : pm_g} {Q : Option Value → pm_h → pm_g → Prop} {b0 : Nat} (hz : pm_le z zm) (k : pm_W G mX8_init zm (pm_Φ G zm Q) 0 [.ref b0] [] z h g) : pm_Met G mX8_init [.ref b0] z zm h g Q := pm_Met.of pl_8 rfl rfl (Nat.le_of_ble_eq_true rfl) hz.1 hz.2 k
theorem enX8_feed {G : pm_G} {z zm : pm_z} {h : pm_h} {g : pm_g} {Q : Option Value → pm_h → pm_g → Prop} {b0 : Nat} {b1 : Int32} {b2 : Int32} {b3 : Int32} {b4 : Int32} {b5 : Int32} (hz : pm_le z zm) (k : pm_W G mX8_feed zm (pm_Φ G zm Q) 0 [.ref b0, .int b1, .int b2, .int b3, .int b4, .int b5] [] z h g) : pm_Met G mX8_feed [.ref b0, .int b1, .int b2, .int b3, .int b4, .int b5] z zm h g Q := pm_Met.of pl_8 rfl rfl (Nat.le_of_ble_eq_true rfl) hz.1 hz.2 k
theorem enX8_end {G : pm_G} {z zm : pm_z} {h : pm_h} {g : pm_g} {Q : Option Value → pm_h → pm_g → Prop} {b0 : Nat} {b1 : Int32} (hz : pm_le z zm) (k : pm_W G mX8_end zm (pm_Φ G zm Q) 0 [.ref b0, .int b1] [] z h g) : pm_Met G mX8_end [.ref b0, .int b1] z zm h g Q := pm_Met.of pl_8 rfl rfl (Nat.le_of_ble_eq_true rfl) hz.1 hz.2 k
theorem enX8_map {G : pm_G} {z zm : pm_z} {h : pm_h} {g : pm_g} {Q : Option Value → pm_h → pm_g → Prop} {b0 : Nat} {b1 : Int32} {b2 : Int32} (hz : pm_le z zm) (k : pm_W G mX8_map zm (pm_Φ G zm Q) 0 [.ref b0, .int b1, .int b2, pm_u] [] z h g) : pm_Met G mX8_map [.ref b0, .int b1, .int b2] z zm h g Q := pm_Met.of pl_8 rfl rfl (Nat.le_of_ble_eq_true rfl) hz.1 hz.2 k
theorem enX8_meter {G : pm_G} {z zm : pm_z} {h : pm_h} {g : pm_g} {Q : Option Value → pm_h → pm_g → Prop} {b0 : Nat} {b1 : Int32} {b2 : Int32} {b3 : Int32} (hz : pm_le z zm) (k : pm_W G mX8_meter zm (pm_Φ G zm Q) 0 [.ref b0, .int b1, .int b2, .int b3] [] z h g) : pm_Met G mX8_meter [.ref b0, .int b1, .int b2, .int b3] z zm h g Q := pm_Met.of pl_8 rfl rfl (Nat.le_of_ble_eq_true rfl) hz.1 hz.2 k
theorem enX8_begin {G : pm_G} {z zm : pm_z} {h : pm_h} {g : pm_g} {Q : Option Value → pm_h → pm_g → Prop} {b0 : Nat} {b1 : Int32} (hz : pm_le z zm) (k : pm_W G mX8_begin zm (pm_Φ G zm Q) 0 [.ref b0, .int b1] [] z h g) : pm_Met G mX8_begin [.ref b0, .int b1] z zm h g Q := pm_Met.of pl_8 rfl rfl (Nat.le_of_ble_eq_true rfl) hz.1 hz.2 k
theorem enX8_move {G : pm_G} {z zm : pm_z} {h : pm_h} {g : pm_g} {Q : Option Value → pm_h → pm_g → Prop} {b0 : Nat} {b1 : Int32} {b2 : Int32} (hz : pm_le z zm) (k : pm_W G mX8_move zm (pm_Φ G zm Q) 0 [.ref b0, .int b1, .int b2] [] z h g) : pm_Met G mX8_move [.ref b0, .int b1, .int b2] z zm h g Q := pm_Met.of pl_8 rfl rfl (Nat.le_of_ble_eq_true rfl) hz.1 hz.2 k
theorem enX8_read {G : pm_G} {z zm : pm_z} {h : pm_h} {g : pm_g} {Q : Option Value → pm_h → pm_g → Prop} {b0 : Nat} {b1 : Int32} (hz : pm_le z zm) (k : pm_W G mX8_read zm (pm_Φ G zm Q) 0 [.ref b0, .int b1] [] z h g) : pm_Met G mX8_read [.ref b0, .int b1] z zm h g Q := pm_Met.of pl_8 rfl rfl (Nat.le_of_ble_eq_true rfl) hz.1 hz.2 k
theorem enX8_share {G : pm_G} {z zm : pm_z} {h : pm_h} {g : pm_g} {Q : Option Value → pm_h → pm_g → Prop} {b0 : Nat} {b1 : Int32} {b2 : Int32} (hz : pm_le z zm) (k : pm_W G mX8_share zm (pm_Φ G zm Q) 0 [.ref b0, .int b1, .int b2, pm_u, pm_u, pm_u, pm_u, pm_u, pm_u] [] z h g) : pm_Met G mX8_share [.ref b0, .int b1, .int b2] z zm h g Q := pm_Met.of pl_8 rfl rfl (Nat.le_of_ble_eq_true rfl) hz.1 hz.2 k
theorem enX8_likely {G : pm_G} {z zm : pm_z} {h : pm_h} {g : pm_g} {Q : Option Value → pm_h → pm_g → Prop} {b0 : Nat} (hz : pm_le z zm) (k : pm_W G mX8_likely zm (pm_Φ G zm Q) 0 [.ref b0] [] z h g) : pm_Met G mX8_likely [.ref b0] z zm h g Q := pm_Met.of pl_8 rfl rfl (Nat.le_of_ble_eq_true rfl) hz.1 hz.2 k
theorem enX8_span {G : pm_G} {z zm : pm_z} {h : pm_h} {g : pm_g} {Q : Option Value → pm_h → pm_g → Prop} {b0 : Nat} {b1 : Int32} (hz : pm_le z zm) (k : pm_W G mX8_span zm (pm_Φ G zm Q) 0 [.ref b0, .int b1] [] z h g) : pm_Met G mX8_span [.ref b0, .int b1] z zm h g Q := pm_Met.of pl_8 rfl rfl (Nat.le_of_ble_eq_true rfl) hz.1 hz.2 k
theorem enX8_best {G : pm_G} {z zm : pm_z} {h : pm_h} {g : pm_g} {Q : Option Value → pm_h → pm_g → Prop} {b0 : Nat} (hz : pm_le z zm) (k : pm_W G mX8_best zm (pm_Φ G zm Q) 0 [.ref b0] [] z h g) : pm_Met G mX8_best [.ref b0] z zm h g Q := pm_Met.of pl_8 rfl rfl (Nat.le_of_ble_eq_true rfl) hz.1 hz.2 k
theorem enX8_path {G : pm_G} {z zm : pm_z} {h : pm_h} {g : pm_g} {Q : Option Value → pm_h → pm_g → Prop} {b0 : Nat} {b1 : Int32} (hz : pm_le z zm) (k : pm_W G mX8_path zm (pm_Φ G zm Q) 0 [.ref b0, .int b1] [] z h g) : pm_Met G mX8_path [.ref b0, .int b1] z zm h g Q := pm_Met.of pl_8 rfl rfl (Nat.le_of_ble_eq_true rfl) hz.1 hz.2 k
theorem enX8_twins {G : pm_G} {z zm : pm_z} {h : pm_h} {g : pm_g} {Q : Option Value → pm_h → pm_g → Prop} {b0 : Nat} (hz : pm_le z zm) (k : pm_W G mX8_twins zm (pm_Φ G zm Q) 0 [.ref b0, pm_u] [] z h g) : pm_Met G mX8_twins [.ref b0] z zm h g Q := pm_Met.of pl_8 rfl rfl (Nat.le_of_ble_eq_true rfl) hz.1 hz.2 k
theorem enX8_twin {G : pm_G} {z zm : pm_z} {h : pm_h} {g : pm_g} {Q : Option Value → pm_h → pm_g → Prop} {b0 : Nat} (hz : pm_le z zm) (k : pm_W G mX8_twin zm (pm_Φ G zm Q) 0 [.ref b0] [] z h g) : pm_Met G mX8_twin [.ref b0] z zm h g Q := pm_Met.of pl_8 rfl rfl (Nat.le_of_ble_eq_true rfl) hz.1 hz.2 k
theorem enX8_route {G : pm_G} {z zm : pm_z} {h : pm_h} {g : pm_g} {Q : Option Value → pm_h → pm_g → Prop} {b0 : Nat} {b1 : Int32} (hz : pm_le z zm) (k : pm_W G mX8_route zm (pm_Φ G zm Q) 0 [.ref b0, .int b1, pm_u] [] z h g) : pm_Met G mX8_route [.ref b0, .int b1] z zm h g Q := pm_Met.of pl_8 rfl rfl (Nat.le_of_ble_eq_true rfl) hz.1 hz.2 k
theorem enX8_check {G : pm_G} {z zm : pm_z} {h : pm_h} {g : pm_g} {Q : Option Value → pm_h → pm_g → Prop} {b0 : Nat} {b1 : Int32} {b2 : Int32} (hz : pm_le z zm) (k : pm_W G mX8_check zm (pm_Φ G zm Q) 0 [.ref b0, .int b1, .int b2] [] z h g) : pm_Met G mX8_check [.ref b0, .int b1, .int b2] z zm h g Q := pm_Met.of pl_8 rfl rfl (Nat.le_of_ble_eq_true rfl) hz.1 hz.2 k
theorem enX8_height {G : pm_G} {z zm : pm_z} {h : pm_h} {g : pm_g} {Q : Option Value → pm_h → pm_g → Prop} {b0 : Nat} {b1 : Int32} (hz : pm_le z zm) (k : pm_W G mX8_height zm (pm_Φ G zm Q) 0 [.ref b0, .int b1] [] z h g) : pm_Met G mX8_height [.ref b0, .int b1] z zm h g Q := pm_Met.of pl_8 rfl rfl (Nat.le_of_ble_eq_true rfl) hz.1 hz.2 k
theorem enX8_count {G : pm_G} {z zm : pm_z} {h : pm_h} {g : pm_g} {Q : Option Value → pm_h → pm_g → Prop} {b0 : Nat} {b1 : Int32} (hz : pm_le z zm) (k : pm_W G mX8_count zm (pm_Φ G zm Q) 0 [.ref b0, .int b1] [] z h g) : pm_Met G mX8_count [.ref b0, .int b1] z zm h g Q := pm_Met.of pl_8 rfl rfl (Nat.le_of_ble_eq_true rfl) hz.1 hz.2 k
theorem enX8_isMove {G : pm_G} {z zm : pm_z} {h : pm_h} {g : pm_g} {Q : Option Value → pm_h → pm_g → Prop} {b0 : Int32} {b1 : Int32} (hz : pm_le z zm) (k : pm_W G mX8_isMove zm (pm_Φ G zm Q) 0 [.int b0, .int b1] [] z h g) : pm_Met G mX8_isMove [.int b0, .int b1] z zm h g Q := pm_Met.of pl_8 rfl rfl (Nat.le_of_ble_eq_true rfl) hz.1 hz.2 k
theorem enX8_isReading {G : pm_G} {z zm : pm_z} {h : pm_h} {g : pm_g} {Q : Option Value → pm_h → pm_g → Prop} {b0 : Int32} (hz : pm_le z zm) (k : pm_W G mX8_isReading zm (pm_Φ G zm Q) 0 [.int b0] [] z h g) : pm_Met G mX8_isReading [.int b0] z zm h g Q := pm_Met.of pl_8 rfl rfl (Nat.le_of_ble_eq_true rfl) hz.1 hz.2 k
theorem enX8_commonDivisor {G : pm_G} {z zm : pm_z} {h : pm_h} {g : pm_g} {Q : Option Value → pm_h → pm_g → Prop} {b0 : Int64} {b1 : Int64} (hz : pm_le z zm) (k : pm_W G mX8_commonDivisor zm (pm_Φ G zm Q) 0 [.long b0, pm_u, .long b1, pm_u, pm_u, pm_u, pm_u, pm_u, pm_u, pm_u, pm_u] [] z h g) : pm_Met G mX8_commonDivisor [.long b0, .long b1] z zm h g Q := pm_Met.of pl_8 rfl rfl (Nat.le_of_ble_eq_true rfl) hz.1 hz.2 k
theorem enX9_thrown {G : pm_G} {z zm : pm_z} {h : pm_h} {g : pm_g} {Q : Option Value → pm_h → pm_g → Prop} {b0 : Nat} (hz : pm_le z zm) (k : pm_W G mX9_thrown zm (pm_Φ G zm Q) 0 [.ref b0] [] z h g) : pm_Met G mX9_thrown [.ref b0] z zm h g Q := pm_Met.of pl_9 rfl rfl (Nat.le_of_ble_eq_true rfl) hz.1 hz.2 k
theorem enX9_throwsIf {G : pm_G} {z zm : pm_z} {h : pm_h} {g : pm_g} {Q : Option Value → pm_h → pm_g → Prop} {b0 : Nat} {b1 : Int32} (hz : pm_le z zm) (k : pm_W G mX9_throwsIf zm (pm_Φ G zm Q) 0 [.ref b0, .int b1] [] z h g) : pm_Met G mX9_throwsIf [.ref b0, .int b1] z zm h g Q := pm_Met.of pl_9 rfl rfl (Nat.le_of_ble_eq_true rfl) hz.1 hz.2 k
theorem enX9_feed {G : pm_G} {z zm : pm_z} {h : pm_h} {g : pm_g} {Q : Option Value → pm_h → pm_g → Prop} {b0 : Nat} {b1 : Int32} {b2 : Int32} {b3 : Int32} {b4 : Int32} {b5 : Int32} (hz : pm_le z zm) (k : pm_W G mX9_feed zm (pm_Φ G zm Q) 0 [.ref b0, .int b1, .int b2, .int b3, .int b4, .int b5] [] z h g) : pm_Met G mX9_feed [.ref b0, .int b1, .int b2, .int b3, .int b4, .int b5] z zm h g Q := pm_Met.of pl_9 rfl rfl (Nat.le_of_ble_eq_true rfl) hz.1 hz.2 k
theorem enX9_four {G : pm_G} {z zm : pm_z} {h : pm_h} {g : pm_g} {Q : Option Value → pm_h → pm_g → Prop} {b0 : Nat} {b1 : Int32} (hz : pm_le z zm) (k : pm_W G mX9_four zm (pm_Φ G zm Q) 0 [.ref b0, .int b1, pm_u] [] z h g) : pm_Met G mX9_four [.ref b0, .int b1] z zm h g Q := pm_Met.of pl_9 rfl rfl (Nat.le_of_ble_eq_true rfl) hz.1 hz.2 k
theorem enX9_end {G : pm_G} {z zm : pm_z} {h : pm_h} {g : pm_g} {Q : Option Value → pm_h → pm_g → Prop} {b0 : Nat} {b1 : Int32} (hz : pm_le z zm) (k : pm_W G mX9_end zm (pm_Φ G zm Q) 0 [.ref b0, .int b1] [] z h g) : pm_Met G mX9_end [.ref b0, .int b1] z zm h g Q := pm_Met.of pl_9 rfl rfl (Nat.le_of_ble_eq_true rfl) hz.1 hz.2 k
theorem enX9_taken {G : pm_G} {z zm : pm_z} {h : pm_h} {g : pm_g} {Q : Option Value → pm_h → pm_g → Prop} {b0 : Nat} (hz : pm_le z zm) (k : pm_W G mX9_taken zm (pm_Φ G zm Q) 0 [.ref b0] [] z h g) : pm_Met G mX9_taken [.ref b0] z zm h g Q := pm_Met.of pl_9 rfl rfl (Nat.le_of_ble_eq_true rfl) hz.1 hz.2 k
theorem enX9_init {G : pm_G} {z zm : pm_z} {h : pm_h} {g : pm_g} {Q : Option Value → pm_h → pm_g → Prop} {b0 : Nat} (hz : pm_le z zm) (k : pm_W G mX9_init zm (pm_Φ G zm Q) 0 [.ref b0, pm_u] [] z h g) : pm_Met G mX9_init [.ref b0] z zm h g Q := pm_Met.of pl_9 rfl rfl (Nat.le_of_ble_eq_true rfl) hz.1 hz.2 k
theorem enX9_cells {G : pm_G} {z zm : pm_z} {h : pm_h} {g : pm_g} {Q : Option Value → pm_h → pm_g → Prop} {b0 : Nat} (hz : pm_le z zm) (k : pm_W G mX9_cells zm (pm_Φ G zm Q) 0 [.ref b0] [] z h g) : pm_Met G mX9_cells [.ref b0] z zm h g Q := pm_Met.of pl_9 rfl rfl (Nat.le_of_ble_eq_true rfl) hz.1 hz.2 k
theorem enX9_isCell {G : pm_G} {z zm : pm_z} {h : pm_h} {g : pm_g} {Q : Option Value → pm_h → pm_g → Prop} {b0 : Nat} {b1 : Int32} (hz : pm_le z zm) (k : pm_W G mX9_isCell zm (pm_Φ G zm Q) 0 [.ref b0, .int b1] [] z h g) : pm_Met G mX9_isCell [.ref b0, .int b1] z zm h g Q := pm_Met.of pl_9 rfl rfl (Nat.le_of_ble_eq_true rfl) hz.1 hz.2 k
theorem enX9_map {G : pm_G} {z zm : pm_z} {h : pm_h} {g : pm_g} {Q : Option Value → pm_h → pm_g → Prop} {b0 : Nat} {b1 : Int32} {b2 : Int32} (hz : pm_le z zm) (k : pm_W G mX9_map zm (pm_Φ G zm Q) 0 [.ref b0, .int b1, .int b2, pm_u] [] z h g) : pm_Met G mX9_map [.ref b0, .int b1, .int b2] z zm h g Q := pm_Met.of pl_9 rfl rfl (Nat.le_of_ble_eq_true rfl) hz.1 hz.2 k
theorem enX9_meter {G : pm_G} {z zm : pm_z} {h : pm_h} {g : pm_g} {Q : Option Value → pm_h → pm_g → Prop} {b0 : Nat} {b1 : Int32} {b2 : Int32} {b3 : Int32} (hz : pm_le z zm) (k : pm_W G mX9_meter zm (pm_Φ G zm Q) 0 [.ref b0, .int b1, .int b2, .int b3] [] z h g) : pm_Met G mX9_meter [.ref b0, .int b1, .int b2, .int b3] z zm h g Q := pm_Met.of pl_9 rfl rfl (Nat.le_of_ble_eq_true rfl) hz.1 hz.2 k
theorem enX9_size {G : pm_G} {z zm : pm_z} {h : pm_h} {g : pm_g} {Q : Option Value → pm_h → pm_g → Prop} {b0 : Int32} (hz : pm_le z zm) (k : pm_W G mX9_size zm (pm_Φ G zm Q) 0 [.int b0] [] z h g) : pm_Met G mX9_size [.int b0] z zm h g Q := pm_Met.of pl_9 rfl rfl (Nat.le_of_ble_eq_true rfl) hz.1 hz.2 k
theorem enX9_fits {G : pm_G} {z zm : pm_z} {h : pm_h} {g : pm_g} {Q : Option Value → pm_h → pm_g → Prop} {b0 : Nat} {b1 : Int32} {b2 : Int32} (hz : pm_le z zm) (k : pm_W G mX9_fits zm (pm_Φ G zm Q) 0 [.ref b0, .int b1, .int b2] [] z h g) : pm_Met G mX9_fits [.ref b0, .int b1, .int b2] z zm h g Q := pm_Met.of pl_9 rfl rfl (Nat.le_of_ble_eq_true rfl) hz.1 hz.2 k
theorem enX9_fly {G : pm_G} {z zm : pm_z} {h : pm_h} {g : pm_g} {Q : Option Value → pm_h → pm_g → Prop} {b0 : Nat} {b1 : Int32} (hz : pm_le z zm) (k : pm_W G mX9_fly zm (pm_Φ G zm Q) 0 [.ref b0, .int b1, pm_u] [] z h g) : pm_Met G mX9_fly [.ref b0, .int b1] z zm h g Q := pm_Met.of pl_9 rfl rfl (Nat.le_of_ble_eq_true rfl) hz.1 hz.2 k
theorem enX9_begin {G : pm_G} {z zm : pm_z} {h : pm_h} {g : pm_g} {Q : Option Value → pm_h → pm_g → Prop} {b0 : Nat} {b1 : Int32} (hz : pm_le z zm) (k : pm_W G mX9_begin zm (pm_Φ G zm Q) 0 [.ref b0, .int b1] [] z h g) : pm_Met G mX9_begin [.ref b0, .int b1] z zm h g Q := pm_Met.of pl_9 rfl rfl (Nat.le_of_ble_eq_true rfl) hz.1 hz.2 k
theorem enX9_withShare {G : pm_G} {z zm : pm_z} {h : pm_h} {g : pm_g} {Q : Option Value → pm_h → pm_g → Prop} {b0 : Nat} (hz : pm_le z zm) (k : pm_W G mX9_withShare zm (pm_Φ G zm Q) 0 [.ref b0, pm_u, pm_u] [] z h g) : pm_Met G mX9_withShare [.ref b0] z zm h g Q := pm_Met.of pl_9 rfl rfl (Nat.le_of_ble_eq_true rfl) hz.1 hz.2 k
theorem enX9_weight {G : pm_G} {z zm : pm_z} {h : pm_h} {g : pm_g} {Q : Option Value → pm_h → pm_g → Prop} {b0 : Nat} {b1 : Int32} (hz : pm_le z zm) (k : pm_W G mX9_weight zm (pm_Φ G zm Q) 0 [.ref b0, .int b1] [] z h g) : pm_Met G mX9_weight [.ref b0, .int b1] z zm h g Q := pm_Met.of pl_9 rfl rfl (Nat.le_of_ble_eq_true rfl) hz.1 hz.2 k
theorem enX9_off {G : pm_G} {z zm : pm_z} {h : pm_h} {g : pm_g} {Q : Option Value → pm_h → pm_g → Prop} {b0 : Nat} {b1 : Int32} {b2 : Int32} {b3 : Int32} (hz : pm_le z zm) (k : pm_W G mX9_off zm (pm_Φ G zm Q) 0 [.ref b0, .int b1, .int b2, .int b3, pm_u, pm_u] [] z h g) : pm_Met G mX9_off [.ref b0, .int b1, .int b2, .int b3] z zm h g Q := pm_Met.of pl_9 rfl rfl (Nat.le_of_ble_eq_true rfl) hz.1 hz.2 k
theorem enX9_move {G : pm_G} {z zm : pm_z} {h : pm_h} {g : pm_g} {Q : Option Value → pm_h → pm_g → Prop} {b0 : Nat} {b1 : Int32} {b2 : Int32} (hz : pm_le z zm) (k : pm_W G mX9_move zm (pm_Φ G zm Q) 0 [.ref b0, .int b1, .int b2, pm_u, pm_u, pm_u, pm_u] [] z h g) : pm_Met G mX9_move [.ref b0, .int b1, .int b2] z zm h g Q := pm_Met.of pl_9 rfl rfl (Nat.le_of_ble_eq_true rfl) hz.1 hz.2 k
theorem enX9_read {G : pm_G} {z zm : pm_z} {h : pm_h} {g : pm_g} {Q : Option Value → pm_h → pm_g → Prop} {b0 : Nat} {b1 : Int32} (hz : pm_le z zm) (k : pm_W G mX9_read zm (pm_Φ G zm Q) 0 [.ref b0, .int b1, pm_u, pm_u] [] z h g) : pm_Met G mX9_read [.ref b0, .int b1] z zm h g Q := pm_Met.of pl_9 rfl rfl (Nat.le_of_ble_eq_true rfl) hz.1 hz.2 k
theorem enX9_common {G : pm_G} {z zm : pm_z} {h : pm_h} {g : pm_g} {Q : Option Value → pm_h → pm_g → Prop} {b0 : Int64} {b1 : Int64} (hz : pm_le z zm) (k : pm_W G mX9_common zm (pm_Φ G zm Q) 0 [.long b0, pm_u, .long b1, pm_u, pm_u, pm_u, pm_u, pm_u, pm_u, pm_u] [] z h g) : pm_Met G mX9_common [.long b0, .long b1] z zm h g Q := pm_Met.of pl_9 rfl rfl (Nat.le_of_ble_eq_true rfl) hz.1 hz.2 k
theorem enX9_share {G : pm_G} {z zm : pm_z} {h : pm_h} {g : pm_g} {Q : Option Value → pm_h → pm_g → Prop} {b0 : Nat} {b1 : Int32} {b2 : Int32} (hz : pm_le z zm) (k : pm_W G mX9_share zm (pm_Φ G zm Q) 0 [.ref b0, .int b1, .int b2, pm_u, pm_u, pm_u, pm_u] [] z h g) : pm_Met G mX9_share [.ref b0, .int b1, .int b2] z zm h g Q := pm_Met.of pl_9 rfl rfl (Nat.le_of_ble_eq_true rfl) hz.1 hz.2 k
theorem enX9_likely {G : pm_G} {z zm : pm_z} {h : pm_h} {g : pm_g} {Q : Option Value → pm_h → pm_g → Prop} {b0 : Nat} (hz : pm_le z zm) (k : pm_W G mX9_likely zm (pm_Φ G zm Q) 0 [.ref b0, pm_u, pm_u] [] z h g) : pm_Met G mX9_likely [.ref b0] z zm h g Q := pm_Met.of pl_9 rfl rfl (Nat.le_of_ble_eq_true rfl) hz.1 hz.2 k
theorem enX9_span {G : pm_G} {z zm : pm_z} {h : pm_h} {g : pm_g} {Q : Option Value → pm_h → pm_g → Prop} {b0 : Nat} {b1 : Int32} (hz : pm_le z zm) (k : pm_W G mX9_span zm (pm_Φ G zm Q) 0 [.ref b0, .int b1, pm_u, pm_u, pm_u] [] z h g) : pm_Met G mX9_span [.ref b0, .int b1] z zm h g Q := pm_Met.of pl_9 rfl rfl (Nat.le_of_ble_eq_true rfl) hz.1 hz.2 k
theorem enX9_errs {G : pm_G} {z zm : pm_z} {h : pm_h} {g : pm_g} {Q : Option Value → pm_h → pm_g → Prop} {b0 : Nat} {b1 : Int32} {b2 : Int32} (hz : pm_le z zm) (k : pm_W G mX9_errs zm (pm_Φ G zm Q) 0 [.ref b0, .int b1, .int b2, pm_u, pm_u] [] z h g) : pm_Met G mX9_errs [.ref b0, .int b1, .int b2] z zm h g Q := pm_Met.of pl_9 rfl rfl (Nat.le_of_ble_eq_true rfl) hz.1 hz.2 k
theorem enX9_isBetter {G : pm_G} {z zm : pm_z} {h : pm_h} {g : pm_g} {Q : Option Value → pm_h → pm_g → Prop} {b0 : Nat} {b1 : Int32} {b2 : Int64} {b3 : Int32} {b4 : Int32} {b5 : Int32} (hz : pm_le z zm) (k : pm_W G mX9_isBetter zm (pm_Φ G zm Q) 0 [.ref b0, .int b1, .long b2, pm_u, .int b3, .int b4, .int b5, pm_u] [] z h g) : pm_Met G mX9_isBetter [.ref b0, .int b1, .long b2, .int b3, .int b4, .int b5] z zm h g Q := pm_Met.of pl_9 rfl rfl (Nat.le_of_ble_eq_true rfl) hz.1 hz.2 k
theorem enX9_best {G : pm_G} {z zm : pm_z} {h : pm_h} {g : pm_g} {Q : Option Value → pm_h → pm_g → Prop} {b0 : Nat} (hz : pm_le z zm) (k : pm_W G mX9_best zm (pm_Φ G zm Q) 0 [.ref b0, pm_u, pm_u, pm_u, pm_u, pm_u, pm_u, pm_u, pm_u] [] z h g) : pm_Met G mX9_best [.ref b0] z zm h g Q := pm_Met.of pl_9 rfl rfl (Nat.le_of_ble_eq_true rfl) hz.1 hz.2 k
theorem enX9_isAhead {G : pm_G} {z zm : pm_z} {h : pm_h} {g : pm_g} {Q : Option Value → pm_h → pm_g → Prop} {b0 : Nat} {b1 : Int32} {b2 : Int32} (hz : pm_le z zm) (k : pm_W G mX9_isAhead zm (pm_Φ G zm Q) 0 [.ref b0, .int b1, .int b2, pm_u] [] z h g) : pm_Met G mX9_isAhead [.ref b0, .int b1, .int b2] z zm h g Q := pm_Met.of pl_9 rfl rfl (Nat.le_of_ble_eq_true rfl) hz.1 hz.2 k
theorem enX9_path {G : pm_G} {z zm : pm_z} {h : pm_h} {g : pm_g} {Q : Option Value → pm_h → pm_g → Prop} {b0 : Nat} {b1 : Int32} (hz : pm_le z zm) (k : pm_W G mX9_path zm (pm_Φ G zm Q) 0 [.ref b0, .int b1] [] z h g) : pm_Met G mX9_path [.ref b0, .int b1] z zm h g Q := pm_Met.of pl_9 rfl rfl (Nat.le_of_ble_eq_true rfl) hz.1 hz.2 k
theorem enX9_pairs {G : pm_G} {z zm : pm_z} {h : pm_h} {g : pm_g} {Q : Option Value → pm_h → pm_g → Prop} {b0 : Nat} {b1 : Int32} {b2 : Int32} (hz : pm_le z zm) (k : pm_W G mX9_pairs zm (pm_Φ G zm Q) 0 [.ref b0, .int b1, .int b2, pm_u, pm_u, pm_u, pm_u, pm_u] [] z h g) : pm_Met G mX9_pairs [.ref b0, .int b1, .int b2] z zm h g Q := pm_Met.of pl_9 rfl rfl (Nat.le_of_ble_eq_true rfl) hz.1 hz.2 k
theorem enX9_isRoute {G : pm_G} {z zm : pm_z} {h : pm_h} {g : pm_g} {Q : Option Value → pm_h → pm_g → Prop} {b0 : Nat} {b1 : Int32} {b2 : Int32} (hz : pm_le z zm) (k : pm_W G mX9_isRoute zm (pm_Φ G zm Q) 0 [.ref b0, .int b1, .int b2, pm_u] [] z h g) : pm_Met G mX9_isRoute [.ref b0, .int b1, .int b2] z zm h g Q := pm_Met.of pl_9 rfl rfl (Nat.le_of_ble_eq_true rfl) hz.1 hz.2 k
theorem enX9_twins {G : pm_G} {z zm : pm_z} {h : pm_h} {g : pm_g} {Q : Option Value → pm_h → pm_g → Prop} {b0 : Nat} (hz : pm_le z zm) (k : pm_W G mX9_twins zm (pm_Φ G zm Q) 0 [.ref b0, pm_u] [] z h g) : pm_Met G mX9_twins [.ref b0] z zm h g Q := pm_Met.of pl_9 rfl rfl (Nat.le_of_ble_eq_true rfl) hz.1 hz.2 k
theorem enX9_twin {G : pm_G} {z zm : pm_z} {h : pm_h} {g : pm_g} {Q : Option Value → pm_h → pm_g → Prop} {b0 : Nat} (hz : pm_le z zm) (k : pm_W G mX9_twin zm (pm_Φ G zm Q) 0 [.ref b0] [] z h g) : pm_Met G mX9_twin [.ref b0] z zm h g Q := pm_Met.of pl_9 rfl rfl (Nat.le_of_ble_eq_true rfl) hz.1 hz.2 k
theorem enX9_route {G : pm_G} {z zm : pm_z} {h : pm_h} {g : pm_g} {Q : Option Value → pm_h → pm_g → Prop} {b0 : Nat} {b1 : Int32} (hz : pm_le z zm) (k : pm_W G mX9_route zm (pm_Φ G zm Q) 0 [.ref b0, .int b1, pm_u, pm_u, pm_u, pm_u, pm_u] [] z h g) : pm_Met G mX9_route [.ref b0, .int b1] z zm h g Q := pm_Met.of pl_9 rfl rfl (Nat.le_of_ble_eq_true rfl) hz.1 hz.2 k
theorem enX9_middle {G : pm_G} {z zm : pm_z} {h : pm_h} {g : pm_g} {Q : Option Value → pm_h → pm_g → Prop} {b0 : Int32} {b1 : Int32} {b2 : Int32} (hz : pm_le z zm) (k : pm_W G mX9_middle zm (pm_Φ G zm Q) 0 [.int b0, .int b1, .int b2, pm_u, pm_u] [] z h g) : pm_Met G mX9_middle [.int b0, .int b1, .int b2] z zm h g Q := pm_Met.of pl_9 rfl rfl (Nat.le_of_ble_eq_true rfl) hz.1 hz.2 k
theorem enX9_check {G : pm_G} {z zm : pm_z} {h : pm_h} {g : pm_g} {Q : Option Value → pm_h → pm_g → Prop} {b0 : Nat} {b1 : Int32} {b2 : Int32} (hz : pm_le z zm) (k : pm_W G mX9_check zm (pm_Φ G zm Q) 0 [.ref b0, .int b1, .int b2, pm_u] [] z h g) : pm_Met G mX9_check [.ref b0, .int b1, .int b2] z zm h g Q := pm_Met.of pl_9 rfl rfl (Nat.le_of_ble_eq_true rfl) hz.1 hz.2 k
theorem enX9_height {G : pm_G} {z zm : pm_z} {h : pm_h} {g : pm_g} {Q : Option Value → pm_h → pm_g → Prop} {b0 : Nat} {b1 : Int32} (hz : pm_le z zm) (k : pm_W G mX9_height zm (pm_Φ G zm Q) 0 [.ref b0, .int b1] [] z h g) : pm_Met G mX9_height [.ref b0, .int b1] z zm h g Q := pm_Met.of pl_9 rfl rfl (Nat.le_of_ble_eq_true rfl) hz.1 hz.2 k
theorem enX9_count {G : pm_G} {z zm : pm_z} {h : pm_h} {g : pm_g} {Q : Option Value → pm_h → pm_g → Prop} {b0 : Nat} {b1 : Int32} (hz : pm_le z zm) (k : pm_W G mX9_count zm (pm_Φ G zm Q) 0 [.ref b0, .int b1] [] z h g) : pm_Met G mX9_count [.ref b0, .int b1] z zm h g Q := pm_Met.of pl_9 rfl rfl (Nat.le_of_ble_eq_true rfl) hz.1 hz.2 k
section SX
variable {G : pm_G} {M : pm_M} {zm : pm_z} {Φ : pm_F} {pc pc' : Nat} {st : List Value} {z : pm_z} {h : pm_h} {g : pm_g}
theorem sx_a_5_4 {a0 a1 a2 a3 a4 : Value} {y : Nat} (hd : decode (pm_cc M) pc = .ok (.astore 4, 2)) (hp : pc + 2 = pc') (hml : pm_ml M = 5) (hc : a3.category = 1) (k : pm_W G M zm Φ pc' [a0, a1, a2, a3, .ref y] st z h g) : pm_W G M zm Φ pc [a0, a1, a2, a3, a4] (.ref y :: st) z h g := px_astore hd hp (by rw [hml]; decide) (fun w hw => by cases hw; exact Or.inl hc) rfl k
theorem sx_a_n_8_1 {j : Fin 4} {a0 a1 a2 a3 a4 a5 a6 a7 : Value} {y : Nat} (hd : decode (pm_cc M) pc = .ok (.astore_n j, 1)) (hp : pc + 1 = pc') (hj : (j : Nat) = 1) (hml : pm_ml M = 8) (hc : a0.category = 1) (k : pm_W G M zm Φ pc' [a0, .ref y, a2, a3, a4, a5, a6, a7] st z h g) : pm_W G M zm Φ pc [a0, a1, a2, a3, a4, a5, a6, a7] (.ref y :: st) z h g := px_astore_n hd hp hj (by rw [hml]; decide) (fun w hw => by cases hw; exact Or.inl hc) rfl k
theorem sx_a_n_8_2 {j : Fin 4} {a0 a1 a2 a3 a4 a5 a6 a7 : Value} {y : Nat} (hd : decode (pm_cc M) pc = .ok (.astore_n j, 1)) (hp : pc + 1 = pc') (hj : (j : Nat) = 2) (hml : pm_ml M = 8) (hc : a1.category = 1) (k : pm_W G M zm Φ pc' [a0, a1, .ref y, a3, a4, a5, a6, a7] st z h g) : pm_W G M zm Φ pc [a0, a1, a2, a3, a4, a5, a6, a7] (.ref y :: st) z h g := px_astore_n hd hp hj (by rw [hml]; decide) (fun w hw => by cases hw; exact Or.inl hc) rfl k
theorem sx_a_n_8_3 {j : Fin 4} {a0 a1 a2 a3 a4 a5 a6 a7 : Value} {y : Nat} (hd : decode (pm_cc M) pc = .ok (.astore_n j, 1)) (hp : pc + 1 = pc') (hj : (j : Nat) = 3) (hml : pm_ml M = 8) (hc : a2.category = 1) (k : pm_W G M zm Φ pc' [a0, a1, a2, .ref y, a4, a5, a6, a7] st z h g) : pm_W G M zm Φ pc [a0, a1, a2, a3, a4, a5, a6, a7] (.ref y :: st) z h g := px_astore_n hd hp hj (by rw [hml]; decide) (fun w hw => by cases hw; exact Or.inl hc) rfl k
theorem sx_i_5_4 {a0 a1 a2 a3 a4 : Value} {y : Int32} (hd : decode (pm_cc M) pc = .ok (.istore 4, 2)) (hp : pc + 2 = pc') (hml : pm_ml M = 5) (hc : a3.category = 1) (k : pm_W G M zm Φ pc' [a0, a1, a2, a3, .int y] st z h g) : pm_W G M zm Φ pc [a0, a1, a2, a3, a4] (.int y :: st) z h g := px_istore hd hp (by rw [hml]; decide) (fun w hw => by cases hw; exact Or.inl hc) rfl k
theorem sx_i_6_4 {a0 a1 a2 a3 a4 a5 : Value} {y : Int32} (hd : decode (pm_cc M) pc = .ok (.istore 4, 2)) (hp : pc + 2 = pc') (hml : pm_ml M = 6) (hc : a3.category = 1) (k : pm_W G M zm Φ pc' [a0, a1, a2, a3, .int y, a5] st z h g) : pm_W G M zm Φ pc [a0, a1, a2, a3, a4, a5] (.int y :: st) z h g := px_istore hd hp (by rw [hml]; decide) (fun w hw => by cases hw; exact Or.inl hc) rfl k
theorem sx_i_6_5 {a0 a1 a2 a3 a4 a5 : Value} {y : Int32} (hd : decode (pm_cc M) pc = .ok (.istore 5, 2)) (hp : pc + 2 = pc') (hml : pm_ml M = 6) (hc : a4.category = 1) (k : pm_W G M zm Φ pc' [a0, a1, a2, a3, a4, .int y] st z h g) : pm_W G M zm Φ pc [a0, a1, a2, a3, a4, a5] (.int y :: st) z h g := px_istore hd hp (by rw [hml]; decide) (fun w hw => by cases hw; exact Or.inl hc) rfl k
theorem sx_i_7_4 {a0 a1 a2 a3 a4 a5 a6 : Value} {y : Int32} (hd : decode (pm_cc M) pc = .ok (.istore 4, 2)) (hp : pc + 2 = pc') (hml : pm_ml M = 7) (hc : a3.category = 1) (k : pm_W G M zm Φ pc' [a0, a1, a2, a3, .int y, a5, a6] st z h g) : pm_W G M zm Φ pc [a0, a1, a2, a3, a4, a5, a6] (.int y :: st) z h g := px_istore hd hp (by rw [hml]; decide) (fun w hw => by cases hw; exact Or.inl hc) rfl k
theorem sx_i_7_5 {a0 a1 a2 a3 a4 a5 a6 : Value} {y : Int32} (hd : decode (pm_cc M) pc = .ok (.istore 5, 2)) (hp : pc + 2 = pc') (hml : pm_ml M = 7) (hc : a4.category = 1) (k : pm_W G M zm Φ pc' [a0, a1, a2, a3, a4, .int y, a6] st z h g) : pm_W G M zm Φ pc [a0, a1, a2, a3, a4, a5, a6] (.int y :: st) z h g := px_istore hd hp (by rw [hml]; decide) (fun w hw => by cases hw; exact Or.inl hc) rfl k
theorem sx_i_7_6 {a0 a1 a2 a3 a4 a5 a6 : Value} {y : Int32} (hd : decode (pm_cc M) pc = .ok (.istore 6, 2)) (hp : pc + 2 = pc') (hml : pm_ml M = 7) (hc : a5.category = 1) (k : pm_W G M zm Φ pc' [a0, a1, a2, a3, a4, a5, .int y] st z h g) : pm_W G M zm Φ pc [a0, a1, a2, a3, a4, a5, a6] (.int y :: st) z h g := px_istore hd hp (by rw [hml]; decide) (fun w hw => by cases hw; exact Or.inl hc) rfl k
theorem sx_i_8_4 {a0 a1 a2 a3 a4 a5 a6 a7 : Value} {y : Int32} (hd : decode (pm_cc M) pc = .ok (.istore 4, 2)) (hp : pc + 2 = pc') (hml : pm_ml M = 8) (hc : a3.category = 1) (k : pm_W G M zm Φ pc' [a0, a1, a2, a3, .int y, a5, a6, a7] st z h g) : pm_W G M zm Φ pc [a0, a1, a2, a3, a4, a5, a6, a7] (.int y :: st) z h g := px_istore hd hp (by rw [hml]; decide) (fun w hw => by cases hw; exact Or.inl hc) rfl k
theorem sx_i_8_5 {a0 a1 a2 a3 a4 a5 a6 a7 : Value} {y : Int32} (hd : decode (pm_cc M) pc = .ok (.istore 5, 2)) (hp : pc + 2 = pc') (hml : pm_ml M = 8) (hc : a4.category = 1) (k : pm_W G M zm Φ pc' [a0, a1, a2, a3, a4, .int y, a6, a7] st z h g) : pm_W G M zm Φ pc [a0, a1, a2, a3, a4, a5, a6, a7] (.int y :: st) z h g := px_istore hd hp (by rw [hml]; decide) (fun w hw => by cases hw; exact Or.inl hc) rfl k
theorem sx_i_8_6 {a0 a1 a2 a3 a4 a5 a6 a7 : Value} {y : Int32} (hd : decode (pm_cc M) pc = .ok (.istore 6, 2)) (hp : pc + 2 = pc') (hml : pm_ml M = 8) (hc : a5.category = 1) (k : pm_W G M zm Φ pc' [a0, a1, a2, a3, a4, a5, .int y, a7] st z h g) : pm_W G M zm Φ pc [a0, a1, a2, a3, a4, a5, a6, a7] (.int y :: st) z h g := px_istore hd hp (by rw [hml]; decide) (fun w hw => by cases hw; exact Or.inl hc) rfl k
theorem sx_i_8_7 {a0 a1 a2 a3 a4 a5 a6 a7 : Value} {y : Int32} (hd : decode (pm_cc M) pc = .ok (.istore 7, 2)) (hp : pc + 2 = pc') (hml : pm_ml M = 8) (hc : a6.category = 1) (k : pm_W G M zm Φ pc' [a0, a1, a2, a3, a4, a5, a6, .int y] st z h g) : pm_W G M zm Φ pc [a0, a1, a2, a3, a4, a5, a6, a7] (.int y :: st) z h g := px_istore hd hp (by rw [hml]; decide) (fun w hw => by cases hw; exact Or.inl hc) rfl k
theorem sx_i_9_4 {a0 a1 a2 a3 a4 a5 a6 a7 a8 : Value} {y : Int32} (hd : decode (pm_cc M) pc = .ok (.istore 4, 2)) (hp : pc + 2 = pc') (hml : pm_ml M = 9) (hc : a3.category = 1) (k : pm_W G M zm Φ pc' [a0, a1, a2, a3, .int y, a5, a6, a7, a8] st z h g) : pm_W G M zm Φ pc [a0, a1, a2, a3, a4, a5, a6, a7, a8] (.int y :: st) z h g := px_istore hd hp (by rw [hml]; decide) (fun w hw => by cases hw; exact Or.inl hc) rfl k
theorem sx_i_9_5 {a0 a1 a2 a3 a4 a5 a6 a7 a8 : Value} {y : Int32} (hd : decode (pm_cc M) pc = .ok (.istore 5, 2)) (hp : pc + 2 = pc') (hml : pm_ml M = 9) (hc : a4.category = 1) (k : pm_W G M zm Φ pc' [a0, a1, a2, a3, a4, .int y, a6, a7, a8] st z h g) : pm_W G M zm Φ pc [a0, a1, a2, a3, a4, a5, a6, a7, a8] (.int y :: st) z h g := px_istore hd hp (by rw [hml]; decide) (fun w hw => by cases hw; exact Or.inl hc) rfl k
theorem sx_i_9_6 {a0 a1 a2 a3 a4 a5 a6 a7 a8 : Value} {y : Int32} (hd : decode (pm_cc M) pc = .ok (.istore 6, 2)) (hp : pc + 2 = pc') (hml : pm_ml M = 9) (hc : a5.category = 1) (k : pm_W G M zm Φ pc' [a0, a1, a2, a3, a4, a5, .int y, a7, a8] st z h g) : pm_W G M zm Φ pc [a0, a1, a2, a3, a4, a5, a6, a7, a8] (.int y :: st) z h g := px_istore hd hp (by rw [hml]; decide) (fun w hw => by cases hw; exact Or.inl hc) rfl k
theorem sx_i_9_7 {a0 a1 a2 a3 a4 a5 a6 a7 a8 : Value} {y : Int32} (hd : decode (pm_cc M) pc = .ok (.istore 7, 2)) (hp : pc + 2 = pc') (hml : pm_ml M = 9) (hc : a6.category = 1) (k : pm_W G M zm Φ pc' [a0, a1, a2, a3, a4, a5, a6, .int y, a8] st z h g) : pm_W G M zm Φ pc [a0, a1, a2, a3, a4, a5, a6, a7, a8] (.int y :: st) z h g := px_istore hd hp (by rw [hml]; decide) (fun w hw => by cases hw; exact Or.inl hc) rfl k
theorem sx_i_9_8 {a0 a1 a2 a3 a4 a5 a6 a7 a8 : Value} {y : Int32} (hd : decode (pm_cc M) pc = .ok (.istore 8, 2)) (hp : pc + 2 = pc') (hml : pm_ml M = 9) (hc : a7.category = 1) (k : pm_W G M zm Φ pc' [a0, a1, a2, a3, a4, a5, a6, a7, .int y] st z h g) : pm_W G M zm Φ pc [a0, a1, a2, a3, a4, a5, a6, a7, a8] (.int y :: st) z h g := px_istore hd hp (by rw [hml]; decide) (fun w hw => by cases hw; exact Or.inl hc) rfl k
theorem sx_i_11_8 {a0 a1 a2 a3 a4 a5 a6 a7 a8 a9 a10 : Value} {y : Int32} (hd : decode (pm_cc M) pc = .ok (.istore 8, 2)) (hp : pc + 2 = pc') (hml : pm_ml M = 11) (hc : a7.category = 1) (k : pm_W G M zm Φ pc' [a0, a1, a2, a3, a4, a5, a6, a7, .int y, a9, a10] st z h g) : pm_W G M zm Φ pc [a0, a1, a2, a3, a4, a5, a6, a7, a8, a9, a10] (.int y :: st) z h g := px_istore hd hp (by rw [hml]; decide) (fun w hw => by cases hw; exact Or.inl hc) rfl k
theorem sx_i_n_2_1 {j : Fin 4} {a0 a1 : Value} {y : Int32} (hd : decode (pm_cc M) pc = .ok (.istore_n j, 1)) (hp : pc + 1 = pc') (hj : (j : Nat) = 1) (hml : pm_ml M = 2) (hc : a0.category = 1) (k : pm_W G M zm Φ pc' [a0, .int y] st z h g) : pm_W G M zm Φ pc [a0, a1] (.int y :: st) z h g := px_istore_n hd hp hj (by rw [hml]; decide) (fun w hw => by cases hw; exact Or.inl hc) rfl k
theorem sx_i_n_3_1 {j : Fin 4} {a0 a1 a2 : Value} {y : Int32} (hd : decode (pm_cc M) pc = .ok (.istore_n j, 1)) (hp : pc + 1 = pc') (hj : (j : Nat) = 1) (hml : pm_ml M = 3) (hc : a0.category = 1) (k : pm_W G M zm Φ pc' [a0, .int y, a2] st z h g) : pm_W G M zm Φ pc [a0, a1, a2] (.int y :: st) z h g := px_istore_n hd hp hj (by rw [hml]; decide) (fun w hw => by cases hw; exact Or.inl hc) rfl k
theorem sx_i_n_3_2 {j : Fin 4} {a0 a1 a2 : Value} {y : Int32} (hd : decode (pm_cc M) pc = .ok (.istore_n j, 1)) (hp : pc + 1 = pc') (hj : (j : Nat) = 2) (hml : pm_ml M = 3) (hc : a1.category = 1) (k : pm_W G M zm Φ pc' [a0, a1, .int y] st z h g) : pm_W G M zm Φ pc [a0, a1, a2] (.int y :: st) z h g := px_istore_n hd hp hj (by rw [hml]; decide) (fun w hw => by cases hw; exact Or.inl hc) rfl k
theorem sx_i_n_4_1 {j : Fin 4} {a0 a1 a2 a3 : Value} {y : Int32} (hd : decode (pm_cc M) pc = .ok (.istore_n j, 1)) (hp : pc + 1 = pc') (hj : (j : Nat) = 1) (hml : pm_ml M = 4) (hc : a0.category = 1) (k : pm_W G M zm Φ pc' [a0, .int y, a2, a3] st z h g) : pm_W G M zm Φ pc [a0, a1, a2, a3] (.int y :: st) z h g := px_istore_n hd hp hj (by rw [hml]; decide) (fun w hw => by cases hw; exact Or.inl hc) rfl k
theorem sx_i_n_4_2 {j : Fin 4} {a0 a1 a2 a3 : Value} {y : Int32} (hd : decode (pm_cc M) pc = .ok (.istore_n j, 1)) (hp : pc + 1 = pc') (hj : (j : Nat) = 2) (hml : pm_ml M = 4) (hc : a1.category = 1) (k : pm_W G M zm Φ pc' [a0, a1, .int y, a3] st z h g) : pm_W G M zm Φ pc [a0, a1, a2, a3] (.int y :: st) z h g := px_istore_n hd hp hj (by rw [hml]; decide) (fun w hw => by cases hw; exact Or.inl hc) rfl k
theorem sx_i_n_4_3 {j : Fin 4} {a0 a1 a2 a3 : Value} {y : Int32} (hd : decode (pm_cc M) pc = .ok (.istore_n j, 1)) (hp : pc + 1 = pc') (hj : (j : Nat) = 3) (hml : pm_ml M = 4) (hc : a2.category = 1) (k : pm_W G M zm Φ pc' [a0, a1, a2, .int y] st z h g) : pm_W G M zm Φ pc [a0, a1, a2, a3] (.int y :: st) z h g := px_istore_n hd hp hj (by rw [hml]; decide) (fun w hw => by cases hw; exact Or.inl hc) rfl k
theorem sx_i_n_5_2 {j : Fin 4} {a0 a1 a2 a3 a4 : Value} {y : Int32} (hd : decode (pm_cc M) pc = .ok (.istore_n j, 1)) (hp : pc + 1 = pc') (hj : (j : Nat) = 2) (hml : pm_ml M = 5) (hc : a1.category = 1) (k : pm_W G M zm Φ pc' [a0, a1, .int y, a3, a4] st z h g) : pm_W G M zm Φ pc [a0, a1, a2, a3, a4] (.int y :: st) z h g := px_istore_n hd hp hj (by rw [hml]; decide) (fun w hw => by cases hw; exact Or.inl hc) rfl k
theorem sx_i_n_5_3 {j : Fin 4} {a0 a1 a2 a3 a4 : Value} {y : Int32} (hd : decode (pm_cc M) pc = .ok (.istore_n j, 1)) (hp : pc + 1 = pc') (hj : (j : Nat) = 3) (hml : pm_ml M = 5) (hc : a2.category = 1) (k : pm_W G M zm Φ pc' [a0, a1, a2, .int y, a4] st z h g) : pm_W G M zm Φ pc [a0, a1, a2, a3, a4] (.int y :: st) z h g := px_istore_n hd hp hj (by rw [hml]; decide) (fun w hw => by cases hw; exact Or.inl hc) rfl k
theorem sx_i_n_6_3 {j : Fin 4} {a0 a1 a2 a3 a4 a5 : Value} {y : Int32} (hd : decode (pm_cc M) pc = .ok (.istore_n j, 1)) (hp : pc + 1 = pc') (hj : (j : Nat) = 3) (hml : pm_ml M = 6) (hc : a2.category = 1) (k : pm_W G M zm Φ pc' [a0, a1, a2, .int y, a4, a5] st z h g) : pm_W G M zm Φ pc [a0, a1, a2, a3, a4, a5] (.int y :: st) z h g := px_istore_n hd hp hj (by rw [hml]; decide) (fun w hw => by cases hw; exact Or.inl hc) rfl k
theorem sx_i_n_7_2 {j : Fin 4} {a0 a1 a2 a3 a4 a5 a6 : Value} {y : Int32} (hd : decode (pm_cc M) pc = .ok (.istore_n j, 1)) (hp : pc + 1 = pc') (hj : (j : Nat) = 2) (hml : pm_ml M = 7) (hc : a1.category = 1) (k : pm_W G M zm Φ pc' [a0, a1, .int y, a3, a4, a5, a6] st z h g) : pm_W G M zm Φ pc [a0, a1, a2, a3, a4, a5, a6] (.int y :: st) z h g := px_istore_n hd hp hj (by rw [hml]; decide) (fun w hw => by cases hw; exact Or.inl hc) rfl k
theorem sx_i_n_7_3 {j : Fin 4} {a0 a1 a2 a3 a4 a5 a6 : Value} {y : Int32} (hd : decode (pm_cc M) pc = .ok (.istore_n j, 1)) (hp : pc + 1 = pc') (hj : (j : Nat) = 3) (hml : pm_ml M = 7) (hc : a2.category = 1) (k : pm_W G M zm Φ pc' [a0, a1, a2, .int y, a4, a5, a6] st z h g) : pm_W G M zm Φ pc [a0, a1, a2, a3, a4, a5, a6] (.int y :: st) z h g := px_istore_n hd hp hj (by rw [hml]; decide) (fun w hw => by cases hw; exact Or.inl hc) rfl k
theorem sx_i_n_8_3 {j : Fin 4} {a0 a1 a2 a3 a4 a5 a6 a7 : Value} {y : Int32} (hd : decode (pm_cc M) pc = .ok (.istore_n j, 1)) (hp : pc + 1 = pc') (hj : (j : Nat) = 3) (hml : pm_ml M = 8) (hc : a2.category = 1) (k : pm_W G M zm Φ pc' [a0, a1, a2, .int y, a4, a5, a6, a7] st z h g) : pm_W G M zm Φ pc [a0, a1, a2, a3, a4, a5, a6, a7] (.int y :: st) z h g := px_istore_n hd hp hj (by rw [hml]; decide) (fun w hw => by cases hw; exact Or.inl hc) rfl k
theorem sx_i_n_9_1 {j : Fin 4} {a0 a1 a2 a3 a4 a5 a6 a7 a8 : Value} {y : Int32} (hd : decode (pm_cc M) pc = .ok (.istore_n j, 1)) (hp : pc + 1 = pc') (hj : (j : Nat) = 1) (hml : pm_ml M = 9) (hc : a0.category = 1) (k : pm_W G M zm Φ pc' [a0, .int y, a2, a3, a4, a5, a6, a7, a8] st z h g) : pm_W G M zm Φ pc [a0, a1, a2, a3, a4, a5, a6, a7, a8] (.int y :: st) z h g := px_istore_n hd hp hj (by rw [hml]; decide) (fun w hw => by cases hw; exact Or.inl hc) rfl k
theorem sx_i_n_9_2 {j : Fin 4} {a0 a1 a2 a3 a4 a5 a6 a7 a8 : Value} {y : Int32} (hd : decode (pm_cc M) pc = .ok (.istore_n j, 1)) (hp : pc + 1 = pc') (hj : (j : Nat) = 2) (hml : pm_ml M = 9) (hc : a1.category = 1) (k : pm_W G M zm Φ pc' [a0, a1, .int y, a3, a4, a5, a6, a7, a8] st z h g) : pm_W G M zm Φ pc [a0, a1, a2, a3, a4, a5, a6, a7, a8] (.int y :: st) z h g := px_istore_n hd hp hj (by rw [hml]; decide) (fun w hw => by cases hw; exact Or.inl hc) rfl k
theorem sx_i_n_9_3 {j : Fin 4} {a0 a1 a2 a3 a4 a5 a6 a7 a8 : Value} {y : Int32} (hd : decode (pm_cc M) pc = .ok (.istore_n j, 1)) (hp : pc + 1 = pc') (hj : (j : Nat) = 3) (hml : pm_ml M = 9) (hc : a2.category = 1) (k : pm_W G M zm Φ pc' [a0, a1, a2, .int y, a4, a5, a6, a7, a8] st z h g) : pm_W G M zm Φ pc [a0, a1, a2, a3, a4, a5, a6, a7, a8] (.int y :: st) z h g := px_istore_n hd hp hj (by rw [hml]; decide) (fun w hw => by cases hw; exact Or.inl hc) rfl k
theorem sx_inc_2_1 {a0 : Value} {y w : Int32} {q : Int} (hd : decode (pm_cc M) pc = .ok (.iinc 1 q, 3)) (hp : pc + 3 = pc') (hml : pm_ml M = 2) (hw : Int32.ofInt q = w) (hc : a0.category = 1) (k : pm_W G M zm Φ pc' [a0, .int (y + w)] st z h g) : pm_W G M zm Φ pc [a0, .int y] st z h g := px_iinc hd hp (by rw [hml]; decide) rfl hw (fun w hw => by cases hw; exact Or.inl hc) rfl k
theorem sx_inc_3_1 {a0 a2 : Value} {y w : Int32} {q : Int} (hd : decode (pm_cc M) pc = .ok (.iinc 1 q, 3)) (hp : pc + 3 = pc') (hml : pm_ml M = 3) (hw : Int32.ofInt q = w) (hc : a0.category = 1) (k : pm_W G M zm Φ pc' [a0, .int (y + w), a2] st z h g) : pm_W G M zm Φ pc [a0, .int y, a2] st z h g := px_iinc hd hp (by rw [hml]; decide) rfl hw (fun w hw => by cases hw; exact Or.inl hc) rfl k
theorem sx_inc_3_2 {a0 a1 : Value} {y w : Int32} {q : Int} (hd : decode (pm_cc M) pc = .ok (.iinc 2 q, 3)) (hp : pc + 3 = pc') (hml : pm_ml M = 3) (hw : Int32.ofInt q = w) (hc : a1.category = 1) (k : pm_W G M zm Φ pc' [a0, a1, .int (y + w)] st z h g) : pm_W G M zm Φ pc [a0, a1, .int y] st z h g := px_iinc hd hp (by rw [hml]; decide) rfl hw (fun w hw => by cases hw; exact Or.inl hc) rfl k
theorem sx_inc_4_2 {a0 a1 a3 : Value} {y w : Int32} {q : Int} (hd : decode (pm_cc M) pc = .ok (.iinc 2 q, 3)) (hp : pc + 3 = pc') (hml : pm_ml M = 4) (hw : Int32.ofInt q = w) (hc : a1.category = 1) (k : pm_W G M zm Φ pc' [a0, a1, .int (y + w), a3] st z h g) : pm_W G M zm Φ pc [a0, a1, .int y, a3] st z h g := px_iinc hd hp (by rw [hml]; decide) rfl hw (fun w hw => by cases hw; exact Or.inl hc) rfl k
theorem sx_inc_4_3 {a0 a1 a2 : Value} {y w : Int32} {q : Int} (hd : decode (pm_cc M) pc = .ok (.iinc 3 q, 3)) (hp : pc + 3 = pc') (hml : pm_ml M = 4) (hw : Int32.ofInt q = w) (hc : a2.category = 1) (k : pm_W G M zm Φ pc' [a0, a1, a2, .int (y + w)] st z h g) : pm_W G M zm Φ pc [a0, a1, a2, .int y] st z h g := px_iinc hd hp (by rw [hml]; decide) rfl hw (fun w hw => by cases hw; exact Or.inl hc) rfl k
theorem sx_inc_5_3 {a0 a1 a2 a4 : Value} {y w : Int32} {q : Int} (hd : decode (pm_cc M) pc = .ok (.iinc 3 q, 3)) (hp : pc + 3 = pc') (hml : pm_ml M = 5) (hw : Int32.ofInt q = w) (hc : a2.category = 1) (k : pm_W G M zm Φ pc' [a0, a1, a2, .int (y + w), a4] st z h g) : pm_W G M zm Φ pc [a0, a1, a2, .int y, a4] st z h g := px_iinc hd hp (by rw [hml]; decide) rfl hw (fun w hw => by cases hw; exact Or.inl hc) rfl k
theorem sx_inc_5_4 {a0 a1 a2 a3 : Value} {y w : Int32} {q : Int} (hd : decode (pm_cc M) pc = .ok (.iinc 4 q, 3)) (hp : pc + 3 = pc') (hml : pm_ml M = 5) (hw : Int32.ofInt q = w) (hc : a3.category = 1) (k : pm_W G M zm Φ pc' [a0, a1, a2, a3, .int (y + w)] st z h g) : pm_W G M zm Φ pc [a0, a1, a2, a3, .int y] st z h g := px_iinc hd hp (by rw [hml]; decide) rfl hw (fun w hw => by cases hw; exact Or.inl hc) rfl k
theorem sx_inc_6_3 {a0 a1 a2 a4 a5 : Value} {y w : Int32} {q : Int} (hd : decode (pm_cc M) pc = .ok (.iinc 3 q, 3)) (hp : pc + 3 = pc') (hml : pm_ml M = 6) (hw : Int32.ofInt q = w) (hc : a2.category = 1) (k : pm_W G M zm Φ pc' [a0, a1, a2, .int (y + w), a4, a5] st z h g) : pm_W G M zm Φ pc [a0, a1, a2, .int y, a4, a5] st z h g := px_iinc hd hp (by rw [hml]; decide) rfl hw (fun w hw => by cases hw; exact Or.inl hc) rfl k
theorem sx_inc_6_4 {a0 a1 a2 a3 a5 : Value} {y w : Int32} {q : Int} (hd : decode (pm_cc M) pc = .ok (.iinc 4 q, 3)) (hp : pc + 3 = pc') (hml : pm_ml M = 6) (hw : Int32.ofInt q = w) (hc : a3.category = 1) (k : pm_W G M zm Φ pc' [a0, a1, a2, a3, .int (y + w), a5] st z h g) : pm_W G M zm Φ pc [a0, a1, a2, a3, .int y, a5] st z h g := px_iinc hd hp (by rw [hml]; decide) rfl hw (fun w hw => by cases hw; exact Or.inl hc) rfl k
theorem sx_inc_6_5 {a0 a1 a2 a3 a4 : Value} {y w : Int32} {q : Int} (hd : decode (pm_cc M) pc = .ok (.iinc 5 q, 3)) (hp : pc + 3 = pc') (hml : pm_ml M = 6) (hw : Int32.ofInt q = w) (hc : a4.category = 1) (k : pm_W G M zm Φ pc' [a0, a1, a2, a3, a4, .int (y + w)] st z h g) : pm_W G M zm Φ pc [a0, a1, a2, a3, a4, .int y] st z h g := px_iinc hd hp (by rw [hml]; decide) rfl hw (fun w hw => by cases hw; exact Or.inl hc) rfl k
theorem sx_inc_7_3 {a0 a1 a2 a4 a5 a6 : Value} {y w : Int32} {q : Int} (hd : decode (pm_cc M) pc = .ok (.iinc 3 q, 3)) (hp : pc + 3 = pc') (hml : pm_ml M = 7) (hw : Int32.ofInt q = w) (hc : a2.category = 1) (k : pm_W G M zm Φ pc' [a0, a1, a2, .int (y + w), a4, a5, a6] st z h g) : pm_W G M zm Φ pc [a0, a1, a2, .int y, a4, a5, a6] st z h g := px_iinc hd hp (by rw [hml]; decide) rfl hw (fun w hw => by cases hw; exact Or.inl hc) rfl k
theorem sx_inc_7_4 {a0 a1 a2 a3 a5 a6 : Value} {y w : Int32} {q : Int} (hd : decode (pm_cc M) pc = .ok (.iinc 4 q, 3)) (hp : pc + 3 = pc') (hml : pm_ml M = 7) (hw : Int32.ofInt q = w) (hc : a3.category = 1) (k : pm_W G M zm Φ pc' [a0, a1, a2, a3, .int (y + w), a5, a6] st z h g) : pm_W G M zm Φ pc [a0, a1, a2, a3, .int y, a5, a6] st z h g := px_iinc hd hp (by rw [hml]; decide) rfl hw (fun w hw => by cases hw; exact Or.inl hc) rfl k
theorem sx_inc_7_5 {a0 a1 a2 a3 a4 a6 : Value} {y w : Int32} {q : Int} (hd : decode (pm_cc M) pc = .ok (.iinc 5 q, 3)) (hp : pc + 3 = pc') (hml : pm_ml M = 7) (hw : Int32.ofInt q = w) (hc : a4.category = 1) (k : pm_W G M zm Φ pc' [a0, a1, a2, a3, a4, .int (y + w), a6] st z h g) : pm_W G M zm Φ pc [a0, a1, a2, a3, a4, .int y, a6] st z h g := px_iinc hd hp (by rw [hml]; decide) rfl hw (fun w hw => by cases hw; exact Or.inl hc) rfl k
theorem sx_inc_8_4 {a0 a1 a2 a3 a5 a6 a7 : Value} {y w : Int32} {q : Int} (hd : decode (pm_cc M) pc = .ok (.iinc 4 q, 3)) (hp : pc + 3 = pc') (hml : pm_ml M = 8) (hw : Int32.ofInt q = w) (hc : a3.category = 1) (k : pm_W G M zm Φ pc' [a0, a1, a2, a3, .int (y + w), a5, a6, a7] st z h g) : pm_W G M zm Φ pc [a0, a1, a2, a3, .int y, a5, a6, a7] st z h g := px_iinc hd hp (by rw [hml]; decide) rfl hw (fun w hw => by cases hw; exact Or.inl hc) rfl k
theorem sx_inc_8_5 {a0 a1 a2 a3 a4 a6 a7 : Value} {y w : Int32} {q : Int} (hd : decode (pm_cc M) pc = .ok (.iinc 5 q, 3)) (hp : pc + 3 = pc') (hml : pm_ml M = 8) (hw : Int32.ofInt q = w) (hc : a4.category = 1) (k : pm_W G M zm Φ pc' [a0, a1, a2, a3, a4, .int (y + w), a6, a7] st z h g) : pm_W G M zm Φ pc [a0, a1, a2, a3, a4, .int y, a6, a7] st z h g := px_iinc hd hp (by rw [hml]; decide) rfl hw (fun w hw => by cases hw; exact Or.inl hc) rfl k
theorem sx_inc_8_6 {a0 a1 a2 a3 a4 a5 a7 : Value} {y w : Int32} {q : Int} (hd : decode (pm_cc M) pc = .ok (.iinc 6 q, 3)) (hp : pc + 3 = pc') (hml : pm_ml M = 8) (hw : Int32.ofInt q = w) (hc : a5.category = 1) (k : pm_W G M zm Φ pc' [a0, a1, a2, a3, a4, a5, .int (y + w), a7] st z h g) : pm_W G M zm Φ pc [a0, a1, a2, a3, a4, a5, .int y, a7] st z h g := px_iinc hd hp (by rw [hml]; decide) rfl hw (fun w hw => by cases hw; exact Or.inl hc) rfl k
theorem sx_inc_8_7 {a0 a1 a2 a3 a4 a5 a6 : Value} {y w : Int32} {q : Int} (hd : decode (pm_cc M) pc = .ok (.iinc 7 q, 3)) (hp : pc + 3 = pc') (hml : pm_ml M = 8) (hw : Int32.ofInt q = w) (hc : a6.category = 1) (k : pm_W G M zm Φ pc' [a0, a1, a2, a3, a4, a5, a6, .int (y + w)] st z h g) : pm_W G M zm Φ pc [a0, a1, a2, a3, a4, a5, a6, .int y] st z h g := px_iinc hd hp (by rw [hml]; decide) rfl hw (fun w hw => by cases hw; exact Or.inl hc) rfl k
theorem sx_inc_9_1 {a0 a2 a3 a4 a5 a6 a7 a8 : Value} {y w : Int32} {q : Int} (hd : decode (pm_cc M) pc = .ok (.iinc 1 q, 3)) (hp : pc + 3 = pc') (hml : pm_ml M = 9) (hw : Int32.ofInt q = w) (hc : a0.category = 1) (k : pm_W G M zm Φ pc' [a0, .int (y + w), a2, a3, a4, a5, a6, a7, a8] st z h g) : pm_W G M zm Φ pc [a0, .int y, a2, a3, a4, a5, a6, a7, a8] st z h g := px_iinc hd hp (by rw [hml]; decide) rfl hw (fun w hw => by cases hw; exact Or.inl hc) rfl k
theorem sx_inc_9_2 {a0 a1 a3 a4 a5 a6 a7 a8 : Value} {y w : Int32} {q : Int} (hd : decode (pm_cc M) pc = .ok (.iinc 2 q, 3)) (hp : pc + 3 = pc') (hml : pm_ml M = 9) (hw : Int32.ofInt q = w) (hc : a1.category = 1) (k : pm_W G M zm Φ pc' [a0, a1, .int (y + w), a3, a4, a5, a6, a7, a8] st z h g) : pm_W G M zm Φ pc [a0, a1, .int y, a3, a4, a5, a6, a7, a8] st z h g := px_iinc hd hp (by rw [hml]; decide) rfl hw (fun w hw => by cases hw; exact Or.inl hc) rfl k
theorem sx_inc_9_3 {a0 a1 a2 a4 a5 a6 a7 a8 : Value} {y w : Int32} {q : Int} (hd : decode (pm_cc M) pc = .ok (.iinc 3 q, 3)) (hp : pc + 3 = pc') (hml : pm_ml M = 9) (hw : Int32.ofInt q = w) (hc : a2.category = 1) (k : pm_W G M zm Φ pc' [a0, a1, a2, .int (y + w), a4, a5, a6, a7, a8] st z h g) : pm_W G M zm Φ pc [a0, a1, a2, .int y, a4, a5, a6, a7, a8] st z h g := px_iinc hd hp (by rw [hml]; decide) rfl hw (fun w hw => by cases hw; exact Or.inl hc) rfl k
theorem sx_inc_9_4 {a0 a1 a2 a3 a5 a6 a7 a8 : Value} {y w : Int32} {q : Int} (hd : decode (pm_cc M) pc = .ok (.iinc 4 q, 3)) (hp : pc + 3 = pc') (hml : pm_ml M = 9) (hw : Int32.ofInt q = w) (hc : a3.category = 1) (k : pm_W G M zm Φ pc' [a0, a1, a2, a3, .int (y + w), a5, a6, a7, a8] st z h g) : pm_W G M zm Φ pc [a0, a1, a2, a3, .int y, a5, a6, a7, a8] st z h g := px_iinc hd hp (by rw [hml]; decide) rfl hw (fun w hw => by cases hw; exact Or.inl hc) rfl k
theorem sx_inc_9_6 {a0 a1 a2 a3 a4 a5 a7 a8 : Value} {y w : Int32} {q : Int} (hd : decode (pm_cc M) pc = .ok (.iinc 6 q, 3)) (hp : pc + 3 = pc') (hml : pm_ml M = 9) (hw : Int32.ofInt q = w) (hc : a5.category = 1) (k : pm_W G M zm Φ pc' [a0, a1, a2, a3, a4, a5, .int (y + w), a7, a8] st z h g) : pm_W G M zm Φ pc [a0, a1, a2, a3, a4, a5, .int y, a7, a8] st z h g := px_iinc hd hp (by rw [hml]; decide) rfl hw (fun w hw => by cases hw; exact Or.inl hc) rfl k
theorem sx_inc_9_7 {a0 a1 a2 a3 a4 a5 a6 a8 : Value} {y w : Int32} {q : Int} (hd : decode (pm_cc M) pc = .ok (.iinc 7 q, 3)) (hp : pc + 3 = pc') (hml : pm_ml M = 9) (hw : Int32.ofInt q = w) (hc : a6.category = 1) (k : pm_W G M zm Φ pc' [a0, a1, a2, a3, a4, a5, a6, .int (y + w), a8] st z h g) : pm_W G M zm Φ pc [a0, a1, a2, a3, a4, a5, a6, .int y, a8] st z h g := px_iinc hd hp (by rw [hml]; decide) rfl hw (fun w hw => by cases hw; exact Or.inl hc) rfl k
theorem sx_inc_9_8 {a0 a1 a2 a3 a4 a5 a6 a7 : Value} {y w : Int32} {q : Int} (hd : decode (pm_cc M) pc = .ok (.iinc 8 q, 3)) (hp : pc + 3 = pc') (hml : pm_ml M = 9) (hw : Int32.ofInt q = w) (hc : a7.category = 1) (k : pm_W G M zm Φ pc' [a0, a1, a2, a3, a4, a5, a6, a7, .int (y + w)] st z h g) : pm_W G M zm Φ pc [a0, a1, a2, a3, a4, a5, a6, a7, .int y] st z h g := px_iinc hd hp (by rw [hml]; decide) rfl hw (fun w hw => by cases hw; exact Or.inl hc) rfl k
theorem sx_inc_11_8 {a0 a1 a2 a3 a4 a5 a6 a7 a9 a10 : Value} {y w : Int32} {q : Int} (hd : decode (pm_cc M) pc = .ok (.iinc 8 q, 3)) (hp : pc + 3 = pc') (hml : pm_ml M = 11) (hw : Int32.ofInt q = w) (hc : a7.category = 1) (k : pm_W G M zm Φ pc' [a0, a1, a2, a3, a4, a5, a6, a7, .int (y + w), a9, a10] st z h g) : pm_W G M zm Φ pc [a0, a1, a2, a3, a4, a5, a6, a7, .int y, a9, a10] st z h g := px_iinc hd hp (by rw [hml]; decide) rfl hw (fun w hw => by cases hw; exact Or.inl hc) rfl k
theorem sx_l_7_5 {a0 a1 a2 a3 a4 a5 a6 : Value} {y : Int64} (hd : decode (pm_cc M) pc = .ok (.lstore 5, 2)) (hp : pc + 2 = pc') (hml : pm_ml M = 7) (hc : a4.category = 1) (k : pm_W G M zm Φ pc' [a0, a1, a2, a3, a4, .long y, pm_u] st z h g) : pm_W G M zm Φ pc [a0, a1, a2, a3, a4, a5, a6] (.long y :: st) z h g := px_lstore hd hp (by rw [hml]; decide) (fun w hw => by cases hw; exact Or.inl hc) rfl k
theorem sx_l_8_6 {a0 a1 a2 a3 a4 a5 a6 a7 : Value} {y : Int64} (hd : decode (pm_cc M) pc = .ok (.lstore 6, 2)) (hp : pc + 2 = pc') (hml : pm_ml M = 8) (hc : a5.category = 1) (k : pm_W G M zm Φ pc' [a0, a1, a2, a3, a4, a5, .long y, pm_u] st z h g) : pm_W G M zm Φ pc [a0, a1, a2, a3, a4, a5, a6, a7] (.long y :: st) z h g := px_lstore hd hp (by rw [hml]; decide) (fun w hw => by cases hw; exact Or.inl hc) rfl k
theorem sx_l_9_5 {a0 a1 a2 a3 a4 a5 a6 a7 a8 : Value} {y : Int64} (hd : decode (pm_cc M) pc = .ok (.lstore 5, 2)) (hp : pc + 2 = pc') (hml : pm_ml M = 9) (hc : a4.category = 1) (k : pm_W G M zm Φ pc' [a0, a1, a2, a3, a4, .long y, pm_u, a7, a8] st z h g) : pm_W G M zm Φ pc [a0, a1, a2, a3, a4, a5, a6, a7, a8] (.long y :: st) z h g := px_lstore hd hp (by rw [hml]; decide) (fun w hw => by cases hw; exact Or.inl hc) rfl k
theorem sx_l_9_6 {a0 a1 a2 a3 a4 a5 a6 a7 a8 : Value} {y : Int64} (hd : decode (pm_cc M) pc = .ok (.lstore 6, 2)) (hp : pc + 2 = pc') (hml : pm_ml M = 9) (hc : a5.category = 1) (k : pm_W G M zm Φ pc' [a0, a1, a2, a3, a4, a5, .long y, pm_u, a8] st z h g) : pm_W G M zm Φ pc [a0, a1, a2, a3, a4, a5, a6, a7, a8] (.long y :: st) z h g := px_lstore hd hp (by rw [hml]; decide) (fun w hw => by cases hw; exact Or.inl hc) rfl k
theorem sx_l_9_7 {a0 a1 a2 a3 a4 a5 a6 a7 a8 : Value} {y : Int64} (hd : decode (pm_cc M) pc = .ok (.lstore 7, 2)) (hp : pc + 2 = pc') (hml : pm_ml M = 9) (hc : a6.category = 1) (k : pm_W G M zm Φ pc' [a0, a1, a2, a3, a4, a5, a6, .long y, pm_u] st z h g) : pm_W G M zm Φ pc [a0, a1, a2, a3, a4, a5, a6, a7, a8] (.long y :: st) z h g := px_lstore hd hp (by rw [hml]; decide) (fun w hw => by cases hw; exact Or.inl hc) rfl k
theorem sx_l_10_4 {a0 a1 a2 a3 a4 a5 a6 a7 a8 a9 : Value} {y : Int64} (hd : decode (pm_cc M) pc = .ok (.lstore 4, 2)) (hp : pc + 2 = pc') (hml : pm_ml M = 10) (hc : a3.category = 1) (k : pm_W G M zm Φ pc' [a0, a1, a2, a3, .long y, pm_u, a6, a7, a8, a9] st z h g) : pm_W G M zm Φ pc [a0, a1, a2, a3, a4, a5, a6, a7, a8, a9] (.long y :: st) z h g := px_lstore hd hp (by rw [hml]; decide) (fun w hw => by cases hw; exact Or.inl hc) rfl k
theorem sx_l_10_6 {a0 a1 a2 a3 a4 a5 a6 a7 a8 a9 : Value} {y : Int64} (hd : decode (pm_cc M) pc = .ok (.lstore 6, 2)) (hp : pc + 2 = pc') (hml : pm_ml M = 10) (hc : a5.category = 1) (k : pm_W G M zm Φ pc' [a0, a1, a2, a3, a4, a5, .long y, pm_u, a8, a9] st z h g) : pm_W G M zm Φ pc [a0, a1, a2, a3, a4, a5, a6, a7, a8, a9] (.long y :: st) z h g := px_lstore hd hp (by rw [hml]; decide) (fun w hw => by cases hw; exact Or.inl hc) rfl k
theorem sx_l_10_8 {a0 a1 a2 a3 a4 a5 a6 a7 a8 a9 : Value} {y : Int64} (hd : decode (pm_cc M) pc = .ok (.lstore 8, 2)) (hp : pc + 2 = pc') (hml : pm_ml M = 10) (hc : a7.category = 1) (k : pm_W G M zm Φ pc' [a0, a1, a2, a3, a4, a5, a6, a7, .long y, pm_u] st z h g) : pm_W G M zm Φ pc [a0, a1, a2, a3, a4, a5, a6, a7, a8, a9] (.long y :: st) z h g := px_lstore hd hp (by rw [hml]; decide) (fun w hw => by cases hw; exact Or.inl hc) rfl k
theorem sx_l_11_4 {a0 a1 a2 a3 a4 a5 a6 a7 a8 a9 a10 : Value} {y : Int64} (hd : decode (pm_cc M) pc = .ok (.lstore 4, 2)) (hp : pc + 2 = pc') (hml : pm_ml M = 11) (hc : a3.category = 1) (k : pm_W G M zm Φ pc' [a0, a1, a2, a3, .long y, pm_u, a6, a7, a8, a9, a10] st z h g) : pm_W G M zm Φ pc [a0, a1, a2, a3, a4, a5, a6, a7, a8, a9, a10] (.long y :: st) z h g := px_lstore hd hp (by rw [hml]; decide) (fun w hw => by cases hw; exact Or.inl hc) rfl k
theorem sx_l_11_6 {a0 a1 a2 a3 a4 a5 a6 a7 a8 a9 a10 : Value} {y : Int64} (hd : decode (pm_cc M) pc = .ok (.lstore 6, 2)) (hp : pc + 2 = pc') (hml : pm_ml M = 11) (hc : a5.category = 1) (k : pm_W G M zm Φ pc' [a0, a1, a2, a3, a4, a5, .long y, pm_u, a8, a9, a10] st z h g) : pm_W G M zm Φ pc [a0, a1, a2, a3, a4, a5, a6, a7, a8, a9, a10] (.long y :: st) z h g := px_lstore hd hp (by rw [hml]; decide) (fun w hw => by cases hw; exact Or.inl hc) rfl k
theorem sx_l_11_9 {a0 a1 a2 a3 a4 a5 a6 a7 a8 a9 a10 : Value} {y : Int64} (hd : decode (pm_cc M) pc = .ok (.lstore 9, 2)) (hp : pc + 2 = pc') (hml : pm_ml M = 11) (hc : a8.category = 1) (k : pm_W G M zm Φ pc' [a0, a1, a2, a3, a4, a5, a6, a7, a8, .long y, pm_u] st z h g) : pm_W G M zm Φ pc [a0, a1, a2, a3, a4, a5, a6, a7, a8, a9, a10] (.long y :: st) z h g := px_lstore hd hp (by rw [hml]; decide) (fun w hw => by cases hw; exact Or.inl hc) rfl k
theorem sx_l_n_4_1 {j : Fin 4} {a0 a1 a2 a3 : Value} {y : Int64} (hd : decode (pm_cc M) pc = .ok (.lstore_n j, 1)) (hp : pc + 1 = pc') (hj : (j : Nat) = 1) (hml : pm_ml M = 4) (hc : a0.category = 1) (k : pm_W G M zm Φ pc' [a0, .long y, pm_u, a3] st z h g) : pm_W G M zm Φ pc [a0, a1, a2, a3] (.long y :: st) z h g := px_lstore_n hd hp hj (by rw [hml]; decide) (fun w hw => by cases hw; exact Or.inl hc) rfl k
theorem sx_l_n_7_3 {j : Fin 4} {a0 a1 a2 a3 a4 a5 a6 : Value} {y : Int64} (hd : decode (pm_cc M) pc = .ok (.lstore_n j, 1)) (hp : pc + 1 = pc') (hj : (j : Nat) = 3) (hml : pm_ml M = 7) (hc : a2.category = 1) (k : pm_W G M zm Φ pc' [a0, a1, a2, .long y, pm_u, a5, a6] st z h g) : pm_W G M zm Φ pc [a0, a1, a2, a3, a4, a5, a6] (.long y :: st) z h g := px_lstore_n hd hp hj (by rw [hml]; decide) (fun w hw => by cases hw; exact Or.inl hc) rfl k
theorem sx_l_n_9_3 {j : Fin 4} {a0 a1 a2 a3 a4 a5 a6 a7 a8 : Value} {y : Int64} (hd : decode (pm_cc M) pc = .ok (.lstore_n j, 1)) (hp : pc + 1 = pc') (hj : (j : Nat) = 3) (hml : pm_ml M = 9) (hc : a2.category = 1) (k : pm_W G M zm Φ pc' [a0, a1, a2, .long y, pm_u, a5, a6, a7, a8] st z h g) : pm_W G M zm Φ pc [a0, a1, a2, a3, a4, a5, a6, a7, a8] (.long y :: st) z h g := px_lstore_n hd hp hj (by rw [hml]; decide) (fun w hw => by cases hw; exact Or.inl hc) rfl k
end SX
/-- the objects, by their numbers: their classes; the fields that hold references -/
def pm_tag : Nat → Option Nat
  | 0 => some 8
  | 1 => some 6
  | 3 => some 3
  | 5 => some 2
  | 6 => some 5
  | 11 => some 0
  | 15 => some 1
  | 18 => some 4
  | 25 => some 7
  | 30 => some 9
  | _ => none
def pm_ref : Nat → Nat → Option Nat
  | 0, 0 => some 1
  | 0, 1 => some 3
  | 0, 2 => some 5
  | 0, 3 => some 11
  | 0, 4 => some 6
  | 0, 5 => some 15
  | 0, 6 => some 18
  | 0, 7 => some 25
  | 1, 0 => some 2
  | 3, 0 => some 4
  | 6, 0 => some 7
  | 6, 1 => some 8
  | 6, 2 => some 9
  | 6, 3 => some 10
  | 11, 0 => some 3
  | 11, 1 => some 5
  | 11, 2 => some 12
  | 11, 3 => some 13
  | 11, 4 => some 14
  | 15, 0 => some 3
  | 15, 1 => some 5
  | 15, 2 => some 6
  | 15, 3 => some 16
  | 15, 4 => some 17
  | 18, 0 => some 3
  | 18, 1 => some 5
  | 18, 2 => some 6
  | 18, 3 => some 19
  | 18, 4 => some 20
  | 18, 5 => some 21
  | 18, 6 => some 22
  | 18, 7 => some 23
  | 18, 8 => some 24
  | 25, 0 => some 3
  | 25, 1 => some 5
  | 25, 2 => some 1
  | 25, 3 => some 26
  | 25, 4 => some 27
  | 25, 6 => some 28
  | 25, 8 => some 29
  | 30, 1 => some 31
  | 30, 4 => some 32
  | 30, 5 => some 33
  | 30, 6 => some 34
  | 30, 7 => some 35
  | 30, 8 => some 36
  | 30, 16 => some 37
  | 30, 17 => some 38
  | 30, 18 => some 39
  | 30, 19 => some 40
  | 30, 20 => some 41
  | 30, 21 => some 42
  | 30, 25 => some 43
  | 30, 26 => some 44
  | 30, 27 => some 45
  | 30, 28 => some 46
  | 30, 29 => some 47
  | 30, 30 => some 48
  | 30, 31 => some 49
  | 30, 33 => some 50
  | 30, 34 => some 51
  | 30, 35 => some 52
  | _, _ => none
def pm_I (h : pm_h) (g : pm_g) : Prop := (∀ a ci, pm_tag a = some ci → h a = pm_ob ci) ∧ ∀ a k b, pm_ref a k = some b → g a k = .ref b
theorem pm_I.up {h : pm_h} {g : pm_g} {a : Nat} {c : pm_C} (I : pm_I h g) (ha : pm_tag a = none) : pm_I (pm_up h a c) g := by
  refine ⟨fun b ci hb => ?_, I.2⟩
  rw [pm_up_n _ _ (fun e => by rw [e, ha] at hb; cases hb)]
  exact I.1 b ci hb
theorem pm_I.uf {h : pm_h} {g : pm_g} {a k : Nat} {v : Value} (I : pm_I h g) (ha : pm_ref a k = none) : pm_I h (pm_uf g a k v) := by
  refine ⟨I.1, fun b j r hb => ?_⟩
  exact pm_uf_o (fun e => by rw [e.1, e.2, ha] at hb; cases hb) (I.2 b j r hb)
section PI
variable {G : pm_G} {M : pm_M} {zm : pm_z} {Φ : pm_F} {pc pc' : Nat} {ls st : List Value} {z : pm_z} {h : pm_h} {g : pm_g}
theorem pi_getr {index ci k a b : Nat} (hf : pm_fl (pm_y M).cls index ci k) (hd : decode (pm_cc M) pc = .ok (.getfield index, 3)) (hp : pc + 3 = pc') (I : pm_I h g) (ht : pm_tag a = some ci) (hr : pm_ref a k = some b) (kk : pm_W G M zm Φ pc' ls (.ref b :: st) z h g) : pm_W G M zm Φ pc ls (.ref a :: st) z h g := px_getf hf hd hp (I.1 _ _ ht) (I.2 _ _ _ hr) kk
theorem pi_geti {index ci k a : Nat} {v : Value} (hf : pm_fl (pm_y M).cls index ci k) (hd : decode (pm_cc M) pc = .ok (.getfield index, 3)) (hp : pc + 3 = pc') (I : pm_I h g) (ht : pm_tag a = some ci) (hv : g a k = v) (kk : pm_W G M zm Φ pc' ls (v :: st) z h g) : pm_W G M zm Φ pc ls (.ref a :: st) z h g := px_getf hf hd hp (I.1 _ _ ht) hv kk
theorem pi_puti {index ci k a : Nat} {x : Int32} (hf : pm_fi (pm_y M).cls index ci k) (hd : decode (pm_cc M) pc = .ok (.putfield index, 3)) (hp : pc + 3 = pc') (I : pm_I h g) (ht : pm_tag a = some ci) (kk : pm_W G M zm Φ pc' ls st z h (pm_uf g a k (.int x))) : pm_W G M zm Φ pc ls (.int x :: .ref a :: st) z h g := px_puti hf hd hp (I.1 _ _ ht) kk
theorem pi_callV {M' : pm_M} {index n a ci : Nat} {As stk : List Value} {zm' : pm_z} {Q' : Option Value → pm_h → pm_g → Prop} (hM : pm_Met G M' (.ref a :: As) z zm' h g Q') (hok : pm_ok M' n) (hiv : pm_iv M') (hl : Jvm.Cond.methodLink (pm_y M).cls index (pm_y M') ∈ pm_T) (hrm : pm_rm M' M) (hd : decode (pm_cc M) pc = .ok (.invokevirtual index, 3)) (hp : pc + 3 = pc') (hn : As.length = n) (hst : stk = As.reverse ++ .ref a :: st) (hs : (st.map fun v => v.category).sum ≤ 8) (I : pm_I h g) (ht : pm_tag a = some ci) (hcl : pm_cl ci (pm_y M').cls) (hzz : pm_le z zm') (hzm : pm_le zm' zm) (kk : ∀ r h' g', Q' r h' g' → pm_W G M zm Φ pc' ls (pm_pu r st) zm' h' g') : pm_W G M zm Φ pc ls stk z h g := px_callV hM hok hiv hl hrm hd hp hn hst hs (I.1 _ _ ht) hcl hzz hzm kk
end PI
theorem cl_0 : pm_cl 0 RX0 := ⟨_, rfl, rfl⟩
theorem cl_1 : pm_cl 1 RX1 := ⟨_, rfl, rfl⟩
theorem cl_2 : pm_cl 2 RX2 := ⟨_, rfl, rfl⟩
theorem cl_3 : pm_cl 3 RX3 := ⟨_, rfl, rfl⟩
theorem cl_4 : pm_cl 4 RX4 := ⟨_, rfl, rfl⟩
theorem cl_5 : pm_cl 5 RX5 := ⟨_, rfl, rfl⟩
theorem cl_6 : pm_cl 6 RX6 := ⟨_, rfl, rfl⟩
theorem cl_7 : pm_cl 7 RX7 := ⟨_, rfl, rfl⟩
theorem cl_8 : pm_cl 8 RX8 := ⟨_, rfl, rfl⟩
theorem cl_9 : pm_cl 9 RX9 := ⟨_, rfl, rfl⟩
end
