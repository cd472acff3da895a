section
-- ===== PART A: goes FIRST, ahead of the names: the tables' words, and 'selects' of the private methods out of them =====
/-- a private method of a class that the tables say can be made, by its rows of tables_1 -/
def lw_okq (q : MethodName × Nat) : Prop := (q.1.cls ≠ "java/lang/invoke/MethodHandle" ∧ q.1.cls ≠ "java/lang/invoke/VarHandle") ∧ Cond.instantiable q.1.cls q.2 ∈ tables_1 ∧ Cond.privateMethod q.1 ∈ tables_1 ∧ Cond.instanceMethod q.1 ∈ tables_1
theorem lw_p0 : lw_okq (⟨"java/lang/Throwable", "fillInStackTrace", "(I)Ljava/lang/Throwable;"⟩, 6) := ⟨⟨by decide +kernel, by decide +kernel⟩, List.mem_of_getElem? (i := 117) (by decide +kernel), List.mem_of_getElem? (i := 115) (by decide +kernel), List.mem_of_getElem? (i := 116) (by decide +kernel)⟩
theorem lw_p1 : lw_okq (⟨"TrenchMerge", "enter", "(IIII)LTrenchMerge$Telling;"⟩, 6) := ⟨⟨by decide +kernel, by decide +kernel⟩, List.mem_of_getElem? (i := 12) (by decide +kernel), List.mem_of_getElem? (i := 174) (by decide +kernel), List.mem_of_getElem? (i := 175) (by decide +kernel)⟩
theorem lw_p2 : lw_okq (⟨"TrenchMerge", "greatestStamp", "(I)I"⟩, 6) := ⟨⟨by decide +kernel, by decide +kernel⟩, List.mem_of_getElem? (i := 12) (by decide +kernel), List.mem_of_getElem? (i := 195) (by decide +kernel), List.mem_of_getElem? (i := 196) (by decide +kernel)⟩
theorem lw_p3 : lw_okq (⟨"TrenchMerge", "putByRank", "(LTrenchMerge$Telling;)V"⟩, 6) := ⟨⟨by decide +kernel, by decide +kernel⟩, List.mem_of_getElem? (i := 12) (by decide +kernel), List.mem_of_getElem? (i := 251) (by decide +kernel), List.mem_of_getElem? (i := 252) (by decide +kernel)⟩
theorem lw_p4 : lw_okq (⟨"TrenchMerge", "findKnown", "(II)LTrenchMerge$Telling;"⟩, 6) := ⟨⟨by decide +kernel, by decide +kernel⟩, List.mem_of_getElem? (i := 12) (by decide +kernel), List.mem_of_getElem? (i := 266) (by decide +kernel), List.mem_of_getElem? (i := 267) (by decide +kernel)⟩
theorem lw_p5 : lw_okq (⟨"TrenchMerge", "findMade", "(I)LTrenchMerge$Telling;"⟩, 6) := ⟨⟨by decide +kernel, by decide +kernel⟩, List.mem_of_getElem? (i := 12) (by decide +kernel), List.mem_of_getElem? (i := 270) (by decide +kernel), List.mem_of_getElem? (i := 271) (by decide +kernel)⟩
theorem lw_p6 : lw_okq (⟨"TrenchMerge", "putInRow", "(ILTrenchMerge$Telling;LTrenchMerge$Telling;)V"⟩, 6) := ⟨⟨by decide +kernel, by decide +kernel⟩, List.mem_of_getElem? (i := 12) (by decide +kernel), List.mem_of_getElem? (i := 277) (by decide +kernel), List.mem_of_getElem? (i := 278) (by decide +kernel)⟩
theorem lw_p7 : lw_okq (⟨"TrenchMerge", "end", "(IIII)I"⟩, 6) := ⟨⟨by decide +kernel, by decide +kernel⟩, List.mem_of_getElem? (i := 12) (by decide +kernel), List.mem_of_getElem? (i := 288) (by decide +kernel), List.mem_of_getElem? (i := 289) (by decide +kernel)⟩
theorem lw_p8 : lw_okq (⟨"TrenchMerge", "latestValue", "(II)I"⟩, 6) := ⟨⟨by decide +kernel, by decide +kernel⟩, List.mem_of_getElem? (i := 12) (by decide +kernel), List.mem_of_getElem? (i := 346) (by decide +kernel), List.mem_of_getElem? (i := 347) (by decide +kernel)⟩
theorem lw_p9 : lw_okq (⟨"TrenchMerge", "sumOfValues", "(II)I"⟩, 6) := ⟨⟨by decide +kernel, by decide +kernel⟩, List.mem_of_getElem? (i := 12) (by decide +kernel), List.mem_of_getElem? (i := 354) (by decide +kernel), List.mem_of_getElem? (i := 355) (by decide +kernel)⟩
theorem lw_p10 : lw_okq (⟨"TrenchMerge", "memberOfUnion", "(III)I"⟩, 6) := ⟨⟨by decide +kernel, by decide +kernel⟩, List.mem_of_getElem? (i := 12) (by decide +kernel), List.mem_of_getElem? (i := 358) (by decide +kernel), List.mem_of_getElem? (i := 359) (by decide +kernel)⟩
theorem lw_p11 : lw_okq (⟨"TrenchMerge", "findInRow", "(III)LTrenchMerge$Telling;"⟩, 6) := ⟨⟨by decide +kernel, by decide +kernel⟩, List.mem_of_getElem? (i := 12) (by decide +kernel), List.mem_of_getElem? (i := 362) (by decide +kernel), List.mem_of_getElem? (i := 363) (by decide +kernel)⟩
theorem lw_p12 : lw_okq (⟨"TrenchMerge", "takeRelations", "(I)V"⟩, 6) := ⟨⟨by decide +kernel, by decide +kernel⟩, List.mem_of_getElem? (i := 12) (by decide +kernel), List.mem_of_getElem? (i := 384) (by decide +kernel), List.mem_of_getElem? (i := 385) (by decide +kernel)⟩
theorem lw_p13 : lw_okq (⟨"TrenchMerge", "countForgotten", "()I"⟩, 6) := ⟨⟨by decide +kernel, by decide +kernel⟩, List.mem_of_getElem? (i := 12) (by decide +kernel), List.mem_of_getElem? (i := 440) (by decide +kernel), List.mem_of_getElem? (i := 441) (by decide +kernel)⟩
theorem lw_p14 : lw_okq (⟨"TrenchMerge", "countUnshared", "()I"⟩, 6) := ⟨⟨by decide +kernel, by decide +kernel⟩, List.mem_of_getElem? (i := 12) (by decide +kernel), List.mem_of_getElem? (i := 448) (by decide +kernel), List.mem_of_getElem? (i := 449) (by decide +kernel)⟩
theorem lw_p15 : lw_okq (⟨"TrenchMergeModel", "goes", "(ZZZ)Z"⟩, 17) := ⟨⟨by decide +kernel, by decide +kernel⟩, List.mem_of_getElem? (i := 453) (by decide +kernel), List.mem_of_getElem? (i := 529) (by decide +kernel), List.mem_of_getElem? (i := 530) (by decide +kernel)⟩
def lw_privs_1 : List (MethodName × Nat) := [(⟨"java/lang/Throwable", "fillInStackTrace", "(I)Ljava/lang/Throwable;"⟩, 6), (⟨"TrenchMerge", "enter", "(IIII)LTrenchMerge$Telling;"⟩, 6), (⟨"TrenchMerge", "greatestStamp", "(I)I"⟩, 6), (⟨"TrenchMerge", "putByRank", "(LTrenchMerge$Telling;)V"⟩, 6), (⟨"TrenchMerge", "findKnown", "(II)LTrenchMerge$Telling;"⟩, 6), (⟨"TrenchMerge", "findMade", "(I)LTrenchMerge$Telling;"⟩, 6), (⟨"TrenchMerge", "putInRow", "(ILTrenchMerge$Telling;LTrenchMerge$Telling;)V"⟩, 6), (⟨"TrenchMerge", "end", "(IIII)I"⟩, 6), (⟨"TrenchMerge", "latestValue", "(II)I"⟩, 6), (⟨"TrenchMerge", "sumOfValues", "(II)I"⟩, 6), (⟨"TrenchMerge", "memberOfUnion", "(III)I"⟩, 6), (⟨"TrenchMerge", "findInRow", "(III)LTrenchMerge$Telling;"⟩, 6), (⟨"TrenchMerge", "takeRelations", "(I)V"⟩, 6), (⟨"TrenchMerge", "countForgotten", "()I"⟩, 6), (⟨"TrenchMerge", "countUnshared", "()I"⟩, 6), (⟨"TrenchMergeModel", "goes", "(ZZZ)Z"⟩, 17)]
theorem lw_r1 : ∀ q ∈ lw_privs_1, lw_okq q := List.forall_mem_cons.mpr ⟨lw_p0, List.forall_mem_cons.mpr ⟨lw_p1, List.forall_mem_cons.mpr ⟨lw_p2, List.forall_mem_cons.mpr ⟨lw_p3, List.forall_mem_cons.mpr ⟨lw_p4, List.forall_mem_cons.mpr ⟨lw_p5, List.forall_mem_cons.mpr ⟨lw_p6, List.forall_mem_cons.mpr ⟨lw_p7, List.forall_mem_cons.mpr ⟨lw_p8, List.forall_mem_cons.mpr ⟨lw_p9, List.forall_mem_cons.mpr ⟨lw_p10, List.forall_mem_cons.mpr ⟨lw_p11, List.forall_mem_cons.mpr ⟨lw_p12, List.forall_mem_cons.mpr ⟨lw_p13, List.forall_mem_cons.mpr ⟨lw_p14, List.forall_mem_cons.mpr ⟨lw_p15, fun _ h => absurd h List.not_mem_nil⟩⟩⟩⟩⟩⟩⟩⟩⟩⟩⟩⟩⟩⟩⟩⟩
theorem lw_p16 : lw_okq (⟨"TrenchMergeModel", "make", "(IIIII)I"⟩, 17) := ⟨⟨by decide +kernel, by decide +kernel⟩, List.mem_of_getElem? (i := 453) (by decide +kernel), List.mem_of_getElem? (i := 533) (by decide +kernel), List.mem_of_getElem? (i := 534) (by decide +kernel)⟩
theorem lw_p17 : lw_okq (⟨"TrenchMergeModel", "knowsOf", "(II)Z"⟩, 17) := ⟨⟨by decide +kernel, by decide +kernel⟩, List.mem_of_getElem? (i := 453) (by decide +kernel), List.mem_of_getElem? (i := 541) (by decide +kernel), List.mem_of_getElem? (i := 542) (by decide +kernel)⟩
theorem lw_p18 : lw_okq (⟨"TrenchMergeModel", "latest", "(II)I"⟩, 17) := ⟨⟨by decide +kernel, by decide +kernel⟩, List.mem_of_getElem? (i := 453) (by decide +kernel), List.mem_of_getElem? (i := 569) (by decide +kernel), List.mem_of_getElem? (i := 570) (by decide +kernel)⟩
theorem lw_p19 : lw_okq (⟨"TrenchMergeModel", "isOf", "(IIII)Z"⟩, 17) := ⟨⟨by decide +kernel, by decide +kernel⟩, List.mem_of_getElem? (i := 453) (by decide +kernel), List.mem_of_getElem? (i := 573) (by decide +kernel), List.mem_of_getElem? (i := 574) (by decide +kernel)⟩
theorem lw_p20 : lw_okq (⟨"TrenchMergeModel", "earlier", "(II)Z"⟩, 17) := ⟨⟨by decide +kernel, by decide +kernel⟩, List.mem_of_getElem? (i := 453) (by decide +kernel), List.mem_of_getElem? (i := 577) (by decide +kernel), List.mem_of_getElem? (i := 578) (by decide +kernel)⟩
theorem lw_p21 : lw_okq (⟨"TrenchMergeModel", "sum", "(II)I"⟩, 17) := ⟨⟨by decide +kernel, by decide +kernel⟩, List.mem_of_getElem? (i := 453) (by decide +kernel), List.mem_of_getElem? (i := 581) (by decide +kernel), List.mem_of_getElem? (i := 582) (by decide +kernel)⟩
theorem lw_p22 : lw_okq (⟨"TrenchMergeModel", "union", "(III)I"⟩, 17) := ⟨⟨by decide +kernel, by decide +kernel⟩, List.mem_of_getElem? (i := 453) (by decide +kernel), List.mem_of_getElem? (i := 585) (by decide +kernel), List.mem_of_getElem? (i := 586) (by decide +kernel)⟩
theorem lw_p23 : lw_okq (⟨"TrenchMergeModel", "standing", "(III)I"⟩, 17) := ⟨⟨by decide +kernel, by decide +kernel⟩, List.mem_of_getElem? (i := 453) (by decide +kernel), List.mem_of_getElem? (i := 589) (by decide +kernel), List.mem_of_getElem? (i := 590) (by decide +kernel)⟩
theorem lw_p24 : lw_okq (⟨"TrenchMergeModel", "line", "(II)V"⟩, 17) := ⟨⟨by decide +kernel, by decide +kernel⟩, List.mem_of_getElem? (i := 453) (by decide +kernel), List.mem_of_getElem? (i := 593) (by decide +kernel), List.mem_of_getElem? (i := 594) (by decide +kernel)⟩
theorem lw_p25 : lw_okq (⟨"TrenchMergeModel", "isRemoved", "(II)Z"⟩, 17) := ⟨⟨by decide +kernel, by decide +kernel⟩, List.mem_of_getElem? (i := 453) (by decide +kernel), List.mem_of_getElem? (i := 597) (by decide +kernel), List.mem_of_getElem? (i := 598) (by decide +kernel)⟩
theorem lw_p26 : lw_okq (⟨"TrenchMergeModel", "settle", "(I)V"⟩, 17) := ⟨⟨by decide +kernel, by decide +kernel⟩, List.mem_of_getElem? (i := 453) (by decide +kernel), List.mem_of_getElem? (i := 609) (by decide +kernel), List.mem_of_getElem? (i := 610) (by decide +kernel)⟩
theorem lw_p27 : lw_okq (⟨"TrenchMergeModel", "isDropped", "(II)Z"⟩, 17) := ⟨⟨by decide +kernel, by decide +kernel⟩, List.mem_of_getElem? (i := 453) (by decide +kernel), List.mem_of_getElem? (i := 613) (by decide +kernel), List.mem_of_getElem? (i := 614) (by decide +kernel)⟩
theorem lw_p28 : lw_okq (⟨"TrenchMergeModel", "take", "(I)V"⟩, 17) := ⟨⟨by decide +kernel, by decide +kernel⟩, List.mem_of_getElem? (i := 453) (by decide +kernel), List.mem_of_getElem? (i := 617) (by decide +kernel), List.mem_of_getElem? (i := 618) (by decide +kernel)⟩
theorem lw_p29 : lw_okq (⟨"TrenchMergeModel", "isPast", "(I)Z"⟩, 17) := ⟨⟨by decide +kernel, by decide +kernel⟩, List.mem_of_getElem? (i := 453) (by decide +kernel), List.mem_of_getElem? (i := 637) (by decide +kernel), List.mem_of_getElem? (i := 638) (by decide +kernel)⟩
theorem lw_p30 : lw_okq (⟨"TrenchMergeModel", "isCommon", "(I)Z"⟩, 17) := ⟨⟨by decide +kernel, by decide +kernel⟩, List.mem_of_getElem? (i := 453) (by decide +kernel), List.mem_of_getElem? (i := 641) (by decide +kernel), List.mem_of_getElem? (i := 642) (by decide +kernel)⟩
def lw_privs_2 : List (MethodName × Nat) := [(⟨"TrenchMergeModel", "make", "(IIIII)I"⟩, 17), (⟨"TrenchMergeModel", "knowsOf", "(II)Z"⟩, 17), (⟨"TrenchMergeModel", "latest", "(II)I"⟩, 17), (⟨"TrenchMergeModel", "isOf", "(IIII)Z"⟩, 17), (⟨"TrenchMergeModel", "earlier", "(II)Z"⟩, 17), (⟨"TrenchMergeModel", "sum", "(II)I"⟩, 17), (⟨"TrenchMergeModel", "union", "(III)I"⟩, 17), (⟨"TrenchMergeModel", "standing", "(III)I"⟩, 17), (⟨"TrenchMergeModel", "line", "(II)V"⟩, 17), (⟨"TrenchMergeModel", "isRemoved", "(II)Z"⟩, 17), (⟨"TrenchMergeModel", "settle", "(I)V"⟩, 17), (⟨"TrenchMergeModel", "isDropped", "(II)Z"⟩, 17), (⟨"TrenchMergeModel", "take", "(I)V"⟩, 17), (⟨"TrenchMergeModel", "isPast", "(I)Z"⟩, 17), (⟨"TrenchMergeModel", "isCommon", "(I)Z"⟩, 17)]
theorem lw_r2 : ∀ q ∈ lw_privs_2, lw_okq q := List.forall_mem_cons.mpr ⟨lw_p16, List.forall_mem_cons.mpr ⟨lw_p17, List.forall_mem_cons.mpr ⟨lw_p18, List.forall_mem_cons.mpr ⟨lw_p19, List.forall_mem_cons.mpr ⟨lw_p20, List.forall_mem_cons.mpr ⟨lw_p21, List.forall_mem_cons.mpr ⟨lw_p22, List.forall_mem_cons.mpr ⟨lw_p23, List.forall_mem_cons.mpr ⟨lw_p24, List.forall_mem_cons.mpr ⟨lw_p25, List.forall_mem_cons.mpr ⟨lw_p26, List.forall_mem_cons.mpr ⟨lw_p27, List.forall_mem_cons.mpr ⟨lw_p28, List.forall_mem_cons.mpr ⟨lw_p29, List.forall_mem_cons.mpr ⟨lw_p30, fun _ h => absurd h List.not_mem_nil⟩⟩⟩⟩⟩⟩⟩⟩⟩⟩⟩⟩⟩⟩⟩
def lw_privs : List (MethodName × Nat) := lw_privs_1 ++ (lw_privs_2)
def lw_tbl : List Cond := k2_sels lw_privs ++ tables_1
theorem lw_privs_ok : ∀ q ∈ lw_privs, lw_okq q := by
  show ∀ q ∈ lw_privs_1 ++ (lw_privs_2), lw_okq q
  exact List.forall_mem_append.mpr ⟨lw_r1, lw_r2⟩
end
section
/-! ===== BEGIN words of one list among another's, by their places ===== -/
theorem goodIn_r {big : List Cond} (ws : List Cond) (ps : List Nat) (hp : ws = ps.filterMap (fun i => big[i]?)) (h : ws.all goodWord = true) : GoodIn big ws := by
  intro w hw
  have h1 := List.all_eq_true.mp h w hw
  rw [hp] at hw
  obtain ⟨i, -, hi⟩ := List.mem_filterMap.mp hw
  have hm : w ∈ big := by first | exact List.mem_of_getElem? hi | exact List.getElem?_mem hi
  exact ⟨hm, good_of_word h1⟩
theorem goodIn_app {big a b : List Cond} (ha : GoodIn big a) (hb : GoodIn big b) : GoodIn big (a ++ b) := fun w h => (List.mem_append.mp h).elim (ha w) (hb w)
theorem goodIn_ca {big a b : List Cond} {c : Cond} (ha : GoodIn big (c :: a)) (hb : GoodIn big b) : GoodIn big (c :: (a ++ b)) := fun w h => (List.mem_cons.mp h).elim (fun e => ha w (List.mem_cons.mpr (Or.inl e))) (fun h => (List.mem_append.mp h).elim (fun h => ha w (List.mem_cons.mpr (Or.inr h))) (hb w))
theorem goodIn_sub {big ws : List Cond} (hm : ∀ w ∈ ws, w ∈ big) (h : ws.all goodWord = true) : GoodIn big ws := fun w hw => ⟨hm w hw, good_of_word (List.all_eq_true.mp h w hw)⟩
/-! ===== END ===== -/

/-! ===== BEGIN exceptions that leave a method, and their catching by the caller (launches without stack traces) ===== -/
section VXA
/-! The laws vx_back, vx_callV, vx_callS, vx_callSW, vx_throw0, vx_throwS follow proofs of the library, with one case more: JvmDerived/Free/Laws.lean (Back.of_free), Shelf42/LK1.lean (callV, callS), Shelf/KitTraced.lean (throwNew0V, throwNewS). -/
/-- where a method has thrown q: the class by its name, the cell, what was written, the world -/
def vx_T (XC : String → State → State → Prop) (st : State) (q : Addr) (t : State) (mc ms : Nat) (free : Addr → Prop) : Prop :=
  ∃ (E : String) (ce : Cell) (L : List Loc), XC E st t ∧ t.heap[q]? = some ce ∧ ce.vm = .none ∧ st.vm.findClass E = some ce.cls ∧ st.WarmedH t.vm ∧ st.sameButNew ({ t with vm := st.vm } : State) L mc ms ∧ ∀ z ∈ L, free z.base
def vx_Q (Qc : Array Value → State → Outcome → State → Prop) (XC : String → State → State → Prop) (mc ms : Nat) (free : Addr → Prop) : Array Value → State → Outcome → State → Prop := fun a st o t =>
  (Qc a st o t ∧ ∃ L, FrameEnd st o t L mc ms ∧ ∀ q ∈ L, free q.base) ∨ ∃ q, o = .threw q ∧ vx_T XC st q t mc ms free
/-- a callee that returns or throws -/
def vx_Met (l : Launch) (y : MethodName) (ws : List Cond) (rm : Room) (Pc : Array Value → State → Prop) (Qc : Array Value → State → Outcome → State → Prop) (XC : String → State → State → Prop) (mc ms : Nat) (free : Addr → Prop) : Prop :=
  MetFree l y (headSpec ws rm) Pc (fun _ _ _ _ _ => True) (vx_Q Qc XC mc ms free)
def vx_Post (XC : String → State → State → Prop) (mc ms : Nat) (free : Addr → Prop) : Pt → Array Value → Addr → Pt → Prop := fun A a q B =>
  ∃ (g : JFrame) (mk : MethodId) (t : State) (L : List Loc) (E : String) (ce : Cell), B.U.heap = t.heap ∧ B.U.vm = t.vm ∧ XC E (A.U.calling g mk a) t ∧ t.heap[q]? = some ce ∧ ce.vm = .none ∧ A.U.vm.findClass E = some ce.cls ∧ B.locs = A.locs ++ L ∧ (∀ z ∈ L, free z.base) ∧ B.cells = A.cells + mc ∧ B.slots = A.slots + ms
def vx_Back (l : Launch) (R : Room) (p : Program) (e : Env) (below : List Frame) (s : State) (sargs : Array Value) (y : MethodName) (len W9 : Nat)
    (Pre : Pt → Array Value → Prop) (Post : Pt → Array Value → Option Value → Pt → Prop) (PostX : Pt → Array Value → Addr → Pt → Prop) : Prop :=
  ∀ (m : MethodId) (meth : Method) (c : Code) (A : Pt) (g : JFrame) (ig : Instr) (mk : MethodId) (a : Array Value),
    Stand p l e R s m sargs below meth c A.U A.locs A.cells A.slots → g.method = m → g.locals.size = c.maxLocals → decode c.code g.pc = .ok (ig, len) →
    2 * g.monitorRoom + (g.stack.map fun v => v.category).sum ≤ W9 → A.U.methodNamed? y = some mk → Pre A a →
    (∃ (v : Option Value) (B : Pt), Stand p l e R s m sargs below meth c B.U B.locs B.cells B.slots ∧ Post A a v B ∧
      Steps p.tables e below (doInvoke e (A.U.setTop g) [] mk a).1 (B.U.setTop { g with pc := g.pc + len, stack := v.toList ++ g.stack })) ∨
    (∃ (q : Addr) (B : Pt), Stand p l e R s m sargs below meth c B.U B.locs B.cells B.slots ∧ PostX A a q B ∧
      Steps p.tables e below (doInvoke e (A.U.setTop g) [] mk a).1 ((B.U.setTop g).pushFrame (.throwing q)))
section Payer
variable {l : Launch} {R : Room} {p : Program} {e : Env} {below : List Frame} {s : State} {sargs : Array Value} {y : MethodName} {len W9 : Nat}
theorem vx_back {ws : List Cond} {rm : Room} {Pc : Array Value → State → Prop} {Qc : Array Value → State → Outcome → State → Prop} {XC : String → State → State → Prop} {mc ms : Nat} {free : Addr → Prop} {bytes : ByteArray} {maxL : Nat} {ret : Option FieldType}
    (hM : vx_Met l y ws rm Pc Qc XC mc ms free) (hblind : FrameBlind Pc) (hrc : rm.cells = mc) (hrs : rm.slots = ms)
    (hframes : rm.frames + 1 ≤ R.frames) (hlocals : W9 + (maxL + 11) + rm.locals ≤ R.locals)
    (hws : ∀ w ∈ ws, ∀ a' U, s.WarmedH U.vm → w.before a' U = true) (hcode : Cond.code y bytes maxL ret ∈ ws) (hinit : ∀ a' U, s.WarmedH U.vm → (Cond.initialized y.cls).before a' U = true) :
    vx_Back l R p e below s sargs y len W9 (PreOf R mc ms Pc) (PostOf Qc mc ms free) (vx_Post XC mc ms free) := by
  intro m meth c A g ig mk a X hg hsize hdg hW hn hp
  have h1 : (headSpec ws rm).pre.before a A.U = true := atoms_intro fun w hw => hws w hw _ _ X.warmed
  have h2 : (Cond.code y bytes maxL ret).before a A.U = true := hws _ hcode _ _ X.warmed
  have h3 : (Cond.initialized y.cls).before a A.U = true := hinit _ _ X.warmed
  have h4 : A.cells + (headSpec ws rm).room.cells ≤ R.cells := by rw [show (headSpec ws rm).room.cells = mc from hrc]; exact hp.1
  have h5 : A.slots + (headSpec ws rm).room.slots ≤ R.slots := by rw [show (headSpec ws rm).room.slots = ms from hrs]; exact hp.2.1
  have hPc : Pc a (A.U.calling g mk a) := hblind _ _ _ _ hp.2.2
  obtain ⟨U, Ls, c0, s0⟩ := A
  dsimp only [Pt.U, Pt.locs, Pt.cells, Pt.slots] at h1 h2 h3 h4 h5 X hn hPc ⊢
  obtain ⟨methY, cY, hmY, hcY, -, hlY, -, -, -, -⟩ := Cond.code_spec hn h2
  obtain ⟨kY, hkY, -⟩ := className_of_methodNamed hn
  have hinitY : kY.init = .initialized := Cond.initialized_spec (findClass_of_methodNamed hn) hkY h3
  have h : At U g.method c below := by rw [hg]; exact X.here
  have hlocals9 : W9 + (maxL + 11) + (headSpec ws rm).room.locals ≤ R.locals := hlocals
  have happ : (headSpec ws rm).appliesLoose y e.platform (U.calling g mk a) = true :=
    Spec.appliesLoose_calling (g := g) h hdg hn hkY hinitY
      (X.room_calling (g := g) (R' := (headSpec ws rm).room) hsize hmY hcY hframes (by rw [hlY]; omega) h4 h5) h1
  obtain ⟨mid, hmid⟩ := h.above
  have hfr : (U.setTop g).frames = (.java g :: mid) ++ below := by rw [State.frames_setTop' g h.top, hmid]; rfl
  obtain ⟨o, s₂, hsteps, -, hend, hq⟩ := Steps.callFree hM p X.admits X.cas X.clock (acts := []) hfr happ hPc trivial
  have hq' : vx_Q Qc XC mc ms free a (U.calling g mk a) o s₂ := hq
  rw [State.frames_setTop' g h.top] at hend
  obtain ⟨g₀, hg0⟩ := Option.isSome_iff_exists.mp h.top
  obtain ⟨r, hr⟩ := State.topJava?_eq_some.mp hg0
  have hr' : (({ U with heap := s₂.heap, slotsUsed := s₂.slotsUsed } : State).setVm s₂.vm).frames = .java g₀ :: r := hr
  rcases hq' with ⟨hqc, L, hfe, hL⟩ | ⟨q, rfl, E, ce, L, hx, hce, hcv, hcl, hW₂, hsm, hL⟩
  · obtain ⟨⟨v, rfl⟩, hW₂, e2, q2, q3, q4, q5, q6⟩ := id hfe
    have e3 : s₂ = ({ (U.calling g mk a).setFrames s₂.frames with heap := s₂.heap, slotsUsed := s₂.slotsUsed } : State).setVm s₂.vm := by
      have : s₂ = ({ s₂ with vm := (U.calling g mk a).vm } : State).setVm s₂.vm := rfl
      rw [e2] at this
      exact this
    obtain ⟨c₂, i₂, len₂, hc₂, hd₂, hf₂⟩ := hend
    have hW' : U.WarmedH s₂.vm := hW₂
    have hcc : c₂ = c := by
      have h1 : s₂.code? g.method = U.code? g.method := by
        rw [State.code?_eq, State.code?_eq, hW'.alike.method?]
      exact Option.some.inj (hc₂.symm.trans (h1.trans h.code))
    subst hcc
    have hlen : len₂ = len := by rw [hdg] at hd₂; cases hd₂; rfl
    subst hlen
    have hs₂ : s₂ = (({ U with heap := s₂.heap, slotsUsed := s₂.slotsUsed } : State).setVm s₂.vm).setTop { g with pc := g.pc + len₂, stack := v.toList ++ g.stack } := by
      refine e3.trans ?_
      rw [hf₂, State.calling_eq h.top, State.setFrames_setFrames, State.setTop_of_frames _ hr', hr]
      rfl
    have hsame : U.sameButNew ({ U with heap := s₂.heap, slotsUsed := s₂.slotsUsed } : State) L mc ms := by
      refine ⟨?_, q2, q3, q4, q5, q6⟩
      obtain ⟨t, ht, -⟩ := State.frames_cons hr
      show ({ U with heap := s₂.heap, slotsUsed := s₂.slotsUsed } : State) = { U.setFrames U.frames with heap := s₂.heap, slotsUsed := s₂.slotsUsed }
      rw [State.setFrames_self ht]
    subst hg
    refine Or.inl ⟨v, ⟨(({ U with heap := s₂.heap, slotsUsed := s₂.slotsUsed } : State).setVm s₂.vm), Ls ++ L, c0 + mc, s0 + ms⟩,
      ⟨X.admits, X.cas, X.clock, X.frames, X.room, X.hears, X.method, X.code, (X.here.setHeapUsed s₂.heap s₂.slotsUsed).setVm hW'.alike, X.tail, State.WarmedH.trans X.warmed hW', X.limits, X.bytes, X.same.trans (hsame.setVm s.vm)⟩,
      ⟨g, mk, s₂, L, rfl, rfl, hqc, rfl, hL, rfl, rfl⟩, ?_⟩
    show Steps p.tables e below _ ((({ U with heap := s₂.heap, slotsUsed := s₂.slotsUsed } : State).setVm s₂.vm).setTop { g with pc := g.pc + len₂, stack := v.toList ++ g.stack })
    rw [← hs₂]
    exact hsteps
  · obtain ⟨e2, q2, q3, q4, q5, q6⟩ := id hsm
    have e3 : s₂ = ({ (U.calling g mk a).setFrames s₂.frames with heap := s₂.heap, slotsUsed := s₂.slotsUsed } : State).setVm s₂.vm := by
      have : s₂ = ({ s₂ with vm := (U.calling g mk a).vm } : State).setVm s₂.vm := rfl
      rw [e2] at this
      exact this
    have hf₂ : s₂.frames = .throwing q :: .java g :: U.frames.tail := hend
    have hW' : U.WarmedH s₂.vm := hW₂
    have hs₂ : s₂ = ((({ U with heap := s₂.heap, slotsUsed := s₂.slotsUsed } : State).setVm s₂.vm).setTop g).pushFrame (.throwing q) := by
      refine e3.trans ?_
      rw [hf₂, State.calling_eq h.top, State.setFrames_setFrames, State.pushFrame, State.frames_setTop _ hr', State.setTop_of_frames _ hr', State.setFrames_setFrames, hr]
      rfl
    have hsame : U.sameButNew ({ U with heap := s₂.heap, slotsUsed := s₂.slotsUsed } : State) L mc ms := by
      refine ⟨?_, q2, q3, q4, q5, q6⟩
      obtain ⟨t, ht, -⟩ := State.frames_cons hr
      show ({ U with heap := s₂.heap, slotsUsed := s₂.slotsUsed } : State) = { U.setFrames U.frames with heap := s₂.heap, slotsUsed := s₂.slotsUsed }
      rw [State.setFrames_self ht]
    subst hg
    refine Or.inr ⟨q, ⟨(({ U with heap := s₂.heap, slotsUsed := s₂.slotsUsed } : State).setVm s₂.vm), Ls ++ L, c0 + mc, s0 + ms⟩,
      ⟨X.admits, X.cas, X.clock, X.frames, X.room, X.hears, X.method, X.code, (X.here.setHeapUsed s₂.heap s₂.slotsUsed).setVm hW'.alike, X.tail, State.WarmedH.trans X.warmed hW', X.limits, X.bytes, X.same.trans (hsame.setVm s.vm)⟩,
      ⟨g, mk, s₂, L, E, ce, rfl, rfl, hx, hce, hcv, hcl, rfl, hL, rfl, rfl⟩, ?_⟩
    show Steps p.tables e below _ (((({ U with heap := s₂.heap, slotsUsed := s₂.slotsUsed } : State).setVm s₂.vm).setTop g).pushFrame (.throwing q))
    rw [← hs₂]
    exact hsteps
end Payer
section Calls
variable {p : Program} {l : Launch} {e : Env} {R : Room} {s : State} {m : MethodId} {args : Array Value} {below : List Frame} {meth : Method} {c : Code} {T : State} {locs : List Loc} {cells slots : Nat}
theorem vx_callV (X : Stand p l e R s m args below meth c T locs cells slots) (hexec : p.tables.exec = Jvm.exec) {own C : String} {index : Nat} {y : MethodName} {bytes : ByteArray} {maxL : Nat} {ret : Option FieldType}
    (hown : s.vm.findClass own = some m.cls) (hlink : (Cond.methodLink own index y).before args s = true) (hinst : (Cond.instanceMethod y).before args s = true) (hsel : (Cond.selects C y y).before args s = true)
    (hcode : (Cond.code y bytes maxL ret).before args s = true) (hy : y.cls ≠ "java/lang/invoke/MethodHandle" ∧ y.cls ≠ "java/lang/invoke/VarHandle")
    {W9 : Nat} {Pre : Pt → Array Value → Prop} {Post : Pt → Array Value → Option Value → Pt → Prop} {PostX : Pt → Array Value → Addr → Pt → Prop} (hK : vx_Back l R p e below s args y 3 W9 Pre Post PostX)
    {b : Addr} {cellB : Cell} (hcell : T.heap[b]? = some cellB) (hobj : cellB.vm.isStatics = false) (hcls : s.vm.findClass C = some cellB.cls)
    {g : JFrame} (hg : g.method = m) (hsize : g.locals.size = c.maxLocals) {argsL rest : List Value} (hlen : ∀ sig, parseMethodDescriptor y.desc = some sig → argsL.length = sig.parameters.length)
    (hstack : g.stack = argsL.reverse ++ .ref b :: rest) (hW : 2 * g.monitorRoom + (rest.map fun v => v.category).sum ≤ W9) (hdg : decode c.code g.pc = .ok (.invokevirtual index, 3))
    (hpre : ∀ vm₁, s.WarmedH vm₁ → Pre ⟨T.setVm vm₁, locs, cells, slots⟩ (Value.ref b :: argsL).toArray) :
    (∃ (v : Option Value) (vm₁ : Vm) (B : Pt), s.WarmedH vm₁ ∧ Stand p l e R s m args below meth c B.U B.locs B.cells B.slots ∧ Post ⟨T.setVm vm₁, locs, cells, slots⟩ (Value.ref b :: argsL).toArray v B ∧
      ∀ target, Steps p.tables e below (B.U.setTop { g with pc := g.pc + 3, stack := v.toList ++ rest }) target → Steps p.tables e below (T.setTop g) target) ∨
    (∃ (q : Addr) (vm₁ : Vm) (B : Pt), s.WarmedH vm₁ ∧ Stand p l e R s m args below meth c B.U B.locs B.cells B.slots ∧ PostX ⟨T.setVm vm₁, locs, cells, slots⟩ (Value.ref b :: argsL).toArray q B ∧
      Steps p.tables e below (T.setTop g) ((B.U.setTop { g with stack := rest }).pushFrame (.throwing q))) := by
  obtain ⟨mk, methM, hnamed, hmethM, hstM, habM⟩ := Cond.instanceMethod_spec hinst
  obtain ⟨methM', cM, hmethM', -, -, -, -, -, -, hsigM⟩ := Cond.code_spec hnamed hcode
  cases hmethM.symm.trans hmethM'
  obtain ⟨c2, r2, m2, q1, q2, q3, q4, kP, hkP, hkPi⟩ := Cond.selects_spec hsel
  cases hcls.symm.trans q1
  cases (State.methodFound?_of_named hnamed hy).symm.trans q2
  cases hnamed.symm.trans q3
  have hselP : selectMethod e.platform s.vm cellB.cls mk = .method mk := by rw [Launch.admits_selectMethod X.admits]; exact q4
  obtain ⟨vm₁, X₁, hstep₁⟩ := X.invokevirtual hexec hown hlink hnamed hmethM hstM hkP hkPi hy (a := b) (cell := cellB) hcell
    (fun z h => by rw [h] at hobj; cases hobj) hselP hmethM habM hkP hkPi (g := g) hg (argsL := argsL) (rest := rest) (hlen _ hsigM) hstack hdg
  rcases hK m meth c ⟨T.setVm vm₁, locs, cells, slots⟩ { g with stack := rest } (.invokevirtual index) mk (Value.ref b :: argsL).toArray X₁ hg hsize hdg hW (X₁.named hnamed) (hpre vm₁ X₁.warmed) with ⟨v, B, X', hpost, hsteps⟩ | ⟨q, B, X', hpost, hsteps⟩
  · exact Or.inl ⟨v, vm₁, B, X₁.warmed, X', hpost, fun target h => hstep₁ _ fun acts => by rw [doInvoke_state]; exact hsteps.trans h⟩
  · exact Or.inr ⟨q, vm₁, B, X₁.warmed, X', hpost, hstep₁ _ fun acts => by rw [doInvoke_state]; exact hsteps⟩
theorem vx_callS (X : Stand p l e R s m args below meth c T locs cells slots) (hexec : p.tables.exec = Jvm.exec) {own : String} {index : Nat} {y : MethodName} {bytes : ByteArray} {maxL : Nat} {ret : Option FieldType}
    (hown : s.vm.findClass own = some m.cls) (hlink : (Cond.methodLink own index y).before args s = true) (hstat : (Cond.static y).before args s = true) (hinit : (Cond.initialized y.cls).before args s = true)
    (hcode : (Cond.code y bytes maxL ret).before args s = true) (hy : y.cls ≠ "java/lang/invoke/MethodHandle" ∧ y.cls ≠ "java/lang/invoke/VarHandle")
    {W9 : Nat} {Pre : Pt → Array Value → Prop} {Post : Pt → Array Value → Option Value → Pt → Prop} {PostX : Pt → Array Value → Addr → Pt → Prop} (hK : vx_Back l R p e below s args y 3 W9 Pre Post PostX)
    {g : JFrame} (hg : g.method = m) (hsize : g.locals.size = c.maxLocals) {argsL rest : List Value} (hlen : ∀ sig, parseMethodDescriptor y.desc = some sig → argsL.length = sig.parameters.length)
    (hstack : g.stack = argsL.reverse ++ rest) (hW : 2 * g.monitorRoom + (rest.map fun v => v.category).sum ≤ W9) (hdg : decode c.code g.pc = .ok (.invokestatic index, 3))
    (hpre : ∀ vm₁, s.WarmedH vm₁ → Pre ⟨T.setVm vm₁, locs, cells, slots⟩ argsL.toArray) :
    (∃ (v : Option Value) (vm₁ : Vm) (B : Pt), s.WarmedH vm₁ ∧ Stand p l e R s m args below meth c B.U B.locs B.cells B.slots ∧ Post ⟨T.setVm vm₁, locs, cells, slots⟩ argsL.toArray v B ∧
      ∀ target, Steps p.tables e below (B.U.setTop { g with pc := g.pc + 3, stack := v.toList ++ rest }) target → Steps p.tables e below (T.setTop g) target) ∨
    (∃ (q : Addr) (vm₁ : Vm) (B : Pt), s.WarmedH vm₁ ∧ Stand p l e R s m args below meth c B.U B.locs B.cells B.slots ∧ PostX ⟨T.setVm vm₁, locs, cells, slots⟩ argsL.toArray q B ∧
      Steps p.tables e below (T.setTop g) ((B.U.setTop { g with stack := rest }).pushFrame (.throwing q))) := by
  obtain ⟨mk, hnamed⟩ := Cond.code_named hcode
  obtain ⟨methM, cM, hmethM, -, -, -, -, -, -, hsigM⟩ := Cond.code_spec hnamed hcode
  have hstatic : methM.isStatic = true := Cond.static_spec hnamed hmethM hstat
  obtain ⟨kP, hkP, -⟩ := className_of_methodNamed hnamed
  have hinitP : kP.init = .initialized := Cond.initialized_spec (findClass_of_methodNamed hnamed) hkP hinit
  obtain ⟨vm₁, X₁, hstep₁⟩ := X.invokestatic hexec hown hlink hnamed hmethM hstatic hkP hinitP hy (g := g) hg (argsL := argsL) (rest := rest) (hlen _ hsigM) hstack hdg
  rcases hK m meth c ⟨T.setVm vm₁, locs, cells, slots⟩ { g with stack := rest } (.invokestatic index) mk argsL.toArray X₁ hg hsize hdg hW (X₁.named hnamed) (hpre vm₁ X₁.warmed) with ⟨v, B, X', hpost, hsteps⟩ | ⟨q, B, X', hpost, hsteps⟩
  · exact Or.inl ⟨v, vm₁, B, X₁.warmed, X', hpost, fun target h => hstep₁ _ fun acts => by rw [doInvoke_state]; exact hsteps.trans h⟩
  · exact Or.inr ⟨q, vm₁, B, X₁.warmed, X', hpost, hstep₁ _ fun acts => by rw [doInvoke_state]; exact hsteps⟩
end Calls
theorem vx_cls {s : State} {T : State} {vm₁ : Vm} {E : String} {k : ClassId} (hW : s.WarmedH vm₁) (h : (T.setVm vm₁).vm.findClass E = some k) : s.vm.findClass E = some k := by
  have h1 : vm₁.findClass E = some k := h
  rw [hW.alike.findClass] at h1
  exact h1
/-- the method's frame g, with q thrown over it -/
def vx_W (p : Program) (l : Launch) (e : Env) (R : Room) (s : State) (m : MethodId) (args : Array Value) (below : List Frame) (meth : Method) (c : Code) (H : Heap) (locs : List Loc) (cells slots : Nat) (Q : State → Prop) (g : JFrame) (q : Addr) : Prop :=
  ∀ T : State, T.heap = H → Stand p l e R s m args below meth c T locs cells slots → ∃ t, Steps p.tables e below ((T.setTop g).pushFrame (.throwing q)) t ∧ Q t
def vx_Run (p : Program) (l : Launch) (e : Env) (R : Room) (s : State) (m : MethodId) (args : Array Value) (below : List Frame) (meth : Method) (c : Code) (H : Heap) (locs : List Loc) (cells slots mc ms : Nat) (g : JFrame) (rest : List Value) (Qa : State → Outcome → State → Prop) (XC : String → State → State → Prop) (free : Addr → Prop) : Prop :=
  ∀ T : State, T.heap = H → Stand p l e R s m args below meth c T locs cells slots →
    (∃ (v : Option Value) (st₀ t T' : State) (L : List Loc), st₀.heap = H ∧ Stand p l e R s m args below meth c T' (locs ++ L) (cells + mc) (slots + ms) ∧ (∀ q ∈ L, free q.base) ∧ T'.heap = t.heap ∧ T'.vm = t.vm ∧ Qa st₀ (.returned v) t ∧
      Goes p e below T g T' { g with pc := g.pc + 3, stack := v.toList ++ rest }) ∨
    (∃ (q : Addr) (st₀ t T' : State) (L : List Loc) (E : String) (ce : Cell), st₀.heap = H ∧ Stand p l e R s m args below meth c T' (locs ++ L) (cells + mc) (slots + ms) ∧ (∀ z ∈ L, free z.base) ∧ T'.heap = t.heap ∧ T'.vm = t.vm ∧ XC E st₀ t ∧ t.heap[q]? = some ce ∧ ce.vm = .none ∧ s.vm.findClass E = some ce.cls ∧
      Steps p.tables e below (T.setTop g) ((T'.setTop { g with stack := rest }).pushFrame (.throwing q)))
def vx_X {S : Type} (px : S → Prop) (B : String → S → State → Prop) (A : Nat → Prop) : String → State → State → Prop := fun E st t => ∃ u : S, px u ∧ B E u t ∧ va_F A st t
section Runs
variable {p : Program} {l : Launch} {e : Env} {R : Room} {s : State} {m : MethodId} {args : Array Value} {below : List Frame} {meth : Method} {c : Code} {H : Heap} {locs : List Loc} {cells slots : Nat}
variable {y : MethodName} {bytes cc : ByteArray} {maxL nL mc ms n index : Nat} {ret : Option FieldType} {ws : List Cond} {rm : Room} {Pc : Array Value → State → Prop} {Qc : Array Value → State → Outcome → State → Prop} {XC : String → State → State → Prop} {free : Addr → Prop} {Ts : List Cond} {own C : String} {b : Addr} {As rest : List Value} {g : JFrame}
theorem vx_callBack (cb : CallB R s args own index y bytes maxL ret ws rm mc ms n) (hM : vx_Met l y ws rm Pc Qc XC mc ms free) (hbl : FrameBlind Pc) : vx_Back l R p e below s args y 3 8 (PreOf R mc ms Pc) (PostOf Qc mc ms free) (vx_Post XC mc ms free) := by
  obtain ⟨hrc, hrs, hfr, hlo, hws, hcw, -, hini, -⟩ := cb
  exact vx_back (bytes := bytes) (maxL := maxL) (ret := ret) hM hbl hrc hrs hfr hlo hws hcw (fun a' U hW => word_at hW (Or.inl (by first | rfl | simp [Cond.onTables, Cond.keeps, Cond.steady])) hini)
theorem vx_runV (S : CallFix p m c cc nL s args Ts own) (hM : vx_Met l y ws rm Pc Qc XC mc ms free) (cw : CallW R s args own C index y bytes maxL ret ws rm mc ms n) (hp : PreV s H C b Pc As)
    (hg : g.method = m) (hn : As.length = n) (hsize : g.locals.size = nL) (hstack : g.stack = As.reverse ++ .ref b :: rest) (hW : 2 * g.monitorRoom + (rest.map fun v => v.category).sum ≤ 8) (hdg : decode cc g.pc = .ok (.invokevirtual index, 3)) (hf : cells + mc ≤ R.cells ∧ slots + ms ≤ R.slots) :
    vx_Run p l e R s m args below meth c H locs cells slots mc ms g rest (Qc (Value.ref b :: As).toArray) XC free := by
  have hK : vx_Back l R p e below s args y 3 8 (PreOf R mc ms Pc) (PostOf Qc mc ms free) (vx_Post XC mc ms free) := vx_callBack cw.1 hM hp.1
  obtain ⟨⟨-, -, -, -, -, -, hcode, -, hy, hlen, hl⟩, hin, hse⟩ := cw
  obtain ⟨hx, hb, hml, ho, -⟩ := S
  obtain ⟨-, ⟨cellB, hcB, hoB, hclB⟩, hPc⟩ := hp
  intro T hT X
  rcases vx_callV X hx (C := C) (bytes := bytes) (maxL := maxL) (ret := ret) ho hl hin hse hcode hy hK (by rw [hT]; exact hcB) hoB hclB hg (hsize.trans hml.symm) (argsL := As) (rest := rest) (fun sig h => hn.trans (hlen sig h)) hstack hW (by rw [hb]; exact hdg)
    (fun vm₁ hW₁ => ⟨hf.1, hf.2, hPc (T.setVm vm₁) hT hW₁⟩) with ⟨v, vm₁, ⟨U', l2, c2, s2⟩, hW₁, X', ⟨g', mk, t, L, e1, e2, hq, h1, hL, h2, h3⟩, st⟩ | ⟨q, vm₁, ⟨U', l2, c2, s2⟩, hW₁, X', ⟨g', mk, t, L, E, ce, e1, e2, hq, hce, hcv, hcl, h1, hL, h2, h3⟩, st⟩
  · dsimp only [Pt.U, Pt.locs, Pt.cells, Pt.slots] at X' e1 e2 h1 h2 h3 st
    subst h1; subst h2; subst h3
    exact Or.inl ⟨v, (T.setVm vm₁).calling g' mk (Value.ref b :: As).toArray, t, U', L, hT, X', hL, e1, e2, hq, st⟩
  · dsimp only [Pt.U, Pt.locs, Pt.cells, Pt.slots] at X' e1 e2 h1 h2 h3 st hcl
    subst h1; subst h2; subst h3
    exact Or.inr ⟨q, (T.setVm vm₁).calling g' mk (Value.ref b :: As).toArray, t, U', L, E, ce, hT, X', hL, e1, e2, hq, hce, hcv, vx_cls hW₁ hcl, st⟩
theorem vx_runS (S : CallFix p m c cc nL s args Ts own) (hM : vx_Met l y ws rm Pc Qc XC mc ms free) (cw : CallB R s args own index y bytes maxL ret ws rm mc ms n ∧ (Cond.static y).before args s = true) (hp : PreS s H Pc As)
    (hg : g.method = m) (hn : As.length = n) (hsize : g.locals.size = nL) (hstack : g.stack = As.reverse ++ rest) (hW : 2 * g.monitorRoom + (rest.map fun v => v.category).sum ≤ 8) (hdg : decode cc g.pc = .ok (.invokestatic index, 3)) (hf : cells + mc ≤ R.cells ∧ slots + ms ≤ R.slots) :
    vx_Run p l e R s m args below meth c H locs cells slots mc ms g rest (Qc As.toArray) XC free := by
  have hK : vx_Back l R p e below s args y 3 8 (PreOf R mc ms Pc) (PostOf Qc mc ms free) (vx_Post XC mc ms free) := vx_callBack cw.1 hM hp.1
  obtain ⟨⟨-, -, -, -, -, -, hcode, hini, hy, hlen, hl⟩, hstt⟩ := cw
  obtain ⟨hx, hb, hml, ho, -⟩ := S
  intro T hT X
  rcases vx_callS X hx (bytes := bytes) (maxL := maxL) (ret := ret) ho hl hstt hini hcode hy hK hg (hsize.trans hml.symm) (argsL := As) (rest := rest) (fun sig h => hn.trans (hlen sig h)) hstack hW (by rw [hb]; exact hdg)
    (fun vm₁ hW₁ => ⟨hf.1, hf.2, hp.2 (T.setVm vm₁) hT hW₁⟩) with ⟨v, vm₁, ⟨U', l2, c2, s2⟩, hW₁, X', ⟨g', mk, t, L, e1, e2, hq, h1, hL, h2, h3⟩, st⟩ | ⟨q, vm₁, ⟨U', l2, c2, s2⟩, hW₁, X', ⟨g', mk, t, L, E, ce, e1, e2, hq, hce, hcv, hcl, h1, hL, h2, h3⟩, st⟩
  · dsimp only [Pt.U, Pt.locs, Pt.cells, Pt.slots] at X' e1 e2 h1 h2 h3 st
    subst h1; subst h2; subst h3
    exact Or.inl ⟨v, (T.setVm vm₁).calling g' mk As.toArray, t, U', L, hT, X', hL, e1, e2, hq, st⟩
  · dsimp only [Pt.U, Pt.locs, Pt.cells, Pt.slots] at X' e1 e2 h1 h2 h3 st hcl
    subst h1; subst h2; subst h3
    exact Or.inr ⟨q, (T.setVm vm₁).calling g' mk As.toArray, t, U', L, E, ce, hT, X', hL, e1, e2, hq, hce, hcv, vx_cls hW₁ hcl, st⟩
end Runs
section Rows
variable {p : Program} {l : Launch} {e : Env} {R : Room} {s : State} {m : MethodId} {args : Array Value} {below : List Frame} {meth : Method} {c : Code} {H : Heap} {locs : List Loc} {cells slots : Nat} {Q : State → Prop}
variable {mc ms : Nat} {free : Addr → Prop} {A0 A1 : Nat → Prop} {H0 : Heap} {a : Array Value} {pc : Nat} {ls : Array Slot} {st0 rest : List Value}
theorem vx_keep {st₀ t T' : State} {L : List Loc} (h0 : st₀.heap = H) (e1 : T'.heap = t.heap) (hS : va_S A0 H0 H locs) (hA : ∀ q, q < H.size → A1 q → A0 q) (hf : ∀ q, free q → A0 q) (hL : ∀ q ∈ L, free q.base) (hF : va_F A1 st₀ t) :
    H.size ≤ T'.heap.size ∧ (∀ q : Nat, q < H.size → ¬ A1 q → T'.heap[q]? = H[q]?) ∧ va_S A0 H0 T'.heap (locs ++ L) := by
  obtain ⟨hz, hk⟩ := hF
  rw [h0] at hz hk
  exact ⟨by rw [e1]; exact hz, fun q h1 h2 => by rw [e1]; exact hk q h1 h2,
    ⟨Nat.le_trans hS.1 (by rw [e1]; exact hz), fun q h1 h2 => by rw [e1, hk q (Nat.lt_of_lt_of_le h1 hS.1) (fun z => h2 (hA q (Nat.lt_of_lt_of_le h1 hS.1) z))]; exact hS.2.1 q h1 h2, fun q hq => by
      rcases List.mem_append.mp hq with h | h
      · exact hS.2.2 q h
      · exact hf _ (hL q h)⟩⟩
theorem vx_calli {S SX : Type} {post : Int32 → S → Prop} {px : SX → Prop} {B : S → State → Prop} {BX : String → SX → State → Prop} {AX : Nat → Prop} (hr : vx_Run p l e R s m args below meth c H locs cells slots mc ms (F0 m pc ls st0) rest (va_Qi post B A1 a) (vx_X px BX AX) free) (hS : va_S A0 H0 H locs) (hA : ∀ q, q < H.size → A1 q → A0 q) (hf : ∀ q, free q → A0 q) (hAX : ∀ q, q < H.size → AX q → A0 q)
    (kx : ∀ (E : String) (ce : Cell) (q9 : Addr) (u : SX) (t : State) (H1 : Heap) (locs1 : List Loc), t.heap = H1 → s.vm.Alike t.vm → px u → BX E u t → H.size ≤ H1.size → (∀ q : Nat, q < H.size → ¬ AX q → H1[q]? = H[q]?) → va_S A0 H0 H1 locs1 → H1[q9]? = some ce → ce.vm = .none → s.vm.findClass E = some ce.cls → vx_W p l e R s m args below meth c H1 locs1 (cells + mc) (slots + ms) Q (F0 m pc ls rest) q9)
    (kk : ∀ (r : Int32) (u : S) (t : State) (H1 : Heap) (locs1 : List Loc), t.heap = H1 → s.vm.Alike t.vm → post r u → B u t → H.size ≤ H1.size → (∀ q : Nat, q < H.size → ¬ A1 q → H1[q]? = H[q]?) → va_S A0 H0 H1 locs1 → W p l e R s m args below meth c H1 locs1 (cells + mc) (slots + ms) Q (F0 m (pc + 3) ls (.int r :: rest))) : W p l e R s m args below meth c H locs cells slots Q (F0 m pc ls st0) := by
  intro T hT X
  rcases hr T hT X with ⟨v, st₀, t, T', L, h0, X', hL, e1, e2, ⟨⟨r, u, hv, hp, hb⟩, hF⟩, st⟩ | ⟨q, st₀, t, T', L, E, ce, h0, X', hL, e1, e2, ⟨u, hp, hb, hF⟩, hce, hcv, hcl, st⟩
  · cases hv
    obtain ⟨k1, k2, k3⟩ := vx_keep h0 e1 hS hA hf hL hF
    obtain ⟨t2, a1, b1⟩ := kk r u t T'.heap (locs ++ L) e1.symm (by rw [← e2]; exact X'.warmed.alike) hp hb k1 k2 k3 T' rfl X'
    exact ⟨t2, st t2 a1, b1⟩
  · obtain ⟨k1, k2, k3⟩ := vx_keep h0 e1 hS hAX hf hL hF
    obtain ⟨t2, a1, b1⟩ := kx E ce q u t T'.heap (locs ++ L) e1.symm (by rw [← e2]; exact X'.warmed.alike) hp hb k1 k2 k3 (by rw [e1]; exact hce) hcv hcl T' rfl X'
    exact ⟨t2, st.trans a1, b1⟩
theorem vx_calll {S SX : Type} {post : Int64 → S → Prop} {px : SX → Prop} {B : S → State → Prop} {BX : String → SX → State → Prop} {AX : Nat → Prop} (hr : vx_Run p l e R s m args below meth c H locs cells slots mc ms (F0 m pc ls st0) rest (va_Ql post B A1 a) (vx_X px BX AX) free) (hS : va_S A0 H0 H locs) (hA : ∀ q, q < H.size → A1 q → A0 q) (hf : ∀ q, free q → A0 q) (hAX : ∀ q, q < H.size → AX q → A0 q)
    (kx : ∀ (E : String) (ce : Cell) (q9 : Addr) (u : SX) (t : State) (H1 : Heap) (locs1 : List Loc), t.heap = H1 → s.vm.Alike t.vm → px u → BX E u t → H.size ≤ H1.size → (∀ q : Nat, q < H.size → ¬ AX q → H1[q]? = H[q]?) → va_S A0 H0 H1 locs1 → H1[q9]? = some ce → ce.vm = .none → s.vm.findClass E = some ce.cls → vx_W p l e R s m args below meth c H1 locs1 (cells + mc) (slots + ms) Q (F0 m pc ls rest) q9)
    (kk : ∀ (r : Int64) (u : S) (t : State) (H1 : Heap) (locs1 : List Loc), t.heap = H1 → s.vm.Alike t.vm → post r u → B u t → H.size ≤ H1.size → (∀ q : Nat, q < H.size → ¬ A1 q → H1[q]? = H[q]?) → va_S A0 H0 H1 locs1 → W p l e R s m args below meth c H1 locs1 (cells + mc) (slots + ms) Q (F0 m (pc + 3) ls (.long r :: rest))) : W p l e R s m args below meth c H locs cells slots Q (F0 m pc ls st0) := by
  intro T hT X
  rcases hr T hT X with ⟨v, st₀, t, T', L, h0, X', hL, e1, e2, ⟨⟨r, u, hv, hp, hb⟩, hF⟩, st⟩ | ⟨q, st₀, t, T', L, E, ce, h0, X', hL, e1, e2, ⟨u, hp, hb, hF⟩, hce, hcv, hcl, st⟩
  · cases hv
    obtain ⟨k1, k2, k3⟩ := vx_keep h0 e1 hS hA hf hL hF
    obtain ⟨t2, a1, b1⟩ := kk r u t T'.heap (locs ++ L) e1.symm (by rw [← e2]; exact X'.warmed.alike) hp hb k1 k2 k3 T' rfl X'
    exact ⟨t2, st t2 a1, b1⟩
  · obtain ⟨k1, k2, k3⟩ := vx_keep h0 e1 hS hAX hf hL hF
    obtain ⟨t2, a1, b1⟩ := kx E ce q u t T'.heap (locs ++ L) e1.symm (by rw [← e2]; exact X'.warmed.alike) hp hb k1 k2 k3 (by rw [e1]; exact hce) hcv hcl T' rfl X'
    exact ⟨t2, st.trans a1, b1⟩
theorem vx_callf {S SX : Type} {post : UInt32 → S → Prop} {px : SX → Prop} {B : S → State → Prop} {BX : String → SX → State → Prop} {AX : Nat → Prop} (hr : vx_Run p l e R s m args below meth c H locs cells slots mc ms (F0 m pc ls st0) rest (va_Qf post B A1 a) (vx_X px BX AX) free) (hS : va_S A0 H0 H locs) (hA : ∀ q, q < H.size → A1 q → A0 q) (hf : ∀ q, free q → A0 q) (hAX : ∀ q, q < H.size → AX q → A0 q)
    (kx : ∀ (E : String) (ce : Cell) (q9 : Addr) (u : SX) (t : State) (H1 : Heap) (locs1 : List Loc), t.heap = H1 → s.vm.Alike t.vm → px u → BX E u t → H.size ≤ H1.size → (∀ q : Nat, q < H.size → ¬ AX q → H1[q]? = H[q]?) → va_S A0 H0 H1 locs1 → H1[q9]? = some ce → ce.vm = .none → s.vm.findClass E = some ce.cls → vx_W p l e R s m args below meth c H1 locs1 (cells + mc) (slots + ms) Q (F0 m pc ls rest) q9)
    (kk : ∀ (r : UInt32) (u : S) (t : State) (H1 : Heap) (locs1 : List Loc), t.heap = H1 → s.vm.Alike t.vm → post r u → B u t → H.size ≤ H1.size → (∀ q : Nat, q < H.size → ¬ A1 q → H1[q]? = H[q]?) → va_S A0 H0 H1 locs1 → W p l e R s m args below meth c H1 locs1 (cells + mc) (slots + ms) Q (F0 m (pc + 3) ls (.float r :: rest))) : W p l e R s m args below meth c H locs cells slots Q (F0 m pc ls st0) := by
  intro T hT X
  rcases hr T hT X with ⟨v, st₀, t, T', L, h0, X', hL, e1, e2, ⟨⟨r, u, hv, hp, hb⟩, hF⟩, st⟩ | ⟨q, st₀, t, T', L, E, ce, h0, X', hL, e1, e2, ⟨u, hp, hb, hF⟩, hce, hcv, hcl, st⟩
  · cases hv
    obtain ⟨k1, k2, k3⟩ := vx_keep h0 e1 hS hA hf hL hF
    obtain ⟨t2, a1, b1⟩ := kk r u t T'.heap (locs ++ L) e1.symm (by rw [← e2]; exact X'.warmed.alike) hp hb k1 k2 k3 T' rfl X'
    exact ⟨t2, st t2 a1, b1⟩
  · obtain ⟨k1, k2, k3⟩ := vx_keep h0 e1 hS hAX hf hL hF
    obtain ⟨t2, a1, b1⟩ := kx E ce q u t T'.heap (locs ++ L) e1.symm (by rw [← e2]; exact X'.warmed.alike) hp hb k1 k2 k3 (by rw [e1]; exact hce) hcv hcl T' rfl X'
    exact ⟨t2, st.trans a1, b1⟩
theorem vx_calld {S SX : Type} {post : UInt64 → S → Prop} {px : SX → Prop} {B : S → State → Prop} {BX : String → SX → State → Prop} {AX : Nat → Prop} (hr : vx_Run p l e R s m args below meth c H locs cells slots mc ms (F0 m pc ls st0) rest (va_Qd post B A1 a) (vx_X px BX AX) free) (hS : va_S A0 H0 H locs) (hA : ∀ q, q < H.size → A1 q → A0 q) (hf : ∀ q, free q → A0 q) (hAX : ∀ q, q < H.size → AX q → A0 q)
    (kx : ∀ (E : String) (ce : Cell) (q9 : Addr) (u : SX) (t : State) (H1 : Heap) (locs1 : List Loc), t.heap = H1 → s.vm.Alike t.vm → px u → BX E u t → H.size ≤ H1.size → (∀ q : Nat, q < H.size → ¬ AX q → H1[q]? = H[q]?) → va_S A0 H0 H1 locs1 → H1[q9]? = some ce → ce.vm = .none → s.vm.findClass E = some ce.cls → vx_W p l e R s m args below meth c H1 locs1 (cells + mc) (slots + ms) Q (F0 m pc ls rest) q9)
    (kk : ∀ (r : UInt64) (u : S) (t : State) (H1 : Heap) (locs1 : List Loc), t.heap = H1 → s.vm.Alike t.vm → post r u → B u t → H.size ≤ H1.size → (∀ q : Nat, q < H.size → ¬ A1 q → H1[q]? = H[q]?) → va_S A0 H0 H1 locs1 → W p l e R s m args below meth c H1 locs1 (cells + mc) (slots + ms) Q (F0 m (pc + 3) ls (.double r :: rest))) : W p l e R s m args below meth c H locs cells slots Q (F0 m pc ls st0) := by
  intro T hT X
  rcases hr T hT X with ⟨v, st₀, t, T', L, h0, X', hL, e1, e2, ⟨⟨r, u, hv, hp, hb⟩, hF⟩, st⟩ | ⟨q, st₀, t, T', L, E, ce, h0, X', hL, e1, e2, ⟨u, hp, hb, hF⟩, hce, hcv, hcl, st⟩
  · cases hv
    obtain ⟨k1, k2, k3⟩ := vx_keep h0 e1 hS hA hf hL hF
    obtain ⟨t2, a1, b1⟩ := kk r u t T'.heap (locs ++ L) e1.symm (by rw [← e2]; exact X'.warmed.alike) hp hb k1 k2 k3 T' rfl X'
    exact ⟨t2, st t2 a1, b1⟩
  · obtain ⟨k1, k2, k3⟩ := vx_keep h0 e1 hS hAX hf hL hF
    obtain ⟨t2, a1, b1⟩ := kx E ce q u t T'.heap (locs ++ L) e1.symm (by rw [← e2]; exact X'.warmed.alike) hp hb k1 k2 k3 (by rw [e1]; exact hce) hcv hcl T' rfl X'
    exact ⟨t2, st.trans a1, b1⟩
theorem vx_callv {S SX : Type} {post : S → Prop} {px : SX → Prop} {B : S → State → Prop} {BX : String → SX → State → Prop} {AX : Nat → Prop} (hr : vx_Run p l e R s m args below meth c H locs cells slots mc ms (F0 m pc ls st0) rest (va_Qv post B A1 a) (vx_X px BX AX) free) (hS : va_S A0 H0 H locs) (hA : ∀ q, q < H.size → A1 q → A0 q) (hf : ∀ q, free q → A0 q) (hAX : ∀ q, q < H.size → AX q → A0 q)
    (kx : ∀ (E : String) (ce : Cell) (q9 : Addr) (u : SX) (t : State) (H1 : Heap) (locs1 : List Loc), t.heap = H1 → s.vm.Alike t.vm → px u → BX E u t → H.size ≤ H1.size → (∀ q : Nat, q < H.size → ¬ AX q → H1[q]? = H[q]?) → va_S A0 H0 H1 locs1 → H1[q9]? = some ce → ce.vm = .none → s.vm.findClass E = some ce.cls → vx_W p l e R s m args below meth c H1 locs1 (cells + mc) (slots + ms) Q (F0 m pc ls rest) q9)
    (kk : ∀ (u : S) (t : State) (H1 : Heap) (locs1 : List Loc), t.heap = H1 → s.vm.Alike t.vm → post u → B u t → H.size ≤ H1.size → (∀ q : Nat, q < H.size → ¬ A1 q → H1[q]? = H[q]?) → va_S A0 H0 H1 locs1 → W p l e R s m args below meth c H1 locs1 (cells + mc) (slots + ms) Q (F0 m (pc + 3) ls (rest))) : W p l e R s m args below meth c H locs cells slots Q (F0 m pc ls st0) := by
  intro T hT X
  rcases hr T hT X with ⟨v, st₀, t, T', L, h0, X', hL, e1, e2, ⟨⟨u, hv, hp, hb⟩, hF⟩, st⟩ | ⟨q, st₀, t, T', L, E, ce, h0, X', hL, e1, e2, ⟨u, hp, hb, hF⟩, hce, hcv, hcl, st⟩
  · cases hv
    obtain ⟨k1, k2, k3⟩ := vx_keep h0 e1 hS hA hf hL hF
    obtain ⟨t2, a1, b1⟩ := kk u t T'.heap (locs ++ L) e1.symm (by rw [← e2]; exact X'.warmed.alike) hp hb k1 k2 k3 T' rfl X'
    exact ⟨t2, st t2 a1, b1⟩
  · obtain ⟨k1, k2, k3⟩ := vx_keep h0 e1 hS hAX hf hL hF
    obtain ⟨t2, a1, b1⟩ := kx E ce q u t T'.heap (locs ++ L) e1.symm (by rw [← e2]; exact X'.warmed.alike) hp hb k1 k2 k3 (by rw [e1]; exact hce) hcv hcl T' rfl X'
    exact ⟨t2, st.trans a1, b1⟩
/-- caught by the row x of this method's table; the rows ahead don't take it -/
theorem vx_catch {own name : String} {E : String} {ce : Cell} {q : Addr} (hown : s.vm.findClass own = some m.cls) (pre : List ExceptionTableEntry) (x : ExceptionTableEntry) (suf : List ExceptionTableEntry) (hsplit : c.exceptionTable.toList = pre ++ x :: suf)
    (hpass : ∀ z ∈ pre, covers z pc = false ∨ (z.catchType ≠ 0 ∧ ∃ nm : String, (Cond.classLink own z.catchType nm).before args s = true ∧ va_Nc E nm s)) (hx : covers x pc = true) (h0 : x.catchType ≠ 0)
    (hlink : (Cond.classLink own x.catchType name).before args s = true) (hcast : (Cond.castable E name).before args s = true) (hcell : H[q]? = some ce) (hv : ce.vm = .none) (hcl : s.vm.findClass E = some ce.cls)
    (kk : W p l e R s m args below meth c H locs cells slots Q (F0 m x.handlerPc ls [.ref q])) : vx_W p l e R s m args below meth c H locs cells slots Q (F0 m pc ls rest) q := by
  intro T hT X
  have hpl : e.platform.magicAccessors = ({} : Platform).magicAccessors := by rw [X.admits.platform]
  obtain ⟨c3, c4, hc3, hc4, hasg⟩ := Cond.castable_spec hcast
  cases Option.some.inj (hc3.symm.trans hcl)
  obtain ⟨c5, hc5, hcl5⟩ := Cond.classLink_spec hown hlink e.platform hpl
  cases Option.some.inj (hc4.symm.trans hc5)
  obtain ⟨vm', X', st⟩ := Jvm.Stand.thenCaughtThrough X q (g := F0 m pc ls rest) rfl (Steps.refl _) (by rw [hT]; exact hcell) (by rw [hv]; rfl) (by obtain ⟨k9, h9, -⟩ := Vm.findClass_spec hcl; exact ⟨k9, h9⟩) pre x suf hsplit
    (fun z hz => by
      rcases hpass z hz with h | ⟨hz0, nm, hl1, hn1⟩
      · exact Or.inl h
      · obtain ⟨c6, hc6, hcl6⟩ := Cond.classLink_spec hown hl1 e.platform hpl
        obtain ⟨a8, b8, h1, h2, h3⟩ := hn1
        cases Option.some.inj (h1.symm.trans hcl)
        cases Option.some.inj (h2.symm.trans hc6)
        exact Or.inr ⟨hz0, _, hcl6, h3⟩) hx (Or.inr ⟨h0, c4, hcl5, hasg⟩)
  obtain ⟨t, a1, b1⟩ := kk (T.setVm vm') hT X'
  exact ⟨t, st.trans a1, b1⟩
end Rows
section Ends
variable {p : Program} {l : Launch} {e : Env} {R : Room} {s : State} {m : MethodId} {args : Array Value} {below : List Frame} {meth : Method} {c : Code} {H : Heap} {locs : List Loc} {cells slots : Nat} {Q : State → Prop}
variable {mc ms : Nat} {free : Addr → Prop} {A0 A1 : Nat → Prop} {H0 : Heap} {a : Array Value} {ls : Array Slot} {st0 rest : List Value}
variable {Qc : Array Value → State → Outcome → State → Prop} {XC : String → State → State → Prop}
/-- what a body that may throw owes at its end -/
def vx_MQ (below : List Frame) (Qc : Array Value → State → Outcome → State → Prop) (XC : String → State → State → Prop) (a : Array Value) (s : State) (mc ms : Nat) (free : Addr → Prop) : State → Prop := fun t =>
  ∃ o, t.status = .running ∧ Ended t below o ∧ vx_Q Qc XC mc ms free a s o t
theorem vx_ret {g : JFrame} {mc ms : Nat} (k : W p l e R s m args below meth c H locs cells slots (MQ below Qc args s mc ms free) g) : W p l e R s m args below meth c H locs cells slots (vx_MQ below Qc XC args s mc ms free) g := by
  intro T hT X
  obtain ⟨t, a1, o, b1, b2, b3, b4⟩ := k T hT X
  exact ⟨t, a1, o, b1, b2, Or.inl ⟨b3, b4⟩⟩
/-- not caught here: it goes on to the caller -/
theorem vx_widen {g : JFrame} {q : Addr} {k n : Nat} (h1 : cells ≤ k) (h2 : slots ≤ n) (kk : vx_W p l e R s m args below meth c H locs k n Q g q) : vx_W p l e R s m args below meth c H locs cells slots Q g q := fun T hT X => kk T hT (stand_widen X h1 h2)
theorem vx_out {pc : Nat} {E : String} {ce : Cell} {q : Addr} {mc ms : Nat} (hout : ∀ x ∈ c.exceptionTable.toList, covers x pc = false) (hlocks : meth.locks = false) (hcell : H[q]? = some ce) (hv : ce.vm = .none) (hcl : s.vm.findClass E = some ce.cls)
    (hx : ∀ t : State, t.heap = H → s.vm.Alike t.vm → XC E s t) (hf : ∀ z ∈ locs, free z.base) (hc : cells ≤ mc) (hs : slots ≤ ms) :
    vx_W p l e R s m args below meth c H locs cells slots (vx_MQ below Qc XC args s mc ms free) (F0 m pc ls rest) q := by
  intro T hT X
  obtain ⟨st1, hrun, hend, hW, hsm⟩ := X.leaveThrown q (g := F0 m pc ls rest) rfl rfl rfl hout hlocks
  have hcell9 : (T.setFrames (.throwing q :: below)).heap[q]? = some ce := by
    show T.heap[q]? = some ce
    rw [hT]; exact hcell
  exact ⟨_, st1, .threw q, hrun, hend, Or.inr ⟨q, rfl, E, ce, locs, hx _ hT hW.alike, hcell9, hv, hcl, hW, hsm.mono hc hs, hf⟩⟩
theorem vx_frame {U : State} {k n : Nat} (h : s.sameButNew ({ U with vm := s.vm } : State) locs k n) : s.heap.size ≤ U.heap.size ∧ ∀ q : Nat, q < s.heap.size → (∀ z ∈ locs, z.base ≠ q) → U.heap[q]? = s.heap[q]? := by
  obtain ⟨-, h2, -, -, -, h6⟩ := h
  refine ⟨h2, fun q hq hz => ?_⟩
  obtain ⟨c9, e1, e2, e3, e4⟩ := h6 q _ (Array.getElem?_eq_getElem hq)
  have hs : c9.slots = (s.heap[q]).slots := Array.ext_getElem? fun i => e4 i fun hm => hz _ hm rfl
  have h9 : c9 = s.heap[q] := by
    rw [hs] at e2
    exact e2
  have e5 : U.heap[q]? = some c9 := e1
  rw [e5, h9, Array.getElem?_eq_getElem hq]
/-- the words of a throw but the four that speak of the heap -/
def vx_no (w : Cond) : Bool := decide (w ≠ .isRef (.static Bundle.tN "UNASSIGNED_STACK" Bundle.steD)) && decide (w ≠ .isRef (.static Bundle.tN "SUPPRESSED_SENTINEL" Bundle.listD)) && decide (w ≠ .laysStatic Bundle.tN "UNASSIGNED_STACK" Bundle.steD) && decide (w ≠ .laysStatic Bundle.tN "SUPPRESSED_SENTINEL" Bundle.listD)
def vx_at0 (own : String) (ic : Nat) (X : String) (names : List String) : List Cond := (Bundle.ownAtoms0 own ic X names).filter vx_no
def vx_atS (own : String) (ic : Nat) (X : String) (names : List String) : List Cond := (Bundle.ownAtoms own ic X names).filter vx_no
/-- a word that the tables alone decide, or a good one -/
def vx_ot (w : Cond) : Bool := w.onTables || goodWord w
theorem vx_ot_at {args a' : Array Value} {s U : State} {w : Cond} (hW : s.WarmedH U.vm) (hvm : s.vm = U.vm) (hg : vx_ot w = true) (h : w.before args s = true) : w.before a' U = true := by
  simp only [vx_ot, Bool.or_eq_true] at hg
  rcases hg with hg | hg
  · exact va_tabs hg hvm h
  · exact word_at hW (good_of_word hg) h
/-- a list's words: the good ones out of the method's own list, the others by premises of their own -/
theorem vx_hat {args : Array Value} {s : State} {L B : List Cond} (h1 : ∀ w ∈ L.filter goodWord, w.before args s = true) (h2 : ∀ w ∈ L.filter (fun w => !goodWord w), w ∈ B) (h3 : ∀ w ∈ B, w.before args s = true) : ∀ w ∈ L, w.before args s = true := by
  intro w hw
  by_cases g : goodWord w = true
  · exact h1 w (List.mem_filter.mpr ⟨hw, g⟩)
  · refine h3 w (h2 w (List.mem_filter.mpr ⟨hw, ?_⟩))
    show (!goodWord w) = true
    cases hgw : goodWord w
    · rfl
    · exact absurd hgw g
theorem vx_c {args : Array Value} {s : State} {w : Cond} {B : List Cond} (h : w.before args s = true) (t : ∀ w ∈ B, w.before args s = true) : ∀ w' ∈ w :: B, w'.before args s = true := fun w' h' => (List.mem_cons.mp h').elim (fun e => by rw [e]; exact h) (t w')
theorem vx_n {args : Array Value} {s : State} : ∀ w ∈ ([] : List Cond), w.before args s = true := fun _ h => nomatch h
theorem vx_own {args : Array Value} {s : State} {L : List Cond} (h1 : ∀ w ∈ L.filter vx_no, w.before args s = true)
    (hU : (Cond.isRef (.static Bundle.tN "UNASSIGNED_STACK" Bundle.steD)).before args s = true) (hN : (Cond.isRef (.static Bundle.tN "SUPPRESSED_SENTINEL" Bundle.listD)).before args s = true)
    (lU : (Cond.laysStatic Bundle.tN "UNASSIGNED_STACK" Bundle.steD).before args s = true) (lN : (Cond.laysStatic Bundle.tN "SUPPRESSED_SENTINEL" Bundle.listD).before args s = true) : ∀ w ∈ L, w.before args s = true := by
  intro w hw
  by_cases e1 : w = .isRef (.static Bundle.tN "UNASSIGNED_STACK" Bundle.steD)
  · rw [e1]; exact hU
  · by_cases e2 : w = .isRef (.static Bundle.tN "SUPPRESSED_SENTINEL" Bundle.listD)
    · rw [e2]; exact hN
    · by_cases e3 : w = .laysStatic Bundle.tN "UNASSIGNED_STACK" Bundle.steD
      · rw [e3]; exact lU
      · by_cases e4 : w = .laysStatic Bundle.tN "SUPPRESSED_SENTINEL" Bundle.listD
        · rw [e4]; exact lN
        · exact h1 w (List.mem_filter.mpr ⟨hw, by unfold vx_no; rw [decide_eq_true e1, decide_eq_true e2, decide_eq_true e3, decide_eq_true e4]; rfl⟩)
/-- where a static field lies, its class's statics cell in H -/
def vx_L (C n d : String) (A : Nat → Prop) (U : State) (H : Heap) : Prop := ∃ (c : ClassId) (k : Class) (i : Nat) (f : Field) (a : Nat) (cell : Cell), U.vm.findClass C = some c ∧ U.fieldFound? C n d = some (c, k, i, f) ∧ f.isStatic = true ∧ k.statics = some a ∧ H[a]? = some cell ∧ cell.vm.isStatics = true ∧ cell.cls = c ∧ f.slot < cell.slots.size ∧ k.staticTypes[f.slot]? = some f.type ∧ ¬ A a
theorem vx_L.moved {C n d : String} {A : Nat → Prop} {u U : State} {H : Heap} (hvm : u.vm.Alike U.vm) (h : vx_L C n d A u H) : vx_L C n d A U H := by
  obtain ⟨c, k, i, f, a, cell, h1, h2, h3, h4, h5, h6, h7, h8, h9, h10⟩ := h
  obtain ⟨k', hi', he⟩ := State.fieldFound?_setVm hvm h2
  exact ⟨c, k', i, f, a, cell, by rw [hvm.findClass]; exact h1, hi', h3, by rw [he]; exact h4, h5, h6, h7, h8, by rw [he]; exact h9, h10⟩
theorem vx_L.kept {C n d : String} {A : Nat → Prop} {U : State} {H H1 : Heap} (h : vx_L C n d A U H) (hq : ∀ a : Nat, a < H.size → ¬ A a → H1[a]? = H[a]?) : vx_L C n d A U H1 := by
  obtain ⟨c, k, i, f, a, cell, h1, h2, h3, h4, h5, h6, h7, h8, h9, h10⟩ := h
  exact ⟨c, k, i, f, a, cell, h1, h2, h3, h4, by rw [hq a (Array.getElem?_eq_some_iff.mp h5).1 h10]; exact h5, h6, h7, h8, h9, h10⟩
theorem vx_L.narrow {C n d : String} {A B : Nat → Prop} {U : State} {H : Heap} (h : vx_L C n d A U H) (hAB : ∀ q, B q → A q) : vx_L C n d B U H := by
  obtain ⟨c, k, i, f, a, cell, h1, h2, h3, h4, h5, h6, h7, h8, h9, h10⟩ := h
  exact ⟨c, k, i, f, a, cell, h1, h2, h3, h4, h5, h6, h7, h8, h9, fun z => h10 (hAB _ z)⟩
theorem vx_L.word {C n d : String} {A : Nat → Prop} {s : State} {args : Array Value} (h : vx_L C n d A s s.heap) : (Cond.laysStatic C n d).before args s = true := by
  obtain ⟨c, k, i, f, a, cell, h1, h2, h3, h4, h5, h6, h7, h8, h9, -⟩ := h
  show (Cond.laysStatic C n d).holds args s none s [] = true
  exact Cond.laysStatic_of h1 h2 h3 h4 h5 h6 h7 h8 h9
/-- .. and what it holds: null or some reference -/
def vx_Zq (C n d : String) (A : Nat → Prop) (U : State) (H : Heap) : Prop := va_Zq C n d A U H ∧ vx_L C n d A U H
theorem vx_Zq.moved {C n d : String} {A : Nat → Prop} {u U : State} {H : Heap} (hvm : u.vm.Alike U.vm) (h : vx_Zq C n d A u H) : vx_Zq C n d A U H := ⟨va_Zq.moved hvm h.1, vx_L.moved hvm h.2⟩
theorem vx_Zq.kept {C n d : String} {A : Nat → Prop} {U : State} {H H1 : Heap} (h : vx_Zq C n d A U H) (hq : ∀ a : Nat, a < H.size → ¬ A a → H1[a]? = H[a]?) : vx_Zq C n d A U H1 := ⟨va_Zq.kept h.1 hq, vx_L.kept h.2 hq⟩
theorem vx_Zq.narrow {C n d : String} {A B : Nat → Prop} {U : State} {H : Heap} (h : vx_Zq C n d A U H) (hAB : ∀ q, B q → A q) : vx_Zq C n d B U H := ⟨va_Zq.narrow h.1 hAB, vx_L.narrow h.2 hAB⟩
theorem vx_Zqof {args : Array Value} {s : State} {C n d : String} {A : Nat → Prop} (hl : (Cond.laysStatic C n d).before args s = true) (hini : (Cond.initialized C).before args s = true) (h : (Cond.isRef (.static C n d)).before args s = true) (hA : ∀ a : Nat, a < s.heap.size → ¬ A a) : vx_Zq C n d A s s.heap := by
  refine ⟨va_Zqof hl hini h hA, ?_⟩
  obtain ⟨c, k, i, f, a, cell, h1, h2, h3, h4, h5, h6, h7, h8, h9⟩ := Cond.laysStatic_spec hl
  exact ⟨c, k, i, f, a, cell, h1, h2, h3, h4, h5, h6, h7, h8, h9, hA a (Array.getElem?_eq_some_iff.mp h5).1⟩
theorem vx_isRef {C n d : String} {v : Value} {A : Nat → Prop} {s : State} {args : Array Value} (h : va_Z C n d v A s s.heap) (hv : v.isRef = true) : (Cond.isRef (.static C n d)).before args s = true := by
  obtain ⟨cf, kf, fi, f, a, cell, h1, h2, h3, h4, h5, h6, h7, -⟩ := h
  have he : (Term.static C n d).eval args s none [] s = some v := by
    simp [Term.eval, State.fieldNamed?, h1, h2, h4, h5, h6, h7]
  simp only [Cond.before, Cond.holds, Cond.value, he]
  cases v <;> simp_all [Value.isRef]
theorem vx_isRefq {C n d : String} {A : Nat → Prop} {s : State} {args : Array Value} (h : va_Zq C n d A s s.heap) : (Cond.isRef (.static C n d)).before args s = true := by
  rcases h with h | ⟨t, h⟩
  · exact vx_isRef h rfl
  · exact vx_isRef h rfl
/-- the same frame, seen from here: as if the method were called anew in this heap -/
theorem vx_rebase {T : State} (X : Stand p l e R s m args below meth c T locs cells slots) {R' : Room} (hf : R'.frames ≤ R.frames) (hl : R'.locals ≤ R.locals) (hc : cells + R'.cells ≤ R.cells) (hs : slots + R'.slots ≤ R.slots) :
    Stand p l e R' ((T.setVm s.vm).setFrames (.invoking m args :: below)) m args below meth c T [] 0 0 := by
  have htop : (T.setVm s.vm).topJava?.isSome := X.here.top
  have hF : ((T.setVm s.vm).setFrames (.invoking m args :: below)).frames = .invoking m args :: below := State.frames_setFrames _ (State.cur_lt_of_top htop)
  obtain ⟨g₀, hg0⟩ := Option.isSome_iff_exists.mp htop
  obtain ⟨r, hr⟩ := State.topJava?_eq_some.mp hg0
  have hl9 : e.platform.stackLimits (T.setVm s.vm).me = e.platform.stackLimits s.me := X.limits
  have hb9 : (T.setVm s.vm).me.stackBytes = s.me.stackBytes := X.bytes
  refine ⟨X.admits, X.cas, X.clock, hF, ?_, X.hears, X.method, X.code, X.here, X.tail, X.warmed, ?_, ?_, ?_⟩
  · have h := X.room
    have hU : ((T.setVm s.vm).setFrames (.invoking m args :: below)).localsInUse = s.localsInUse := by
      rw [State.localsInUse_invoking hF (meth := meth) (c := c) X.method X.code, State.localsInUse_invoking X.frames X.method X.code]
    simp only [State.hasRoom, Bool.and_eq_true, decide_eq_true_eq] at h ⊢
    obtain ⟨⟨⟨⟨h1, h2, h3, h4, h5, h6⟩, h7⟩, h8⟩, h9⟩ := h
    rw [X.frames, List.length_cons] at h2 h3
    have q1 := X.heapSize
    have q2 := X.used
    simp only [hF, hU, List.length_cons, State.stackLimits_setFrames, State.stackBytes_setFrames, hl9, hb9]
    refine ⟨⟨⟨⟨by omega, by omega, by omega, by omega, by omega, h6⟩, ?_⟩, ?_⟩, X.book⟩
    · show T.heap.size + R'.cells ≤ e.platform.maxCells
      omega
    · show T.slotsUsed + R'.slots ≤ e.platform.maxSlots
      omega
  · rw [State.stackLimits_setFrames]; rfl
  · rw [State.stackBytes_setFrames]; rfl
  · refine ⟨?_, Nat.le_refl _, Nat.le_refl _, ?_, ?_, fun a c9 h9 => ⟨c9, h9, rfl, rfl, fun _ _ => rfl⟩⟩
    · obtain ⟨t, ht, -⟩ := State.frames_cons hr
      show T.setVm s.vm = { ((T.setVm s.vm).setFrames (.invoking m args :: below)).setFrames (T.setVm s.vm).frames with heap := T.heap, slotsUsed := T.slotsUsed }
      rw [State.setFrames_setFrames, State.setFrames_self ht]
      rfl
    · show T.slotsUsed = T.slotsUsed + ((T.heap.toList.drop T.heap.size).map (·.slots.size)).sum
      rw [List.drop_eq_nil_of_le (Nat.le_of_eq Array.length_toList)]
      rfl
    · show ((T.heap.toList.drop T.heap.size).map (·.slots.size)).sum ≤ 0
      rw [List.drop_eq_nil_of_le (Nat.le_of_eq Array.length_toList)]
      exact Nat.le_refl _
/-- 'throw new E()': new; dup; invokespecial; athrow -/
theorem vx_throw0 {cc : ByteArray} {pc : Nat} (hexec : p.tables.exec = Jvm.exec) (hb : c.code = cc) (hl : l.stackTraces = false) {own cls : String} {names : List String} {ik ic mc ms : Nat} {A : Nat → Prop}
    (hown : s.vm.findClass own = some m.cls) (hcls : Bundle.fit cls = true) (hnames : ∀ n ∈ names, Bundle.fit n = true)
    (hk : (Cond.classLink own ik cls).before args s = true) (hini : (Cond.initialized cls).before args s = true) (hat : ∀ w ∈ vx_at0 own ic cls names, w.before args s = true)
    (hgood : ∀ w ∈ Cond.classLink own ik cls :: Cond.initialized cls :: vx_at0 own ic cls names, vx_ot w = true)
    (hU : vx_Zq Bundle.tN "UNASSIGNED_STACK" Bundle.steD A s s.heap) (hN : vx_Zq Bundle.tN "SUPPRESSED_SENTINEL" Bundle.listD A s s.heap) (hS : va_S A s.heap H locs) (hsize : ls.size = c.maxLocals)
    (d0 : decode cc pc = .ok (.new ik, 3)) (d3 : decode cc (pc + 3) = .ok (.dup, 1)) (d4 : decode cc (pc + 4) = .ok (.invokespecial ic, 3)) (d7 : decode cc (pc + 7) = .ok (.athrow, 1))
    (hout : ∀ x ∈ c.exceptionTable.toList, covers x (pc + 7) = false)
    (hRframes : names.length + 3 < R.frames) (hRlocals : (rest.map fun v => v.category).sum + (13 * (names.length + 1) + 42) ≤ R.locals) (hRcells : cells + 1 ≤ R.cells) (hRslots : slots + 6 ≤ R.slots) (hlocks : meth.locks = false)
    (hx : ∀ t : State, s.vm.Alike t.vm → H.size ≤ t.heap.size → (∀ q : Nat, q < H.size → t.heap[q]? = H[q]?) → XC cls s t)
    (hf : ∀ z ∈ locs, free z.base) (hc : cells + 1 ≤ mc) (hs : slots + 6 ≤ ms) :
    W p l e R s m args below meth c H locs cells slots (vx_MQ below Qc XC args s mc ms free) (F0 m pc ls rest) := by
  intro T hT X
  have htr : e.platform.stackTraces = false := (show e.platform.stackTraces = l.stackTraces by rw [X.admits.platform]).trans hl
  have Y := vx_rebase X (R' := { frames := R.frames, locals := R.locals, cells := 1, slots := 6 }) (Nat.le_refl _) (Nat.le_refl _) hRcells hRslots
  obtain ⟨s', hA⟩ : ∃ z, z = (T.setVm s.vm).setFrames (.invoking m args :: below) := ⟨_, rfl⟩
  rw [← hA] at Y
  have hvm : s'.vm = s.vm := by rw [hA]; rfl
  have hhp : s'.heap = H := by rw [hA]; exact hT
  have hW0 : s.WarmedH s'.vm := by rw [hvm]; exact State.WarmedH.refl s
  have hat' : ∀ w ∈ vx_at0 own ic cls names, w.before args s' = true := fun w hw => vx_ot_at hW0 hvm.symm (hgood w (List.mem_cons_of_mem _ (List.mem_cons_of_mem _ hw))) (hat w hw)
  have hk' : (Cond.classLink own ik cls).before args s' = true := vx_ot_at hW0 hvm.symm (hgood _ List.mem_cons_self) hk
  have hini' : (Cond.initialized cls).before args s' = true := vx_ot_at hW0 hvm.symm (hgood _ (List.mem_cons_of_mem _ List.mem_cons_self)) hini
  have hU' : vx_Zq Bundle.tN "UNASSIGNED_STACK" Bundle.steD A s' s'.heap := by rw [hhp]; exact vx_Zq.moved hW0.alike (hU.kept hS.2.1)
  have hN' : vx_Zq Bundle.tN "SUPPRESSED_SENTINEL" Bundle.listD A s' s'.heap := by rw [hhp]; exact vx_Zq.moved hW0.alike (hN.kept hS.2.1)
  have h : ∀ w ∈ Bundle.ownAtoms0 own ic cls names, w.before args s' = true := vx_own hat' (vx_isRefq hU'.1) (vx_isRefq hN'.1) hU'.2.word hN'.2.word
  have hown' : s'.vm.findClass own = some m.cls := by rw [hvm]; exact hown
  have hins : (Cond.instantiable cls 6).before args s' = true := h _ (by simp [Bundle.ownAtoms0])
  obtain ⟨vm₁, cX, kX, hfX, hkX, -, -, X₁, st1⟩ := Y.newCold hexec (own := own) (C := cls) (index := ik) (n := 6) hown' hk' hins hini'
    (g := F0 m pc ls rest) rfl (by rw [hb]; exact d0) (Nat.le_refl _) (Nat.le_refl _)
  generalize hT1 : (T.setVm vm₁).pushCell { cls := cX, slots := kX.instanceTypes.map defaultValue, vm := .none } = T1 at X₁ st1
  have hcat : (Value.ref T.heap.size).category = 1 := rfl
  have hcellA : T1.heap[T.heap.size]? = some (freshCell cX kX) := by rw [← hT1]; exact State.heap_pushCell_size _ _
  have d3' : decode c.code (pc + 3) = .ok (.dup, 1) := by rw [hb]; exact d3
  obtain ⟨U, hsteps, hrun, hend, hW, hsame, ce, hce, hO⟩ := X₁.ctorThrow0 hexec htr (own := own) (cls := cls) (names := names) (ic := ic) hown' hcls hnames h (fun x hx => nomatch hx) hfX hkX hcellA (by rw [hhp, hT]; exact Nat.le_refl _)
    (g := { method := m, pc := pc + 4, locals := ls, stack := .ref T.heap.size :: .ref T.heap.size :: rest, locked := none }) rfl hsize rfl rfl (rest := rest) rfl
    (by rw [hb]; exact d4) (by rw [hb]; exact d7) hout hRframes (by simp only [List.map_cons, List.sum_cons, hcat]; omega) hlocks
  obtain ⟨f1, f2⟩ := vx_frame hsame
  rw [hhp] at f1 f2
  have hWs : s.WarmedH U.vm := State.WarmedH.trans hW0 hW
  have hcl : s.vm.findClass cls = some ce.cls := by
    have h9 := hO.cls
    rw [hvm] at h9
    exact h9
  have hall : s.sameButNew ({ U with vm := s.vm } : State) locs mc ms := by
    subst hA
    obtain ⟨e1, e2⟩ := hsame
    rw [State.setFrames_setFrames] at e1
    have h2 : (T.setVm s.vm).sameButNew ({ U with vm := s.vm } : State) [] (0 + 1) (0 + 6) := ⟨e1, e2⟩
    have h3 := X.same.trans h2
    rw [List.append_nil] at h3
    exact h3.mono hc hs
  refine ⟨U, ?_, .threw T.heap.size, hrun, hend, Or.inr ⟨T.heap.size, rfl, cls, ce, locs, hx U hWs.alike f1 (fun q hq => f2 q hq (fun z hz => nomatch hz)), hce, hO.vm, hcl, hWs, hall, hf⟩⟩
  refine st1 _ ?_
  show Steps p.tables e below (T1.setTop { method := m, pc := pc + 3, locals := ls, stack := .ref T.heap.size :: rest, locked := none }) _
  jvm_step X₁.here [X₁.here.top, hexec, d3', Value.category]
  exact hsteps
/-- 'throw new E("text")': new; dup; ldc; invokespecial; athrow -/
theorem vx_throwS {cc : ByteArray} {pc : Nat} (hexec : p.tables.exec = Jvm.exec) (hb : c.code = cc) (hl : l.stackTraces = false) {own cls text : String} {names : List String} {ik is ic mc ms sa : Nat} {A : Nat → Prop}
    (hown : s.vm.findClass own = some m.cls) (hcls : Bundle.fit cls = true) (hnames : ∀ n ∈ names, Bundle.fit n = true)
    (hk : (Cond.classLink own ik cls).before args s = true) (hini : (Cond.initialized cls).before args s = true) (hstr : vk_R own is text sa s) (hat : ∀ w ∈ vx_atS own ic cls names, w.before args s = true)
    (hgood : ∀ w ∈ Cond.classLink own ik cls :: Cond.initialized cls :: vx_atS own ic cls names, vx_ot w = true)
    (hU : vx_Zq Bundle.tN "UNASSIGNED_STACK" Bundle.steD A s s.heap) (hN : vx_Zq Bundle.tN "SUPPRESSED_SENTINEL" Bundle.listD A s s.heap) (hS : va_S A s.heap H locs) (hsize : ls.size = c.maxLocals)
    (d0 : decode cc pc = .ok (.new ik, 3)) (d3 : decode cc (pc + 3) = .ok (.dup, 1)) (d4 : decode cc (pc + 4) = .ok (.ldc is, 2)) (d6 : decode cc (pc + 6) = .ok (.invokespecial ic, 3)) (d9 : decode cc (pc + 9) = .ok (.athrow, 1))
    (hout : ∀ x ∈ c.exceptionTable.toList, covers x (pc + 9) = false)
    (hRframes : names.length + 3 < R.frames) (hRlocals : (rest.map fun v => v.category).sum + (13 * (names.length + 1) + 43) ≤ R.locals) (hRcells : cells + 1 ≤ R.cells) (hRslots : slots + 6 ≤ R.slots) (hlocks : meth.locks = false)
    (hx : ∀ t : State, s.vm.Alike t.vm → H.size ≤ t.heap.size → (∀ q : Nat, q < H.size → t.heap[q]? = H[q]?) → XC cls s t)
    (hf : ∀ z ∈ locs, free z.base) (hc : cells + 1 ≤ mc) (hs : slots + 6 ≤ ms) :
    W p l e R s m args below meth c H locs cells slots (vx_MQ below Qc XC args s mc ms free) (F0 m pc ls rest) := by
  intro T hT X
  have htr : e.platform.stackTraces = false := (show e.platform.stackTraces = l.stackTraces by rw [X.admits.platform]).trans hl
  have Y := vx_rebase X (R' := { frames := R.frames, locals := R.locals, cells := 1, slots := 6 }) (Nat.le_refl _) (Nat.le_refl _) hRcells hRslots
  obtain ⟨s', hA⟩ : ∃ z, z = (T.setVm s.vm).setFrames (.invoking m args :: below) := ⟨_, rfl⟩
  rw [← hA] at Y
  have hvm : s'.vm = s.vm := by rw [hA]; rfl
  have hhp : s'.heap = H := by rw [hA]; exact hT
  have hW0 : s.WarmedH s'.vm := by rw [hvm]; exact State.WarmedH.refl s
  have hat' : ∀ w ∈ vx_atS own ic cls names, w.before args s' = true := fun w hw => vx_ot_at hW0 hvm.symm (hgood w (List.mem_cons_of_mem _ (List.mem_cons_of_mem _ hw))) (hat w hw)
  have hk' : (Cond.classLink own ik cls).before args s' = true := vx_ot_at hW0 hvm.symm (hgood _ List.mem_cons_self) hk
  have hini' : (Cond.initialized cls).before args s' = true := vx_ot_at hW0 hvm.symm (hgood _ (List.mem_cons_of_mem _ List.mem_cons_self)) hini
  have hU' : vx_Zq Bundle.tN "UNASSIGNED_STACK" Bundle.steD A s' s'.heap := by rw [hhp]; exact vx_Zq.moved hW0.alike (hU.kept hS.2.1)
  have hN' : vx_Zq Bundle.tN "SUPPRESSED_SENTINEL" Bundle.listD A s' s'.heap := by rw [hhp]; exact vx_Zq.moved hW0.alike (hN.kept hS.2.1)
  have h : ∀ w ∈ Bundle.ownAtoms own ic cls names, w.before args s' = true := vx_own hat' (vx_isRefq hU'.1) (vx_isRefq hN'.1) hU'.2.word hN'.2.word
  have hown' : s'.vm.findClass own = some m.cls := by rw [hvm]; exact hown
  have hins : (Cond.instantiable cls 6).before args s' = true := h _ (by simp [Bundle.ownAtoms])
  obtain ⟨vm₁, cX, kX, hfX, hkX, -, -, X₁, st1⟩ := Y.newCold hexec (own := own) (C := cls) (index := ik) (n := 6) hown' hk' hins hini'
    (g := F0 m pc ls rest) rfl (by rw [hb]; exact d0) (Nat.le_refl _) (Nat.le_refl _)
  generalize hT1 : (T.setVm vm₁).pushCell { cls := cX, slots := kX.instanceTypes.map defaultValue, vm := .none } = T1 at X₁ st1
  have hcat : (Value.ref T.heap.size).category = 1 := rfl
  have hcellA : T1.heap[T.heap.size]? = some (freshCell cX kX) := by rw [← hT1]; exact State.heap_pushCell_size _ _
  have d3' : decode c.code (pc + 3) = .ok (.dup, 1) := by rw [hb]; exact d3
  have d4' : decode c.code (pc + 4) = .ok (.ldc is, 2) := by rw [hb]; exact d4
  have hstr' : vk_R own is text sa s' := vk_R.warm hW0 hstr
  obtain ⟨U, hsteps, hrun, hend, hW, hsame, ce, hce, hO⟩ := X₁.ctorThrowS hexec htr (own := own) (cls := cls) (names := names) (ic := ic) hown' hcls hnames h (fun x hx => nomatch hx) hfX hkX hcellA (by rw [hhp, hT]; exact Nat.le_refl _) (msg := .ref sa) rfl
    (g := { method := m, pc := pc + 6, locals := ls, stack := .ref sa :: .ref T.heap.size :: .ref T.heap.size :: rest, locked := none }) rfl hsize rfl rfl (rest := rest) rfl
    (by rw [hb]; exact d6) (by rw [hb]; exact d9) hout hRframes (by simp only [List.map_cons, List.sum_cons, hcat]; omega) hlocks
  obtain ⟨f1, f2⟩ := vx_frame hsame
  rw [hhp] at f1 f2
  have hWs : s.WarmedH U.vm := State.WarmedH.trans hW0 hW
  have hcl : s.vm.findClass cls = some ce.cls := by
    have h9 := hO.cls
    rw [hvm] at h9
    exact h9
  have hall : s.sameButNew ({ U with vm := s.vm } : State) locs mc ms := by
    subst hA
    obtain ⟨e1, e2⟩ := hsame
    rw [State.setFrames_setFrames] at e1
    have h2 : (T.setVm s.vm).sameButNew ({ U with vm := s.vm } : State) [] (0 + 1) (0 + 6) := ⟨e1, e2⟩
    have h3 := X.same.trans h2
    rw [List.append_nil] at h3
    exact h3.mono hc hs
  refine ⟨U, ?_, .threw T.heap.size, hrun, hend, Or.inr ⟨T.heap.size, rfl, cls, ce, locs, hx U hWs.alike f1 (fun q hq => f2 q hq (fun z hz => nomatch hz)), hce, hO.vm, hcl, hWs, hall, hf⟩⟩
  refine st1 _ ?_
  show Steps p.tables e below (T1.setTop { method := m, pc := pc + 3, locals := ls, stack := .ref T.heap.size :: rest, locked := none }) _
  jvm_step X₁.here [X₁.here.top, hexec, d3', Value.category]
  exact X₁.ldcString hexec (own := own) (text := text) (index := is) (a := sa) hown' hstr'.1 hstr'.2
    (g := { method := m, pc := pc + 4, locals := ls, stack := .ref T.heap.size :: .ref T.heap.size :: rest, locked := none }) rfl d4' _ hsteps
/-- 'throw new E("text")', the text by a wide index -/
theorem vx_throwSW {cc : ByteArray} {pc : Nat} (hexec : p.tables.exec = Jvm.exec) (hb : c.code = cc) (hl : l.stackTraces = false) {own cls text : String} {names : List String} {ik is ic mc ms sa : Nat} {A : Nat → Prop}
    (hown : s.vm.findClass own = some m.cls) (hcls : Bundle.fit cls = true) (hnames : ∀ n ∈ names, Bundle.fit n = true)
    (hk : (Cond.classLink own ik cls).before args s = true) (hini : (Cond.initialized cls).before args s = true) (hstr : vk_R own is text sa s) (hat : ∀ w ∈ vx_atS own ic cls names, w.before args s = true)
    (hgood : ∀ w ∈ Cond.classLink own ik cls :: Cond.initialized cls :: vx_atS own ic cls names, vx_ot w = true)
    (hU : vx_Zq Bundle.tN "UNASSIGNED_STACK" Bundle.steD A s s.heap) (hN : vx_Zq Bundle.tN "SUPPRESSED_SENTINEL" Bundle.listD A s s.heap) (hS : va_S A s.heap H locs) (hsize : ls.size = c.maxLocals)
    (d0 : decode cc pc = .ok (.new ik, 3)) (d3 : decode cc (pc + 3) = .ok (.dup, 1)) (d4 : decode cc (pc + 4) = .ok (.ldc_w is, 3)) (d7 : decode cc (pc + 7) = .ok (.invokespecial ic, 3)) (d10 : decode cc (pc + 10) = .ok (.athrow, 1))
    (hout : ∀ x ∈ c.exceptionTable.toList, covers x (pc + 10) = false)
    (hRframes : names.length + 3 < R.frames) (hRlocals : (rest.map fun v => v.category).sum + (13 * (names.length + 1) + 43) ≤ R.locals) (hRcells : cells + 1 ≤ R.cells) (hRslots : slots + 6 ≤ R.slots) (hlocks : meth.locks = false)
    (hx : ∀ t : State, s.vm.Alike t.vm → H.size ≤ t.heap.size → (∀ q : Nat, q < H.size → t.heap[q]? = H[q]?) → XC cls s t)
    (hf : ∀ z ∈ locs, free z.base) (hc : cells + 1 ≤ mc) (hs : slots + 6 ≤ ms) :
    W p l e R s m args below meth c H locs cells slots (vx_MQ below Qc XC args s mc ms free) (F0 m pc ls rest) := by
  intro T hT X
  have htr : e.platform.stackTraces = false := (show e.platform.stackTraces = l.stackTraces by rw [X.admits.platform]).trans hl
  have Y := vx_rebase X (R' := { frames := R.frames, locals := R.locals, cells := 1, slots := 6 }) (Nat.le_refl _) (Nat.le_refl _) hRcells hRslots
  obtain ⟨s', hA⟩ : ∃ z, z = (T.setVm s.vm).setFrames (.invoking m args :: below) := ⟨_, rfl⟩
  rw [← hA] at Y
  have hvm : s'.vm = s.vm := by rw [hA]; rfl
  have hhp : s'.heap = H := by rw [hA]; exact hT
  have hW0 : s.WarmedH s'.vm := by rw [hvm]; exact State.WarmedH.refl s
  have hat' : ∀ w ∈ vx_atS own ic cls names, w.before args s' = true := fun w hw => vx_ot_at hW0 hvm.symm (hgood w (List.mem_cons_of_mem _ (List.mem_cons_of_mem _ hw))) (hat w hw)
  have hk' : (Cond.classLink own ik cls).before args s' = true := vx_ot_at hW0 hvm.symm (hgood _ List.mem_cons_self) hk
  have hini' : (Cond.initialized cls).before args s' = true := vx_ot_at hW0 hvm.symm (hgood _ (List.mem_cons_of_mem _ List.mem_cons_self)) hini
  have hU' : vx_Zq Bundle.tN "UNASSIGNED_STACK" Bundle.steD A s' s'.heap := by rw [hhp]; exact vx_Zq.moved hW0.alike (hU.kept hS.2.1)
  have hN' : vx_Zq Bundle.tN "SUPPRESSED_SENTINEL" Bundle.listD A s' s'.heap := by rw [hhp]; exact vx_Zq.moved hW0.alike (hN.kept hS.2.1)
  have h : ∀ w ∈ Bundle.ownAtoms own ic cls names, w.before args s' = true := vx_own hat' (vx_isRefq hU'.1) (vx_isRefq hN'.1) hU'.2.word hN'.2.word
  have hown' : s'.vm.findClass own = some m.cls := by rw [hvm]; exact hown
  have hins : (Cond.instantiable cls 6).before args s' = true := h _ (by simp [Bundle.ownAtoms])
  obtain ⟨vm₁, cX, kX, hfX, hkX, -, -, X₁, st1⟩ := Y.newCold hexec (own := own) (C := cls) (index := ik) (n := 6) hown' hk' hins hini'
    (g := F0 m pc ls rest) rfl (by rw [hb]; exact d0) (Nat.le_refl _) (Nat.le_refl _)
  generalize hT1 : (T.setVm vm₁).pushCell { cls := cX, slots := kX.instanceTypes.map defaultValue, vm := .none } = T1 at X₁ st1
  have hcat : (Value.ref T.heap.size).category = 1 := rfl
  have hcellA : T1.heap[T.heap.size]? = some (freshCell cX kX) := by rw [← hT1]; exact State.heap_pushCell_size _ _
  have d3' : decode c.code (pc + 3) = .ok (.dup, 1) := by rw [hb]; exact d3
  have d4' : decode c.code (pc + 4) = .ok (.ldc_w is, 3) := by rw [hb]; exact d4
  have hstr' : vk_R own is text sa s' := vk_R.warm hW0 hstr
  obtain ⟨U, hsteps, hrun, hend, hW, hsame, ce, hce, hO⟩ := X₁.ctorThrowS hexec htr (own := own) (cls := cls) (names := names) (ic := ic) hown' hcls hnames h (fun x hx => nomatch hx) hfX hkX hcellA (by rw [hhp, hT]; exact Nat.le_refl _) (msg := .ref sa) rfl
    (g := { method := m, pc := pc + 7, locals := ls, stack := .ref sa :: .ref T.heap.size :: .ref T.heap.size :: rest, locked := none }) rfl hsize rfl rfl (rest := rest) rfl
    (by rw [hb]; exact d7) (by rw [hb]; exact d10) hout hRframes (by simp only [List.map_cons, List.sum_cons, hcat]; omega) hlocks
  obtain ⟨f1, f2⟩ := vx_frame hsame
  rw [hhp] at f1 f2
  have hWs : s.WarmedH U.vm := State.WarmedH.trans hW0 hW
  have hcl : s.vm.findClass cls = some ce.cls := by
    have h9 := hO.cls
    rw [hvm] at h9
    exact h9
  have hall : s.sameButNew ({ U with vm := s.vm } : State) locs mc ms := by
    subst hA
    obtain ⟨e1, e2⟩ := hsame
    rw [State.setFrames_setFrames] at e1
    have h2 : (T.setVm s.vm).sameButNew ({ U with vm := s.vm } : State) [] (0 + 1) (0 + 6) := ⟨e1, e2⟩
    have h3 := X.same.trans h2
    rw [List.append_nil] at h3
    exact h3.mono hc hs
  refine ⟨U, ?_, .threw T.heap.size, hrun, hend, Or.inr ⟨T.heap.size, rfl, cls, ce, locs, hx U hWs.alike f1 (fun q hq => f2 q hq (fun z hz => nomatch hz)), hce, hO.vm, hcl, hWs, hall, hf⟩⟩
  refine st1 _ ?_
  show Steps p.tables e below (T1.setTop { method := m, pc := pc + 3, locals := ls, stack := .ref T.heap.size :: rest, locked := none }) _
  jvm_step X₁.here [X₁.here.top, hexec, d3', Value.category]
  exact X₁.ldcStringW hexec (own := own) (text := text) (index := is) (a := sa) hown' hstr'.1 hstr'.2
    (g := { method := m, pc := pc + 4, locals := ls, stack := .ref T.heap.size :: .ref T.heap.size :: rest, locked := none }) rfl d4' _ hsteps
end Ends
section Bodies
variable {l : Launch}
theorem vx_ofW {y : MethodName} {ws ws' : List Cond} {rm : Room} {Pc : Array Value → State → Prop} {Qc : Array Value → State → Outcome → State → Prop} {XC : String → State → State → Prop} {mc ms : Nat} {free : Addr → Prop} {cc : ByteArray} {maxL : Nat} {ret : Option FieldType}
    (hy : plainName y.cls = true) (hw : ws = Cond.code y cc maxL ret :: ws')
    (body : ∀ p e s m args below meth c s₁, BodyLoose p l y (headSpec ws rm) cc maxL ret e s m args below meth c s₁ → c.maxLocals = maxL → (∀ x ∈ c.exceptionTable.toList, False) → Pc args s →
      W p l e (headSpec ws rm).room s m args below meth c s.heap [] 0 0 (vx_MQ below Qc XC args s mc ms free) (entryFrame m args maxL)) : vx_Met l y ws rm Pc Qc XC mc ms free := by
  refine MetFree.of_bodyS (code := cc) (maxLocals := maxL) (ret := ret) hy ?_ ?_
  · intro args s m h hn
    obtain ⟨meth, c, h1, h2, h3, h4, h5, h6, -, -⟩ := Cond.code_spec hn (atoms_spec (ws := ws) h _ (by rw [hw]; exact List.mem_cons_self))
    exact ⟨meth, c, h1, h2, h3, h4, h5, h6⟩
  · intro p e s m args below meth c s₁ B hml hP _
    have hh0 : s₁.heap = s.heap := by rw [B.state]; rfl
    have ht : ∀ x ∈ c.exceptionTable.toList, False := by
      obtain ⟨meth9, c9, h1, h2, -, -, -, -, h7, -⟩ := Cond.code_spec B.named (atoms_spec (ws := ws) B.pre _ (by rw [hw]; exact List.mem_cons_self))
      cases Option.some.inj (h1.symm.trans B.method)
      cases Option.some.inj (h2.symm.trans (Stand.of_body B).code)
      intro x hx
      rw [Array.isEmpty_iff.mp h7] at hx
      cases hx
    obtain ⟨t, a1, o, b1, b2, b3⟩ := body p e s m args below meth c s₁ B hml ht hP s₁ hh0 (Stand.of_body B)
    exact ⟨t, o, a1, b1, b2, b3⟩
/-- the table of a body with handlers -/
theorem vx_table {p : Program} {x y : MethodName} {S : Spec} {cc bytes : ByteArray} {maxL maxL' : Nat} {ret ret' : Option FieldType} {e : Env} {s s₁ : State} {m : MethodId} {args : Array Value} {below : List Frame} {meth : Method} {c : Code} {hh : List (Nat × Nat × Nat × Nat)}
    (B : BodyLoose p l y S cc maxL ret e s m args below meth c s₁) (h : (Cond.codeWith y bytes maxL' ret' hh).before args s = true) : c.exceptionTable.toList = tableOf hh := by
  obtain ⟨m9, meth9, c9, hn9, h1, h2, -, -, h6, -⟩ := Cond.codeWith_spec h
  cases Option.some.inj (hn9.symm.trans B.named)
  cases Option.some.inj (h1.symm.trans B.method)
  cases Option.some.inj (h2.symm.trans (Stand.of_body B).code)
  rw [← h6, table_eq]
end Bodies
end VXA
/-! ===== END ===== -/
/-! ===== BEGIN a static call of a method with an exception table ===== -/
section VXS
variable {p : Program} {l : Launch} {e : Env} {R : Room} {s : State} {m : MethodId} {args : Array Value} {below : List Frame} {meth : Method} {c : Code} {T : State} {H : Heap} {locs : List Loc} {cells slots : Nat}
abbrev vx_CSW (R : Room) (s : State) (args : Array Value) (own : String) (index : Nat) (y : MethodName) (bytes : ByteArray) (maxL : Nat) (ret : Option FieldType) (hh : List (Nat × Nat × Nat × Nat)) (ws : List Cond) (rm : Room) (mc ms n : Nat) : Prop :=
  (rm.cells = mc ∧ rm.slots = ms ∧ rm.frames + 1 ≤ R.frames ∧ 8 + (maxL + 11) + rm.locals ≤ R.locals ∧ (∀ w ∈ ws, ∀ (a' : Array Value) (U : State), s.WarmedH U.vm → w.before a' U = true) ∧ Cond.codeWith y bytes maxL ret hh ∈ ws) ∧
  (Cond.codeWith y bytes maxL ret hh).before args s = true ∧ (Cond.initialized y.cls).before args s = true ∧ (y.cls ≠ "java/lang/invoke/MethodHandle" ∧ y.cls ≠ "java/lang/invoke/VarHandle") ∧
  (∀ sig, parseMethodDescriptor y.desc = some sig → n = sig.parameters.length) ∧ (Cond.methodLink own index y).before args s = true ∧ (Cond.static y).before args s = true
theorem vx_cwSW {own : String} {index maxL mc ms : Nat} {y : MethodName} {bytes : ByteArray} {ret : Option FieldType} {hh : List (Nat × Nat × Nat × Nat)} {Ts ws ws' : List Cond} {rm : Room} (n : Nat) (ht : ∀ w ∈ Ts, w.before args s = true) (hT : GoodIn Ts (va_wsS own index y ws)) (hw : ws = Cond.codeWith y bytes maxL ret hh :: ws') (hrc : rm.cells = mc) (hrs : rm.slots = ms)
    (hd : y.cls ≠ "java/lang/invoke/MethodHandle" ∧ y.cls ≠ "java/lang/invoke/VarHandle" ∧ (parseMethodDescriptor y.desc).map (fun d => d.parameters.length) = some n) (hR : rm.frames + 1 ≤ R.frames ∧ 8 + (maxL + 11) + rm.locals ≤ R.locals) :
    vx_CSW R s args own index y bytes maxL ret hh ws rm mc ms n := by
  have ok : ∀ w ∈ va_wsS own index y ws, w.before args s = true := fun w h => ht w (hT w h).1
  have hG : GoodIn Ts ws := fun w h => hT w (by unfold va_wsS; exact List.mem_append_right _ h)
  have hc : Cond.codeWith y bytes maxL ret hh ∈ ws := by rw [hw]; exact List.mem_cons_self
  refine ⟨⟨hrc, hrs, hR.1, hR.2, pay_in ht hG, hc⟩, ht _ (hG _ hc).1, ok _ (by simp [va_wsS]), ⟨hd.1, hd.2.1⟩, fun sig h => ?_, ok _ (by simp [va_wsS]), ok _ (by simp [va_wsS])⟩
  have h2 := hd.2.2
  rw [h] at h2
  exact (Option.some.inj h2).symm
theorem vx_callSW (X : Stand p l e R s m args below meth c T locs cells slots) (hexec : p.tables.exec = Jvm.exec) {own : String} {index : Nat} {y : MethodName} {bytes : ByteArray} {maxL : Nat} {ret : Option FieldType} {hh : List (Nat × Nat × Nat × Nat)}
    (hown : s.vm.findClass own = some m.cls) (hlink : (Cond.methodLink own index y).before args s = true) (hstat : (Cond.static y).before args s = true) (hinit : (Cond.initialized y.cls).before args s = true)
    (hcode : (Cond.codeWith y bytes maxL ret hh).before args s = true) (hy : y.cls ≠ "java/lang/invoke/MethodHandle" ∧ y.cls ≠ "java/lang/invoke/VarHandle")
    {W9 : Nat} {Pre : Pt → Array Value → Prop} {Post : Pt → Array Value → Option Value → Pt → Prop} (hK : Back l R p e below s args y 3 W9 Pre Post)
    {g : JFrame} (hg : g.method = m) (hsize : g.locals.size = c.maxLocals) {argsL rest : List Value} (hlen : ∀ sig, parseMethodDescriptor y.desc = some sig → argsL.length = sig.parameters.length)
    (hstack : g.stack = argsL.reverse ++ rest) (hW : 2 * g.monitorRoom + (rest.map fun v => v.category).sum ≤ W9) (hdg : decode c.code g.pc = .ok (.invokestatic index, 3))
    (hpre : ∀ vm₁, s.WarmedH vm₁ → Pre ⟨T.setVm vm₁, locs, cells, slots⟩ argsL.toArray) :
    ∃ (v : Option Value) (vm₁ : Vm) (B : Pt), s.WarmedH vm₁ ∧ Stand p l e R s m args below meth c B.U B.locs B.cells B.slots ∧ Post ⟨T.setVm vm₁, locs, cells, slots⟩ argsL.toArray v B ∧
      ∀ target, Steps p.tables e below (B.U.setTop { g with pc := g.pc + 3, stack := v.toList ++ rest }) target → Steps p.tables e below (T.setTop g) target := by
  obtain ⟨mk, methM, cM, hnamed, hmethM, -, -, -, -, -, -, hsigM⟩ := Cond.codeWith_spec hcode
  have hstatic : methM.isStatic = true := Cond.static_spec hnamed hmethM hstat
  obtain ⟨kP, hkP, -⟩ := className_of_methodNamed hnamed
  have hinitP : kP.init = .initialized := Cond.initialized_spec (findClass_of_methodNamed hnamed) hkP hinit
  obtain ⟨vm₁, X₁, hstep₁⟩ := X.invokestatic hexec hown hlink hnamed hmethM hstatic hkP hinitP hy (g := g) hg (argsL := argsL) (rest := rest) (hlen _ hsigM) hstack hdg
  obtain ⟨v, B, X', hpost, hsteps⟩ := hK m meth c ⟨T.setVm vm₁, locs, cells, slots⟩ { g with stack := rest } (.invokestatic index) mk argsL.toArray X₁ hg hsize hdg hW (X₁.named hnamed) (hpre vm₁ X₁.warmed)
  exact ⟨v, vm₁, B, X₁.warmed, X', hpost, fun target h => hstep₁ _ fun acts => by rw [doInvoke_state]; exact hsteps.trans h⟩
theorem vx_runSW {y : MethodName} {bytes cc : ByteArray} {maxL nL mc ms n index : Nat} {ret : Option FieldType} {hh : List (Nat × Nat × Nat × Nat)} {ws : List Cond} {rm : Room} {Pc : Array Value → State → Prop} {Qc : Array Value → State → Outcome → State → Prop} {free : Addr → Prop} {Ts : List Cond} {own : String} {As rest : List Value} {g : JFrame}
    (S : CallFix p m c cc nL s args Ts own) (hM : Met l y ws rm Pc Qc mc ms free) (cw : vx_CSW R s args own index y bytes maxL ret hh ws rm mc ms n) (hp : PreS s H Pc As)
    (hg : g.method = m) (hn : As.length = n) (hsize : g.locals.size = nL) (hstack : g.stack = As.reverse ++ rest) (hW : 2 * g.monitorRoom + (rest.map fun v => v.category).sum ≤ 8) (hdg : decode cc g.pc = .ok (.invokestatic index, 3)) (hf : cells + mc ≤ R.cells ∧ slots + ms ≤ R.slots) :
    va_Run p l e R s m args below meth c H locs cells slots mc ms g rest (Qc As.toArray) (free) := by
  obtain ⟨⟨hrc, hrs, hfr, hlo, hws, hcw⟩, hcode, hini, hy, hlen, hl, hstt⟩ := cw
  have hK : Back l R p e below s args y 3 8 (PreOf R mc ms Pc) (PostOf Qc mc ms free) := va_backW (hh := hh) (bytes := bytes) (maxL := maxL) (ret := ret) hM hp.1 hrc hrs hfr hlo hws hcw (fun a' U hW => word_at hW (Or.inl (by first | rfl | simp [Cond.onTables, Cond.keeps, Cond.steady])) hini)
  obtain ⟨hx, hb, hml, ho, -⟩ := S
  intro T hT X
  obtain ⟨v, vm₁, ⟨U', l2, c2, s2⟩, hW₁, X', ⟨g', mk, t, L, e1, e2, hq, h1, hL, h2, h3⟩, st⟩ := vx_callSW X hx (hh := hh) (bytes := bytes) (maxL := maxL) (ret := ret) ho hl hstt hini hcode hy hK hg (hsize.trans hml.symm) (argsL := As) (rest := rest) (fun sig h => hn.trans (hlen sig h)) hstack hW (by rw [hb]; exact hdg)
    (fun vm₁ hW₁ => ⟨hf.1, hf.2, hp.2 (T.setVm vm₁) hT hW₁⟩)
  dsimp only [Pt.U, Pt.locs, Pt.cells, Pt.slots] at X' e1 e2 h1 h2 h3 st
  subst h1; subst h2; subst h3
  exact ⟨v, (T.setVm vm₁).calling g' mk As.toArray, t, U', L, hT, X', hL, e1, e2, hq, st⟩
/-- not caught here, past rows that name other classes: it goes on to the caller -/
theorem vx_outP {p : Program} {l : Launch} {e : Env} {R : Room} {s : State} {m : MethodId} {args : Array Value} {below : List Frame} {meth : Method} {c : Code} {H : Heap} {locs : List Loc} {cells slots : Nat} {free : Addr → Prop} {ls : Array Slot} {rest : List Value} {Qc : Array Value → State → Outcome → State → Prop} {XC : String → State → State → Prop}
    {pc : Nat} {own E : String} {ce : Cell} {q : Addr} {mc ms : Nat} (hown : s.vm.findClass own = some m.cls) (hlocks : meth.locks = false)
    (hpass : ∀ z ∈ c.exceptionTable.toList, covers z pc = false ∨ (z.catchType ≠ 0 ∧ ∃ nm : String, (Cond.classLink own z.catchType nm).before args s = true ∧ va_Nc E nm s)) (hcell : H[q]? = some ce) (hv : ce.vm = .none) (hcl : s.vm.findClass E = some ce.cls)
    (hx : ∀ t : State, t.heap = H → s.vm.Alike t.vm → XC E s t) (hf : ∀ z ∈ locs, free z.base) (hc : cells ≤ mc) (hs : slots ≤ ms) :
    vx_W p l e R s m args below meth c H locs cells slots (vx_MQ below Qc XC args s mc ms free) (F0 m pc ls rest) q := by
  intro T hT X
  have hpl : e.platform.magicAccessors = ({} : Platform).magicAccessors := by rw [X.admits.platform]
  obtain ⟨vm', hW', X', st⟩ := Jvm.Stand.outThrough X hlocks q (g := F0 m pc ls rest) rfl rfl rfl (cell := ce) (by rw [hT]; exact hcell) (by rw [hv]; rfl)
    (by obtain ⟨k9, h9, -⟩ := Vm.findClass_spec hcl; exact ⟨k9, h9⟩) (fun z hz => by
      rcases hpass z hz with h | ⟨hz0, nm, hl1, hn1⟩
      · exact Or.inl h
      · obtain ⟨c6, hc6, hcl6⟩ := Cond.classLink_spec hown hl1 e.platform hpl
        obtain ⟨a8, b8, h1, h2, h3⟩ := hn1
        cases Option.some.inj (h1.symm.trans hcl)
        cases Option.some.inj (h2.symm.trans hc6)
        exact Or.inr ⟨hz0, _, hcl6, h3⟩)
  obtain ⟨g₀, hfr⟩ := X'.frames_eq
  have hcell9 : ((T.setVm vm').setFrames (.throwing q :: below)).heap[q]? = some ce := by
    show T.heap[q]? = some ce
    rw [hT]; exact hcell
  have hend : Ended ((T.setVm vm').setFrames (.throwing q :: below)) below (.threw q) := State.frames_setFrames _ (State.cur_lt_of_frames hfr)
  refine ⟨(T.setVm vm').setFrames (.throwing q :: below), ?_, .threw q, X'.here.running, hend, Or.inr ⟨q, rfl, E, ce, locs, hx _ hT (X'.ends _).1.alike, hcell9, hv, hcl, (X'.ends _).1, (X'.ends _).2.mono hc hs, hf⟩⟩
  rw [X.pushThrowing_eq]
  exact st
/-- a thing of a world lies in the heap -/
theorem vx_lt {D : va_G} {cl : List vw_C} {ws : va_W} {H1 : Heap} (h : va_P D cl ws H1) {k : Nat} {q : Nat × va_E} (hk : ws[k]? = some q) : q.1 < H1.size := (h k q hk).lt
end VXS
/-! ===== END ===== -/
/-! ===== BEGIN methods with a table of their own: called by a name, returning or throwing ===== -/
section VXH
/-! vx_backW, vx_callVX, vx_callSX, vx_callVW, vx_runVW, vx_runVX, vx_runSX, vx_ofWH follow the same proofs as their sisters above (Free/Laws.lean, Shelf42/LK1.lean); vx_outP calls Shelf42/NT130.lean (outThrough). -/
section
variable {l : Launch} {R : Room} {p : Program} {e : Env} {below : List Frame} {s : State} {sargs : Array Value} {y : MethodName} {len W9 : Nat}
theorem vx_backW {ws : List Cond} {rm : Room} {Pc : Array Value → State → Prop} {Qc : Array Value → State → Outcome → State → Prop} {XC : String → State → State → Prop} {mc ms : Nat} {free : Addr → Prop} {bytes : ByteArray} {maxL : Nat} {ret : Option FieldType} {hh : List (Nat × Nat × Nat × Nat)}
    (hM : vx_Met l y ws rm Pc Qc XC mc ms free) (hblind : FrameBlind Pc) (hrc : rm.cells = mc) (hrs : rm.slots = ms)
    (hframes : rm.frames + 1 ≤ R.frames) (hlocals : W9 + (maxL + 11) + rm.locals ≤ R.locals)
    (hws : ∀ w ∈ ws, ∀ a' U, s.WarmedH U.vm → w.before a' U = true) (hcode : Cond.codeWith y bytes maxL ret hh ∈ ws) (hinit : ∀ a' U, s.WarmedH U.vm → (Cond.initialized y.cls).before a' U = true) :
    vx_Back l R p e below s sargs y len W9 (PreOf R mc ms Pc) (PostOf Qc mc ms free) (vx_Post XC mc ms free) := by
  intro m meth c A g ig mk a X hg hsize hdg hW hn hp
  have h1 : (headSpec ws rm).pre.before a A.U = true := atoms_intro fun w hw => hws w hw _ _ X.warmed
  have h2 : (Cond.codeWith y bytes maxL ret hh).before a A.U = true := hws _ hcode _ _ X.warmed
  have h3 : (Cond.initialized y.cls).before a A.U = true := hinit _ _ X.warmed
  have h4 : A.cells + (headSpec ws rm).room.cells ≤ R.cells := by rw [show (headSpec ws rm).room.cells = mc from hrc]; exact hp.1
  have h5 : A.slots + (headSpec ws rm).room.slots ≤ R.slots := by rw [show (headSpec ws rm).room.slots = ms from hrs]; exact hp.2.1
  have hPc : Pc a (A.U.calling g mk a) := hblind _ _ _ _ hp.2.2
  obtain ⟨U, Ls, c0, s0⟩ := A
  dsimp only [Pt.U, Pt.locs, Pt.cells, Pt.slots] at h1 h2 h3 h4 h5 X hn hPc ⊢
  obtain ⟨m9, methY, cY, hn9, hmY, hcY, -, hlY, -⟩ := Cond.codeWith_spec h2
  cases Option.some.inj (hn9.symm.trans hn)
  obtain ⟨kY, hkY, -⟩ := className_of_methodNamed hn
  have hinitY : kY.init = .initialized := Cond.initialized_spec (findClass_of_methodNamed hn) hkY h3
  have h : At U g.method c below := by rw [hg]; exact X.here
  have hlocals9 : W9 + (maxL + 11) + (headSpec ws rm).room.locals ≤ R.locals := hlocals
  have happ : (headSpec ws rm).appliesLoose y e.platform (U.calling g mk a) = true :=
    Spec.appliesLoose_calling (g := g) h hdg hn hkY hinitY
      (X.room_calling (g := g) (R' := (headSpec ws rm).room) hsize hmY hcY hframes (by rw [hlY]; omega) h4 h5) h1
  obtain ⟨mid, hmid⟩ := h.above
  have hfr : (U.setTop g).frames = (.java g :: mid) ++ below := by rw [State.frames_setTop' g h.top, hmid]; rfl
  obtain ⟨o, s₂, hsteps, -, hend, hq⟩ := Steps.callFree hM p X.admits X.cas X.clock (acts := []) hfr happ hPc trivial
  have hq' : vx_Q Qc XC mc ms free a (U.calling g mk a) o s₂ := hq
  rw [State.frames_setTop' g h.top] at hend
  obtain ⟨g₀, hg0⟩ := Option.isSome_iff_exists.mp h.top
  obtain ⟨r, hr⟩ := State.topJava?_eq_some.mp hg0
  have hr' : (({ U with heap := s₂.heap, slotsUsed := s₂.slotsUsed } : State).setVm s₂.vm).frames = .java g₀ :: r := hr
  rcases hq' with ⟨hqc, L, hfe, hL⟩ | ⟨q, rfl, E, ce, L, hx, hce, hcv, hcl, hW₂, hsm, hL⟩
  · obtain ⟨⟨v, rfl⟩, hW₂, e2, q2, q3, q4, q5, q6⟩ := id hfe
    have e3 : s₂ = ({ (U.calling g mk a).setFrames s₂.frames with heap := s₂.heap, slotsUsed := s₂.slotsUsed } : State).setVm s₂.vm := by
      have : s₂ = ({ s₂ with vm := (U.calling g mk a).vm } : State).setVm s₂.vm := rfl
      rw [e2] at this
      exact this
    obtain ⟨c₂, i₂, len₂, hc₂, hd₂, hf₂⟩ := hend
    have hW' : U.WarmedH s₂.vm := hW₂
    have hcc : c₂ = c := by
      have h1 : s₂.code? g.method = U.code? g.method := by
        rw [State.code?_eq, State.code?_eq, hW'.alike.method?]
      exact Option.some.inj (hc₂.symm.trans (h1.trans h.code))
    subst hcc
    have hlen : len₂ = len := by rw [hdg] at hd₂; cases hd₂; rfl
    subst hlen
    have hs₂ : s₂ = (({ U with heap := s₂.heap, slotsUsed := s₂.slotsUsed } : State).setVm s₂.vm).setTop { g with pc := g.pc + len₂, stack := v.toList ++ g.stack } := by
      refine e3.trans ?_
      rw [hf₂, State.calling_eq h.top, State.setFrames_setFrames, State.setTop_of_frames _ hr', hr]
      rfl
    have hsame : U.sameButNew ({ U with heap := s₂.heap, slotsUsed := s₂.slotsUsed } : State) L mc ms := by
      refine ⟨?_, q2, q3, q4, q5, q6⟩
      obtain ⟨t, ht, -⟩ := State.frames_cons hr
      show ({ U with heap := s₂.heap, slotsUsed := s₂.slotsUsed } : State) = { U.setFrames U.frames with heap := s₂.heap, slotsUsed := s₂.slotsUsed }
      rw [State.setFrames_self ht]
    subst hg
    refine Or.inl ⟨v, ⟨(({ U with heap := s₂.heap, slotsUsed := s₂.slotsUsed } : State).setVm s₂.vm), Ls ++ L, c0 + mc, s0 + ms⟩,
      ⟨X.admits, X.cas, X.clock, X.frames, X.room, X.hears, X.method, X.code, (X.here.setHeapUsed s₂.heap s₂.slotsUsed).setVm hW'.alike, X.tail, State.WarmedH.trans X.warmed hW', X.limits, X.bytes, X.same.trans (hsame.setVm s.vm)⟩,
      ⟨g, mk, s₂, L, rfl, rfl, hqc, rfl, hL, rfl, rfl⟩, ?_⟩
    show Steps p.tables e below _ ((({ U with heap := s₂.heap, slotsUsed := s₂.slotsUsed } : State).setVm s₂.vm).setTop { g with pc := g.pc + len₂, stack := v.toList ++ g.stack })
    rw [← hs₂]
    exact hsteps
  · obtain ⟨e2, q2, q3, q4, q5, q6⟩ := id hsm
    have e3 : s₂ = ({ (U.calling g mk a).setFrames s₂.frames with heap := s₂.heap, slotsUsed := s₂.slotsUsed } : State).setVm s₂.vm := by
      have : s₂ = ({ s₂ with vm := (U.calling g mk a).vm } : State).setVm s₂.vm := rfl
      rw [e2] at this
      exact this
    have hf₂ : s₂.frames = .throwing q :: .java g :: U.frames.tail := hend
    have hW' : U.WarmedH s₂.vm := hW₂
    have hs₂ : s₂ = ((({ U with heap := s₂.heap, slotsUsed := s₂.slotsUsed } : State).setVm s₂.vm).setTop g).pushFrame (.throwing q) := by
      refine e3.trans ?_
      rw [hf₂, State.calling_eq h.top, State.setFrames_setFrames, State.pushFrame, State.frames_setTop _ hr', State.setTop_of_frames _ hr', State.setFrames_setFrames, hr]
      rfl
    have hsame : U.sameButNew ({ U with heap := s₂.heap, slotsUsed := s₂.slotsUsed } : State) L mc ms := by
      refine ⟨?_, q2, q3, q4, q5, q6⟩
      obtain ⟨t, ht, -⟩ := State.frames_cons hr
      show ({ U with heap := s₂.heap, slotsUsed := s₂.slotsUsed } : State) = { U.setFrames U.frames with heap := s₂.heap, slotsUsed := s₂.slotsUsed }
      rw [State.setFrames_self ht]
    subst hg
    refine Or.inr ⟨q, ⟨(({ U with heap := s₂.heap, slotsUsed := s₂.slotsUsed } : State).setVm s₂.vm), Ls ++ L, c0 + mc, s0 + ms⟩,
      ⟨X.admits, X.cas, X.clock, X.frames, X.room, X.hears, X.method, X.code, (X.here.setHeapUsed s₂.heap s₂.slotsUsed).setVm hW'.alike, X.tail, State.WarmedH.trans X.warmed hW', X.limits, X.bytes, X.same.trans (hsame.setVm s.vm)⟩,
      ⟨g, mk, s₂, L, E, ce, rfl, rfl, hx, hce, hcv, hcl, rfl, hL, rfl, rfl⟩, ?_⟩
    show Steps p.tables e below _ (((({ U with heap := s₂.heap, slotsUsed := s₂.slotsUsed } : State).setVm s₂.vm).setTop g).pushFrame (.throwing q))
    rw [← hs₂]
    exact hsteps
end
variable {p : Program} {l : Launch} {e : Env} {R : Room} {s : State} {m : MethodId} {args : Array Value} {below : List Frame} {meth : Method} {c : Code} {T : State} {H : Heap} {locs : List Loc} {cells slots : Nat}
theorem vx_callVX (X : Stand p l e R s m args below meth c T locs cells slots) (hexec : p.tables.exec = Jvm.exec) {own C : String} {index : Nat} {y : MethodName} {bytes : ByteArray} {maxL : Nat} {ret : Option FieldType} {hh : List (Nat × Nat × Nat × Nat)}
    (hown : s.vm.findClass own = some m.cls) (hlink : (Cond.methodLink own index y).before args s = true) (hinst : (Cond.instanceMethod y).before args s = true) (hsel : (Cond.selects C y y).before args s = true)
    (hcode : (Cond.codeWith y bytes maxL ret hh).before args s = true) (hy : y.cls ≠ "java/lang/invoke/MethodHandle" ∧ y.cls ≠ "java/lang/invoke/VarHandle")
    {W9 : Nat} {Pre : Pt → Array Value → Prop} {Post : Pt → Array Value → Option Value → Pt → Prop} {PostX : Pt → Array Value → Addr → Pt → Prop} (hK : vx_Back l R p e below s args y 3 W9 Pre Post PostX)
    {b : Addr} {cellB : Cell} (hcell : T.heap[b]? = some cellB) (hobj : cellB.vm.isStatics = false) (hcls : s.vm.findClass C = some cellB.cls)
    {g : JFrame} (hg : g.method = m) (hsize : g.locals.size = c.maxLocals) {argsL rest : List Value} (hlen : ∀ sig, parseMethodDescriptor y.desc = some sig → argsL.length = sig.parameters.length)
    (hstack : g.stack = argsL.reverse ++ .ref b :: rest) (hW : 2 * g.monitorRoom + (rest.map fun v => v.category).sum ≤ W9) (hdg : decode c.code g.pc = .ok (.invokevirtual index, 3))
    (hpre : ∀ vm₁, s.WarmedH vm₁ → Pre ⟨T.setVm vm₁, locs, cells, slots⟩ (Value.ref b :: argsL).toArray) :
    (∃ (v : Option Value) (vm₁ : Vm) (B : Pt), s.WarmedH vm₁ ∧ Stand p l e R s m args below meth c B.U B.locs B.cells B.slots ∧ Post ⟨T.setVm vm₁, locs, cells, slots⟩ (Value.ref b :: argsL).toArray v B ∧
      ∀ target, Steps p.tables e below (B.U.setTop { g with pc := g.pc + 3, stack := v.toList ++ rest }) target → Steps p.tables e below (T.setTop g) target) ∨
    (∃ (q : Addr) (vm₁ : Vm) (B : Pt), s.WarmedH vm₁ ∧ Stand p l e R s m args below meth c B.U B.locs B.cells B.slots ∧ PostX ⟨T.setVm vm₁, locs, cells, slots⟩ (Value.ref b :: argsL).toArray q B ∧
      Steps p.tables e below (T.setTop g) ((B.U.setTop { g with stack := rest }).pushFrame (.throwing q))) := by
  obtain ⟨mk, methM, hnamed, hmethM, hstM, habM⟩ := Cond.instanceMethod_spec hinst
  obtain ⟨m8, methM', cM, hn8, hmethM', -, -, -, -, -, -, hsigM⟩ := Cond.codeWith_spec hcode
  cases Option.some.inj (hn8.symm.trans hnamed)
  cases hmethM.symm.trans hmethM'
  obtain ⟨c2, r2, m2, q1, q2, q3, q4, kP, hkP, hkPi⟩ := Cond.selects_spec hsel
  cases hcls.symm.trans q1
  cases (State.methodFound?_of_named hnamed hy).symm.trans q2
  cases hnamed.symm.trans q3
  have hselP : selectMethod e.platform s.vm cellB.cls mk = .method mk := by rw [Launch.admits_selectMethod X.admits]; exact q4
  obtain ⟨vm₁, X₁, hstep₁⟩ := X.invokevirtual hexec hown hlink hnamed hmethM hstM hkP hkPi hy (a := b) (cell := cellB) hcell
    (fun z h => by rw [h] at hobj; cases hobj) hselP hmethM habM hkP hkPi (g := g) hg (argsL := argsL) (rest := rest) (hlen _ hsigM) hstack hdg
  rcases hK m meth c ⟨T.setVm vm₁, locs, cells, slots⟩ { g with stack := rest } (.invokevirtual index) mk (Value.ref b :: argsL).toArray X₁ hg hsize hdg hW (X₁.named hnamed) (hpre vm₁ X₁.warmed) with ⟨v, B, X', hpost, hsteps⟩ | ⟨q, B, X', hpost, hsteps⟩
  · exact Or.inl ⟨v, vm₁, B, X₁.warmed, X', hpost, fun target h => hstep₁ _ fun acts => by rw [doInvoke_state]; exact hsteps.trans h⟩
  · exact Or.inr ⟨q, vm₁, B, X₁.warmed, X', hpost, hstep₁ _ fun acts => by rw [doInvoke_state]; exact hsteps⟩
theorem vx_callSX (X : Stand p l e R s m args below meth c T locs cells slots) (hexec : p.tables.exec = Jvm.exec) {own : String} {index : Nat} {y : MethodName} {bytes : ByteArray} {maxL : Nat} {ret : Option FieldType} {hh : List (Nat × Nat × Nat × Nat)}
    (hown : s.vm.findClass own = some m.cls) (hlink : (Cond.methodLink own index y).before args s = true) (hstat : (Cond.static y).before args s = true) (hinit : (Cond.initialized y.cls).before args s = true)
    (hcode : (Cond.codeWith y bytes maxL ret hh).before args s = true) (hy : y.cls ≠ "java/lang/invoke/MethodHandle" ∧ y.cls ≠ "java/lang/invoke/VarHandle")
    {W9 : Nat} {Pre : Pt → Array Value → Prop} {Post : Pt → Array Value → Option Value → Pt → Prop} {PostX : Pt → Array Value → Addr → Pt → Prop} (hK : vx_Back l R p e below s args y 3 W9 Pre Post PostX)
    {g : JFrame} (hg : g.method = m) (hsize : g.locals.size = c.maxLocals) {argsL rest : List Value} (hlen : ∀ sig, parseMethodDescriptor y.desc = some sig → argsL.length = sig.parameters.length)
    (hstack : g.stack = argsL.reverse ++ rest) (hW : 2 * g.monitorRoom + (rest.map fun v => v.category).sum ≤ W9) (hdg : decode c.code g.pc = .ok (.invokestatic index, 3))
    (hpre : ∀ vm₁, s.WarmedH vm₁ → Pre ⟨T.setVm vm₁, locs, cells, slots⟩ argsL.toArray) :
    (∃ (v : Option Value) (vm₁ : Vm) (B : Pt), s.WarmedH vm₁ ∧ Stand p l e R s m args below meth c B.U B.locs B.cells B.slots ∧ Post ⟨T.setVm vm₁, locs, cells, slots⟩ argsL.toArray v B ∧
      ∀ target, Steps p.tables e below (B.U.setTop { g with pc := g.pc + 3, stack := v.toList ++ rest }) target → Steps p.tables e below (T.setTop g) target) ∨
    (∃ (q : Addr) (vm₁ : Vm) (B : Pt), s.WarmedH vm₁ ∧ Stand p l e R s m args below meth c B.U B.locs B.cells B.slots ∧ PostX ⟨T.setVm vm₁, locs, cells, slots⟩ argsL.toArray q B ∧
      Steps p.tables e below (T.setTop g) ((B.U.setTop { g with stack := rest }).pushFrame (.throwing q))) := by
  obtain ⟨mk, methM, cM, hnamed, hmethM, -, -, -, -, -, -, hsigM⟩ := Cond.codeWith_spec hcode
  have hstatic : methM.isStatic = true := Cond.static_spec hnamed hmethM hstat
  obtain ⟨kP, hkP, -⟩ := className_of_methodNamed hnamed
  have hinitP : kP.init = .initialized := Cond.initialized_spec (findClass_of_methodNamed hnamed) hkP hinit
  obtain ⟨vm₁, X₁, hstep₁⟩ := X.invokestatic hexec hown hlink hnamed hmethM hstatic hkP hinitP hy (g := g) hg (argsL := argsL) (rest := rest) (hlen _ hsigM) hstack hdg
  rcases hK m meth c ⟨T.setVm vm₁, locs, cells, slots⟩ { g with stack := rest } (.invokestatic index) mk argsL.toArray X₁ hg hsize hdg hW (X₁.named hnamed) (hpre vm₁ X₁.warmed) with ⟨v, B, X', hpost, hsteps⟩ | ⟨q, B, X', hpost, hsteps⟩
  · exact Or.inl ⟨v, vm₁, B, X₁.warmed, X', hpost, fun target h => hstep₁ _ fun acts => by rw [doInvoke_state]; exact hsteps.trans h⟩
  · exact Or.inr ⟨q, vm₁, B, X₁.warmed, X', hpost, hstep₁ _ fun acts => by rw [doInvoke_state]; exact hsteps⟩
theorem vx_callVW (X : Stand p l e R s m args below meth c T locs cells slots) (hexec : p.tables.exec = Jvm.exec) {own C : String} {index : Nat} {y : MethodName} {bytes : ByteArray} {maxL : Nat} {ret : Option FieldType} {hh : List (Nat × Nat × Nat × Nat)}
    (hown : s.vm.findClass own = some m.cls) (hlink : (Cond.methodLink own index y).before args s = true) (hinst : (Cond.instanceMethod y).before args s = true) (hsel : (Cond.selects C y y).before args s = true)
    (hcode : (Cond.codeWith y bytes maxL ret hh).before args s = true) (hy : y.cls ≠ "java/lang/invoke/MethodHandle" ∧ y.cls ≠ "java/lang/invoke/VarHandle")
    {W9 : Nat} {Pre : Pt → Array Value → Prop} {Post : Pt → Array Value → Option Value → Pt → Prop} (hK : Back l R p e below s args y 3 W9 Pre Post)
    {b : Addr} {cellB : Cell} (hcell : T.heap[b]? = some cellB) (hobj : cellB.vm.isStatics = false) (hcls : s.vm.findClass C = some cellB.cls)
    {g : JFrame} (hg : g.method = m) (hsize : g.locals.size = c.maxLocals) {argsL rest : List Value} (hlen : ∀ sig, parseMethodDescriptor y.desc = some sig → argsL.length = sig.parameters.length)
    (hstack : g.stack = argsL.reverse ++ .ref b :: rest) (hW : 2 * g.monitorRoom + (rest.map fun v => v.category).sum ≤ W9) (hdg : decode c.code g.pc = .ok (.invokevirtual index, 3))
    (hpre : ∀ vm₁, s.WarmedH vm₁ → Pre ⟨T.setVm vm₁, locs, cells, slots⟩ (Value.ref b :: argsL).toArray) :
    ∃ (v : Option Value) (vm₁ : Vm) (B : Pt), s.WarmedH vm₁ ∧ Stand p l e R s m args below meth c B.U B.locs B.cells B.slots ∧ Post ⟨T.setVm vm₁, locs, cells, slots⟩ (Value.ref b :: argsL).toArray v B ∧
      ∀ target, Steps p.tables e below (B.U.setTop { g with pc := g.pc + 3, stack := v.toList ++ rest }) target → Steps p.tables e below (T.setTop g) target := by
  obtain ⟨mk, methM, hnamed, hmethM, hstM, habM⟩ := Cond.instanceMethod_spec hinst
  obtain ⟨m8, methM', cM, hn8, hmethM', -, -, -, -, -, -, hsigM⟩ := Cond.codeWith_spec hcode
  cases Option.some.inj (hn8.symm.trans hnamed)
  cases hmethM.symm.trans hmethM'
  obtain ⟨c2, r2, m2, q1, q2, q3, q4, kP, hkP, hkPi⟩ := Cond.selects_spec hsel
  cases hcls.symm.trans q1
  cases (State.methodFound?_of_named hnamed hy).symm.trans q2
  cases hnamed.symm.trans q3
  have hselP : selectMethod e.platform s.vm cellB.cls mk = .method mk := by rw [Launch.admits_selectMethod X.admits]; exact q4
  obtain ⟨vm₁, X₁, hstep₁⟩ := X.invokevirtual hexec hown hlink hnamed hmethM hstM hkP hkPi hy (a := b) (cell := cellB) hcell
    (fun z h => by rw [h] at hobj; cases hobj) hselP hmethM habM hkP hkPi (g := g) hg (argsL := argsL) (rest := rest) (hlen _ hsigM) hstack hdg
  obtain ⟨v, B, X', hpost, hsteps⟩ := hK m meth c ⟨T.setVm vm₁, locs, cells, slots⟩ { g with stack := rest } (.invokevirtual index) mk (Value.ref b :: argsL).toArray X₁ hg hsize hdg hW (X₁.named hnamed) (hpre vm₁ X₁.warmed)
  exact ⟨v, vm₁, B, X₁.warmed, X', hpost, fun target h => hstep₁ _ fun acts => by rw [doInvoke_state]; exact hsteps.trans h⟩
abbrev vx_CVW (R : Room) (s : State) (args : Array Value) (own C : String) (index : Nat) (y : MethodName) (bytes : ByteArray) (maxL : Nat) (ret : Option FieldType) (hh : List (Nat × Nat × Nat × Nat)) (ws : List Cond) (rm : Room) (mc ms n : Nat) : Prop :=
  (rm.cells = mc ∧ rm.slots = ms ∧ rm.frames + 1 ≤ R.frames ∧ 8 + (maxL + 11) + rm.locals ≤ R.locals ∧ (∀ w ∈ ws, ∀ (a' : Array Value) (U : State), s.WarmedH U.vm → w.before a' U = true) ∧ Cond.codeWith y bytes maxL ret hh ∈ ws) ∧
  (Cond.codeWith y bytes maxL ret hh).before args s = true ∧ (Cond.initialized y.cls).before args s = true ∧ (y.cls ≠ "java/lang/invoke/MethodHandle" ∧ y.cls ≠ "java/lang/invoke/VarHandle") ∧
  (∀ sig, parseMethodDescriptor y.desc = some sig → n = sig.parameters.length) ∧ (Cond.methodLink own index y).before args s = true ∧ (Cond.instanceMethod y).before args s = true ∧ (Cond.selects C y y).before args s = true
theorem vx_cwVW {own C : String} {index maxL mc ms : Nat} {y : MethodName} {bytes : ByteArray} {ret : Option FieldType} {hh : List (Nat × Nat × Nat × Nat)} {Ts ws ws' : List Cond} {rm : Room} (n : Nat) (ht : ∀ w ∈ Ts, w.before args s = true) (hT : GoodIn Ts (wsV own index C y ws)) (hw : ws = Cond.codeWith y bytes maxL ret hh :: ws') (hrc : rm.cells = mc) (hrs : rm.slots = ms)
    (hd : y.cls = C ∧ y.cls ≠ "java/lang/invoke/MethodHandle" ∧ y.cls ≠ "java/lang/invoke/VarHandle" ∧ (parseMethodDescriptor y.desc).map (fun d => d.parameters.length) = some n) (hR : rm.frames + 1 ≤ R.frames ∧ 8 + (maxL + 11) + rm.locals ≤ R.locals) :
    vx_CVW R s args own C index y bytes maxL ret hh ws rm mc ms n := by
  obtain ⟨hC, hd⟩ := hd
  subst hC
  have ok : ∀ w ∈ wsV own index y.cls y ws, w.before args s = true := fun w h => ht w (hT w h).1
  have hG : GoodIn Ts ws := fun w h => hT w (by unfold wsV; exact List.mem_append_right _ h)
  have hc : Cond.codeWith y bytes maxL ret hh ∈ ws := by rw [hw]; exact List.mem_cons_self
  refine ⟨⟨hrc, hrs, hR.1, hR.2, pay_in ht hG, hc⟩, ht _ (hG _ hc).1, ok _ (by simp [wsV]), ⟨hd.1, hd.2.1⟩, fun sig h => ?_, ok _ (by simp [wsV]), ok _ (by simp [wsV]), ok _ (by simp [wsV])⟩
  have h2 := hd.2.2
  rw [h] at h2
  exact (Option.some.inj h2).symm
theorem vx_runVW {y : MethodName} {bytes cc : ByteArray} {maxL nL mc ms n index : Nat} {ret : Option FieldType} {hh : List (Nat × Nat × Nat × Nat)} {ws : List Cond} {rm : Room} {Pc : Array Value → State → Prop} {Qc : Array Value → State → Outcome → State → Prop} {free : Addr → Prop} {Ts : List Cond} {own C : String} {b : Addr} {As rest : List Value} {g : JFrame}
    (S : CallFix p m c cc nL s args Ts own) (hM : Met l y ws rm Pc Qc mc ms free) (cw : vx_CVW R s args own C index y bytes maxL ret hh ws rm mc ms n) (hp : PreV s H C b Pc As)
    (hg : g.method = m) (hn : As.length = n) (hsize : g.locals.size = nL) (hstack : g.stack = As.reverse ++ .ref b :: rest) (hW : 2 * g.monitorRoom + (rest.map fun v => v.category).sum ≤ 8) (hdg : decode cc g.pc = .ok (.invokevirtual index, 3)) (hf : cells + mc ≤ R.cells ∧ slots + ms ≤ R.slots) :
    va_Run p l e R s m args below meth c H locs cells slots mc ms g rest (Qc (Value.ref b :: As).toArray) free := by
  obtain ⟨⟨hrc, hrs, hfr, hlo, hws, hcw⟩, hcode, hini, hy, hlen, hl, hin, hse⟩ := cw
  have hK : Back l R p e below s args y 3 8 (PreOf R mc ms Pc) (PostOf Qc mc ms free) := va_backW (hh := hh) (bytes := bytes) (maxL := maxL) (ret := ret) hM hp.1 hrc hrs hfr hlo hws hcw (fun a' U hW => word_at hW (Or.inl (by first | rfl | simp [Cond.onTables, Cond.keeps, Cond.steady])) hini)
  obtain ⟨hx, hb, hml, ho, -⟩ := S
  obtain ⟨-, ⟨cellB, hcB, hoB, hclB⟩, hPc⟩ := hp
  intro T hT X
  obtain ⟨v, vm₁, ⟨U', l2, c2, s2⟩, hW₁, X', ⟨g', mk, t, L, e1, e2, hq, h1, hL, h2, h3⟩, st⟩ := vx_callVW X hx (C := C) (hh := hh) (bytes := bytes) (maxL := maxL) (ret := ret) ho hl hin hse hcode hy hK (by rw [hT]; exact hcB) hoB hclB hg (hsize.trans hml.symm) (argsL := As) (rest := rest) (fun sig h => hn.trans (hlen sig h)) hstack hW (by rw [hb]; exact hdg)
    (fun vm₁ hW₁ => ⟨hf.1, hf.2, hPc (T.setVm vm₁) hT hW₁⟩)
  dsimp only [Pt.U, Pt.locs, Pt.cells, Pt.slots] at X' e1 e2 h1 h2 h3 st
  subst h1; subst h2; subst h3
  exact ⟨v, (T.setVm vm₁).calling g' mk (Value.ref b :: As).toArray, t, U', L, hT, X', hL, e1, e2, hq, st⟩
section
variable {y : MethodName} {bytes cc : ByteArray} {maxL nL mc ms n index : Nat} {ret : Option FieldType} {ws : List Cond} {rm : Room} {Pc : Array Value → State → Prop} {Qc : Array Value → State → Outcome → State → Prop} {XC : String → State → State → Prop} {free : Addr → Prop} {Ts : List Cond} {own C : String} {b : Addr} {As rest : List Value} {g : JFrame}
theorem vx_runVX {hh : List (Nat × Nat × Nat × Nat)} (S : CallFix p m c cc nL s args Ts own) (hM : vx_Met l y ws rm Pc Qc XC mc ms free) (cw : vx_CVW R s args own C index y bytes maxL ret hh ws rm mc ms n) (hp : PreV s H C b Pc As)
    (hg : g.method = m) (hn : As.length = n) (hsize : g.locals.size = nL) (hstack : g.stack = As.reverse ++ .ref b :: rest) (hW : 2 * g.monitorRoom + (rest.map fun v => v.category).sum ≤ 8) (hdg : decode cc g.pc = .ok (.invokevirtual index, 3)) (hf : cells + mc ≤ R.cells ∧ slots + ms ≤ R.slots) :
    vx_Run p l e R s m args below meth c H locs cells slots mc ms g rest (Qc (Value.ref b :: As).toArray) XC free := by
  obtain ⟨⟨hrc, hrs, hfr, hlo, hws, hcw⟩, hcode, hini, hy, hlen, hl, hin, hse⟩ := cw
  have hK : vx_Back l R p e below s args y 3 8 (PreOf R mc ms Pc) (PostOf Qc mc ms free) (vx_Post XC mc ms free) := vx_backW (hh := hh) (bytes := bytes) (maxL := maxL) (ret := ret) hM hp.1 hrc hrs hfr hlo hws hcw (fun a' U hW => word_at hW (Or.inl (by first | rfl | simp [Cond.onTables, Cond.keeps, Cond.steady])) hini)
  obtain ⟨hx, hb, hml, ho, -⟩ := S
  obtain ⟨-, ⟨cellB, hcB, hoB, hclB⟩, hPc⟩ := hp
  intro T hT X
  rcases vx_callVX X hx (C := C) (hh := hh) (bytes := bytes) (maxL := maxL) (ret := ret) ho hl hin hse hcode hy hK (by rw [hT]; exact hcB) hoB hclB hg (hsize.trans hml.symm) (argsL := As) (rest := rest) (fun sig h => hn.trans (hlen sig h)) hstack hW (by rw [hb]; exact hdg)
    (fun vm₁ hW₁ => ⟨hf.1, hf.2, hPc (T.setVm vm₁) hT hW₁⟩) with ⟨v, vm₁, ⟨U', l2, c2, s2⟩, hW₁, X', ⟨g', mk, t, L, e1, e2, hq, h1, hL, h2, h3⟩, st⟩ | ⟨q, vm₁, ⟨U', l2, c2, s2⟩, hW₁, X', ⟨g', mk, t, L, E, ce, e1, e2, hq, hce, hcv, hcl, h1, hL, h2, h3⟩, st⟩
  · dsimp only [Pt.U, Pt.locs, Pt.cells, Pt.slots] at X' e1 e2 h1 h2 h3 st
    subst h1; subst h2; subst h3
    exact Or.inl ⟨v, (T.setVm vm₁).calling g' mk (Value.ref b :: As).toArray, t, U', L, hT, X', hL, e1, e2, hq, st⟩
  · dsimp only [Pt.U, Pt.locs, Pt.cells, Pt.slots] at X' e1 e2 h1 h2 h3 st hcl
    subst h1; subst h2; subst h3
    exact Or.inr ⟨q, (T.setVm vm₁).calling g' mk (Value.ref b :: As).toArray, t, U', L, E, ce, hT, X', hL, e1, e2, hq, hce, hcv, vx_cls hW₁ hcl, st⟩
theorem vx_runSX {hh : List (Nat × Nat × Nat × Nat)} (S : CallFix p m c cc nL s args Ts own) (hM : vx_Met l y ws rm Pc Qc XC mc ms free) (cw : vx_CSW R s args own index y bytes maxL ret hh ws rm mc ms n) (hp : PreS s H Pc As)
    (hg : g.method = m) (hn : As.length = n) (hsize : g.locals.size = nL) (hstack : g.stack = As.reverse ++ rest) (hW : 2 * g.monitorRoom + (rest.map fun v => v.category).sum ≤ 8) (hdg : decode cc g.pc = .ok (.invokestatic index, 3)) (hf : cells + mc ≤ R.cells ∧ slots + ms ≤ R.slots) :
    vx_Run p l e R s m args below meth c H locs cells slots mc ms g rest (Qc As.toArray) XC free := by
  obtain ⟨⟨hrc, hrs, hfr, hlo, hws, hcw⟩, hcode, hini, hy, hlen, hl, hstt⟩ := cw
  have hK : vx_Back l R p e below s args y 3 8 (PreOf R mc ms Pc) (PostOf Qc mc ms free) (vx_Post XC mc ms free) := vx_backW (hh := hh) (bytes := bytes) (maxL := maxL) (ret := ret) hM hp.1 hrc hrs hfr hlo hws hcw (fun a' U hW => word_at hW (Or.inl (by first | rfl | simp [Cond.onTables, Cond.keeps, Cond.steady])) hini)
  obtain ⟨hx, hb, hml, ho, -⟩ := S
  intro T hT X
  rcases vx_callSX X hx (hh := hh) (bytes := bytes) (maxL := maxL) (ret := ret) ho hl hstt hini hcode hy hK hg (hsize.trans hml.symm) (argsL := As) (rest := rest) (fun sig h => hn.trans (hlen sig h)) hstack hW (by rw [hb]; exact hdg)
    (fun vm₁ hW₁ => ⟨hf.1, hf.2, hp.2 (T.setVm vm₁) hT hW₁⟩) with ⟨v, vm₁, ⟨U', l2, c2, s2⟩, hW₁, X', ⟨g', mk, t, L, e1, e2, hq, h1, hL, h2, h3⟩, st⟩ | ⟨q, vm₁, ⟨U', l2, c2, s2⟩, hW₁, X', ⟨g', mk, t, L, E, ce, e1, e2, hq, hce, hcv, hcl, h1, hL, h2, h3⟩, st⟩
  · dsimp only [Pt.U, Pt.locs, Pt.cells, Pt.slots] at X' e1 e2 h1 h2 h3 st
    subst h1; subst h2; subst h3
    exact Or.inl ⟨v, (T.setVm vm₁).calling g' mk As.toArray, t, U', L, hT, X', hL, e1, e2, hq, st⟩
  · dsimp only [Pt.U, Pt.locs, Pt.cells, Pt.slots] at X' e1 e2 h1 h2 h3 st hcl
    subst h1; subst h2; subst h3
    exact Or.inr ⟨q, (T.setVm vm₁).calling g' mk As.toArray, t, U', L, E, ce, hT, X', hL, e1, e2, hq, hce, hcv, vx_cls hW₁ hcl, st⟩
end
end VXH
theorem vx_ofWH {l : Launch} {y : MethodName} {ws ws' : List Cond} {rm : Room} {Pc : Array Value → State → Prop} {Qc : Array Value → State → Outcome → State → Prop} {XC : String → State → State → Prop} {mc ms : Nat} {free : Addr → Prop} {cc : ByteArray} {maxL : Nat} {ret : Option FieldType} {hh : List (Nat × Nat × Nat × Nat)}
    (hy : plainName y.cls = true) (hw : ws = Cond.codeWith y cc maxL ret hh :: ws')
    (body : ∀ p e s m args below meth c s₁, BodyLoose p l y (headSpec ws rm) cc maxL ret e s m args below meth c s₁ → c.maxLocals = maxL → Pc args s →
      W p l e (headSpec ws rm).room s m args below meth c s.heap [] 0 0 (vx_MQ below Qc XC args s mc ms free) (entryFrame m args maxL)) : vx_Met l y ws rm Pc Qc XC mc ms free := by
  refine MetFree.of_bodyS (code := cc) (maxLocals := maxL) (ret := ret) hy ?_ ?_
  · intro args s m h hn
    obtain ⟨m9, meth, c, hn9, h1, h2, h3, h4, -, h5, h6, -⟩ := Cond.codeWith_spec (atoms_spec (ws := ws) h _ (by rw [hw]; exact List.mem_cons_self))
    cases hn.symm.trans hn9
    exact ⟨meth, c, h1, h2, h3, h4, h5, h6⟩
  · intro p e s m args below meth c s₁ B hml hP _
    have hh0 : s₁.heap = s.heap := by rw [B.state]; rfl
    obtain ⟨t, a1, o, b1, b2, b3⟩ := body p e s m args below meth c s₁ B hml hP s₁ hh0 (Stand.of_body B)
    exact ⟨t, o, a1, b1, b2, b3⟩
/-! ===== END ===== -/
end
section
def RX0 : String := "TrenchMerge$Contexts"
def TX0 : u_T := fun k => match k with
  | _ => ("TrenchMerge$Contexts", "under", "[I", true)
def tyX0 : Nat → FieldType := fun k => match k with
  | _ => .array .int
abbrev wsX00 : List Cond := u_ws RX0 TX0 1
theorem nmX0 : ∀ a, a < 1 → ∀ b, b < 1 → a ≠ b → (TX0 a).2.1 ≠ (TX0 b).2.1 := by decide +kernel
theorem tyX0_ok : ∀ k, k < 1 → parseFieldDescriptor (TX0 k).2.2.1 = some (tyX0 k) := by decide +kernel
abbrev cX0_init : ByteArray := prog_2_method_1_code
def yX0_init : MethodName := ⟨RX0, "<init>", "()V"⟩
abbrev cX0_clear : ByteArray := prog_2_method_2_code
def yX0_clear : MethodName := ⟨RX0, "clear", "()V"⟩
abbrev cX0_isOver : ByteArray := prog_2_method_3_code
def yX0_isOver : MethodName := ⟨RX0, "isOver", "(II)Z"⟩
abbrev cX0_take : ByteArray := prog_2_method_4_code
def yX0_take : MethodName := ⟨RX0, "take", "(II)Z"⟩
abbrev cX0_isContext : ByteArray := prog_2_method_5_code
def yX0_isContext : MethodName := ⟨RX0, "isContext", "(I)Z"⟩
def RX1 : String := "TrenchMerge$Telling"
def TX1 : u_T := fun k => match k with
  | 0 => ("TrenchMerge$Telling", "id", "I", true)
  | 1 => ("TrenchMerge$Telling", "desk", "I", true)
  | 2 => ("TrenchMerge$Telling", "stamp", "I", true)
  | 3 => ("TrenchMerge$Telling", "sort", "I", true)
  | 4 => ("TrenchMerge$Telling", "thing", "I", true)
  | 5 => ("TrenchMerge$Telling", "value", "I", true)
  | 6 => ("TrenchMerge$Telling", "knownAt", "I", false)
  | 7 => ("TrenchMerge$Telling", "endedAt", "I", false)
  | 8 => ("TrenchMerge$Telling", "standsOpen", "Z", false)
  | 9 => ("TrenchMerge$Telling", "later", "LTrenchMerge$Telling;", false)
  | _ => ("TrenchMerge$Telling", "nextInRow", "LTrenchMerge$Telling;", false)
def tyX1 : Nat → FieldType := fun k => match k with
  | 0 => .int
  | 1 => .int
  | 2 => .int
  | 3 => .int
  | 4 => .int
  | 5 => .int
  | 6 => .int
  | 7 => .int
  | 8 => .boolean
  | 9 => .object "TrenchMerge$Telling"
  | _ => .object "TrenchMerge$Telling"
abbrev wsX10 : List Cond := u_ws RX1 TX1 11
theorem nmX1 : ∀ a, a < 11 → ∀ b, b < 11 → a ≠ b → (TX1 a).2.1 ≠ (TX1 b).2.1 := by decide +kernel
theorem tyX1_ok : ∀ k, k < 11 → parseFieldDescriptor (TX1 k).2.2.1 = some (tyX1 k) := by decide +kernel
abbrev cX1_init : ByteArray := prog_3_method_1_code
def yX1_init : MethodName := ⟨RX1, "<init>", "(IIIIII)V"⟩
abbrev cX1_isLaterThan : ByteArray := prog_3_method_2_code
def yX1_isLaterThan : MethodName := ⟨RX1, "isLaterThan", "(LTrenchMerge$Telling;)Z"⟩
abbrev cX1_isOfField : ByteArray := prog_3_method_3_code
def yX1_isOfField : MethodName := ⟨RX1, "isOfField", "(II)Z"⟩
abbrev cX1_isKnownAt : ByteArray := prog_3_method_4_code
def yX1_isKnownAt : MethodName := ⟨RX1, "isKnownAt", "(I)Z"⟩
abbrev cX1_isEndedAt : ByteArray := prog_3_method_5_code
def yX1_isEndedAt : MethodName := ⟨RX1, "isEndedAt", "(I)Z"⟩
abbrev cX1_endAt : ByteArray := prog_3_method_6_code
def yX1_endAt : MethodName := ⟨RX1, "endAt", "(I)V"⟩
abbrev cX1_pass : ByteArray := prog_3_method_7_code
def yX1_pass : MethodName := ⟨RX1, "pass", "(II)V"⟩
abbrev cX1_isForgotten : ByteArray := prog_3_method_8_code
def yX1_isForgotten : MethodName := ⟨RX1, "isForgotten", "()Z"⟩
abbrev cX1_forget : ByteArray := prog_3_method_9_code
def yX1_forget : MethodName := ⟨RX1, "forget", "()V"⟩
def RX2 : String := "TrenchMerge"
def TX2 : u_T := fun k => match k with
  | 0 => ("TrenchMerge", "tellings", "[LTrenchMerge$Telling;", true)
  | 1 => ("TrenchMerge", "rows", "[LTrenchMerge$Telling;", true)
  | 2 => ("TrenchMerge", "numbersGiven", "[I", true)
  | 3 => ("TrenchMerge", "contexts", "LTrenchMerge$Contexts;", true)
  | 4 => ("TrenchMerge", "earliest", "LTrenchMerge$Telling;", false)
  | _ => ("TrenchMerge", "made", "I", false)
def tyX2 : Nat → FieldType := fun k => match k with
  | 0 => .array (.object "TrenchMerge$Telling")
  | 1 => .array (.object "TrenchMerge$Telling")
  | 2 => .array .int
  | 3 => .object "TrenchMerge$Contexts"
  | 4 => .object "TrenchMerge$Telling"
  | _ => .int
abbrev wsX20 : List Cond := u_ws RX2 TX2 6
theorem nmX2 : ∀ a, a < 6 → ∀ b, b < 6 → a ≠ b → (TX2 a).2.1 ≠ (TX2 b).2.1 := by decide +kernel
theorem tyX2_ok : ∀ k, k < 6 → parseFieldDescriptor (TX2 k).2.2.1 = some (tyX2 k) := by decide +kernel
abbrev cX2_init : ByteArray := prog_1_method_1_code
def yX2_init : MethodName := ⟨RX2, "<init>", "()V"⟩
abbrev cX2_tell : ByteArray := prog_1_method_2_code
def yX2_tell : MethodName := ⟨RX2, "tell", "(IIII)I"⟩
abbrev cX2_insert : ByteArray := prog_1_method_3_code
def yX2_insert : MethodName := ⟨RX2, "insert", "(IIII)I"⟩
abbrev cX2_remove : ByteArray := prog_1_method_4_code
def yX2_remove : MethodName := ⟨RX2, "remove", "(II)I"⟩
abbrev cX2_relate : ByteArray := prog_1_method_5_code
def yX2_relate : MethodName := ⟨RX2, "relate", "(III)I"⟩
abbrev cX2_drop : ByteArray := prog_1_method_6_code
def yX2_drop : MethodName := ⟨RX2, "drop", "(II)I"⟩
abbrev cX2_join : ByteArray := prog_1_method_7_code
def yX2_join : MethodName := ⟨RX2, "join", "(II)I"⟩
abbrev cX2_number : ByteArray := prog_1_method_8_code
def yX2_number : MethodName := ⟨RX2, "number", "(I)I"⟩
abbrev cX2_at : ByteArray := prog_1_method_9_code
def yX2_at : MethodName := ⟨RX2, "at", "(IIII)I"⟩
abbrev cX2_place : ByteArray := prog_1_method_10_code
def yX2_place : MethodName := ⟨RX2, "place", "(III)I"⟩
abbrev cX2_order : ByteArray := prog_1_method_11_code
def yX2_order : MethodName := ⟨RX2, "order", "(III)I"⟩
abbrev cX2_open : ByteArray := prog_1_method_12_code
def yX2_open : MethodName := ⟨RX2, "open", "(II)I"⟩
abbrev cX2_knows : ByteArray := prog_1_method_13_code
def yX2_knows : MethodName := ⟨RX2, "knows", "(II)Z"⟩
abbrev cX2_equal : ByteArray := prog_1_method_14_code
def yX2_equal : MethodName := ⟨RX2, "equal", "(II)Z"⟩
abbrev cX2_compact : ByteArray := prog_1_method_15_code
def yX2_compact : MethodName := ⟨RX2, "compact", "()I"⟩
abbrev cX2_about : ByteArray := prog_1_method_16_code
def yX2_about : MethodName := ⟨RX2, "about", "(III)I"⟩
abbrev cX2_count : ByteArray := prog_1_method_17_code
def yX2_count : MethodName := ⟨RX2, "count", "(I)I"⟩
abbrev cX2_requireDesk : ByteArray := prog_1_method_18_code
def yX2_requireDesk : MethodName := ⟨RX2, "requireDesk", "(I)V"⟩
abbrev cX2_requireThing : ByteArray := prog_1_method_19_code
def yX2_requireThing : MethodName := ⟨RX2, "requireThing", "(I)V"⟩
abbrev cX2_requireField : ByteArray := prog_1_method_20_code
def yX2_requireField : MethodName := ⟨RX2, "requireField", "(II)V"⟩
abbrev cX2_requireContext : ByteArray := prog_1_method_21_code
def yX2_requireContext : MethodName := ⟨RX2, "requireContext", "(I)V"⟩
abbrev cX2_requireOrdinal : ByteArray := prog_1_method_22_code
def yX2_requireOrdinal : MethodName := ⟨RX2, "requireOrdinal", "(I)V"⟩
abbrev cX2_requireValue : ByteArray := prog_1_method_23_code
def yX2_requireValue : MethodName := ⟨RX2, "requireValue", "(II)V"⟩
abbrev cX2_findMade : ByteArray := prog_1_method_24_code
def yX2_findMade : MethodName := ⟨RX2, "findMade", "(I)LTrenchMerge$Telling;"⟩
abbrev cX2_findKnown : ByteArray := prog_1_method_25_code
def yX2_findKnown : MethodName := ⟨RX2, "findKnown", "(II)LTrenchMerge$Telling;"⟩
abbrev cX2_enter : ByteArray := prog_1_method_26_code
def yX2_enter : MethodName := ⟨RX2, "enter", "(IIII)LTrenchMerge$Telling;"⟩
abbrev cX2_end : ByteArray := prog_1_method_27_code
def yX2_end : MethodName := ⟨RX2, "end", "(IIII)I"⟩
abbrev cX2_greatestStamp : ByteArray := prog_1_method_28_code
def yX2_greatestStamp : MethodName := ⟨RX2, "greatestStamp", "(I)I"⟩
abbrev cX2_putByRank : ByteArray := prog_1_method_29_code
def yX2_putByRank : MethodName := ⟨RX2, "putByRank", "(LTrenchMerge$Telling;)V"⟩
abbrev cX2_putInRow : ByteArray := prog_1_method_30_code
def yX2_putInRow : MethodName := ⟨RX2, "putInRow", "(ILTrenchMerge$Telling;LTrenchMerge$Telling;)V"⟩
abbrev cX2_findInRow : ByteArray := prog_1_method_31_code
def yX2_findInRow : MethodName := ⟨RX2, "findInRow", "(III)LTrenchMerge$Telling;"⟩
abbrev cX2_latestValue : ByteArray := prog_1_method_32_code
def yX2_latestValue : MethodName := ⟨RX2, "latestValue", "(II)I"⟩
abbrev cX2_sumOfValues : ByteArray := prog_1_method_33_code
def yX2_sumOfValues : MethodName := ⟨RX2, "sumOfValues", "(II)I"⟩
abbrev cX2_memberOfUnion : ByteArray := prog_1_method_34_code
def yX2_memberOfUnion : MethodName := ⟨RX2, "memberOfUnion", "(III)I"⟩
abbrev cX2_takeRelations : ByteArray := prog_1_method_35_code
def yX2_takeRelations : MethodName := ⟨RX2, "takeRelations", "(I)V"⟩
abbrev cX2_isOutdone : ByteArray := prog_1_method_36_code
def yX2_isOutdone : MethodName := ⟨RX2, "isOutdone", "(LTrenchMerge$Telling;)Z"⟩
abbrev cX2_isSharedLatest : ByteArray := prog_1_method_37_code
def yX2_isSharedLatest : MethodName := ⟨RX2, "isSharedLatest", "(LTrenchMerge$Telling;)Z"⟩
abbrev cX2_countForgotten : ByteArray := prog_1_method_38_code
def yX2_countForgotten : MethodName := ⟨RX2, "countForgotten", "()I"⟩
abbrev cX2_countUnshared : ByteArray := prog_1_method_39_code
def yX2_countUnshared : MethodName := ⟨RX2, "countUnshared", "()I"⟩
def RX3 : String := "TrenchMergeModel"
def TX3 : u_T := fun k => match k with
  | 0 => ("TrenchMergeModel", "thrown", "I", false)
  | 1 => ("TrenchMergeModel", "made", "I", false)
  | 2 => ("TrenchMergeModel", "stamps", "[I", true)
  | 3 => ("TrenchMergeModel", "desks", "[I", true)
  | 4 => ("TrenchMergeModel", "sorts", "[I", true)
  | 5 => ("TrenchMergeModel", "things", "[I", true)
  | 6 => ("TrenchMergeModel", "values", "[I", true)
  | 7 => ("TrenchMergeModel", "behinds", "[I", true)
  | 8 => ("TrenchMergeModel", "forgotten", "[Z", true)
  | 9 => ("TrenchMergeModel", "known", "[Z", true)
  | 10 => ("TrenchMergeModel", "given", "[I", true)
  | 11 => ("TrenchMergeModel", "order", "[I", true)
  | 12 => ("TrenchMergeModel", "ordered", "I", false)
  | 13 => ("TrenchMergeModel", "over", "[Z", true)
  | 14 => ("TrenchMergeModel", "opens", "[I", true)
  | 15 => ("TrenchMergeModel", "manyOpen", "I", false)
  | _ => ("TrenchMergeModel", "goes", "[Z", true)
def tyX3 : Nat → FieldType := fun k => match k with
  | 0 => .int
  | 1 => .int
  | 2 => .array .int
  | 3 => .array .int
  | 4 => .array .int
  | 5 => .array .int
  | 6 => .array .int
  | 7 => .array .int
  | 8 => .array .boolean
  | 9 => .array .boolean
  | 10 => .array .int
  | 11 => .array .int
  | 12 => .int
  | 13 => .array .boolean
  | 14 => .array .int
  | 15 => .int
  | _ => .array .boolean
abbrev wsX30 : List Cond := u_ws RX3 TX3 17
theorem nmX3 : ∀ a, a < 17 → ∀ b, b < 17 → a ≠ b → (TX3 a).2.1 ≠ (TX3 b).2.1 := by decide +kernel
theorem tyX3_ok : ∀ k, k < 17 → parseFieldDescriptor (TX3 k).2.2.1 = some (tyX3 k) := by decide +kernel
abbrev cX3_init : ByteArray := prog_5_method_1_code
def yX3_init : MethodName := ⟨RX3, "<init>", "()V"⟩
abbrev cX3_thrown : ByteArray := prog_5_method_2_code
def yX3_thrown : MethodName := ⟨RX3, "thrown", "()I"⟩
abbrev cX3_goes : ByteArray := prog_5_method_3_code
def yX3_goes : MethodName := ⟨RX3, "goes", "(ZZZ)Z"⟩
abbrev cX3_within : ByteArray := prog_5_method_4_code
def yX3_within : MethodName := ⟨RX3, "within", "(III)Z"⟩
abbrev cX3_isDesk : ByteArray := prog_5_method_5_code
def yX3_isDesk : MethodName := ⟨RX3, "isDesk", "(I)Z"⟩
abbrev cX3_isThing : ByteArray := prog_5_method_6_code
def yX3_isThing : MethodName := ⟨RX3, "isThing", "(I)Z"⟩
abbrev cX3_knowsOf : ByteArray := prog_5_method_7_code
def yX3_knowsOf : MethodName := ⟨RX3, "knowsOf", "(II)Z"⟩
abbrev cX3_earlier : ByteArray := prog_5_method_8_code
def yX3_earlier : MethodName := ⟨RX3, "earlier", "(II)Z"⟩
abbrev cX3_make : ByteArray := prog_5_method_9_code
def yX3_make : MethodName := ⟨RX3, "make", "(IIIII)I"⟩
abbrev cX3_tell : ByteArray := prog_5_method_10_code
def yX3_tell : MethodName := ⟨RX3, "tell", "(IIII)I"⟩
abbrev cX3_insert : ByteArray := prog_5_method_11_code
def yX3_insert : MethodName := ⟨RX3, "insert", "(IIII)I"⟩
abbrev cX3_remove : ByteArray := prog_5_method_12_code
def yX3_remove : MethodName := ⟨RX3, "remove", "(II)I"⟩
abbrev cX3_relate : ByteArray := prog_5_method_13_code
def yX3_relate : MethodName := ⟨RX3, "relate", "(III)I"⟩
abbrev cX3_drop : ByteArray := prog_5_method_14_code
def yX3_drop : MethodName := ⟨RX3, "drop", "(II)I"⟩
abbrev cX3_join : ByteArray := prog_5_method_15_code
def yX3_join : MethodName := ⟨RX3, "join", "(II)I"⟩
abbrev cX3_number : ByteArray := prog_5_method_16_code
def yX3_number : MethodName := ⟨RX3, "number", "(I)I"⟩
abbrev cX3_isOf : ByteArray := prog_5_method_17_code
def yX3_isOf : MethodName := ⟨RX3, "isOf", "(IIII)Z"⟩
abbrev cX3_latest : ByteArray := prog_5_method_18_code
def yX3_latest : MethodName := ⟨RX3, "latest", "(II)I"⟩
abbrev cX3_sum : ByteArray := prog_5_method_19_code
def yX3_sum : MethodName := ⟨RX3, "sum", "(II)I"⟩
abbrev cX3_union : ByteArray := prog_5_method_20_code
def yX3_union : MethodName := ⟨RX3, "union", "(III)I"⟩
abbrev cX3_line : ByteArray := prog_5_method_21_code
def yX3_line : MethodName := ⟨RX3, "line", "(II)V"⟩
abbrev cX3_isRemoved : ByteArray := prog_5_method_22_code
def yX3_isRemoved : MethodName := ⟨RX3, "isRemoved", "(II)Z"⟩
abbrev cX3_standing : ByteArray := prog_5_method_23_code
def yX3_standing : MethodName := ⟨RX3, "standing", "(III)I"⟩
abbrev cX3_at : ByteArray := prog_5_method_24_code
def yX3_at : MethodName := ⟨RX3, "at", "(IIII)I"⟩
abbrev cX3_place : ByteArray := prog_5_method_25_code
def yX3_place : MethodName := ⟨RX3, "place", "(III)I"⟩
abbrev cX3_isDropped : ByteArray := prog_5_method_26_code
def yX3_isDropped : MethodName := ⟨RX3, "isDropped", "(II)Z"⟩
abbrev cX3_settle : ByteArray := prog_5_method_27_code
def yX3_settle : MethodName := ⟨RX3, "settle", "(I)V"⟩
abbrev cX3_take : ByteArray := prog_5_method_28_code
def yX3_take : MethodName := ⟨RX3, "take", "(I)V"⟩
abbrev cX3_order : ByteArray := prog_5_method_29_code
def yX3_order : MethodName := ⟨RX3, "order", "(III)I"⟩
abbrev cX3_open : ByteArray := prog_5_method_30_code
def yX3_open : MethodName := ⟨RX3, "open", "(II)I"⟩
abbrev cX3_knows : ByteArray := prog_5_method_31_code
def yX3_knows : MethodName := ⟨RX3, "knows", "(II)Z"⟩
abbrev cX3_equal : ByteArray := prog_5_method_32_code
def yX3_equal : MethodName := ⟨RX3, "equal", "(II)Z"⟩
abbrev cX3_isCommon : ByteArray := prog_5_method_33_code
def yX3_isCommon : MethodName := ⟨RX3, "isCommon", "(I)Z"⟩
abbrev cX3_isPast : ByteArray := prog_5_method_34_code
def yX3_isPast : MethodName := ⟨RX3, "isPast", "(I)Z"⟩
abbrev cX3_compact : ByteArray := prog_5_method_35_code
def yX3_compact : MethodName := ⟨RX3, "compact", "()I"⟩
abbrev cX3_about : ByteArray := prog_5_method_36_code
def yX3_about : MethodName := ⟨RX3, "about", "(III)I"⟩
abbrev cX3_count : ByteArray := prog_5_method_37_code
def yX3_count : MethodName := ⟨RX3, "count", "(I)I"⟩
def RL : String := "TrenchMergeLaw"
abbrev cL_tell : ByteArray := method_3_code
def yL_tell : MethodName := ⟨RL, "tell", "(LTrenchMerge;IIII[J)I"⟩
abbrev cL_insert : ByteArray := method_4_code
def yL_insert : MethodName := ⟨RL, "insert", "(LTrenchMerge;IIII[J)I"⟩
abbrev cL_remove : ByteArray := method_5_code
def yL_remove : MethodName := ⟨RL, "remove", "(LTrenchMerge;II[J)I"⟩
abbrev cL_relate : ByteArray := method_6_code
def yL_relate : MethodName := ⟨RL, "relate", "(LTrenchMerge;III[J)I"⟩
abbrev cL_drop : ByteArray := method_7_code
def yL_drop : MethodName := ⟨RL, "drop", "(LTrenchMerge;II[J)I"⟩
abbrev cL_join : ByteArray := method_8_code
def yL_join : MethodName := ⟨RL, "join", "(LTrenchMerge;II[J)I"⟩
abbrev cL_number : ByteArray := method_9_code
def yL_number : MethodName := ⟨RL, "number", "(LTrenchMerge;I[J)I"⟩
abbrev cL_at : ByteArray := method_10_code
def yL_at : MethodName := ⟨RL, "at", "(LTrenchMerge;IIII[J)I"⟩
abbrev cL_place : ByteArray := method_11_code
def yL_place : MethodName := ⟨RL, "place", "(LTrenchMerge;III[J)I"⟩
abbrev cL_order : ByteArray := method_12_code
def yL_order : MethodName := ⟨RL, "order", "(LTrenchMerge;III[J)I"⟩
abbrev cL_open : ByteArray := method_13_code
def yL_open : MethodName := ⟨RL, "open", "(LTrenchMerge;II[J)I"⟩
abbrev cL_knows : ByteArray := method_14_code
def yL_knows : MethodName := ⟨RL, "knows", "(LTrenchMerge;II[J)I"⟩
abbrev cL_equal : ByteArray := method_15_code
def yL_equal : MethodName := ⟨RL, "equal", "(LTrenchMerge;II[J)I"⟩
abbrev cL_about : ByteArray := method_16_code
def yL_about : MethodName := ⟨RL, "about", "(LTrenchMerge;III[J)I"⟩
abbrev cL_count : ByteArray := method_17_code
def yL_count : MethodName := ⟨RL, "count", "(LTrenchMerge;I[J)I"⟩
abbrev cL_law : ByteArray := code
def yL_law : MethodName := ⟨RL, "law", "([I)Z"⟩
abbrev vwCl : List vw_C := [(RX0, TX0, 1), (RX1, TX1, 11), (RX2, TX2, 6), (RX3, TX3, 17)]
end
section
theorem dX0_init_0 : decode cX0_init 0 = .ok (.aload_n 0, 1) := by decide +kernel
theorem dX0_init_1 : decode cX0_init 1 = .ok (.invokespecial 3, 3) := by decide +kernel
theorem dX0_init_4 : decode cX0_init 4 = .ok (.aload_n 0, 1) := by decide +kernel
theorem dX0_init_5 : decode cX0_init 5 = .ok (.bipush 16, 2) := by decide +kernel
theorem dX0_init_7 : decode cX0_init 7 = .ok (.newarray .int, 2) := by decide +kernel
theorem dX0_init_9 : decode cX0_init 9 = .ok (.putfield 9, 3) := by decide +kernel
theorem dX0_init_12 : decode cX0_init 12 = .ok (.return_, 1) := by decide +kernel
theorem dX0_clear_0 : decode cX0_clear 0 = .ok (.iconst 0, 1) := by decide +kernel
theorem dX0_clear_1 : decode cX0_clear 1 = .ok (.istore_n 1, 1) := by decide +kernel
theorem dX0_clear_2 : decode cX0_clear 2 = .ok (.iload_n 1, 1) := by decide +kernel
theorem dX0_clear_3 : decode cX0_clear 3 = .ok (.aload_n 0, 1) := by decide +kernel
theorem dX0_clear_4 : decode cX0_clear 4 = .ok (.getfield 9, 3) := by decide +kernel
theorem dX0_clear_7 : decode cX0_clear 7 = .ok (.arraylength, 1) := by decide +kernel
theorem dX0_clear_8 : decode cX0_clear 8 = .ok (.if_icmp .ge 16, 3) := by decide +kernel
theorem dX0_clear_11 : decode cX0_clear 11 = .ok (.aload_n 0, 1) := by decide +kernel
theorem dX0_clear_12 : decode cX0_clear 12 = .ok (.getfield 9, 3) := by decide +kernel
theorem dX0_clear_15 : decode cX0_clear 15 = .ok (.iload_n 1, 1) := by decide +kernel
theorem dX0_clear_16 : decode cX0_clear 16 = .ok (.iconst 0, 1) := by decide +kernel
theorem dX0_clear_17 : decode cX0_clear 17 = .ok (.iastore, 1) := by decide +kernel
theorem dX0_clear_18 : decode cX0_clear 18 = .ok (.iinc 1 1, 3) := by decide +kernel
theorem dX0_clear_21 : decode cX0_clear 21 = .ok (.goto (-19), 3) := by decide +kernel
theorem dX0_clear_24 : decode cX0_clear 24 = .ok (.return_, 1) := by decide +kernel
theorem dX0_isOver_0 : decode cX0_isOver 0 = .ok (.iload_n 1, 1) := by decide +kernel
theorem dX0_isOver_1 : decode cX0_isOver 1 = .ok (.invokestatic 15, 3) := by decide +kernel
theorem dX0_isOver_4 : decode cX0_isOver 4 = .ok (.ifCond .eq 21, 3) := by decide +kernel
theorem dX0_isOver_7 : decode cX0_isOver 7 = .ok (.aload_n 0, 1) := by decide +kernel
theorem dX0_isOver_8 : decode cX0_isOver 8 = .ok (.getfield 9, 3) := by decide +kernel
theorem dX0_isOver_11 : decode cX0_isOver 11 = .ok (.iload_n 1, 1) := by decide +kernel
theorem dX0_isOver_12 : decode cX0_isOver 12 = .ok (.iaload, 1) := by decide +kernel
theorem dX0_isOver_13 : decode cX0_isOver 13 = .ok (.iload_n 2, 1) := by decide +kernel
theorem dX0_isOver_14 : decode cX0_isOver 14 = .ok (.ishr, 1) := by decide +kernel
theorem dX0_isOver_15 : decode cX0_isOver 15 = .ok (.iconst 1, 1) := by decide +kernel
theorem dX0_isOver_16 : decode cX0_isOver 16 = .ok (.iand, 1) := by decide +kernel
theorem dX0_isOver_17 : decode cX0_isOver 17 = .ok (.iconst 1, 1) := by decide +kernel
theorem dX0_isOver_18 : decode cX0_isOver 18 = .ok (.if_icmp .ne 7, 3) := by decide +kernel
theorem dX0_isOver_21 : decode cX0_isOver 21 = .ok (.iconst 1, 1) := by decide +kernel
theorem dX0_isOver_22 : decode cX0_isOver 22 = .ok (.goto 4, 3) := by decide +kernel
theorem dX0_isOver_25 : decode cX0_isOver 25 = .ok (.iconst 0, 1) := by decide +kernel
theorem dX0_isOver_26 : decode cX0_isOver 26 = .ok (.ireturn, 1) := by decide +kernel
theorem dX0_take_0 : decode cX0_take 0 = .ok (.iload_n 1, 1) := by decide +kernel
theorem dX0_take_1 : decode cX0_take 1 = .ok (.invokestatic 15, 3) := by decide +kernel
theorem dX0_take_4 : decode cX0_take 4 = .ok (.ifCond .eq 24, 3) := by decide +kernel
theorem dX0_take_7 : decode cX0_take 7 = .ok (.iload_n 2, 1) := by decide +kernel
theorem dX0_take_8 : decode cX0_take 8 = .ok (.invokestatic 15, 3) := by decide +kernel
theorem dX0_take_11 : decode cX0_take 11 = .ok (.ifCond .eq 17, 3) := by decide +kernel
theorem dX0_take_14 : decode cX0_take 14 = .ok (.iload_n 1, 1) := by decide +kernel
theorem dX0_take_15 : decode cX0_take 15 = .ok (.iload_n 2, 1) := by decide +kernel
theorem dX0_take_16 : decode cX0_take 16 = .ok (.if_icmp .eq 12, 3) := by decide +kernel
theorem dX0_take_19 : decode cX0_take 19 = .ok (.aload_n 0, 1) := by decide +kernel
theorem dX0_take_20 : decode cX0_take 20 = .ok (.iload_n 2, 1) := by decide +kernel
theorem dX0_take_21 : decode cX0_take 21 = .ok (.iload_n 1, 1) := by decide +kernel
theorem dX0_take_22 : decode cX0_take 22 = .ok (.invokevirtual 19, 3) := by decide +kernel
theorem dX0_take_25 : decode cX0_take 25 = .ok (.ifCond .eq 5, 3) := by decide +kernel
theorem dX0_take_28 : decode cX0_take 28 = .ok (.iconst 0, 1) := by decide +kernel
theorem dX0_take_29 : decode cX0_take 29 = .ok (.ireturn, 1) := by decide +kernel
theorem dX0_take_30 : decode cX0_take 30 = .ok (.aload_n 0, 1) := by decide +kernel
theorem dX0_take_31 : decode cX0_take 31 = .ok (.getfield 9, 3) := by decide +kernel
theorem dX0_take_34 : decode cX0_take 34 = .ok (.iload_n 2, 1) := by decide +kernel
theorem dX0_take_35 : decode cX0_take 35 = .ok (.iaload, 1) := by decide +kernel
theorem dX0_take_36 : decode cX0_take 36 = .ok (.iconst 1, 1) := by decide +kernel
theorem dX0_take_37 : decode cX0_take 37 = .ok (.iload_n 2, 1) := by decide +kernel
theorem dX0_take_38 : decode cX0_take 38 = .ok (.ishl, 1) := by decide +kernel
theorem dX0_take_39 : decode cX0_take 39 = .ok (.ior, 1) := by decide +kernel
theorem dX0_take_40 : decode cX0_take 40 = .ok (.istore_n 3, 1) := by decide +kernel
theorem dX0_take_41 : decode cX0_take 41 = .ok (.iconst 0, 1) := by decide +kernel
theorem dX0_take_42 : decode cX0_take 42 = .ok (.istore 4, 2) := by decide +kernel
theorem dX0_take_44 : decode cX0_take 44 = .ok (.iload 4, 2) := by decide +kernel
theorem dX0_take_46 : decode cX0_take 46 = .ok (.aload_n 0, 1) := by decide +kernel
theorem dX0_take_47 : decode cX0_take 47 = .ok (.getfield 9, 3) := by decide +kernel
theorem dX0_take_50 : decode cX0_take 50 = .ok (.arraylength, 1) := by decide +kernel
theorem dX0_take_51 : decode cX0_take 51 = .ok (.if_icmp .ge 36, 3) := by decide +kernel
theorem dX0_take_54 : decode cX0_take 54 = .ok (.iload 4, 2) := by decide +kernel
theorem dX0_take_56 : decode cX0_take 56 = .ok (.iload_n 1, 1) := by decide +kernel
theorem dX0_take_57 : decode cX0_take 57 = .ok (.if_icmp .eq 13, 3) := by decide +kernel
theorem dX0_take_60 : decode cX0_take 60 = .ok (.aload_n 0, 1) := by decide +kernel
theorem dX0_take_61 : decode cX0_take 61 = .ok (.iload 4, 2) := by decide +kernel
theorem dX0_take_63 : decode cX0_take 63 = .ok (.iload_n 1, 1) := by decide +kernel
theorem dX0_take_64 : decode cX0_take 64 = .ok (.invokevirtual 19, 3) := by decide +kernel
theorem dX0_take_67 : decode cX0_take 67 = .ok (.ifCond .eq 14, 3) := by decide +kernel
theorem dX0_take_70 : decode cX0_take 70 = .ok (.aload_n 0, 1) := by decide +kernel
theorem dX0_take_71 : decode cX0_take 71 = .ok (.getfield 9, 3) := by decide +kernel
theorem dX0_take_74 : decode cX0_take 74 = .ok (.iload 4, 2) := by decide +kernel
theorem dX0_take_76 : decode cX0_take 76 = .ok (.dup2, 1) := by decide +kernel
theorem dX0_take_77 : decode cX0_take 77 = .ok (.iaload, 1) := by decide +kernel
theorem dX0_take_78 : decode cX0_take 78 = .ok (.iload_n 3, 1) := by decide +kernel
theorem dX0_take_79 : decode cX0_take 79 = .ok (.ior, 1) := by decide +kernel
theorem dX0_take_80 : decode cX0_take 80 = .ok (.iastore, 1) := by decide +kernel
theorem dX0_take_81 : decode cX0_take 81 = .ok (.iinc 4 1, 3) := by decide +kernel
theorem dX0_take_84 : decode cX0_take 84 = .ok (.goto (-40), 3) := by decide +kernel
theorem dX0_take_87 : decode cX0_take 87 = .ok (.iconst 1, 1) := by decide +kernel
theorem dX0_take_88 : decode cX0_take 88 = .ok (.ireturn, 1) := by decide +kernel
theorem dX0_isContext_0 : decode cX0_isContext 0 = .ok (.iload_n 0, 1) := by decide +kernel
theorem dX0_isContext_1 : decode cX0_isContext 1 = .ok (.ifCond .lt 13, 3) := by decide +kernel
theorem dX0_isContext_4 : decode cX0_isContext 4 = .ok (.iload_n 0, 1) := by decide +kernel
theorem dX0_isContext_5 : decode cX0_isContext 5 = .ok (.bipush 16, 2) := by decide +kernel
theorem dX0_isContext_7 : decode cX0_isContext 7 = .ok (.if_icmp .ge 7, 3) := by decide +kernel
theorem dX0_isContext_10 : decode cX0_isContext 10 = .ok (.iconst 1, 1) := by decide +kernel
theorem dX0_isContext_11 : decode cX0_isContext 11 = .ok (.goto 4, 3) := by decide +kernel
theorem dX0_isContext_14 : decode cX0_isContext 14 = .ok (.iconst 0, 1) := by decide +kernel
theorem dX0_isContext_15 : decode cX0_isContext 15 = .ok (.ireturn, 1) := by decide +kernel
theorem dX1_init_0 : decode cX1_init 0 = .ok (.aload_n 0, 1) := by decide +kernel
theorem dX1_init_1 : decode cX1_init 1 = .ok (.invokespecial 1, 3) := by decide +kernel
theorem dX1_init_4 : decode cX1_init 4 = .ok (.aload_n 0, 1) := by decide +kernel
theorem dX1_init_5 : decode cX1_init 5 = .ok (.iload_n 1, 1) := by decide +kernel
theorem dX1_init_6 : decode cX1_init 6 = .ok (.putfield 7, 3) := by decide +kernel
theorem dX1_init_9 : decode cX1_init 9 = .ok (.aload_n 0, 1) := by decide +kernel
theorem dX1_init_10 : decode cX1_init 10 = .ok (.iload_n 2, 1) := by decide +kernel
theorem dX1_init_11 : decode cX1_init 11 = .ok (.putfield 13, 3) := by decide +kernel
theorem dX1_init_14 : decode cX1_init 14 = .ok (.aload_n 0, 1) := by decide +kernel
theorem dX1_init_15 : decode cX1_init 15 = .ok (.iload_n 3, 1) := by decide +kernel
theorem dX1_init_16 : decode cX1_init 16 = .ok (.putfield 16, 3) := by decide +kernel
theorem dX1_init_19 : decode cX1_init 19 = .ok (.aload_n 0, 1) := by decide +kernel
theorem dX1_init_20 : decode cX1_init 20 = .ok (.iload 4, 2) := by decide +kernel
theorem dX1_init_22 : decode cX1_init 22 = .ok (.putfield 19, 3) := by decide +kernel
theorem dX1_init_25 : decode cX1_init 25 = .ok (.aload_n 0, 1) := by decide +kernel
theorem dX1_init_26 : decode cX1_init 26 = .ok (.iload 5, 2) := by decide +kernel
theorem dX1_init_28 : decode cX1_init 28 = .ok (.putfield 22, 3) := by decide +kernel
theorem dX1_init_31 : decode cX1_init 31 = .ok (.aload_n 0, 1) := by decide +kernel
theorem dX1_init_32 : decode cX1_init 32 = .ok (.iload 6, 2) := by decide +kernel
theorem dX1_init_34 : decode cX1_init 34 = .ok (.putfield 25, 3) := by decide +kernel
theorem dX1_init_37 : decode cX1_init 37 = .ok (.aload_n 0, 1) := by decide +kernel
theorem dX1_init_38 : decode cX1_init 38 = .ok (.iconst 1, 1) := by decide +kernel
theorem dX1_init_39 : decode cX1_init 39 = .ok (.iload_n 2, 1) := by decide +kernel
theorem dX1_init_40 : decode cX1_init 40 = .ok (.ishl, 1) := by decide +kernel
theorem dX1_init_41 : decode cX1_init 41 = .ok (.putfield 28, 3) := by decide +kernel
theorem dX1_init_44 : decode cX1_init 44 = .ok (.aload_n 0, 1) := by decide +kernel
theorem dX1_init_45 : decode cX1_init 45 = .ok (.iconst 0, 1) := by decide +kernel
theorem dX1_init_46 : decode cX1_init 46 = .ok (.putfield 31, 3) := by decide +kernel
theorem dX1_init_49 : decode cX1_init 49 = .ok (.aload_n 0, 1) := by decide +kernel
theorem dX1_init_50 : decode cX1_init 50 = .ok (.iconst 0, 1) := by decide +kernel
theorem dX1_init_51 : decode cX1_init 51 = .ok (.putfield 34, 3) := by decide +kernel
theorem dX1_init_54 : decode cX1_init 54 = .ok (.aload_n 0, 1) := by decide +kernel
theorem dX1_init_55 : decode cX1_init 55 = .ok (.aconst_null, 1) := by decide +kernel
theorem dX1_init_56 : decode cX1_init 56 = .ok (.putfield 38, 3) := by decide +kernel
theorem dX1_init_59 : decode cX1_init 59 = .ok (.aload_n 0, 1) := by decide +kernel
theorem dX1_init_60 : decode cX1_init 60 = .ok (.aconst_null, 1) := by decide +kernel
theorem dX1_init_61 : decode cX1_init 61 = .ok (.putfield 42, 3) := by decide +kernel
theorem dX1_init_64 : decode cX1_init 64 = .ok (.return_, 1) := by decide +kernel
theorem dX1_isLaterThan_0 : decode cX1_isLaterThan 0 = .ok (.aload_n 0, 1) := by decide +kernel
theorem dX1_isLaterThan_1 : decode cX1_isLaterThan 1 = .ok (.getfield 16, 3) := by decide +kernel
theorem dX1_isLaterThan_4 : decode cX1_isLaterThan 4 = .ok (.aload_n 1, 1) := by decide +kernel
theorem dX1_isLaterThan_5 : decode cX1_isLaterThan 5 = .ok (.getfield 16, 3) := by decide +kernel
theorem dX1_isLaterThan_8 : decode cX1_isLaterThan 8 = .ok (.if_icmp .eq 22, 3) := by decide +kernel
theorem dX1_isLaterThan_11 : decode cX1_isLaterThan 11 = .ok (.aload_n 0, 1) := by decide +kernel
theorem dX1_isLaterThan_12 : decode cX1_isLaterThan 12 = .ok (.getfield 16, 3) := by decide +kernel
theorem dX1_isLaterThan_15 : decode cX1_isLaterThan 15 = .ok (.aload_n 1, 1) := by decide +kernel
theorem dX1_isLaterThan_16 : decode cX1_isLaterThan 16 = .ok (.getfield 16, 3) := by decide +kernel
theorem dX1_isLaterThan_19 : decode cX1_isLaterThan 19 = .ok (.if_icmp .le 7, 3) := by decide +kernel
theorem dX1_isLaterThan_22 : decode cX1_isLaterThan 22 = .ok (.iconst 1, 1) := by decide +kernel
theorem dX1_isLaterThan_23 : decode cX1_isLaterThan 23 = .ok (.goto 23, 3) := by decide +kernel
theorem dX1_isLaterThan_26 : decode cX1_isLaterThan 26 = .ok (.iconst 0, 1) := by decide +kernel
theorem dX1_isLaterThan_27 : decode cX1_isLaterThan 27 = .ok (.goto 19, 3) := by decide +kernel
theorem dX1_isLaterThan_30 : decode cX1_isLaterThan 30 = .ok (.aload_n 0, 1) := by decide +kernel
theorem dX1_isLaterThan_31 : decode cX1_isLaterThan 31 = .ok (.getfield 13, 3) := by decide +kernel
theorem dX1_isLaterThan_34 : decode cX1_isLaterThan 34 = .ok (.aload_n 1, 1) := by decide +kernel
theorem dX1_isLaterThan_35 : decode cX1_isLaterThan 35 = .ok (.getfield 13, 3) := by decide +kernel
theorem dX1_isLaterThan_38 : decode cX1_isLaterThan 38 = .ok (.if_icmp .le 7, 3) := by decide +kernel
theorem dX1_isLaterThan_41 : decode cX1_isLaterThan 41 = .ok (.iconst 1, 1) := by decide +kernel
theorem dX1_isLaterThan_42 : decode cX1_isLaterThan 42 = .ok (.goto 4, 3) := by decide +kernel
theorem dX1_isLaterThan_45 : decode cX1_isLaterThan 45 = .ok (.iconst 0, 1) := by decide +kernel
theorem dX1_isLaterThan_46 : decode cX1_isLaterThan 46 = .ok (.ireturn, 1) := by decide +kernel
theorem dX1_isOfField_0 : decode cX1_isOfField 0 = .ok (.aload_n 0, 1) := by decide +kernel
theorem dX1_isOfField_1 : decode cX1_isOfField 1 = .ok (.getfield 22, 3) := by decide +kernel
theorem dX1_isOfField_4 : decode cX1_isOfField 4 = .ok (.iload_n 1, 1) := by decide +kernel
theorem dX1_isOfField_5 : decode cX1_isOfField 5 = .ok (.if_icmp .ne 15, 3) := by decide +kernel
theorem dX1_isOfField_8 : decode cX1_isOfField 8 = .ok (.aload_n 0, 1) := by decide +kernel
theorem dX1_isOfField_9 : decode cX1_isOfField 9 = .ok (.getfield 19, 3) := by decide +kernel
theorem dX1_isOfField_12 : decode cX1_isOfField 12 = .ok (.iload_n 2, 1) := by decide +kernel
theorem dX1_isOfField_13 : decode cX1_isOfField 13 = .ok (.if_icmp .ne 7, 3) := by decide +kernel
theorem dX1_isOfField_16 : decode cX1_isOfField 16 = .ok (.iconst 1, 1) := by decide +kernel
theorem dX1_isOfField_17 : decode cX1_isOfField 17 = .ok (.goto 4, 3) := by decide +kernel
theorem dX1_isOfField_20 : decode cX1_isOfField 20 = .ok (.iconst 0, 1) := by decide +kernel
theorem dX1_isOfField_21 : decode cX1_isOfField 21 = .ok (.ireturn, 1) := by decide +kernel
theorem dX1_isKnownAt_0 : decode cX1_isKnownAt 0 = .ok (.aload_n 0, 1) := by decide +kernel
theorem dX1_isKnownAt_1 : decode cX1_isKnownAt 1 = .ok (.getfield 28, 3) := by decide +kernel
theorem dX1_isKnownAt_4 : decode cX1_isKnownAt 4 = .ok (.iload_n 1, 1) := by decide +kernel
theorem dX1_isKnownAt_5 : decode cX1_isKnownAt 5 = .ok (.ishr, 1) := by decide +kernel
theorem dX1_isKnownAt_6 : decode cX1_isKnownAt 6 = .ok (.iconst 1, 1) := by decide +kernel
theorem dX1_isKnownAt_7 : decode cX1_isKnownAt 7 = .ok (.iand, 1) := by decide +kernel
theorem dX1_isKnownAt_8 : decode cX1_isKnownAt 8 = .ok (.iconst 1, 1) := by decide +kernel
theorem dX1_isKnownAt_9 : decode cX1_isKnownAt 9 = .ok (.if_icmp .ne 7, 3) := by decide +kernel
theorem dX1_isKnownAt_12 : decode cX1_isKnownAt 12 = .ok (.iconst 1, 1) := by decide +kernel
theorem dX1_isKnownAt_13 : decode cX1_isKnownAt 13 = .ok (.goto 4, 3) := by decide +kernel
theorem dX1_isKnownAt_16 : decode cX1_isKnownAt 16 = .ok (.iconst 0, 1) := by decide +kernel
theorem dX1_isKnownAt_17 : decode cX1_isKnownAt 17 = .ok (.ireturn, 1) := by decide +kernel
theorem dX1_isEndedAt_0 : decode cX1_isEndedAt 0 = .ok (.aload_n 0, 1) := by decide +kernel
theorem dX1_isEndedAt_1 : decode cX1_isEndedAt 1 = .ok (.getfield 31, 3) := by decide +kernel
theorem dX1_isEndedAt_4 : decode cX1_isEndedAt 4 = .ok (.iload_n 1, 1) := by decide +kernel
theorem dX1_isEndedAt_5 : decode cX1_isEndedAt 5 = .ok (.ishr, 1) := by decide +kernel
theorem dX1_isEndedAt_6 : decode cX1_isEndedAt 6 = .ok (.iconst 1, 1) := by decide +kernel
theorem dX1_isEndedAt_7 : decode cX1_isEndedAt 7 = .ok (.iand, 1) := by decide +kernel
theorem dX1_isEndedAt_8 : decode cX1_isEndedAt 8 = .ok (.iconst 1, 1) := by decide +kernel
theorem dX1_isEndedAt_9 : decode cX1_isEndedAt 9 = .ok (.if_icmp .ne 7, 3) := by decide +kernel
theorem dX1_isEndedAt_12 : decode cX1_isEndedAt 12 = .ok (.iconst 1, 1) := by decide +kernel
theorem dX1_isEndedAt_13 : decode cX1_isEndedAt 13 = .ok (.goto 4, 3) := by decide +kernel
theorem dX1_isEndedAt_16 : decode cX1_isEndedAt 16 = .ok (.iconst 0, 1) := by decide +kernel
theorem dX1_isEndedAt_17 : decode cX1_isEndedAt 17 = .ok (.ireturn, 1) := by decide +kernel
theorem dX1_endAt_0 : decode cX1_endAt 0 = .ok (.aload_n 0, 1) := by decide +kernel
theorem dX1_endAt_1 : decode cX1_endAt 1 = .ok (.dup, 1) := by decide +kernel
theorem dX1_endAt_2 : decode cX1_endAt 2 = .ok (.getfield 31, 3) := by decide +kernel
theorem dX1_endAt_5 : decode cX1_endAt 5 = .ok (.iconst 1, 1) := by decide +kernel
theorem dX1_endAt_6 : decode cX1_endAt 6 = .ok (.iload_n 1, 1) := by decide +kernel
theorem dX1_endAt_7 : decode cX1_endAt 7 = .ok (.ishl, 1) := by decide +kernel
theorem dX1_endAt_8 : decode cX1_endAt 8 = .ok (.ior, 1) := by decide +kernel
theorem dX1_endAt_9 : decode cX1_endAt 9 = .ok (.putfield 31, 3) := by decide +kernel
theorem dX1_endAt_12 : decode cX1_endAt 12 = .ok (.return_, 1) := by decide +kernel
theorem dX1_pass_0 : decode cX1_pass 0 = .ok (.aload_n 0, 1) := by decide +kernel
theorem dX1_pass_1 : decode cX1_pass 1 = .ok (.dup, 1) := by decide +kernel
theorem dX1_pass_2 : decode cX1_pass 2 = .ok (.getfield 28, 3) := by decide +kernel
theorem dX1_pass_5 : decode cX1_pass 5 = .ok (.aload_n 0, 1) := by decide +kernel
theorem dX1_pass_6 : decode cX1_pass 6 = .ok (.getfield 28, 3) := by decide +kernel
theorem dX1_pass_9 : decode cX1_pass 9 = .ok (.iload_n 1, 1) := by decide +kernel
theorem dX1_pass_10 : decode cX1_pass 10 = .ok (.ishr, 1) := by decide +kernel
theorem dX1_pass_11 : decode cX1_pass 11 = .ok (.iconst 1, 1) := by decide +kernel
theorem dX1_pass_12 : decode cX1_pass 12 = .ok (.iand, 1) := by decide +kernel
theorem dX1_pass_13 : decode cX1_pass 13 = .ok (.iload_n 2, 1) := by decide +kernel
theorem dX1_pass_14 : decode cX1_pass 14 = .ok (.ishl, 1) := by decide +kernel
theorem dX1_pass_15 : decode cX1_pass 15 = .ok (.ior, 1) := by decide +kernel
theorem dX1_pass_16 : decode cX1_pass 16 = .ok (.putfield 28, 3) := by decide +kernel
theorem dX1_pass_19 : decode cX1_pass 19 = .ok (.aload_n 0, 1) := by decide +kernel
theorem dX1_pass_20 : decode cX1_pass 20 = .ok (.dup, 1) := by decide +kernel
theorem dX1_pass_21 : decode cX1_pass 21 = .ok (.getfield 31, 3) := by decide +kernel
theorem dX1_pass_24 : decode cX1_pass 24 = .ok (.aload_n 0, 1) := by decide +kernel
theorem dX1_pass_25 : decode cX1_pass 25 = .ok (.getfield 31, 3) := by decide +kernel
theorem dX1_pass_28 : decode cX1_pass 28 = .ok (.iload_n 1, 1) := by decide +kernel
theorem dX1_pass_29 : decode cX1_pass 29 = .ok (.ishr, 1) := by decide +kernel
theorem dX1_pass_30 : decode cX1_pass 30 = .ok (.iconst 1, 1) := by decide +kernel
theorem dX1_pass_31 : decode cX1_pass 31 = .ok (.iand, 1) := by decide +kernel
theorem dX1_pass_32 : decode cX1_pass 32 = .ok (.iload_n 2, 1) := by decide +kernel
theorem dX1_pass_33 : decode cX1_pass 33 = .ok (.ishl, 1) := by decide +kernel
theorem dX1_pass_34 : decode cX1_pass 34 = .ok (.ior, 1) := by decide +kernel
theorem dX1_pass_35 : decode cX1_pass 35 = .ok (.putfield 31, 3) := by decide +kernel
theorem dX1_pass_38 : decode cX1_pass 38 = .ok (.return_, 1) := by decide +kernel
theorem dX1_isForgotten_0 : decode cX1_isForgotten 0 = .ok (.aload_n 0, 1) := by decide +kernel
theorem dX1_isForgotten_1 : decode cX1_isForgotten 1 = .ok (.getfield 28, 3) := by decide +kernel
theorem dX1_isForgotten_4 : decode cX1_isForgotten 4 = .ok (.ifCond .ne 7, 3) := by decide +kernel
theorem dX1_isForgotten_7 : decode cX1_isForgotten 7 = .ok (.iconst 1, 1) := by decide +kernel
theorem dX1_isForgotten_8 : decode cX1_isForgotten 8 = .ok (.goto 4, 3) := by decide +kernel
theorem dX1_isForgotten_11 : decode cX1_isForgotten 11 = .ok (.iconst 0, 1) := by decide +kernel
theorem dX1_isForgotten_12 : decode cX1_isForgotten 12 = .ok (.ireturn, 1) := by decide +kernel
theorem dX1_forget_0 : decode cX1_forget 0 = .ok (.aload_n 0, 1) := by decide +kernel
theorem dX1_forget_1 : decode cX1_forget 1 = .ok (.iconst 0, 1) := by decide +kernel
theorem dX1_forget_2 : decode cX1_forget 2 = .ok (.putfield 28, 3) := by decide +kernel
theorem dX1_forget_5 : decode cX1_forget 5 = .ok (.return_, 1) := by decide +kernel
theorem dX2_init_0 : decode cX2_init 0 = .ok (.aload_n 0, 1) := by decide +kernel
theorem dX2_init_1 : decode cX2_init 1 = .ok (.invokespecial 3, 3) := by decide +kernel
theorem dX2_init_4 : decode cX2_init 4 = .ok (.aload_n 0, 1) := by decide +kernel
theorem dX2_init_5 : decode cX2_init 5 = .ok (.bipush 120, 2) := by decide +kernel
theorem dX2_init_7 : decode cX2_init 7 = .ok (.anewarray 9, 3) := by decide +kernel
theorem dX2_init_10 : decode cX2_init 10 = .ok (.putfield 11, 3) := by decide +kernel
theorem dX2_init_13 : decode cX2_init 13 = .ok (.aload_n 0, 1) := by decide +kernel
theorem dX2_init_14 : decode cX2_init 14 = .ok (.bipush 16, 2) := by decide +kernel
theorem dX2_init_16 : decode cX2_init 16 = .ok (.anewarray 9, 3) := by decide +kernel
theorem dX2_init_19 : decode cX2_init 19 = .ok (.putfield 15, 3) := by decide +kernel
theorem dX2_init_22 : decode cX2_init 22 = .ok (.aload_n 0, 1) := by decide +kernel
theorem dX2_init_23 : decode cX2_init 23 = .ok (.bipush 6, 2) := by decide +kernel
theorem dX2_init_25 : decode cX2_init 25 = .ok (.newarray .int, 2) := by decide +kernel
theorem dX2_init_27 : decode cX2_init 27 = .ok (.putfield 18, 3) := by decide +kernel
theorem dX2_init_30 : decode cX2_init 30 = .ok (.aload_n 0, 1) := by decide +kernel
theorem dX2_init_31 : decode cX2_init 31 = .ok (.new 22, 3) := by decide +kernel
theorem dX2_init_34 : decode cX2_init 34 = .ok (.dup, 1) := by decide +kernel
theorem dX2_init_35 : decode cX2_init 35 = .ok (.invokespecial 24, 3) := by decide +kernel
theorem dX2_init_38 : decode cX2_init 38 = .ok (.putfield 25, 3) := by decide +kernel
theorem dX2_init_41 : decode cX2_init 41 = .ok (.aload_n 0, 1) := by decide +kernel
theorem dX2_init_42 : decode cX2_init 42 = .ok (.aconst_null, 1) := by decide +kernel
theorem dX2_init_43 : decode cX2_init 43 = .ok (.putfield 29, 3) := by decide +kernel
theorem dX2_init_46 : decode cX2_init 46 = .ok (.aload_n 0, 1) := by decide +kernel
theorem dX2_init_47 : decode cX2_init 47 = .ok (.iconst 0, 1) := by decide +kernel
theorem dX2_init_48 : decode cX2_init 48 = .ok (.putfield 33, 3) := by decide +kernel
theorem dX2_init_51 : decode cX2_init 51 = .ok (.return_, 1) := by decide +kernel
theorem dX2_tell_0 : decode cX2_tell 0 = .ok (.iload_n 1, 1) := by decide +kernel
theorem dX2_tell_1 : decode cX2_tell 1 = .ok (.invokestatic 37, 3) := by decide +kernel
theorem dX2_tell_4 : decode cX2_tell 4 = .ok (.iload_n 2, 1) := by decide +kernel
theorem dX2_tell_5 : decode cX2_tell 5 = .ok (.invokestatic 41, 3) := by decide +kernel
theorem dX2_tell_8 : decode cX2_tell 8 = .ok (.iload_n 3, 1) := by decide +kernel
theorem dX2_tell_9 : decode cX2_tell 9 = .ok (.iconst 2, 1) := by decide +kernel
theorem dX2_tell_10 : decode cX2_tell 10 = .ok (.invokestatic 44, 3) := by decide +kernel
theorem dX2_tell_13 : decode cX2_tell 13 = .ok (.iload 4, 2) := by decide +kernel
theorem dX2_tell_15 : decode cX2_tell 15 = .ok (.iload_n 3, 1) := by decide +kernel
theorem dX2_tell_16 : decode cX2_tell 16 = .ok (.iconst 2, 1) := by decide +kernel
theorem dX2_tell_17 : decode cX2_tell 17 = .ok (.if_icmp .ne 8, 3) := by decide +kernel
theorem dX2_tell_20 : decode cX2_tell 20 = .ok (.bipush 32, 2) := by decide +kernel
theorem dX2_tell_22 : decode cX2_tell 22 = .ok (.goto 6, 3) := by decide +kernel
theorem dX2_tell_25 : decode cX2_tell 25 = .ok (.sipush 1000, 3) := by decide +kernel
theorem dX2_tell_28 : decode cX2_tell 28 = .ok (.invokestatic 48, 3) := by decide +kernel
theorem dX2_tell_31 : decode cX2_tell 31 = .ok (.aload_n 0, 1) := by decide +kernel
theorem dX2_tell_32 : decode cX2_tell 32 = .ok (.iload_n 1, 1) := by decide +kernel
theorem dX2_tell_33 : decode cX2_tell 33 = .ok (.iload_n 3, 1) := by decide +kernel
theorem dX2_tell_34 : decode cX2_tell 34 = .ok (.iload_n 2, 1) := by decide +kernel
theorem dX2_tell_35 : decode cX2_tell 35 = .ok (.iload 4, 2) := by decide +kernel
theorem dX2_tell_37 : decode cX2_tell 37 = .ok (.invokevirtual 51, 3) := by decide +kernel
theorem dX2_tell_40 : decode cX2_tell 40 = .ok (.getfield 55, 3) := by decide +kernel
theorem dX2_tell_43 : decode cX2_tell 43 = .ok (.ireturn, 1) := by decide +kernel
theorem dX2_insert_0 : decode cX2_insert 0 = .ok (.iload_n 1, 1) := by decide +kernel
theorem dX2_insert_1 : decode cX2_insert 1 = .ok (.invokestatic 37, 3) := by decide +kernel
theorem dX2_insert_4 : decode cX2_insert 4 = .ok (.iload_n 2, 1) := by decide +kernel
theorem dX2_insert_5 : decode cX2_insert 5 = .ok (.invokestatic 41, 3) := by decide +kernel
theorem dX2_insert_8 : decode cX2_insert 8 = .ok (.iload_n 3, 1) := by decide +kernel
theorem dX2_insert_9 : decode cX2_insert 9 = .ok (.iconst (-1), 1) := by decide +kernel
theorem dX2_insert_10 : decode cX2_insert 10 = .ok (.if_icmp .ne 7, 3) := by decide +kernel
theorem dX2_insert_13 : decode cX2_insert 13 = .ok (.aconst_null, 1) := by decide +kernel
theorem dX2_insert_14 : decode cX2_insert 14 = .ok (.goto 9, 3) := by decide +kernel
theorem dX2_insert_17 : decode cX2_insert 17 = .ok (.aload_n 0, 1) := by decide +kernel
theorem dX2_insert_18 : decode cX2_insert 18 = .ok (.iload_n 1, 1) := by decide +kernel
theorem dX2_insert_19 : decode cX2_insert 19 = .ok (.iload_n 3, 1) := by decide +kernel
theorem dX2_insert_20 : decode cX2_insert 20 = .ok (.invokevirtual 58, 3) := by decide +kernel
theorem dX2_insert_23 : decode cX2_insert 23 = .ok (.astore 5, 2) := by decide +kernel
theorem dX2_insert_25 : decode cX2_insert 25 = .ok (.aload 5, 2) := by decide +kernel
theorem dX2_insert_27 : decode cX2_insert 27 = .ok (.ifnull 31, 3) := by decide +kernel
theorem dX2_insert_30 : decode cX2_insert 30 = .ok (.aload 5, 2) := by decide +kernel
theorem dX2_insert_32 : decode cX2_insert 32 = .ok (.getfield 62, 3) := by decide +kernel
theorem dX2_insert_35 : decode cX2_insert 35 = .ok (.iconst 3, 1) := by decide +kernel
theorem dX2_insert_36 : decode cX2_insert 36 = .ok (.if_icmp .ne 12, 3) := by decide +kernel
theorem dX2_insert_39 : decode cX2_insert 39 = .ok (.aload 5, 2) := by decide +kernel
theorem dX2_insert_41 : decode cX2_insert 41 = .ok (.getfield 65, 3) := by decide +kernel
theorem dX2_insert_44 : decode cX2_insert 44 = .ok (.iload_n 2, 1) := by decide +kernel
theorem dX2_insert_45 : decode cX2_insert 45 = .ok (.if_icmp .eq 13, 3) := by decide +kernel
theorem dX2_insert_48 : decode cX2_insert 48 = .ok (.new 68, 3) := by decide +kernel
theorem dX2_insert_51 : decode cX2_insert 51 = .ok (.dup, 1) := by decide +kernel
theorem dX2_insert_52 : decode cX2_insert 52 = .ok (.ldc 70, 2) := by decide +kernel
theorem dX2_insert_54 : decode cX2_insert 54 = .ok (.invokespecial 72, 3) := by decide +kernel
theorem dX2_insert_57 : decode cX2_insert 57 = .ok (.athrow, 1) := by decide +kernel
theorem dX2_insert_58 : decode cX2_insert 58 = .ok (.iload 4, 2) := by decide +kernel
theorem dX2_insert_60 : decode cX2_insert 60 = .ok (.sipush 1000, 3) := by decide +kernel
theorem dX2_insert_63 : decode cX2_insert 63 = .ok (.invokestatic 48, 3) := by decide +kernel
theorem dX2_insert_66 : decode cX2_insert 66 = .ok (.aload_n 0, 1) := by decide +kernel
theorem dX2_insert_67 : decode cX2_insert 67 = .ok (.iload_n 1, 1) := by decide +kernel
theorem dX2_insert_68 : decode cX2_insert 68 = .ok (.iconst 3, 1) := by decide +kernel
theorem dX2_insert_69 : decode cX2_insert 69 = .ok (.iload_n 2, 1) := by decide +kernel
theorem dX2_insert_70 : decode cX2_insert 70 = .ok (.iload 4, 2) := by decide +kernel
theorem dX2_insert_72 : decode cX2_insert 72 = .ok (.invokevirtual 51, 3) := by decide +kernel
theorem dX2_insert_75 : decode cX2_insert 75 = .ok (.astore 6, 2) := by decide +kernel
theorem dX2_insert_77 : decode cX2_insert 77 = .ok (.aload_n 0, 1) := by decide +kernel
theorem dX2_insert_78 : decode cX2_insert 78 = .ok (.iload_n 2, 1) := by decide +kernel
theorem dX2_insert_79 : decode cX2_insert 79 = .ok (.aload 5, 2) := by decide +kernel
theorem dX2_insert_81 : decode cX2_insert 81 = .ok (.aload 6, 2) := by decide +kernel
theorem dX2_insert_83 : decode cX2_insert 83 = .ok (.invokevirtual 75, 3) := by decide +kernel
theorem dX2_insert_86 : decode cX2_insert 86 = .ok (.aload 6, 2) := by decide +kernel
theorem dX2_insert_88 : decode cX2_insert 88 = .ok (.getfield 55, 3) := by decide +kernel
theorem dX2_insert_91 : decode cX2_insert 91 = .ok (.ireturn, 1) := by decide +kernel
theorem dX2_remove_0 : decode cX2_remove 0 = .ok (.aload_n 0, 1) := by decide +kernel
theorem dX2_remove_1 : decode cX2_remove 1 = .ok (.iload_n 1, 1) := by decide +kernel
theorem dX2_remove_2 : decode cX2_remove 2 = .ok (.iload_n 2, 1) := by decide +kernel
theorem dX2_remove_3 : decode cX2_remove 3 = .ok (.iconst 3, 1) := by decide +kernel
theorem dX2_remove_4 : decode cX2_remove 4 = .ok (.iconst 4, 1) := by decide +kernel
theorem dX2_remove_5 : decode cX2_remove 5 = .ok (.invokevirtual 79, 3) := by decide +kernel
theorem dX2_remove_8 : decode cX2_remove 8 = .ok (.ireturn, 1) := by decide +kernel
theorem dX2_relate_0 : decode cX2_relate 0 = .ok (.iload_n 1, 1) := by decide +kernel
theorem dX2_relate_1 : decode cX2_relate 1 = .ok (.invokestatic 37, 3) := by decide +kernel
theorem dX2_relate_4 : decode cX2_relate 4 = .ok (.iload_n 2, 1) := by decide +kernel
theorem dX2_relate_5 : decode cX2_relate 5 = .ok (.invokestatic 83, 3) := by decide +kernel
theorem dX2_relate_8 : decode cX2_relate 8 = .ok (.iload_n 3, 1) := by decide +kernel
theorem dX2_relate_9 : decode cX2_relate 9 = .ok (.invokestatic 83, 3) := by decide +kernel
theorem dX2_relate_12 : decode cX2_relate 12 = .ok (.iload_n 2, 1) := by decide +kernel
theorem dX2_relate_13 : decode cX2_relate 13 = .ok (.iload_n 3, 1) := by decide +kernel
theorem dX2_relate_14 : decode cX2_relate 14 = .ok (.if_icmp .ne 13, 3) := by decide +kernel
theorem dX2_relate_17 : decode cX2_relate 17 = .ok (.new 68, 3) := by decide +kernel
theorem dX2_relate_20 : decode cX2_relate 20 = .ok (.dup, 1) := by decide +kernel
theorem dX2_relate_21 : decode cX2_relate 21 = .ok (.ldc 86, 2) := by decide +kernel
theorem dX2_relate_23 : decode cX2_relate 23 = .ok (.invokespecial 72, 3) := by decide +kernel
theorem dX2_relate_26 : decode cX2_relate 26 = .ok (.athrow, 1) := by decide +kernel
theorem dX2_relate_27 : decode cX2_relate 27 = .ok (.aload_n 0, 1) := by decide +kernel
theorem dX2_relate_28 : decode cX2_relate 28 = .ok (.iload_n 1, 1) := by decide +kernel
theorem dX2_relate_29 : decode cX2_relate 29 = .ok (.iconst 5, 1) := by decide +kernel
theorem dX2_relate_30 : decode cX2_relate 30 = .ok (.iconst (-1), 1) := by decide +kernel
theorem dX2_relate_31 : decode cX2_relate 31 = .ok (.bipush 16, 2) := by decide +kernel
theorem dX2_relate_33 : decode cX2_relate 33 = .ok (.iload_n 2, 1) := by decide +kernel
theorem dX2_relate_34 : decode cX2_relate 34 = .ok (.imul, 1) := by decide +kernel
theorem dX2_relate_35 : decode cX2_relate 35 = .ok (.iload_n 3, 1) := by decide +kernel
theorem dX2_relate_36 : decode cX2_relate 36 = .ok (.iadd, 1) := by decide +kernel
theorem dX2_relate_37 : decode cX2_relate 37 = .ok (.invokevirtual 51, 3) := by decide +kernel
theorem dX2_relate_40 : decode cX2_relate 40 = .ok (.getfield 55, 3) := by decide +kernel
theorem dX2_relate_43 : decode cX2_relate 43 = .ok (.ireturn, 1) := by decide +kernel
theorem dX2_drop_0 : decode cX2_drop 0 = .ok (.aload_n 0, 1) := by decide +kernel
theorem dX2_drop_1 : decode cX2_drop 1 = .ok (.iload_n 1, 1) := by decide +kernel
theorem dX2_drop_2 : decode cX2_drop 2 = .ok (.iload_n 2, 1) := by decide +kernel
theorem dX2_drop_3 : decode cX2_drop 3 = .ok (.iconst 5, 1) := by decide +kernel
theorem dX2_drop_4 : decode cX2_drop 4 = .ok (.bipush 6, 2) := by decide +kernel
theorem dX2_drop_6 : decode cX2_drop 6 = .ok (.invokevirtual 79, 3) := by decide +kernel
theorem dX2_drop_9 : decode cX2_drop 9 = .ok (.ireturn, 1) := by decide +kernel
theorem dX2_join_0 : decode cX2_join 0 = .ok (.iload_n 1, 1) := by decide +kernel
theorem dX2_join_1 : decode cX2_join 1 = .ok (.invokestatic 37, 3) := by decide +kernel
theorem dX2_join_4 : decode cX2_join 4 = .ok (.iload_n 2, 1) := by decide +kernel
theorem dX2_join_5 : decode cX2_join 5 = .ok (.invokestatic 37, 3) := by decide +kernel
theorem dX2_join_8 : decode cX2_join 8 = .ok (.iconst 0, 1) := by decide +kernel
theorem dX2_join_9 : decode cX2_join 9 = .ok (.istore_n 3, 1) := by decide +kernel
theorem dX2_join_10 : decode cX2_join 10 = .ok (.aload_n 0, 1) := by decide +kernel
theorem dX2_join_11 : decode cX2_join 11 = .ok (.getfield 29, 3) := by decide +kernel
theorem dX2_join_14 : decode cX2_join 14 = .ok (.astore 4, 2) := by decide +kernel
theorem dX2_join_16 : decode cX2_join 16 = .ok (.aload 4, 2) := by decide +kernel
theorem dX2_join_18 : decode cX2_join 18 = .ok (.ifnull 41, 3) := by decide +kernel
theorem dX2_join_21 : decode cX2_join 21 = .ok (.aload 4, 2) := by decide +kernel
theorem dX2_join_23 : decode cX2_join 23 = .ok (.iload_n 2, 1) := by decide +kernel
theorem dX2_join_24 : decode cX2_join 24 = .ok (.invokevirtual 88, 3) := by decide +kernel
theorem dX2_join_27 : decode cX2_join 27 = .ok (.ifCond .eq 15, 3) := by decide +kernel
theorem dX2_join_30 : decode cX2_join 30 = .ok (.aload 4, 2) := by decide +kernel
theorem dX2_join_32 : decode cX2_join 32 = .ok (.iload_n 1, 1) := by decide +kernel
theorem dX2_join_33 : decode cX2_join 33 = .ok (.invokevirtual 88, 3) := by decide +kernel
theorem dX2_join_36 : decode cX2_join 36 = .ok (.ifCond .ne 6, 3) := by decide +kernel
theorem dX2_join_39 : decode cX2_join 39 = .ok (.iinc 3 1, 3) := by decide +kernel
theorem dX2_join_42 : decode cX2_join 42 = .ok (.aload 4, 2) := by decide +kernel
theorem dX2_join_44 : decode cX2_join 44 = .ok (.iload_n 2, 1) := by decide +kernel
theorem dX2_join_45 : decode cX2_join 45 = .ok (.iload_n 1, 1) := by decide +kernel
theorem dX2_join_46 : decode cX2_join 46 = .ok (.invokevirtual 92, 3) := by decide +kernel
theorem dX2_join_49 : decode cX2_join 49 = .ok (.aload 4, 2) := by decide +kernel
theorem dX2_join_51 : decode cX2_join 51 = .ok (.getfield 95, 3) := by decide +kernel
theorem dX2_join_54 : decode cX2_join 54 = .ok (.astore 4, 2) := by decide +kernel
theorem dX2_join_56 : decode cX2_join 56 = .ok (.goto (-40), 3) := by decide +kernel
theorem dX2_join_59 : decode cX2_join 59 = .ok (.iload_n 3, 1) := by decide +kernel
theorem dX2_join_60 : decode cX2_join 60 = .ok (.ireturn, 1) := by decide +kernel
theorem dX2_number_0 : decode cX2_number 0 = .ok (.iload_n 1, 1) := by decide +kernel
theorem dX2_number_1 : decode cX2_number 1 = .ok (.invokestatic 37, 3) := by decide +kernel
theorem dX2_number_4 : decode cX2_number 4 = .ok (.aload_n 0, 1) := by decide +kernel
theorem dX2_number_5 : decode cX2_number 5 = .ok (.getfield 18, 3) := by decide +kernel
theorem dX2_number_8 : decode cX2_number 8 = .ok (.iload_n 1, 1) := by decide +kernel
theorem dX2_number_9 : decode cX2_number 9 = .ok (.iaload, 1) := by decide +kernel
theorem dX2_number_10 : decode cX2_number 10 = .ok (.istore_n 2, 1) := by decide +kernel
theorem dX2_number_11 : decode cX2_number 11 = .ok (.iload_n 2, 1) := by decide +kernel
theorem dX2_number_12 : decode cX2_number 12 = .ok (.sipush 1000, 3) := by decide +kernel
theorem dX2_number_15 : decode cX2_number 15 = .ok (.if_icmp .lt 13, 3) := by decide +kernel
theorem dX2_number_18 : decode cX2_number 18 = .ok (.new 98, 3) := by decide +kernel
theorem dX2_number_21 : decode cX2_number 21 = .ok (.dup, 1) := by decide +kernel
theorem dX2_number_22 : decode cX2_number 22 = .ok (.ldc 100, 2) := by decide +kernel
theorem dX2_number_24 : decode cX2_number 24 = .ok (.invokespecial 102, 3) := by decide +kernel
theorem dX2_number_27 : decode cX2_number 27 = .ok (.athrow, 1) := by decide +kernel
theorem dX2_number_28 : decode cX2_number 28 = .ok (.aload_n 0, 1) := by decide +kernel
theorem dX2_number_29 : decode cX2_number 29 = .ok (.getfield 18, 3) := by decide +kernel
theorem dX2_number_32 : decode cX2_number 32 = .ok (.iload_n 1, 1) := by decide +kernel
theorem dX2_number_33 : decode cX2_number 33 = .ok (.iload_n 2, 1) := by decide +kernel
theorem dX2_number_34 : decode cX2_number 34 = .ok (.iconst 1, 1) := by decide +kernel
theorem dX2_number_35 : decode cX2_number 35 = .ok (.iadd, 1) := by decide +kernel
theorem dX2_number_36 : decode cX2_number 36 = .ok (.iastore, 1) := by decide +kernel
theorem dX2_number_37 : decode cX2_number 37 = .ok (.sipush 1000, 3) := by decide +kernel
theorem dX2_number_40 : decode cX2_number 40 = .ok (.iload_n 1, 1) := by decide +kernel
theorem dX2_number_41 : decode cX2_number 41 = .ok (.imul, 1) := by decide +kernel
theorem dX2_number_42 : decode cX2_number 42 = .ok (.iload_n 2, 1) := by decide +kernel
theorem dX2_number_43 : decode cX2_number 43 = .ok (.iadd, 1) := by decide +kernel
theorem dX2_number_44 : decode cX2_number 44 = .ok (.ireturn, 1) := by decide +kernel
theorem dX2_at_0 : decode cX2_at 0 = .ok (.iload_n 1, 1) := by decide +kernel
theorem dX2_at_1 : decode cX2_at 1 = .ok (.invokestatic 37, 3) := by decide +kernel
theorem dX2_at_4 : decode cX2_at 4 = .ok (.iload_n 2, 1) := by decide +kernel
theorem dX2_at_5 : decode cX2_at 5 = .ok (.invokestatic 41, 3) := by decide +kernel
theorem dX2_at_8 : decode cX2_at 8 = .ok (.iload_n 3, 1) := by decide +kernel
theorem dX2_at_9 : decode cX2_at 9 = .ok (.iconst 3, 1) := by decide +kernel
theorem dX2_at_10 : decode cX2_at 10 = .ok (.invokestatic 44, 3) := by decide +kernel
theorem dX2_at_13 : decode cX2_at 13 = .ok (.iload 4, 2) := by decide +kernel
theorem dX2_at_15 : decode cX2_at 15 = .ok (.invokestatic 103, 3) := by decide +kernel
theorem dX2_at_18 : decode cX2_at 18 = .ok (.iload_n 3, 1) := by decide +kernel
theorem dX2_at_19 : decode cX2_at 19 = .ok (.tableswitch 66 0 2 #[25, 41, 57], 25) := by decide +kernel
theorem dX2_at_44 : decode cX2_at 44 = .ok (.iload 4, 2) := by decide +kernel
theorem dX2_at_46 : decode cX2_at 46 = .ok (.ifCond .ne 12, 3) := by decide +kernel
theorem dX2_at_49 : decode cX2_at 49 = .ok (.aload_n 0, 1) := by decide +kernel
theorem dX2_at_50 : decode cX2_at 50 = .ok (.iload_n 1, 1) := by decide +kernel
theorem dX2_at_51 : decode cX2_at 51 = .ok (.iload_n 2, 1) := by decide +kernel
theorem dX2_at_52 : decode cX2_at 52 = .ok (.invokevirtual 106, 3) := by decide +kernel
theorem dX2_at_55 : decode cX2_at 55 = .ok (.goto 4, 3) := by decide +kernel
theorem dX2_at_58 : decode cX2_at 58 = .ok (.iconst (-1), 1) := by decide +kernel
theorem dX2_at_59 : decode cX2_at 59 = .ok (.ireturn, 1) := by decide +kernel
theorem dX2_at_60 : decode cX2_at 60 = .ok (.iload 4, 2) := by decide +kernel
theorem dX2_at_62 : decode cX2_at 62 = .ok (.ifCond .ne 12, 3) := by decide +kernel
theorem dX2_at_65 : decode cX2_at 65 = .ok (.aload_n 0, 1) := by decide +kernel
theorem dX2_at_66 : decode cX2_at 66 = .ok (.iload_n 1, 1) := by decide +kernel
theorem dX2_at_67 : decode cX2_at 67 = .ok (.iload_n 2, 1) := by decide +kernel
theorem dX2_at_68 : decode cX2_at 68 = .ok (.invokevirtual 110, 3) := by decide +kernel
theorem dX2_at_71 : decode cX2_at 71 = .ok (.goto 4, 3) := by decide +kernel
theorem dX2_at_74 : decode cX2_at 74 = .ok (.iconst (-1), 1) := by decide +kernel
theorem dX2_at_75 : decode cX2_at 75 = .ok (.ireturn, 1) := by decide +kernel
theorem dX2_at_76 : decode cX2_at 76 = .ok (.aload_n 0, 1) := by decide +kernel
theorem dX2_at_77 : decode cX2_at 77 = .ok (.iload_n 1, 1) := by decide +kernel
theorem dX2_at_78 : decode cX2_at 78 = .ok (.iload_n 2, 1) := by decide +kernel
theorem dX2_at_79 : decode cX2_at 79 = .ok (.iload 4, 2) := by decide +kernel
theorem dX2_at_81 : decode cX2_at 81 = .ok (.invokevirtual 113, 3) := by decide +kernel
theorem dX2_at_84 : decode cX2_at 84 = .ok (.ireturn, 1) := by decide +kernel
theorem dX2_at_85 : decode cX2_at 85 = .ok (.aload_n 0, 1) := by decide +kernel
theorem dX2_at_86 : decode cX2_at 86 = .ok (.iload_n 1, 1) := by decide +kernel
theorem dX2_at_87 : decode cX2_at 87 = .ok (.iload_n 2, 1) := by decide +kernel
theorem dX2_at_88 : decode cX2_at 88 = .ok (.iload 4, 2) := by decide +kernel
theorem dX2_at_90 : decode cX2_at 90 = .ok (.invokevirtual 117, 3) := by decide +kernel
theorem dX2_at_93 : decode cX2_at 93 = .ok (.astore 5, 2) := by decide +kernel
theorem dX2_at_95 : decode cX2_at 95 = .ok (.aload 5, 2) := by decide +kernel
theorem dX2_at_97 : decode cX2_at 97 = .ok (.ifnonnull 7, 3) := by decide +kernel
theorem dX2_at_100 : decode cX2_at 100 = .ok (.iconst (-1), 1) := by decide +kernel
theorem dX2_at_101 : decode cX2_at 101 = .ok (.goto 8, 3) := by decide +kernel
theorem dX2_at_104 : decode cX2_at 104 = .ok (.aload 5, 2) := by decide +kernel
theorem dX2_at_106 : decode cX2_at 106 = .ok (.getfield 121, 3) := by decide +kernel
theorem dX2_at_109 : decode cX2_at 109 = .ok (.ireturn, 1) := by decide +kernel
theorem dX2_place_0 : decode cX2_place 0 = .ok (.iload_n 1, 1) := by decide +kernel
theorem dX2_place_1 : decode cX2_place 1 = .ok (.invokestatic 37, 3) := by decide +kernel
theorem dX2_place_4 : decode cX2_place 4 = .ok (.iload_n 2, 1) := by decide +kernel
theorem dX2_place_5 : decode cX2_place 5 = .ok (.invokestatic 41, 3) := by decide +kernel
theorem dX2_place_8 : decode cX2_place 8 = .ok (.iload_n 3, 1) := by decide +kernel
theorem dX2_place_9 : decode cX2_place 9 = .ok (.invokestatic 103, 3) := by decide +kernel
theorem dX2_place_12 : decode cX2_place 12 = .ok (.aload_n 0, 1) := by decide +kernel
theorem dX2_place_13 : decode cX2_place 13 = .ok (.iload_n 1, 1) := by decide +kernel
theorem dX2_place_14 : decode cX2_place 14 = .ok (.iload_n 2, 1) := by decide +kernel
theorem dX2_place_15 : decode cX2_place 15 = .ok (.iload_n 3, 1) := by decide +kernel
theorem dX2_place_16 : decode cX2_place 16 = .ok (.invokevirtual 117, 3) := by decide +kernel
theorem dX2_place_19 : decode cX2_place 19 = .ok (.astore 4, 2) := by decide +kernel
theorem dX2_place_21 : decode cX2_place 21 = .ok (.aload 4, 2) := by decide +kernel
theorem dX2_place_23 : decode cX2_place 23 = .ok (.ifnonnull 7, 3) := by decide +kernel
theorem dX2_place_26 : decode cX2_place 26 = .ok (.iconst (-1), 1) := by decide +kernel
theorem dX2_place_27 : decode cX2_place 27 = .ok (.goto 8, 3) := by decide +kernel
theorem dX2_place_30 : decode cX2_place 30 = .ok (.aload 4, 2) := by decide +kernel
theorem dX2_place_32 : decode cX2_place 32 = .ok (.getfield 55, 3) := by decide +kernel
theorem dX2_place_35 : decode cX2_place 35 = .ok (.ireturn, 1) := by decide +kernel
theorem dX2_order_0 : decode cX2_order 0 = .ok (.iload_n 1, 1) := by decide +kernel
theorem dX2_order_1 : decode cX2_order 1 = .ok (.invokestatic 37, 3) := by decide +kernel
theorem dX2_order_4 : decode cX2_order 4 = .ok (.iload_n 2, 1) := by decide +kernel
theorem dX2_order_5 : decode cX2_order 5 = .ok (.invokestatic 83, 3) := by decide +kernel
theorem dX2_order_8 : decode cX2_order 8 = .ok (.iload_n 3, 1) := by decide +kernel
theorem dX2_order_9 : decode cX2_order 9 = .ok (.invokestatic 83, 3) := by decide +kernel
theorem dX2_order_12 : decode cX2_order 12 = .ok (.aload_n 0, 1) := by decide +kernel
theorem dX2_order_13 : decode cX2_order 13 = .ok (.iload_n 1, 1) := by decide +kernel
theorem dX2_order_14 : decode cX2_order 14 = .ok (.invokevirtual 124, 3) := by decide +kernel
theorem dX2_order_17 : decode cX2_order 17 = .ok (.aload_n 0, 1) := by decide +kernel
theorem dX2_order_18 : decode cX2_order 18 = .ok (.getfield 25, 3) := by decide +kernel
theorem dX2_order_21 : decode cX2_order 21 = .ok (.iload_n 2, 1) := by decide +kernel
theorem dX2_order_22 : decode cX2_order 22 = .ok (.iload_n 3, 1) := by decide +kernel
theorem dX2_order_23 : decode cX2_order 23 = .ok (.invokevirtual 127, 3) := by decide +kernel
theorem dX2_order_26 : decode cX2_order 26 = .ok (.ifCond .eq 5, 3) := by decide +kernel
theorem dX2_order_29 : decode cX2_order 29 = .ok (.iconst 1, 1) := by decide +kernel
theorem dX2_order_30 : decode cX2_order 30 = .ok (.ireturn, 1) := by decide +kernel
theorem dX2_order_31 : decode cX2_order 31 = .ok (.aload_n 0, 1) := by decide +kernel
theorem dX2_order_32 : decode cX2_order 32 = .ok (.getfield 25, 3) := by decide +kernel
theorem dX2_order_35 : decode cX2_order 35 = .ok (.iload_n 3, 1) := by decide +kernel
theorem dX2_order_36 : decode cX2_order 36 = .ok (.iload_n 2, 1) := by decide +kernel
theorem dX2_order_37 : decode cX2_order 37 = .ok (.invokevirtual 127, 3) := by decide +kernel
theorem dX2_order_40 : decode cX2_order 40 = .ok (.ifCond .eq 7, 3) := by decide +kernel
theorem dX2_order_43 : decode cX2_order 43 = .ok (.iconst (-1), 1) := by decide +kernel
theorem dX2_order_44 : decode cX2_order 44 = .ok (.goto 4, 3) := by decide +kernel
theorem dX2_order_47 : decode cX2_order 47 = .ok (.iconst 0, 1) := by decide +kernel
theorem dX2_order_48 : decode cX2_order 48 = .ok (.ireturn, 1) := by decide +kernel
theorem dX2_open_0 : decode cX2_open 0 = .ok (.iload_n 1, 1) := by decide +kernel
theorem dX2_open_1 : decode cX2_open 1 = .ok (.invokestatic 37, 3) := by decide +kernel
theorem dX2_open_4 : decode cX2_open 4 = .ok (.iload_n 2, 1) := by decide +kernel
theorem dX2_open_5 : decode cX2_open 5 = .ok (.invokestatic 103, 3) := by decide +kernel
theorem dX2_open_8 : decode cX2_open 8 = .ok (.aload_n 0, 1) := by decide +kernel
theorem dX2_open_9 : decode cX2_open 9 = .ok (.iload_n 1, 1) := by decide +kernel
theorem dX2_open_10 : decode cX2_open 10 = .ok (.invokevirtual 124, 3) := by decide +kernel
theorem dX2_open_13 : decode cX2_open 13 = .ok (.iconst 0, 1) := by decide +kernel
theorem dX2_open_14 : decode cX2_open 14 = .ok (.istore_n 3, 1) := by decide +kernel
theorem dX2_open_15 : decode cX2_open 15 = .ok (.aload_n 0, 1) := by decide +kernel
theorem dX2_open_16 : decode cX2_open 16 = .ok (.getfield 29, 3) := by decide +kernel
theorem dX2_open_19 : decode cX2_open 19 = .ok (.astore 4, 2) := by decide +kernel
theorem dX2_open_21 : decode cX2_open 21 = .ok (.aload 4, 2) := by decide +kernel
theorem dX2_open_23 : decode cX2_open 23 = .ok (.ifnull 35, 3) := by decide +kernel
theorem dX2_open_26 : decode cX2_open 26 = .ok (.aload 4, 2) := by decide +kernel
theorem dX2_open_28 : decode cX2_open 28 = .ok (.getfield 131, 3) := by decide +kernel
theorem dX2_open_31 : decode cX2_open 31 = .ok (.ifCond .eq 17, 3) := by decide +kernel
theorem dX2_open_34 : decode cX2_open 34 = .ok (.iload_n 3, 1) := by decide +kernel
theorem dX2_open_35 : decode cX2_open 35 = .ok (.iload_n 2, 1) := by decide +kernel
theorem dX2_open_36 : decode cX2_open 36 = .ok (.if_icmp .ne 9, 3) := by decide +kernel
theorem dX2_open_39 : decode cX2_open 39 = .ok (.aload 4, 2) := by decide +kernel
theorem dX2_open_41 : decode cX2_open 41 = .ok (.getfield 55, 3) := by decide +kernel
theorem dX2_open_44 : decode cX2_open 44 = .ok (.ireturn, 1) := by decide +kernel
theorem dX2_open_45 : decode cX2_open 45 = .ok (.iinc 3 1, 3) := by decide +kernel
theorem dX2_open_48 : decode cX2_open 48 = .ok (.aload 4, 2) := by decide +kernel
theorem dX2_open_50 : decode cX2_open 50 = .ok (.getfield 95, 3) := by decide +kernel
theorem dX2_open_53 : decode cX2_open 53 = .ok (.astore 4, 2) := by decide +kernel
theorem dX2_open_55 : decode cX2_open 55 = .ok (.goto (-34), 3) := by decide +kernel
theorem dX2_open_58 : decode cX2_open 58 = .ok (.iconst (-1), 1) := by decide +kernel
theorem dX2_open_59 : decode cX2_open 59 = .ok (.ireturn, 1) := by decide +kernel
theorem dX2_knows_0 : decode cX2_knows 0 = .ok (.iload_n 1, 1) := by decide +kernel
theorem dX2_knows_1 : decode cX2_knows 1 = .ok (.invokestatic 37, 3) := by decide +kernel
theorem dX2_knows_4 : decode cX2_knows 4 = .ok (.aload_n 0, 1) := by decide +kernel
theorem dX2_knows_5 : decode cX2_knows 5 = .ok (.iload_n 2, 1) := by decide +kernel
theorem dX2_knows_6 : decode cX2_knows 6 = .ok (.invokevirtual 135, 3) := by decide +kernel
theorem dX2_knows_9 : decode cX2_knows 9 = .ok (.iload_n 1, 1) := by decide +kernel
theorem dX2_knows_10 : decode cX2_knows 10 = .ok (.invokevirtual 88, 3) := by decide +kernel
theorem dX2_knows_13 : decode cX2_knows 13 = .ok (.ireturn, 1) := by decide +kernel
theorem dX2_equal_0 : decode cX2_equal 0 = .ok (.iload_n 1, 1) := by decide +kernel
theorem dX2_equal_1 : decode cX2_equal 1 = .ok (.invokestatic 37, 3) := by decide +kernel
theorem dX2_equal_4 : decode cX2_equal 4 = .ok (.iload_n 2, 1) := by decide +kernel
theorem dX2_equal_5 : decode cX2_equal 5 = .ok (.invokestatic 37, 3) := by decide +kernel
theorem dX2_equal_8 : decode cX2_equal 8 = .ok (.aload_n 0, 1) := by decide +kernel
theorem dX2_equal_9 : decode cX2_equal 9 = .ok (.getfield 29, 3) := by decide +kernel
theorem dX2_equal_12 : decode cX2_equal 12 = .ok (.astore_n 3, 1) := by decide +kernel
theorem dX2_equal_13 : decode cX2_equal 13 = .ok (.aload_n 3, 1) := by decide +kernel
theorem dX2_equal_14 : decode cX2_equal 14 = .ok (.ifnull 26, 3) := by decide +kernel
theorem dX2_equal_17 : decode cX2_equal 17 = .ok (.aload_n 3, 1) := by decide +kernel
theorem dX2_equal_18 : decode cX2_equal 18 = .ok (.iload_n 1, 1) := by decide +kernel
theorem dX2_equal_19 : decode cX2_equal 19 = .ok (.invokevirtual 88, 3) := by decide +kernel
theorem dX2_equal_22 : decode cX2_equal 22 = .ok (.aload_n 3, 1) := by decide +kernel
theorem dX2_equal_23 : decode cX2_equal 23 = .ok (.iload_n 2, 1) := by decide +kernel
theorem dX2_equal_24 : decode cX2_equal 24 = .ok (.invokevirtual 88, 3) := by decide +kernel
theorem dX2_equal_27 : decode cX2_equal 27 = .ok (.if_icmp .eq 5, 3) := by decide +kernel
theorem dX2_equal_30 : decode cX2_equal 30 = .ok (.iconst 0, 1) := by decide +kernel
theorem dX2_equal_31 : decode cX2_equal 31 = .ok (.ireturn, 1) := by decide +kernel
theorem dX2_equal_32 : decode cX2_equal 32 = .ok (.aload_n 3, 1) := by decide +kernel
theorem dX2_equal_33 : decode cX2_equal 33 = .ok (.getfield 95, 3) := by decide +kernel
theorem dX2_equal_36 : decode cX2_equal 36 = .ok (.astore_n 3, 1) := by decide +kernel
theorem dX2_equal_37 : decode cX2_equal 37 = .ok (.goto (-24), 3) := by decide +kernel
theorem dX2_equal_40 : decode cX2_equal 40 = .ok (.iconst 1, 1) := by decide +kernel
theorem dX2_equal_41 : decode cX2_equal 41 = .ok (.ireturn, 1) := by decide +kernel
theorem dX2_compact_0 : decode cX2_compact 0 = .ok (.iconst 0, 1) := by decide +kernel
theorem dX2_compact_1 : decode cX2_compact 1 = .ok (.istore_n 1, 1) := by decide +kernel
theorem dX2_compact_2 : decode cX2_compact 2 = .ok (.aload_n 0, 1) := by decide +kernel
theorem dX2_compact_3 : decode cX2_compact 3 = .ok (.getfield 29, 3) := by decide +kernel
theorem dX2_compact_6 : decode cX2_compact 6 = .ok (.astore_n 2, 1) := by decide +kernel
theorem dX2_compact_7 : decode cX2_compact 7 = .ok (.aload_n 2, 1) := by decide +kernel
theorem dX2_compact_8 : decode cX2_compact 8 = .ok (.ifnull 25, 3) := by decide +kernel
theorem dX2_compact_11 : decode cX2_compact 11 = .ok (.aload_n 2, 1) := by decide +kernel
theorem dX2_compact_12 : decode cX2_compact 12 = .ok (.invokestatic 139, 3) := by decide +kernel
theorem dX2_compact_15 : decode cX2_compact 15 = .ok (.ifCond .eq 10, 3) := by decide +kernel
theorem dX2_compact_18 : decode cX2_compact 18 = .ok (.aload_n 2, 1) := by decide +kernel
theorem dX2_compact_19 : decode cX2_compact 19 = .ok (.invokevirtual 143, 3) := by decide +kernel
theorem dX2_compact_22 : decode cX2_compact 22 = .ok (.iinc 1 1, 3) := by decide +kernel
theorem dX2_compact_25 : decode cX2_compact 25 = .ok (.aload_n 2, 1) := by decide +kernel
theorem dX2_compact_26 : decode cX2_compact 26 = .ok (.getfield 95, 3) := by decide +kernel
theorem dX2_compact_29 : decode cX2_compact 29 = .ok (.astore_n 2, 1) := by decide +kernel
theorem dX2_compact_30 : decode cX2_compact 30 = .ok (.goto (-23), 3) := by decide +kernel
theorem dX2_compact_33 : decode cX2_compact 33 = .ok (.iload_n 1, 1) := by decide +kernel
theorem dX2_compact_34 : decode cX2_compact 34 = .ok (.ireturn, 1) := by decide +kernel
theorem dX2_about_0 : decode cX2_about 0 = .ok (.iload_n 1, 1) := by decide +kernel
theorem dX2_about_1 : decode cX2_about 1 = .ok (.invokestatic 37, 3) := by decide +kernel
theorem dX2_about_4 : decode cX2_about 4 = .ok (.aload_n 0, 1) := by decide +kernel
theorem dX2_about_5 : decode cX2_about 5 = .ok (.iload_n 1, 1) := by decide +kernel
theorem dX2_about_6 : decode cX2_about 6 = .ok (.iload_n 2, 1) := by decide +kernel
theorem dX2_about_7 : decode cX2_about 7 = .ok (.invokevirtual 58, 3) := by decide +kernel
theorem dX2_about_10 : decode cX2_about 10 = .ok (.astore 4, 2) := by decide +kernel
theorem dX2_about_12 : decode cX2_about 12 = .ok (.iload_n 3, 1) := by decide +kernel
theorem dX2_about_13 : decode cX2_about 13 = .ok (.tableswitch 55 0 3 #[31, 37, 43, 49], 31) := by decide +kernel
theorem dX2_about_44 : decode cX2_about 44 = .ok (.aload 4, 2) := by decide +kernel
theorem dX2_about_46 : decode cX2_about 46 = .ok (.getfield 146, 3) := by decide +kernel
theorem dX2_about_49 : decode cX2_about 49 = .ok (.ireturn, 1) := by decide +kernel
theorem dX2_about_50 : decode cX2_about 50 = .ok (.aload 4, 2) := by decide +kernel
theorem dX2_about_52 : decode cX2_about 52 = .ok (.getfield 149, 3) := by decide +kernel
theorem dX2_about_55 : decode cX2_about 55 = .ok (.ireturn, 1) := by decide +kernel
theorem dX2_about_56 : decode cX2_about 56 = .ok (.aload 4, 2) := by decide +kernel
theorem dX2_about_58 : decode cX2_about 58 = .ok (.getfield 62, 3) := by decide +kernel
theorem dX2_about_61 : decode cX2_about 61 = .ok (.ireturn, 1) := by decide +kernel
theorem dX2_about_62 : decode cX2_about 62 = .ok (.aload 4, 2) := by decide +kernel
theorem dX2_about_64 : decode cX2_about 64 = .ok (.getfield 121, 3) := by decide +kernel
theorem dX2_about_67 : decode cX2_about 67 = .ok (.ireturn, 1) := by decide +kernel
theorem dX2_about_68 : decode cX2_about 68 = .ok (.new 68, 3) := by decide +kernel
theorem dX2_about_71 : decode cX2_about 71 = .ok (.dup, 1) := by decide +kernel
theorem dX2_about_72 : decode cX2_about 72 = .ok (.ldc 152, 2) := by decide +kernel
theorem dX2_about_74 : decode cX2_about 74 = .ok (.invokespecial 72, 3) := by decide +kernel
theorem dX2_about_77 : decode cX2_about 77 = .ok (.athrow, 1) := by decide +kernel
theorem dX2_count_0 : decode cX2_count 0 = .ok (.iload_n 1, 1) := by decide +kernel
theorem dX2_count_1 : decode cX2_count 1 = .ok (.tableswitch 42 0 2 #[27, 32, 37], 27) := by decide +kernel
theorem dX2_count_28 : decode cX2_count 28 = .ok (.aload_n 0, 1) := by decide +kernel
theorem dX2_count_29 : decode cX2_count 29 = .ok (.getfield 33, 3) := by decide +kernel
theorem dX2_count_32 : decode cX2_count 32 = .ok (.ireturn, 1) := by decide +kernel
theorem dX2_count_33 : decode cX2_count 33 = .ok (.aload_n 0, 1) := by decide +kernel
theorem dX2_count_34 : decode cX2_count 34 = .ok (.invokevirtual 154, 3) := by decide +kernel
theorem dX2_count_37 : decode cX2_count 37 = .ok (.ireturn, 1) := by decide +kernel
theorem dX2_count_38 : decode cX2_count 38 = .ok (.aload_n 0, 1) := by decide +kernel
theorem dX2_count_39 : decode cX2_count 39 = .ok (.invokevirtual 158, 3) := by decide +kernel
theorem dX2_count_42 : decode cX2_count 42 = .ok (.ireturn, 1) := by decide +kernel
theorem dX2_count_43 : decode cX2_count 43 = .ok (.new 68, 3) := by decide +kernel
theorem dX2_count_46 : decode cX2_count 46 = .ok (.dup, 1) := by decide +kernel
theorem dX2_count_47 : decode cX2_count 47 = .ok (.ldc 161, 2) := by decide +kernel
theorem dX2_count_49 : decode cX2_count 49 = .ok (.invokespecial 72, 3) := by decide +kernel
theorem dX2_count_52 : decode cX2_count 52 = .ok (.athrow, 1) := by decide +kernel
theorem dX2_requireDesk_0 : decode cX2_requireDesk 0 = .ok (.iload_n 0, 1) := by decide +kernel
theorem dX2_requireDesk_1 : decode cX2_requireDesk 1 = .ok (.ifCond .lt 9, 3) := by decide +kernel
theorem dX2_requireDesk_4 : decode cX2_requireDesk 4 = .ok (.iload_n 0, 1) := by decide +kernel
theorem dX2_requireDesk_5 : decode cX2_requireDesk 5 = .ok (.bipush 6, 2) := by decide +kernel
theorem dX2_requireDesk_7 : decode cX2_requireDesk 7 = .ok (.if_icmp .lt 13, 3) := by decide +kernel
theorem dX2_requireDesk_10 : decode cX2_requireDesk 10 = .ok (.new 163, 3) := by decide +kernel
theorem dX2_requireDesk_13 : decode cX2_requireDesk 13 = .ok (.dup, 1) := by decide +kernel
theorem dX2_requireDesk_14 : decode cX2_requireDesk 14 = .ok (.ldc 165, 2) := by decide +kernel
theorem dX2_requireDesk_16 : decode cX2_requireDesk 16 = .ok (.invokespecial 167, 3) := by decide +kernel
theorem dX2_requireDesk_19 : decode cX2_requireDesk 19 = .ok (.athrow, 1) := by decide +kernel
theorem dX2_requireDesk_20 : decode cX2_requireDesk 20 = .ok (.return_, 1) := by decide +kernel
theorem dX2_requireThing_0 : decode cX2_requireThing 0 = .ok (.iload_n 0, 1) := by decide +kernel
theorem dX2_requireThing_1 : decode cX2_requireThing 1 = .ok (.ifCond .lt 9, 3) := by decide +kernel
theorem dX2_requireThing_4 : decode cX2_requireThing 4 = .ok (.iload_n 0, 1) := by decide +kernel
theorem dX2_requireThing_5 : decode cX2_requireThing 5 = .ok (.bipush 16, 2) := by decide +kernel
theorem dX2_requireThing_7 : decode cX2_requireThing 7 = .ok (.if_icmp .lt 13, 3) := by decide +kernel
theorem dX2_requireThing_10 : decode cX2_requireThing 10 = .ok (.new 163, 3) := by decide +kernel
theorem dX2_requireThing_13 : decode cX2_requireThing 13 = .ok (.dup, 1) := by decide +kernel
theorem dX2_requireThing_14 : decode cX2_requireThing 14 = .ok (.ldc 168, 2) := by decide +kernel
theorem dX2_requireThing_16 : decode cX2_requireThing 16 = .ok (.invokespecial 167, 3) := by decide +kernel
theorem dX2_requireThing_19 : decode cX2_requireThing 19 = .ok (.athrow, 1) := by decide +kernel
theorem dX2_requireThing_20 : decode cX2_requireThing 20 = .ok (.return_, 1) := by decide +kernel
theorem dX2_requireField_0 : decode cX2_requireField 0 = .ok (.iload_n 0, 1) := by decide +kernel
theorem dX2_requireField_1 : decode cX2_requireField 1 = .ok (.ifCond .lt 8, 3) := by decide +kernel
theorem dX2_requireField_4 : decode cX2_requireField 4 = .ok (.iload_n 0, 1) := by decide +kernel
theorem dX2_requireField_5 : decode cX2_requireField 5 = .ok (.iload_n 1, 1) := by decide +kernel
theorem dX2_requireField_6 : decode cX2_requireField 6 = .ok (.if_icmp .le 13, 3) := by decide +kernel
theorem dX2_requireField_9 : decode cX2_requireField 9 = .ok (.new 163, 3) := by decide +kernel
theorem dX2_requireField_12 : decode cX2_requireField 12 = .ok (.dup, 1) := by decide +kernel
theorem dX2_requireField_13 : decode cX2_requireField 13 = .ok (.ldc 170, 2) := by decide +kernel
theorem dX2_requireField_15 : decode cX2_requireField 15 = .ok (.invokespecial 167, 3) := by decide +kernel
theorem dX2_requireField_18 : decode cX2_requireField 18 = .ok (.athrow, 1) := by decide +kernel
theorem dX2_requireField_19 : decode cX2_requireField 19 = .ok (.return_, 1) := by decide +kernel
theorem dX2_requireContext_0 : decode cX2_requireContext 0 = .ok (.iload_n 0, 1) := by decide +kernel
theorem dX2_requireContext_1 : decode cX2_requireContext 1 = .ok (.ifCond .lt 9, 3) := by decide +kernel
theorem dX2_requireContext_4 : decode cX2_requireContext 4 = .ok (.iload_n 0, 1) := by decide +kernel
theorem dX2_requireContext_5 : decode cX2_requireContext 5 = .ok (.bipush 16, 2) := by decide +kernel
theorem dX2_requireContext_7 : decode cX2_requireContext 7 = .ok (.if_icmp .lt 13, 3) := by decide +kernel
theorem dX2_requireContext_10 : decode cX2_requireContext 10 = .ok (.new 163, 3) := by decide +kernel
theorem dX2_requireContext_13 : decode cX2_requireContext 13 = .ok (.dup, 1) := by decide +kernel
theorem dX2_requireContext_14 : decode cX2_requireContext 14 = .ok (.ldc 172, 2) := by decide +kernel
theorem dX2_requireContext_16 : decode cX2_requireContext 16 = .ok (.invokespecial 167, 3) := by decide +kernel
theorem dX2_requireContext_19 : decode cX2_requireContext 19 = .ok (.athrow, 1) := by decide +kernel
theorem dX2_requireContext_20 : decode cX2_requireContext 20 = .ok (.return_, 1) := by decide +kernel
theorem dX2_requireOrdinal_0 : decode cX2_requireOrdinal 0 = .ok (.iload_n 0, 1) := by decide +kernel
theorem dX2_requireOrdinal_1 : decode cX2_requireOrdinal 1 = .ok (.ifCond .ge 13, 3) := by decide +kernel
theorem dX2_requireOrdinal_4 : decode cX2_requireOrdinal 4 = .ok (.new 163, 3) := by decide +kernel
theorem dX2_requireOrdinal_7 : decode cX2_requireOrdinal 7 = .ok (.dup, 1) := by decide +kernel
theorem dX2_requireOrdinal_8 : decode cX2_requireOrdinal 8 = .ok (.ldc 174, 2) := by decide +kernel
theorem dX2_requireOrdinal_10 : decode cX2_requireOrdinal 10 = .ok (.invokespecial 167, 3) := by decide +kernel
theorem dX2_requireOrdinal_13 : decode cX2_requireOrdinal 13 = .ok (.athrow, 1) := by decide +kernel
theorem dX2_requireOrdinal_14 : decode cX2_requireOrdinal 14 = .ok (.return_, 1) := by decide +kernel
theorem dX2_requireValue_0 : decode cX2_requireValue 0 = .ok (.iload_n 0, 1) := by decide +kernel
theorem dX2_requireValue_1 : decode cX2_requireValue 1 = .ok (.ifCond .lt 8, 3) := by decide +kernel
theorem dX2_requireValue_4 : decode cX2_requireValue 4 = .ok (.iload_n 0, 1) := by decide +kernel
theorem dX2_requireValue_5 : decode cX2_requireValue 5 = .ok (.iload_n 1, 1) := by decide +kernel
theorem dX2_requireValue_6 : decode cX2_requireValue 6 = .ok (.if_icmp .lt 13, 3) := by decide +kernel
theorem dX2_requireValue_9 : decode cX2_requireValue 9 = .ok (.new 68, 3) := by decide +kernel
theorem dX2_requireValue_12 : decode cX2_requireValue 12 = .ok (.dup, 1) := by decide +kernel
theorem dX2_requireValue_13 : decode cX2_requireValue 13 = .ok (.ldc 176, 2) := by decide +kernel
theorem dX2_requireValue_15 : decode cX2_requireValue 15 = .ok (.invokespecial 72, 3) := by decide +kernel
theorem dX2_requireValue_18 : decode cX2_requireValue 18 = .ok (.athrow, 1) := by decide +kernel
theorem dX2_requireValue_19 : decode cX2_requireValue 19 = .ok (.return_, 1) := by decide +kernel
theorem dX2_findMade_0 : decode cX2_findMade 0 = .ok (.iload_n 1, 1) := by decide +kernel
theorem dX2_findMade_1 : decode cX2_findMade 1 = .ok (.ifCond .lt 11, 3) := by decide +kernel
theorem dX2_findMade_4 : decode cX2_findMade 4 = .ok (.iload_n 1, 1) := by decide +kernel
theorem dX2_findMade_5 : decode cX2_findMade 5 = .ok (.aload_n 0, 1) := by decide +kernel
theorem dX2_findMade_6 : decode cX2_findMade 6 = .ok (.getfield 33, 3) := by decide +kernel
theorem dX2_findMade_9 : decode cX2_findMade 9 = .ok (.if_icmp .lt 7, 3) := by decide +kernel
theorem dX2_findMade_12 : decode cX2_findMade 12 = .ok (.aconst_null, 1) := by decide +kernel
theorem dX2_findMade_13 : decode cX2_findMade 13 = .ok (.goto 9, 3) := by decide +kernel
theorem dX2_findMade_16 : decode cX2_findMade 16 = .ok (.aload_n 0, 1) := by decide +kernel
theorem dX2_findMade_17 : decode cX2_findMade 17 = .ok (.getfield 11, 3) := by decide +kernel
theorem dX2_findMade_20 : decode cX2_findMade 20 = .ok (.iload_n 1, 1) := by decide +kernel
theorem dX2_findMade_21 : decode cX2_findMade 21 = .ok (.aaload, 1) := by decide +kernel
theorem dX2_findMade_22 : decode cX2_findMade 22 = .ok (.astore_n 2, 1) := by decide +kernel
theorem dX2_findMade_23 : decode cX2_findMade 23 = .ok (.aload_n 2, 1) := by decide +kernel
theorem dX2_findMade_24 : decode cX2_findMade 24 = .ok (.ifnonnull 13, 3) := by decide +kernel
theorem dX2_findMade_27 : decode cX2_findMade 27 = .ok (.new 163, 3) := by decide +kernel
theorem dX2_findMade_30 : decode cX2_findMade 30 = .ok (.dup, 1) := by decide +kernel
theorem dX2_findMade_31 : decode cX2_findMade 31 = .ok (.ldc 178, 2) := by decide +kernel
theorem dX2_findMade_33 : decode cX2_findMade 33 = .ok (.invokespecial 167, 3) := by decide +kernel
theorem dX2_findMade_36 : decode cX2_findMade 36 = .ok (.athrow, 1) := by decide +kernel
theorem dX2_findMade_37 : decode cX2_findMade 37 = .ok (.aload_n 2, 1) := by decide +kernel
theorem dX2_findMade_38 : decode cX2_findMade 38 = .ok (.areturn, 1) := by decide +kernel
theorem dX2_findKnown_0 : decode cX2_findKnown 0 = .ok (.aload_n 0, 1) := by decide +kernel
theorem dX2_findKnown_1 : decode cX2_findKnown 1 = .ok (.iload_n 2, 1) := by decide +kernel
theorem dX2_findKnown_2 : decode cX2_findKnown 2 = .ok (.invokevirtual 135, 3) := by decide +kernel
theorem dX2_findKnown_5 : decode cX2_findKnown 5 = .ok (.astore_n 3, 1) := by decide +kernel
theorem dX2_findKnown_6 : decode cX2_findKnown 6 = .ok (.aload_n 3, 1) := by decide +kernel
theorem dX2_findKnown_7 : decode cX2_findKnown 7 = .ok (.iload_n 1, 1) := by decide +kernel
theorem dX2_findKnown_8 : decode cX2_findKnown 8 = .ok (.invokevirtual 88, 3) := by decide +kernel
theorem dX2_findKnown_11 : decode cX2_findKnown 11 = .ok (.ifCond .ne 13, 3) := by decide +kernel
theorem dX2_findKnown_14 : decode cX2_findKnown 14 = .ok (.new 163, 3) := by decide +kernel
theorem dX2_findKnown_17 : decode cX2_findKnown 17 = .ok (.dup, 1) := by decide +kernel
theorem dX2_findKnown_18 : decode cX2_findKnown 18 = .ok (.ldc 180, 2) := by decide +kernel
theorem dX2_findKnown_20 : decode cX2_findKnown 20 = .ok (.invokespecial 167, 3) := by decide +kernel
theorem dX2_findKnown_23 : decode cX2_findKnown 23 = .ok (.athrow, 1) := by decide +kernel
theorem dX2_findKnown_24 : decode cX2_findKnown 24 = .ok (.aload_n 3, 1) := by decide +kernel
theorem dX2_findKnown_25 : decode cX2_findKnown 25 = .ok (.areturn, 1) := by decide +kernel
theorem dX2_enter_0 : decode cX2_enter 0 = .ok (.aload_n 0, 1) := by decide +kernel
theorem dX2_enter_1 : decode cX2_enter 1 = .ok (.getfield 33, 3) := by decide +kernel
theorem dX2_enter_4 : decode cX2_enter 4 = .ok (.bipush 120, 2) := by decide +kernel
theorem dX2_enter_6 : decode cX2_enter 6 = .ok (.if_icmp .lt 13, 3) := by decide +kernel
theorem dX2_enter_9 : decode cX2_enter 9 = .ok (.new 98, 3) := by decide +kernel
theorem dX2_enter_12 : decode cX2_enter 12 = .ok (.dup, 1) := by decide +kernel
theorem dX2_enter_13 : decode cX2_enter 13 = .ok (.ldc 182, 2) := by decide +kernel
theorem dX2_enter_15 : decode cX2_enter 15 = .ok (.invokespecial 102, 3) := by decide +kernel
theorem dX2_enter_18 : decode cX2_enter 18 = .ok (.athrow, 1) := by decide +kernel
theorem dX2_enter_19 : decode cX2_enter 19 = .ok (.new 9, 3) := by decide +kernel
theorem dX2_enter_22 : decode cX2_enter 22 = .ok (.dup, 1) := by decide +kernel
theorem dX2_enter_23 : decode cX2_enter 23 = .ok (.aload_n 0, 1) := by decide +kernel
theorem dX2_enter_24 : decode cX2_enter 24 = .ok (.getfield 33, 3) := by decide +kernel
theorem dX2_enter_27 : decode cX2_enter 27 = .ok (.iload_n 1, 1) := by decide +kernel
theorem dX2_enter_28 : decode cX2_enter 28 = .ok (.aload_n 0, 1) := by decide +kernel
theorem dX2_enter_29 : decode cX2_enter 29 = .ok (.iload_n 1, 1) := by decide +kernel
theorem dX2_enter_30 : decode cX2_enter 30 = .ok (.invokevirtual 184, 3) := by decide +kernel
theorem dX2_enter_33 : decode cX2_enter 33 = .ok (.iconst 1, 1) := by decide +kernel
theorem dX2_enter_34 : decode cX2_enter 34 = .ok (.iadd, 1) := by decide +kernel
theorem dX2_enter_35 : decode cX2_enter 35 = .ok (.iload_n 2, 1) := by decide +kernel
theorem dX2_enter_36 : decode cX2_enter 36 = .ok (.iload_n 3, 1) := by decide +kernel
theorem dX2_enter_37 : decode cX2_enter 37 = .ok (.iload 4, 2) := by decide +kernel
theorem dX2_enter_39 : decode cX2_enter 39 = .ok (.invokespecial 188, 3) := by decide +kernel
theorem dX2_enter_42 : decode cX2_enter 42 = .ok (.astore 5, 2) := by decide +kernel
theorem dX2_enter_44 : decode cX2_enter 44 = .ok (.aload_n 0, 1) := by decide +kernel
theorem dX2_enter_45 : decode cX2_enter 45 = .ok (.getfield 11, 3) := by decide +kernel
theorem dX2_enter_48 : decode cX2_enter 48 = .ok (.aload_n 0, 1) := by decide +kernel
theorem dX2_enter_49 : decode cX2_enter 49 = .ok (.getfield 33, 3) := by decide +kernel
theorem dX2_enter_52 : decode cX2_enter 52 = .ok (.aload 5, 2) := by decide +kernel
theorem dX2_enter_54 : decode cX2_enter 54 = .ok (.aastore, 1) := by decide +kernel
theorem dX2_enter_55 : decode cX2_enter 55 = .ok (.aload_n 0, 1) := by decide +kernel
theorem dX2_enter_56 : decode cX2_enter 56 = .ok (.dup, 1) := by decide +kernel
theorem dX2_enter_57 : decode cX2_enter 57 = .ok (.getfield 33, 3) := by decide +kernel
theorem dX2_enter_60 : decode cX2_enter 60 = .ok (.iconst 1, 1) := by decide +kernel
theorem dX2_enter_61 : decode cX2_enter 61 = .ok (.iadd, 1) := by decide +kernel
theorem dX2_enter_62 : decode cX2_enter 62 = .ok (.putfield 33, 3) := by decide +kernel
theorem dX2_enter_65 : decode cX2_enter 65 = .ok (.aload_n 0, 1) := by decide +kernel
theorem dX2_enter_66 : decode cX2_enter 66 = .ok (.aload 5, 2) := by decide +kernel
theorem dX2_enter_68 : decode cX2_enter 68 = .ok (.invokevirtual 191, 3) := by decide +kernel
theorem dX2_enter_71 : decode cX2_enter 71 = .ok (.aload 5, 2) := by decide +kernel
theorem dX2_enter_73 : decode cX2_enter 73 = .ok (.areturn, 1) := by decide +kernel
theorem dX2_end_0 : decode cX2_end 0 = .ok (.iload_n 1, 1) := by decide +kernel
theorem dX2_end_1 : decode cX2_end 1 = .ok (.invokestatic 37, 3) := by decide +kernel
theorem dX2_end_4 : decode cX2_end 4 = .ok (.aload_n 0, 1) := by decide +kernel
theorem dX2_end_5 : decode cX2_end 5 = .ok (.iload_n 1, 1) := by decide +kernel
theorem dX2_end_6 : decode cX2_end 6 = .ok (.iload_n 2, 1) := by decide +kernel
theorem dX2_end_7 : decode cX2_end 7 = .ok (.invokevirtual 58, 3) := by decide +kernel
theorem dX2_end_10 : decode cX2_end 10 = .ok (.astore 5, 2) := by decide +kernel
theorem dX2_end_12 : decode cX2_end 12 = .ok (.aload 5, 2) := by decide +kernel
theorem dX2_end_14 : decode cX2_end 14 = .ok (.getfield 62, 3) := by decide +kernel
theorem dX2_end_17 : decode cX2_end 17 = .ok (.iload_n 3, 1) := by decide +kernel
theorem dX2_end_18 : decode cX2_end 18 = .ok (.if_icmp .eq 13, 3) := by decide +kernel
theorem dX2_end_21 : decode cX2_end 21 = .ok (.new 68, 3) := by decide +kernel
theorem dX2_end_24 : decode cX2_end 24 = .ok (.dup, 1) := by decide +kernel
theorem dX2_end_25 : decode cX2_end 25 = .ok (.ldc 195, 2) := by decide +kernel
theorem dX2_end_27 : decode cX2_end 27 = .ok (.invokespecial 72, 3) := by decide +kernel
theorem dX2_end_30 : decode cX2_end 30 = .ok (.athrow, 1) := by decide +kernel
theorem dX2_end_31 : decode cX2_end 31 = .ok (.aload_n 0, 1) := by decide +kernel
theorem dX2_end_32 : decode cX2_end 32 = .ok (.iload_n 1, 1) := by decide +kernel
theorem dX2_end_33 : decode cX2_end 33 = .ok (.iload 4, 2) := by decide +kernel
theorem dX2_end_35 : decode cX2_end 35 = .ok (.iconst (-1), 1) := by decide +kernel
theorem dX2_end_36 : decode cX2_end 36 = .ok (.aload 5, 2) := by decide +kernel
theorem dX2_end_38 : decode cX2_end 38 = .ok (.getfield 55, 3) := by decide +kernel
theorem dX2_end_41 : decode cX2_end 41 = .ok (.invokevirtual 51, 3) := by decide +kernel
theorem dX2_end_44 : decode cX2_end 44 = .ok (.astore 6, 2) := by decide +kernel
theorem dX2_end_46 : decode cX2_end 46 = .ok (.aload 5, 2) := by decide +kernel
theorem dX2_end_48 : decode cX2_end 48 = .ok (.iload_n 1, 1) := by decide +kernel
theorem dX2_end_49 : decode cX2_end 49 = .ok (.invokevirtual 197, 3) := by decide +kernel
theorem dX2_end_52 : decode cX2_end 52 = .ok (.aload 6, 2) := by decide +kernel
theorem dX2_end_54 : decode cX2_end 54 = .ok (.getfield 55, 3) := by decide +kernel
theorem dX2_end_57 : decode cX2_end 57 = .ok (.ireturn, 1) := by decide +kernel
theorem dX2_greatestStamp_0 : decode cX2_greatestStamp 0 = .ok (.iconst 0, 1) := by decide +kernel
theorem dX2_greatestStamp_1 : decode cX2_greatestStamp 1 = .ok (.istore_n 2, 1) := by decide +kernel
theorem dX2_greatestStamp_2 : decode cX2_greatestStamp 2 = .ok (.aload_n 0, 1) := by decide +kernel
theorem dX2_greatestStamp_3 : decode cX2_greatestStamp 3 = .ok (.getfield 29, 3) := by decide +kernel
theorem dX2_greatestStamp_6 : decode cX2_greatestStamp 6 = .ok (.astore_n 3, 1) := by decide +kernel
theorem dX2_greatestStamp_7 : decode cX2_greatestStamp 7 = .ok (.aload_n 3, 1) := by decide +kernel
theorem dX2_greatestStamp_8 : decode cX2_greatestStamp 8 = .ok (.ifnull 24, 3) := by decide +kernel
theorem dX2_greatestStamp_11 : decode cX2_greatestStamp 11 = .ok (.aload_n 3, 1) := by decide +kernel
theorem dX2_greatestStamp_12 : decode cX2_greatestStamp 12 = .ok (.iload_n 1, 1) := by decide +kernel
theorem dX2_greatestStamp_13 : decode cX2_greatestStamp 13 = .ok (.invokevirtual 88, 3) := by decide +kernel
theorem dX2_greatestStamp_16 : decode cX2_greatestStamp 16 = .ok (.ifCond .eq 8, 3) := by decide +kernel
theorem dX2_greatestStamp_19 : decode cX2_greatestStamp 19 = .ok (.aload_n 3, 1) := by decide +kernel
theorem dX2_greatestStamp_20 : decode cX2_greatestStamp 20 = .ok (.getfield 146, 3) := by decide +kernel
theorem dX2_greatestStamp_23 : decode cX2_greatestStamp 23 = .ok (.istore_n 2, 1) := by decide +kernel
theorem dX2_greatestStamp_24 : decode cX2_greatestStamp 24 = .ok (.aload_n 3, 1) := by decide +kernel
theorem dX2_greatestStamp_25 : decode cX2_greatestStamp 25 = .ok (.getfield 95, 3) := by decide +kernel
theorem dX2_greatestStamp_28 : decode cX2_greatestStamp 28 = .ok (.astore_n 3, 1) := by decide +kernel
theorem dX2_greatestStamp_29 : decode cX2_greatestStamp 29 = .ok (.goto (-22), 3) := by decide +kernel
theorem dX2_greatestStamp_32 : decode cX2_greatestStamp 32 = .ok (.iload_n 2, 1) := by decide +kernel
theorem dX2_greatestStamp_33 : decode cX2_greatestStamp 33 = .ok (.ireturn, 1) := by decide +kernel
theorem dX2_putByRank_0 : decode cX2_putByRank 0 = .ok (.aconst_null, 1) := by decide +kernel
theorem dX2_putByRank_1 : decode cX2_putByRank 1 = .ok (.astore_n 2, 1) := by decide +kernel
theorem dX2_putByRank_2 : decode cX2_putByRank 2 = .ok (.aload_n 0, 1) := by decide +kernel
theorem dX2_putByRank_3 : decode cX2_putByRank 3 = .ok (.getfield 29, 3) := by decide +kernel
theorem dX2_putByRank_6 : decode cX2_putByRank 6 = .ok (.astore_n 3, 1) := by decide +kernel
theorem dX2_putByRank_7 : decode cX2_putByRank 7 = .ok (.aload_n 3, 1) := by decide +kernel
theorem dX2_putByRank_8 : decode cX2_putByRank 8 = .ok (.ifnull 21, 3) := by decide +kernel
theorem dX2_putByRank_11 : decode cX2_putByRank 11 = .ok (.aload_n 1, 1) := by decide +kernel
theorem dX2_putByRank_12 : decode cX2_putByRank 12 = .ok (.aload_n 3, 1) := by decide +kernel
theorem dX2_putByRank_13 : decode cX2_putByRank 13 = .ok (.invokevirtual 200, 3) := by decide +kernel
theorem dX2_putByRank_16 : decode cX2_putByRank 16 = .ok (.ifCond .eq 13, 3) := by decide +kernel
theorem dX2_putByRank_19 : decode cX2_putByRank 19 = .ok (.aload_n 3, 1) := by decide +kernel
theorem dX2_putByRank_20 : decode cX2_putByRank 20 = .ok (.astore_n 2, 1) := by decide +kernel
theorem dX2_putByRank_21 : decode cX2_putByRank 21 = .ok (.aload_n 3, 1) := by decide +kernel
theorem dX2_putByRank_22 : decode cX2_putByRank 22 = .ok (.getfield 95, 3) := by decide +kernel
theorem dX2_putByRank_25 : decode cX2_putByRank 25 = .ok (.astore_n 3, 1) := by decide +kernel
theorem dX2_putByRank_26 : decode cX2_putByRank 26 = .ok (.goto (-19), 3) := by decide +kernel
theorem dX2_putByRank_29 : decode cX2_putByRank 29 = .ok (.aload_n 1, 1) := by decide +kernel
theorem dX2_putByRank_30 : decode cX2_putByRank 30 = .ok (.aload_n 3, 1) := by decide +kernel
theorem dX2_putByRank_31 : decode cX2_putByRank 31 = .ok (.putfield 95, 3) := by decide +kernel
theorem dX2_putByRank_34 : decode cX2_putByRank 34 = .ok (.aload_n 2, 1) := by decide +kernel
theorem dX2_putByRank_35 : decode cX2_putByRank 35 = .ok (.ifnonnull 11, 3) := by decide +kernel
theorem dX2_putByRank_38 : decode cX2_putByRank 38 = .ok (.aload_n 0, 1) := by decide +kernel
theorem dX2_putByRank_39 : decode cX2_putByRank 39 = .ok (.aload_n 1, 1) := by decide +kernel
theorem dX2_putByRank_40 : decode cX2_putByRank 40 = .ok (.putfield 29, 3) := by decide +kernel
theorem dX2_putByRank_43 : decode cX2_putByRank 43 = .ok (.goto 8, 3) := by decide +kernel
theorem dX2_putByRank_46 : decode cX2_putByRank 46 = .ok (.aload_n 2, 1) := by decide +kernel
theorem dX2_putByRank_47 : decode cX2_putByRank 47 = .ok (.aload_n 1, 1) := by decide +kernel
theorem dX2_putByRank_48 : decode cX2_putByRank 48 = .ok (.putfield 95, 3) := by decide +kernel
theorem dX2_putByRank_51 : decode cX2_putByRank 51 = .ok (.return_, 1) := by decide +kernel
theorem dX2_putInRow_0 : decode cX2_putInRow 0 = .ok (.aload_n 2, 1) := by decide +kernel
theorem dX2_putInRow_1 : decode cX2_putInRow 1 = .ok (.astore 4, 2) := by decide +kernel
theorem dX2_putInRow_3 : decode cX2_putInRow 3 = .ok (.aload_n 2, 1) := by decide +kernel
theorem dX2_putInRow_4 : decode cX2_putInRow 4 = .ok (.ifnonnull 12, 3) := by decide +kernel
theorem dX2_putInRow_7 : decode cX2_putInRow 7 = .ok (.aload_n 0, 1) := by decide +kernel
theorem dX2_putInRow_8 : decode cX2_putInRow 8 = .ok (.getfield 15, 3) := by decide +kernel
theorem dX2_putInRow_11 : decode cX2_putInRow 11 = .ok (.iload_n 1, 1) := by decide +kernel
theorem dX2_putInRow_12 : decode cX2_putInRow 12 = .ok (.aaload, 1) := by decide +kernel
theorem dX2_putInRow_13 : decode cX2_putInRow 13 = .ok (.goto 7, 3) := by decide +kernel
theorem dX2_putInRow_16 : decode cX2_putInRow 16 = .ok (.aload_n 2, 1) := by decide +kernel
theorem dX2_putInRow_17 : decode cX2_putInRow 17 = .ok (.getfield 203, 3) := by decide +kernel
theorem dX2_putInRow_20 : decode cX2_putInRow 20 = .ok (.astore 5, 2) := by decide +kernel
theorem dX2_putInRow_22 : decode cX2_putInRow 22 = .ok (.aload 5, 2) := by decide +kernel
theorem dX2_putInRow_24 : decode cX2_putInRow 24 = .ok (.ifnull 26, 3) := by decide +kernel
theorem dX2_putInRow_27 : decode cX2_putInRow 27 = .ok (.aload 5, 2) := by decide +kernel
theorem dX2_putInRow_29 : decode cX2_putInRow 29 = .ok (.aload_n 3, 1) := by decide +kernel
theorem dX2_putInRow_30 : decode cX2_putInRow 30 = .ok (.invokevirtual 200, 3) := by decide +kernel
theorem dX2_putInRow_33 : decode cX2_putInRow 33 = .ok (.ifCond .eq 17, 3) := by decide +kernel
theorem dX2_putInRow_36 : decode cX2_putInRow 36 = .ok (.aload 5, 2) := by decide +kernel
theorem dX2_putInRow_38 : decode cX2_putInRow 38 = .ok (.astore 4, 2) := by decide +kernel
theorem dX2_putInRow_40 : decode cX2_putInRow 40 = .ok (.aload 5, 2) := by decide +kernel
theorem dX2_putInRow_42 : decode cX2_putInRow 42 = .ok (.getfield 203, 3) := by decide +kernel
theorem dX2_putInRow_45 : decode cX2_putInRow 45 = .ok (.astore 5, 2) := by decide +kernel
theorem dX2_putInRow_47 : decode cX2_putInRow 47 = .ok (.goto (-25), 3) := by decide +kernel
theorem dX2_putInRow_50 : decode cX2_putInRow 50 = .ok (.aload_n 3, 1) := by decide +kernel
theorem dX2_putInRow_51 : decode cX2_putInRow 51 = .ok (.aload 5, 2) := by decide +kernel
theorem dX2_putInRow_53 : decode cX2_putInRow 53 = .ok (.putfield 203, 3) := by decide +kernel
theorem dX2_putInRow_56 : decode cX2_putInRow 56 = .ok (.aload 4, 2) := by decide +kernel
theorem dX2_putInRow_58 : decode cX2_putInRow 58 = .ok (.ifnonnull 13, 3) := by decide +kernel
theorem dX2_putInRow_61 : decode cX2_putInRow 61 = .ok (.aload_n 0, 1) := by decide +kernel
theorem dX2_putInRow_62 : decode cX2_putInRow 62 = .ok (.getfield 15, 3) := by decide +kernel
theorem dX2_putInRow_65 : decode cX2_putInRow 65 = .ok (.iload_n 1, 1) := by decide +kernel
theorem dX2_putInRow_66 : decode cX2_putInRow 66 = .ok (.aload_n 3, 1) := by decide +kernel
theorem dX2_putInRow_67 : decode cX2_putInRow 67 = .ok (.aastore, 1) := by decide +kernel
theorem dX2_putInRow_68 : decode cX2_putInRow 68 = .ok (.goto 9, 3) := by decide +kernel
theorem dX2_putInRow_71 : decode cX2_putInRow 71 = .ok (.aload 4, 2) := by decide +kernel
theorem dX2_putInRow_73 : decode cX2_putInRow 73 = .ok (.aload_n 3, 1) := by decide +kernel
theorem dX2_putInRow_74 : decode cX2_putInRow 74 = .ok (.putfield 203, 3) := by decide +kernel
theorem dX2_putInRow_77 : decode cX2_putInRow 77 = .ok (.return_, 1) := by decide +kernel
theorem dX2_findInRow_0 : decode cX2_findInRow 0 = .ok (.iconst 0, 1) := by decide +kernel
theorem dX2_findInRow_1 : decode cX2_findInRow 1 = .ok (.istore 4, 2) := by decide +kernel
theorem dX2_findInRow_3 : decode cX2_findInRow 3 = .ok (.aload_n 0, 1) := by decide +kernel
theorem dX2_findInRow_4 : decode cX2_findInRow 4 = .ok (.getfield 15, 3) := by decide +kernel
theorem dX2_findInRow_7 : decode cX2_findInRow 7 = .ok (.iload_n 2, 1) := by decide +kernel
theorem dX2_findInRow_8 : decode cX2_findInRow 8 = .ok (.aaload, 1) := by decide +kernel
theorem dX2_findInRow_9 : decode cX2_findInRow 9 = .ok (.astore 5, 2) := by decide +kernel
theorem dX2_findInRow_11 : decode cX2_findInRow 11 = .ok (.aload 5, 2) := by decide +kernel
theorem dX2_findInRow_13 : decode cX2_findInRow 13 = .ok (.ifnull 43, 3) := by decide +kernel
theorem dX2_findInRow_16 : decode cX2_findInRow 16 = .ok (.aload 5, 2) := by decide +kernel
theorem dX2_findInRow_18 : decode cX2_findInRow 18 = .ok (.iload_n 1, 1) := by decide +kernel
theorem dX2_findInRow_19 : decode cX2_findInRow 19 = .ok (.invokevirtual 88, 3) := by decide +kernel
theorem dX2_findInRow_22 : decode cX2_findInRow 22 = .ok (.ifCond .eq 24, 3) := by decide +kernel
theorem dX2_findInRow_25 : decode cX2_findInRow 25 = .ok (.aload 5, 2) := by decide +kernel
theorem dX2_findInRow_27 : decode cX2_findInRow 27 = .ok (.iload_n 1, 1) := by decide +kernel
theorem dX2_findInRow_28 : decode cX2_findInRow 28 = .ok (.invokevirtual 206, 3) := by decide +kernel
theorem dX2_findInRow_31 : decode cX2_findInRow 31 = .ok (.ifCond .ne 15, 3) := by decide +kernel
theorem dX2_findInRow_34 : decode cX2_findInRow 34 = .ok (.iload 4, 2) := by decide +kernel
theorem dX2_findInRow_36 : decode cX2_findInRow 36 = .ok (.iload_n 3, 1) := by decide +kernel
theorem dX2_findInRow_37 : decode cX2_findInRow 37 = .ok (.if_icmp .ne 6, 3) := by decide +kernel
theorem dX2_findInRow_40 : decode cX2_findInRow 40 = .ok (.aload 5, 2) := by decide +kernel
theorem dX2_findInRow_42 : decode cX2_findInRow 42 = .ok (.areturn, 1) := by decide +kernel
theorem dX2_findInRow_43 : decode cX2_findInRow 43 = .ok (.iinc 4 1, 3) := by decide +kernel
theorem dX2_findInRow_46 : decode cX2_findInRow 46 = .ok (.aload 5, 2) := by decide +kernel
theorem dX2_findInRow_48 : decode cX2_findInRow 48 = .ok (.getfield 203, 3) := by decide +kernel
theorem dX2_findInRow_51 : decode cX2_findInRow 51 = .ok (.astore 5, 2) := by decide +kernel
theorem dX2_findInRow_53 : decode cX2_findInRow 53 = .ok (.goto (-42), 3) := by decide +kernel
theorem dX2_findInRow_56 : decode cX2_findInRow 56 = .ok (.aconst_null, 1) := by decide +kernel
theorem dX2_findInRow_57 : decode cX2_findInRow 57 = .ok (.areturn, 1) := by decide +kernel
theorem dX2_latestValue_0 : decode cX2_latestValue 0 = .ok (.iconst (-1), 1) := by decide +kernel
theorem dX2_latestValue_1 : decode cX2_latestValue 1 = .ok (.istore_n 3, 1) := by decide +kernel
theorem dX2_latestValue_2 : decode cX2_latestValue 2 = .ok (.aload_n 0, 1) := by decide +kernel
theorem dX2_latestValue_3 : decode cX2_latestValue 3 = .ok (.getfield 29, 3) := by decide +kernel
theorem dX2_latestValue_6 : decode cX2_latestValue 6 = .ok (.astore 4, 2) := by decide +kernel
theorem dX2_latestValue_8 : decode cX2_latestValue 8 = .ok (.aload 4, 2) := by decide +kernel
theorem dX2_latestValue_10 : decode cX2_latestValue 10 = .ok (.ifnull 38, 3) := by decide +kernel
theorem dX2_latestValue_13 : decode cX2_latestValue 13 = .ok (.aload 4, 2) := by decide +kernel
theorem dX2_latestValue_15 : decode cX2_latestValue 15 = .ok (.iload_n 2, 1) := by decide +kernel
theorem dX2_latestValue_16 : decode cX2_latestValue 16 = .ok (.iconst 0, 1) := by decide +kernel
theorem dX2_latestValue_17 : decode cX2_latestValue 17 = .ok (.invokevirtual 209, 3) := by decide +kernel
theorem dX2_latestValue_20 : decode cX2_latestValue 20 = .ok (.ifCond .eq 18, 3) := by decide +kernel
theorem dX2_latestValue_23 : decode cX2_latestValue 23 = .ok (.aload 4, 2) := by decide +kernel
theorem dX2_latestValue_25 : decode cX2_latestValue 25 = .ok (.iload_n 1, 1) := by decide +kernel
theorem dX2_latestValue_26 : decode cX2_latestValue 26 = .ok (.invokevirtual 88, 3) := by decide +kernel
theorem dX2_latestValue_29 : decode cX2_latestValue 29 = .ok (.ifCond .eq 9, 3) := by decide +kernel
theorem dX2_latestValue_32 : decode cX2_latestValue 32 = .ok (.aload 4, 2) := by decide +kernel
theorem dX2_latestValue_34 : decode cX2_latestValue 34 = .ok (.getfield 121, 3) := by decide +kernel
theorem dX2_latestValue_37 : decode cX2_latestValue 37 = .ok (.istore_n 3, 1) := by decide +kernel
theorem dX2_latestValue_38 : decode cX2_latestValue 38 = .ok (.aload 4, 2) := by decide +kernel
theorem dX2_latestValue_40 : decode cX2_latestValue 40 = .ok (.getfield 95, 3) := by decide +kernel
theorem dX2_latestValue_43 : decode cX2_latestValue 43 = .ok (.astore 4, 2) := by decide +kernel
theorem dX2_latestValue_45 : decode cX2_latestValue 45 = .ok (.goto (-37), 3) := by decide +kernel
theorem dX2_latestValue_48 : decode cX2_latestValue 48 = .ok (.iload_n 3, 1) := by decide +kernel
theorem dX2_latestValue_49 : decode cX2_latestValue 49 = .ok (.ireturn, 1) := by decide +kernel
theorem dX2_sumOfValues_0 : decode cX2_sumOfValues 0 = .ok (.iconst 0, 1) := by decide +kernel
theorem dX2_sumOfValues_1 : decode cX2_sumOfValues 1 = .ok (.istore_n 3, 1) := by decide +kernel
theorem dX2_sumOfValues_2 : decode cX2_sumOfValues 2 = .ok (.aload_n 0, 1) := by decide +kernel
theorem dX2_sumOfValues_3 : decode cX2_sumOfValues 3 = .ok (.getfield 29, 3) := by decide +kernel
theorem dX2_sumOfValues_6 : decode cX2_sumOfValues 6 = .ok (.astore 4, 2) := by decide +kernel
theorem dX2_sumOfValues_8 : decode cX2_sumOfValues 8 = .ok (.aload 4, 2) := by decide +kernel
theorem dX2_sumOfValues_10 : decode cX2_sumOfValues 10 = .ok (.ifnull 40, 3) := by decide +kernel
theorem dX2_sumOfValues_13 : decode cX2_sumOfValues 13 = .ok (.aload 4, 2) := by decide +kernel
theorem dX2_sumOfValues_15 : decode cX2_sumOfValues 15 = .ok (.iload_n 2, 1) := by decide +kernel
theorem dX2_sumOfValues_16 : decode cX2_sumOfValues 16 = .ok (.iconst 1, 1) := by decide +kernel
theorem dX2_sumOfValues_17 : decode cX2_sumOfValues 17 = .ok (.invokevirtual 209, 3) := by decide +kernel
theorem dX2_sumOfValues_20 : decode cX2_sumOfValues 20 = .ok (.ifCond .eq 20, 3) := by decide +kernel
theorem dX2_sumOfValues_23 : decode cX2_sumOfValues 23 = .ok (.aload 4, 2) := by decide +kernel
theorem dX2_sumOfValues_25 : decode cX2_sumOfValues 25 = .ok (.iload_n 1, 1) := by decide +kernel
theorem dX2_sumOfValues_26 : decode cX2_sumOfValues 26 = .ok (.invokevirtual 88, 3) := by decide +kernel
theorem dX2_sumOfValues_29 : decode cX2_sumOfValues 29 = .ok (.ifCond .eq 11, 3) := by decide +kernel
theorem dX2_sumOfValues_32 : decode cX2_sumOfValues 32 = .ok (.iload_n 3, 1) := by decide +kernel
theorem dX2_sumOfValues_33 : decode cX2_sumOfValues 33 = .ok (.aload 4, 2) := by decide +kernel
theorem dX2_sumOfValues_35 : decode cX2_sumOfValues 35 = .ok (.getfield 121, 3) := by decide +kernel
theorem dX2_sumOfValues_38 : decode cX2_sumOfValues 38 = .ok (.iadd, 1) := by decide +kernel
theorem dX2_sumOfValues_39 : decode cX2_sumOfValues 39 = .ok (.istore_n 3, 1) := by decide +kernel
theorem dX2_sumOfValues_40 : decode cX2_sumOfValues 40 = .ok (.aload 4, 2) := by decide +kernel
theorem dX2_sumOfValues_42 : decode cX2_sumOfValues 42 = .ok (.getfield 95, 3) := by decide +kernel
theorem dX2_sumOfValues_45 : decode cX2_sumOfValues 45 = .ok (.astore 4, 2) := by decide +kernel
theorem dX2_sumOfValues_47 : decode cX2_sumOfValues 47 = .ok (.goto (-39), 3) := by decide +kernel
theorem dX2_sumOfValues_50 : decode cX2_sumOfValues 50 = .ok (.iload_n 3, 1) := by decide +kernel
theorem dX2_sumOfValues_51 : decode cX2_sumOfValues 51 = .ok (.ireturn, 1) := by decide +kernel
theorem dX2_memberOfUnion_0 : decode cX2_memberOfUnion 0 = .ok (.iconst 0, 1) := by decide +kernel
theorem dX2_memberOfUnion_1 : decode cX2_memberOfUnion 1 = .ok (.istore 4, 2) := by decide +kernel
theorem dX2_memberOfUnion_3 : decode cX2_memberOfUnion 3 = .ok (.aload_n 0, 1) := by decide +kernel
theorem dX2_memberOfUnion_4 : decode cX2_memberOfUnion 4 = .ok (.getfield 29, 3) := by decide +kernel
end
section
theorem dX2_memberOfUnion_7 : decode cX2_memberOfUnion 7 = .ok (.astore 5, 2) := by decide +kernel
theorem dX2_memberOfUnion_9 : decode cX2_memberOfUnion 9 = .ok (.aload 5, 2) := by decide +kernel
theorem dX2_memberOfUnion_11 : decode cX2_memberOfUnion 11 = .ok (.ifnull 44, 3) := by decide +kernel
theorem dX2_memberOfUnion_14 : decode cX2_memberOfUnion 14 = .ok (.aload 5, 2) := by decide +kernel
theorem dX2_memberOfUnion_16 : decode cX2_memberOfUnion 16 = .ok (.iload_n 2, 1) := by decide +kernel
theorem dX2_memberOfUnion_17 : decode cX2_memberOfUnion 17 = .ok (.iconst 2, 1) := by decide +kernel
theorem dX2_memberOfUnion_18 : decode cX2_memberOfUnion 18 = .ok (.invokevirtual 209, 3) := by decide +kernel
theorem dX2_memberOfUnion_21 : decode cX2_memberOfUnion 21 = .ok (.ifCond .eq 24, 3) := by decide +kernel
theorem dX2_memberOfUnion_24 : decode cX2_memberOfUnion 24 = .ok (.aload 5, 2) := by decide +kernel
theorem dX2_memberOfUnion_26 : decode cX2_memberOfUnion 26 = .ok (.iload_n 1, 1) := by decide +kernel
theorem dX2_memberOfUnion_27 : decode cX2_memberOfUnion 27 = .ok (.invokevirtual 88, 3) := by decide +kernel
theorem dX2_memberOfUnion_30 : decode cX2_memberOfUnion 30 = .ok (.ifCond .eq 15, 3) := by decide +kernel
theorem dX2_memberOfUnion_33 : decode cX2_memberOfUnion 33 = .ok (.iload 4, 2) := by decide +kernel
theorem dX2_memberOfUnion_35 : decode cX2_memberOfUnion 35 = .ok (.iconst 1, 1) := by decide +kernel
theorem dX2_memberOfUnion_36 : decode cX2_memberOfUnion 36 = .ok (.aload 5, 2) := by decide +kernel
theorem dX2_memberOfUnion_38 : decode cX2_memberOfUnion 38 = .ok (.getfield 121, 3) := by decide +kernel
theorem dX2_memberOfUnion_41 : decode cX2_memberOfUnion 41 = .ok (.ishl, 1) := by decide +kernel
theorem dX2_memberOfUnion_42 : decode cX2_memberOfUnion 42 = .ok (.ior, 1) := by decide +kernel
theorem dX2_memberOfUnion_43 : decode cX2_memberOfUnion 43 = .ok (.istore 4, 2) := by decide +kernel
theorem dX2_memberOfUnion_45 : decode cX2_memberOfUnion 45 = .ok (.aload 5, 2) := by decide +kernel
theorem dX2_memberOfUnion_47 : decode cX2_memberOfUnion 47 = .ok (.getfield 95, 3) := by decide +kernel
theorem dX2_memberOfUnion_50 : decode cX2_memberOfUnion 50 = .ok (.astore 5, 2) := by decide +kernel
theorem dX2_memberOfUnion_52 : decode cX2_memberOfUnion 52 = .ok (.goto (-43), 3) := by decide +kernel
theorem dX2_memberOfUnion_55 : decode cX2_memberOfUnion 55 = .ok (.iconst 0, 1) := by decide +kernel
theorem dX2_memberOfUnion_56 : decode cX2_memberOfUnion 56 = .ok (.istore 5, 2) := by decide +kernel
theorem dX2_memberOfUnion_58 : decode cX2_memberOfUnion 58 = .ok (.iconst 0, 1) := by decide +kernel
theorem dX2_memberOfUnion_59 : decode cX2_memberOfUnion 59 = .ok (.istore 6, 2) := by decide +kernel
theorem dX2_memberOfUnion_61 : decode cX2_memberOfUnion 61 = .ok (.iload 6, 2) := by decide +kernel
theorem dX2_memberOfUnion_63 : decode cX2_memberOfUnion 63 = .ok (.bipush 32, 2) := by decide +kernel
theorem dX2_memberOfUnion_65 : decode cX2_memberOfUnion 65 = .ok (.if_icmp .ge 32, 3) := by decide +kernel
theorem dX2_memberOfUnion_68 : decode cX2_memberOfUnion 68 = .ok (.iload 4, 2) := by decide +kernel
theorem dX2_memberOfUnion_70 : decode cX2_memberOfUnion 70 = .ok (.iload 6, 2) := by decide +kernel
theorem dX2_memberOfUnion_72 : decode cX2_memberOfUnion 72 = .ok (.iushr, 1) := by decide +kernel
theorem dX2_memberOfUnion_73 : decode cX2_memberOfUnion 73 = .ok (.iconst 1, 1) := by decide +kernel
theorem dX2_memberOfUnion_74 : decode cX2_memberOfUnion 74 = .ok (.iand, 1) := by decide +kernel
theorem dX2_memberOfUnion_75 : decode cX2_memberOfUnion 75 = .ok (.iconst 1, 1) := by decide +kernel
theorem dX2_memberOfUnion_76 : decode cX2_memberOfUnion 76 = .ok (.if_icmp .ne 15, 3) := by decide +kernel
theorem dX2_memberOfUnion_79 : decode cX2_memberOfUnion 79 = .ok (.iload 5, 2) := by decide +kernel
theorem dX2_memberOfUnion_81 : decode cX2_memberOfUnion 81 = .ok (.iload_n 3, 1) := by decide +kernel
theorem dX2_memberOfUnion_82 : decode cX2_memberOfUnion 82 = .ok (.if_icmp .ne 6, 3) := by decide +kernel
theorem dX2_memberOfUnion_85 : decode cX2_memberOfUnion 85 = .ok (.iload 6, 2) := by decide +kernel
theorem dX2_memberOfUnion_87 : decode cX2_memberOfUnion 87 = .ok (.ireturn, 1) := by decide +kernel
theorem dX2_memberOfUnion_88 : decode cX2_memberOfUnion 88 = .ok (.iinc 5 1, 3) := by decide +kernel
theorem dX2_memberOfUnion_91 : decode cX2_memberOfUnion 91 = .ok (.iinc 6 1, 3) := by decide +kernel
theorem dX2_memberOfUnion_94 : decode cX2_memberOfUnion 94 = .ok (.goto (-33), 3) := by decide +kernel
theorem dX2_memberOfUnion_97 : decode cX2_memberOfUnion 97 = .ok (.iconst (-1), 1) := by decide +kernel
theorem dX2_memberOfUnion_98 : decode cX2_memberOfUnion 98 = .ok (.ireturn, 1) := by decide +kernel
theorem dX2_takeRelations_0 : decode cX2_takeRelations 0 = .ok (.aload_n 0, 1) := by decide +kernel
theorem dX2_takeRelations_1 : decode cX2_takeRelations 1 = .ok (.getfield 25, 3) := by decide +kernel
theorem dX2_takeRelations_4 : decode cX2_takeRelations 4 = .ok (.invokevirtual 212, 3) := by decide +kernel
theorem dX2_takeRelations_7 : decode cX2_takeRelations 7 = .ok (.aload_n 0, 1) := by decide +kernel
theorem dX2_takeRelations_8 : decode cX2_takeRelations 8 = .ok (.getfield 29, 3) := by decide +kernel
theorem dX2_takeRelations_11 : decode cX2_takeRelations 11 = .ok (.astore_n 2, 1) := by decide +kernel
theorem dX2_takeRelations_12 : decode cX2_takeRelations 12 = .ok (.aload_n 2, 1) := by decide +kernel
theorem dX2_takeRelations_13 : decode cX2_takeRelations 13 = .ok (.ifnull 78, 3) := by decide +kernel
theorem dX2_takeRelations_16 : decode cX2_takeRelations 16 = .ok (.aload_n 2, 1) := by decide +kernel
theorem dX2_takeRelations_17 : decode cX2_takeRelations 17 = .ok (.getfield 62, 3) := by decide +kernel
theorem dX2_takeRelations_20 : decode cX2_takeRelations 20 = .ok (.iconst 5, 1) := by decide +kernel
theorem dX2_takeRelations_21 : decode cX2_takeRelations 21 = .ok (.if_icmp .ne 23, 3) := by decide +kernel
theorem dX2_takeRelations_24 : decode cX2_takeRelations 24 = .ok (.aload_n 2, 1) := by decide +kernel
theorem dX2_takeRelations_25 : decode cX2_takeRelations 25 = .ok (.iload_n 1, 1) := by decide +kernel
theorem dX2_takeRelations_26 : decode cX2_takeRelations 26 = .ok (.invokevirtual 88, 3) := by decide +kernel
theorem dX2_takeRelations_29 : decode cX2_takeRelations 29 = .ok (.ifCond .eq 15, 3) := by decide +kernel
theorem dX2_takeRelations_32 : decode cX2_takeRelations 32 = .ok (.aload_n 2, 1) := by decide +kernel
theorem dX2_takeRelations_33 : decode cX2_takeRelations 33 = .ok (.iload_n 1, 1) := by decide +kernel
theorem dX2_takeRelations_34 : decode cX2_takeRelations 34 = .ok (.invokevirtual 206, 3) := by decide +kernel
theorem dX2_takeRelations_37 : decode cX2_takeRelations 37 = .ok (.ifCond .ne 7, 3) := by decide +kernel
theorem dX2_takeRelations_40 : decode cX2_takeRelations 40 = .ok (.iconst 1, 1) := by decide +kernel
theorem dX2_takeRelations_41 : decode cX2_takeRelations 41 = .ok (.goto 4, 3) := by decide +kernel
theorem dX2_takeRelations_44 : decode cX2_takeRelations 44 = .ok (.iconst 0, 1) := by decide +kernel
theorem dX2_takeRelations_45 : decode cX2_takeRelations 45 = .ok (.istore_n 3, 1) := by decide +kernel
theorem dX2_takeRelations_46 : decode cX2_takeRelations 46 = .ok (.aload_n 2, 1) := by decide +kernel
theorem dX2_takeRelations_47 : decode cX2_takeRelations 47 = .ok (.iload_n 3, 1) := by decide +kernel
theorem dX2_takeRelations_48 : decode cX2_takeRelations 48 = .ok (.ifCond .eq 31, 3) := by decide +kernel
theorem dX2_takeRelations_51 : decode cX2_takeRelations 51 = .ok (.aload_n 0, 1) := by decide +kernel
theorem dX2_takeRelations_52 : decode cX2_takeRelations 52 = .ok (.getfield 25, 3) := by decide +kernel
theorem dX2_takeRelations_55 : decode cX2_takeRelations 55 = .ok (.aload_n 2, 1) := by decide +kernel
theorem dX2_takeRelations_56 : decode cX2_takeRelations 56 = .ok (.getfield 121, 3) := by decide +kernel
theorem dX2_takeRelations_59 : decode cX2_takeRelations 59 = .ok (.bipush 16, 2) := by decide +kernel
theorem dX2_takeRelations_61 : decode cX2_takeRelations 61 = .ok (.idiv, 1) := by decide +kernel
theorem dX2_takeRelations_62 : decode cX2_takeRelations 62 = .ok (.aload_n 2, 1) := by decide +kernel
theorem dX2_takeRelations_63 : decode cX2_takeRelations 63 = .ok (.getfield 121, 3) := by decide +kernel
theorem dX2_takeRelations_66 : decode cX2_takeRelations 66 = .ok (.bipush 16, 2) := by decide +kernel
theorem dX2_takeRelations_68 : decode cX2_takeRelations 68 = .ok (.irem, 1) := by decide +kernel
theorem dX2_takeRelations_69 : decode cX2_takeRelations 69 = .ok (.invokevirtual 215, 3) := by decide +kernel
theorem dX2_takeRelations_72 : decode cX2_takeRelations 72 = .ok (.ifCond .ne 7, 3) := by decide +kernel
theorem dX2_takeRelations_75 : decode cX2_takeRelations 75 = .ok (.iconst 1, 1) := by decide +kernel
theorem dX2_takeRelations_76 : decode cX2_takeRelations 76 = .ok (.goto 4, 3) := by decide +kernel
theorem dX2_takeRelations_79 : decode cX2_takeRelations 79 = .ok (.iconst 0, 1) := by decide +kernel
theorem dX2_takeRelations_80 : decode cX2_takeRelations 80 = .ok (.putfield 131, 3) := by decide +kernel
theorem dX2_takeRelations_83 : decode cX2_takeRelations 83 = .ok (.aload_n 2, 1) := by decide +kernel
theorem dX2_takeRelations_84 : decode cX2_takeRelations 84 = .ok (.getfield 95, 3) := by decide +kernel
theorem dX2_takeRelations_87 : decode cX2_takeRelations 87 = .ok (.astore_n 2, 1) := by decide +kernel
theorem dX2_takeRelations_88 : decode cX2_takeRelations 88 = .ok (.goto (-76), 3) := by decide +kernel
theorem dX2_takeRelations_91 : decode cX2_takeRelations 91 = .ok (.return_, 1) := by decide +kernel
theorem dX2_isOutdone_0 : decode cX2_isOutdone 0 = .ok (.aload_n 0, 1) := by decide +kernel
theorem dX2_isOutdone_1 : decode cX2_isOutdone 1 = .ok (.invokestatic 218, 3) := by decide +kernel
theorem dX2_isOutdone_4 : decode cX2_isOutdone 4 = .ok (.ifCond .ne 5, 3) := by decide +kernel
theorem dX2_isOutdone_7 : decode cX2_isOutdone 7 = .ok (.iconst 0, 1) := by decide +kernel
theorem dX2_isOutdone_8 : decode cX2_isOutdone 8 = .ok (.ireturn, 1) := by decide +kernel
theorem dX2_isOutdone_9 : decode cX2_isOutdone 9 = .ok (.aload_n 0, 1) := by decide +kernel
theorem dX2_isOutdone_10 : decode cX2_isOutdone 10 = .ok (.getfield 95, 3) := by decide +kernel
theorem dX2_isOutdone_13 : decode cX2_isOutdone 13 = .ok (.astore_n 1, 1) := by decide +kernel
theorem dX2_isOutdone_14 : decode cX2_isOutdone 14 = .ok (.aload_n 1, 1) := by decide +kernel
theorem dX2_isOutdone_15 : decode cX2_isOutdone 15 = .ok (.ifnull 31, 3) := by decide +kernel
theorem dX2_isOutdone_18 : decode cX2_isOutdone 18 = .ok (.aload_n 1, 1) := by decide +kernel
theorem dX2_isOutdone_19 : decode cX2_isOutdone 19 = .ok (.invokestatic 218, 3) := by decide +kernel
theorem dX2_isOutdone_22 : decode cX2_isOutdone 22 = .ok (.ifCond .eq 16, 3) := by decide +kernel
theorem dX2_isOutdone_25 : decode cX2_isOutdone 25 = .ok (.aload_n 1, 1) := by decide +kernel
theorem dX2_isOutdone_26 : decode cX2_isOutdone 26 = .ok (.getfield 65, 3) := by decide +kernel
theorem dX2_isOutdone_29 : decode cX2_isOutdone 29 = .ok (.aload_n 0, 1) := by decide +kernel
theorem dX2_isOutdone_30 : decode cX2_isOutdone 30 = .ok (.getfield 65, 3) := by decide +kernel
theorem dX2_isOutdone_33 : decode cX2_isOutdone 33 = .ok (.if_icmp .ne 5, 3) := by decide +kernel
theorem dX2_isOutdone_36 : decode cX2_isOutdone 36 = .ok (.iconst 1, 1) := by decide +kernel
theorem dX2_isOutdone_37 : decode cX2_isOutdone 37 = .ok (.ireturn, 1) := by decide +kernel
theorem dX2_isOutdone_38 : decode cX2_isOutdone 38 = .ok (.aload_n 1, 1) := by decide +kernel
theorem dX2_isOutdone_39 : decode cX2_isOutdone 39 = .ok (.getfield 95, 3) := by decide +kernel
theorem dX2_isOutdone_42 : decode cX2_isOutdone 42 = .ok (.astore_n 1, 1) := by decide +kernel
theorem dX2_isOutdone_43 : decode cX2_isOutdone 43 = .ok (.goto (-29), 3) := by decide +kernel
theorem dX2_isOutdone_46 : decode cX2_isOutdone 46 = .ok (.iconst 0, 1) := by decide +kernel
theorem dX2_isOutdone_47 : decode cX2_isOutdone 47 = .ok (.ireturn, 1) := by decide +kernel
theorem dX2_isSharedLatest_0 : decode cX2_isSharedLatest 0 = .ok (.aload_n 0, 1) := by decide +kernel
theorem dX2_isSharedLatest_1 : decode cX2_isSharedLatest 1 = .ok (.getfield 62, 3) := by decide +kernel
theorem dX2_isSharedLatest_4 : decode cX2_isSharedLatest 4 = .ok (.ifCond .ne 16, 3) := by decide +kernel
theorem dX2_isSharedLatest_7 : decode cX2_isSharedLatest 7 = .ok (.aload_n 0, 1) := by decide +kernel
theorem dX2_isSharedLatest_8 : decode cX2_isSharedLatest 8 = .ok (.getfield 221, 3) := by decide +kernel
theorem dX2_isSharedLatest_11 : decode cX2_isSharedLatest 11 = .ok (.bipush 63, 2) := by decide +kernel
theorem dX2_isSharedLatest_13 : decode cX2_isSharedLatest 13 = .ok (.if_icmp .ne 7, 3) := by decide +kernel
theorem dX2_isSharedLatest_16 : decode cX2_isSharedLatest 16 = .ok (.iconst 1, 1) := by decide +kernel
theorem dX2_isSharedLatest_17 : decode cX2_isSharedLatest 17 = .ok (.goto 4, 3) := by decide +kernel
theorem dX2_isSharedLatest_20 : decode cX2_isSharedLatest 20 = .ok (.iconst 0, 1) := by decide +kernel
theorem dX2_isSharedLatest_21 : decode cX2_isSharedLatest 21 = .ok (.ireturn, 1) := by decide +kernel
theorem dX2_countForgotten_0 : decode cX2_countForgotten 0 = .ok (.iconst 0, 1) := by decide +kernel
theorem dX2_countForgotten_1 : decode cX2_countForgotten 1 = .ok (.istore_n 1, 1) := by decide +kernel
theorem dX2_countForgotten_2 : decode cX2_countForgotten 2 = .ok (.aload_n 0, 1) := by decide +kernel
theorem dX2_countForgotten_3 : decode cX2_countForgotten 3 = .ok (.getfield 29, 3) := by decide +kernel
theorem dX2_countForgotten_6 : decode cX2_countForgotten 6 = .ok (.astore_n 2, 1) := by decide +kernel
theorem dX2_countForgotten_7 : decode cX2_countForgotten 7 = .ok (.aload_n 2, 1) := by decide +kernel
theorem dX2_countForgotten_8 : decode cX2_countForgotten 8 = .ok (.ifnull 21, 3) := by decide +kernel
theorem dX2_countForgotten_11 : decode cX2_countForgotten 11 = .ok (.aload_n 2, 1) := by decide +kernel
theorem dX2_countForgotten_12 : decode cX2_countForgotten 12 = .ok (.invokevirtual 224, 3) := by decide +kernel
theorem dX2_countForgotten_15 : decode cX2_countForgotten 15 = .ok (.ifCond .eq 6, 3) := by decide +kernel
theorem dX2_countForgotten_18 : decode cX2_countForgotten 18 = .ok (.iinc 1 1, 3) := by decide +kernel
theorem dX2_countForgotten_21 : decode cX2_countForgotten 21 = .ok (.aload_n 2, 1) := by decide +kernel
theorem dX2_countForgotten_22 : decode cX2_countForgotten 22 = .ok (.getfield 95, 3) := by decide +kernel
theorem dX2_countForgotten_25 : decode cX2_countForgotten 25 = .ok (.astore_n 2, 1) := by decide +kernel
theorem dX2_countForgotten_26 : decode cX2_countForgotten 26 = .ok (.goto (-19), 3) := by decide +kernel
theorem dX2_countForgotten_29 : decode cX2_countForgotten 29 = .ok (.iload_n 1, 1) := by decide +kernel
theorem dX2_countForgotten_30 : decode cX2_countForgotten 30 = .ok (.ireturn, 1) := by decide +kernel
theorem dX2_countUnshared_0 : decode cX2_countUnshared 0 = .ok (.iconst 0, 1) := by decide +kernel
theorem dX2_countUnshared_1 : decode cX2_countUnshared 1 = .ok (.istore_n 1, 1) := by decide +kernel
theorem dX2_countUnshared_2 : decode cX2_countUnshared 2 = .ok (.aload_n 0, 1) := by decide +kernel
theorem dX2_countUnshared_3 : decode cX2_countUnshared 3 = .ok (.getfield 29, 3) := by decide +kernel
theorem dX2_countUnshared_6 : decode cX2_countUnshared 6 = .ok (.astore_n 2, 1) := by decide +kernel
theorem dX2_countUnshared_7 : decode cX2_countUnshared 7 = .ok (.aload_n 2, 1) := by decide +kernel
theorem dX2_countUnshared_8 : decode cX2_countUnshared 8 = .ok (.ifnull 30, 3) := by decide +kernel
theorem dX2_countUnshared_11 : decode cX2_countUnshared 11 = .ok (.aload_n 2, 1) := by decide +kernel
theorem dX2_countUnshared_12 : decode cX2_countUnshared 12 = .ok (.invokevirtual 224, 3) := by decide +kernel
theorem dX2_countUnshared_15 : decode cX2_countUnshared 15 = .ok (.ifCond .ne 15, 3) := by decide +kernel
theorem dX2_countUnshared_18 : decode cX2_countUnshared 18 = .ok (.aload_n 2, 1) := by decide +kernel
theorem dX2_countUnshared_19 : decode cX2_countUnshared 19 = .ok (.getfield 221, 3) := by decide +kernel
theorem dX2_countUnshared_22 : decode cX2_countUnshared 22 = .ok (.bipush 63, 2) := by decide +kernel
theorem dX2_countUnshared_24 : decode cX2_countUnshared 24 = .ok (.if_icmp .eq 6, 3) := by decide +kernel
theorem dX2_countUnshared_27 : decode cX2_countUnshared 27 = .ok (.iinc 1 1, 3) := by decide +kernel
theorem dX2_countUnshared_30 : decode cX2_countUnshared 30 = .ok (.aload_n 2, 1) := by decide +kernel
theorem dX2_countUnshared_31 : decode cX2_countUnshared 31 = .ok (.getfield 95, 3) := by decide +kernel
theorem dX2_countUnshared_34 : decode cX2_countUnshared 34 = .ok (.astore_n 2, 1) := by decide +kernel
theorem dX2_countUnshared_35 : decode cX2_countUnshared 35 = .ok (.goto (-28), 3) := by decide +kernel
theorem dX2_countUnshared_38 : decode cX2_countUnshared 38 = .ok (.iload_n 1, 1) := by decide +kernel
theorem dX2_countUnshared_39 : decode cX2_countUnshared 39 = .ok (.ireturn, 1) := by decide +kernel
theorem dX3_init_0 : decode cX3_init 0 = .ok (.aload_n 0, 1) := by decide +kernel
theorem dX3_init_1 : decode cX3_init 1 = .ok (.invokespecial 1, 3) := by decide +kernel
theorem dX3_init_4 : decode cX3_init 4 = .ok (.aload_n 0, 1) := by decide +kernel
theorem dX3_init_5 : decode cX3_init 5 = .ok (.bipush 120, 2) := by decide +kernel
theorem dX3_init_7 : decode cX3_init 7 = .ok (.newarray .int, 2) := by decide +kernel
theorem dX3_init_9 : decode cX3_init 9 = .ok (.putfield 7, 3) := by decide +kernel
theorem dX3_init_12 : decode cX3_init 12 = .ok (.aload_n 0, 1) := by decide +kernel
theorem dX3_init_13 : decode cX3_init 13 = .ok (.bipush 120, 2) := by decide +kernel
theorem dX3_init_15 : decode cX3_init 15 = .ok (.newarray .int, 2) := by decide +kernel
theorem dX3_init_17 : decode cX3_init 17 = .ok (.putfield 13, 3) := by decide +kernel
theorem dX3_init_20 : decode cX3_init 20 = .ok (.aload_n 0, 1) := by decide +kernel
theorem dX3_init_21 : decode cX3_init 21 = .ok (.bipush 120, 2) := by decide +kernel
theorem dX3_init_23 : decode cX3_init 23 = .ok (.newarray .int, 2) := by decide +kernel
theorem dX3_init_25 : decode cX3_init 25 = .ok (.putfield 16, 3) := by decide +kernel
theorem dX3_init_28 : decode cX3_init 28 = .ok (.aload_n 0, 1) := by decide +kernel
theorem dX3_init_29 : decode cX3_init 29 = .ok (.bipush 120, 2) := by decide +kernel
theorem dX3_init_31 : decode cX3_init 31 = .ok (.newarray .int, 2) := by decide +kernel
theorem dX3_init_33 : decode cX3_init 33 = .ok (.putfield 19, 3) := by decide +kernel
theorem dX3_init_36 : decode cX3_init 36 = .ok (.aload_n 0, 1) := by decide +kernel
theorem dX3_init_37 : decode cX3_init 37 = .ok (.bipush 120, 2) := by decide +kernel
theorem dX3_init_39 : decode cX3_init 39 = .ok (.newarray .int, 2) := by decide +kernel
theorem dX3_init_41 : decode cX3_init 41 = .ok (.putfield 22, 3) := by decide +kernel
theorem dX3_init_44 : decode cX3_init 44 = .ok (.aload_n 0, 1) := by decide +kernel
theorem dX3_init_45 : decode cX3_init 45 = .ok (.bipush 120, 2) := by decide +kernel
theorem dX3_init_47 : decode cX3_init 47 = .ok (.newarray .int, 2) := by decide +kernel
theorem dX3_init_49 : decode cX3_init 49 = .ok (.putfield 25, 3) := by decide +kernel
theorem dX3_init_52 : decode cX3_init 52 = .ok (.aload_n 0, 1) := by decide +kernel
theorem dX3_init_53 : decode cX3_init 53 = .ok (.bipush 120, 2) := by decide +kernel
theorem dX3_init_55 : decode cX3_init 55 = .ok (.newarray .boolean, 2) := by decide +kernel
theorem dX3_init_57 : decode cX3_init 57 = .ok (.putfield 28, 3) := by decide +kernel
theorem dX3_init_60 : decode cX3_init 60 = .ok (.aload_n 0, 1) := by decide +kernel
theorem dX3_init_61 : decode cX3_init 61 = .ok (.sipush 720, 3) := by decide +kernel
theorem dX3_init_64 : decode cX3_init 64 = .ok (.newarray .boolean, 2) := by decide +kernel
theorem dX3_init_66 : decode cX3_init 66 = .ok (.putfield 32, 3) := by decide +kernel
theorem dX3_init_69 : decode cX3_init 69 = .ok (.aload_n 0, 1) := by decide +kernel
theorem dX3_init_70 : decode cX3_init 70 = .ok (.bipush 6, 2) := by decide +kernel
theorem dX3_init_72 : decode cX3_init 72 = .ok (.newarray .int, 2) := by decide +kernel
theorem dX3_init_74 : decode cX3_init 74 = .ok (.putfield 35, 3) := by decide +kernel
theorem dX3_init_77 : decode cX3_init 77 = .ok (.aload_n 0, 1) := by decide +kernel
theorem dX3_init_78 : decode cX3_init 78 = .ok (.bipush 120, 2) := by decide +kernel
theorem dX3_init_80 : decode cX3_init 80 = .ok (.newarray .int, 2) := by decide +kernel
theorem dX3_init_82 : decode cX3_init 82 = .ok (.putfield 38, 3) := by decide +kernel
theorem dX3_init_85 : decode cX3_init 85 = .ok (.aload_n 0, 1) := by decide +kernel
theorem dX3_init_86 : decode cX3_init 86 = .ok (.sipush 256, 3) := by decide +kernel
theorem dX3_init_89 : decode cX3_init 89 = .ok (.newarray .boolean, 2) := by decide +kernel
theorem dX3_init_91 : decode cX3_init 91 = .ok (.putfield 41, 3) := by decide +kernel
theorem dX3_init_94 : decode cX3_init 94 = .ok (.aload_n 0, 1) := by decide +kernel
theorem dX3_init_95 : decode cX3_init 95 = .ok (.bipush 120, 2) := by decide +kernel
theorem dX3_init_97 : decode cX3_init 97 = .ok (.newarray .int, 2) := by decide +kernel
theorem dX3_init_99 : decode cX3_init 99 = .ok (.putfield 44, 3) := by decide +kernel
theorem dX3_init_102 : decode cX3_init 102 = .ok (.aload_n 0, 1) := by decide +kernel
theorem dX3_init_103 : decode cX3_init 103 = .ok (.bipush 120, 2) := by decide +kernel
theorem dX3_init_105 : decode cX3_init 105 = .ok (.newarray .boolean, 2) := by decide +kernel
theorem dX3_init_107 : decode cX3_init 107 = .ok (.putfield 47, 3) := by decide +kernel
theorem dX3_init_110 : decode cX3_init 110 = .ok (.return_, 1) := by decide +kernel
theorem dX3_thrown_0 : decode cX3_thrown 0 = .ok (.aload_n 0, 1) := by decide +kernel
theorem dX3_thrown_1 : decode cX3_thrown 1 = .ok (.getfield 50, 3) := by decide +kernel
theorem dX3_thrown_4 : decode cX3_thrown 4 = .ok (.ireturn, 1) := by decide +kernel
theorem dX3_goes_0 : decode cX3_goes 0 = .ok (.aload_n 0, 1) := by decide +kernel
theorem dX3_goes_1 : decode cX3_goes 1 = .ok (.iload_n 1, 1) := by decide +kernel
theorem dX3_goes_2 : decode cX3_goes 2 = .ok (.ifCond .ne 7, 3) := by decide +kernel
theorem dX3_goes_5 : decode cX3_goes 5 = .ok (.iconst 1, 1) := by decide +kernel
theorem dX3_goes_6 : decode cX3_goes 6 = .ok (.goto 20, 3) := by decide +kernel
theorem dX3_goes_9 : decode cX3_goes 9 = .ok (.iload_n 2, 1) := by decide +kernel
theorem dX3_goes_10 : decode cX3_goes 10 = .ok (.ifCond .ne 7, 3) := by decide +kernel
theorem dX3_goes_13 : decode cX3_goes 13 = .ok (.iconst 2, 1) := by decide +kernel
theorem dX3_goes_14 : decode cX3_goes 14 = .ok (.goto 12, 3) := by decide +kernel
theorem dX3_goes_17 : decode cX3_goes 17 = .ok (.iload_n 3, 1) := by decide +kernel
theorem dX3_goes_18 : decode cX3_goes 18 = .ok (.ifCond .ne 7, 3) := by decide +kernel
theorem dX3_goes_21 : decode cX3_goes 21 = .ok (.iconst 3, 1) := by decide +kernel
theorem dX3_goes_22 : decode cX3_goes 22 = .ok (.goto 4, 3) := by decide +kernel
theorem dX3_goes_25 : decode cX3_goes 25 = .ok (.iconst 0, 1) := by decide +kernel
theorem dX3_goes_26 : decode cX3_goes 26 = .ok (.putfield 50, 3) := by decide +kernel
theorem dX3_goes_29 : decode cX3_goes 29 = .ok (.aload_n 0, 1) := by decide +kernel
theorem dX3_goes_30 : decode cX3_goes 30 = .ok (.getfield 50, 3) := by decide +kernel
theorem dX3_goes_33 : decode cX3_goes 33 = .ok (.ifCond .ne 7, 3) := by decide +kernel
theorem dX3_goes_36 : decode cX3_goes 36 = .ok (.iconst 1, 1) := by decide +kernel
theorem dX3_goes_37 : decode cX3_goes 37 = .ok (.goto 4, 3) := by decide +kernel
theorem dX3_goes_40 : decode cX3_goes 40 = .ok (.iconst 0, 1) := by decide +kernel
theorem dX3_goes_41 : decode cX3_goes 41 = .ok (.ireturn, 1) := by decide +kernel
theorem dX3_within_0 : decode cX3_within 0 = .ok (.iload_n 0, 1) := by decide +kernel
theorem dX3_within_1 : decode cX3_within 1 = .ok (.iload_n 1, 1) := by decide +kernel
theorem dX3_within_2 : decode cX3_within 2 = .ok (.if_icmp .lt 12, 3) := by decide +kernel
theorem dX3_within_5 : decode cX3_within 5 = .ok (.iload_n 0, 1) := by decide +kernel
theorem dX3_within_6 : decode cX3_within 6 = .ok (.iload_n 2, 1) := by decide +kernel
theorem dX3_within_7 : decode cX3_within 7 = .ok (.if_icmp .gt 7, 3) := by decide +kernel
theorem dX3_within_10 : decode cX3_within 10 = .ok (.iconst 1, 1) := by decide +kernel
theorem dX3_within_11 : decode cX3_within 11 = .ok (.goto 4, 3) := by decide +kernel
theorem dX3_within_14 : decode cX3_within 14 = .ok (.iconst 0, 1) := by decide +kernel
theorem dX3_within_15 : decode cX3_within 15 = .ok (.ireturn, 1) := by decide +kernel
theorem dX3_isDesk_0 : decode cX3_isDesk 0 = .ok (.iload_n 0, 1) := by decide +kernel
theorem dX3_isDesk_1 : decode cX3_isDesk 1 = .ok (.ifCond .lt 13, 3) := by decide +kernel
theorem dX3_isDesk_4 : decode cX3_isDesk 4 = .ok (.iload_n 0, 1) := by decide +kernel
theorem dX3_isDesk_5 : decode cX3_isDesk 5 = .ok (.bipush 6, 2) := by decide +kernel
theorem dX3_isDesk_7 : decode cX3_isDesk 7 = .ok (.if_icmp .ge 7, 3) := by decide +kernel
theorem dX3_isDesk_10 : decode cX3_isDesk 10 = .ok (.iconst 1, 1) := by decide +kernel
theorem dX3_isDesk_11 : decode cX3_isDesk 11 = .ok (.goto 4, 3) := by decide +kernel
theorem dX3_isDesk_14 : decode cX3_isDesk 14 = .ok (.iconst 0, 1) := by decide +kernel
theorem dX3_isDesk_15 : decode cX3_isDesk 15 = .ok (.ireturn, 1) := by decide +kernel
theorem dX3_isThing_0 : decode cX3_isThing 0 = .ok (.iload_n 0, 1) := by decide +kernel
theorem dX3_isThing_1 : decode cX3_isThing 1 = .ok (.ifCond .lt 13, 3) := by decide +kernel
theorem dX3_isThing_4 : decode cX3_isThing 4 = .ok (.iload_n 0, 1) := by decide +kernel
theorem dX3_isThing_5 : decode cX3_isThing 5 = .ok (.bipush 16, 2) := by decide +kernel
theorem dX3_isThing_7 : decode cX3_isThing 7 = .ok (.if_icmp .ge 7, 3) := by decide +kernel
theorem dX3_isThing_10 : decode cX3_isThing 10 = .ok (.iconst 1, 1) := by decide +kernel
theorem dX3_isThing_11 : decode cX3_isThing 11 = .ok (.goto 4, 3) := by decide +kernel
theorem dX3_isThing_14 : decode cX3_isThing 14 = .ok (.iconst 0, 1) := by decide +kernel
theorem dX3_isThing_15 : decode cX3_isThing 15 = .ok (.ireturn, 1) := by decide +kernel
theorem dX3_knowsOf_0 : decode cX3_knowsOf 0 = .ok (.iload_n 1, 1) := by decide +kernel
theorem dX3_knowsOf_1 : decode cX3_knowsOf 1 = .ok (.invokestatic 54, 3) := by decide +kernel
theorem dX3_knowsOf_4 : decode cX3_knowsOf 4 = .ok (.ifCond .eq 33, 3) := by decide +kernel
theorem dX3_knowsOf_7 : decode cX3_knowsOf 7 = .ok (.iload_n 2, 1) := by decide +kernel
theorem dX3_knowsOf_8 : decode cX3_knowsOf 8 = .ok (.ifCond .lt 29, 3) := by decide +kernel
theorem dX3_knowsOf_11 : decode cX3_knowsOf 11 = .ok (.iload_n 2, 1) := by decide +kernel
theorem dX3_knowsOf_12 : decode cX3_knowsOf 12 = .ok (.aload_n 0, 1) := by decide +kernel
theorem dX3_knowsOf_13 : decode cX3_knowsOf 13 = .ok (.getfield 58, 3) := by decide +kernel
theorem dX3_knowsOf_16 : decode cX3_knowsOf 16 = .ok (.if_icmp .ge 21, 3) := by decide +kernel
theorem dX3_knowsOf_19 : decode cX3_knowsOf 19 = .ok (.aload_n 0, 1) := by decide +kernel
theorem dX3_knowsOf_20 : decode cX3_knowsOf 20 = .ok (.getfield 32, 3) := by decide +kernel
theorem dX3_knowsOf_23 : decode cX3_knowsOf 23 = .ok (.bipush 120, 2) := by decide +kernel
theorem dX3_knowsOf_25 : decode cX3_knowsOf 25 = .ok (.iload_n 1, 1) := by decide +kernel
theorem dX3_knowsOf_26 : decode cX3_knowsOf 26 = .ok (.imul, 1) := by decide +kernel
theorem dX3_knowsOf_27 : decode cX3_knowsOf 27 = .ok (.iload_n 2, 1) := by decide +kernel
theorem dX3_knowsOf_28 : decode cX3_knowsOf 28 = .ok (.iadd, 1) := by decide +kernel
theorem dX3_knowsOf_29 : decode cX3_knowsOf 29 = .ok (.baload, 1) := by decide +kernel
theorem dX3_knowsOf_30 : decode cX3_knowsOf 30 = .ok (.ifCond .eq 7, 3) := by decide +kernel
theorem dX3_knowsOf_33 : decode cX3_knowsOf 33 = .ok (.iconst 1, 1) := by decide +kernel
theorem dX3_knowsOf_34 : decode cX3_knowsOf 34 = .ok (.goto 4, 3) := by decide +kernel
theorem dX3_knowsOf_37 : decode cX3_knowsOf 37 = .ok (.iconst 0, 1) := by decide +kernel
theorem dX3_knowsOf_38 : decode cX3_knowsOf 38 = .ok (.ireturn, 1) := by decide +kernel
theorem dX3_earlier_0 : decode cX3_earlier 0 = .ok (.aload_n 0, 1) := by decide +kernel
theorem dX3_earlier_1 : decode cX3_earlier 1 = .ok (.getfield 7, 3) := by decide +kernel
theorem dX3_earlier_4 : decode cX3_earlier 4 = .ok (.iload_n 1, 1) := by decide +kernel
theorem dX3_earlier_5 : decode cX3_earlier 5 = .ok (.iaload, 1) := by decide +kernel
theorem dX3_earlier_6 : decode cX3_earlier 6 = .ok (.aload_n 0, 1) := by decide +kernel
theorem dX3_earlier_7 : decode cX3_earlier 7 = .ok (.getfield 7, 3) := by decide +kernel
theorem dX3_earlier_10 : decode cX3_earlier 10 = .ok (.iload_n 2, 1) := by decide +kernel
theorem dX3_earlier_11 : decode cX3_earlier 11 = .ok (.iaload, 1) := by decide +kernel
theorem dX3_earlier_12 : decode cX3_earlier 12 = .ok (.if_icmp .lt 33, 3) := by decide +kernel
theorem dX3_earlier_15 : decode cX3_earlier 15 = .ok (.aload_n 0, 1) := by decide +kernel
theorem dX3_earlier_16 : decode cX3_earlier 16 = .ok (.getfield 7, 3) := by decide +kernel
theorem dX3_earlier_19 : decode cX3_earlier 19 = .ok (.iload_n 1, 1) := by decide +kernel
theorem dX3_earlier_20 : decode cX3_earlier 20 = .ok (.iaload, 1) := by decide +kernel
theorem dX3_earlier_21 : decode cX3_earlier 21 = .ok (.aload_n 0, 1) := by decide +kernel
theorem dX3_earlier_22 : decode cX3_earlier 22 = .ok (.getfield 7, 3) := by decide +kernel
theorem dX3_earlier_25 : decode cX3_earlier 25 = .ok (.iload_n 2, 1) := by decide +kernel
theorem dX3_earlier_26 : decode cX3_earlier 26 = .ok (.iaload, 1) := by decide +kernel
theorem dX3_earlier_27 : decode cX3_earlier 27 = .ok (.if_icmp .ne 22, 3) := by decide +kernel
theorem dX3_earlier_30 : decode cX3_earlier 30 = .ok (.aload_n 0, 1) := by decide +kernel
theorem dX3_earlier_31 : decode cX3_earlier 31 = .ok (.getfield 13, 3) := by decide +kernel
theorem dX3_earlier_34 : decode cX3_earlier 34 = .ok (.iload_n 1, 1) := by decide +kernel
theorem dX3_earlier_35 : decode cX3_earlier 35 = .ok (.iaload, 1) := by decide +kernel
theorem dX3_earlier_36 : decode cX3_earlier 36 = .ok (.aload_n 0, 1) := by decide +kernel
theorem dX3_earlier_37 : decode cX3_earlier 37 = .ok (.getfield 13, 3) := by decide +kernel
theorem dX3_earlier_40 : decode cX3_earlier 40 = .ok (.iload_n 2, 1) := by decide +kernel
theorem dX3_earlier_41 : decode cX3_earlier 41 = .ok (.iaload, 1) := by decide +kernel
theorem dX3_earlier_42 : decode cX3_earlier 42 = .ok (.if_icmp .ge 7, 3) := by decide +kernel
theorem dX3_earlier_45 : decode cX3_earlier 45 = .ok (.iconst 1, 1) := by decide +kernel
theorem dX3_earlier_46 : decode cX3_earlier 46 = .ok (.goto 4, 3) := by decide +kernel
theorem dX3_earlier_49 : decode cX3_earlier 49 = .ok (.iconst 0, 1) := by decide +kernel
theorem dX3_earlier_50 : decode cX3_earlier 50 = .ok (.ireturn, 1) := by decide +kernel
theorem dX3_make_0 : decode cX3_make 0 = .ok (.iconst 0, 1) := by decide +kernel
theorem dX3_make_1 : decode cX3_make 1 = .ok (.istore 6, 2) := by decide +kernel
theorem dX3_make_3 : decode cX3_make 3 = .ok (.iconst 0, 1) := by decide +kernel
theorem dX3_make_4 : decode cX3_make 4 = .ok (.istore 7, 2) := by decide +kernel
theorem dX3_make_6 : decode cX3_make 6 = .ok (.iload 7, 2) := by decide +kernel
theorem dX3_make_8 : decode cX3_make 8 = .ok (.aload_n 0, 1) := by decide +kernel
theorem dX3_make_9 : decode cX3_make 9 = .ok (.getfield 58, 3) := by decide +kernel
theorem dX3_make_12 : decode cX3_make 12 = .ok (.if_icmp .ge 50, 3) := by decide +kernel
theorem dX3_make_15 : decode cX3_make 15 = .ok (.aload_n 0, 1) := by decide +kernel
theorem dX3_make_16 : decode cX3_make 16 = .ok (.getfield 32, 3) := by decide +kernel
theorem dX3_make_19 : decode cX3_make 19 = .ok (.bipush 120, 2) := by decide +kernel
theorem dX3_make_21 : decode cX3_make 21 = .ok (.iload_n 1, 1) := by decide +kernel
theorem dX3_make_22 : decode cX3_make 22 = .ok (.imul, 1) := by decide +kernel
theorem dX3_make_23 : decode cX3_make 23 = .ok (.iload 7, 2) := by decide +kernel
theorem dX3_make_25 : decode cX3_make 25 = .ok (.iadd, 1) := by decide +kernel
theorem dX3_make_26 : decode cX3_make 26 = .ok (.baload, 1) := by decide +kernel
theorem dX3_make_27 : decode cX3_make 27 = .ok (.ifCond .eq 25, 3) := by decide +kernel
theorem dX3_make_30 : decode cX3_make 30 = .ok (.aload_n 0, 1) := by decide +kernel
theorem dX3_make_31 : decode cX3_make 31 = .ok (.getfield 7, 3) := by decide +kernel
theorem dX3_make_34 : decode cX3_make 34 = .ok (.iload 7, 2) := by decide +kernel
theorem dX3_make_36 : decode cX3_make 36 = .ok (.iaload, 1) := by decide +kernel
theorem dX3_make_37 : decode cX3_make 37 = .ok (.iload 6, 2) := by decide +kernel
theorem dX3_make_39 : decode cX3_make 39 = .ok (.if_icmp .le 13, 3) := by decide +kernel
theorem dX3_make_42 : decode cX3_make 42 = .ok (.aload_n 0, 1) := by decide +kernel
theorem dX3_make_43 : decode cX3_make 43 = .ok (.getfield 7, 3) := by decide +kernel
theorem dX3_make_46 : decode cX3_make 46 = .ok (.iload 7, 2) := by decide +kernel
theorem dX3_make_48 : decode cX3_make 48 = .ok (.iaload, 1) := by decide +kernel
theorem dX3_make_49 : decode cX3_make 49 = .ok (.goto 5, 3) := by decide +kernel
theorem dX3_make_52 : decode cX3_make 52 = .ok (.iload 6, 2) := by decide +kernel
theorem dX3_make_54 : decode cX3_make 54 = .ok (.istore 6, 2) := by decide +kernel
theorem dX3_make_56 : decode cX3_make 56 = .ok (.iinc 7 1, 3) := by decide +kernel
theorem dX3_make_59 : decode cX3_make 59 = .ok (.goto (-53), 3) := by decide +kernel
theorem dX3_make_62 : decode cX3_make 62 = .ok (.aload_n 0, 1) := by decide +kernel
theorem dX3_make_63 : decode cX3_make 63 = .ok (.getfield 7, 3) := by decide +kernel
theorem dX3_make_66 : decode cX3_make 66 = .ok (.aload_n 0, 1) := by decide +kernel
theorem dX3_make_67 : decode cX3_make 67 = .ok (.getfield 58, 3) := by decide +kernel
theorem dX3_make_70 : decode cX3_make 70 = .ok (.iload 6, 2) := by decide +kernel
theorem dX3_make_72 : decode cX3_make 72 = .ok (.iconst 1, 1) := by decide +kernel
theorem dX3_make_73 : decode cX3_make 73 = .ok (.iadd, 1) := by decide +kernel
theorem dX3_make_74 : decode cX3_make 74 = .ok (.iastore, 1) := by decide +kernel
theorem dX3_make_75 : decode cX3_make 75 = .ok (.aload_n 0, 1) := by decide +kernel
theorem dX3_make_76 : decode cX3_make 76 = .ok (.getfield 13, 3) := by decide +kernel
theorem dX3_make_79 : decode cX3_make 79 = .ok (.aload_n 0, 1) := by decide +kernel
theorem dX3_make_80 : decode cX3_make 80 = .ok (.getfield 58, 3) := by decide +kernel
theorem dX3_make_83 : decode cX3_make 83 = .ok (.iload_n 1, 1) := by decide +kernel
theorem dX3_make_84 : decode cX3_make 84 = .ok (.iastore, 1) := by decide +kernel
theorem dX3_make_85 : decode cX3_make 85 = .ok (.aload_n 0, 1) := by decide +kernel
theorem dX3_make_86 : decode cX3_make 86 = .ok (.getfield 16, 3) := by decide +kernel
theorem dX3_make_89 : decode cX3_make 89 = .ok (.aload_n 0, 1) := by decide +kernel
theorem dX3_make_90 : decode cX3_make 90 = .ok (.getfield 58, 3) := by decide +kernel
theorem dX3_make_93 : decode cX3_make 93 = .ok (.iload_n 2, 1) := by decide +kernel
theorem dX3_make_94 : decode cX3_make 94 = .ok (.iastore, 1) := by decide +kernel
theorem dX3_make_95 : decode cX3_make 95 = .ok (.aload_n 0, 1) := by decide +kernel
theorem dX3_make_96 : decode cX3_make 96 = .ok (.getfield 19, 3) := by decide +kernel
theorem dX3_make_99 : decode cX3_make 99 = .ok (.aload_n 0, 1) := by decide +kernel
theorem dX3_make_100 : decode cX3_make 100 = .ok (.getfield 58, 3) := by decide +kernel
theorem dX3_make_103 : decode cX3_make 103 = .ok (.iload_n 3, 1) := by decide +kernel
theorem dX3_make_104 : decode cX3_make 104 = .ok (.iastore, 1) := by decide +kernel
theorem dX3_make_105 : decode cX3_make 105 = .ok (.aload_n 0, 1) := by decide +kernel
theorem dX3_make_106 : decode cX3_make 106 = .ok (.getfield 22, 3) := by decide +kernel
theorem dX3_make_109 : decode cX3_make 109 = .ok (.aload_n 0, 1) := by decide +kernel
theorem dX3_make_110 : decode cX3_make 110 = .ok (.getfield 58, 3) := by decide +kernel
theorem dX3_make_113 : decode cX3_make 113 = .ok (.iload 4, 2) := by decide +kernel
theorem dX3_make_115 : decode cX3_make 115 = .ok (.iastore, 1) := by decide +kernel
theorem dX3_make_116 : decode cX3_make 116 = .ok (.aload_n 0, 1) := by decide +kernel
theorem dX3_make_117 : decode cX3_make 117 = .ok (.getfield 25, 3) := by decide +kernel
theorem dX3_make_120 : decode cX3_make 120 = .ok (.aload_n 0, 1) := by decide +kernel
theorem dX3_make_121 : decode cX3_make 121 = .ok (.getfield 58, 3) := by decide +kernel
theorem dX3_make_124 : decode cX3_make 124 = .ok (.iload 5, 2) := by decide +kernel
theorem dX3_make_126 : decode cX3_make 126 = .ok (.iastore, 1) := by decide +kernel
theorem dX3_make_127 : decode cX3_make 127 = .ok (.aload_n 0, 1) := by decide +kernel
theorem dX3_make_128 : decode cX3_make 128 = .ok (.getfield 32, 3) := by decide +kernel
theorem dX3_make_131 : decode cX3_make 131 = .ok (.bipush 120, 2) := by decide +kernel
theorem dX3_make_133 : decode cX3_make 133 = .ok (.iload_n 1, 1) := by decide +kernel
theorem dX3_make_134 : decode cX3_make 134 = .ok (.imul, 1) := by decide +kernel
theorem dX3_make_135 : decode cX3_make 135 = .ok (.aload_n 0, 1) := by decide +kernel
theorem dX3_make_136 : decode cX3_make 136 = .ok (.getfield 58, 3) := by decide +kernel
theorem dX3_make_139 : decode cX3_make 139 = .ok (.iadd, 1) := by decide +kernel
theorem dX3_make_140 : decode cX3_make 140 = .ok (.iconst 1, 1) := by decide +kernel
theorem dX3_make_141 : decode cX3_make 141 = .ok (.bastore, 1) := by decide +kernel
theorem dX3_make_142 : decode cX3_make 142 = .ok (.aload_n 0, 1) := by decide +kernel
theorem dX3_make_143 : decode cX3_make 143 = .ok (.dup, 1) := by decide +kernel
theorem dX3_make_144 : decode cX3_make 144 = .ok (.getfield 58, 3) := by decide +kernel
theorem dX3_make_147 : decode cX3_make 147 = .ok (.iconst 1, 1) := by decide +kernel
theorem dX3_make_148 : decode cX3_make 148 = .ok (.iadd, 1) := by decide +kernel
theorem dX3_make_149 : decode cX3_make 149 = .ok (.putfield 58, 3) := by decide +kernel
theorem dX3_make_152 : decode cX3_make 152 = .ok (.aload_n 0, 1) := by decide +kernel
theorem dX3_make_153 : decode cX3_make 153 = .ok (.getfield 58, 3) := by decide +kernel
theorem dX3_make_156 : decode cX3_make 156 = .ok (.iconst 1, 1) := by decide +kernel
theorem dX3_make_157 : decode cX3_make 157 = .ok (.isub, 1) := by decide +kernel
theorem dX3_make_158 : decode cX3_make 158 = .ok (.ireturn, 1) := by decide +kernel
theorem dX3_tell_0 : decode cX3_tell 0 = .ok (.aload_n 0, 1) := by decide +kernel
theorem dX3_tell_1 : decode cX3_tell 1 = .ok (.iload_n 1, 1) := by decide +kernel
theorem dX3_tell_2 : decode cX3_tell 2 = .ok (.invokestatic 54, 3) := by decide +kernel
theorem dX3_tell_5 : decode cX3_tell 5 = .ok (.ifCond .eq 23, 3) := by decide +kernel
theorem dX3_tell_8 : decode cX3_tell 8 = .ok (.iload_n 2, 1) := by decide +kernel
theorem dX3_tell_9 : decode cX3_tell 9 = .ok (.invokestatic 61, 3) := by decide +kernel
theorem dX3_tell_12 : decode cX3_tell 12 = .ok (.ifCond .eq 16, 3) := by decide +kernel
theorem dX3_tell_15 : decode cX3_tell 15 = .ok (.iload_n 3, 1) := by decide +kernel
theorem dX3_tell_16 : decode cX3_tell 16 = .ok (.iconst 0, 1) := by decide +kernel
theorem dX3_tell_17 : decode cX3_tell 17 = .ok (.iconst 2, 1) := by decide +kernel
theorem dX3_tell_18 : decode cX3_tell 18 = .ok (.invokestatic 64, 3) := by decide +kernel
theorem dX3_tell_21 : decode cX3_tell 21 = .ok (.ifCond .eq 7, 3) := by decide +kernel
theorem dX3_tell_24 : decode cX3_tell 24 = .ok (.iconst 1, 1) := by decide +kernel
theorem dX3_tell_25 : decode cX3_tell 25 = .ok (.goto 4, 3) := by decide +kernel
theorem dX3_tell_28 : decode cX3_tell 28 = .ok (.iconst 0, 1) := by decide +kernel
theorem dX3_tell_29 : decode cX3_tell 29 = .ok (.iload 4, 2) := by decide +kernel
theorem dX3_tell_31 : decode cX3_tell 31 = .ok (.iconst 0, 1) := by decide +kernel
theorem dX3_tell_32 : decode cX3_tell 32 = .ok (.iload_n 3, 1) := by decide +kernel
theorem dX3_tell_33 : decode cX3_tell 33 = .ok (.iconst 2, 1) := by decide +kernel
theorem dX3_tell_34 : decode cX3_tell 34 = .ok (.if_icmp .ne 8, 3) := by decide +kernel
theorem dX3_tell_37 : decode cX3_tell 37 = .ok (.bipush 31, 2) := by decide +kernel
theorem dX3_tell_39 : decode cX3_tell 39 = .ok (.goto 6, 3) := by decide +kernel
theorem dX3_tell_42 : decode cX3_tell 42 = .ok (.sipush 999, 3) := by decide +kernel
theorem dX3_tell_45 : decode cX3_tell 45 = .ok (.invokestatic 64, 3) := by decide +kernel
theorem dX3_tell_48 : decode cX3_tell 48 = .ok (.aload_n 0, 1) := by decide +kernel
theorem dX3_tell_49 : decode cX3_tell 49 = .ok (.getfield 58, 3) := by decide +kernel
theorem dX3_tell_52 : decode cX3_tell 52 = .ok (.bipush 120, 2) := by decide +kernel
theorem dX3_tell_54 : decode cX3_tell 54 = .ok (.if_icmp .ge 7, 3) := by decide +kernel
theorem dX3_tell_57 : decode cX3_tell 57 = .ok (.iconst 1, 1) := by decide +kernel
theorem dX3_tell_58 : decode cX3_tell 58 = .ok (.goto 4, 3) := by decide +kernel
theorem dX3_tell_61 : decode cX3_tell 61 = .ok (.iconst 0, 1) := by decide +kernel
theorem dX3_tell_62 : decode cX3_tell 62 = .ok (.invokevirtual 68, 3) := by decide +kernel
theorem dX3_tell_65 : decode cX3_tell 65 = .ok (.ifCond .ne 5, 3) := by decide +kernel
theorem dX3_tell_68 : decode cX3_tell 68 = .ok (.iconst 0, 1) := by decide +kernel
theorem dX3_tell_69 : decode cX3_tell 69 = .ok (.ireturn, 1) := by decide +kernel
theorem dX3_tell_70 : decode cX3_tell 70 = .ok (.aload_n 0, 1) := by decide +kernel
theorem dX3_tell_71 : decode cX3_tell 71 = .ok (.iload_n 1, 1) := by decide +kernel
theorem dX3_tell_72 : decode cX3_tell 72 = .ok (.iload_n 3, 1) := by decide +kernel
theorem dX3_tell_73 : decode cX3_tell 73 = .ok (.iload_n 2, 1) := by decide +kernel
theorem dX3_tell_74 : decode cX3_tell 74 = .ok (.iload 4, 2) := by decide +kernel
theorem dX3_tell_76 : decode cX3_tell 76 = .ok (.iconst (-1), 1) := by decide +kernel
theorem dX3_tell_77 : decode cX3_tell 77 = .ok (.invokevirtual 71, 3) := by decide +kernel
theorem dX3_tell_80 : decode cX3_tell 80 = .ok (.ireturn, 1) := by decide +kernel
theorem dX3_insert_0 : decode cX3_insert 0 = .ok (.iload_n 1, 1) := by decide +kernel
theorem dX3_insert_1 : decode cX3_insert 1 = .ok (.invokestatic 54, 3) := by decide +kernel
theorem dX3_insert_4 : decode cX3_insert 4 = .ok (.ifCond .eq 28, 3) := by decide +kernel
theorem dX3_insert_7 : decode cX3_insert 7 = .ok (.iload_n 2, 1) := by decide +kernel
theorem dX3_insert_8 : decode cX3_insert 8 = .ok (.invokestatic 61, 3) := by decide +kernel
theorem dX3_insert_11 : decode cX3_insert 11 = .ok (.ifCond .eq 21, 3) := by decide +kernel
theorem dX3_insert_14 : decode cX3_insert 14 = .ok (.iload_n 3, 1) := by decide +kernel
theorem dX3_insert_15 : decode cX3_insert 15 = .ok (.iconst (-1), 1) := by decide +kernel
theorem dX3_insert_16 : decode cX3_insert 16 = .ok (.if_icmp .eq 12, 3) := by decide +kernel
theorem dX3_insert_19 : decode cX3_insert 19 = .ok (.aload_n 0, 1) := by decide +kernel
theorem dX3_insert_20 : decode cX3_insert 20 = .ok (.iload_n 1, 1) := by decide +kernel
theorem dX3_insert_21 : decode cX3_insert 21 = .ok (.iload_n 3, 1) := by decide +kernel
theorem dX3_insert_22 : decode cX3_insert 22 = .ok (.invokevirtual 75, 3) := by decide +kernel
theorem dX3_insert_25 : decode cX3_insert 25 = .ok (.ifCond .eq 7, 3) := by decide +kernel
theorem dX3_insert_28 : decode cX3_insert 28 = .ok (.iconst 1, 1) := by decide +kernel
theorem dX3_insert_29 : decode cX3_insert 29 = .ok (.goto 4, 3) := by decide +kernel
theorem dX3_insert_32 : decode cX3_insert 32 = .ok (.iconst 0, 1) := by decide +kernel
theorem dX3_insert_33 : decode cX3_insert 33 = .ok (.istore 5, 2) := by decide +kernel
theorem dX3_insert_35 : decode cX3_insert 35 = .ok (.iload 5, 2) := by decide +kernel
theorem dX3_insert_37 : decode cX3_insert 37 = .ok (.ifCond .eq 32, 3) := by decide +kernel
theorem dX3_insert_40 : decode cX3_insert 40 = .ok (.iload_n 3, 1) := by decide +kernel
theorem dX3_insert_41 : decode cX3_insert 41 = .ok (.iconst (-1), 1) := by decide +kernel
theorem dX3_insert_42 : decode cX3_insert 42 = .ok (.if_icmp .eq 23, 3) := by decide +kernel
theorem dX3_insert_45 : decode cX3_insert 45 = .ok (.aload_n 0, 1) := by decide +kernel
theorem dX3_insert_46 : decode cX3_insert 46 = .ok (.getfield 16, 3) := by decide +kernel
theorem dX3_insert_49 : decode cX3_insert 49 = .ok (.iload_n 3, 1) := by decide +kernel
theorem dX3_insert_50 : decode cX3_insert 50 = .ok (.iaload, 1) := by decide +kernel
theorem dX3_insert_51 : decode cX3_insert 51 = .ok (.iconst 3, 1) := by decide +kernel
theorem dX3_insert_52 : decode cX3_insert 52 = .ok (.if_icmp .ne 17, 3) := by decide +kernel
theorem dX3_insert_55 : decode cX3_insert 55 = .ok (.aload_n 0, 1) := by decide +kernel
theorem dX3_insert_56 : decode cX3_insert 56 = .ok (.getfield 19, 3) := by decide +kernel
theorem dX3_insert_59 : decode cX3_insert 59 = .ok (.iload_n 3, 1) := by decide +kernel
theorem dX3_insert_60 : decode cX3_insert 60 = .ok (.iaload, 1) := by decide +kernel
theorem dX3_insert_61 : decode cX3_insert 61 = .ok (.iload_n 2, 1) := by decide +kernel
theorem dX3_insert_62 : decode cX3_insert 62 = .ok (.if_icmp .ne 7, 3) := by decide +kernel
theorem dX3_insert_65 : decode cX3_insert 65 = .ok (.iconst 1, 1) := by decide +kernel
theorem dX3_insert_66 : decode cX3_insert 66 = .ok (.goto 4, 3) := by decide +kernel
theorem dX3_insert_69 : decode cX3_insert 69 = .ok (.iconst 0, 1) := by decide +kernel
theorem dX3_insert_70 : decode cX3_insert 70 = .ok (.istore 6, 2) := by decide +kernel
theorem dX3_insert_72 : decode cX3_insert 72 = .ok (.aload_n 0, 1) := by decide +kernel
theorem dX3_insert_73 : decode cX3_insert 73 = .ok (.iload 5, 2) := by decide +kernel
theorem dX3_insert_75 : decode cX3_insert 75 = .ok (.iload 6, 2) := by decide +kernel
theorem dX3_insert_77 : decode cX3_insert 77 = .ok (.ifCond .eq 19, 3) := by decide +kernel
theorem dX3_insert_80 : decode cX3_insert 80 = .ok (.iload 4, 2) := by decide +kernel
theorem dX3_insert_82 : decode cX3_insert 82 = .ok (.iconst 0, 1) := by decide +kernel
theorem dX3_insert_83 : decode cX3_insert 83 = .ok (.sipush 999, 3) := by decide +kernel
theorem dX3_insert_86 : decode cX3_insert 86 = .ok (.invokestatic 64, 3) := by decide +kernel
theorem dX3_insert_89 : decode cX3_insert 89 = .ok (.ifCond .eq 7, 3) := by decide +kernel
theorem dX3_insert_92 : decode cX3_insert 92 = .ok (.iconst 1, 1) := by decide +kernel
theorem dX3_insert_93 : decode cX3_insert 93 = .ok (.goto 4, 3) := by decide +kernel
theorem dX3_insert_96 : decode cX3_insert 96 = .ok (.iconst 0, 1) := by decide +kernel
theorem dX3_insert_97 : decode cX3_insert 97 = .ok (.aload_n 0, 1) := by decide +kernel
theorem dX3_insert_98 : decode cX3_insert 98 = .ok (.getfield 58, 3) := by decide +kernel
theorem dX3_insert_101 : decode cX3_insert 101 = .ok (.bipush 120, 2) := by decide +kernel
theorem dX3_insert_103 : decode cX3_insert 103 = .ok (.if_icmp .ge 7, 3) := by decide +kernel
theorem dX3_insert_106 : decode cX3_insert 106 = .ok (.iconst 1, 1) := by decide +kernel
theorem dX3_insert_107 : decode cX3_insert 107 = .ok (.goto 4, 3) := by decide +kernel
theorem dX3_insert_110 : decode cX3_insert 110 = .ok (.iconst 0, 1) := by decide +kernel
theorem dX3_insert_111 : decode cX3_insert 111 = .ok (.invokevirtual 68, 3) := by decide +kernel
theorem dX3_insert_114 : decode cX3_insert 114 = .ok (.ifCond .ne 5, 3) := by decide +kernel
theorem dX3_insert_117 : decode cX3_insert 117 = .ok (.iconst 0, 1) := by decide +kernel
theorem dX3_insert_118 : decode cX3_insert 118 = .ok (.ireturn, 1) := by decide +kernel
theorem dX3_insert_119 : decode cX3_insert 119 = .ok (.aload_n 0, 1) := by decide +kernel
theorem dX3_insert_120 : decode cX3_insert 120 = .ok (.iload_n 1, 1) := by decide +kernel
theorem dX3_insert_121 : decode cX3_insert 121 = .ok (.iconst 3, 1) := by decide +kernel
theorem dX3_insert_122 : decode cX3_insert 122 = .ok (.iload_n 2, 1) := by decide +kernel
theorem dX3_insert_123 : decode cX3_insert 123 = .ok (.iload 4, 2) := by decide +kernel
theorem dX3_insert_125 : decode cX3_insert 125 = .ok (.iload_n 3, 1) := by decide +kernel
theorem dX3_insert_126 : decode cX3_insert 126 = .ok (.invokevirtual 71, 3) := by decide +kernel
theorem dX3_insert_129 : decode cX3_insert 129 = .ok (.ireturn, 1) := by decide +kernel
theorem dX3_remove_0 : decode cX3_remove 0 = .ok (.aload_n 0, 1) := by decide +kernel
theorem dX3_remove_1 : decode cX3_remove 1 = .ok (.iload_n 1, 1) := by decide +kernel
theorem dX3_remove_2 : decode cX3_remove 2 = .ok (.iload_n 2, 1) := by decide +kernel
theorem dX3_remove_3 : decode cX3_remove 3 = .ok (.invokevirtual 75, 3) := by decide +kernel
theorem dX3_remove_6 : decode cX3_remove 6 = .ok (.istore_n 3, 1) := by decide +kernel
theorem dX3_remove_7 : decode cX3_remove 7 = .ok (.aload_n 0, 1) := by decide +kernel
theorem dX3_remove_8 : decode cX3_remove 8 = .ok (.iload_n 3, 1) := by decide +kernel
theorem dX3_remove_9 : decode cX3_remove 9 = .ok (.iload_n 3, 1) := by decide +kernel
theorem dX3_remove_10 : decode cX3_remove 10 = .ok (.ifCond .eq 17, 3) := by decide +kernel
theorem dX3_remove_13 : decode cX3_remove 13 = .ok (.aload_n 0, 1) := by decide +kernel
theorem dX3_remove_14 : decode cX3_remove 14 = .ok (.getfield 16, 3) := by decide +kernel
theorem dX3_remove_17 : decode cX3_remove 17 = .ok (.iload_n 2, 1) := by decide +kernel
theorem dX3_remove_18 : decode cX3_remove 18 = .ok (.iaload, 1) := by decide +kernel
theorem dX3_remove_19 : decode cX3_remove 19 = .ok (.iconst 3, 1) := by decide +kernel
theorem dX3_remove_20 : decode cX3_remove 20 = .ok (.if_icmp .ne 7, 3) := by decide +kernel
theorem dX3_remove_23 : decode cX3_remove 23 = .ok (.iconst 1, 1) := by decide +kernel
theorem dX3_remove_24 : decode cX3_remove 24 = .ok (.goto 4, 3) := by decide +kernel
theorem dX3_remove_27 : decode cX3_remove 27 = .ok (.iconst 0, 1) := by decide +kernel
theorem dX3_remove_28 : decode cX3_remove 28 = .ok (.aload_n 0, 1) := by decide +kernel
theorem dX3_remove_29 : decode cX3_remove 29 = .ok (.getfield 58, 3) := by decide +kernel
theorem dX3_remove_32 : decode cX3_remove 32 = .ok (.bipush 120, 2) := by decide +kernel
theorem dX3_remove_34 : decode cX3_remove 34 = .ok (.if_icmp .ge 7, 3) := by decide +kernel
theorem dX3_remove_37 : decode cX3_remove 37 = .ok (.iconst 1, 1) := by decide +kernel
theorem dX3_remove_38 : decode cX3_remove 38 = .ok (.goto 4, 3) := by decide +kernel
theorem dX3_remove_41 : decode cX3_remove 41 = .ok (.iconst 0, 1) := by decide +kernel
theorem dX3_remove_42 : decode cX3_remove 42 = .ok (.invokevirtual 68, 3) := by decide +kernel
theorem dX3_remove_45 : decode cX3_remove 45 = .ok (.ifCond .ne 5, 3) := by decide +kernel
theorem dX3_remove_48 : decode cX3_remove 48 = .ok (.iconst 0, 1) := by decide +kernel
theorem dX3_remove_49 : decode cX3_remove 49 = .ok (.ireturn, 1) := by decide +kernel
theorem dX3_remove_50 : decode cX3_remove 50 = .ok (.aload_n 0, 1) := by decide +kernel
theorem dX3_remove_51 : decode cX3_remove 51 = .ok (.iload_n 1, 1) := by decide +kernel
theorem dX3_remove_52 : decode cX3_remove 52 = .ok (.iconst 4, 1) := by decide +kernel
theorem dX3_remove_53 : decode cX3_remove 53 = .ok (.iconst (-1), 1) := by decide +kernel
theorem dX3_remove_54 : decode cX3_remove 54 = .ok (.iload_n 2, 1) := by decide +kernel
theorem dX3_remove_55 : decode cX3_remove 55 = .ok (.iconst (-1), 1) := by decide +kernel
theorem dX3_remove_56 : decode cX3_remove 56 = .ok (.invokevirtual 71, 3) := by decide +kernel
theorem dX3_remove_59 : decode cX3_remove 59 = .ok (.ireturn, 1) := by decide +kernel
theorem dX3_relate_0 : decode cX3_relate 0 = .ok (.aload_n 0, 1) := by decide +kernel
theorem dX3_relate_1 : decode cX3_relate 1 = .ok (.iload_n 1, 1) := by decide +kernel
theorem dX3_relate_2 : decode cX3_relate 2 = .ok (.invokestatic 54, 3) := by decide +kernel
theorem dX3_relate_5 : decode cX3_relate 5 = .ok (.ifCond .eq 21, 3) := by decide +kernel
theorem dX3_relate_8 : decode cX3_relate 8 = .ok (.iload_n 2, 1) := by decide +kernel
theorem dX3_relate_9 : decode cX3_relate 9 = .ok (.invokestatic 61, 3) := by decide +kernel
theorem dX3_relate_12 : decode cX3_relate 12 = .ok (.ifCond .eq 14, 3) := by decide +kernel
theorem dX3_relate_15 : decode cX3_relate 15 = .ok (.iload_n 3, 1) := by decide +kernel
theorem dX3_relate_16 : decode cX3_relate 16 = .ok (.invokestatic 61, 3) := by decide +kernel
theorem dX3_relate_19 : decode cX3_relate 19 = .ok (.ifCond .eq 7, 3) := by decide +kernel
theorem dX3_relate_22 : decode cX3_relate 22 = .ok (.iconst 1, 1) := by decide +kernel
theorem dX3_relate_23 : decode cX3_relate 23 = .ok (.goto 4, 3) := by decide +kernel
theorem dX3_relate_26 : decode cX3_relate 26 = .ok (.iconst 0, 1) := by decide +kernel
theorem dX3_relate_27 : decode cX3_relate 27 = .ok (.iload_n 2, 1) := by decide +kernel
theorem dX3_relate_28 : decode cX3_relate 28 = .ok (.iload_n 3, 1) := by decide +kernel
theorem dX3_relate_29 : decode cX3_relate 29 = .ok (.if_icmp .eq 7, 3) := by decide +kernel
theorem dX3_relate_32 : decode cX3_relate 32 = .ok (.iconst 1, 1) := by decide +kernel
theorem dX3_relate_33 : decode cX3_relate 33 = .ok (.goto 4, 3) := by decide +kernel
theorem dX3_relate_36 : decode cX3_relate 36 = .ok (.iconst 0, 1) := by decide +kernel
theorem dX3_relate_37 : decode cX3_relate 37 = .ok (.aload_n 0, 1) := by decide +kernel
theorem dX3_relate_38 : decode cX3_relate 38 = .ok (.getfield 58, 3) := by decide +kernel
theorem dX3_relate_41 : decode cX3_relate 41 = .ok (.bipush 120, 2) := by decide +kernel
theorem dX3_relate_43 : decode cX3_relate 43 = .ok (.if_icmp .ge 7, 3) := by decide +kernel
theorem dX3_relate_46 : decode cX3_relate 46 = .ok (.iconst 1, 1) := by decide +kernel
theorem dX3_relate_47 : decode cX3_relate 47 = .ok (.goto 4, 3) := by decide +kernel
theorem dX3_relate_50 : decode cX3_relate 50 = .ok (.iconst 0, 1) := by decide +kernel
theorem dX3_relate_51 : decode cX3_relate 51 = .ok (.invokevirtual 68, 3) := by decide +kernel
theorem dX3_relate_54 : decode cX3_relate 54 = .ok (.ifCond .ne 5, 3) := by decide +kernel
theorem dX3_relate_57 : decode cX3_relate 57 = .ok (.iconst 0, 1) := by decide +kernel
theorem dX3_relate_58 : decode cX3_relate 58 = .ok (.ireturn, 1) := by decide +kernel
theorem dX3_relate_59 : decode cX3_relate 59 = .ok (.aload_n 0, 1) := by decide +kernel
theorem dX3_relate_60 : decode cX3_relate 60 = .ok (.iload_n 1, 1) := by decide +kernel
theorem dX3_relate_61 : decode cX3_relate 61 = .ok (.iconst 5, 1) := by decide +kernel
theorem dX3_relate_62 : decode cX3_relate 62 = .ok (.iconst (-1), 1) := by decide +kernel
theorem dX3_relate_63 : decode cX3_relate 63 = .ok (.bipush 16, 2) := by decide +kernel
theorem dX3_relate_65 : decode cX3_relate 65 = .ok (.iload_n 2, 1) := by decide +kernel
theorem dX3_relate_66 : decode cX3_relate 66 = .ok (.imul, 1) := by decide +kernel
theorem dX3_relate_67 : decode cX3_relate 67 = .ok (.iload_n 3, 1) := by decide +kernel
theorem dX3_relate_68 : decode cX3_relate 68 = .ok (.iadd, 1) := by decide +kernel
theorem dX3_relate_69 : decode cX3_relate 69 = .ok (.iconst (-1), 1) := by decide +kernel
theorem dX3_relate_70 : decode cX3_relate 70 = .ok (.invokevirtual 71, 3) := by decide +kernel
theorem dX3_relate_73 : decode cX3_relate 73 = .ok (.ireturn, 1) := by decide +kernel
theorem dX3_drop_0 : decode cX3_drop 0 = .ok (.aload_n 0, 1) := by decide +kernel
theorem dX3_drop_1 : decode cX3_drop 1 = .ok (.iload_n 1, 1) := by decide +kernel
theorem dX3_drop_2 : decode cX3_drop 2 = .ok (.iload_n 2, 1) := by decide +kernel
theorem dX3_drop_3 : decode cX3_drop 3 = .ok (.invokevirtual 75, 3) := by decide +kernel
theorem dX3_drop_6 : decode cX3_drop 6 = .ok (.istore_n 3, 1) := by decide +kernel
theorem dX3_drop_7 : decode cX3_drop 7 = .ok (.aload_n 0, 1) := by decide +kernel
theorem dX3_drop_8 : decode cX3_drop 8 = .ok (.iload_n 3, 1) := by decide +kernel
theorem dX3_drop_9 : decode cX3_drop 9 = .ok (.iload_n 3, 1) := by decide +kernel
theorem dX3_drop_10 : decode cX3_drop 10 = .ok (.ifCond .eq 17, 3) := by decide +kernel
theorem dX3_drop_13 : decode cX3_drop 13 = .ok (.aload_n 0, 1) := by decide +kernel
theorem dX3_drop_14 : decode cX3_drop 14 = .ok (.getfield 16, 3) := by decide +kernel
theorem dX3_drop_17 : decode cX3_drop 17 = .ok (.iload_n 2, 1) := by decide +kernel
theorem dX3_drop_18 : decode cX3_drop 18 = .ok (.iaload, 1) := by decide +kernel
theorem dX3_drop_19 : decode cX3_drop 19 = .ok (.iconst 5, 1) := by decide +kernel
theorem dX3_drop_20 : decode cX3_drop 20 = .ok (.if_icmp .ne 7, 3) := by decide +kernel
theorem dX3_drop_23 : decode cX3_drop 23 = .ok (.iconst 1, 1) := by decide +kernel
theorem dX3_drop_24 : decode cX3_drop 24 = .ok (.goto 4, 3) := by decide +kernel
theorem dX3_drop_27 : decode cX3_drop 27 = .ok (.iconst 0, 1) := by decide +kernel
theorem dX3_drop_28 : decode cX3_drop 28 = .ok (.aload_n 0, 1) := by decide +kernel
theorem dX3_drop_29 : decode cX3_drop 29 = .ok (.getfield 58, 3) := by decide +kernel
theorem dX3_drop_32 : decode cX3_drop 32 = .ok (.bipush 120, 2) := by decide +kernel
theorem dX3_drop_34 : decode cX3_drop 34 = .ok (.if_icmp .ge 7, 3) := by decide +kernel
theorem dX3_drop_37 : decode cX3_drop 37 = .ok (.iconst 1, 1) := by decide +kernel
theorem dX3_drop_38 : decode cX3_drop 38 = .ok (.goto 4, 3) := by decide +kernel
theorem dX3_drop_41 : decode cX3_drop 41 = .ok (.iconst 0, 1) := by decide +kernel
theorem dX3_drop_42 : decode cX3_drop 42 = .ok (.invokevirtual 68, 3) := by decide +kernel
theorem dX3_drop_45 : decode cX3_drop 45 = .ok (.ifCond .ne 5, 3) := by decide +kernel
theorem dX3_drop_48 : decode cX3_drop 48 = .ok (.iconst 0, 1) := by decide +kernel
theorem dX3_drop_49 : decode cX3_drop 49 = .ok (.ireturn, 1) := by decide +kernel
theorem dX3_drop_50 : decode cX3_drop 50 = .ok (.aload_n 0, 1) := by decide +kernel
theorem dX3_drop_51 : decode cX3_drop 51 = .ok (.iload_n 1, 1) := by decide +kernel
theorem dX3_drop_52 : decode cX3_drop 52 = .ok (.bipush 6, 2) := by decide +kernel
theorem dX3_drop_54 : decode cX3_drop 54 = .ok (.iconst (-1), 1) := by decide +kernel
theorem dX3_drop_55 : decode cX3_drop 55 = .ok (.iload_n 2, 1) := by decide +kernel
theorem dX3_drop_56 : decode cX3_drop 56 = .ok (.iconst (-1), 1) := by decide +kernel
theorem dX3_drop_57 : decode cX3_drop 57 = .ok (.invokevirtual 71, 3) := by decide +kernel
theorem dX3_drop_60 : decode cX3_drop 60 = .ok (.ireturn, 1) := by decide +kernel
theorem dX3_join_0 : decode cX3_join 0 = .ok (.aload_n 0, 1) := by decide +kernel
theorem dX3_join_1 : decode cX3_join 1 = .ok (.iload_n 1, 1) := by decide +kernel
theorem dX3_join_2 : decode cX3_join 2 = .ok (.invokestatic 54, 3) := by decide +kernel
theorem dX3_join_5 : decode cX3_join 5 = .ok (.ifCond .eq 14, 3) := by decide +kernel
theorem dX3_join_8 : decode cX3_join 8 = .ok (.iload_n 2, 1) := by decide +kernel
theorem dX3_join_9 : decode cX3_join 9 = .ok (.invokestatic 54, 3) := by decide +kernel
theorem dX3_join_12 : decode cX3_join 12 = .ok (.ifCond .eq 7, 3) := by decide +kernel
theorem dX3_join_15 : decode cX3_join 15 = .ok (.iconst 1, 1) := by decide +kernel
theorem dX3_join_16 : decode cX3_join 16 = .ok (.goto 4, 3) := by decide +kernel
theorem dX3_join_19 : decode cX3_join 19 = .ok (.iconst 0, 1) := by decide +kernel
theorem dX3_join_20 : decode cX3_join 20 = .ok (.iconst 1, 1) := by decide +kernel
theorem dX3_join_21 : decode cX3_join 21 = .ok (.iconst 1, 1) := by decide +kernel
theorem dX3_join_22 : decode cX3_join 22 = .ok (.invokevirtual 68, 3) := by decide +kernel
theorem dX3_join_25 : decode cX3_join 25 = .ok (.ifCond .ne 5, 3) := by decide +kernel
theorem dX3_join_28 : decode cX3_join 28 = .ok (.iconst 0, 1) := by decide +kernel
theorem dX3_join_29 : decode cX3_join 29 = .ok (.ireturn, 1) := by decide +kernel
theorem dX3_join_30 : decode cX3_join 30 = .ok (.iconst 0, 1) := by decide +kernel
theorem dX3_join_31 : decode cX3_join 31 = .ok (.istore_n 3, 1) := by decide +kernel
theorem dX3_join_32 : decode cX3_join 32 = .ok (.iconst 0, 1) := by decide +kernel
theorem dX3_join_33 : decode cX3_join 33 = .ok (.istore 4, 2) := by decide +kernel
theorem dX3_join_35 : decode cX3_join 35 = .ok (.iload 4, 2) := by decide +kernel
theorem dX3_join_37 : decode cX3_join 37 = .ok (.aload_n 0, 1) := by decide +kernel
theorem dX3_join_38 : decode cX3_join 38 = .ok (.getfield 58, 3) := by decide +kernel
theorem dX3_join_41 : decode cX3_join 41 = .ok (.if_icmp .ge 96, 3) := by decide +kernel
theorem dX3_join_44 : decode cX3_join 44 = .ok (.aload_n 0, 1) := by decide +kernel
theorem dX3_join_45 : decode cX3_join 45 = .ok (.getfield 32, 3) := by decide +kernel
theorem dX3_join_48 : decode cX3_join 48 = .ok (.bipush 120, 2) := by decide +kernel
theorem dX3_join_50 : decode cX3_join 50 = .ok (.iload_n 2, 1) := by decide +kernel
theorem dX3_join_51 : decode cX3_join 51 = .ok (.imul, 1) := by decide +kernel
theorem dX3_join_52 : decode cX3_join 52 = .ok (.iload 4, 2) := by decide +kernel
theorem dX3_join_54 : decode cX3_join 54 = .ok (.iadd, 1) := by decide +kernel
theorem dX3_join_55 : decode cX3_join 55 = .ok (.baload, 1) := by decide +kernel
theorem dX3_join_56 : decode cX3_join 56 = .ok (.ifCond .eq 22, 3) := by decide +kernel
theorem dX3_join_59 : decode cX3_join 59 = .ok (.aload_n 0, 1) := by decide +kernel
theorem dX3_join_60 : decode cX3_join 60 = .ok (.getfield 32, 3) := by decide +kernel
theorem dX3_join_63 : decode cX3_join 63 = .ok (.bipush 120, 2) := by decide +kernel
theorem dX3_join_65 : decode cX3_join 65 = .ok (.iload_n 1, 1) := by decide +kernel
theorem dX3_join_66 : decode cX3_join 66 = .ok (.imul, 1) := by decide +kernel
theorem dX3_join_67 : decode cX3_join 67 = .ok (.iload 4, 2) := by decide +kernel
theorem dX3_join_69 : decode cX3_join 69 = .ok (.iadd, 1) := by decide +kernel
theorem dX3_join_70 : decode cX3_join 70 = .ok (.baload, 1) := by decide +kernel
theorem dX3_join_71 : decode cX3_join 71 = .ok (.ifCond .ne 7, 3) := by decide +kernel
theorem dX3_join_74 : decode cX3_join 74 = .ok (.iconst 1, 1) := by decide +kernel
theorem dX3_join_75 : decode cX3_join 75 = .ok (.goto 4, 3) := by decide +kernel
theorem dX3_join_78 : decode cX3_join 78 = .ok (.iconst 0, 1) := by decide +kernel
theorem dX3_join_79 : decode cX3_join 79 = .ok (.istore 5, 2) := by decide +kernel
theorem dX3_join_81 : decode cX3_join 81 = .ok (.iload 5, 2) := by decide +kernel
theorem dX3_join_83 : decode cX3_join 83 = .ok (.ifCond .eq 9, 3) := by decide +kernel
theorem dX3_join_86 : decode cX3_join 86 = .ok (.iload_n 3, 1) := by decide +kernel
theorem dX3_join_87 : decode cX3_join 87 = .ok (.iconst 1, 1) := by decide +kernel
theorem dX3_join_88 : decode cX3_join 88 = .ok (.iadd, 1) := by decide +kernel
theorem dX3_join_89 : decode cX3_join 89 = .ok (.goto 4, 3) := by decide +kernel
theorem dX3_join_92 : decode cX3_join 92 = .ok (.iload_n 3, 1) := by decide +kernel
theorem dX3_join_93 : decode cX3_join 93 = .ok (.istore_n 3, 1) := by decide +kernel
theorem dX3_join_94 : decode cX3_join 94 = .ok (.aload_n 0, 1) := by decide +kernel
theorem dX3_join_95 : decode cX3_join 95 = .ok (.getfield 32, 3) := by decide +kernel
theorem dX3_join_98 : decode cX3_join 98 = .ok (.bipush 120, 2) := by decide +kernel
theorem dX3_join_100 : decode cX3_join 100 = .ok (.iload_n 1, 1) := by decide +kernel
theorem dX3_join_101 : decode cX3_join 101 = .ok (.imul, 1) := by decide +kernel
theorem dX3_join_102 : decode cX3_join 102 = .ok (.iload 4, 2) := by decide +kernel
theorem dX3_join_104 : decode cX3_join 104 = .ok (.iadd, 1) := by decide +kernel
theorem dX3_join_105 : decode cX3_join 105 = .ok (.aload_n 0, 1) := by decide +kernel
theorem dX3_join_106 : decode cX3_join 106 = .ok (.getfield 32, 3) := by decide +kernel
theorem dX3_join_109 : decode cX3_join 109 = .ok (.bipush 120, 2) := by decide +kernel
theorem dX3_join_111 : decode cX3_join 111 = .ok (.iload_n 1, 1) := by decide +kernel
theorem dX3_join_112 : decode cX3_join 112 = .ok (.imul, 1) := by decide +kernel
theorem dX3_join_113 : decode cX3_join 113 = .ok (.iload 4, 2) := by decide +kernel
theorem dX3_join_115 : decode cX3_join 115 = .ok (.iadd, 1) := by decide +kernel
theorem dX3_join_116 : decode cX3_join 116 = .ok (.baload, 1) := by decide +kernel
theorem dX3_join_117 : decode cX3_join 117 = .ok (.ifCond .ne 8, 3) := by decide +kernel
theorem dX3_join_120 : decode cX3_join 120 = .ok (.iload 5, 2) := by decide +kernel
theorem dX3_join_122 : decode cX3_join 122 = .ok (.ifCond .eq 7, 3) := by decide +kernel
theorem dX3_join_125 : decode cX3_join 125 = .ok (.iconst 1, 1) := by decide +kernel
theorem dX3_join_126 : decode cX3_join 126 = .ok (.goto 4, 3) := by decide +kernel
theorem dX3_join_129 : decode cX3_join 129 = .ok (.iconst 0, 1) := by decide +kernel
theorem dX3_join_130 : decode cX3_join 130 = .ok (.bastore, 1) := by decide +kernel
theorem dX3_join_131 : decode cX3_join 131 = .ok (.iinc 4 1, 3) := by decide +kernel
theorem dX3_join_134 : decode cX3_join 134 = .ok (.goto (-99), 3) := by decide +kernel
theorem dX3_join_137 : decode cX3_join 137 = .ok (.iload_n 3, 1) := by decide +kernel
theorem dX3_join_138 : decode cX3_join 138 = .ok (.ireturn, 1) := by decide +kernel
theorem dX3_number_0 : decode cX3_number 0 = .ok (.aload_n 0, 1) := by decide +kernel
theorem dX3_number_1 : decode cX3_number 1 = .ok (.iload_n 1, 1) := by decide +kernel
theorem dX3_number_2 : decode cX3_number 2 = .ok (.invokestatic 54, 3) := by decide +kernel
theorem dX3_number_5 : decode cX3_number 5 = .ok (.iload_n 1, 1) := by decide +kernel
theorem dX3_number_6 : decode cX3_number 6 = .ok (.invokestatic 54, 3) := by decide +kernel
theorem dX3_number_9 : decode cX3_number 9 = .ok (.ifCond .eq 19, 3) := by decide +kernel
theorem dX3_number_12 : decode cX3_number 12 = .ok (.aload_n 0, 1) := by decide +kernel
theorem dX3_number_13 : decode cX3_number 13 = .ok (.getfield 35, 3) := by decide +kernel
theorem dX3_number_16 : decode cX3_number 16 = .ok (.iload_n 1, 1) := by decide +kernel
theorem dX3_number_17 : decode cX3_number 17 = .ok (.iaload, 1) := by decide +kernel
theorem dX3_number_18 : decode cX3_number 18 = .ok (.sipush 1000, 3) := by decide +kernel
theorem dX3_number_21 : decode cX3_number 21 = .ok (.if_icmp .ge 7, 3) := by decide +kernel
theorem dX3_number_24 : decode cX3_number 24 = .ok (.iconst 1, 1) := by decide +kernel
theorem dX3_number_25 : decode cX3_number 25 = .ok (.goto 4, 3) := by decide +kernel
theorem dX3_number_28 : decode cX3_number 28 = .ok (.iconst 0, 1) := by decide +kernel
theorem dX3_number_29 : decode cX3_number 29 = .ok (.iconst 1, 1) := by decide +kernel
theorem dX3_number_30 : decode cX3_number 30 = .ok (.invokevirtual 68, 3) := by decide +kernel
theorem dX3_number_33 : decode cX3_number 33 = .ok (.ifCond .ne 5, 3) := by decide +kernel
theorem dX3_number_36 : decode cX3_number 36 = .ok (.iconst 0, 1) := by decide +kernel
theorem dX3_number_37 : decode cX3_number 37 = .ok (.ireturn, 1) := by decide +kernel
theorem dX3_number_38 : decode cX3_number 38 = .ok (.aload_n 0, 1) := by decide +kernel
theorem dX3_number_39 : decode cX3_number 39 = .ok (.getfield 35, 3) := by decide +kernel
theorem dX3_number_42 : decode cX3_number 42 = .ok (.iload_n 1, 1) := by decide +kernel
theorem dX3_number_43 : decode cX3_number 43 = .ok (.dup2, 1) := by decide +kernel
theorem dX3_number_44 : decode cX3_number 44 = .ok (.iaload, 1) := by decide +kernel
theorem dX3_number_45 : decode cX3_number 45 = .ok (.iconst 1, 1) := by decide +kernel
theorem dX3_number_46 : decode cX3_number 46 = .ok (.iadd, 1) := by decide +kernel
theorem dX3_number_47 : decode cX3_number 47 = .ok (.iastore, 1) := by decide +kernel
theorem dX3_number_48 : decode cX3_number 48 = .ok (.sipush 1000, 3) := by decide +kernel
theorem dX3_number_51 : decode cX3_number 51 = .ok (.iload_n 1, 1) := by decide +kernel
theorem dX3_number_52 : decode cX3_number 52 = .ok (.imul, 1) := by decide +kernel
theorem dX3_number_53 : decode cX3_number 53 = .ok (.aload_n 0, 1) := by decide +kernel
theorem dX3_number_54 : decode cX3_number 54 = .ok (.getfield 35, 3) := by decide +kernel
theorem dX3_number_57 : decode cX3_number 57 = .ok (.iload_n 1, 1) := by decide +kernel
theorem dX3_number_58 : decode cX3_number 58 = .ok (.iaload, 1) := by decide +kernel
theorem dX3_number_59 : decode cX3_number 59 = .ok (.iadd, 1) := by decide +kernel
theorem dX3_number_60 : decode cX3_number 60 = .ok (.iconst 1, 1) := by decide +kernel
theorem dX3_number_61 : decode cX3_number 61 = .ok (.isub, 1) := by decide +kernel
theorem dX3_number_62 : decode cX3_number 62 = .ok (.ireturn, 1) := by decide +kernel
theorem dX3_isOf_0 : decode cX3_isOf 0 = .ok (.aload_n 0, 1) := by decide +kernel
theorem dX3_isOf_1 : decode cX3_isOf 1 = .ok (.getfield 32, 3) := by decide +kernel
theorem dX3_isOf_4 : decode cX3_isOf 4 = .ok (.bipush 120, 2) := by decide +kernel
theorem dX3_isOf_6 : decode cX3_isOf 6 = .ok (.iload_n 1, 1) := by decide +kernel
theorem dX3_isOf_7 : decode cX3_isOf 7 = .ok (.imul, 1) := by decide +kernel
theorem dX3_isOf_8 : decode cX3_isOf 8 = .ok (.iload_n 2, 1) := by decide +kernel
theorem dX3_isOf_9 : decode cX3_isOf 9 = .ok (.iadd, 1) := by decide +kernel
theorem dX3_isOf_10 : decode cX3_isOf 10 = .ok (.baload, 1) := by decide +kernel
theorem dX3_isOf_11 : decode cX3_isOf 11 = .ok (.ifCond .eq 28, 3) := by decide +kernel
theorem dX3_isOf_14 : decode cX3_isOf 14 = .ok (.aload_n 0, 1) := by decide +kernel
theorem dX3_isOf_15 : decode cX3_isOf 15 = .ok (.getfield 16, 3) := by decide +kernel
theorem dX3_isOf_18 : decode cX3_isOf 18 = .ok (.iload_n 2, 1) := by decide +kernel
theorem dX3_isOf_19 : decode cX3_isOf 19 = .ok (.iaload, 1) := by decide +kernel
theorem dX3_isOf_20 : decode cX3_isOf 20 = .ok (.iload 4, 2) := by decide +kernel
theorem dX3_isOf_22 : decode cX3_isOf 22 = .ok (.if_icmp .ne 17, 3) := by decide +kernel
theorem dX3_isOf_25 : decode cX3_isOf 25 = .ok (.aload_n 0, 1) := by decide +kernel
theorem dX3_isOf_26 : decode cX3_isOf 26 = .ok (.getfield 19, 3) := by decide +kernel
theorem dX3_isOf_29 : decode cX3_isOf 29 = .ok (.iload_n 2, 1) := by decide +kernel
theorem dX3_isOf_30 : decode cX3_isOf 30 = .ok (.iaload, 1) := by decide +kernel
theorem dX3_isOf_31 : decode cX3_isOf 31 = .ok (.iload_n 3, 1) := by decide +kernel
theorem dX3_isOf_32 : decode cX3_isOf 32 = .ok (.if_icmp .ne 7, 3) := by decide +kernel
theorem dX3_isOf_35 : decode cX3_isOf 35 = .ok (.iconst 1, 1) := by decide +kernel
theorem dX3_isOf_36 : decode cX3_isOf 36 = .ok (.goto 4, 3) := by decide +kernel
theorem dX3_isOf_39 : decode cX3_isOf 39 = .ok (.iconst 0, 1) := by decide +kernel
theorem dX3_isOf_40 : decode cX3_isOf 40 = .ok (.ireturn, 1) := by decide +kernel
theorem dX3_latest_0 : decode cX3_latest 0 = .ok (.iconst (-1), 1) := by decide +kernel
theorem dX3_latest_1 : decode cX3_latest 1 = .ok (.istore_n 3, 1) := by decide +kernel
theorem dX3_latest_2 : decode cX3_latest 2 = .ok (.iconst 0, 1) := by decide +kernel
theorem dX3_latest_3 : decode cX3_latest 3 = .ok (.istore 4, 2) := by decide +kernel
theorem dX3_latest_5 : decode cX3_latest 5 = .ok (.iload 4, 2) := by decide +kernel
theorem dX3_latest_7 : decode cX3_latest 7 = .ok (.aload_n 0, 1) := by decide +kernel
theorem dX3_latest_8 : decode cX3_latest 8 = .ok (.getfield 58, 3) := by decide +kernel
theorem dX3_latest_11 : decode cX3_latest 11 = .ok (.if_icmp .ge 43, 3) := by decide +kernel
theorem dX3_latest_14 : decode cX3_latest 14 = .ok (.aload_n 0, 1) := by decide +kernel
theorem dX3_latest_15 : decode cX3_latest 15 = .ok (.iload_n 1, 1) := by decide +kernel
theorem dX3_latest_16 : decode cX3_latest 16 = .ok (.iload 4, 2) := by decide +kernel
theorem dX3_latest_18 : decode cX3_latest 18 = .ok (.iload_n 2, 1) := by decide +kernel
theorem dX3_latest_19 : decode cX3_latest 19 = .ok (.iconst 0, 1) := by decide +kernel
theorem dX3_latest_20 : decode cX3_latest 20 = .ok (.invokevirtual 79, 3) := by decide +kernel
theorem dX3_latest_23 : decode cX3_latest 23 = .ok (.ifCond .eq 23, 3) := by decide +kernel
theorem dX3_latest_26 : decode cX3_latest 26 = .ok (.iload_n 3, 1) := by decide +kernel
theorem dX3_latest_27 : decode cX3_latest 27 = .ok (.iconst (-1), 1) := by decide +kernel
theorem dX3_latest_28 : decode cX3_latest 28 = .ok (.if_icmp .eq 13, 3) := by decide +kernel
theorem dX3_latest_31 : decode cX3_latest 31 = .ok (.aload_n 0, 1) := by decide +kernel
theorem dX3_latest_32 : decode cX3_latest 32 = .ok (.iload_n 3, 1) := by decide +kernel
theorem dX3_latest_33 : decode cX3_latest 33 = .ok (.iload 4, 2) := by decide +kernel
theorem dX3_latest_35 : decode cX3_latest 35 = .ok (.invokevirtual 83, 3) := by decide +kernel
theorem dX3_latest_38 : decode cX3_latest 38 = .ok (.ifCond .eq 8, 3) := by decide +kernel
theorem dX3_latest_41 : decode cX3_latest 41 = .ok (.iload 4, 2) := by decide +kernel
theorem dX3_latest_43 : decode cX3_latest 43 = .ok (.goto 4, 3) := by decide +kernel
theorem dX3_latest_46 : decode cX3_latest 46 = .ok (.iload_n 3, 1) := by decide +kernel
theorem dX3_latest_47 : decode cX3_latest 47 = .ok (.istore_n 3, 1) := by decide +kernel
theorem dX3_latest_48 : decode cX3_latest 48 = .ok (.iinc 4 1, 3) := by decide +kernel
theorem dX3_latest_51 : decode cX3_latest 51 = .ok (.goto (-46), 3) := by decide +kernel
theorem dX3_latest_54 : decode cX3_latest 54 = .ok (.iload_n 3, 1) := by decide +kernel
theorem dX3_latest_55 : decode cX3_latest 55 = .ok (.iconst (-1), 1) := by decide +kernel
theorem dX3_latest_56 : decode cX3_latest 56 = .ok (.if_icmp .ne 7, 3) := by decide +kernel
theorem dX3_latest_59 : decode cX3_latest 59 = .ok (.iconst (-1), 1) := by decide +kernel
theorem dX3_latest_60 : decode cX3_latest 60 = .ok (.goto 9, 3) := by decide +kernel
theorem dX3_latest_63 : decode cX3_latest 63 = .ok (.aload_n 0, 1) := by decide +kernel
theorem dX3_latest_64 : decode cX3_latest 64 = .ok (.getfield 22, 3) := by decide +kernel
theorem dX3_latest_67 : decode cX3_latest 67 = .ok (.iload_n 3, 1) := by decide +kernel
theorem dX3_latest_68 : decode cX3_latest 68 = .ok (.iaload, 1) := by decide +kernel
theorem dX3_latest_69 : decode cX3_latest 69 = .ok (.ireturn, 1) := by decide +kernel
theorem dX3_sum_0 : decode cX3_sum 0 = .ok (.iconst 0, 1) := by decide +kernel
theorem dX3_sum_1 : decode cX3_sum 1 = .ok (.istore_n 3, 1) := by decide +kernel
theorem dX3_sum_2 : decode cX3_sum 2 = .ok (.iconst 0, 1) := by decide +kernel
theorem dX3_sum_3 : decode cX3_sum 3 = .ok (.istore 4, 2) := by decide +kernel
theorem dX3_sum_5 : decode cX3_sum 5 = .ok (.iload 4, 2) := by decide +kernel
theorem dX3_sum_7 : decode cX3_sum 7 = .ok (.aload_n 0, 1) := by decide +kernel
theorem dX3_sum_8 : decode cX3_sum 8 = .ok (.getfield 58, 3) := by decide +kernel
theorem dX3_sum_11 : decode cX3_sum 11 = .ok (.if_icmp .ge 35, 3) := by decide +kernel
theorem dX3_sum_14 : decode cX3_sum 14 = .ok (.aload_n 0, 1) := by decide +kernel
theorem dX3_sum_15 : decode cX3_sum 15 = .ok (.iload_n 1, 1) := by decide +kernel
theorem dX3_sum_16 : decode cX3_sum 16 = .ok (.iload 4, 2) := by decide +kernel
theorem dX3_sum_18 : decode cX3_sum 18 = .ok (.iload_n 2, 1) := by decide +kernel
theorem dX3_sum_19 : decode cX3_sum 19 = .ok (.iconst 1, 1) := by decide +kernel
theorem dX3_sum_20 : decode cX3_sum 20 = .ok (.invokevirtual 79, 3) := by decide +kernel
theorem dX3_sum_23 : decode cX3_sum 23 = .ok (.ifCond .eq 15, 3) := by decide +kernel
theorem dX3_sum_26 : decode cX3_sum 26 = .ok (.iload_n 3, 1) := by decide +kernel
theorem dX3_sum_27 : decode cX3_sum 27 = .ok (.aload_n 0, 1) := by decide +kernel
theorem dX3_sum_28 : decode cX3_sum 28 = .ok (.getfield 22, 3) := by decide +kernel
theorem dX3_sum_31 : decode cX3_sum 31 = .ok (.iload 4, 2) := by decide +kernel
theorem dX3_sum_33 : decode cX3_sum 33 = .ok (.iaload, 1) := by decide +kernel
theorem dX3_sum_34 : decode cX3_sum 34 = .ok (.iadd, 1) := by decide +kernel
theorem dX3_sum_35 : decode cX3_sum 35 = .ok (.goto 4, 3) := by decide +kernel
theorem dX3_sum_38 : decode cX3_sum 38 = .ok (.iload_n 3, 1) := by decide +kernel
theorem dX3_sum_39 : decode cX3_sum 39 = .ok (.istore_n 3, 1) := by decide +kernel
theorem dX3_sum_40 : decode cX3_sum 40 = .ok (.iinc 4 1, 3) := by decide +kernel
theorem dX3_sum_43 : decode cX3_sum 43 = .ok (.goto (-38), 3) := by decide +kernel
theorem dX3_sum_46 : decode cX3_sum 46 = .ok (.iload_n 3, 1) := by decide +kernel
theorem dX3_sum_47 : decode cX3_sum 47 = .ok (.ireturn, 1) := by decide +kernel
theorem dX3_union_0 : decode cX3_union 0 = .ok (.iconst 0, 1) := by decide +kernel
theorem dX3_union_1 : decode cX3_union 1 = .ok (.istore 4, 2) := by decide +kernel
theorem dX3_union_3 : decode cX3_union 3 = .ok (.iconst 0, 1) := by decide +kernel
theorem dX3_union_4 : decode cX3_union 4 = .ok (.istore 5, 2) := by decide +kernel
theorem dX3_union_6 : decode cX3_union 6 = .ok (.iload 5, 2) := by decide +kernel
theorem dX3_union_8 : decode cX3_union 8 = .ok (.bipush 32, 2) := by decide +kernel
theorem dX3_union_10 : decode cX3_union 10 = .ok (.if_icmp .ge 96, 3) := by decide +kernel
theorem dX3_union_13 : decode cX3_union 13 = .ok (.iconst 0, 1) := by decide +kernel
theorem dX3_union_14 : decode cX3_union 14 = .ok (.istore 6, 2) := by decide +kernel
theorem dX3_union_16 : decode cX3_union 16 = .ok (.iconst 0, 1) := by decide +kernel
theorem dX3_union_17 : decode cX3_union 17 = .ok (.istore 7, 2) := by decide +kernel
theorem dX3_union_19 : decode cX3_union 19 = .ok (.iload 7, 2) := by decide +kernel
theorem dX3_union_21 : decode cX3_union 21 = .ok (.aload_n 0, 1) := by decide +kernel
theorem dX3_union_22 : decode cX3_union 22 = .ok (.getfield 58, 3) := by decide +kernel
theorem dX3_union_25 : decode cX3_union 25 = .ok (.if_icmp .ge 45, 3) := by decide +kernel
theorem dX3_union_28 : decode cX3_union 28 = .ok (.iload 6, 2) := by decide +kernel
theorem dX3_union_30 : decode cX3_union 30 = .ok (.ifCond .ne 27, 3) := by decide +kernel
theorem dX3_union_33 : decode cX3_union 33 = .ok (.aload_n 0, 1) := by decide +kernel
theorem dX3_union_34 : decode cX3_union 34 = .ok (.iload_n 1, 1) := by decide +kernel
theorem dX3_union_35 : decode cX3_union 35 = .ok (.iload 7, 2) := by decide +kernel
theorem dX3_union_37 : decode cX3_union 37 = .ok (.iload_n 2, 1) := by decide +kernel
theorem dX3_union_38 : decode cX3_union 38 = .ok (.iconst 2, 1) := by decide +kernel
theorem dX3_union_39 : decode cX3_union 39 = .ok (.invokevirtual 79, 3) := by decide +kernel
theorem dX3_union_42 : decode cX3_union 42 = .ok (.ifCond .eq 19, 3) := by decide +kernel
theorem dX3_union_45 : decode cX3_union 45 = .ok (.aload_n 0, 1) := by decide +kernel
theorem dX3_union_46 : decode cX3_union 46 = .ok (.getfield 22, 3) := by decide +kernel
theorem dX3_union_49 : decode cX3_union 49 = .ok (.iload 7, 2) := by decide +kernel
theorem dX3_union_51 : decode cX3_union 51 = .ok (.iaload, 1) := by decide +kernel
theorem dX3_union_52 : decode cX3_union 52 = .ok (.iload 5, 2) := by decide +kernel
theorem dX3_union_54 : decode cX3_union 54 = .ok (.if_icmp .ne 7, 3) := by decide +kernel
theorem dX3_union_57 : decode cX3_union 57 = .ok (.iconst 1, 1) := by decide +kernel
theorem dX3_union_58 : decode cX3_union 58 = .ok (.goto 4, 3) := by decide +kernel
theorem dX3_union_61 : decode cX3_union 61 = .ok (.iconst 0, 1) := by decide +kernel
theorem dX3_union_62 : decode cX3_union 62 = .ok (.istore 6, 2) := by decide +kernel
theorem dX3_union_64 : decode cX3_union 64 = .ok (.iinc 7 1, 3) := by decide +kernel
theorem dX3_union_67 : decode cX3_union 67 = .ok (.goto (-48), 3) := by decide +kernel
theorem dX3_union_70 : decode cX3_union 70 = .ok (.iload 6, 2) := by decide +kernel
theorem dX3_union_72 : decode cX3_union 72 = .ok (.ifCond .eq 12, 3) := by decide +kernel
theorem dX3_union_75 : decode cX3_union 75 = .ok (.iload 4, 2) := by decide +kernel
theorem dX3_union_77 : decode cX3_union 77 = .ok (.iload_n 3, 1) := by decide +kernel
theorem dX3_union_78 : decode cX3_union 78 = .ok (.if_icmp .ne 6, 3) := by decide +kernel
theorem dX3_union_81 : decode cX3_union 81 = .ok (.iload 5, 2) := by decide +kernel
theorem dX3_union_83 : decode cX3_union 83 = .ok (.ireturn, 1) := by decide +kernel
theorem dX3_union_84 : decode cX3_union 84 = .ok (.iload 6, 2) := by decide +kernel
theorem dX3_union_86 : decode cX3_union 86 = .ok (.ifCond .eq 10, 3) := by decide +kernel
theorem dX3_union_89 : decode cX3_union 89 = .ok (.iload 4, 2) := by decide +kernel
theorem dX3_union_91 : decode cX3_union 91 = .ok (.iconst 1, 1) := by decide +kernel
theorem dX3_union_92 : decode cX3_union 92 = .ok (.iadd, 1) := by decide +kernel
theorem dX3_union_93 : decode cX3_union 93 = .ok (.goto 5, 3) := by decide +kernel
theorem dX3_union_96 : decode cX3_union 96 = .ok (.iload 4, 2) := by decide +kernel
theorem dX3_union_98 : decode cX3_union 98 = .ok (.istore 4, 2) := by decide +kernel
theorem dX3_union_100 : decode cX3_union 100 = .ok (.iinc 5 1, 3) := by decide +kernel
theorem dX3_union_103 : decode cX3_union 103 = .ok (.goto (-97), 3) := by decide +kernel
theorem dX3_union_106 : decode cX3_union 106 = .ok (.iconst (-1), 1) := by decide +kernel
theorem dX3_union_107 : decode cX3_union 107 = .ok (.ireturn, 1) := by decide +kernel
theorem dX3_line_0 : decode cX3_line 0 = .ok (.aload_n 0, 1) := by decide +kernel
theorem dX3_line_1 : decode cX3_line 1 = .ok (.iconst 0, 1) := by decide +kernel
theorem dX3_line_2 : decode cX3_line 2 = .ok (.putfield 86, 3) := by decide +kernel
theorem dX3_line_5 : decode cX3_line 5 = .ok (.iconst 0, 1) := by decide +kernel
theorem dX3_line_6 : decode cX3_line 6 = .ok (.istore_n 3, 1) := by decide +kernel
theorem dX3_line_7 : decode cX3_line 7 = .ok (.iload_n 3, 1) := by decide +kernel
theorem dX3_line_8 : decode cX3_line 8 = .ok (.aload_n 0, 1) := by decide +kernel
theorem dX3_line_9 : decode cX3_line 9 = .ok (.getfield 58, 3) := by decide +kernel
theorem dX3_line_12 : decode cX3_line 12 = .ok (.if_icmp .ge 23, 3) := by decide +kernel
theorem dX3_line_15 : decode cX3_line 15 = .ok (.aload_n 0, 1) := by decide +kernel
theorem dX3_line_16 : decode cX3_line 16 = .ok (.getfield 47, 3) := by decide +kernel
theorem dX3_line_19 : decode cX3_line 19 = .ok (.iload_n 3, 1) := by decide +kernel
theorem dX3_line_20 : decode cX3_line 20 = .ok (.aload_n 0, 1) := by decide +kernel
theorem dX3_line_21 : decode cX3_line 21 = .ok (.iload_n 1, 1) := by decide +kernel
theorem dX3_line_22 : decode cX3_line 22 = .ok (.iload_n 3, 1) := by decide +kernel
theorem dX3_line_23 : decode cX3_line 23 = .ok (.iload_n 2, 1) := by decide +kernel
theorem dX3_line_24 : decode cX3_line 24 = .ok (.iconst 3, 1) := by decide +kernel
theorem dX3_line_25 : decode cX3_line 25 = .ok (.invokevirtual 79, 3) := by decide +kernel
theorem dX3_line_28 : decode cX3_line 28 = .ok (.bastore, 1) := by decide +kernel
theorem dX3_line_29 : decode cX3_line 29 = .ok (.iinc 3 1, 3) := by decide +kernel
theorem dX3_line_32 : decode cX3_line 32 = .ok (.goto (-25), 3) := by decide +kernel
theorem dX3_line_35 : decode cX3_line 35 = .ok (.iconst 1, 1) := by decide +kernel
theorem dX3_line_36 : decode cX3_line 36 = .ok (.istore_n 3, 1) := by decide +kernel
theorem dX3_line_37 : decode cX3_line 37 = .ok (.iload_n 3, 1) := by decide +kernel
theorem dX3_line_38 : decode cX3_line 38 = .ok (.ifCond .eq 190, 3) := by decide +kernel
theorem dX3_line_41 : decode cX3_line 41 = .ok (.iconst (-1), 1) := by decide +kernel
theorem dX3_line_42 : decode cX3_line 42 = .ok (.istore 4, 2) := by decide +kernel
theorem dX3_line_44 : decode cX3_line 44 = .ok (.iconst 0, 1) := by decide +kernel
theorem dX3_line_45 : decode cX3_line 45 = .ok (.istore 5, 2) := by decide +kernel
theorem dX3_line_47 : decode cX3_line 47 = .ok (.iload 5, 2) := by decide +kernel
theorem dX3_line_49 : decode cX3_line 49 = .ok (.aload_n 0, 1) := by decide +kernel
theorem dX3_line_50 : decode cX3_line 50 = .ok (.getfield 58, 3) := by decide +kernel
theorem dX3_line_53 : decode cX3_line 53 = .ok (.if_icmp .ge 45, 3) := by decide +kernel
theorem dX3_line_56 : decode cX3_line 56 = .ok (.aload_n 0, 1) := by decide +kernel
theorem dX3_line_57 : decode cX3_line 57 = .ok (.getfield 47, 3) := by decide +kernel
theorem dX3_line_60 : decode cX3_line 60 = .ok (.iload 5, 2) := by decide +kernel
theorem dX3_line_62 : decode cX3_line 62 = .ok (.baload, 1) := by decide +kernel
theorem dX3_line_63 : decode cX3_line 63 = .ok (.ifCond .eq 25, 3) := by decide +kernel
theorem dX3_line_66 : decode cX3_line 66 = .ok (.iload 4, 2) := by decide +kernel
theorem dX3_line_68 : decode cX3_line 68 = .ok (.iconst (-1), 1) := by decide +kernel
theorem dX3_line_69 : decode cX3_line 69 = .ok (.if_icmp .eq 14, 3) := by decide +kernel
theorem dX3_line_72 : decode cX3_line 72 = .ok (.aload_n 0, 1) := by decide +kernel
theorem dX3_line_73 : decode cX3_line 73 = .ok (.iload 5, 2) := by decide +kernel
theorem dX3_line_75 : decode cX3_line 75 = .ok (.iload 4, 2) := by decide +kernel
theorem dX3_line_77 : decode cX3_line 77 = .ok (.invokevirtual 83, 3) := by decide +kernel
theorem dX3_line_80 : decode cX3_line 80 = .ok (.ifCond .eq 8, 3) := by decide +kernel
theorem dX3_line_83 : decode cX3_line 83 = .ok (.iload 5, 2) := by decide +kernel
theorem dX3_line_85 : decode cX3_line 85 = .ok (.goto 5, 3) := by decide +kernel
theorem dX3_line_88 : decode cX3_line 88 = .ok (.iload 4, 2) := by decide +kernel
theorem dX3_line_90 : decode cX3_line 90 = .ok (.istore 4, 2) := by decide +kernel
theorem dX3_line_92 : decode cX3_line 92 = .ok (.iinc 5 1, 3) := by decide +kernel
theorem dX3_line_95 : decode cX3_line 95 = .ok (.goto (-48), 3) := by decide +kernel
theorem dX3_line_98 : decode cX3_line 98 = .ok (.iload 4, 2) := by decide +kernel
theorem dX3_line_100 : decode cX3_line 100 = .ok (.iconst (-1), 1) := by decide +kernel
theorem dX3_line_101 : decode cX3_line 101 = .ok (.if_icmp .eq 7, 3) := by decide +kernel
theorem dX3_line_104 : decode cX3_line 104 = .ok (.iconst 1, 1) := by decide +kernel
theorem dX3_line_105 : decode cX3_line 105 = .ok (.goto 4, 3) := by decide +kernel
theorem dX3_line_108 : decode cX3_line 108 = .ok (.iconst 0, 1) := by decide +kernel
theorem dX3_line_109 : decode cX3_line 109 = .ok (.istore_n 3, 1) := by decide +kernel
theorem dX3_line_110 : decode cX3_line 110 = .ok (.iload_n 3, 1) := by decide +kernel
theorem dX3_line_111 : decode cX3_line 111 = .ok (.ifCond .eq 114, 3) := by decide +kernel
theorem dX3_line_114 : decode cX3_line 114 = .ok (.aload_n 0, 1) := by decide +kernel
theorem dX3_line_115 : decode cX3_line 115 = .ok (.getfield 47, 3) := by decide +kernel
theorem dX3_line_118 : decode cX3_line 118 = .ok (.iload 4, 2) := by decide +kernel
theorem dX3_line_120 : decode cX3_line 120 = .ok (.iconst 0, 1) := by decide +kernel
theorem dX3_line_121 : decode cX3_line 121 = .ok (.bastore, 1) := by decide +kernel
theorem dX3_line_122 : decode cX3_line 122 = .ok (.iconst 0, 1) := by decide +kernel
theorem dX3_line_123 : decode cX3_line 123 = .ok (.istore 5, 2) := by decide +kernel
theorem dX3_line_125 : decode cX3_line 125 = .ok (.iconst 0, 1) := by decide +kernel
theorem dX3_line_126 : decode cX3_line 126 = .ok (.istore 6, 2) := by decide +kernel
theorem dX3_line_128 : decode cX3_line 128 = .ok (.iload 6, 2) := by decide +kernel
theorem dX3_line_130 : decode cX3_line 130 = .ok (.aload_n 0, 1) := by decide +kernel
theorem dX3_line_131 : decode cX3_line 131 = .ok (.getfield 86, 3) := by decide +kernel
theorem dX3_line_134 : decode cX3_line 134 = .ok (.if_icmp .ge 37, 3) := by decide +kernel
theorem dX3_line_137 : decode cX3_line 137 = .ok (.aload_n 0, 1) := by decide +kernel
theorem dX3_line_138 : decode cX3_line 138 = .ok (.getfield 38, 3) := by decide +kernel
theorem dX3_line_141 : decode cX3_line 141 = .ok (.iload 6, 2) := by decide +kernel
theorem dX3_line_143 : decode cX3_line 143 = .ok (.iaload, 1) := by decide +kernel
theorem dX3_line_144 : decode cX3_line 144 = .ok (.aload_n 0, 1) := by decide +kernel
theorem dX3_line_145 : decode cX3_line 145 = .ok (.getfield 25, 3) := by decide +kernel
theorem dX3_line_148 : decode cX3_line 148 = .ok (.iload 4, 2) := by decide +kernel
theorem dX3_line_150 : decode cX3_line 150 = .ok (.iaload, 1) := by decide +kernel
theorem dX3_line_151 : decode cX3_line 151 = .ok (.if_icmp .ne 10, 3) := by decide +kernel
end
section
theorem dX3_line_154 : decode cX3_line 154 = .ok (.iload 6, 2) := by decide +kernel
theorem dX3_line_156 : decode cX3_line 156 = .ok (.iconst 1, 1) := by decide +kernel
theorem dX3_line_157 : decode cX3_line 157 = .ok (.iadd, 1) := by decide +kernel
theorem dX3_line_158 : decode cX3_line 158 = .ok (.goto 5, 3) := by decide +kernel
theorem dX3_line_161 : decode cX3_line 161 = .ok (.iload 5, 2) := by decide +kernel
theorem dX3_line_163 : decode cX3_line 163 = .ok (.istore 5, 2) := by decide +kernel
theorem dX3_line_165 : decode cX3_line 165 = .ok (.iinc 6 1, 3) := by decide +kernel
theorem dX3_line_168 : decode cX3_line 168 = .ok (.goto (-40), 3) := by decide +kernel
theorem dX3_line_171 : decode cX3_line 171 = .ok (.aload_n 0, 1) := by decide +kernel
theorem dX3_line_172 : decode cX3_line 172 = .ok (.getfield 86, 3) := by decide +kernel
theorem dX3_line_175 : decode cX3_line 175 = .ok (.istore 6, 2) := by decide +kernel
theorem dX3_line_177 : decode cX3_line 177 = .ok (.iload 6, 2) := by decide +kernel
theorem dX3_line_179 : decode cX3_line 179 = .ok (.iload 5, 2) := by decide +kernel
theorem dX3_line_181 : decode cX3_line 181 = .ok (.if_icmp .le 25, 3) := by decide +kernel
theorem dX3_line_184 : decode cX3_line 184 = .ok (.aload_n 0, 1) := by decide +kernel
theorem dX3_line_185 : decode cX3_line 185 = .ok (.getfield 38, 3) := by decide +kernel
theorem dX3_line_188 : decode cX3_line 188 = .ok (.iload 6, 2) := by decide +kernel
theorem dX3_line_190 : decode cX3_line 190 = .ok (.aload_n 0, 1) := by decide +kernel
theorem dX3_line_191 : decode cX3_line 191 = .ok (.getfield 38, 3) := by decide +kernel
theorem dX3_line_194 : decode cX3_line 194 = .ok (.iload 6, 2) := by decide +kernel
theorem dX3_line_196 : decode cX3_line 196 = .ok (.iconst 1, 1) := by decide +kernel
theorem dX3_line_197 : decode cX3_line 197 = .ok (.isub, 1) := by decide +kernel
theorem dX3_line_198 : decode cX3_line 198 = .ok (.iaload, 1) := by decide +kernel
theorem dX3_line_199 : decode cX3_line 199 = .ok (.iastore, 1) := by decide +kernel
theorem dX3_line_200 : decode cX3_line 200 = .ok (.iinc 6 (-1), 3) := by decide +kernel
theorem dX3_line_203 : decode cX3_line 203 = .ok (.goto (-26), 3) := by decide +kernel
theorem dX3_line_206 : decode cX3_line 206 = .ok (.aload_n 0, 1) := by decide +kernel
theorem dX3_line_207 : decode cX3_line 207 = .ok (.getfield 38, 3) := by decide +kernel
theorem dX3_line_210 : decode cX3_line 210 = .ok (.iload 5, 2) := by decide +kernel
theorem dX3_line_212 : decode cX3_line 212 = .ok (.iload 4, 2) := by decide +kernel
theorem dX3_line_214 : decode cX3_line 214 = .ok (.iastore, 1) := by decide +kernel
theorem dX3_line_215 : decode cX3_line 215 = .ok (.aload_n 0, 1) := by decide +kernel
theorem dX3_line_216 : decode cX3_line 216 = .ok (.dup, 1) := by decide +kernel
theorem dX3_line_217 : decode cX3_line 217 = .ok (.getfield 86, 3) := by decide +kernel
theorem dX3_line_220 : decode cX3_line 220 = .ok (.iconst 1, 1) := by decide +kernel
theorem dX3_line_221 : decode cX3_line 221 = .ok (.iadd, 1) := by decide +kernel
theorem dX3_line_222 : decode cX3_line 222 = .ok (.putfield 86, 3) := by decide +kernel
theorem dX3_line_225 : decode cX3_line 225 = .ok (.goto (-188), 3) := by decide +kernel
theorem dX3_line_228 : decode cX3_line 228 = .ok (.return_, 1) := by decide +kernel
theorem dX3_isRemoved_0 : decode cX3_isRemoved 0 = .ok (.iconst 0, 1) := by decide +kernel
theorem dX3_isRemoved_1 : decode cX3_isRemoved 1 = .ok (.istore_n 3, 1) := by decide +kernel
theorem dX3_isRemoved_2 : decode cX3_isRemoved 2 = .ok (.iconst 0, 1) := by decide +kernel
theorem dX3_isRemoved_3 : decode cX3_isRemoved 3 = .ok (.istore 4, 2) := by decide +kernel
theorem dX3_isRemoved_5 : decode cX3_isRemoved 5 = .ok (.iload 4, 2) := by decide +kernel
theorem dX3_isRemoved_7 : decode cX3_isRemoved 7 = .ok (.aload_n 0, 1) := by decide +kernel
theorem dX3_isRemoved_8 : decode cX3_isRemoved 8 = .ok (.getfield 58, 3) := by decide +kernel
theorem dX3_isRemoved_11 : decode cX3_isRemoved 11 = .ok (.if_icmp .ge 56, 3) := by decide +kernel
theorem dX3_isRemoved_14 : decode cX3_isRemoved 14 = .ok (.iload_n 3, 1) := by decide +kernel
theorem dX3_isRemoved_15 : decode cX3_isRemoved 15 = .ok (.ifCond .ne 40, 3) := by decide +kernel
theorem dX3_isRemoved_18 : decode cX3_isRemoved 18 = .ok (.aload_n 0, 1) := by decide +kernel
theorem dX3_isRemoved_19 : decode cX3_isRemoved 19 = .ok (.getfield 32, 3) := by decide +kernel
theorem dX3_isRemoved_22 : decode cX3_isRemoved 22 = .ok (.bipush 120, 2) := by decide +kernel
theorem dX3_isRemoved_24 : decode cX3_isRemoved 24 = .ok (.iload_n 1, 1) := by decide +kernel
theorem dX3_isRemoved_25 : decode cX3_isRemoved 25 = .ok (.imul, 1) := by decide +kernel
theorem dX3_isRemoved_26 : decode cX3_isRemoved 26 = .ok (.iload 4, 2) := by decide +kernel
theorem dX3_isRemoved_28 : decode cX3_isRemoved 28 = .ok (.iadd, 1) := by decide +kernel
theorem dX3_isRemoved_29 : decode cX3_isRemoved 29 = .ok (.baload, 1) := by decide +kernel
theorem dX3_isRemoved_30 : decode cX3_isRemoved 30 = .ok (.ifCond .eq 29, 3) := by decide +kernel
theorem dX3_isRemoved_33 : decode cX3_isRemoved 33 = .ok (.aload_n 0, 1) := by decide +kernel
theorem dX3_isRemoved_34 : decode cX3_isRemoved 34 = .ok (.getfield 16, 3) := by decide +kernel
theorem dX3_isRemoved_37 : decode cX3_isRemoved 37 = .ok (.iload 4, 2) := by decide +kernel
theorem dX3_isRemoved_39 : decode cX3_isRemoved 39 = .ok (.iaload, 1) := by decide +kernel
theorem dX3_isRemoved_40 : decode cX3_isRemoved 40 = .ok (.iconst 4, 1) := by decide +kernel
theorem dX3_isRemoved_41 : decode cX3_isRemoved 41 = .ok (.if_icmp .ne 18, 3) := by decide +kernel
theorem dX3_isRemoved_44 : decode cX3_isRemoved 44 = .ok (.aload_n 0, 1) := by decide +kernel
theorem dX3_isRemoved_45 : decode cX3_isRemoved 45 = .ok (.getfield 22, 3) := by decide +kernel
theorem dX3_isRemoved_48 : decode cX3_isRemoved 48 = .ok (.iload 4, 2) := by decide +kernel
theorem dX3_isRemoved_50 : decode cX3_isRemoved 50 = .ok (.iaload, 1) := by decide +kernel
theorem dX3_isRemoved_51 : decode cX3_isRemoved 51 = .ok (.iload_n 2, 1) := by decide +kernel
theorem dX3_isRemoved_52 : decode cX3_isRemoved 52 = .ok (.if_icmp .ne 7, 3) := by decide +kernel
theorem dX3_isRemoved_55 : decode cX3_isRemoved 55 = .ok (.iconst 1, 1) := by decide +kernel
theorem dX3_isRemoved_56 : decode cX3_isRemoved 56 = .ok (.goto 4, 3) := by decide +kernel
theorem dX3_isRemoved_59 : decode cX3_isRemoved 59 = .ok (.iconst 0, 1) := by decide +kernel
theorem dX3_isRemoved_60 : decode cX3_isRemoved 60 = .ok (.istore_n 3, 1) := by decide +kernel
theorem dX3_isRemoved_61 : decode cX3_isRemoved 61 = .ok (.iinc 4 1, 3) := by decide +kernel
theorem dX3_isRemoved_64 : decode cX3_isRemoved 64 = .ok (.goto (-59), 3) := by decide +kernel
theorem dX3_isRemoved_67 : decode cX3_isRemoved 67 = .ok (.iload_n 3, 1) := by decide +kernel
theorem dX3_isRemoved_68 : decode cX3_isRemoved 68 = .ok (.ireturn, 1) := by decide +kernel
theorem dX3_standing_0 : decode cX3_standing 0 = .ok (.aload_n 0, 1) := by decide +kernel
theorem dX3_standing_1 : decode cX3_standing 1 = .ok (.iload_n 1, 1) := by decide +kernel
theorem dX3_standing_2 : decode cX3_standing 2 = .ok (.iload_n 2, 1) := by decide +kernel
theorem dX3_standing_3 : decode cX3_standing 3 = .ok (.invokevirtual 89, 3) := by decide +kernel
theorem dX3_standing_6 : decode cX3_standing 6 = .ok (.iconst 0, 1) := by decide +kernel
theorem dX3_standing_7 : decode cX3_standing 7 = .ok (.istore 4, 2) := by decide +kernel
theorem dX3_standing_9 : decode cX3_standing 9 = .ok (.iconst 0, 1) := by decide +kernel
theorem dX3_standing_10 : decode cX3_standing 10 = .ok (.istore 5, 2) := by decide +kernel
theorem dX3_standing_12 : decode cX3_standing 12 = .ok (.iload 5, 2) := by decide +kernel
theorem dX3_standing_14 : decode cX3_standing 14 = .ok (.aload_n 0, 1) := by decide +kernel
theorem dX3_standing_15 : decode cX3_standing 15 = .ok (.getfield 86, 3) := by decide +kernel
theorem dX3_standing_18 : decode cX3_standing 18 = .ok (.if_icmp .ge 41, 3) := by decide +kernel
theorem dX3_standing_21 : decode cX3_standing 21 = .ok (.aload_n 0, 1) := by decide +kernel
theorem dX3_standing_22 : decode cX3_standing 22 = .ok (.iload_n 1, 1) := by decide +kernel
theorem dX3_standing_23 : decode cX3_standing 23 = .ok (.aload_n 0, 1) := by decide +kernel
theorem dX3_standing_24 : decode cX3_standing 24 = .ok (.getfield 38, 3) := by decide +kernel
theorem dX3_standing_27 : decode cX3_standing 27 = .ok (.iload 5, 2) := by decide +kernel
theorem dX3_standing_29 : decode cX3_standing 29 = .ok (.iaload, 1) := by decide +kernel
theorem dX3_standing_30 : decode cX3_standing 30 = .ok (.invokevirtual 93, 3) := by decide +kernel
theorem dX3_standing_33 : decode cX3_standing 33 = .ok (.ifCond .ne 20, 3) := by decide +kernel
theorem dX3_standing_36 : decode cX3_standing 36 = .ok (.iload 4, 2) := by decide +kernel
theorem dX3_standing_38 : decode cX3_standing 38 = .ok (.iload_n 3, 1) := by decide +kernel
theorem dX3_standing_39 : decode cX3_standing 39 = .ok (.if_icmp .ne 11, 3) := by decide +kernel
theorem dX3_standing_42 : decode cX3_standing 42 = .ok (.aload_n 0, 1) := by decide +kernel
theorem dX3_standing_43 : decode cX3_standing 43 = .ok (.getfield 38, 3) := by decide +kernel
theorem dX3_standing_46 : decode cX3_standing 46 = .ok (.iload 5, 2) := by decide +kernel
theorem dX3_standing_48 : decode cX3_standing 48 = .ok (.iaload, 1) := by decide +kernel
theorem dX3_standing_49 : decode cX3_standing 49 = .ok (.ireturn, 1) := by decide +kernel
theorem dX3_standing_50 : decode cX3_standing 50 = .ok (.iinc 4 1, 3) := by decide +kernel
theorem dX3_standing_53 : decode cX3_standing 53 = .ok (.iinc 5 1, 3) := by decide +kernel
theorem dX3_standing_56 : decode cX3_standing 56 = .ok (.goto (-44), 3) := by decide +kernel
theorem dX3_standing_59 : decode cX3_standing 59 = .ok (.iconst (-1), 1) := by decide +kernel
theorem dX3_standing_60 : decode cX3_standing 60 = .ok (.ireturn, 1) := by decide +kernel
theorem dX3_at_0 : decode cX3_at 0 = .ok (.aload_n 0, 1) := by decide +kernel
theorem dX3_at_1 : decode cX3_at 1 = .ok (.iload_n 1, 1) := by decide +kernel
theorem dX3_at_2 : decode cX3_at 2 = .ok (.invokestatic 54, 3) := by decide +kernel
theorem dX3_at_5 : decode cX3_at 5 = .ok (.ifCond .eq 28, 3) := by decide +kernel
theorem dX3_at_8 : decode cX3_at 8 = .ok (.iload_n 2, 1) := by decide +kernel
theorem dX3_at_9 : decode cX3_at 9 = .ok (.invokestatic 61, 3) := by decide +kernel
theorem dX3_at_12 : decode cX3_at 12 = .ok (.ifCond .eq 21, 3) := by decide +kernel
theorem dX3_at_15 : decode cX3_at 15 = .ok (.iload_n 3, 1) := by decide +kernel
theorem dX3_at_16 : decode cX3_at 16 = .ok (.iconst 0, 1) := by decide +kernel
theorem dX3_at_17 : decode cX3_at 17 = .ok (.iconst 3, 1) := by decide +kernel
theorem dX3_at_18 : decode cX3_at 18 = .ok (.invokestatic 64, 3) := by decide +kernel
theorem dX3_at_21 : decode cX3_at 21 = .ok (.ifCond .eq 12, 3) := by decide +kernel
theorem dX3_at_24 : decode cX3_at 24 = .ok (.iload 4, 2) := by decide +kernel
theorem dX3_at_26 : decode cX3_at 26 = .ok (.ifCond .lt 7, 3) := by decide +kernel
theorem dX3_at_29 : decode cX3_at 29 = .ok (.iconst 1, 1) := by decide +kernel
theorem dX3_at_30 : decode cX3_at 30 = .ok (.goto 4, 3) := by decide +kernel
theorem dX3_at_33 : decode cX3_at 33 = .ok (.iconst 0, 1) := by decide +kernel
theorem dX3_at_34 : decode cX3_at 34 = .ok (.iconst 1, 1) := by decide +kernel
theorem dX3_at_35 : decode cX3_at 35 = .ok (.iconst 1, 1) := by decide +kernel
theorem dX3_at_36 : decode cX3_at 36 = .ok (.invokevirtual 68, 3) := by decide +kernel
theorem dX3_at_39 : decode cX3_at 39 = .ok (.ifCond .ne 5, 3) := by decide +kernel
theorem dX3_at_42 : decode cX3_at 42 = .ok (.iconst 0, 1) := by decide +kernel
theorem dX3_at_43 : decode cX3_at 43 = .ok (.ireturn, 1) := by decide +kernel
theorem dX3_at_44 : decode cX3_at 44 = .ok (.iload_n 3, 1) := by decide +kernel
theorem dX3_at_45 : decode cX3_at 45 = .ok (.iconst 2, 1) := by decide +kernel
theorem dX3_at_46 : decode cX3_at 46 = .ok (.if_icmp .ge 32, 3) := by decide +kernel
theorem dX3_at_49 : decode cX3_at 49 = .ok (.iload 4, 2) := by decide +kernel
theorem dX3_at_51 : decode cX3_at 51 = .ok (.ifCond .le 7, 3) := by decide +kernel
theorem dX3_at_54 : decode cX3_at 54 = .ok (.iconst (-1), 1) := by decide +kernel
theorem dX3_at_55 : decode cX3_at 55 = .ok (.goto 22, 3) := by decide +kernel
theorem dX3_at_58 : decode cX3_at 58 = .ok (.iload_n 3, 1) := by decide +kernel
theorem dX3_at_59 : decode cX3_at 59 = .ok (.ifCond .ne 12, 3) := by decide +kernel
theorem dX3_at_62 : decode cX3_at 62 = .ok (.aload_n 0, 1) := by decide +kernel
theorem dX3_at_63 : decode cX3_at 63 = .ok (.iload_n 1, 1) := by decide +kernel
theorem dX3_at_64 : decode cX3_at 64 = .ok (.iload_n 2, 1) := by decide +kernel
theorem dX3_at_65 : decode cX3_at 65 = .ok (.invokevirtual 96, 3) := by decide +kernel
theorem dX3_at_68 : decode cX3_at 68 = .ok (.goto 9, 3) := by decide +kernel
theorem dX3_at_71 : decode cX3_at 71 = .ok (.aload_n 0, 1) := by decide +kernel
theorem dX3_at_72 : decode cX3_at 72 = .ok (.iload_n 1, 1) := by decide +kernel
theorem dX3_at_73 : decode cX3_at 73 = .ok (.iload_n 2, 1) := by decide +kernel
theorem dX3_at_74 : decode cX3_at 74 = .ok (.invokevirtual 100, 3) := by decide +kernel
theorem dX3_at_77 : decode cX3_at 77 = .ok (.ireturn, 1) := by decide +kernel
theorem dX3_at_78 : decode cX3_at 78 = .ok (.iload_n 3, 1) := by decide +kernel
theorem dX3_at_79 : decode cX3_at 79 = .ok (.iconst 2, 1) := by decide +kernel
theorem dX3_at_80 : decode cX3_at 80 = .ok (.if_icmp .ne 12, 3) := by decide +kernel
theorem dX3_at_83 : decode cX3_at 83 = .ok (.aload_n 0, 1) := by decide +kernel
theorem dX3_at_84 : decode cX3_at 84 = .ok (.iload_n 1, 1) := by decide +kernel
theorem dX3_at_85 : decode cX3_at 85 = .ok (.iload_n 2, 1) := by decide +kernel
theorem dX3_at_86 : decode cX3_at 86 = .ok (.iload 4, 2) := by decide +kernel
theorem dX3_at_88 : decode cX3_at 88 = .ok (.invokevirtual 103, 3) := by decide +kernel
theorem dX3_at_91 : decode cX3_at 91 = .ok (.ireturn, 1) := by decide +kernel
theorem dX3_at_92 : decode cX3_at 92 = .ok (.aload_n 0, 1) := by decide +kernel
theorem dX3_at_93 : decode cX3_at 93 = .ok (.iload_n 1, 1) := by decide +kernel
theorem dX3_at_94 : decode cX3_at 94 = .ok (.iload_n 2, 1) := by decide +kernel
theorem dX3_at_95 : decode cX3_at 95 = .ok (.iload 4, 2) := by decide +kernel
theorem dX3_at_97 : decode cX3_at 97 = .ok (.invokevirtual 107, 3) := by decide +kernel
theorem dX3_at_100 : decode cX3_at 100 = .ok (.istore 5, 2) := by decide +kernel
theorem dX3_at_102 : decode cX3_at 102 = .ok (.iload 5, 2) := by decide +kernel
theorem dX3_at_104 : decode cX3_at 104 = .ok (.iconst (-1), 1) := by decide +kernel
theorem dX3_at_105 : decode cX3_at 105 = .ok (.if_icmp .ne 7, 3) := by decide +kernel
theorem dX3_at_108 : decode cX3_at 108 = .ok (.iconst (-1), 1) := by decide +kernel
theorem dX3_at_109 : decode cX3_at 109 = .ok (.goto 10, 3) := by decide +kernel
theorem dX3_at_112 : decode cX3_at 112 = .ok (.aload_n 0, 1) := by decide +kernel
theorem dX3_at_113 : decode cX3_at 113 = .ok (.getfield 22, 3) := by decide +kernel
theorem dX3_at_116 : decode cX3_at 116 = .ok (.iload 5, 2) := by decide +kernel
theorem dX3_at_118 : decode cX3_at 118 = .ok (.iaload, 1) := by decide +kernel
theorem dX3_at_119 : decode cX3_at 119 = .ok (.ireturn, 1) := by decide +kernel
theorem dX3_place_0 : decode cX3_place 0 = .ok (.aload_n 0, 1) := by decide +kernel
theorem dX3_place_1 : decode cX3_place 1 = .ok (.iload_n 1, 1) := by decide +kernel
theorem dX3_place_2 : decode cX3_place 2 = .ok (.invokestatic 54, 3) := by decide +kernel
theorem dX3_place_5 : decode cX3_place 5 = .ok (.ifCond .eq 18, 3) := by decide +kernel
theorem dX3_place_8 : decode cX3_place 8 = .ok (.iload_n 2, 1) := by decide +kernel
theorem dX3_place_9 : decode cX3_place 9 = .ok (.invokestatic 61, 3) := by decide +kernel
theorem dX3_place_12 : decode cX3_place 12 = .ok (.ifCond .eq 11, 3) := by decide +kernel
theorem dX3_place_15 : decode cX3_place 15 = .ok (.iload_n 3, 1) := by decide +kernel
theorem dX3_place_16 : decode cX3_place 16 = .ok (.ifCond .lt 7, 3) := by decide +kernel
theorem dX3_place_19 : decode cX3_place 19 = .ok (.iconst 1, 1) := by decide +kernel
theorem dX3_place_20 : decode cX3_place 20 = .ok (.goto 4, 3) := by decide +kernel
theorem dX3_place_23 : decode cX3_place 23 = .ok (.iconst 0, 1) := by decide +kernel
theorem dX3_place_24 : decode cX3_place 24 = .ok (.iconst 1, 1) := by decide +kernel
theorem dX3_place_25 : decode cX3_place 25 = .ok (.iconst 1, 1) := by decide +kernel
theorem dX3_place_26 : decode cX3_place 26 = .ok (.invokevirtual 68, 3) := by decide +kernel
theorem dX3_place_29 : decode cX3_place 29 = .ok (.ifCond .eq 13, 3) := by decide +kernel
theorem dX3_place_32 : decode cX3_place 32 = .ok (.aload_n 0, 1) := by decide +kernel
theorem dX3_place_33 : decode cX3_place 33 = .ok (.iload_n 1, 1) := by decide +kernel
theorem dX3_place_34 : decode cX3_place 34 = .ok (.iload_n 2, 1) := by decide +kernel
theorem dX3_place_35 : decode cX3_place 35 = .ok (.iload_n 3, 1) := by decide +kernel
theorem dX3_place_36 : decode cX3_place 36 = .ok (.invokevirtual 107, 3) := by decide +kernel
theorem dX3_place_39 : decode cX3_place 39 = .ok (.goto 4, 3) := by decide +kernel
theorem dX3_place_42 : decode cX3_place 42 = .ok (.iconst 0, 1) := by decide +kernel
theorem dX3_place_43 : decode cX3_place 43 = .ok (.ireturn, 1) := by decide +kernel
theorem dX3_isDropped_0 : decode cX3_isDropped 0 = .ok (.iconst 0, 1) := by decide +kernel
theorem dX3_isDropped_1 : decode cX3_isDropped 1 = .ok (.istore_n 3, 1) := by decide +kernel
theorem dX3_isDropped_2 : decode cX3_isDropped 2 = .ok (.iconst 0, 1) := by decide +kernel
theorem dX3_isDropped_3 : decode cX3_isDropped 3 = .ok (.istore 4, 2) := by decide +kernel
theorem dX3_isDropped_5 : decode cX3_isDropped 5 = .ok (.iload 4, 2) := by decide +kernel
theorem dX3_isDropped_7 : decode cX3_isDropped 7 = .ok (.aload_n 0, 1) := by decide +kernel
theorem dX3_isDropped_8 : decode cX3_isDropped 8 = .ok (.getfield 58, 3) := by decide +kernel
theorem dX3_isDropped_11 : decode cX3_isDropped 11 = .ok (.if_icmp .ge 57, 3) := by decide +kernel
theorem dX3_isDropped_14 : decode cX3_isDropped 14 = .ok (.iload_n 3, 1) := by decide +kernel
theorem dX3_isDropped_15 : decode cX3_isDropped 15 = .ok (.ifCond .ne 41, 3) := by decide +kernel
theorem dX3_isDropped_18 : decode cX3_isDropped 18 = .ok (.aload_n 0, 1) := by decide +kernel
theorem dX3_isDropped_19 : decode cX3_isDropped 19 = .ok (.getfield 32, 3) := by decide +kernel
theorem dX3_isDropped_22 : decode cX3_isDropped 22 = .ok (.bipush 120, 2) := by decide +kernel
theorem dX3_isDropped_24 : decode cX3_isDropped 24 = .ok (.iload_n 1, 1) := by decide +kernel
theorem dX3_isDropped_25 : decode cX3_isDropped 25 = .ok (.imul, 1) := by decide +kernel
theorem dX3_isDropped_26 : decode cX3_isDropped 26 = .ok (.iload 4, 2) := by decide +kernel
theorem dX3_isDropped_28 : decode cX3_isDropped 28 = .ok (.iadd, 1) := by decide +kernel
theorem dX3_isDropped_29 : decode cX3_isDropped 29 = .ok (.baload, 1) := by decide +kernel
theorem dX3_isDropped_30 : decode cX3_isDropped 30 = .ok (.ifCond .eq 30, 3) := by decide +kernel
theorem dX3_isDropped_33 : decode cX3_isDropped 33 = .ok (.aload_n 0, 1) := by decide +kernel
theorem dX3_isDropped_34 : decode cX3_isDropped 34 = .ok (.getfield 16, 3) := by decide +kernel
theorem dX3_isDropped_37 : decode cX3_isDropped 37 = .ok (.iload 4, 2) := by decide +kernel
theorem dX3_isDropped_39 : decode cX3_isDropped 39 = .ok (.iaload, 1) := by decide +kernel
theorem dX3_isDropped_40 : decode cX3_isDropped 40 = .ok (.bipush 6, 2) := by decide +kernel
theorem dX3_isDropped_42 : decode cX3_isDropped 42 = .ok (.if_icmp .ne 18, 3) := by decide +kernel
theorem dX3_isDropped_45 : decode cX3_isDropped 45 = .ok (.aload_n 0, 1) := by decide +kernel
theorem dX3_isDropped_46 : decode cX3_isDropped 46 = .ok (.getfield 22, 3) := by decide +kernel
theorem dX3_isDropped_49 : decode cX3_isDropped 49 = .ok (.iload 4, 2) := by decide +kernel
theorem dX3_isDropped_51 : decode cX3_isDropped 51 = .ok (.iaload, 1) := by decide +kernel
theorem dX3_isDropped_52 : decode cX3_isDropped 52 = .ok (.iload_n 2, 1) := by decide +kernel
theorem dX3_isDropped_53 : decode cX3_isDropped 53 = .ok (.if_icmp .ne 7, 3) := by decide +kernel
theorem dX3_isDropped_56 : decode cX3_isDropped 56 = .ok (.iconst 1, 1) := by decide +kernel
theorem dX3_isDropped_57 : decode cX3_isDropped 57 = .ok (.goto 4, 3) := by decide +kernel
theorem dX3_isDropped_60 : decode cX3_isDropped 60 = .ok (.iconst 0, 1) := by decide +kernel
theorem dX3_isDropped_61 : decode cX3_isDropped 61 = .ok (.istore_n 3, 1) := by decide +kernel
theorem dX3_isDropped_62 : decode cX3_isDropped 62 = .ok (.iinc 4 1, 3) := by decide +kernel
theorem dX3_isDropped_65 : decode cX3_isDropped 65 = .ok (.goto (-60), 3) := by decide +kernel
theorem dX3_isDropped_68 : decode cX3_isDropped 68 = .ok (.iload_n 3, 1) := by decide +kernel
theorem dX3_isDropped_69 : decode cX3_isDropped 69 = .ok (.ireturn, 1) := by decide +kernel
theorem dX3_settle_0 : decode cX3_settle 0 = .ok (.aload_n 0, 1) := by decide +kernel
theorem dX3_settle_1 : decode cX3_settle 1 = .ok (.iconst 0, 1) := by decide +kernel
theorem dX3_settle_2 : decode cX3_settle 2 = .ok (.putfield 110, 3) := by decide +kernel
theorem dX3_settle_5 : decode cX3_settle 5 = .ok (.iconst 0, 1) := by decide +kernel
theorem dX3_settle_6 : decode cX3_settle 6 = .ok (.istore_n 2, 1) := by decide +kernel
theorem dX3_settle_7 : decode cX3_settle 7 = .ok (.iload_n 2, 1) := by decide +kernel
theorem dX3_settle_8 : decode cX3_settle 8 = .ok (.sipush 256, 3) := by decide +kernel
theorem dX3_settle_11 : decode cX3_settle 11 = .ok (.if_icmp .ge 16, 3) := by decide +kernel
theorem dX3_settle_14 : decode cX3_settle 14 = .ok (.aload_n 0, 1) := by decide +kernel
theorem dX3_settle_15 : decode cX3_settle 15 = .ok (.getfield 41, 3) := by decide +kernel
theorem dX3_settle_18 : decode cX3_settle 18 = .ok (.iload_n 2, 1) := by decide +kernel
theorem dX3_settle_19 : decode cX3_settle 19 = .ok (.iconst 0, 1) := by decide +kernel
theorem dX3_settle_20 : decode cX3_settle 20 = .ok (.bastore, 1) := by decide +kernel
theorem dX3_settle_21 : decode cX3_settle 21 = .ok (.iinc 2 1, 3) := by decide +kernel
theorem dX3_settle_24 : decode cX3_settle 24 = .ok (.goto (-17), 3) := by decide +kernel
theorem dX3_settle_27 : decode cX3_settle 27 = .ok (.iconst 0, 1) := by decide +kernel
theorem dX3_settle_28 : decode cX3_settle 28 = .ok (.istore_n 2, 1) := by decide +kernel
theorem dX3_settle_29 : decode cX3_settle 29 = .ok (.iload_n 2, 1) := by decide +kernel
theorem dX3_settle_30 : decode cX3_settle 30 = .ok (.aload_n 0, 1) := by decide +kernel
theorem dX3_settle_31 : decode cX3_settle 31 = .ok (.getfield 58, 3) := by decide +kernel
theorem dX3_settle_34 : decode cX3_settle 34 = .ok (.if_icmp .ge 53, 3) := by decide +kernel
theorem dX3_settle_37 : decode cX3_settle 37 = .ok (.aload_n 0, 1) := by decide +kernel
theorem dX3_settle_38 : decode cX3_settle 38 = .ok (.getfield 47, 3) := by decide +kernel
theorem dX3_settle_41 : decode cX3_settle 41 = .ok (.iload_n 2, 1) := by decide +kernel
theorem dX3_settle_42 : decode cX3_settle 42 = .ok (.aload_n 0, 1) := by decide +kernel
theorem dX3_settle_43 : decode cX3_settle 43 = .ok (.getfield 32, 3) := by decide +kernel
theorem dX3_settle_46 : decode cX3_settle 46 = .ok (.bipush 120, 2) := by decide +kernel
theorem dX3_settle_48 : decode cX3_settle 48 = .ok (.iload_n 1, 1) := by decide +kernel
theorem dX3_settle_49 : decode cX3_settle 49 = .ok (.imul, 1) := by decide +kernel
theorem dX3_settle_50 : decode cX3_settle 50 = .ok (.iload_n 2, 1) := by decide +kernel
theorem dX3_settle_51 : decode cX3_settle 51 = .ok (.iadd, 1) := by decide +kernel
theorem dX3_settle_52 : decode cX3_settle 52 = .ok (.baload, 1) := by decide +kernel
theorem dX3_settle_53 : decode cX3_settle 53 = .ok (.ifCond .eq 26, 3) := by decide +kernel
theorem dX3_settle_56 : decode cX3_settle 56 = .ok (.aload_n 0, 1) := by decide +kernel
theorem dX3_settle_57 : decode cX3_settle 57 = .ok (.getfield 16, 3) := by decide +kernel
theorem dX3_settle_60 : decode cX3_settle 60 = .ok (.iload_n 2, 1) := by decide +kernel
theorem dX3_settle_61 : decode cX3_settle 61 = .ok (.iaload, 1) := by decide +kernel
theorem dX3_settle_62 : decode cX3_settle 62 = .ok (.iconst 5, 1) := by decide +kernel
theorem dX3_settle_63 : decode cX3_settle 63 = .ok (.if_icmp .ne 16, 3) := by decide +kernel
theorem dX3_settle_66 : decode cX3_settle 66 = .ok (.aload_n 0, 1) := by decide +kernel
theorem dX3_settle_67 : decode cX3_settle 67 = .ok (.iload_n 1, 1) := by decide +kernel
theorem dX3_settle_68 : decode cX3_settle 68 = .ok (.iload_n 2, 1) := by decide +kernel
theorem dX3_settle_69 : decode cX3_settle 69 = .ok (.invokevirtual 113, 3) := by decide +kernel
theorem dX3_settle_72 : decode cX3_settle 72 = .ok (.ifCond .ne 7, 3) := by decide +kernel
theorem dX3_settle_75 : decode cX3_settle 75 = .ok (.iconst 1, 1) := by decide +kernel
theorem dX3_settle_76 : decode cX3_settle 76 = .ok (.goto 4, 3) := by decide +kernel
theorem dX3_settle_79 : decode cX3_settle 79 = .ok (.iconst 0, 1) := by decide +kernel
theorem dX3_settle_80 : decode cX3_settle 80 = .ok (.bastore, 1) := by decide +kernel
theorem dX3_settle_81 : decode cX3_settle 81 = .ok (.iinc 2 1, 3) := by decide +kernel
theorem dX3_settle_84 : decode cX3_settle 84 = .ok (.goto (-55), 3) := by decide +kernel
theorem dX3_settle_87 : decode cX3_settle 87 = .ok (.iconst 1, 1) := by decide +kernel
theorem dX3_settle_88 : decode cX3_settle 88 = .ok (.istore_n 2, 1) := by decide +kernel
theorem dX3_settle_89 : decode cX3_settle 89 = .ok (.iload_n 2, 1) := by decide +kernel
theorem dX3_settle_90 : decode cX3_settle 90 = .ok (.ifCond .eq 85, 3) := by decide +kernel
theorem dX3_settle_93 : decode cX3_settle 93 = .ok (.iconst (-1), 1) := by decide +kernel
theorem dX3_settle_94 : decode cX3_settle 94 = .ok (.istore_n 3, 1) := by decide +kernel
theorem dX3_settle_95 : decode cX3_settle 95 = .ok (.iconst 0, 1) := by decide +kernel
theorem dX3_settle_96 : decode cX3_settle 96 = .ok (.istore 4, 2) := by decide +kernel
theorem dX3_settle_98 : decode cX3_settle 98 = .ok (.iload 4, 2) := by decide +kernel
theorem dX3_settle_100 : decode cX3_settle 100 = .ok (.aload_n 0, 1) := by decide +kernel
theorem dX3_settle_101 : decode cX3_settle 101 = .ok (.getfield 58, 3) := by decide +kernel
theorem dX3_settle_104 : decode cX3_settle 104 = .ok (.if_icmp .ge 41, 3) := by decide +kernel
theorem dX3_settle_107 : decode cX3_settle 107 = .ok (.aload_n 0, 1) := by decide +kernel
theorem dX3_settle_108 : decode cX3_settle 108 = .ok (.getfield 47, 3) := by decide +kernel
theorem dX3_settle_111 : decode cX3_settle 111 = .ok (.iload 4, 2) := by decide +kernel
theorem dX3_settle_113 : decode cX3_settle 113 = .ok (.baload, 1) := by decide +kernel
theorem dX3_settle_114 : decode cX3_settle 114 = .ok (.ifCond .eq 23, 3) := by decide +kernel
theorem dX3_settle_117 : decode cX3_settle 117 = .ok (.iload_n 3, 1) := by decide +kernel
theorem dX3_settle_118 : decode cX3_settle 118 = .ok (.iconst (-1), 1) := by decide +kernel
theorem dX3_settle_119 : decode cX3_settle 119 = .ok (.if_icmp .eq 13, 3) := by decide +kernel
theorem dX3_settle_122 : decode cX3_settle 122 = .ok (.aload_n 0, 1) := by decide +kernel
theorem dX3_settle_123 : decode cX3_settle 123 = .ok (.iload 4, 2) := by decide +kernel
theorem dX3_settle_125 : decode cX3_settle 125 = .ok (.iload_n 3, 1) := by decide +kernel
theorem dX3_settle_126 : decode cX3_settle 126 = .ok (.invokevirtual 83, 3) := by decide +kernel
theorem dX3_settle_129 : decode cX3_settle 129 = .ok (.ifCond .eq 8, 3) := by decide +kernel
theorem dX3_settle_132 : decode cX3_settle 132 = .ok (.iload 4, 2) := by decide +kernel
theorem dX3_settle_134 : decode cX3_settle 134 = .ok (.goto 4, 3) := by decide +kernel
theorem dX3_settle_137 : decode cX3_settle 137 = .ok (.iload_n 3, 1) := by decide +kernel
theorem dX3_settle_138 : decode cX3_settle 138 = .ok (.istore_n 3, 1) := by decide +kernel
theorem dX3_settle_139 : decode cX3_settle 139 = .ok (.iinc 4 1, 3) := by decide +kernel
theorem dX3_settle_142 : decode cX3_settle 142 = .ok (.goto (-44), 3) := by decide +kernel
theorem dX3_settle_145 : decode cX3_settle 145 = .ok (.iload_n 3, 1) := by decide +kernel
theorem dX3_settle_146 : decode cX3_settle 146 = .ok (.iconst (-1), 1) := by decide +kernel
theorem dX3_settle_147 : decode cX3_settle 147 = .ok (.if_icmp .eq 7, 3) := by decide +kernel
theorem dX3_settle_150 : decode cX3_settle 150 = .ok (.iconst 1, 1) := by decide +kernel
theorem dX3_settle_151 : decode cX3_settle 151 = .ok (.goto 4, 3) := by decide +kernel
theorem dX3_settle_154 : decode cX3_settle 154 = .ok (.iconst 0, 1) := by decide +kernel
theorem dX3_settle_155 : decode cX3_settle 155 = .ok (.istore_n 2, 1) := by decide +kernel
theorem dX3_settle_156 : decode cX3_settle 156 = .ok (.iload_n 2, 1) := by decide +kernel
theorem dX3_settle_157 : decode cX3_settle 157 = .ok (.ifCond .eq 15, 3) := by decide +kernel
theorem dX3_settle_160 : decode cX3_settle 160 = .ok (.aload_n 0, 1) := by decide +kernel
theorem dX3_settle_161 : decode cX3_settle 161 = .ok (.getfield 47, 3) := by decide +kernel
theorem dX3_settle_164 : decode cX3_settle 164 = .ok (.iload_n 3, 1) := by decide +kernel
theorem dX3_settle_165 : decode cX3_settle 165 = .ok (.iconst 0, 1) := by decide +kernel
theorem dX3_settle_166 : decode cX3_settle 166 = .ok (.bastore, 1) := by decide +kernel
theorem dX3_settle_167 : decode cX3_settle 167 = .ok (.aload_n 0, 1) := by decide +kernel
theorem dX3_settle_168 : decode cX3_settle 168 = .ok (.iload_n 3, 1) := by decide +kernel
theorem dX3_settle_169 : decode cX3_settle 169 = .ok (.invokevirtual 116, 3) := by decide +kernel
theorem dX3_settle_172 : decode cX3_settle 172 = .ok (.goto (-83), 3) := by decide +kernel
theorem dX3_settle_175 : decode cX3_settle 175 = .ok (.return_, 1) := by decide +kernel
theorem dX3_take_0 : decode cX3_take 0 = .ok (.aload_n 0, 1) := by decide +kernel
theorem dX3_take_1 : decode cX3_take 1 = .ok (.getfield 22, 3) := by decide +kernel
theorem dX3_take_4 : decode cX3_take 4 = .ok (.iload_n 1, 1) := by decide +kernel
theorem dX3_take_5 : decode cX3_take 5 = .ok (.iaload, 1) := by decide +kernel
theorem dX3_take_6 : decode cX3_take 6 = .ok (.bipush 16, 2) := by decide +kernel
theorem dX3_take_8 : decode cX3_take 8 = .ok (.idiv, 1) := by decide +kernel
theorem dX3_take_9 : decode cX3_take 9 = .ok (.istore_n 2, 1) := by decide +kernel
theorem dX3_take_10 : decode cX3_take 10 = .ok (.aload_n 0, 1) := by decide +kernel
theorem dX3_take_11 : decode cX3_take 11 = .ok (.getfield 22, 3) := by decide +kernel
theorem dX3_take_14 : decode cX3_take 14 = .ok (.iload_n 1, 1) := by decide +kernel
theorem dX3_take_15 : decode cX3_take 15 = .ok (.iaload, 1) := by decide +kernel
theorem dX3_take_16 : decode cX3_take 16 = .ok (.bipush 16, 2) := by decide +kernel
theorem dX3_take_18 : decode cX3_take 18 = .ok (.irem, 1) := by decide +kernel
theorem dX3_take_19 : decode cX3_take 19 = .ok (.istore_n 3, 1) := by decide +kernel
theorem dX3_take_20 : decode cX3_take 20 = .ok (.aload_n 0, 1) := by decide +kernel
theorem dX3_take_21 : decode cX3_take 21 = .ok (.getfield 41, 3) := by decide +kernel
theorem dX3_take_24 : decode cX3_take 24 = .ok (.bipush 16, 2) := by decide +kernel
theorem dX3_take_26 : decode cX3_take 26 = .ok (.iload_n 3, 1) := by decide +kernel
theorem dX3_take_27 : decode cX3_take 27 = .ok (.imul, 1) := by decide +kernel
theorem dX3_take_28 : decode cX3_take 28 = .ok (.iload_n 2, 1) := by decide +kernel
theorem dX3_take_29 : decode cX3_take 29 = .ok (.iadd, 1) := by decide +kernel
theorem dX3_take_30 : decode cX3_take 30 = .ok (.baload, 1) := by decide +kernel
theorem dX3_take_31 : decode cX3_take 31 = .ok (.ifCond .eq 24, 3) := by decide +kernel
theorem dX3_take_34 : decode cX3_take 34 = .ok (.aload_n 0, 1) := by decide +kernel
theorem dX3_take_35 : decode cX3_take 35 = .ok (.getfield 44, 3) := by decide +kernel
theorem dX3_take_38 : decode cX3_take 38 = .ok (.aload_n 0, 1) := by decide +kernel
theorem dX3_take_39 : decode cX3_take 39 = .ok (.getfield 110, 3) := by decide +kernel
theorem dX3_take_42 : decode cX3_take 42 = .ok (.iload_n 1, 1) := by decide +kernel
theorem dX3_take_43 : decode cX3_take 43 = .ok (.iastore, 1) := by decide +kernel
theorem dX3_take_44 : decode cX3_take 44 = .ok (.aload_n 0, 1) := by decide +kernel
theorem dX3_take_45 : decode cX3_take 45 = .ok (.dup, 1) := by decide +kernel
theorem dX3_take_46 : decode cX3_take 46 = .ok (.getfield 110, 3) := by decide +kernel
theorem dX3_take_49 : decode cX3_take 49 = .ok (.iconst 1, 1) := by decide +kernel
theorem dX3_take_50 : decode cX3_take 50 = .ok (.iadd, 1) := by decide +kernel
theorem dX3_take_51 : decode cX3_take 51 = .ok (.putfield 110, 3) := by decide +kernel
theorem dX3_take_54 : decode cX3_take 54 = .ok (.return_, 1) := by decide +kernel
theorem dX3_take_55 : decode cX3_take 55 = .ok (.iconst 0, 1) := by decide +kernel
theorem dX3_take_56 : decode cX3_take 56 = .ok (.istore 4, 2) := by decide +kernel
theorem dX3_take_58 : decode cX3_take 58 = .ok (.iload 4, 2) := by decide +kernel
theorem dX3_take_60 : decode cX3_take 60 = .ok (.bipush 16, 2) := by decide +kernel
theorem dX3_take_62 : decode cX3_take 62 = .ok (.if_icmp .ge 125, 3) := by decide +kernel
theorem dX3_take_65 : decode cX3_take 65 = .ok (.iconst 0, 1) := by decide +kernel
theorem dX3_take_66 : decode cX3_take 66 = .ok (.istore 5, 2) := by decide +kernel
theorem dX3_take_68 : decode cX3_take 68 = .ok (.iload 5, 2) := by decide +kernel
theorem dX3_take_70 : decode cX3_take 70 = .ok (.bipush 16, 2) := by decide +kernel
theorem dX3_take_72 : decode cX3_take 72 = .ok (.if_icmp .ge 109, 3) := by decide +kernel
theorem dX3_take_75 : decode cX3_take 75 = .ok (.iload 4, 2) := by decide +kernel
theorem dX3_take_77 : decode cX3_take 77 = .ok (.iload_n 2, 1) := by decide +kernel
theorem dX3_take_78 : decode cX3_take 78 = .ok (.if_icmp .eq 18, 3) := by decide +kernel
theorem dX3_take_81 : decode cX3_take 81 = .ok (.aload_n 0, 1) := by decide +kernel
theorem dX3_take_82 : decode cX3_take 82 = .ok (.getfield 41, 3) := by decide +kernel
theorem dX3_take_85 : decode cX3_take 85 = .ok (.bipush 16, 2) := by decide +kernel
theorem dX3_take_87 : decode cX3_take 87 = .ok (.iload 4, 2) := by decide +kernel
theorem dX3_take_89 : decode cX3_take 89 = .ok (.imul, 1) := by decide +kernel
theorem dX3_take_90 : decode cX3_take 90 = .ok (.iload_n 2, 1) := by decide +kernel
theorem dX3_take_91 : decode cX3_take 91 = .ok (.iadd, 1) := by decide +kernel
theorem dX3_take_92 : decode cX3_take 92 = .ok (.baload, 1) := by decide +kernel
theorem dX3_take_93 : decode cX3_take 93 = .ok (.ifCond .eq 7, 3) := by decide +kernel
theorem dX3_take_96 : decode cX3_take 96 = .ok (.iconst 1, 1) := by decide +kernel
theorem dX3_take_97 : decode cX3_take 97 = .ok (.goto 4, 3) := by decide +kernel
theorem dX3_take_100 : decode cX3_take 100 = .ok (.iconst 0, 1) := by decide +kernel
theorem dX3_take_101 : decode cX3_take 101 = .ok (.istore 6, 2) := by decide +kernel
theorem dX3_take_103 : decode cX3_take 103 = .ok (.iload 5, 2) := by decide +kernel
theorem dX3_take_105 : decode cX3_take 105 = .ok (.iload_n 3, 1) := by decide +kernel
theorem dX3_take_106 : decode cX3_take 106 = .ok (.if_icmp .eq 18, 3) := by decide +kernel
theorem dX3_take_109 : decode cX3_take 109 = .ok (.aload_n 0, 1) := by decide +kernel
theorem dX3_take_110 : decode cX3_take 110 = .ok (.getfield 41, 3) := by decide +kernel
theorem dX3_take_113 : decode cX3_take 113 = .ok (.bipush 16, 2) := by decide +kernel
theorem dX3_take_115 : decode cX3_take 115 = .ok (.iload_n 3, 1) := by decide +kernel
theorem dX3_take_116 : decode cX3_take 116 = .ok (.imul, 1) := by decide +kernel
theorem dX3_take_117 : decode cX3_take 117 = .ok (.iload 5, 2) := by decide +kernel
theorem dX3_take_119 : decode cX3_take 119 = .ok (.iadd, 1) := by decide +kernel
theorem dX3_take_120 : decode cX3_take 120 = .ok (.baload, 1) := by decide +kernel
theorem dX3_take_121 : decode cX3_take 121 = .ok (.ifCond .eq 7, 3) := by decide +kernel
theorem dX3_take_124 : decode cX3_take 124 = .ok (.iconst 1, 1) := by decide +kernel
theorem dX3_take_125 : decode cX3_take 125 = .ok (.goto 4, 3) := by decide +kernel
theorem dX3_take_128 : decode cX3_take 128 = .ok (.iconst 0, 1) := by decide +kernel
theorem dX3_take_129 : decode cX3_take 129 = .ok (.istore 7, 2) := by decide +kernel
theorem dX3_take_131 : decode cX3_take 131 = .ok (.aload_n 0, 1) := by decide +kernel
theorem dX3_take_132 : decode cX3_take 132 = .ok (.getfield 41, 3) := by decide +kernel
theorem dX3_take_135 : decode cX3_take 135 = .ok (.bipush 16, 2) := by decide +kernel
theorem dX3_take_137 : decode cX3_take 137 = .ok (.iload 4, 2) := by decide +kernel
theorem dX3_take_139 : decode cX3_take 139 = .ok (.imul, 1) := by decide +kernel
theorem dX3_take_140 : decode cX3_take 140 = .ok (.iload 5, 2) := by decide +kernel
theorem dX3_take_142 : decode cX3_take 142 = .ok (.iadd, 1) := by decide +kernel
theorem dX3_take_143 : decode cX3_take 143 = .ok (.aload_n 0, 1) := by decide +kernel
theorem dX3_take_144 : decode cX3_take 144 = .ok (.getfield 41, 3) := by decide +kernel
theorem dX3_take_147 : decode cX3_take 147 = .ok (.bipush 16, 2) := by decide +kernel
theorem dX3_take_149 : decode cX3_take 149 = .ok (.iload 4, 2) := by decide +kernel
theorem dX3_take_151 : decode cX3_take 151 = .ok (.imul, 1) := by decide +kernel
theorem dX3_take_152 : decode cX3_take 152 = .ok (.iload 5, 2) := by decide +kernel
theorem dX3_take_154 : decode cX3_take 154 = .ok (.iadd, 1) := by decide +kernel
theorem dX3_take_155 : decode cX3_take 155 = .ok (.baload, 1) := by decide +kernel
theorem dX3_take_156 : decode cX3_take 156 = .ok (.ifCond .ne 13, 3) := by decide +kernel
theorem dX3_take_159 : decode cX3_take 159 = .ok (.iload 6, 2) := by decide +kernel
theorem dX3_take_161 : decode cX3_take 161 = .ok (.ifCond .eq 12, 3) := by decide +kernel
theorem dX3_take_164 : decode cX3_take 164 = .ok (.iload 7, 2) := by decide +kernel
theorem dX3_take_166 : decode cX3_take 166 = .ok (.ifCond .eq 7, 3) := by decide +kernel
theorem dX3_take_169 : decode cX3_take 169 = .ok (.iconst 1, 1) := by decide +kernel
theorem dX3_take_170 : decode cX3_take 170 = .ok (.goto 4, 3) := by decide +kernel
theorem dX3_take_173 : decode cX3_take 173 = .ok (.iconst 0, 1) := by decide +kernel
theorem dX3_take_174 : decode cX3_take 174 = .ok (.bastore, 1) := by decide +kernel
theorem dX3_take_175 : decode cX3_take 175 = .ok (.iinc 5 1, 3) := by decide +kernel
theorem dX3_take_178 : decode cX3_take 178 = .ok (.goto (-110), 3) := by decide +kernel
theorem dX3_take_181 : decode cX3_take 181 = .ok (.iinc 4 1, 3) := by decide +kernel
theorem dX3_take_184 : decode cX3_take 184 = .ok (.goto (-126), 3) := by decide +kernel
theorem dX3_take_187 : decode cX3_take 187 = .ok (.return_, 1) := by decide +kernel
theorem dX3_order_0 : decode cX3_order 0 = .ok (.aload_n 0, 1) := by decide +kernel
theorem dX3_order_1 : decode cX3_order 1 = .ok (.iload_n 1, 1) := by decide +kernel
theorem dX3_order_2 : decode cX3_order 2 = .ok (.invokestatic 54, 3) := by decide +kernel
theorem dX3_order_5 : decode cX3_order 5 = .ok (.ifCond .eq 21, 3) := by decide +kernel
theorem dX3_order_8 : decode cX3_order 8 = .ok (.iload_n 2, 1) := by decide +kernel
theorem dX3_order_9 : decode cX3_order 9 = .ok (.invokestatic 61, 3) := by decide +kernel
theorem dX3_order_12 : decode cX3_order 12 = .ok (.ifCond .eq 14, 3) := by decide +kernel
theorem dX3_order_15 : decode cX3_order 15 = .ok (.iload_n 3, 1) := by decide +kernel
theorem dX3_order_16 : decode cX3_order 16 = .ok (.invokestatic 61, 3) := by decide +kernel
theorem dX3_order_19 : decode cX3_order 19 = .ok (.ifCond .eq 7, 3) := by decide +kernel
theorem dX3_order_22 : decode cX3_order 22 = .ok (.iconst 1, 1) := by decide +kernel
theorem dX3_order_23 : decode cX3_order 23 = .ok (.goto 4, 3) := by decide +kernel
theorem dX3_order_26 : decode cX3_order 26 = .ok (.iconst 0, 1) := by decide +kernel
theorem dX3_order_27 : decode cX3_order 27 = .ok (.iconst 1, 1) := by decide +kernel
theorem dX3_order_28 : decode cX3_order 28 = .ok (.iconst 1, 1) := by decide +kernel
theorem dX3_order_29 : decode cX3_order 29 = .ok (.invokevirtual 68, 3) := by decide +kernel
theorem dX3_order_32 : decode cX3_order 32 = .ok (.ifCond .ne 5, 3) := by decide +kernel
theorem dX3_order_35 : decode cX3_order 35 = .ok (.iconst 0, 1) := by decide +kernel
theorem dX3_order_36 : decode cX3_order 36 = .ok (.ireturn, 1) := by decide +kernel
theorem dX3_order_37 : decode cX3_order 37 = .ok (.aload_n 0, 1) := by decide +kernel
theorem dX3_order_38 : decode cX3_order 38 = .ok (.iload_n 1, 1) := by decide +kernel
theorem dX3_order_39 : decode cX3_order 39 = .ok (.invokevirtual 120, 3) := by decide +kernel
theorem dX3_order_42 : decode cX3_order 42 = .ok (.aload_n 0, 1) := by decide +kernel
theorem dX3_order_43 : decode cX3_order 43 = .ok (.getfield 41, 3) := by decide +kernel
theorem dX3_order_46 : decode cX3_order 46 = .ok (.bipush 16, 2) := by decide +kernel
theorem dX3_order_48 : decode cX3_order 48 = .ok (.iload_n 2, 1) := by decide +kernel
theorem dX3_order_49 : decode cX3_order 49 = .ok (.imul, 1) := by decide +kernel
theorem dX3_order_50 : decode cX3_order 50 = .ok (.iload_n 3, 1) := by decide +kernel
theorem dX3_order_51 : decode cX3_order 51 = .ok (.iadd, 1) := by decide +kernel
theorem dX3_order_52 : decode cX3_order 52 = .ok (.baload, 1) := by decide +kernel
theorem dX3_order_53 : decode cX3_order 53 = .ok (.ifCond .eq 7, 3) := by decide +kernel
theorem dX3_order_56 : decode cX3_order 56 = .ok (.iconst 1, 1) := by decide +kernel
theorem dX3_order_57 : decode cX3_order 57 = .ok (.goto 22, 3) := by decide +kernel
theorem dX3_order_60 : decode cX3_order 60 = .ok (.aload_n 0, 1) := by decide +kernel
theorem dX3_order_61 : decode cX3_order 61 = .ok (.getfield 41, 3) := by decide +kernel
theorem dX3_order_64 : decode cX3_order 64 = .ok (.bipush 16, 2) := by decide +kernel
theorem dX3_order_66 : decode cX3_order 66 = .ok (.iload_n 3, 1) := by decide +kernel
theorem dX3_order_67 : decode cX3_order 67 = .ok (.imul, 1) := by decide +kernel
theorem dX3_order_68 : decode cX3_order 68 = .ok (.iload_n 2, 1) := by decide +kernel
theorem dX3_order_69 : decode cX3_order 69 = .ok (.iadd, 1) := by decide +kernel
theorem dX3_order_70 : decode cX3_order 70 = .ok (.baload, 1) := by decide +kernel
theorem dX3_order_71 : decode cX3_order 71 = .ok (.ifCond .eq 7, 3) := by decide +kernel
theorem dX3_order_74 : decode cX3_order 74 = .ok (.iconst (-1), 1) := by decide +kernel
theorem dX3_order_75 : decode cX3_order 75 = .ok (.goto 4, 3) := by decide +kernel
theorem dX3_order_78 : decode cX3_order 78 = .ok (.iconst 0, 1) := by decide +kernel
theorem dX3_order_79 : decode cX3_order 79 = .ok (.ireturn, 1) := by decide +kernel
theorem dX3_open_0 : decode cX3_open 0 = .ok (.aload_n 0, 1) := by decide +kernel
theorem dX3_open_1 : decode cX3_open 1 = .ok (.iload_n 1, 1) := by decide +kernel
theorem dX3_open_2 : decode cX3_open 2 = .ok (.invokestatic 54, 3) := by decide +kernel
theorem dX3_open_5 : decode cX3_open 5 = .ok (.ifCond .eq 11, 3) := by decide +kernel
theorem dX3_open_8 : decode cX3_open 8 = .ok (.iload_n 2, 1) := by decide +kernel
theorem dX3_open_9 : decode cX3_open 9 = .ok (.ifCond .lt 7, 3) := by decide +kernel
theorem dX3_open_12 : decode cX3_open 12 = .ok (.iconst 1, 1) := by decide +kernel
theorem dX3_open_13 : decode cX3_open 13 = .ok (.goto 4, 3) := by decide +kernel
theorem dX3_open_16 : decode cX3_open 16 = .ok (.iconst 0, 1) := by decide +kernel
theorem dX3_open_17 : decode cX3_open 17 = .ok (.iconst 1, 1) := by decide +kernel
theorem dX3_open_18 : decode cX3_open 18 = .ok (.iconst 1, 1) := by decide +kernel
theorem dX3_open_19 : decode cX3_open 19 = .ok (.invokevirtual 68, 3) := by decide +kernel
theorem dX3_open_22 : decode cX3_open 22 = .ok (.ifCond .ne 5, 3) := by decide +kernel
theorem dX3_open_25 : decode cX3_open 25 = .ok (.iconst 0, 1) := by decide +kernel
theorem dX3_open_26 : decode cX3_open 26 = .ok (.ireturn, 1) := by decide +kernel
theorem dX3_open_27 : decode cX3_open 27 = .ok (.aload_n 0, 1) := by decide +kernel
theorem dX3_open_28 : decode cX3_open 28 = .ok (.iload_n 1, 1) := by decide +kernel
theorem dX3_open_29 : decode cX3_open 29 = .ok (.invokevirtual 120, 3) := by decide +kernel
theorem dX3_open_32 : decode cX3_open 32 = .ok (.iload_n 2, 1) := by decide +kernel
theorem dX3_open_33 : decode cX3_open 33 = .ok (.aload_n 0, 1) := by decide +kernel
theorem dX3_open_34 : decode cX3_open 34 = .ok (.getfield 110, 3) := by decide +kernel
theorem dX3_open_37 : decode cX3_open 37 = .ok (.if_icmp .ge 12, 3) := by decide +kernel
theorem dX3_open_40 : decode cX3_open 40 = .ok (.aload_n 0, 1) := by decide +kernel
theorem dX3_open_41 : decode cX3_open 41 = .ok (.getfield 44, 3) := by decide +kernel
theorem dX3_open_44 : decode cX3_open 44 = .ok (.iload_n 2, 1) := by decide +kernel
theorem dX3_open_45 : decode cX3_open 45 = .ok (.iaload, 1) := by decide +kernel
theorem dX3_open_46 : decode cX3_open 46 = .ok (.goto 4, 3) := by decide +kernel
theorem dX3_open_49 : decode cX3_open 49 = .ok (.iconst (-1), 1) := by decide +kernel
theorem dX3_open_50 : decode cX3_open 50 = .ok (.ireturn, 1) := by decide +kernel
theorem dX3_knows_0 : decode cX3_knows 0 = .ok (.aload_n 0, 1) := by decide +kernel
theorem dX3_knows_1 : decode cX3_knows 1 = .ok (.iload_n 1, 1) := by decide +kernel
theorem dX3_knows_2 : decode cX3_knows 2 = .ok (.invokestatic 54, 3) := by decide +kernel
theorem dX3_knows_5 : decode cX3_knows 5 = .ok (.ifCond .eq 19, 3) := by decide +kernel
theorem dX3_knows_8 : decode cX3_knows 8 = .ok (.iload_n 2, 1) := by decide +kernel
theorem dX3_knows_9 : decode cX3_knows 9 = .ok (.ifCond .lt 15, 3) := by decide +kernel
theorem dX3_knows_12 : decode cX3_knows 12 = .ok (.iload_n 2, 1) := by decide +kernel
theorem dX3_knows_13 : decode cX3_knows 13 = .ok (.aload_n 0, 1) := by decide +kernel
theorem dX3_knows_14 : decode cX3_knows 14 = .ok (.getfield 58, 3) := by decide +kernel
theorem dX3_knows_17 : decode cX3_knows 17 = .ok (.if_icmp .ge 7, 3) := by decide +kernel
theorem dX3_knows_20 : decode cX3_knows 20 = .ok (.iconst 1, 1) := by decide +kernel
theorem dX3_knows_21 : decode cX3_knows 21 = .ok (.goto 4, 3) := by decide +kernel
theorem dX3_knows_24 : decode cX3_knows 24 = .ok (.iconst 0, 1) := by decide +kernel
theorem dX3_knows_25 : decode cX3_knows 25 = .ok (.iconst 1, 1) := by decide +kernel
theorem dX3_knows_26 : decode cX3_knows 26 = .ok (.iconst 1, 1) := by decide +kernel
theorem dX3_knows_27 : decode cX3_knows 27 = .ok (.invokevirtual 68, 3) := by decide +kernel
theorem dX3_knows_30 : decode cX3_knows 30 = .ok (.ifCond .eq 21, 3) := by decide +kernel
theorem dX3_knows_33 : decode cX3_knows 33 = .ok (.aload_n 0, 1) := by decide +kernel
theorem dX3_knows_34 : decode cX3_knows 34 = .ok (.getfield 32, 3) := by decide +kernel
theorem dX3_knows_37 : decode cX3_knows 37 = .ok (.bipush 120, 2) := by decide +kernel
theorem dX3_knows_39 : decode cX3_knows 39 = .ok (.iload_n 1, 1) := by decide +kernel
theorem dX3_knows_40 : decode cX3_knows 40 = .ok (.imul, 1) := by decide +kernel
theorem dX3_knows_41 : decode cX3_knows 41 = .ok (.iload_n 2, 1) := by decide +kernel
theorem dX3_knows_42 : decode cX3_knows 42 = .ok (.iadd, 1) := by decide +kernel
theorem dX3_knows_43 : decode cX3_knows 43 = .ok (.baload, 1) := by decide +kernel
theorem dX3_knows_44 : decode cX3_knows 44 = .ok (.ifCond .eq 7, 3) := by decide +kernel
theorem dX3_knows_47 : decode cX3_knows 47 = .ok (.iconst 1, 1) := by decide +kernel
theorem dX3_knows_48 : decode cX3_knows 48 = .ok (.goto 4, 3) := by decide +kernel
theorem dX3_knows_51 : decode cX3_knows 51 = .ok (.iconst 0, 1) := by decide +kernel
theorem dX3_knows_52 : decode cX3_knows 52 = .ok (.ireturn, 1) := by decide +kernel
theorem dX3_equal_0 : decode cX3_equal 0 = .ok (.aload_n 0, 1) := by decide +kernel
theorem dX3_equal_1 : decode cX3_equal 1 = .ok (.iload_n 1, 1) := by decide +kernel
theorem dX3_equal_2 : decode cX3_equal 2 = .ok (.invokestatic 54, 3) := by decide +kernel
theorem dX3_equal_5 : decode cX3_equal 5 = .ok (.ifCond .eq 14, 3) := by decide +kernel
theorem dX3_equal_8 : decode cX3_equal 8 = .ok (.iload_n 2, 1) := by decide +kernel
theorem dX3_equal_9 : decode cX3_equal 9 = .ok (.invokestatic 54, 3) := by decide +kernel
theorem dX3_equal_12 : decode cX3_equal 12 = .ok (.ifCond .eq 7, 3) := by decide +kernel
theorem dX3_equal_15 : decode cX3_equal 15 = .ok (.iconst 1, 1) := by decide +kernel
theorem dX3_equal_16 : decode cX3_equal 16 = .ok (.goto 4, 3) := by decide +kernel
theorem dX3_equal_19 : decode cX3_equal 19 = .ok (.iconst 0, 1) := by decide +kernel
theorem dX3_equal_20 : decode cX3_equal 20 = .ok (.iconst 1, 1) := by decide +kernel
theorem dX3_equal_21 : decode cX3_equal 21 = .ok (.iconst 1, 1) := by decide +kernel
theorem dX3_equal_22 : decode cX3_equal 22 = .ok (.invokevirtual 68, 3) := by decide +kernel
theorem dX3_equal_25 : decode cX3_equal 25 = .ok (.ifCond .ne 5, 3) := by decide +kernel
theorem dX3_equal_28 : decode cX3_equal 28 = .ok (.iconst 0, 1) := by decide +kernel
theorem dX3_equal_29 : decode cX3_equal 29 = .ok (.ireturn, 1) := by decide +kernel
theorem dX3_equal_30 : decode cX3_equal 30 = .ok (.iconst 1, 1) := by decide +kernel
theorem dX3_equal_31 : decode cX3_equal 31 = .ok (.istore_n 3, 1) := by decide +kernel
theorem dX3_equal_32 : decode cX3_equal 32 = .ok (.iconst 0, 1) := by decide +kernel
theorem dX3_equal_33 : decode cX3_equal 33 = .ok (.istore 4, 2) := by decide +kernel
theorem dX3_equal_35 : decode cX3_equal 35 = .ok (.iload 4, 2) := by decide +kernel
theorem dX3_equal_37 : decode cX3_equal 37 = .ok (.aload_n 0, 1) := by decide +kernel
theorem dX3_equal_38 : decode cX3_equal 38 = .ok (.getfield 58, 3) := by decide +kernel
theorem dX3_equal_41 : decode cX3_equal 41 = .ok (.if_icmp .ge 46, 3) := by decide +kernel
theorem dX3_equal_44 : decode cX3_equal 44 = .ok (.iload_n 3, 1) := by decide +kernel
theorem dX3_equal_45 : decode cX3_equal 45 = .ok (.ifCond .eq 34, 3) := by decide +kernel
theorem dX3_equal_48 : decode cX3_equal 48 = .ok (.aload_n 0, 1) := by decide +kernel
theorem dX3_equal_49 : decode cX3_equal 49 = .ok (.getfield 32, 3) := by decide +kernel
theorem dX3_equal_52 : decode cX3_equal 52 = .ok (.bipush 120, 2) := by decide +kernel
theorem dX3_equal_54 : decode cX3_equal 54 = .ok (.iload_n 1, 1) := by decide +kernel
theorem dX3_equal_55 : decode cX3_equal 55 = .ok (.imul, 1) := by decide +kernel
theorem dX3_equal_56 : decode cX3_equal 56 = .ok (.iload 4, 2) := by decide +kernel
theorem dX3_equal_58 : decode cX3_equal 58 = .ok (.iadd, 1) := by decide +kernel
theorem dX3_equal_59 : decode cX3_equal 59 = .ok (.baload, 1) := by decide +kernel
theorem dX3_equal_60 : decode cX3_equal 60 = .ok (.aload_n 0, 1) := by decide +kernel
theorem dX3_equal_61 : decode cX3_equal 61 = .ok (.getfield 32, 3) := by decide +kernel
theorem dX3_equal_64 : decode cX3_equal 64 = .ok (.bipush 120, 2) := by decide +kernel
theorem dX3_equal_66 : decode cX3_equal 66 = .ok (.iload_n 2, 1) := by decide +kernel
theorem dX3_equal_67 : decode cX3_equal 67 = .ok (.imul, 1) := by decide +kernel
theorem dX3_equal_68 : decode cX3_equal 68 = .ok (.iload 4, 2) := by decide +kernel
theorem dX3_equal_70 : decode cX3_equal 70 = .ok (.iadd, 1) := by decide +kernel
theorem dX3_equal_71 : decode cX3_equal 71 = .ok (.baload, 1) := by decide +kernel
theorem dX3_equal_72 : decode cX3_equal 72 = .ok (.if_icmp .ne 7, 3) := by decide +kernel
theorem dX3_equal_75 : decode cX3_equal 75 = .ok (.iconst 1, 1) := by decide +kernel
theorem dX3_equal_76 : decode cX3_equal 76 = .ok (.goto 4, 3) := by decide +kernel
theorem dX3_equal_79 : decode cX3_equal 79 = .ok (.iconst 0, 1) := by decide +kernel
theorem dX3_equal_80 : decode cX3_equal 80 = .ok (.istore_n 3, 1) := by decide +kernel
theorem dX3_equal_81 : decode cX3_equal 81 = .ok (.iinc 4 1, 3) := by decide +kernel
theorem dX3_equal_84 : decode cX3_equal 84 = .ok (.goto (-49), 3) := by decide +kernel
theorem dX3_equal_87 : decode cX3_equal 87 = .ok (.iload_n 3, 1) := by decide +kernel
theorem dX3_equal_88 : decode cX3_equal 88 = .ok (.ireturn, 1) := by decide +kernel
theorem dX3_isCommon_0 : decode cX3_isCommon 0 = .ok (.iconst 1, 1) := by decide +kernel
theorem dX3_isCommon_1 : decode cX3_isCommon 1 = .ok (.istore_n 2, 1) := by decide +kernel
theorem dX3_isCommon_2 : decode cX3_isCommon 2 = .ok (.iconst 0, 1) := by decide +kernel
theorem dX3_isCommon_3 : decode cX3_isCommon 3 = .ok (.istore_n 3, 1) := by decide +kernel
theorem dX3_isCommon_4 : decode cX3_isCommon 4 = .ok (.iload_n 3, 1) := by decide +kernel
theorem dX3_isCommon_5 : decode cX3_isCommon 5 = .ok (.bipush 6, 2) := by decide +kernel
theorem dX3_isCommon_7 : decode cX3_isCommon 7 = .ok (.if_icmp .ge 33, 3) := by decide +kernel
theorem dX3_isCommon_10 : decode cX3_isCommon 10 = .ok (.iload_n 2, 1) := by decide +kernel
theorem dX3_isCommon_11 : decode cX3_isCommon 11 = .ok (.ifCond .eq 21, 3) := by decide +kernel
theorem dX3_isCommon_14 : decode cX3_isCommon 14 = .ok (.aload_n 0, 1) := by decide +kernel
theorem dX3_isCommon_15 : decode cX3_isCommon 15 = .ok (.getfield 32, 3) := by decide +kernel
theorem dX3_isCommon_18 : decode cX3_isCommon 18 = .ok (.bipush 120, 2) := by decide +kernel
theorem dX3_isCommon_20 : decode cX3_isCommon 20 = .ok (.iload_n 3, 1) := by decide +kernel
theorem dX3_isCommon_21 : decode cX3_isCommon 21 = .ok (.imul, 1) := by decide +kernel
theorem dX3_isCommon_22 : decode cX3_isCommon 22 = .ok (.iload_n 1, 1) := by decide +kernel
theorem dX3_isCommon_23 : decode cX3_isCommon 23 = .ok (.iadd, 1) := by decide +kernel
theorem dX3_isCommon_24 : decode cX3_isCommon 24 = .ok (.baload, 1) := by decide +kernel
theorem dX3_isCommon_25 : decode cX3_isCommon 25 = .ok (.ifCond .eq 7, 3) := by decide +kernel
theorem dX3_isCommon_28 : decode cX3_isCommon 28 = .ok (.iconst 1, 1) := by decide +kernel
theorem dX3_isCommon_29 : decode cX3_isCommon 29 = .ok (.goto 4, 3) := by decide +kernel
theorem dX3_isCommon_32 : decode cX3_isCommon 32 = .ok (.iconst 0, 1) := by decide +kernel
theorem dX3_isCommon_33 : decode cX3_isCommon 33 = .ok (.istore_n 2, 1) := by decide +kernel
theorem dX3_isCommon_34 : decode cX3_isCommon 34 = .ok (.iinc 3 1, 3) := by decide +kernel
theorem dX3_isCommon_37 : decode cX3_isCommon 37 = .ok (.goto (-33), 3) := by decide +kernel
theorem dX3_isCommon_40 : decode cX3_isCommon 40 = .ok (.iload_n 2, 1) := by decide +kernel
theorem dX3_isCommon_41 : decode cX3_isCommon 41 = .ok (.ireturn, 1) := by decide +kernel
theorem dX3_isPast_0 : decode cX3_isPast 0 = .ok (.iconst 0, 1) := by decide +kernel
theorem dX3_isPast_1 : decode cX3_isPast 1 = .ok (.istore_n 2, 1) := by decide +kernel
theorem dX3_isPast_2 : decode cX3_isPast 2 = .ok (.iconst 0, 1) := by decide +kernel
theorem dX3_isPast_3 : decode cX3_isPast 3 = .ok (.istore_n 3, 1) := by decide +kernel
theorem dX3_isPast_4 : decode cX3_isPast 4 = .ok (.iload_n 3, 1) := by decide +kernel
theorem dX3_isPast_5 : decode cX3_isPast 5 = .ok (.aload_n 0, 1) := by decide +kernel
theorem dX3_isPast_6 : decode cX3_isPast 6 = .ok (.getfield 58, 3) := by decide +kernel
theorem dX3_isPast_9 : decode cX3_isPast 9 = .ok (.if_icmp .ge 52, 3) := by decide +kernel
theorem dX3_isPast_12 : decode cX3_isPast 12 = .ok (.iload_n 2, 1) := by decide +kernel
theorem dX3_isPast_13 : decode cX3_isPast 13 = .ok (.ifCond .ne 36, 3) := by decide +kernel
theorem dX3_isPast_16 : decode cX3_isPast 16 = .ok (.aload_n 0, 1) := by decide +kernel
theorem dX3_isPast_17 : decode cX3_isPast 17 = .ok (.iconst 0, 1) := by decide +kernel
theorem dX3_isPast_18 : decode cX3_isPast 18 = .ok (.iload_n 3, 1) := by decide +kernel
theorem dX3_isPast_19 : decode cX3_isPast 19 = .ok (.aload_n 0, 1) := by decide +kernel
theorem dX3_isPast_20 : decode cX3_isPast 20 = .ok (.getfield 19, 3) := by decide +kernel
theorem dX3_isPast_23 : decode cX3_isPast 23 = .ok (.iload_n 1, 1) := by decide +kernel
theorem dX3_isPast_24 : decode cX3_isPast 24 = .ok (.iaload, 1) := by decide +kernel
theorem dX3_isPast_25 : decode cX3_isPast 25 = .ok (.iconst 0, 1) := by decide +kernel
theorem dX3_isPast_26 : decode cX3_isPast 26 = .ok (.invokevirtual 79, 3) := by decide +kernel
theorem dX3_isPast_29 : decode cX3_isPast 29 = .ok (.ifCond .eq 24, 3) := by decide +kernel
theorem dX3_isPast_32 : decode cX3_isPast 32 = .ok (.aload_n 0, 1) := by decide +kernel
theorem dX3_isPast_33 : decode cX3_isPast 33 = .ok (.iload_n 1, 1) := by decide +kernel
theorem dX3_isPast_34 : decode cX3_isPast 34 = .ok (.iload_n 3, 1) := by decide +kernel
theorem dX3_isPast_35 : decode cX3_isPast 35 = .ok (.invokevirtual 83, 3) := by decide +kernel
theorem dX3_isPast_38 : decode cX3_isPast 38 = .ok (.ifCond .eq 15, 3) := by decide +kernel
theorem dX3_isPast_41 : decode cX3_isPast 41 = .ok (.aload_n 0, 1) := by decide +kernel
theorem dX3_isPast_42 : decode cX3_isPast 42 = .ok (.iload_n 3, 1) := by decide +kernel
theorem dX3_isPast_43 : decode cX3_isPast 43 = .ok (.invokevirtual 123, 3) := by decide +kernel
theorem dX3_isPast_46 : decode cX3_isPast 46 = .ok (.ifCond .eq 7, 3) := by decide +kernel
theorem dX3_isPast_49 : decode cX3_isPast 49 = .ok (.iconst 1, 1) := by decide +kernel
theorem dX3_isPast_50 : decode cX3_isPast 50 = .ok (.goto 4, 3) := by decide +kernel
theorem dX3_isPast_53 : decode cX3_isPast 53 = .ok (.iconst 0, 1) := by decide +kernel
theorem dX3_isPast_54 : decode cX3_isPast 54 = .ok (.istore_n 2, 1) := by decide +kernel
theorem dX3_isPast_55 : decode cX3_isPast 55 = .ok (.iinc 3 1, 3) := by decide +kernel
theorem dX3_isPast_58 : decode cX3_isPast 58 = .ok (.goto (-54), 3) := by decide +kernel
theorem dX3_isPast_61 : decode cX3_isPast 61 = .ok (.iload_n 2, 1) := by decide +kernel
theorem dX3_isPast_62 : decode cX3_isPast 62 = .ok (.ifCond .eq 15, 3) := by decide +kernel
theorem dX3_isPast_65 : decode cX3_isPast 65 = .ok (.aload_n 0, 1) := by decide +kernel
theorem dX3_isPast_66 : decode cX3_isPast 66 = .ok (.iload_n 1, 1) := by decide +kernel
theorem dX3_isPast_67 : decode cX3_isPast 67 = .ok (.invokevirtual 123, 3) := by decide +kernel
theorem dX3_isPast_70 : decode cX3_isPast 70 = .ok (.ifCond .eq 7, 3) := by decide +kernel
theorem dX3_isPast_73 : decode cX3_isPast 73 = .ok (.iconst 1, 1) := by decide +kernel
theorem dX3_isPast_74 : decode cX3_isPast 74 = .ok (.goto 4, 3) := by decide +kernel
theorem dX3_isPast_77 : decode cX3_isPast 77 = .ok (.iconst 0, 1) := by decide +kernel
theorem dX3_isPast_78 : decode cX3_isPast 78 = .ok (.ireturn, 1) := by decide +kernel
theorem dX3_compact_0 : decode cX3_compact 0 = .ok (.aload_n 0, 1) := by decide +kernel
theorem dX3_compact_1 : decode cX3_compact 1 = .ok (.iconst 0, 1) := by decide +kernel
theorem dX3_compact_2 : decode cX3_compact 2 = .ok (.putfield 50, 3) := by decide +kernel
theorem dX3_compact_5 : decode cX3_compact 5 = .ok (.iconst 0, 1) := by decide +kernel
theorem dX3_compact_6 : decode cX3_compact 6 = .ok (.istore_n 1, 1) := by decide +kernel
theorem dX3_compact_7 : decode cX3_compact 7 = .ok (.iconst 0, 1) := by decide +kernel
theorem dX3_compact_8 : decode cX3_compact 8 = .ok (.istore_n 2, 1) := by decide +kernel
theorem dX3_compact_9 : decode cX3_compact 9 = .ok (.iload_n 2, 1) := by decide +kernel
theorem dX3_compact_10 : decode cX3_compact 10 = .ok (.aload_n 0, 1) := by decide +kernel
theorem dX3_compact_11 : decode cX3_compact 11 = .ok (.getfield 58, 3) := by decide +kernel
theorem dX3_compact_14 : decode cX3_compact 14 = .ok (.if_icmp .ge 54, 3) := by decide +kernel
theorem dX3_compact_17 : decode cX3_compact 17 = .ok (.aload_n 0, 1) := by decide +kernel
theorem dX3_compact_18 : decode cX3_compact 18 = .ok (.getfield 47, 3) := by decide +kernel
theorem dX3_compact_21 : decode cX3_compact 21 = .ok (.iload_n 2, 1) := by decide +kernel
theorem dX3_compact_22 : decode cX3_compact 22 = .ok (.aload_n 0, 1) := by decide +kernel
theorem dX3_compact_23 : decode cX3_compact 23 = .ok (.getfield 16, 3) := by decide +kernel
theorem dX3_compact_26 : decode cX3_compact 26 = .ok (.iload_n 2, 1) := by decide +kernel
theorem dX3_compact_27 : decode cX3_compact 27 = .ok (.iaload, 1) := by decide +kernel
theorem dX3_compact_28 : decode cX3_compact 28 = .ok (.ifCond .ne 15, 3) := by decide +kernel
theorem dX3_compact_31 : decode cX3_compact 31 = .ok (.aload_n 0, 1) := by decide +kernel
theorem dX3_compact_32 : decode cX3_compact 32 = .ok (.iload_n 2, 1) := by decide +kernel
theorem dX3_compact_33 : decode cX3_compact 33 = .ok (.invokevirtual 126, 3) := by decide +kernel
theorem dX3_compact_36 : decode cX3_compact 36 = .ok (.ifCond .eq 7, 3) := by decide +kernel
theorem dX3_compact_39 : decode cX3_compact 39 = .ok (.iconst 1, 1) := by decide +kernel
theorem dX3_compact_40 : decode cX3_compact 40 = .ok (.goto 4, 3) := by decide +kernel
theorem dX3_compact_43 : decode cX3_compact 43 = .ok (.iconst 0, 1) := by decide +kernel
theorem dX3_compact_44 : decode cX3_compact 44 = .ok (.bastore, 1) := by decide +kernel
theorem dX3_compact_45 : decode cX3_compact 45 = .ok (.aload_n 0, 1) := by decide +kernel
theorem dX3_compact_46 : decode cX3_compact 46 = .ok (.getfield 47, 3) := by decide +kernel
theorem dX3_compact_49 : decode cX3_compact 49 = .ok (.iload_n 2, 1) := by decide +kernel
theorem dX3_compact_50 : decode cX3_compact 50 = .ok (.baload, 1) := by decide +kernel
theorem dX3_compact_51 : decode cX3_compact 51 = .ok (.ifCond .eq 9, 3) := by decide +kernel
theorem dX3_compact_54 : decode cX3_compact 54 = .ok (.iload_n 1, 1) := by decide +kernel
theorem dX3_compact_55 : decode cX3_compact 55 = .ok (.iconst 1, 1) := by decide +kernel
theorem dX3_compact_56 : decode cX3_compact 56 = .ok (.iadd, 1) := by decide +kernel
theorem dX3_compact_57 : decode cX3_compact 57 = .ok (.goto 4, 3) := by decide +kernel
theorem dX3_compact_60 : decode cX3_compact 60 = .ok (.iload_n 1, 1) := by decide +kernel
theorem dX3_compact_61 : decode cX3_compact 61 = .ok (.istore_n 1, 1) := by decide +kernel
theorem dX3_compact_62 : decode cX3_compact 62 = .ok (.iinc 2 1, 3) := by decide +kernel
theorem dX3_compact_65 : decode cX3_compact 65 = .ok (.goto (-56), 3) := by decide +kernel
theorem dX3_compact_68 : decode cX3_compact 68 = .ok (.iconst 0, 1) := by decide +kernel
theorem dX3_compact_69 : decode cX3_compact 69 = .ok (.istore_n 2, 1) := by decide +kernel
theorem dX3_compact_70 : decode cX3_compact 70 = .ok (.iload_n 2, 1) := by decide +kernel
theorem dX3_compact_71 : decode cX3_compact 71 = .ok (.aload_n 0, 1) := by decide +kernel
theorem dX3_compact_72 : decode cX3_compact 72 = .ok (.getfield 58, 3) := by decide +kernel
theorem dX3_compact_75 : decode cX3_compact 75 = .ok (.if_icmp .ge 91, 3) := by decide +kernel
theorem dX3_compact_78 : decode cX3_compact 78 = .ok (.aload_n 0, 1) := by decide +kernel
theorem dX3_compact_79 : decode cX3_compact 79 = .ok (.getfield 28, 3) := by decide +kernel
theorem dX3_compact_82 : decode cX3_compact 82 = .ok (.iload_n 2, 1) := by decide +kernel
theorem dX3_compact_83 : decode cX3_compact 83 = .ok (.aload_n 0, 1) := by decide +kernel
theorem dX3_compact_84 : decode cX3_compact 84 = .ok (.getfield 28, 3) := by decide +kernel
theorem dX3_compact_87 : decode cX3_compact 87 = .ok (.iload_n 2, 1) := by decide +kernel
theorem dX3_compact_88 : decode cX3_compact 88 = .ok (.baload, 1) := by decide +kernel
theorem dX3_compact_89 : decode cX3_compact 89 = .ok (.ifCond .ne 12, 3) := by decide +kernel
theorem dX3_compact_92 : decode cX3_compact 92 = .ok (.aload_n 0, 1) := by decide +kernel
theorem dX3_compact_93 : decode cX3_compact 93 = .ok (.getfield 47, 3) := by decide +kernel
theorem dX3_compact_96 : decode cX3_compact 96 = .ok (.iload_n 2, 1) := by decide +kernel
theorem dX3_compact_97 : decode cX3_compact 97 = .ok (.baload, 1) := by decide +kernel
theorem dX3_compact_98 : decode cX3_compact 98 = .ok (.ifCond .eq 7, 3) := by decide +kernel
theorem dX3_compact_101 : decode cX3_compact 101 = .ok (.iconst 1, 1) := by decide +kernel
theorem dX3_compact_102 : decode cX3_compact 102 = .ok (.goto 4, 3) := by decide +kernel
theorem dX3_compact_105 : decode cX3_compact 105 = .ok (.iconst 0, 1) := by decide +kernel
theorem dX3_compact_106 : decode cX3_compact 106 = .ok (.bastore, 1) := by decide +kernel
theorem dX3_compact_107 : decode cX3_compact 107 = .ok (.iconst 0, 1) := by decide +kernel
theorem dX3_compact_108 : decode cX3_compact 108 = .ok (.istore_n 3, 1) := by decide +kernel
theorem dX3_compact_109 : decode cX3_compact 109 = .ok (.iload_n 3, 1) := by decide +kernel
theorem dX3_compact_110 : decode cX3_compact 110 = .ok (.bipush 6, 2) := by decide +kernel
theorem dX3_compact_112 : decode cX3_compact 112 = .ok (.if_icmp .ge 48, 3) := by decide +kernel
theorem dX3_compact_115 : decode cX3_compact 115 = .ok (.aload_n 0, 1) := by decide +kernel
theorem dX3_compact_116 : decode cX3_compact 116 = .ok (.getfield 32, 3) := by decide +kernel
theorem dX3_compact_119 : decode cX3_compact 119 = .ok (.bipush 120, 2) := by decide +kernel
theorem dX3_compact_121 : decode cX3_compact 121 = .ok (.iload_n 3, 1) := by decide +kernel
theorem dX3_compact_122 : decode cX3_compact 122 = .ok (.imul, 1) := by decide +kernel
theorem dX3_compact_123 : decode cX3_compact 123 = .ok (.iload_n 2, 1) := by decide +kernel
theorem dX3_compact_124 : decode cX3_compact 124 = .ok (.iadd, 1) := by decide +kernel
theorem dX3_compact_125 : decode cX3_compact 125 = .ok (.aload_n 0, 1) := by decide +kernel
theorem dX3_compact_126 : decode cX3_compact 126 = .ok (.getfield 32, 3) := by decide +kernel
theorem dX3_compact_129 : decode cX3_compact 129 = .ok (.bipush 120, 2) := by decide +kernel
theorem dX3_compact_131 : decode cX3_compact 131 = .ok (.iload_n 3, 1) := by decide +kernel
theorem dX3_compact_132 : decode cX3_compact 132 = .ok (.imul, 1) := by decide +kernel
theorem dX3_compact_133 : decode cX3_compact 133 = .ok (.iload_n 2, 1) := by decide +kernel
theorem dX3_compact_134 : decode cX3_compact 134 = .ok (.iadd, 1) := by decide +kernel
theorem dX3_compact_135 : decode cX3_compact 135 = .ok (.baload, 1) := by decide +kernel
theorem dX3_compact_136 : decode cX3_compact 136 = .ok (.ifCond .eq 16, 3) := by decide +kernel
theorem dX3_compact_139 : decode cX3_compact 139 = .ok (.aload_n 0, 1) := by decide +kernel
theorem dX3_compact_140 : decode cX3_compact 140 = .ok (.getfield 28, 3) := by decide +kernel
theorem dX3_compact_143 : decode cX3_compact 143 = .ok (.iload_n 2, 1) := by decide +kernel
theorem dX3_compact_144 : decode cX3_compact 144 = .ok (.baload, 1) := by decide +kernel
theorem dX3_compact_145 : decode cX3_compact 145 = .ok (.ifCond .ne 7, 3) := by decide +kernel
theorem dX3_compact_148 : decode cX3_compact 148 = .ok (.iconst 1, 1) := by decide +kernel
theorem dX3_compact_149 : decode cX3_compact 149 = .ok (.goto 4, 3) := by decide +kernel
theorem dX3_compact_152 : decode cX3_compact 152 = .ok (.iconst 0, 1) := by decide +kernel
theorem dX3_compact_153 : decode cX3_compact 153 = .ok (.bastore, 1) := by decide +kernel
theorem dX3_compact_154 : decode cX3_compact 154 = .ok (.iinc 3 1, 3) := by decide +kernel
theorem dX3_compact_157 : decode cX3_compact 157 = .ok (.goto (-48), 3) := by decide +kernel
theorem dX3_compact_160 : decode cX3_compact 160 = .ok (.iinc 2 1, 3) := by decide +kernel
theorem dX3_compact_163 : decode cX3_compact 163 = .ok (.goto (-93), 3) := by decide +kernel
theorem dX3_compact_166 : decode cX3_compact 166 = .ok (.iload_n 1, 1) := by decide +kernel
theorem dX3_compact_167 : decode cX3_compact 167 = .ok (.ireturn, 1) := by decide +kernel
theorem dX3_about_0 : decode cX3_about 0 = .ok (.aload_n 0, 1) := by decide +kernel
theorem dX3_about_1 : decode cX3_about 1 = .ok (.aload_n 0, 1) := by decide +kernel
theorem dX3_about_2 : decode cX3_about 2 = .ok (.iload_n 1, 1) := by decide +kernel
theorem dX3_about_3 : decode cX3_about 3 = .ok (.iload_n 2, 1) := by decide +kernel
theorem dX3_about_4 : decode cX3_about 4 = .ok (.invokevirtual 75, 3) := by decide +kernel
theorem dX3_about_7 : decode cX3_about 7 = .ok (.iload_n 3, 1) := by decide +kernel
theorem dX3_about_8 : decode cX3_about 8 = .ok (.iconst 0, 1) := by decide +kernel
theorem dX3_about_9 : decode cX3_about 9 = .ok (.iconst 3, 1) := by decide +kernel
theorem dX3_about_10 : decode cX3_about 10 = .ok (.invokestatic 64, 3) := by decide +kernel
theorem dX3_about_13 : decode cX3_about 13 = .ok (.iconst 1, 1) := by decide +kernel
theorem dX3_about_14 : decode cX3_about 14 = .ok (.invokevirtual 68, 3) := by decide +kernel
theorem dX3_about_17 : decode cX3_about 17 = .ok (.ifCond .ne 5, 3) := by decide +kernel
theorem dX3_about_20 : decode cX3_about 20 = .ok (.iconst 0, 1) := by decide +kernel
theorem dX3_about_21 : decode cX3_about 21 = .ok (.ireturn, 1) := by decide +kernel
theorem dX3_about_22 : decode cX3_about 22 = .ok (.iload_n 3, 1) := by decide +kernel
theorem dX3_about_23 : decode cX3_about 23 = .ok (.ifCond .ne 12, 3) := by decide +kernel
theorem dX3_about_26 : decode cX3_about 26 = .ok (.aload_n 0, 1) := by decide +kernel
theorem dX3_about_27 : decode cX3_about 27 = .ok (.getfield 7, 3) := by decide +kernel
theorem dX3_about_30 : decode cX3_about 30 = .ok (.iload_n 2, 1) := by decide +kernel
theorem dX3_about_31 : decode cX3_about 31 = .ok (.iaload, 1) := by decide +kernel
theorem dX3_about_32 : decode cX3_about 32 = .ok (.goto 37, 3) := by decide +kernel
theorem dX3_about_35 : decode cX3_about 35 = .ok (.iload_n 3, 1) := by decide +kernel
theorem dX3_about_36 : decode cX3_about 36 = .ok (.iconst 1, 1) := by decide +kernel
theorem dX3_about_37 : decode cX3_about 37 = .ok (.if_icmp .ne 12, 3) := by decide +kernel
theorem dX3_about_40 : decode cX3_about 40 = .ok (.aload_n 0, 1) := by decide +kernel
theorem dX3_about_41 : decode cX3_about 41 = .ok (.getfield 13, 3) := by decide +kernel
theorem dX3_about_44 : decode cX3_about 44 = .ok (.iload_n 2, 1) := by decide +kernel
theorem dX3_about_45 : decode cX3_about 45 = .ok (.iaload, 1) := by decide +kernel
theorem dX3_about_46 : decode cX3_about 46 = .ok (.goto 23, 3) := by decide +kernel
theorem dX3_about_49 : decode cX3_about 49 = .ok (.iload_n 3, 1) := by decide +kernel
theorem dX3_about_50 : decode cX3_about 50 = .ok (.iconst 2, 1) := by decide +kernel
theorem dX3_about_51 : decode cX3_about 51 = .ok (.if_icmp .ne 12, 3) := by decide +kernel
theorem dX3_about_54 : decode cX3_about 54 = .ok (.aload_n 0, 1) := by decide +kernel
theorem dX3_about_55 : decode cX3_about 55 = .ok (.getfield 16, 3) := by decide +kernel
theorem dX3_about_58 : decode cX3_about 58 = .ok (.iload_n 2, 1) := by decide +kernel
theorem dX3_about_59 : decode cX3_about 59 = .ok (.iaload, 1) := by decide +kernel
theorem dX3_about_60 : decode cX3_about 60 = .ok (.goto 9, 3) := by decide +kernel
theorem dX3_about_63 : decode cX3_about 63 = .ok (.aload_n 0, 1) := by decide +kernel
theorem dX3_about_64 : decode cX3_about 64 = .ok (.getfield 22, 3) := by decide +kernel
theorem dX3_about_67 : decode cX3_about 67 = .ok (.iload_n 2, 1) := by decide +kernel
theorem dX3_about_68 : decode cX3_about 68 = .ok (.iaload, 1) := by decide +kernel
theorem dX3_about_69 : decode cX3_about 69 = .ok (.ireturn, 1) := by decide +kernel
theorem dX3_count_0 : decode cX3_count 0 = .ok (.aload_n 0, 1) := by decide +kernel
theorem dX3_count_1 : decode cX3_count 1 = .ok (.iload_n 1, 1) := by decide +kernel
theorem dX3_count_2 : decode cX3_count 2 = .ok (.iconst 0, 1) := by decide +kernel
theorem dX3_count_3 : decode cX3_count 3 = .ok (.iconst 2, 1) := by decide +kernel
theorem dX3_count_4 : decode cX3_count 4 = .ok (.invokestatic 64, 3) := by decide +kernel
theorem dX3_count_7 : decode cX3_count 7 = .ok (.iconst 1, 1) := by decide +kernel
theorem dX3_count_8 : decode cX3_count 8 = .ok (.iconst 1, 1) := by decide +kernel
theorem dX3_count_9 : decode cX3_count 9 = .ok (.invokevirtual 68, 3) := by decide +kernel
theorem dX3_count_12 : decode cX3_count 12 = .ok (.ifCond .ne 5, 3) := by decide +kernel
theorem dX3_count_15 : decode cX3_count 15 = .ok (.iconst 0, 1) := by decide +kernel
theorem dX3_count_16 : decode cX3_count 16 = .ok (.ireturn, 1) := by decide +kernel
theorem dX3_count_17 : decode cX3_count 17 = .ok (.iconst 0, 1) := by decide +kernel
theorem dX3_count_18 : decode cX3_count 18 = .ok (.istore_n 2, 1) := by decide +kernel
theorem dX3_count_19 : decode cX3_count 19 = .ok (.iconst 0, 1) := by decide +kernel
theorem dX3_count_20 : decode cX3_count 20 = .ok (.istore_n 3, 1) := by decide +kernel
theorem dX3_count_21 : decode cX3_count 21 = .ok (.iload_n 3, 1) := by decide +kernel
theorem dX3_count_22 : decode cX3_count 22 = .ok (.aload_n 0, 1) := by decide +kernel
theorem dX3_count_23 : decode cX3_count 23 = .ok (.getfield 58, 3) := by decide +kernel
theorem dX3_count_26 : decode cX3_count 26 = .ok (.if_icmp .ge 98, 3) := by decide +kernel
theorem dX3_count_29 : decode cX3_count 29 = .ok (.iconst 0, 1) := by decide +kernel
theorem dX3_count_30 : decode cX3_count 30 = .ok (.istore 4, 2) := by decide +kernel
theorem dX3_count_32 : decode cX3_count 32 = .ok (.iconst 0, 1) := by decide +kernel
theorem dX3_count_33 : decode cX3_count 33 = .ok (.istore 5, 2) := by decide +kernel
theorem dX3_count_35 : decode cX3_count 35 = .ok (.iload 5, 2) := by decide +kernel
theorem dX3_count_37 : decode cX3_count 37 = .ok (.bipush 6, 2) := by decide +kernel
theorem dX3_count_39 : decode cX3_count 39 = .ok (.if_icmp .ge 35, 3) := by decide +kernel
theorem dX3_count_42 : decode cX3_count 42 = .ok (.aload_n 0, 1) := by decide +kernel
theorem dX3_count_43 : decode cX3_count 43 = .ok (.getfield 32, 3) := by decide +kernel
theorem dX3_count_46 : decode cX3_count 46 = .ok (.bipush 120, 2) := by decide +kernel
theorem dX3_count_48 : decode cX3_count 48 = .ok (.iload 5, 2) := by decide +kernel
theorem dX3_count_50 : decode cX3_count 50 = .ok (.imul, 1) := by decide +kernel
theorem dX3_count_51 : decode cX3_count 51 = .ok (.iload_n 3, 1) := by decide +kernel
theorem dX3_count_52 : decode cX3_count 52 = .ok (.iadd, 1) := by decide +kernel
theorem dX3_count_53 : decode cX3_count 53 = .ok (.baload, 1) := by decide +kernel
theorem dX3_count_54 : decode cX3_count 54 = .ok (.ifCond .eq 10, 3) := by decide +kernel
theorem dX3_count_57 : decode cX3_count 57 = .ok (.iload 4, 2) := by decide +kernel
theorem dX3_count_59 : decode cX3_count 59 = .ok (.iconst 1, 1) := by decide +kernel
theorem dX3_count_60 : decode cX3_count 60 = .ok (.iadd, 1) := by decide +kernel
theorem dX3_count_61 : decode cX3_count 61 = .ok (.goto 5, 3) := by decide +kernel
theorem dX3_count_64 : decode cX3_count 64 = .ok (.iload 4, 2) := by decide +kernel
theorem dX3_count_66 : decode cX3_count 66 = .ok (.istore 4, 2) := by decide +kernel
theorem dX3_count_68 : decode cX3_count 68 = .ok (.iinc 5 1, 3) := by decide +kernel
theorem dX3_count_71 : decode cX3_count 71 = .ok (.goto (-36), 3) := by decide +kernel
theorem dX3_count_74 : decode cX3_count 74 = .ok (.iload_n 1, 1) := by decide +kernel
theorem dX3_count_75 : decode cX3_count 75 = .ok (.iconst 1, 1) := by decide +kernel
theorem dX3_count_76 : decode cX3_count 76 = .ok (.if_icmp .ne 22, 3) := by decide +kernel
theorem dX3_count_79 : decode cX3_count 79 = .ok (.aload_n 0, 1) := by decide +kernel
theorem dX3_count_80 : decode cX3_count 80 = .ok (.getfield 28, 3) := by decide +kernel
theorem dX3_count_83 : decode cX3_count 83 = .ok (.iload_n 3, 1) := by decide +kernel
theorem dX3_count_84 : decode cX3_count 84 = .ok (.baload, 1) := by decide +kernel
theorem dX3_count_85 : decode cX3_count 85 = .ok (.ifCond .eq 9, 3) := by decide +kernel
theorem dX3_count_88 : decode cX3_count 88 = .ok (.iload_n 2, 1) := by decide +kernel
theorem dX3_count_89 : decode cX3_count 89 = .ok (.iconst 1, 1) := by decide +kernel
theorem dX3_count_90 : decode cX3_count 90 = .ok (.iadd, 1) := by decide +kernel
theorem dX3_count_91 : decode cX3_count 91 = .ok (.goto 26, 3) := by decide +kernel
theorem dX3_count_94 : decode cX3_count 94 = .ok (.iload_n 2, 1) := by decide +kernel
theorem dX3_count_95 : decode cX3_count 95 = .ok (.goto 22, 3) := by decide +kernel
theorem dX3_count_98 : decode cX3_count 98 = .ok (.iload 4, 2) := by decide +kernel
theorem dX3_count_100 : decode cX3_count 100 = .ok (.ifCond .le 16, 3) := by decide +kernel
theorem dX3_count_103 : decode cX3_count 103 = .ok (.iload 4, 2) := by decide +kernel
theorem dX3_count_105 : decode cX3_count 105 = .ok (.bipush 6, 2) := by decide +kernel
theorem dX3_count_107 : decode cX3_count 107 = .ok (.if_icmp .ge 9, 3) := by decide +kernel
theorem dX3_count_110 : decode cX3_count 110 = .ok (.iload_n 2, 1) := by decide +kernel
theorem dX3_count_111 : decode cX3_count 111 = .ok (.iconst 1, 1) := by decide +kernel
theorem dX3_count_112 : decode cX3_count 112 = .ok (.iadd, 1) := by decide +kernel
theorem dX3_count_113 : decode cX3_count 113 = .ok (.goto 4, 3) := by decide +kernel
theorem dX3_count_116 : decode cX3_count 116 = .ok (.iload_n 2, 1) := by decide +kernel
theorem dX3_count_117 : decode cX3_count 117 = .ok (.istore_n 2, 1) := by decide +kernel
theorem dX3_count_118 : decode cX3_count 118 = .ok (.iinc 3 1, 3) := by decide +kernel
theorem dX3_count_121 : decode cX3_count 121 = .ok (.goto (-100), 3) := by decide +kernel
theorem dX3_count_124 : decode cX3_count 124 = .ok (.iload_n 1, 1) := by decide +kernel
theorem dX3_count_125 : decode cX3_count 125 = .ok (.ifCond .ne 10, 3) := by decide +kernel
theorem dX3_count_128 : decode cX3_count 128 = .ok (.aload_n 0, 1) := by decide +kernel
theorem dX3_count_129 : decode cX3_count 129 = .ok (.getfield 58, 3) := by decide +kernel
theorem dX3_count_132 : decode cX3_count 132 = .ok (.goto 4, 3) := by decide +kernel
theorem dX3_count_135 : decode cX3_count 135 = .ok (.iload_n 2, 1) := by decide +kernel
theorem dX3_count_136 : decode cX3_count 136 = .ok (.ireturn, 1) := by decide +kernel
theorem dL_tell_0 : decode cL_tell 0 = .ok (.aload 5, 2) := by decide +kernel
theorem dL_tell_2 : decode cL_tell 2 = .ok (.iconst 0, 1) := by decide +kernel
theorem dL_tell_3 : decode cL_tell 3 = .ok (.aload_n 0, 1) := by decide +kernel
theorem dL_tell_4 : decode cL_tell 4 = .ok (.iload_n 1, 1) := by decide +kernel
theorem dL_tell_5 : decode cL_tell 5 = .ok (.iload_n 2, 1) := by decide +kernel
theorem dL_tell_6 : decode cL_tell 6 = .ok (.iload_n 3, 1) := by decide +kernel
theorem dL_tell_7 : decode cL_tell 7 = .ok (.iload 4, 2) := by decide +kernel
theorem dL_tell_9 : decode cL_tell 9 = .ok (.invokevirtual 7, 3) := by decide +kernel
theorem dL_tell_12 : decode cL_tell 12 = .ok (.i2l, 1) := by decide +kernel
theorem dL_tell_13 : decode cL_tell 13 = .ok (.lastore, 1) := by decide +kernel
theorem dL_tell_14 : decode cL_tell 14 = .ok (.goto 15, 3) := by decide +kernel
theorem dL_tell_17 : decode cL_tell 17 = .ok (.astore 6, 2) := by decide +kernel
theorem dL_tell_19 : decode cL_tell 19 = .ok (.iconst 1, 1) := by decide +kernel
theorem dL_tell_20 : decode cL_tell 20 = .ok (.ireturn, 1) := by decide +kernel
theorem dL_tell_21 : decode cL_tell 21 = .ok (.astore 6, 2) := by decide +kernel
theorem dL_tell_23 : decode cL_tell 23 = .ok (.iconst 2, 1) := by decide +kernel
theorem dL_tell_24 : decode cL_tell 24 = .ok (.ireturn, 1) := by decide +kernel
theorem dL_tell_25 : decode cL_tell 25 = .ok (.astore 6, 2) := by decide +kernel
theorem dL_tell_27 : decode cL_tell 27 = .ok (.iconst 3, 1) := by decide +kernel
theorem dL_tell_28 : decode cL_tell 28 = .ok (.ireturn, 1) := by decide +kernel
theorem dL_tell_29 : decode cL_tell 29 = .ok (.iconst 0, 1) := by decide +kernel
theorem dL_tell_30 : decode cL_tell 30 = .ok (.ireturn, 1) := by decide +kernel
theorem dL_insert_0 : decode cL_insert 0 = .ok (.aload 5, 2) := by decide +kernel
theorem dL_insert_2 : decode cL_insert 2 = .ok (.iconst 0, 1) := by decide +kernel
theorem dL_insert_3 : decode cL_insert 3 = .ok (.aload_n 0, 1) := by decide +kernel
theorem dL_insert_4 : decode cL_insert 4 = .ok (.iload_n 1, 1) := by decide +kernel
theorem dL_insert_5 : decode cL_insert 5 = .ok (.iload_n 2, 1) := by decide +kernel
theorem dL_insert_6 : decode cL_insert 6 = .ok (.iload_n 3, 1) := by decide +kernel
theorem dL_insert_7 : decode cL_insert 7 = .ok (.iload 4, 2) := by decide +kernel
theorem dL_insert_9 : decode cL_insert 9 = .ok (.invokevirtual 19, 3) := by decide +kernel
theorem dL_insert_12 : decode cL_insert 12 = .ok (.i2l, 1) := by decide +kernel
theorem dL_insert_13 : decode cL_insert 13 = .ok (.lastore, 1) := by decide +kernel
theorem dL_insert_14 : decode cL_insert 14 = .ok (.goto 15, 3) := by decide +kernel
theorem dL_insert_17 : decode cL_insert 17 = .ok (.astore 6, 2) := by decide +kernel
theorem dL_insert_19 : decode cL_insert 19 = .ok (.iconst 1, 1) := by decide +kernel
theorem dL_insert_20 : decode cL_insert 20 = .ok (.ireturn, 1) := by decide +kernel
theorem dL_insert_21 : decode cL_insert 21 = .ok (.astore 6, 2) := by decide +kernel
theorem dL_insert_23 : decode cL_insert 23 = .ok (.iconst 2, 1) := by decide +kernel
theorem dL_insert_24 : decode cL_insert 24 = .ok (.ireturn, 1) := by decide +kernel
theorem dL_insert_25 : decode cL_insert 25 = .ok (.astore 6, 2) := by decide +kernel
theorem dL_insert_27 : decode cL_insert 27 = .ok (.iconst 3, 1) := by decide +kernel
theorem dL_insert_28 : decode cL_insert 28 = .ok (.ireturn, 1) := by decide +kernel
theorem dL_insert_29 : decode cL_insert 29 = .ok (.iconst 0, 1) := by decide +kernel
theorem dL_insert_30 : decode cL_insert 30 = .ok (.ireturn, 1) := by decide +kernel
theorem dL_remove_0 : decode cL_remove 0 = .ok (.aload_n 3, 1) := by decide +kernel
theorem dL_remove_1 : decode cL_remove 1 = .ok (.iconst 0, 1) := by decide +kernel
theorem dL_remove_2 : decode cL_remove 2 = .ok (.aload_n 0, 1) := by decide +kernel
theorem dL_remove_3 : decode cL_remove 3 = .ok (.iload_n 1, 1) := by decide +kernel
theorem dL_remove_4 : decode cL_remove 4 = .ok (.iload_n 2, 1) := by decide +kernel
theorem dL_remove_5 : decode cL_remove 5 = .ok (.invokevirtual 22, 3) := by decide +kernel
theorem dL_remove_8 : decode cL_remove 8 = .ok (.i2l, 1) := by decide +kernel
theorem dL_remove_9 : decode cL_remove 9 = .ok (.lastore, 1) := by decide +kernel
theorem dL_remove_10 : decode cL_remove 10 = .ok (.goto 15, 3) := by decide +kernel
theorem dL_remove_13 : decode cL_remove 13 = .ok (.astore 4, 2) := by decide +kernel
theorem dL_remove_15 : decode cL_remove 15 = .ok (.iconst 1, 1) := by decide +kernel
theorem dL_remove_16 : decode cL_remove 16 = .ok (.ireturn, 1) := by decide +kernel
theorem dL_remove_17 : decode cL_remove 17 = .ok (.astore 4, 2) := by decide +kernel
theorem dL_remove_19 : decode cL_remove 19 = .ok (.iconst 2, 1) := by decide +kernel
theorem dL_remove_20 : decode cL_remove 20 = .ok (.ireturn, 1) := by decide +kernel
theorem dL_remove_21 : decode cL_remove 21 = .ok (.astore 4, 2) := by decide +kernel
theorem dL_remove_23 : decode cL_remove 23 = .ok (.iconst 3, 1) := by decide +kernel
theorem dL_remove_24 : decode cL_remove 24 = .ok (.ireturn, 1) := by decide +kernel
theorem dL_remove_25 : decode cL_remove 25 = .ok (.iconst 0, 1) := by decide +kernel
theorem dL_remove_26 : decode cL_remove 26 = .ok (.ireturn, 1) := by decide +kernel
theorem dL_relate_0 : decode cL_relate 0 = .ok (.aload 4, 2) := by decide +kernel
theorem dL_relate_2 : decode cL_relate 2 = .ok (.iconst 0, 1) := by decide +kernel
theorem dL_relate_3 : decode cL_relate 3 = .ok (.aload_n 0, 1) := by decide +kernel
theorem dL_relate_4 : decode cL_relate 4 = .ok (.iload_n 1, 1) := by decide +kernel
theorem dL_relate_5 : decode cL_relate 5 = .ok (.iload_n 2, 1) := by decide +kernel
theorem dL_relate_6 : decode cL_relate 6 = .ok (.iload_n 3, 1) := by decide +kernel
theorem dL_relate_7 : decode cL_relate 7 = .ok (.invokevirtual 26, 3) := by decide +kernel
theorem dL_relate_10 : decode cL_relate 10 = .ok (.i2l, 1) := by decide +kernel
theorem dL_relate_11 : decode cL_relate 11 = .ok (.lastore, 1) := by decide +kernel
theorem dL_relate_12 : decode cL_relate 12 = .ok (.goto 15, 3) := by decide +kernel
theorem dL_relate_15 : decode cL_relate 15 = .ok (.astore 5, 2) := by decide +kernel
theorem dL_relate_17 : decode cL_relate 17 = .ok (.iconst 1, 1) := by decide +kernel
theorem dL_relate_18 : decode cL_relate 18 = .ok (.ireturn, 1) := by decide +kernel
theorem dL_relate_19 : decode cL_relate 19 = .ok (.astore 5, 2) := by decide +kernel
theorem dL_relate_21 : decode cL_relate 21 = .ok (.iconst 2, 1) := by decide +kernel
theorem dL_relate_22 : decode cL_relate 22 = .ok (.ireturn, 1) := by decide +kernel
theorem dL_relate_23 : decode cL_relate 23 = .ok (.astore 5, 2) := by decide +kernel
theorem dL_relate_25 : decode cL_relate 25 = .ok (.iconst 3, 1) := by decide +kernel
theorem dL_relate_26 : decode cL_relate 26 = .ok (.ireturn, 1) := by decide +kernel
theorem dL_relate_27 : decode cL_relate 27 = .ok (.iconst 0, 1) := by decide +kernel
theorem dL_relate_28 : decode cL_relate 28 = .ok (.ireturn, 1) := by decide +kernel
theorem dL_drop_0 : decode cL_drop 0 = .ok (.aload_n 3, 1) := by decide +kernel
theorem dL_drop_1 : decode cL_drop 1 = .ok (.iconst 0, 1) := by decide +kernel
theorem dL_drop_2 : decode cL_drop 2 = .ok (.aload_n 0, 1) := by decide +kernel
theorem dL_drop_3 : decode cL_drop 3 = .ok (.iload_n 1, 1) := by decide +kernel
theorem dL_drop_4 : decode cL_drop 4 = .ok (.iload_n 2, 1) := by decide +kernel
theorem dL_drop_5 : decode cL_drop 5 = .ok (.invokevirtual 30, 3) := by decide +kernel
theorem dL_drop_8 : decode cL_drop 8 = .ok (.i2l, 1) := by decide +kernel
theorem dL_drop_9 : decode cL_drop 9 = .ok (.lastore, 1) := by decide +kernel
theorem dL_drop_10 : decode cL_drop 10 = .ok (.goto 15, 3) := by decide +kernel
theorem dL_drop_13 : decode cL_drop 13 = .ok (.astore 4, 2) := by decide +kernel
theorem dL_drop_15 : decode cL_drop 15 = .ok (.iconst 1, 1) := by decide +kernel
theorem dL_drop_16 : decode cL_drop 16 = .ok (.ireturn, 1) := by decide +kernel
theorem dL_drop_17 : decode cL_drop 17 = .ok (.astore 4, 2) := by decide +kernel
theorem dL_drop_19 : decode cL_drop 19 = .ok (.iconst 2, 1) := by decide +kernel
theorem dL_drop_20 : decode cL_drop 20 = .ok (.ireturn, 1) := by decide +kernel
theorem dL_drop_21 : decode cL_drop 21 = .ok (.astore 4, 2) := by decide +kernel
theorem dL_drop_23 : decode cL_drop 23 = .ok (.iconst 3, 1) := by decide +kernel
theorem dL_drop_24 : decode cL_drop 24 = .ok (.ireturn, 1) := by decide +kernel
theorem dL_drop_25 : decode cL_drop 25 = .ok (.iconst 0, 1) := by decide +kernel
theorem dL_drop_26 : decode cL_drop 26 = .ok (.ireturn, 1) := by decide +kernel
theorem dL_join_0 : decode cL_join 0 = .ok (.aload_n 3, 1) := by decide +kernel
theorem dL_join_1 : decode cL_join 1 = .ok (.iconst 0, 1) := by decide +kernel
end
section
theorem dL_join_2 : decode cL_join 2 = .ok (.aload_n 0, 1) := by decide +kernel
theorem dL_join_3 : decode cL_join 3 = .ok (.iload_n 1, 1) := by decide +kernel
theorem dL_join_4 : decode cL_join 4 = .ok (.iload_n 2, 1) := by decide +kernel
theorem dL_join_5 : decode cL_join 5 = .ok (.invokevirtual 33, 3) := by decide +kernel
theorem dL_join_8 : decode cL_join 8 = .ok (.i2l, 1) := by decide +kernel
theorem dL_join_9 : decode cL_join 9 = .ok (.lastore, 1) := by decide +kernel
theorem dL_join_10 : decode cL_join 10 = .ok (.goto 7, 3) := by decide +kernel
theorem dL_join_13 : decode cL_join 13 = .ok (.astore 4, 2) := by decide +kernel
theorem dL_join_15 : decode cL_join 15 = .ok (.iconst 1, 1) := by decide +kernel
theorem dL_join_16 : decode cL_join 16 = .ok (.ireturn, 1) := by decide +kernel
theorem dL_join_17 : decode cL_join 17 = .ok (.iconst 0, 1) := by decide +kernel
theorem dL_join_18 : decode cL_join 18 = .ok (.ireturn, 1) := by decide +kernel
theorem dL_number_0 : decode cL_number 0 = .ok (.aload_n 2, 1) := by decide +kernel
theorem dL_number_1 : decode cL_number 1 = .ok (.iconst 0, 1) := by decide +kernel
theorem dL_number_2 : decode cL_number 2 = .ok (.aload_n 0, 1) := by decide +kernel
theorem dL_number_3 : decode cL_number 3 = .ok (.iload_n 1, 1) := by decide +kernel
theorem dL_number_4 : decode cL_number 4 = .ok (.invokevirtual 36, 3) := by decide +kernel
theorem dL_number_7 : decode cL_number 7 = .ok (.i2l, 1) := by decide +kernel
theorem dL_number_8 : decode cL_number 8 = .ok (.lastore, 1) := by decide +kernel
theorem dL_number_9 : decode cL_number 9 = .ok (.goto 9, 3) := by decide +kernel
theorem dL_number_12 : decode cL_number 12 = .ok (.astore_n 3, 1) := by decide +kernel
theorem dL_number_13 : decode cL_number 13 = .ok (.iconst 1, 1) := by decide +kernel
theorem dL_number_14 : decode cL_number 14 = .ok (.ireturn, 1) := by decide +kernel
theorem dL_number_15 : decode cL_number 15 = .ok (.astore_n 3, 1) := by decide +kernel
theorem dL_number_16 : decode cL_number 16 = .ok (.iconst 2, 1) := by decide +kernel
theorem dL_number_17 : decode cL_number 17 = .ok (.ireturn, 1) := by decide +kernel
theorem dL_number_18 : decode cL_number 18 = .ok (.iconst 0, 1) := by decide +kernel
theorem dL_number_19 : decode cL_number 19 = .ok (.ireturn, 1) := by decide +kernel
theorem dL_at_0 : decode cL_at 0 = .ok (.aload 5, 2) := by decide +kernel
theorem dL_at_2 : decode cL_at 2 = .ok (.iconst 0, 1) := by decide +kernel
theorem dL_at_3 : decode cL_at 3 = .ok (.aload_n 0, 1) := by decide +kernel
theorem dL_at_4 : decode cL_at 4 = .ok (.iload_n 1, 1) := by decide +kernel
theorem dL_at_5 : decode cL_at 5 = .ok (.iload_n 2, 1) := by decide +kernel
theorem dL_at_6 : decode cL_at 6 = .ok (.iload_n 3, 1) := by decide +kernel
theorem dL_at_7 : decode cL_at 7 = .ok (.iload 4, 2) := by decide +kernel
theorem dL_at_9 : decode cL_at 9 = .ok (.invokevirtual 40, 3) := by decide +kernel
theorem dL_at_12 : decode cL_at 12 = .ok (.i2l, 1) := by decide +kernel
theorem dL_at_13 : decode cL_at 13 = .ok (.lastore, 1) := by decide +kernel
theorem dL_at_14 : decode cL_at 14 = .ok (.goto 7, 3) := by decide +kernel
theorem dL_at_17 : decode cL_at 17 = .ok (.astore 6, 2) := by decide +kernel
theorem dL_at_19 : decode cL_at 19 = .ok (.iconst 1, 1) := by decide +kernel
theorem dL_at_20 : decode cL_at 20 = .ok (.ireturn, 1) := by decide +kernel
theorem dL_at_21 : decode cL_at 21 = .ok (.iconst 0, 1) := by decide +kernel
theorem dL_at_22 : decode cL_at 22 = .ok (.ireturn, 1) := by decide +kernel
theorem dL_place_0 : decode cL_place 0 = .ok (.aload 4, 2) := by decide +kernel
theorem dL_place_2 : decode cL_place 2 = .ok (.iconst 0, 1) := by decide +kernel
theorem dL_place_3 : decode cL_place 3 = .ok (.aload_n 0, 1) := by decide +kernel
theorem dL_place_4 : decode cL_place 4 = .ok (.iload_n 1, 1) := by decide +kernel
theorem dL_place_5 : decode cL_place 5 = .ok (.iload_n 2, 1) := by decide +kernel
theorem dL_place_6 : decode cL_place 6 = .ok (.iload_n 3, 1) := by decide +kernel
theorem dL_place_7 : decode cL_place 7 = .ok (.invokevirtual 43, 3) := by decide +kernel
theorem dL_place_10 : decode cL_place 10 = .ok (.i2l, 1) := by decide +kernel
theorem dL_place_11 : decode cL_place 11 = .ok (.lastore, 1) := by decide +kernel
theorem dL_place_12 : decode cL_place 12 = .ok (.goto 7, 3) := by decide +kernel
theorem dL_place_15 : decode cL_place 15 = .ok (.astore 5, 2) := by decide +kernel
theorem dL_place_17 : decode cL_place 17 = .ok (.iconst 1, 1) := by decide +kernel
theorem dL_place_18 : decode cL_place 18 = .ok (.ireturn, 1) := by decide +kernel
theorem dL_place_19 : decode cL_place 19 = .ok (.iconst 0, 1) := by decide +kernel
theorem dL_place_20 : decode cL_place 20 = .ok (.ireturn, 1) := by decide +kernel
theorem dL_order_0 : decode cL_order 0 = .ok (.aload 4, 2) := by decide +kernel
theorem dL_order_2 : decode cL_order 2 = .ok (.iconst 0, 1) := by decide +kernel
theorem dL_order_3 : decode cL_order 3 = .ok (.aload_n 0, 1) := by decide +kernel
theorem dL_order_4 : decode cL_order 4 = .ok (.iload_n 1, 1) := by decide +kernel
theorem dL_order_5 : decode cL_order 5 = .ok (.iload_n 2, 1) := by decide +kernel
theorem dL_order_6 : decode cL_order 6 = .ok (.iload_n 3, 1) := by decide +kernel
theorem dL_order_7 : decode cL_order 7 = .ok (.invokevirtual 46, 3) := by decide +kernel
theorem dL_order_10 : decode cL_order 10 = .ok (.i2l, 1) := by decide +kernel
theorem dL_order_11 : decode cL_order 11 = .ok (.lastore, 1) := by decide +kernel
theorem dL_order_12 : decode cL_order 12 = .ok (.goto 7, 3) := by decide +kernel
theorem dL_order_15 : decode cL_order 15 = .ok (.astore 5, 2) := by decide +kernel
theorem dL_order_17 : decode cL_order 17 = .ok (.iconst 1, 1) := by decide +kernel
theorem dL_order_18 : decode cL_order 18 = .ok (.ireturn, 1) := by decide +kernel
theorem dL_order_19 : decode cL_order 19 = .ok (.iconst 0, 1) := by decide +kernel
theorem dL_order_20 : decode cL_order 20 = .ok (.ireturn, 1) := by decide +kernel
theorem dL_open_0 : decode cL_open 0 = .ok (.aload_n 3, 1) := by decide +kernel
theorem dL_open_1 : decode cL_open 1 = .ok (.iconst 0, 1) := by decide +kernel
theorem dL_open_2 : decode cL_open 2 = .ok (.aload_n 0, 1) := by decide +kernel
theorem dL_open_3 : decode cL_open 3 = .ok (.iload_n 1, 1) := by decide +kernel
theorem dL_open_4 : decode cL_open 4 = .ok (.iload_n 2, 1) := by decide +kernel
theorem dL_open_5 : decode cL_open 5 = .ok (.invokevirtual 49, 3) := by decide +kernel
theorem dL_open_8 : decode cL_open 8 = .ok (.i2l, 1) := by decide +kernel
theorem dL_open_9 : decode cL_open 9 = .ok (.lastore, 1) := by decide +kernel
theorem dL_open_10 : decode cL_open 10 = .ok (.goto 7, 3) := by decide +kernel
theorem dL_open_13 : decode cL_open 13 = .ok (.astore 4, 2) := by decide +kernel
theorem dL_open_15 : decode cL_open 15 = .ok (.iconst 1, 1) := by decide +kernel
theorem dL_open_16 : decode cL_open 16 = .ok (.ireturn, 1) := by decide +kernel
theorem dL_open_17 : decode cL_open 17 = .ok (.iconst 0, 1) := by decide +kernel
theorem dL_open_18 : decode cL_open 18 = .ok (.ireturn, 1) := by decide +kernel
theorem dL_knows_0 : decode cL_knows 0 = .ok (.aload_n 3, 1) := by decide +kernel
theorem dL_knows_1 : decode cL_knows 1 = .ok (.iconst 0, 1) := by decide +kernel
theorem dL_knows_2 : decode cL_knows 2 = .ok (.aload_n 0, 1) := by decide +kernel
theorem dL_knows_3 : decode cL_knows 3 = .ok (.iload_n 1, 1) := by decide +kernel
theorem dL_knows_4 : decode cL_knows 4 = .ok (.iload_n 2, 1) := by decide +kernel
theorem dL_knows_5 : decode cL_knows 5 = .ok (.invokevirtual 52, 3) := by decide +kernel
theorem dL_knows_8 : decode cL_knows 8 = .ok (.ifCond .eq 7, 3) := by decide +kernel
theorem dL_knows_11 : decode cL_knows 11 = .ok (.lconst 1, 1) := by decide +kernel
theorem dL_knows_12 : decode cL_knows 12 = .ok (.goto 4, 3) := by decide +kernel
theorem dL_knows_15 : decode cL_knows 15 = .ok (.lconst 0, 1) := by decide +kernel
theorem dL_knows_16 : decode cL_knows 16 = .ok (.lastore, 1) := by decide +kernel
theorem dL_knows_17 : decode cL_knows 17 = .ok (.goto 7, 3) := by decide +kernel
theorem dL_knows_20 : decode cL_knows 20 = .ok (.astore 4, 2) := by decide +kernel
theorem dL_knows_22 : decode cL_knows 22 = .ok (.iconst 1, 1) := by decide +kernel
theorem dL_knows_23 : decode cL_knows 23 = .ok (.ireturn, 1) := by decide +kernel
theorem dL_knows_24 : decode cL_knows 24 = .ok (.iconst 0, 1) := by decide +kernel
theorem dL_knows_25 : decode cL_knows 25 = .ok (.ireturn, 1) := by decide +kernel
theorem dL_equal_0 : decode cL_equal 0 = .ok (.aload_n 3, 1) := by decide +kernel
theorem dL_equal_1 : decode cL_equal 1 = .ok (.iconst 0, 1) := by decide +kernel
theorem dL_equal_2 : decode cL_equal 2 = .ok (.aload_n 0, 1) := by decide +kernel
theorem dL_equal_3 : decode cL_equal 3 = .ok (.iload_n 1, 1) := by decide +kernel
theorem dL_equal_4 : decode cL_equal 4 = .ok (.iload_n 2, 1) := by decide +kernel
theorem dL_equal_5 : decode cL_equal 5 = .ok (.invokevirtual 56, 3) := by decide +kernel
theorem dL_equal_8 : decode cL_equal 8 = .ok (.ifCond .eq 7, 3) := by decide +kernel
theorem dL_equal_11 : decode cL_equal 11 = .ok (.lconst 1, 1) := by decide +kernel
theorem dL_equal_12 : decode cL_equal 12 = .ok (.goto 4, 3) := by decide +kernel
theorem dL_equal_15 : decode cL_equal 15 = .ok (.lconst 0, 1) := by decide +kernel
theorem dL_equal_16 : decode cL_equal 16 = .ok (.lastore, 1) := by decide +kernel
theorem dL_equal_17 : decode cL_equal 17 = .ok (.goto 7, 3) := by decide +kernel
theorem dL_equal_20 : decode cL_equal 20 = .ok (.astore 4, 2) := by decide +kernel
theorem dL_equal_22 : decode cL_equal 22 = .ok (.iconst 1, 1) := by decide +kernel
theorem dL_equal_23 : decode cL_equal 23 = .ok (.ireturn, 1) := by decide +kernel
theorem dL_equal_24 : decode cL_equal 24 = .ok (.iconst 0, 1) := by decide +kernel
theorem dL_equal_25 : decode cL_equal 25 = .ok (.ireturn, 1) := by decide +kernel
theorem dL_about_0 : decode cL_about 0 = .ok (.aload 4, 2) := by decide +kernel
theorem dL_about_2 : decode cL_about 2 = .ok (.iconst 0, 1) := by decide +kernel
theorem dL_about_3 : decode cL_about 3 = .ok (.aload_n 0, 1) := by decide +kernel
theorem dL_about_4 : decode cL_about 4 = .ok (.iload_n 1, 1) := by decide +kernel
theorem dL_about_5 : decode cL_about 5 = .ok (.iload_n 2, 1) := by decide +kernel
theorem dL_about_6 : decode cL_about 6 = .ok (.iload_n 3, 1) := by decide +kernel
theorem dL_about_7 : decode cL_about 7 = .ok (.invokevirtual 59, 3) := by decide +kernel
theorem dL_about_10 : decode cL_about 10 = .ok (.i2l, 1) := by decide +kernel
theorem dL_about_11 : decode cL_about 11 = .ok (.lastore, 1) := by decide +kernel
theorem dL_about_12 : decode cL_about 12 = .ok (.goto 11, 3) := by decide +kernel
theorem dL_about_15 : decode cL_about 15 = .ok (.astore 5, 2) := by decide +kernel
theorem dL_about_17 : decode cL_about 17 = .ok (.iconst 1, 1) := by decide +kernel
theorem dL_about_18 : decode cL_about 18 = .ok (.ireturn, 1) := by decide +kernel
theorem dL_about_19 : decode cL_about 19 = .ok (.astore 5, 2) := by decide +kernel
theorem dL_about_21 : decode cL_about 21 = .ok (.iconst 2, 1) := by decide +kernel
theorem dL_about_22 : decode cL_about 22 = .ok (.ireturn, 1) := by decide +kernel
theorem dL_about_23 : decode cL_about 23 = .ok (.iconst 0, 1) := by decide +kernel
theorem dL_about_24 : decode cL_about 24 = .ok (.ireturn, 1) := by decide +kernel
theorem dL_count_0 : decode cL_count 0 = .ok (.aload_n 2, 1) := by decide +kernel
theorem dL_count_1 : decode cL_count 1 = .ok (.iconst 0, 1) := by decide +kernel
theorem dL_count_2 : decode cL_count 2 = .ok (.aload_n 0, 1) := by decide +kernel
theorem dL_count_3 : decode cL_count 3 = .ok (.iload_n 1, 1) := by decide +kernel
theorem dL_count_4 : decode cL_count 4 = .ok (.invokevirtual 62, 3) := by decide +kernel
theorem dL_count_7 : decode cL_count 7 = .ok (.i2l, 1) := by decide +kernel
theorem dL_count_8 : decode cL_count 8 = .ok (.lastore, 1) := by decide +kernel
theorem dL_count_9 : decode cL_count 9 = .ok (.goto 6, 3) := by decide +kernel
theorem dL_count_12 : decode cL_count 12 = .ok (.astore_n 3, 1) := by decide +kernel
theorem dL_count_13 : decode cL_count 13 = .ok (.iconst 1, 1) := by decide +kernel
theorem dL_count_14 : decode cL_count 14 = .ok (.ireturn, 1) := by decide +kernel
theorem dL_count_15 : decode cL_count 15 = .ok (.iconst 0, 1) := by decide +kernel
theorem dL_count_16 : decode cL_count 16 = .ok (.ireturn, 1) := by decide +kernel
theorem dL_law_0 : decode cL_law 0 = .ok (.new 8, 3) := by decide +kernel
theorem dL_law_3 : decode cL_law 3 = .ok (.dup, 1) := by decide +kernel
theorem dL_law_4 : decode cL_law 4 = .ok (.invokespecial 65, 3) := by decide +kernel
theorem dL_law_7 : decode cL_law 7 = .ok (.astore_n 1, 1) := by decide +kernel
theorem dL_law_8 : decode cL_law 8 = .ok (.new 66, 3) := by decide +kernel
theorem dL_law_11 : decode cL_law 11 = .ok (.dup, 1) := by decide +kernel
theorem dL_law_12 : decode cL_law 12 = .ok (.invokespecial 68, 3) := by decide +kernel
theorem dL_law_15 : decode cL_law 15 = .ok (.astore_n 2, 1) := by decide +kernel
theorem dL_law_16 : decode cL_law 16 = .ok (.iconst 1, 1) := by decide +kernel
theorem dL_law_17 : decode cL_law 17 = .ok (.newarray .long, 2) := by decide +kernel
theorem dL_law_19 : decode cL_law 19 = .ok (.astore_n 3, 1) := by decide +kernel
theorem dL_law_20 : decode cL_law 20 = .ok (.iconst 0, 1) := by decide +kernel
theorem dL_law_21 : decode cL_law 21 = .ok (.istore 4, 2) := by decide +kernel
theorem dL_law_23 : decode cL_law 23 = .ok (.iload 4, 2) := by decide +kernel
theorem dL_law_25 : decode cL_law 25 = .ok (.aload_n 0, 1) := by decide +kernel
theorem dL_law_26 : decode cL_law 26 = .ok (.arraylength, 1) := by decide +kernel
theorem dL_law_27 : decode cL_law 27 = .ok (.iconst 5, 1) := by decide +kernel
theorem dL_law_28 : decode cL_law 28 = .ok (.isub, 1) := by decide +kernel
theorem dL_law_29 : decode cL_law 29 = .ok (.if_icmp .gt 1236, 3) := by decide +kernel
theorem dL_law_32 : decode cL_law 32 = .ok (.aload_n 0, 1) := by decide +kernel
theorem dL_law_33 : decode cL_law 33 = .ok (.iload 4, 2) := by decide +kernel
theorem dL_law_35 : decode cL_law 35 = .ok (.iaload, 1) := by decide +kernel
theorem dL_law_36 : decode cL_law 36 = .ok (.bipush 15, 2) := by decide +kernel
theorem dL_law_38 : decode cL_law 38 = .ok (.iand, 1) := by decide +kernel
theorem dL_law_39 : decode cL_law 39 = .ok (.tableswitch 1220 0 15 #[77, 169, 261, 329, 409, 477, 545, 601, 693, 773, 853, 921, 996, 1071, 1084, 1164], 77) := by decide +kernel
theorem dL_law_116 : decode cL_law 116 = .ok (.aload_n 1, 1) := by decide +kernel
theorem dL_law_117 : decode cL_law 117 = .ok (.aload_n 0, 1) := by decide +kernel
theorem dL_law_118 : decode cL_law 118 = .ok (.iload 4, 2) := by decide +kernel
theorem dL_law_120 : decode cL_law 120 = .ok (.iconst 1, 1) := by decide +kernel
theorem dL_law_121 : decode cL_law 121 = .ok (.iadd, 1) := by decide +kernel
theorem dL_law_122 : decode cL_law 122 = .ok (.iaload, 1) := by decide +kernel
theorem dL_law_123 : decode cL_law 123 = .ok (.aload_n 0, 1) := by decide +kernel
theorem dL_law_124 : decode cL_law 124 = .ok (.iload 4, 2) := by decide +kernel
theorem dL_law_126 : decode cL_law 126 = .ok (.iconst 2, 1) := by decide +kernel
theorem dL_law_127 : decode cL_law 127 = .ok (.iadd, 1) := by decide +kernel
theorem dL_law_128 : decode cL_law 128 = .ok (.iaload, 1) := by decide +kernel
theorem dL_law_129 : decode cL_law 129 = .ok (.aload_n 0, 1) := by decide +kernel
theorem dL_law_130 : decode cL_law 130 = .ok (.iload 4, 2) := by decide +kernel
theorem dL_law_132 : decode cL_law 132 = .ok (.iconst 3, 1) := by decide +kernel
theorem dL_law_133 : decode cL_law 133 = .ok (.iadd, 1) := by decide +kernel
theorem dL_law_134 : decode cL_law 134 = .ok (.iaload, 1) := by decide +kernel
theorem dL_law_135 : decode cL_law 135 = .ok (.aload_n 0, 1) := by decide +kernel
theorem dL_law_136 : decode cL_law 136 = .ok (.iload 4, 2) := by decide +kernel
theorem dL_law_138 : decode cL_law 138 = .ok (.iconst 4, 1) := by decide +kernel
theorem dL_law_139 : decode cL_law 139 = .ok (.iadd, 1) := by decide +kernel
theorem dL_law_140 : decode cL_law 140 = .ok (.iaload, 1) := by decide +kernel
theorem dL_law_141 : decode cL_law 141 = .ok (.aload_n 3, 1) := by decide +kernel
theorem dL_law_142 : decode cL_law 142 = .ok (.invokestatic 69, 3) := by decide +kernel
theorem dL_law_145 : decode cL_law 145 = .ok (.istore 5, 2) := by decide +kernel
theorem dL_law_147 : decode cL_law 147 = .ok (.aload_n 2, 1) := by decide +kernel
theorem dL_law_148 : decode cL_law 148 = .ok (.aload_n 0, 1) := by decide +kernel
theorem dL_law_149 : decode cL_law 149 = .ok (.iload 4, 2) := by decide +kernel
theorem dL_law_151 : decode cL_law 151 = .ok (.iconst 1, 1) := by decide +kernel
theorem dL_law_152 : decode cL_law 152 = .ok (.iadd, 1) := by decide +kernel
theorem dL_law_153 : decode cL_law 153 = .ok (.iaload, 1) := by decide +kernel
theorem dL_law_154 : decode cL_law 154 = .ok (.aload_n 0, 1) := by decide +kernel
theorem dL_law_155 : decode cL_law 155 = .ok (.iload 4, 2) := by decide +kernel
theorem dL_law_157 : decode cL_law 157 = .ok (.iconst 2, 1) := by decide +kernel
theorem dL_law_158 : decode cL_law 158 = .ok (.iadd, 1) := by decide +kernel
theorem dL_law_159 : decode cL_law 159 = .ok (.iaload, 1) := by decide +kernel
theorem dL_law_160 : decode cL_law 160 = .ok (.aload_n 0, 1) := by decide +kernel
theorem dL_law_161 : decode cL_law 161 = .ok (.iload 4, 2) := by decide +kernel
theorem dL_law_163 : decode cL_law 163 = .ok (.iconst 3, 1) := by decide +kernel
theorem dL_law_164 : decode cL_law 164 = .ok (.iadd, 1) := by decide +kernel
theorem dL_law_165 : decode cL_law 165 = .ok (.iaload, 1) := by decide +kernel
theorem dL_law_166 : decode cL_law 166 = .ok (.aload_n 0, 1) := by decide +kernel
theorem dL_law_167 : decode cL_law 167 = .ok (.iload 4, 2) := by decide +kernel
theorem dL_law_169 : decode cL_law 169 = .ok (.iconst 4, 1) := by decide +kernel
theorem dL_law_170 : decode cL_law 170 = .ok (.iadd, 1) := by decide +kernel
theorem dL_law_171 : decode cL_law 171 = .ok (.iaload, 1) := by decide +kernel
theorem dL_law_172 : decode cL_law 172 = .ok (.invokevirtual 74, 3) := by decide +kernel
theorem dL_law_175 : decode cL_law 175 = .ok (.istore 6, 2) := by decide +kernel
theorem dL_law_177 : decode cL_law 177 = .ok (.aload_n 2, 1) := by decide +kernel
theorem dL_law_178 : decode cL_law 178 = .ok (.invokevirtual 75, 3) := by decide +kernel
theorem dL_law_181 : decode cL_law 181 = .ok (.iload 5, 2) := by decide +kernel
theorem dL_law_183 : decode cL_law 183 = .ok (.if_icmp .eq 5, 3) := by decide +kernel
theorem dL_law_186 : decode cL_law 186 = .ok (.iconst 0, 1) := by decide +kernel
theorem dL_law_187 : decode cL_law 187 = .ok (.ireturn, 1) := by decide +kernel
theorem dL_law_188 : decode cL_law 188 = .ok (.iload 5, 2) := by decide +kernel
theorem dL_law_190 : decode cL_law 190 = .ok (.ifCond .ne 15, 3) := by decide +kernel
theorem dL_law_193 : decode cL_law 193 = .ok (.aload_n 3, 1) := by decide +kernel
theorem dL_law_194 : decode cL_law 194 = .ok (.iconst 0, 1) := by decide +kernel
theorem dL_law_195 : decode cL_law 195 = .ok (.laload, 1) := by decide +kernel
theorem dL_law_196 : decode cL_law 196 = .ok (.iload 6, 2) := by decide +kernel
theorem dL_law_198 : decode cL_law 198 = .ok (.i2l, 1) := by decide +kernel
theorem dL_law_199 : decode cL_law 199 = .ok (.lcmp, 1) := by decide +kernel
theorem dL_law_200 : decode cL_law 200 = .ok (.ifCond .eq 5, 3) := by decide +kernel
theorem dL_law_203 : decode cL_law 203 = .ok (.iconst 0, 1) := by decide +kernel
theorem dL_law_204 : decode cL_law 204 = .ok (.ireturn, 1) := by decide +kernel
theorem dL_law_205 : decode cL_law 205 = .ok (.goto 1054, 3) := by decide +kernel
theorem dL_law_208 : decode cL_law 208 = .ok (.aload_n 1, 1) := by decide +kernel
theorem dL_law_209 : decode cL_law 209 = .ok (.aload_n 0, 1) := by decide +kernel
theorem dL_law_210 : decode cL_law 210 = .ok (.iload 4, 2) := by decide +kernel
theorem dL_law_212 : decode cL_law 212 = .ok (.iconst 1, 1) := by decide +kernel
theorem dL_law_213 : decode cL_law 213 = .ok (.iadd, 1) := by decide +kernel
theorem dL_law_214 : decode cL_law 214 = .ok (.iaload, 1) := by decide +kernel
theorem dL_law_215 : decode cL_law 215 = .ok (.aload_n 0, 1) := by decide +kernel
theorem dL_law_216 : decode cL_law 216 = .ok (.iload 4, 2) := by decide +kernel
theorem dL_law_218 : decode cL_law 218 = .ok (.iconst 2, 1) := by decide +kernel
theorem dL_law_219 : decode cL_law 219 = .ok (.iadd, 1) := by decide +kernel
theorem dL_law_220 : decode cL_law 220 = .ok (.iaload, 1) := by decide +kernel
theorem dL_law_221 : decode cL_law 221 = .ok (.aload_n 0, 1) := by decide +kernel
theorem dL_law_222 : decode cL_law 222 = .ok (.iload 4, 2) := by decide +kernel
theorem dL_law_224 : decode cL_law 224 = .ok (.iconst 3, 1) := by decide +kernel
theorem dL_law_225 : decode cL_law 225 = .ok (.iadd, 1) := by decide +kernel
theorem dL_law_226 : decode cL_law 226 = .ok (.iaload, 1) := by decide +kernel
theorem dL_law_227 : decode cL_law 227 = .ok (.aload_n 0, 1) := by decide +kernel
theorem dL_law_228 : decode cL_law 228 = .ok (.iload 4, 2) := by decide +kernel
theorem dL_law_230 : decode cL_law 230 = .ok (.iconst 4, 1) := by decide +kernel
theorem dL_law_231 : decode cL_law 231 = .ok (.iadd, 1) := by decide +kernel
theorem dL_law_232 : decode cL_law 232 = .ok (.iaload, 1) := by decide +kernel
theorem dL_law_233 : decode cL_law 233 = .ok (.aload_n 3, 1) := by decide +kernel
theorem dL_law_234 : decode cL_law 234 = .ok (.invokestatic 79, 3) := by decide +kernel
theorem dL_law_237 : decode cL_law 237 = .ok (.istore 5, 2) := by decide +kernel
theorem dL_law_239 : decode cL_law 239 = .ok (.aload_n 2, 1) := by decide +kernel
theorem dL_law_240 : decode cL_law 240 = .ok (.aload_n 0, 1) := by decide +kernel
theorem dL_law_241 : decode cL_law 241 = .ok (.iload 4, 2) := by decide +kernel
theorem dL_law_243 : decode cL_law 243 = .ok (.iconst 1, 1) := by decide +kernel
theorem dL_law_244 : decode cL_law 244 = .ok (.iadd, 1) := by decide +kernel
theorem dL_law_245 : decode cL_law 245 = .ok (.iaload, 1) := by decide +kernel
theorem dL_law_246 : decode cL_law 246 = .ok (.aload_n 0, 1) := by decide +kernel
theorem dL_law_247 : decode cL_law 247 = .ok (.iload 4, 2) := by decide +kernel
theorem dL_law_249 : decode cL_law 249 = .ok (.iconst 2, 1) := by decide +kernel
theorem dL_law_250 : decode cL_law 250 = .ok (.iadd, 1) := by decide +kernel
theorem dL_law_251 : decode cL_law 251 = .ok (.iaload, 1) := by decide +kernel
theorem dL_law_252 : decode cL_law 252 = .ok (.aload_n 0, 1) := by decide +kernel
theorem dL_law_253 : decode cL_law 253 = .ok (.iload 4, 2) := by decide +kernel
theorem dL_law_255 : decode cL_law 255 = .ok (.iconst 3, 1) := by decide +kernel
theorem dL_law_256 : decode cL_law 256 = .ok (.iadd, 1) := by decide +kernel
theorem dL_law_257 : decode cL_law 257 = .ok (.iaload, 1) := by decide +kernel
theorem dL_law_258 : decode cL_law 258 = .ok (.aload_n 0, 1) := by decide +kernel
theorem dL_law_259 : decode cL_law 259 = .ok (.iload 4, 2) := by decide +kernel
theorem dL_law_261 : decode cL_law 261 = .ok (.iconst 4, 1) := by decide +kernel
theorem dL_law_262 : decode cL_law 262 = .ok (.iadd, 1) := by decide +kernel
theorem dL_law_263 : decode cL_law 263 = .ok (.iaload, 1) := by decide +kernel
theorem dL_law_264 : decode cL_law 264 = .ok (.invokevirtual 81, 3) := by decide +kernel
theorem dL_law_267 : decode cL_law 267 = .ok (.istore 6, 2) := by decide +kernel
theorem dL_law_269 : decode cL_law 269 = .ok (.aload_n 2, 1) := by decide +kernel
theorem dL_law_270 : decode cL_law 270 = .ok (.invokevirtual 75, 3) := by decide +kernel
theorem dL_law_273 : decode cL_law 273 = .ok (.iload 5, 2) := by decide +kernel
theorem dL_law_275 : decode cL_law 275 = .ok (.if_icmp .eq 5, 3) := by decide +kernel
theorem dL_law_278 : decode cL_law 278 = .ok (.iconst 0, 1) := by decide +kernel
theorem dL_law_279 : decode cL_law 279 = .ok (.ireturn, 1) := by decide +kernel
theorem dL_law_280 : decode cL_law 280 = .ok (.iload 5, 2) := by decide +kernel
theorem dL_law_282 : decode cL_law 282 = .ok (.ifCond .ne 15, 3) := by decide +kernel
theorem dL_law_285 : decode cL_law 285 = .ok (.aload_n 3, 1) := by decide +kernel
theorem dL_law_286 : decode cL_law 286 = .ok (.iconst 0, 1) := by decide +kernel
theorem dL_law_287 : decode cL_law 287 = .ok (.laload, 1) := by decide +kernel
theorem dL_law_288 : decode cL_law 288 = .ok (.iload 6, 2) := by decide +kernel
theorem dL_law_290 : decode cL_law 290 = .ok (.i2l, 1) := by decide +kernel
theorem dL_law_291 : decode cL_law 291 = .ok (.lcmp, 1) := by decide +kernel
theorem dL_law_292 : decode cL_law 292 = .ok (.ifCond .eq 5, 3) := by decide +kernel
theorem dL_law_295 : decode cL_law 295 = .ok (.iconst 0, 1) := by decide +kernel
theorem dL_law_296 : decode cL_law 296 = .ok (.ireturn, 1) := by decide +kernel
theorem dL_law_297 : decode cL_law 297 = .ok (.goto 962, 3) := by decide +kernel
theorem dL_law_300 : decode cL_law 300 = .ok (.aload_n 1, 1) := by decide +kernel
theorem dL_law_301 : decode cL_law 301 = .ok (.aload_n 0, 1) := by decide +kernel
theorem dL_law_302 : decode cL_law 302 = .ok (.iload 4, 2) := by decide +kernel
theorem dL_law_304 : decode cL_law 304 = .ok (.iconst 1, 1) := by decide +kernel
theorem dL_law_305 : decode cL_law 305 = .ok (.iadd, 1) := by decide +kernel
theorem dL_law_306 : decode cL_law 306 = .ok (.iaload, 1) := by decide +kernel
theorem dL_law_307 : decode cL_law 307 = .ok (.aload_n 0, 1) := by decide +kernel
theorem dL_law_308 : decode cL_law 308 = .ok (.iload 4, 2) := by decide +kernel
theorem dL_law_310 : decode cL_law 310 = .ok (.iconst 2, 1) := by decide +kernel
theorem dL_law_311 : decode cL_law 311 = .ok (.iadd, 1) := by decide +kernel
theorem dL_law_312 : decode cL_law 312 = .ok (.iaload, 1) := by decide +kernel
theorem dL_law_313 : decode cL_law 313 = .ok (.aload_n 3, 1) := by decide +kernel
theorem dL_law_314 : decode cL_law 314 = .ok (.invokestatic 82, 3) := by decide +kernel
theorem dL_law_317 : decode cL_law 317 = .ok (.istore 5, 2) := by decide +kernel
theorem dL_law_319 : decode cL_law 319 = .ok (.aload_n 2, 1) := by decide +kernel
theorem dL_law_320 : decode cL_law 320 = .ok (.aload_n 0, 1) := by decide +kernel
theorem dL_law_321 : decode cL_law 321 = .ok (.iload 4, 2) := by decide +kernel
theorem dL_law_323 : decode cL_law 323 = .ok (.iconst 1, 1) := by decide +kernel
theorem dL_law_324 : decode cL_law 324 = .ok (.iadd, 1) := by decide +kernel
theorem dL_law_325 : decode cL_law 325 = .ok (.iaload, 1) := by decide +kernel
theorem dL_law_326 : decode cL_law 326 = .ok (.aload_n 0, 1) := by decide +kernel
theorem dL_law_327 : decode cL_law 327 = .ok (.iload 4, 2) := by decide +kernel
theorem dL_law_329 : decode cL_law 329 = .ok (.iconst 2, 1) := by decide +kernel
theorem dL_law_330 : decode cL_law 330 = .ok (.iadd, 1) := by decide +kernel
theorem dL_law_331 : decode cL_law 331 = .ok (.iaload, 1) := by decide +kernel
theorem dL_law_332 : decode cL_law 332 = .ok (.invokevirtual 85, 3) := by decide +kernel
theorem dL_law_335 : decode cL_law 335 = .ok (.istore 6, 2) := by decide +kernel
theorem dL_law_337 : decode cL_law 337 = .ok (.aload_n 2, 1) := by decide +kernel
theorem dL_law_338 : decode cL_law 338 = .ok (.invokevirtual 75, 3) := by decide +kernel
theorem dL_law_341 : decode cL_law 341 = .ok (.iload 5, 2) := by decide +kernel
theorem dL_law_343 : decode cL_law 343 = .ok (.if_icmp .eq 5, 3) := by decide +kernel
theorem dL_law_346 : decode cL_law 346 = .ok (.iconst 0, 1) := by decide +kernel
theorem dL_law_347 : decode cL_law 347 = .ok (.ireturn, 1) := by decide +kernel
theorem dL_law_348 : decode cL_law 348 = .ok (.iload 5, 2) := by decide +kernel
theorem dL_law_350 : decode cL_law 350 = .ok (.ifCond .ne 15, 3) := by decide +kernel
theorem dL_law_353 : decode cL_law 353 = .ok (.aload_n 3, 1) := by decide +kernel
theorem dL_law_354 : decode cL_law 354 = .ok (.iconst 0, 1) := by decide +kernel
theorem dL_law_355 : decode cL_law 355 = .ok (.laload, 1) := by decide +kernel
theorem dL_law_356 : decode cL_law 356 = .ok (.iload 6, 2) := by decide +kernel
theorem dL_law_358 : decode cL_law 358 = .ok (.i2l, 1) := by decide +kernel
theorem dL_law_359 : decode cL_law 359 = .ok (.lcmp, 1) := by decide +kernel
theorem dL_law_360 : decode cL_law 360 = .ok (.ifCond .eq 5, 3) := by decide +kernel
theorem dL_law_363 : decode cL_law 363 = .ok (.iconst 0, 1) := by decide +kernel
theorem dL_law_364 : decode cL_law 364 = .ok (.ireturn, 1) := by decide +kernel
theorem dL_law_365 : decode cL_law 365 = .ok (.goto 894, 3) := by decide +kernel
theorem dL_law_368 : decode cL_law 368 = .ok (.aload_n 1, 1) := by decide +kernel
theorem dL_law_369 : decode cL_law 369 = .ok (.aload_n 0, 1) := by decide +kernel
theorem dL_law_370 : decode cL_law 370 = .ok (.iload 4, 2) := by decide +kernel
theorem dL_law_372 : decode cL_law 372 = .ok (.iconst 1, 1) := by decide +kernel
theorem dL_law_373 : decode cL_law 373 = .ok (.iadd, 1) := by decide +kernel
theorem dL_law_374 : decode cL_law 374 = .ok (.iaload, 1) := by decide +kernel
theorem dL_law_375 : decode cL_law 375 = .ok (.aload_n 0, 1) := by decide +kernel
theorem dL_law_376 : decode cL_law 376 = .ok (.iload 4, 2) := by decide +kernel
theorem dL_law_378 : decode cL_law 378 = .ok (.iconst 2, 1) := by decide +kernel
theorem dL_law_379 : decode cL_law 379 = .ok (.iadd, 1) := by decide +kernel
theorem dL_law_380 : decode cL_law 380 = .ok (.iaload, 1) := by decide +kernel
theorem dL_law_381 : decode cL_law 381 = .ok (.aload_n 0, 1) := by decide +kernel
theorem dL_law_382 : decode cL_law 382 = .ok (.iload 4, 2) := by decide +kernel
theorem dL_law_384 : decode cL_law 384 = .ok (.iconst 3, 1) := by decide +kernel
theorem dL_law_385 : decode cL_law 385 = .ok (.iadd, 1) := by decide +kernel
theorem dL_law_386 : decode cL_law 386 = .ok (.iaload, 1) := by decide +kernel
theorem dL_law_387 : decode cL_law 387 = .ok (.aload_n 3, 1) := by decide +kernel
theorem dL_law_388 : decode cL_law 388 = .ok (.invokestatic 86, 3) := by decide +kernel
theorem dL_law_391 : decode cL_law 391 = .ok (.istore 5, 2) := by decide +kernel
theorem dL_law_393 : decode cL_law 393 = .ok (.aload_n 2, 1) := by decide +kernel
theorem dL_law_394 : decode cL_law 394 = .ok (.aload_n 0, 1) := by decide +kernel
theorem dL_law_395 : decode cL_law 395 = .ok (.iload 4, 2) := by decide +kernel
theorem dL_law_397 : decode cL_law 397 = .ok (.iconst 1, 1) := by decide +kernel
theorem dL_law_398 : decode cL_law 398 = .ok (.iadd, 1) := by decide +kernel
theorem dL_law_399 : decode cL_law 399 = .ok (.iaload, 1) := by decide +kernel
theorem dL_law_400 : decode cL_law 400 = .ok (.aload_n 0, 1) := by decide +kernel
theorem dL_law_401 : decode cL_law 401 = .ok (.iload 4, 2) := by decide +kernel
theorem dL_law_403 : decode cL_law 403 = .ok (.iconst 2, 1) := by decide +kernel
theorem dL_law_404 : decode cL_law 404 = .ok (.iadd, 1) := by decide +kernel
theorem dL_law_405 : decode cL_law 405 = .ok (.iaload, 1) := by decide +kernel
theorem dL_law_406 : decode cL_law 406 = .ok (.aload_n 0, 1) := by decide +kernel
theorem dL_law_407 : decode cL_law 407 = .ok (.iload 4, 2) := by decide +kernel
theorem dL_law_409 : decode cL_law 409 = .ok (.iconst 3, 1) := by decide +kernel
theorem dL_law_410 : decode cL_law 410 = .ok (.iadd, 1) := by decide +kernel
theorem dL_law_411 : decode cL_law 411 = .ok (.iaload, 1) := by decide +kernel
theorem dL_law_412 : decode cL_law 412 = .ok (.invokevirtual 89, 3) := by decide +kernel
theorem dL_law_415 : decode cL_law 415 = .ok (.istore 6, 2) := by decide +kernel
theorem dL_law_417 : decode cL_law 417 = .ok (.aload_n 2, 1) := by decide +kernel
theorem dL_law_418 : decode cL_law 418 = .ok (.invokevirtual 75, 3) := by decide +kernel
theorem dL_law_421 : decode cL_law 421 = .ok (.iload 5, 2) := by decide +kernel
theorem dL_law_423 : decode cL_law 423 = .ok (.if_icmp .eq 5, 3) := by decide +kernel
theorem dL_law_426 : decode cL_law 426 = .ok (.iconst 0, 1) := by decide +kernel
theorem dL_law_427 : decode cL_law 427 = .ok (.ireturn, 1) := by decide +kernel
theorem dL_law_428 : decode cL_law 428 = .ok (.iload 5, 2) := by decide +kernel
theorem dL_law_430 : decode cL_law 430 = .ok (.ifCond .ne 15, 3) := by decide +kernel
theorem dL_law_433 : decode cL_law 433 = .ok (.aload_n 3, 1) := by decide +kernel
theorem dL_law_434 : decode cL_law 434 = .ok (.iconst 0, 1) := by decide +kernel
theorem dL_law_435 : decode cL_law 435 = .ok (.laload, 1) := by decide +kernel
theorem dL_law_436 : decode cL_law 436 = .ok (.iload 6, 2) := by decide +kernel
theorem dL_law_438 : decode cL_law 438 = .ok (.i2l, 1) := by decide +kernel
theorem dL_law_439 : decode cL_law 439 = .ok (.lcmp, 1) := by decide +kernel
theorem dL_law_440 : decode cL_law 440 = .ok (.ifCond .eq 5, 3) := by decide +kernel
theorem dL_law_443 : decode cL_law 443 = .ok (.iconst 0, 1) := by decide +kernel
theorem dL_law_444 : decode cL_law 444 = .ok (.ireturn, 1) := by decide +kernel
theorem dL_law_445 : decode cL_law 445 = .ok (.goto 814, 3) := by decide +kernel
theorem dL_law_448 : decode cL_law 448 = .ok (.aload_n 1, 1) := by decide +kernel
theorem dL_law_449 : decode cL_law 449 = .ok (.aload_n 0, 1) := by decide +kernel
theorem dL_law_450 : decode cL_law 450 = .ok (.iload 4, 2) := by decide +kernel
theorem dL_law_452 : decode cL_law 452 = .ok (.iconst 1, 1) := by decide +kernel
theorem dL_law_453 : decode cL_law 453 = .ok (.iadd, 1) := by decide +kernel
theorem dL_law_454 : decode cL_law 454 = .ok (.iaload, 1) := by decide +kernel
theorem dL_law_455 : decode cL_law 455 = .ok (.aload_n 0, 1) := by decide +kernel
theorem dL_law_456 : decode cL_law 456 = .ok (.iload 4, 2) := by decide +kernel
theorem dL_law_458 : decode cL_law 458 = .ok (.iconst 2, 1) := by decide +kernel
theorem dL_law_459 : decode cL_law 459 = .ok (.iadd, 1) := by decide +kernel
theorem dL_law_460 : decode cL_law 460 = .ok (.iaload, 1) := by decide +kernel
theorem dL_law_461 : decode cL_law 461 = .ok (.aload_n 3, 1) := by decide +kernel
theorem dL_law_462 : decode cL_law 462 = .ok (.invokestatic 90, 3) := by decide +kernel
theorem dL_law_465 : decode cL_law 465 = .ok (.istore 5, 2) := by decide +kernel
theorem dL_law_467 : decode cL_law 467 = .ok (.aload_n 2, 1) := by decide +kernel
theorem dL_law_468 : decode cL_law 468 = .ok (.aload_n 0, 1) := by decide +kernel
theorem dL_law_469 : decode cL_law 469 = .ok (.iload 4, 2) := by decide +kernel
theorem dL_law_471 : decode cL_law 471 = .ok (.iconst 1, 1) := by decide +kernel
theorem dL_law_472 : decode cL_law 472 = .ok (.iadd, 1) := by decide +kernel
theorem dL_law_473 : decode cL_law 473 = .ok (.iaload, 1) := by decide +kernel
theorem dL_law_474 : decode cL_law 474 = .ok (.aload_n 0, 1) := by decide +kernel
theorem dL_law_475 : decode cL_law 475 = .ok (.iload 4, 2) := by decide +kernel
theorem dL_law_477 : decode cL_law 477 = .ok (.iconst 2, 1) := by decide +kernel
theorem dL_law_478 : decode cL_law 478 = .ok (.iadd, 1) := by decide +kernel
theorem dL_law_479 : decode cL_law 479 = .ok (.iaload, 1) := by decide +kernel
theorem dL_law_480 : decode cL_law 480 = .ok (.invokevirtual 92, 3) := by decide +kernel
theorem dL_law_483 : decode cL_law 483 = .ok (.istore 6, 2) := by decide +kernel
theorem dL_law_485 : decode cL_law 485 = .ok (.aload_n 2, 1) := by decide +kernel
theorem dL_law_486 : decode cL_law 486 = .ok (.invokevirtual 75, 3) := by decide +kernel
theorem dL_law_489 : decode cL_law 489 = .ok (.iload 5, 2) := by decide +kernel
theorem dL_law_491 : decode cL_law 491 = .ok (.if_icmp .eq 5, 3) := by decide +kernel
theorem dL_law_494 : decode cL_law 494 = .ok (.iconst 0, 1) := by decide +kernel
theorem dL_law_495 : decode cL_law 495 = .ok (.ireturn, 1) := by decide +kernel
theorem dL_law_496 : decode cL_law 496 = .ok (.iload 5, 2) := by decide +kernel
theorem dL_law_498 : decode cL_law 498 = .ok (.ifCond .ne 15, 3) := by decide +kernel
theorem dL_law_501 : decode cL_law 501 = .ok (.aload_n 3, 1) := by decide +kernel
theorem dL_law_502 : decode cL_law 502 = .ok (.iconst 0, 1) := by decide +kernel
theorem dL_law_503 : decode cL_law 503 = .ok (.laload, 1) := by decide +kernel
theorem dL_law_504 : decode cL_law 504 = .ok (.iload 6, 2) := by decide +kernel
theorem dL_law_506 : decode cL_law 506 = .ok (.i2l, 1) := by decide +kernel
theorem dL_law_507 : decode cL_law 507 = .ok (.lcmp, 1) := by decide +kernel
theorem dL_law_508 : decode cL_law 508 = .ok (.ifCond .eq 5, 3) := by decide +kernel
theorem dL_law_511 : decode cL_law 511 = .ok (.iconst 0, 1) := by decide +kernel
theorem dL_law_512 : decode cL_law 512 = .ok (.ireturn, 1) := by decide +kernel
theorem dL_law_513 : decode cL_law 513 = .ok (.goto 746, 3) := by decide +kernel
theorem dL_law_516 : decode cL_law 516 = .ok (.aload_n 1, 1) := by decide +kernel
theorem dL_law_517 : decode cL_law 517 = .ok (.aload_n 0, 1) := by decide +kernel
theorem dL_law_518 : decode cL_law 518 = .ok (.iload 4, 2) := by decide +kernel
theorem dL_law_520 : decode cL_law 520 = .ok (.iconst 1, 1) := by decide +kernel
theorem dL_law_521 : decode cL_law 521 = .ok (.iadd, 1) := by decide +kernel
theorem dL_law_522 : decode cL_law 522 = .ok (.iaload, 1) := by decide +kernel
theorem dL_law_523 : decode cL_law 523 = .ok (.aload_n 0, 1) := by decide +kernel
theorem dL_law_524 : decode cL_law 524 = .ok (.iload 4, 2) := by decide +kernel
theorem dL_law_526 : decode cL_law 526 = .ok (.iconst 2, 1) := by decide +kernel
theorem dL_law_527 : decode cL_law 527 = .ok (.iadd, 1) := by decide +kernel
theorem dL_law_528 : decode cL_law 528 = .ok (.iaload, 1) := by decide +kernel
theorem dL_law_529 : decode cL_law 529 = .ok (.aload_n 3, 1) := by decide +kernel
theorem dL_law_530 : decode cL_law 530 = .ok (.invokestatic 93, 3) := by decide +kernel
theorem dL_law_533 : decode cL_law 533 = .ok (.istore 5, 2) := by decide +kernel
theorem dL_law_535 : decode cL_law 535 = .ok (.aload_n 2, 1) := by decide +kernel
theorem dL_law_536 : decode cL_law 536 = .ok (.aload_n 0, 1) := by decide +kernel
theorem dL_law_537 : decode cL_law 537 = .ok (.iload 4, 2) := by decide +kernel
theorem dL_law_539 : decode cL_law 539 = .ok (.iconst 1, 1) := by decide +kernel
theorem dL_law_540 : decode cL_law 540 = .ok (.iadd, 1) := by decide +kernel
theorem dL_law_541 : decode cL_law 541 = .ok (.iaload, 1) := by decide +kernel
theorem dL_law_542 : decode cL_law 542 = .ok (.aload_n 0, 1) := by decide +kernel
theorem dL_law_543 : decode cL_law 543 = .ok (.iload 4, 2) := by decide +kernel
theorem dL_law_545 : decode cL_law 545 = .ok (.iconst 2, 1) := by decide +kernel
theorem dL_law_546 : decode cL_law 546 = .ok (.iadd, 1) := by decide +kernel
theorem dL_law_547 : decode cL_law 547 = .ok (.iaload, 1) := by decide +kernel
theorem dL_law_548 : decode cL_law 548 = .ok (.invokevirtual 95, 3) := by decide +kernel
theorem dL_law_551 : decode cL_law 551 = .ok (.istore 6, 2) := by decide +kernel
theorem dL_law_553 : decode cL_law 553 = .ok (.aload_n 2, 1) := by decide +kernel
theorem dL_law_554 : decode cL_law 554 = .ok (.invokevirtual 75, 3) := by decide +kernel
theorem dL_law_557 : decode cL_law 557 = .ok (.iload 5, 2) := by decide +kernel
theorem dL_law_559 : decode cL_law 559 = .ok (.if_icmp .eq 5, 3) := by decide +kernel
theorem dL_law_562 : decode cL_law 562 = .ok (.iconst 0, 1) := by decide +kernel
theorem dL_law_563 : decode cL_law 563 = .ok (.ireturn, 1) := by decide +kernel
theorem dL_law_564 : decode cL_law 564 = .ok (.iload 5, 2) := by decide +kernel
theorem dL_law_566 : decode cL_law 566 = .ok (.ifCond .ne 15, 3) := by decide +kernel
theorem dL_law_569 : decode cL_law 569 = .ok (.aload_n 3, 1) := by decide +kernel
theorem dL_law_570 : decode cL_law 570 = .ok (.iconst 0, 1) := by decide +kernel
theorem dL_law_571 : decode cL_law 571 = .ok (.laload, 1) := by decide +kernel
theorem dL_law_572 : decode cL_law 572 = .ok (.iload 6, 2) := by decide +kernel
theorem dL_law_574 : decode cL_law 574 = .ok (.i2l, 1) := by decide +kernel
theorem dL_law_575 : decode cL_law 575 = .ok (.lcmp, 1) := by decide +kernel
theorem dL_law_576 : decode cL_law 576 = .ok (.ifCond .eq 5, 3) := by decide +kernel
theorem dL_law_579 : decode cL_law 579 = .ok (.iconst 0, 1) := by decide +kernel
theorem dL_law_580 : decode cL_law 580 = .ok (.ireturn, 1) := by decide +kernel
theorem dL_law_581 : decode cL_law 581 = .ok (.goto 678, 3) := by decide +kernel
theorem dL_law_584 : decode cL_law 584 = .ok (.aload_n 1, 1) := by decide +kernel
theorem dL_law_585 : decode cL_law 585 = .ok (.aload_n 0, 1) := by decide +kernel
theorem dL_law_586 : decode cL_law 586 = .ok (.iload 4, 2) := by decide +kernel
theorem dL_law_588 : decode cL_law 588 = .ok (.iconst 1, 1) := by decide +kernel
theorem dL_law_589 : decode cL_law 589 = .ok (.iadd, 1) := by decide +kernel
theorem dL_law_590 : decode cL_law 590 = .ok (.iaload, 1) := by decide +kernel
theorem dL_law_591 : decode cL_law 591 = .ok (.aload_n 3, 1) := by decide +kernel
theorem dL_law_592 : decode cL_law 592 = .ok (.invokestatic 96, 3) := by decide +kernel
theorem dL_law_595 : decode cL_law 595 = .ok (.istore 5, 2) := by decide +kernel
theorem dL_law_597 : decode cL_law 597 = .ok (.aload_n 2, 1) := by decide +kernel
theorem dL_law_598 : decode cL_law 598 = .ok (.aload_n 0, 1) := by decide +kernel
theorem dL_law_599 : decode cL_law 599 = .ok (.iload 4, 2) := by decide +kernel
theorem dL_law_601 : decode cL_law 601 = .ok (.iconst 1, 1) := by decide +kernel
theorem dL_law_602 : decode cL_law 602 = .ok (.iadd, 1) := by decide +kernel
theorem dL_law_603 : decode cL_law 603 = .ok (.iaload, 1) := by decide +kernel
theorem dL_law_604 : decode cL_law 604 = .ok (.invokevirtual 99, 3) := by decide +kernel
theorem dL_law_607 : decode cL_law 607 = .ok (.istore 6, 2) := by decide +kernel
theorem dL_law_609 : decode cL_law 609 = .ok (.aload_n 2, 1) := by decide +kernel
theorem dL_law_610 : decode cL_law 610 = .ok (.invokevirtual 75, 3) := by decide +kernel
theorem dL_law_613 : decode cL_law 613 = .ok (.iload 5, 2) := by decide +kernel
theorem dL_law_615 : decode cL_law 615 = .ok (.if_icmp .eq 5, 3) := by decide +kernel
theorem dL_law_618 : decode cL_law 618 = .ok (.iconst 0, 1) := by decide +kernel
theorem dL_law_619 : decode cL_law 619 = .ok (.ireturn, 1) := by decide +kernel
theorem dL_law_620 : decode cL_law 620 = .ok (.iload 5, 2) := by decide +kernel
theorem dL_law_622 : decode cL_law 622 = .ok (.ifCond .ne 15, 3) := by decide +kernel
theorem dL_law_625 : decode cL_law 625 = .ok (.aload_n 3, 1) := by decide +kernel
theorem dL_law_626 : decode cL_law 626 = .ok (.iconst 0, 1) := by decide +kernel
theorem dL_law_627 : decode cL_law 627 = .ok (.laload, 1) := by decide +kernel
theorem dL_law_628 : decode cL_law 628 = .ok (.iload 6, 2) := by decide +kernel
theorem dL_law_630 : decode cL_law 630 = .ok (.i2l, 1) := by decide +kernel
theorem dL_law_631 : decode cL_law 631 = .ok (.lcmp, 1) := by decide +kernel
theorem dL_law_632 : decode cL_law 632 = .ok (.ifCond .eq 5, 3) := by decide +kernel
theorem dL_law_635 : decode cL_law 635 = .ok (.iconst 0, 1) := by decide +kernel
theorem dL_law_636 : decode cL_law 636 = .ok (.ireturn, 1) := by decide +kernel
theorem dL_law_637 : decode cL_law 637 = .ok (.goto 622, 3) := by decide +kernel
theorem dL_law_640 : decode cL_law 640 = .ok (.aload_n 1, 1) := by decide +kernel
theorem dL_law_641 : decode cL_law 641 = .ok (.aload_n 0, 1) := by decide +kernel
theorem dL_law_642 : decode cL_law 642 = .ok (.iload 4, 2) := by decide +kernel
theorem dL_law_644 : decode cL_law 644 = .ok (.iconst 1, 1) := by decide +kernel
theorem dL_law_645 : decode cL_law 645 = .ok (.iadd, 1) := by decide +kernel
theorem dL_law_646 : decode cL_law 646 = .ok (.iaload, 1) := by decide +kernel
theorem dL_law_647 : decode cL_law 647 = .ok (.aload_n 0, 1) := by decide +kernel
theorem dL_law_648 : decode cL_law 648 = .ok (.iload 4, 2) := by decide +kernel
theorem dL_law_650 : decode cL_law 650 = .ok (.iconst 2, 1) := by decide +kernel
theorem dL_law_651 : decode cL_law 651 = .ok (.iadd, 1) := by decide +kernel
theorem dL_law_652 : decode cL_law 652 = .ok (.iaload, 1) := by decide +kernel
theorem dL_law_653 : decode cL_law 653 = .ok (.aload_n 0, 1) := by decide +kernel
theorem dL_law_654 : decode cL_law 654 = .ok (.iload 4, 2) := by decide +kernel
theorem dL_law_656 : decode cL_law 656 = .ok (.iconst 3, 1) := by decide +kernel
theorem dL_law_657 : decode cL_law 657 = .ok (.iadd, 1) := by decide +kernel
theorem dL_law_658 : decode cL_law 658 = .ok (.iaload, 1) := by decide +kernel
theorem dL_law_659 : decode cL_law 659 = .ok (.aload_n 0, 1) := by decide +kernel
theorem dL_law_660 : decode cL_law 660 = .ok (.iload 4, 2) := by decide +kernel
theorem dL_law_662 : decode cL_law 662 = .ok (.iconst 4, 1) := by decide +kernel
theorem dL_law_663 : decode cL_law 663 = .ok (.iadd, 1) := by decide +kernel
theorem dL_law_664 : decode cL_law 664 = .ok (.iaload, 1) := by decide +kernel
theorem dL_law_665 : decode cL_law 665 = .ok (.aload_n 3, 1) := by decide +kernel
theorem dL_law_666 : decode cL_law 666 = .ok (.invokestatic 100, 3) := by decide +kernel
theorem dL_law_669 : decode cL_law 669 = .ok (.istore 5, 2) := by decide +kernel
theorem dL_law_671 : decode cL_law 671 = .ok (.aload_n 2, 1) := by decide +kernel
theorem dL_law_672 : decode cL_law 672 = .ok (.aload_n 0, 1) := by decide +kernel
theorem dL_law_673 : decode cL_law 673 = .ok (.iload 4, 2) := by decide +kernel
theorem dL_law_675 : decode cL_law 675 = .ok (.iconst 1, 1) := by decide +kernel
theorem dL_law_676 : decode cL_law 676 = .ok (.iadd, 1) := by decide +kernel
theorem dL_law_677 : decode cL_law 677 = .ok (.iaload, 1) := by decide +kernel
theorem dL_law_678 : decode cL_law 678 = .ok (.aload_n 0, 1) := by decide +kernel
theorem dL_law_679 : decode cL_law 679 = .ok (.iload 4, 2) := by decide +kernel
theorem dL_law_681 : decode cL_law 681 = .ok (.iconst 2, 1) := by decide +kernel
theorem dL_law_682 : decode cL_law 682 = .ok (.iadd, 1) := by decide +kernel
theorem dL_law_683 : decode cL_law 683 = .ok (.iaload, 1) := by decide +kernel
theorem dL_law_684 : decode cL_law 684 = .ok (.aload_n 0, 1) := by decide +kernel
theorem dL_law_685 : decode cL_law 685 = .ok (.iload 4, 2) := by decide +kernel
theorem dL_law_687 : decode cL_law 687 = .ok (.iconst 3, 1) := by decide +kernel
theorem dL_law_688 : decode cL_law 688 = .ok (.iadd, 1) := by decide +kernel
theorem dL_law_689 : decode cL_law 689 = .ok (.iaload, 1) := by decide +kernel
theorem dL_law_690 : decode cL_law 690 = .ok (.aload_n 0, 1) := by decide +kernel
theorem dL_law_691 : decode cL_law 691 = .ok (.iload 4, 2) := by decide +kernel
theorem dL_law_693 : decode cL_law 693 = .ok (.iconst 4, 1) := by decide +kernel
theorem dL_law_694 : decode cL_law 694 = .ok (.iadd, 1) := by decide +kernel
theorem dL_law_695 : decode cL_law 695 = .ok (.iaload, 1) := by decide +kernel
theorem dL_law_696 : decode cL_law 696 = .ok (.invokevirtual 102, 3) := by decide +kernel
theorem dL_law_699 : decode cL_law 699 = .ok (.istore 6, 2) := by decide +kernel
theorem dL_law_701 : decode cL_law 701 = .ok (.aload_n 2, 1) := by decide +kernel
theorem dL_law_702 : decode cL_law 702 = .ok (.invokevirtual 75, 3) := by decide +kernel
theorem dL_law_705 : decode cL_law 705 = .ok (.iload 5, 2) := by decide +kernel
theorem dL_law_707 : decode cL_law 707 = .ok (.if_icmp .eq 5, 3) := by decide +kernel
theorem dL_law_710 : decode cL_law 710 = .ok (.iconst 0, 1) := by decide +kernel
theorem dL_law_711 : decode cL_law 711 = .ok (.ireturn, 1) := by decide +kernel
theorem dL_law_712 : decode cL_law 712 = .ok (.iload 5, 2) := by decide +kernel
theorem dL_law_714 : decode cL_law 714 = .ok (.ifCond .ne 15, 3) := by decide +kernel
theorem dL_law_717 : decode cL_law 717 = .ok (.aload_n 3, 1) := by decide +kernel
theorem dL_law_718 : decode cL_law 718 = .ok (.iconst 0, 1) := by decide +kernel
theorem dL_law_719 : decode cL_law 719 = .ok (.laload, 1) := by decide +kernel
theorem dL_law_720 : decode cL_law 720 = .ok (.iload 6, 2) := by decide +kernel
theorem dL_law_722 : decode cL_law 722 = .ok (.i2l, 1) := by decide +kernel
theorem dL_law_723 : decode cL_law 723 = .ok (.lcmp, 1) := by decide +kernel
theorem dL_law_724 : decode cL_law 724 = .ok (.ifCond .eq 5, 3) := by decide +kernel
theorem dL_law_727 : decode cL_law 727 = .ok (.iconst 0, 1) := by decide +kernel
theorem dL_law_728 : decode cL_law 728 = .ok (.ireturn, 1) := by decide +kernel
theorem dL_law_729 : decode cL_law 729 = .ok (.goto 530, 3) := by decide +kernel
theorem dL_law_732 : decode cL_law 732 = .ok (.aload_n 1, 1) := by decide +kernel
theorem dL_law_733 : decode cL_law 733 = .ok (.aload_n 0, 1) := by decide +kernel
theorem dL_law_734 : decode cL_law 734 = .ok (.iload 4, 2) := by decide +kernel
theorem dL_law_736 : decode cL_law 736 = .ok (.iconst 1, 1) := by decide +kernel
theorem dL_law_737 : decode cL_law 737 = .ok (.iadd, 1) := by decide +kernel
theorem dL_law_738 : decode cL_law 738 = .ok (.iaload, 1) := by decide +kernel
theorem dL_law_739 : decode cL_law 739 = .ok (.aload_n 0, 1) := by decide +kernel
theorem dL_law_740 : decode cL_law 740 = .ok (.iload 4, 2) := by decide +kernel
theorem dL_law_742 : decode cL_law 742 = .ok (.iconst 2, 1) := by decide +kernel
theorem dL_law_743 : decode cL_law 743 = .ok (.iadd, 1) := by decide +kernel
theorem dL_law_744 : decode cL_law 744 = .ok (.iaload, 1) := by decide +kernel
theorem dL_law_745 : decode cL_law 745 = .ok (.aload_n 0, 1) := by decide +kernel
theorem dL_law_746 : decode cL_law 746 = .ok (.iload 4, 2) := by decide +kernel
theorem dL_law_748 : decode cL_law 748 = .ok (.iconst 3, 1) := by decide +kernel
theorem dL_law_749 : decode cL_law 749 = .ok (.iadd, 1) := by decide +kernel
theorem dL_law_750 : decode cL_law 750 = .ok (.iaload, 1) := by decide +kernel
theorem dL_law_751 : decode cL_law 751 = .ok (.aload_n 3, 1) := by decide +kernel
theorem dL_law_752 : decode cL_law 752 = .ok (.invokestatic 103, 3) := by decide +kernel
theorem dL_law_755 : decode cL_law 755 = .ok (.istore 5, 2) := by decide +kernel
theorem dL_law_757 : decode cL_law 757 = .ok (.aload_n 2, 1) := by decide +kernel
theorem dL_law_758 : decode cL_law 758 = .ok (.aload_n 0, 1) := by decide +kernel
theorem dL_law_759 : decode cL_law 759 = .ok (.iload 4, 2) := by decide +kernel
theorem dL_law_761 : decode cL_law 761 = .ok (.iconst 1, 1) := by decide +kernel
theorem dL_law_762 : decode cL_law 762 = .ok (.iadd, 1) := by decide +kernel
theorem dL_law_763 : decode cL_law 763 = .ok (.iaload, 1) := by decide +kernel
theorem dL_law_764 : decode cL_law 764 = .ok (.aload_n 0, 1) := by decide +kernel
theorem dL_law_765 : decode cL_law 765 = .ok (.iload 4, 2) := by decide +kernel
theorem dL_law_767 : decode cL_law 767 = .ok (.iconst 2, 1) := by decide +kernel
theorem dL_law_768 : decode cL_law 768 = .ok (.iadd, 1) := by decide +kernel
theorem dL_law_769 : decode cL_law 769 = .ok (.iaload, 1) := by decide +kernel
theorem dL_law_770 : decode cL_law 770 = .ok (.aload_n 0, 1) := by decide +kernel
theorem dL_law_771 : decode cL_law 771 = .ok (.iload 4, 2) := by decide +kernel
theorem dL_law_773 : decode cL_law 773 = .ok (.iconst 3, 1) := by decide +kernel
theorem dL_law_774 : decode cL_law 774 = .ok (.iadd, 1) := by decide +kernel
theorem dL_law_775 : decode cL_law 775 = .ok (.iaload, 1) := by decide +kernel
theorem dL_law_776 : decode cL_law 776 = .ok (.invokevirtual 105, 3) := by decide +kernel
theorem dL_law_779 : decode cL_law 779 = .ok (.istore 6, 2) := by decide +kernel
theorem dL_law_781 : decode cL_law 781 = .ok (.aload_n 2, 1) := by decide +kernel
theorem dL_law_782 : decode cL_law 782 = .ok (.invokevirtual 75, 3) := by decide +kernel
theorem dL_law_785 : decode cL_law 785 = .ok (.iload 5, 2) := by decide +kernel
theorem dL_law_787 : decode cL_law 787 = .ok (.if_icmp .eq 5, 3) := by decide +kernel
theorem dL_law_790 : decode cL_law 790 = .ok (.iconst 0, 1) := by decide +kernel
theorem dL_law_791 : decode cL_law 791 = .ok (.ireturn, 1) := by decide +kernel
theorem dL_law_792 : decode cL_law 792 = .ok (.iload 5, 2) := by decide +kernel
theorem dL_law_794 : decode cL_law 794 = .ok (.ifCond .ne 15, 3) := by decide +kernel
theorem dL_law_797 : decode cL_law 797 = .ok (.aload_n 3, 1) := by decide +kernel
theorem dL_law_798 : decode cL_law 798 = .ok (.iconst 0, 1) := by decide +kernel
theorem dL_law_799 : decode cL_law 799 = .ok (.laload, 1) := by decide +kernel
theorem dL_law_800 : decode cL_law 800 = .ok (.iload 6, 2) := by decide +kernel
theorem dL_law_802 : decode cL_law 802 = .ok (.i2l, 1) := by decide +kernel
theorem dL_law_803 : decode cL_law 803 = .ok (.lcmp, 1) := by decide +kernel
theorem dL_law_804 : decode cL_law 804 = .ok (.ifCond .eq 5, 3) := by decide +kernel
theorem dL_law_807 : decode cL_law 807 = .ok (.iconst 0, 1) := by decide +kernel
theorem dL_law_808 : decode cL_law 808 = .ok (.ireturn, 1) := by decide +kernel
theorem dL_law_809 : decode cL_law 809 = .ok (.goto 450, 3) := by decide +kernel
theorem dL_law_812 : decode cL_law 812 = .ok (.aload_n 1, 1) := by decide +kernel
theorem dL_law_813 : decode cL_law 813 = .ok (.aload_n 0, 1) := by decide +kernel
theorem dL_law_814 : decode cL_law 814 = .ok (.iload 4, 2) := by decide +kernel
theorem dL_law_816 : decode cL_law 816 = .ok (.iconst 1, 1) := by decide +kernel
theorem dL_law_817 : decode cL_law 817 = .ok (.iadd, 1) := by decide +kernel
theorem dL_law_818 : decode cL_law 818 = .ok (.iaload, 1) := by decide +kernel
theorem dL_law_819 : decode cL_law 819 = .ok (.aload_n 0, 1) := by decide +kernel
theorem dL_law_820 : decode cL_law 820 = .ok (.iload 4, 2) := by decide +kernel
theorem dL_law_822 : decode cL_law 822 = .ok (.iconst 2, 1) := by decide +kernel
theorem dL_law_823 : decode cL_law 823 = .ok (.iadd, 1) := by decide +kernel
theorem dL_law_824 : decode cL_law 824 = .ok (.iaload, 1) := by decide +kernel
theorem dL_law_825 : decode cL_law 825 = .ok (.aload_n 0, 1) := by decide +kernel
theorem dL_law_826 : decode cL_law 826 = .ok (.iload 4, 2) := by decide +kernel
theorem dL_law_828 : decode cL_law 828 = .ok (.iconst 3, 1) := by decide +kernel
theorem dL_law_829 : decode cL_law 829 = .ok (.iadd, 1) := by decide +kernel
theorem dL_law_830 : decode cL_law 830 = .ok (.iaload, 1) := by decide +kernel
theorem dL_law_831 : decode cL_law 831 = .ok (.aload_n 3, 1) := by decide +kernel
theorem dL_law_832 : decode cL_law 832 = .ok (.invokestatic 106, 3) := by decide +kernel
theorem dL_law_835 : decode cL_law 835 = .ok (.istore 5, 2) := by decide +kernel
theorem dL_law_837 : decode cL_law 837 = .ok (.aload_n 2, 1) := by decide +kernel
theorem dL_law_838 : decode cL_law 838 = .ok (.aload_n 0, 1) := by decide +kernel
theorem dL_law_839 : decode cL_law 839 = .ok (.iload 4, 2) := by decide +kernel
theorem dL_law_841 : decode cL_law 841 = .ok (.iconst 1, 1) := by decide +kernel
theorem dL_law_842 : decode cL_law 842 = .ok (.iadd, 1) := by decide +kernel
theorem dL_law_843 : decode cL_law 843 = .ok (.iaload, 1) := by decide +kernel
theorem dL_law_844 : decode cL_law 844 = .ok (.aload_n 0, 1) := by decide +kernel
theorem dL_law_845 : decode cL_law 845 = .ok (.iload 4, 2) := by decide +kernel
theorem dL_law_847 : decode cL_law 847 = .ok (.iconst 2, 1) := by decide +kernel
theorem dL_law_848 : decode cL_law 848 = .ok (.iadd, 1) := by decide +kernel
theorem dL_law_849 : decode cL_law 849 = .ok (.iaload, 1) := by decide +kernel
theorem dL_law_850 : decode cL_law 850 = .ok (.aload_n 0, 1) := by decide +kernel
theorem dL_law_851 : decode cL_law 851 = .ok (.iload 4, 2) := by decide +kernel
theorem dL_law_853 : decode cL_law 853 = .ok (.iconst 3, 1) := by decide +kernel
theorem dL_law_854 : decode cL_law 854 = .ok (.iadd, 1) := by decide +kernel
theorem dL_law_855 : decode cL_law 855 = .ok (.iaload, 1) := by decide +kernel
theorem dL_law_856 : decode cL_law 856 = .ok (.invokevirtual 108, 3) := by decide +kernel
theorem dL_law_859 : decode cL_law 859 = .ok (.istore 6, 2) := by decide +kernel
theorem dL_law_861 : decode cL_law 861 = .ok (.aload_n 2, 1) := by decide +kernel
theorem dL_law_862 : decode cL_law 862 = .ok (.invokevirtual 75, 3) := by decide +kernel
theorem dL_law_865 : decode cL_law 865 = .ok (.iload 5, 2) := by decide +kernel
theorem dL_law_867 : decode cL_law 867 = .ok (.if_icmp .eq 5, 3) := by decide +kernel
theorem dL_law_870 : decode cL_law 870 = .ok (.iconst 0, 1) := by decide +kernel
theorem dL_law_871 : decode cL_law 871 = .ok (.ireturn, 1) := by decide +kernel
theorem dL_law_872 : decode cL_law 872 = .ok (.iload 5, 2) := by decide +kernel
theorem dL_law_874 : decode cL_law 874 = .ok (.ifCond .ne 15, 3) := by decide +kernel
theorem dL_law_877 : decode cL_law 877 = .ok (.aload_n 3, 1) := by decide +kernel
theorem dL_law_878 : decode cL_law 878 = .ok (.iconst 0, 1) := by decide +kernel
theorem dL_law_879 : decode cL_law 879 = .ok (.laload, 1) := by decide +kernel
theorem dL_law_880 : decode cL_law 880 = .ok (.iload 6, 2) := by decide +kernel
theorem dL_law_882 : decode cL_law 882 = .ok (.i2l, 1) := by decide +kernel
theorem dL_law_883 : decode cL_law 883 = .ok (.lcmp, 1) := by decide +kernel
theorem dL_law_884 : decode cL_law 884 = .ok (.ifCond .eq 5, 3) := by decide +kernel
theorem dL_law_887 : decode cL_law 887 = .ok (.iconst 0, 1) := by decide +kernel
theorem dL_law_888 : decode cL_law 888 = .ok (.ireturn, 1) := by decide +kernel
theorem dL_law_889 : decode cL_law 889 = .ok (.goto 370, 3) := by decide +kernel
theorem dL_law_892 : decode cL_law 892 = .ok (.aload_n 1, 1) := by decide +kernel
theorem dL_law_893 : decode cL_law 893 = .ok (.aload_n 0, 1) := by decide +kernel
theorem dL_law_894 : decode cL_law 894 = .ok (.iload 4, 2) := by decide +kernel
theorem dL_law_896 : decode cL_law 896 = .ok (.iconst 1, 1) := by decide +kernel
theorem dL_law_897 : decode cL_law 897 = .ok (.iadd, 1) := by decide +kernel
theorem dL_law_898 : decode cL_law 898 = .ok (.iaload, 1) := by decide +kernel
theorem dL_law_899 : decode cL_law 899 = .ok (.aload_n 0, 1) := by decide +kernel
theorem dL_law_900 : decode cL_law 900 = .ok (.iload 4, 2) := by decide +kernel
theorem dL_law_902 : decode cL_law 902 = .ok (.iconst 2, 1) := by decide +kernel
theorem dL_law_903 : decode cL_law 903 = .ok (.iadd, 1) := by decide +kernel
theorem dL_law_904 : decode cL_law 904 = .ok (.iaload, 1) := by decide +kernel
theorem dL_law_905 : decode cL_law 905 = .ok (.aload_n 3, 1) := by decide +kernel
theorem dL_law_906 : decode cL_law 906 = .ok (.invokestatic 109, 3) := by decide +kernel
theorem dL_law_909 : decode cL_law 909 = .ok (.istore 5, 2) := by decide +kernel
theorem dL_law_911 : decode cL_law 911 = .ok (.aload_n 2, 1) := by decide +kernel
theorem dL_law_912 : decode cL_law 912 = .ok (.aload_n 0, 1) := by decide +kernel
theorem dL_law_913 : decode cL_law 913 = .ok (.iload 4, 2) := by decide +kernel
theorem dL_law_915 : decode cL_law 915 = .ok (.iconst 1, 1) := by decide +kernel
theorem dL_law_916 : decode cL_law 916 = .ok (.iadd, 1) := by decide +kernel
theorem dL_law_917 : decode cL_law 917 = .ok (.iaload, 1) := by decide +kernel
theorem dL_law_918 : decode cL_law 918 = .ok (.aload_n 0, 1) := by decide +kernel
theorem dL_law_919 : decode cL_law 919 = .ok (.iload 4, 2) := by decide +kernel
theorem dL_law_921 : decode cL_law 921 = .ok (.iconst 2, 1) := by decide +kernel
theorem dL_law_922 : decode cL_law 922 = .ok (.iadd, 1) := by decide +kernel
theorem dL_law_923 : decode cL_law 923 = .ok (.iaload, 1) := by decide +kernel
theorem dL_law_924 : decode cL_law 924 = .ok (.invokevirtual 111, 3) := by decide +kernel
theorem dL_law_927 : decode cL_law 927 = .ok (.istore 6, 2) := by decide +kernel
theorem dL_law_929 : decode cL_law 929 = .ok (.aload_n 2, 1) := by decide +kernel
theorem dL_law_930 : decode cL_law 930 = .ok (.invokevirtual 75, 3) := by decide +kernel
theorem dL_law_933 : decode cL_law 933 = .ok (.iload 5, 2) := by decide +kernel
theorem dL_law_935 : decode cL_law 935 = .ok (.if_icmp .eq 5, 3) := by decide +kernel
theorem dL_law_938 : decode cL_law 938 = .ok (.iconst 0, 1) := by decide +kernel
theorem dL_law_939 : decode cL_law 939 = .ok (.ireturn, 1) := by decide +kernel
theorem dL_law_940 : decode cL_law 940 = .ok (.iload 5, 2) := by decide +kernel
theorem dL_law_942 : decode cL_law 942 = .ok (.ifCond .ne 15, 3) := by decide +kernel
theorem dL_law_945 : decode cL_law 945 = .ok (.aload_n 3, 1) := by decide +kernel
theorem dL_law_946 : decode cL_law 946 = .ok (.iconst 0, 1) := by decide +kernel
theorem dL_law_947 : decode cL_law 947 = .ok (.laload, 1) := by decide +kernel
theorem dL_law_948 : decode cL_law 948 = .ok (.iload 6, 2) := by decide +kernel
theorem dL_law_950 : decode cL_law 950 = .ok (.i2l, 1) := by decide +kernel
theorem dL_law_951 : decode cL_law 951 = .ok (.lcmp, 1) := by decide +kernel
theorem dL_law_952 : decode cL_law 952 = .ok (.ifCond .eq 5, 3) := by decide +kernel
theorem dL_law_955 : decode cL_law 955 = .ok (.iconst 0, 1) := by decide +kernel
theorem dL_law_956 : decode cL_law 956 = .ok (.ireturn, 1) := by decide +kernel
theorem dL_law_957 : decode cL_law 957 = .ok (.goto 302, 3) := by decide +kernel
theorem dL_law_960 : decode cL_law 960 = .ok (.aload_n 1, 1) := by decide +kernel
theorem dL_law_961 : decode cL_law 961 = .ok (.aload_n 0, 1) := by decide +kernel
theorem dL_law_962 : decode cL_law 962 = .ok (.iload 4, 2) := by decide +kernel
theorem dL_law_964 : decode cL_law 964 = .ok (.iconst 1, 1) := by decide +kernel
theorem dL_law_965 : decode cL_law 965 = .ok (.iadd, 1) := by decide +kernel
theorem dL_law_966 : decode cL_law 966 = .ok (.iaload, 1) := by decide +kernel
theorem dL_law_967 : decode cL_law 967 = .ok (.aload_n 0, 1) := by decide +kernel
theorem dL_law_968 : decode cL_law 968 = .ok (.iload 4, 2) := by decide +kernel
theorem dL_law_970 : decode cL_law 970 = .ok (.iconst 2, 1) := by decide +kernel
theorem dL_law_971 : decode cL_law 971 = .ok (.iadd, 1) := by decide +kernel
theorem dL_law_972 : decode cL_law 972 = .ok (.iaload, 1) := by decide +kernel
theorem dL_law_973 : decode cL_law 973 = .ok (.aload_n 3, 1) := by decide +kernel
theorem dL_law_974 : decode cL_law 974 = .ok (.invokestatic 112, 3) := by decide +kernel
theorem dL_law_977 : decode cL_law 977 = .ok (.istore 5, 2) := by decide +kernel
theorem dL_law_979 : decode cL_law 979 = .ok (.aload_n 2, 1) := by decide +kernel
theorem dL_law_980 : decode cL_law 980 = .ok (.aload_n 0, 1) := by decide +kernel
theorem dL_law_981 : decode cL_law 981 = .ok (.iload 4, 2) := by decide +kernel
theorem dL_law_983 : decode cL_law 983 = .ok (.iconst 1, 1) := by decide +kernel
theorem dL_law_984 : decode cL_law 984 = .ok (.iadd, 1) := by decide +kernel
theorem dL_law_985 : decode cL_law 985 = .ok (.iaload, 1) := by decide +kernel
theorem dL_law_986 : decode cL_law 986 = .ok (.aload_n 0, 1) := by decide +kernel
theorem dL_law_987 : decode cL_law 987 = .ok (.iload 4, 2) := by decide +kernel
theorem dL_law_989 : decode cL_law 989 = .ok (.iconst 2, 1) := by decide +kernel
theorem dL_law_990 : decode cL_law 990 = .ok (.iadd, 1) := by decide +kernel
theorem dL_law_991 : decode cL_law 991 = .ok (.iaload, 1) := by decide +kernel
theorem dL_law_992 : decode cL_law 992 = .ok (.invokevirtual 114, 3) := by decide +kernel
theorem dL_law_995 : decode cL_law 995 = .ok (.istore 6, 2) := by decide +kernel
theorem dL_law_997 : decode cL_law 997 = .ok (.aload_n 2, 1) := by decide +kernel
theorem dL_law_998 : decode cL_law 998 = .ok (.invokevirtual 75, 3) := by decide +kernel
theorem dL_law_1001 : decode cL_law 1001 = .ok (.iload 5, 2) := by decide +kernel
theorem dL_law_1003 : decode cL_law 1003 = .ok (.if_icmp .eq 5, 3) := by decide +kernel
theorem dL_law_1006 : decode cL_law 1006 = .ok (.iconst 0, 1) := by decide +kernel
theorem dL_law_1007 : decode cL_law 1007 = .ok (.ireturn, 1) := by decide +kernel
theorem dL_law_1008 : decode cL_law 1008 = .ok (.iload 5, 2) := by decide +kernel
theorem dL_law_1010 : decode cL_law 1010 = .ok (.ifCond .ne 22, 3) := by decide +kernel
theorem dL_law_1013 : decode cL_law 1013 = .ok (.aload_n 3, 1) := by decide +kernel
theorem dL_law_1014 : decode cL_law 1014 = .ok (.iconst 0, 1) := by decide +kernel
theorem dL_law_1015 : decode cL_law 1015 = .ok (.laload, 1) := by decide +kernel
theorem dL_law_1016 : decode cL_law 1016 = .ok (.iload 6, 2) := by decide +kernel
theorem dL_law_1018 : decode cL_law 1018 = .ok (.ifCond .eq 7, 3) := by decide +kernel
theorem dL_law_1021 : decode cL_law 1021 = .ok (.lconst 1, 1) := by decide +kernel
theorem dL_law_1022 : decode cL_law 1022 = .ok (.goto 4, 3) := by decide +kernel
theorem dL_law_1025 : decode cL_law 1025 = .ok (.lconst 0, 1) := by decide +kernel
theorem dL_law_1026 : decode cL_law 1026 = .ok (.lcmp, 1) := by decide +kernel
theorem dL_law_1027 : decode cL_law 1027 = .ok (.ifCond .eq 5, 3) := by decide +kernel
theorem dL_law_1030 : decode cL_law 1030 = .ok (.iconst 0, 1) := by decide +kernel
theorem dL_law_1031 : decode cL_law 1031 = .ok (.ireturn, 1) := by decide +kernel
theorem dL_law_1032 : decode cL_law 1032 = .ok (.goto 227, 3) := by decide +kernel
theorem dL_law_1035 : decode cL_law 1035 = .ok (.aload_n 1, 1) := by decide +kernel
theorem dL_law_1036 : decode cL_law 1036 = .ok (.aload_n 0, 1) := by decide +kernel
theorem dL_law_1037 : decode cL_law 1037 = .ok (.iload 4, 2) := by decide +kernel
theorem dL_law_1039 : decode cL_law 1039 = .ok (.iconst 1, 1) := by decide +kernel
theorem dL_law_1040 : decode cL_law 1040 = .ok (.iadd, 1) := by decide +kernel
theorem dL_law_1041 : decode cL_law 1041 = .ok (.iaload, 1) := by decide +kernel
theorem dL_law_1042 : decode cL_law 1042 = .ok (.aload_n 0, 1) := by decide +kernel
theorem dL_law_1043 : decode cL_law 1043 = .ok (.iload 4, 2) := by decide +kernel
theorem dL_law_1045 : decode cL_law 1045 = .ok (.iconst 2, 1) := by decide +kernel
theorem dL_law_1046 : decode cL_law 1046 = .ok (.iadd, 1) := by decide +kernel
theorem dL_law_1047 : decode cL_law 1047 = .ok (.iaload, 1) := by decide +kernel
theorem dL_law_1048 : decode cL_law 1048 = .ok (.aload_n 3, 1) := by decide +kernel
theorem dL_law_1049 : decode cL_law 1049 = .ok (.invokestatic 115, 3) := by decide +kernel
theorem dL_law_1052 : decode cL_law 1052 = .ok (.istore 5, 2) := by decide +kernel
theorem dL_law_1054 : decode cL_law 1054 = .ok (.aload_n 2, 1) := by decide +kernel
theorem dL_law_1055 : decode cL_law 1055 = .ok (.aload_n 0, 1) := by decide +kernel
theorem dL_law_1056 : decode cL_law 1056 = .ok (.iload 4, 2) := by decide +kernel
theorem dL_law_1058 : decode cL_law 1058 = .ok (.iconst 1, 1) := by decide +kernel
theorem dL_law_1059 : decode cL_law 1059 = .ok (.iadd, 1) := by decide +kernel
theorem dL_law_1060 : decode cL_law 1060 = .ok (.iaload, 1) := by decide +kernel
theorem dL_law_1061 : decode cL_law 1061 = .ok (.aload_n 0, 1) := by decide +kernel
theorem dL_law_1062 : decode cL_law 1062 = .ok (.iload 4, 2) := by decide +kernel
theorem dL_law_1064 : decode cL_law 1064 = .ok (.iconst 2, 1) := by decide +kernel
theorem dL_law_1065 : decode cL_law 1065 = .ok (.iadd, 1) := by decide +kernel
theorem dL_law_1066 : decode cL_law 1066 = .ok (.iaload, 1) := by decide +kernel
theorem dL_law_1067 : decode cL_law 1067 = .ok (.invokevirtual 117, 3) := by decide +kernel
theorem dL_law_1070 : decode cL_law 1070 = .ok (.istore 6, 2) := by decide +kernel
theorem dL_law_1072 : decode cL_law 1072 = .ok (.aload_n 2, 1) := by decide +kernel
theorem dL_law_1073 : decode cL_law 1073 = .ok (.invokevirtual 75, 3) := by decide +kernel
theorem dL_law_1076 : decode cL_law 1076 = .ok (.iload 5, 2) := by decide +kernel
theorem dL_law_1078 : decode cL_law 1078 = .ok (.if_icmp .eq 5, 3) := by decide +kernel
theorem dL_law_1081 : decode cL_law 1081 = .ok (.iconst 0, 1) := by decide +kernel
theorem dL_law_1082 : decode cL_law 1082 = .ok (.ireturn, 1) := by decide +kernel
theorem dL_law_1083 : decode cL_law 1083 = .ok (.iload 5, 2) := by decide +kernel
theorem dL_law_1085 : decode cL_law 1085 = .ok (.ifCond .ne 22, 3) := by decide +kernel
theorem dL_law_1088 : decode cL_law 1088 = .ok (.aload_n 3, 1) := by decide +kernel
theorem dL_law_1089 : decode cL_law 1089 = .ok (.iconst 0, 1) := by decide +kernel
theorem dL_law_1090 : decode cL_law 1090 = .ok (.laload, 1) := by decide +kernel
theorem dL_law_1091 : decode cL_law 1091 = .ok (.iload 6, 2) := by decide +kernel
theorem dL_law_1093 : decode cL_law 1093 = .ok (.ifCond .eq 7, 3) := by decide +kernel
theorem dL_law_1096 : decode cL_law 1096 = .ok (.lconst 1, 1) := by decide +kernel
theorem dL_law_1097 : decode cL_law 1097 = .ok (.goto 4, 3) := by decide +kernel
theorem dL_law_1100 : decode cL_law 1100 = .ok (.lconst 0, 1) := by decide +kernel
theorem dL_law_1101 : decode cL_law 1101 = .ok (.lcmp, 1) := by decide +kernel
theorem dL_law_1102 : decode cL_law 1102 = .ok (.ifCond .eq 5, 3) := by decide +kernel
theorem dL_law_1105 : decode cL_law 1105 = .ok (.iconst 0, 1) := by decide +kernel
theorem dL_law_1106 : decode cL_law 1106 = .ok (.ireturn, 1) := by decide +kernel
theorem dL_law_1107 : decode cL_law 1107 = .ok (.goto 152, 3) := by decide +kernel
theorem dL_law_1110 : decode cL_law 1110 = .ok (.aload_n 1, 1) := by decide +kernel
theorem dL_law_1111 : decode cL_law 1111 = .ok (.invokevirtual 118, 3) := by decide +kernel
theorem dL_law_1114 : decode cL_law 1114 = .ok (.aload_n 2, 1) := by decide +kernel
theorem dL_law_1115 : decode cL_law 1115 = .ok (.invokevirtual 121, 3) := by decide +kernel
theorem dL_law_1118 : decode cL_law 1118 = .ok (.if_icmp .eq 141, 3) := by decide +kernel
theorem dL_law_1121 : decode cL_law 1121 = .ok (.iconst 0, 1) := by decide +kernel
theorem dL_law_1122 : decode cL_law 1122 = .ok (.ireturn, 1) := by decide +kernel
theorem dL_law_1123 : decode cL_law 1123 = .ok (.aload_n 1, 1) := by decide +kernel
theorem dL_law_1124 : decode cL_law 1124 = .ok (.aload_n 0, 1) := by decide +kernel
theorem dL_law_1125 : decode cL_law 1125 = .ok (.iload 4, 2) := by decide +kernel
theorem dL_law_1127 : decode cL_law 1127 = .ok (.iconst 1, 1) := by decide +kernel
theorem dL_law_1128 : decode cL_law 1128 = .ok (.iadd, 1) := by decide +kernel
theorem dL_law_1129 : decode cL_law 1129 = .ok (.iaload, 1) := by decide +kernel
theorem dL_law_1130 : decode cL_law 1130 = .ok (.aload_n 0, 1) := by decide +kernel
theorem dL_law_1131 : decode cL_law 1131 = .ok (.iload 4, 2) := by decide +kernel
theorem dL_law_1133 : decode cL_law 1133 = .ok (.iconst 2, 1) := by decide +kernel
theorem dL_law_1134 : decode cL_law 1134 = .ok (.iadd, 1) := by decide +kernel
theorem dL_law_1135 : decode cL_law 1135 = .ok (.iaload, 1) := by decide +kernel
theorem dL_law_1136 : decode cL_law 1136 = .ok (.aload_n 0, 1) := by decide +kernel
theorem dL_law_1137 : decode cL_law 1137 = .ok (.iload 4, 2) := by decide +kernel
theorem dL_law_1139 : decode cL_law 1139 = .ok (.iconst 3, 1) := by decide +kernel
theorem dL_law_1140 : decode cL_law 1140 = .ok (.iadd, 1) := by decide +kernel
theorem dL_law_1141 : decode cL_law 1141 = .ok (.iaload, 1) := by decide +kernel
theorem dL_law_1142 : decode cL_law 1142 = .ok (.aload_n 3, 1) := by decide +kernel
theorem dL_law_1143 : decode cL_law 1143 = .ok (.invokestatic 122, 3) := by decide +kernel
theorem dL_law_1146 : decode cL_law 1146 = .ok (.istore 5, 2) := by decide +kernel
theorem dL_law_1148 : decode cL_law 1148 = .ok (.aload_n 2, 1) := by decide +kernel
theorem dL_law_1149 : decode cL_law 1149 = .ok (.aload_n 0, 1) := by decide +kernel
theorem dL_law_1150 : decode cL_law 1150 = .ok (.iload 4, 2) := by decide +kernel
theorem dL_law_1152 : decode cL_law 1152 = .ok (.iconst 1, 1) := by decide +kernel
theorem dL_law_1153 : decode cL_law 1153 = .ok (.iadd, 1) := by decide +kernel
theorem dL_law_1154 : decode cL_law 1154 = .ok (.iaload, 1) := by decide +kernel
theorem dL_law_1155 : decode cL_law 1155 = .ok (.aload_n 0, 1) := by decide +kernel
theorem dL_law_1156 : decode cL_law 1156 = .ok (.iload 4, 2) := by decide +kernel
theorem dL_law_1158 : decode cL_law 1158 = .ok (.iconst 2, 1) := by decide +kernel
theorem dL_law_1159 : decode cL_law 1159 = .ok (.iadd, 1) := by decide +kernel
theorem dL_law_1160 : decode cL_law 1160 = .ok (.iaload, 1) := by decide +kernel
theorem dL_law_1161 : decode cL_law 1161 = .ok (.aload_n 0, 1) := by decide +kernel
theorem dL_law_1162 : decode cL_law 1162 = .ok (.iload 4, 2) := by decide +kernel
theorem dL_law_1164 : decode cL_law 1164 = .ok (.iconst 3, 1) := by decide +kernel
theorem dL_law_1165 : decode cL_law 1165 = .ok (.iadd, 1) := by decide +kernel
theorem dL_law_1166 : decode cL_law 1166 = .ok (.iaload, 1) := by decide +kernel
theorem dL_law_1167 : decode cL_law 1167 = .ok (.invokevirtual 124, 3) := by decide +kernel
theorem dL_law_1170 : decode cL_law 1170 = .ok (.istore 6, 2) := by decide +kernel
theorem dL_law_1172 : decode cL_law 1172 = .ok (.aload_n 2, 1) := by decide +kernel
theorem dL_law_1173 : decode cL_law 1173 = .ok (.invokevirtual 75, 3) := by decide +kernel
theorem dL_law_1176 : decode cL_law 1176 = .ok (.iload 5, 2) := by decide +kernel
theorem dL_law_1178 : decode cL_law 1178 = .ok (.if_icmp .eq 5, 3) := by decide +kernel
theorem dL_law_1181 : decode cL_law 1181 = .ok (.iconst 0, 1) := by decide +kernel
theorem dL_law_1182 : decode cL_law 1182 = .ok (.ireturn, 1) := by decide +kernel
theorem dL_law_1183 : decode cL_law 1183 = .ok (.iload 5, 2) := by decide +kernel
theorem dL_law_1185 : decode cL_law 1185 = .ok (.ifCond .ne 15, 3) := by decide +kernel
theorem dL_law_1188 : decode cL_law 1188 = .ok (.aload_n 3, 1) := by decide +kernel
theorem dL_law_1189 : decode cL_law 1189 = .ok (.iconst 0, 1) := by decide +kernel
theorem dL_law_1190 : decode cL_law 1190 = .ok (.laload, 1) := by decide +kernel
theorem dL_law_1191 : decode cL_law 1191 = .ok (.iload 6, 2) := by decide +kernel
theorem dL_law_1193 : decode cL_law 1193 = .ok (.i2l, 1) := by decide +kernel
theorem dL_law_1194 : decode cL_law 1194 = .ok (.lcmp, 1) := by decide +kernel
theorem dL_law_1195 : decode cL_law 1195 = .ok (.ifCond .eq 5, 3) := by decide +kernel
theorem dL_law_1198 : decode cL_law 1198 = .ok (.iconst 0, 1) := by decide +kernel
theorem dL_law_1199 : decode cL_law 1199 = .ok (.ireturn, 1) := by decide +kernel
theorem dL_law_1200 : decode cL_law 1200 = .ok (.goto 59, 3) := by decide +kernel
theorem dL_law_1203 : decode cL_law 1203 = .ok (.aload_n 1, 1) := by decide +kernel
theorem dL_law_1204 : decode cL_law 1204 = .ok (.aload_n 0, 1) := by decide +kernel
theorem dL_law_1205 : decode cL_law 1205 = .ok (.iload 4, 2) := by decide +kernel
theorem dL_law_1207 : decode cL_law 1207 = .ok (.iconst 1, 1) := by decide +kernel
theorem dL_law_1208 : decode cL_law 1208 = .ok (.iadd, 1) := by decide +kernel
theorem dL_law_1209 : decode cL_law 1209 = .ok (.iaload, 1) := by decide +kernel
theorem dL_law_1210 : decode cL_law 1210 = .ok (.aload_n 3, 1) := by decide +kernel
theorem dL_law_1211 : decode cL_law 1211 = .ok (.invokestatic 125, 3) := by decide +kernel
theorem dL_law_1214 : decode cL_law 1214 = .ok (.istore 5, 2) := by decide +kernel
theorem dL_law_1216 : decode cL_law 1216 = .ok (.aload_n 2, 1) := by decide +kernel
theorem dL_law_1217 : decode cL_law 1217 = .ok (.aload_n 0, 1) := by decide +kernel
theorem dL_law_1218 : decode cL_law 1218 = .ok (.iload 4, 2) := by decide +kernel
theorem dL_law_1220 : decode cL_law 1220 = .ok (.iconst 1, 1) := by decide +kernel
theorem dL_law_1221 : decode cL_law 1221 = .ok (.iadd, 1) := by decide +kernel
theorem dL_law_1222 : decode cL_law 1222 = .ok (.iaload, 1) := by decide +kernel
theorem dL_law_1223 : decode cL_law 1223 = .ok (.invokevirtual 127, 3) := by decide +kernel
theorem dL_law_1226 : decode cL_law 1226 = .ok (.istore 6, 2) := by decide +kernel
theorem dL_law_1228 : decode cL_law 1228 = .ok (.aload_n 2, 1) := by decide +kernel
theorem dL_law_1229 : decode cL_law 1229 = .ok (.invokevirtual 75, 3) := by decide +kernel
theorem dL_law_1232 : decode cL_law 1232 = .ok (.iload 5, 2) := by decide +kernel
theorem dL_law_1234 : decode cL_law 1234 = .ok (.if_icmp .eq 5, 3) := by decide +kernel
theorem dL_law_1237 : decode cL_law 1237 = .ok (.iconst 0, 1) := by decide +kernel
theorem dL_law_1238 : decode cL_law 1238 = .ok (.ireturn, 1) := by decide +kernel
theorem dL_law_1239 : decode cL_law 1239 = .ok (.iload 5, 2) := by decide +kernel
theorem dL_law_1241 : decode cL_law 1241 = .ok (.ifCond .ne 15, 3) := by decide +kernel
theorem dL_law_1244 : decode cL_law 1244 = .ok (.aload_n 3, 1) := by decide +kernel
theorem dL_law_1245 : decode cL_law 1245 = .ok (.iconst 0, 1) := by decide +kernel
theorem dL_law_1246 : decode cL_law 1246 = .ok (.laload, 1) := by decide +kernel
theorem dL_law_1247 : decode cL_law 1247 = .ok (.iload 6, 2) := by decide +kernel
theorem dL_law_1249 : decode cL_law 1249 = .ok (.i2l, 1) := by decide +kernel
theorem dL_law_1250 : decode cL_law 1250 = .ok (.lcmp, 1) := by decide +kernel
theorem dL_law_1251 : decode cL_law 1251 = .ok (.ifCond .eq 5, 3) := by decide +kernel
theorem dL_law_1254 : decode cL_law 1254 = .ok (.iconst 0, 1) := by decide +kernel
theorem dL_law_1255 : decode cL_law 1255 = .ok (.ireturn, 1) := by decide +kernel
theorem dL_law_1256 : decode cL_law 1256 = .ok (.goto 3, 3) := by decide +kernel
theorem dL_law_1259 : decode cL_law 1259 = .ok (.iinc 4 5, 3) := by decide +kernel
theorem dL_law_1262 : decode cL_law 1262 = .ok (.goto (-1239), 3) := by decide +kernel
theorem dL_law_1265 : decode cL_law 1265 = .ok (.iconst 1, 1) := by decide +kernel
theorem dL_law_1266 : decode cL_law 1266 = .ok (.ireturn, 1) := by decide +kernel
end
section
/-- the words that every method stands on: all that the tables say and a call keeps -/
def hAll : List Cond := lw_tbl.filter goodWord
theorem h_in {w : Cond} (i : Nat) (h : tables_1[i]? = some w) (hg : goodWord w = true) : w ∈ hAll := List.mem_filter.mpr ⟨List.mem_append_right _ (List.mem_of_getElem? h), hg⟩
theorem h_sel {w : Cond} (i : Nat) (h : (k2_sels lw_privs)[i]? = some w) (hg : goodWord w = true) : w ∈ hAll := List.mem_filter.mpr ⟨List.mem_append_left _ (List.mem_of_getElem? h), hg⟩
theorem kn_L : Cond.initialized RL ∈ hAll := h_in 0 (by decide +kernel) (by decide +kernel)
theorem kn_X2 : Cond.initialized RX2 ∈ hAll := h_in 1 (by decide +kernel) (by decide +kernel)
theorem kn_X0 : Cond.initialized RX0 ∈ hAll := h_in 2 (by decide +kernel) (by decide +kernel)
theorem kn_X3 : Cond.initialized RX3 ∈ hAll := h_in 3 (by decide +kernel) (by decide +kernel)
theorem kn_Throwable : Cond.initialized "java/lang/Throwable" ∈ hAll := h_in 4 (by decide +kernel) (by decide +kernel)
theorem kn_Exception : Cond.initialized "java/lang/Exception" ∈ hAll := h_in 5 (by decide +kernel) (by decide +kernel)
theorem kn_RuntimeException : Cond.initialized "java/lang/RuntimeException" ∈ hAll := h_in 6 (by decide +kernel) (by decide +kernel)
theorem kn_NoSuchElementException : Cond.initialized "java/util/NoSuchElementException" ∈ hAll := h_in 7 (by decide +kernel) (by decide +kernel)
theorem kn_IllegalArgumentException : Cond.initialized "java/lang/IllegalArgumentException" ∈ hAll := h_in 8 (by decide +kernel) (by decide +kernel)
theorem kn_IllegalStateException : Cond.initialized "java/lang/IllegalStateException" ∈ hAll := h_in 9 (by decide +kernel) (by decide +kernel)
theorem kn_X1 : Cond.initialized RX1 ∈ hAll := h_in 10 (by decide +kernel) (by decide +kernel)
theorem klL_8 : Cond.classLink RL 8 RX2 ∈ hAll := h_in 11 (by decide +kernel) (by decide +kernel)
theorem kt_X2 : Cond.instantiable RX2 6 ∈ hAll := h_in 12 (by decide +kernel) (by decide +kernel)
theorem kmL_65 : Cond.methodLink RL 65 yX2_init ∈ hAll := h_in 13 (by decide +kernel) (by decide +kernel)
theorem ki_X2_init : Cond.instanceMethod yX2_init ∈ hAll := h_in 14 (by decide +kernel) (by decide +kernel)
theorem kc_X2_init : Cond.code yX2_init cX2_init 1 none ∈ hAll := h_in 15 (by decide +kernel) (by decide +kernel)
theorem kmX2_3 : Cond.methodLink RX2 3 objectInit ∈ hAll := h_in 16 (by decide +kernel) (by decide +kernel)
theorem ki_object : Cond.instanceMethod objectInit ∈ hAll := h_in 17 (by decide +kernel) (by decide +kernel)
theorem kc_object : Cond.code objectInit ⟨#[0xb1]⟩ 1 none ∈ hAll := h_in 18 (by decide +kernel) (by decide +kernel)
theorem klX2_9 : Cond.classLink RX2 9 RX1 ∈ hAll := h_in 19 (by decide +kernel) (by decide +kernel)
theorem klX2_22 : Cond.classLink RX2 22 RX0 ∈ hAll := h_in 21 (by decide +kernel) (by decide +kernel)
theorem kt_X0 : Cond.instantiable RX0 1 ∈ hAll := h_in 22 (by decide +kernel) (by decide +kernel)
theorem kmX2_24 : Cond.methodLink RX2 24 yX0_init ∈ hAll := h_in 23 (by decide +kernel) (by decide +kernel)
theorem ki_X0_init : Cond.instanceMethod yX0_init ∈ hAll := h_in 24 (by decide +kernel) (by decide +kernel)
theorem kc_X0_init : Cond.code yX0_init cX0_init 1 none ∈ hAll := h_in 25 (by decide +kernel) (by decide +kernel)
theorem kmX0_3 : Cond.methodLink RX0 3 objectInit ∈ hAll := h_in 26 (by decide +kernel) (by decide +kernel)
theorem kfX0_9 : Cond.fieldLink RX0 9 "TrenchMerge$Contexts" "under" "[I" ∈ hAll := h_in 27 (by decide +kernel) (by decide +kernel)
theorem ka_int : Cond.arrayClass .int ∈ hAll := h_in 31 (by decide +kernel) (by decide +kernel)
theorem kfX2_11 : Cond.fieldLink RX2 11 "TrenchMerge" "tellings" "[LTrenchMerge$Telling;" ∈ hAll := h_in 32 (by decide +kernel) (by decide +kernel)
theorem kfX2_15 : Cond.fieldLink RX2 15 "TrenchMerge" "rows" "[LTrenchMerge$Telling;" ∈ hAll := h_in 33 (by decide +kernel) (by decide +kernel)
theorem kfX2_18 : Cond.fieldLink RX2 18 "TrenchMerge" "numbersGiven" "[I" ∈ hAll := h_in 34 (by decide +kernel) (by decide +kernel)
theorem kfX2_25 : Cond.fieldLink RX2 25 "TrenchMerge" "contexts" "LTrenchMerge$Contexts;" ∈ hAll := h_in 35 (by decide +kernel) (by decide +kernel)
theorem kfX2_29 : Cond.fieldLink RX2 29 "TrenchMerge" "earliest" "LTrenchMerge$Telling;" ∈ hAll := h_in 36 (by decide +kernel) (by decide +kernel)
theorem kfX2_33 : Cond.fieldLink RX2 33 "TrenchMerge" "made" "I" ∈ hAll := h_in 37 (by decide +kernel) (by decide +kernel)
theorem kmL_118 : Cond.methodLink RL 118 yX2_compact ∈ hAll := h_in 51 (by decide +kernel) (by decide +kernel)
theorem ki_X2_compact : Cond.instanceMethod yX2_compact ∈ hAll := h_in 52 (by decide +kernel) (by decide +kernel)
theorem kv_X2_compact : Cond.selects RX2 yX2_compact yX2_compact ∈ hAll := h_in 53 (by decide +kernel) (by decide +kernel)
theorem kc_X2_compact : Cond.code yX2_compact cX2_compact 3 (some .int) ∈ hAll := h_in 54 (by decide +kernel) (by decide +kernel)
theorem kmX2_139 : Cond.methodLink RX2 139 yX2_isOutdone ∈ hAll := h_in 55 (by decide +kernel) (by decide +kernel)
theorem ks_X2_isOutdone : Cond.static yX2_isOutdone ∈ hAll := h_in 56 (by decide +kernel) (by decide +kernel)
theorem kc_X2_isOutdone : Cond.code yX2_isOutdone cX2_isOutdone 2 (some .boolean) ∈ hAll := h_in 57 (by decide +kernel) (by decide +kernel)
theorem kmX2_218 : Cond.methodLink RX2 218 yX2_isSharedLatest ∈ hAll := h_in 58 (by decide +kernel) (by decide +kernel)
theorem ks_X2_isSharedLatest : Cond.static yX2_isSharedLatest ∈ hAll := h_in 59 (by decide +kernel) (by decide +kernel)
theorem kc_X2_isSharedLatest : Cond.code yX2_isSharedLatest cX2_isSharedLatest 1 (some .boolean) ∈ hAll := h_in 60 (by decide +kernel) (by decide +kernel)
theorem kmX2_143 : Cond.methodLink RX2 143 yX1_forget ∈ hAll := h_in 61 (by decide +kernel) (by decide +kernel)
theorem ki_X1_forget : Cond.instanceMethod yX1_forget ∈ hAll := h_in 62 (by decide +kernel) (by decide +kernel)
theorem kv_X1_forget : Cond.selects RX1 yX1_forget yX1_forget ∈ hAll := h_in 63 (by decide +kernel) (by decide +kernel)
theorem kc_X1_forget : Cond.code yX1_forget cX1_forget 1 none ∈ hAll := h_in 64 (by decide +kernel) (by decide +kernel)
theorem kmL_69 : Cond.methodLink RL 69 yL_tell ∈ hAll := h_in 65 (by decide +kernel) (by decide +kernel)
theorem ks_L_tell : Cond.static yL_tell ∈ hAll := h_in 66 (by decide +kernel) (by decide +kernel)
theorem kc_L_tell : Cond.codeWith yL_tell cL_tell 7 (some .int) [(0, (14), (17), (13)), (0, (14), (21), (15)), (0, (14), (25), (17))] ∈ hAll := h_in 67 (by decide +kernel) (by decide +kernel)
theorem klL_13 : Cond.classLink RL 13 "java/util/NoSuchElementException" ∈ hAll := h_in 68 (by decide +kernel) (by decide +kernel)
theorem klL_15 : Cond.classLink RL 15 "java/lang/IllegalArgumentException" ∈ hAll := h_in 69 (by decide +kernel) (by decide +kernel)
theorem klL_17 : Cond.classLink RL 17 "java/lang/IllegalStateException" ∈ hAll := h_in 70 (by decide +kernel) (by decide +kernel)
theorem kmL_7 : Cond.methodLink RL 7 yX2_tell ∈ hAll := h_in 71 (by decide +kernel) (by decide +kernel)
theorem ki_X2_tell : Cond.instanceMethod yX2_tell ∈ hAll := h_in 72 (by decide +kernel) (by decide +kernel)
theorem kv_X2_tell : Cond.selects RX2 yX2_tell yX2_tell ∈ hAll := h_in 73 (by decide +kernel) (by decide +kernel)
theorem kc_X2_tell : Cond.code yX2_tell cX2_tell 5 (some .int) ∈ hAll := h_in 74 (by decide +kernel) (by decide +kernel)
theorem kmX2_37 : Cond.methodLink RX2 37 yX2_requireDesk ∈ hAll := h_in 75 (by decide +kernel) (by decide +kernel)
theorem ks_X2_requireDesk : Cond.static yX2_requireDesk ∈ hAll := h_in 76 (by decide +kernel) (by decide +kernel)
theorem kc_X2_requireDesk : Cond.code yX2_requireDesk cX2_requireDesk 1 none ∈ hAll := h_in 77 (by decide +kernel) (by decide +kernel)
theorem klX2_163 : Cond.classLink RX2 163 "java/util/NoSuchElementException" ∈ hAll := h_in 78 (by decide +kernel) (by decide +kernel)
theorem kt_NoSuchElementException : Cond.instantiable "java/util/NoSuchElementException" 6 ∈ hAll := h_in 79 (by decide +kernel) (by decide +kernel)
theorem kt_Throwable : Cond.instantiable "java/lang/Throwable" 6 ∈ hAll := h_in 117 (by decide +kernel) (by decide +kernel)
theorem kmX2_167 : Cond.methodLink RX2 167 ⟨"java/util/NoSuchElementException", "<init>", "(Ljava/lang/String;)V"⟩ ∈ hAll := h_in 120 (by decide +kernel) (by decide +kernel)
theorem ka_byte : Cond.arrayClass .byte ∈ hAll := h_in 145 (by decide +kernel) (by decide +kernel)
theorem kmX2_41 : Cond.methodLink RX2 41 yX2_requireThing ∈ hAll := h_in 146 (by decide +kernel) (by decide +kernel)
theorem ks_X2_requireThing : Cond.static yX2_requireThing ∈ hAll := h_in 147 (by decide +kernel) (by decide +kernel)
theorem kc_X2_requireThing : Cond.code yX2_requireThing cX2_requireThing 1 none ∈ hAll := h_in 148 (by decide +kernel) (by decide +kernel)
theorem kmX2_44 : Cond.methodLink RX2 44 yX2_requireField ∈ hAll := h_in 150 (by decide +kernel) (by decide +kernel)
theorem ks_X2_requireField : Cond.static yX2_requireField ∈ hAll := h_in 151 (by decide +kernel) (by decide +kernel)
theorem kc_X2_requireField : Cond.code yX2_requireField cX2_requireField 2 none ∈ hAll := h_in 152 (by decide +kernel) (by decide +kernel)
theorem kmX2_48 : Cond.methodLink RX2 48 yX2_requireValue ∈ hAll := h_in 154 (by decide +kernel) (by decide +kernel)
theorem ks_X2_requireValue : Cond.static yX2_requireValue ∈ hAll := h_in 155 (by decide +kernel) (by decide +kernel)
theorem kc_X2_requireValue : Cond.code yX2_requireValue cX2_requireValue 2 none ∈ hAll := h_in 156 (by decide +kernel) (by decide +kernel)
theorem klX2_68 : Cond.classLink RX2 68 "java/lang/IllegalArgumentException" ∈ hAll := h_in 157 (by decide +kernel) (by decide +kernel)
theorem kt_IllegalArgumentException : Cond.instantiable "java/lang/IllegalArgumentException" 6 ∈ hAll := h_in 158 (by decide +kernel) (by decide +kernel)
theorem kmX2_72 : Cond.methodLink RX2 72 ⟨"java/lang/IllegalArgumentException", "<init>", "(Ljava/lang/String;)V"⟩ ∈ hAll := h_in 167 (by decide +kernel) (by decide +kernel)
theorem kmX2_51 : Cond.methodLink RX2 51 yX2_enter ∈ hAll := h_in 173 (by decide +kernel) (by decide +kernel)
theorem ki_X2_enter : Cond.instanceMethod yX2_enter ∈ hAll := h_in 175 (by decide +kernel) (by decide +kernel)
theorem kc_X2_enter : Cond.code yX2_enter cX2_enter 6 (some (.object "TrenchMerge$Telling")) ∈ hAll := h_in 176 (by decide +kernel) (by decide +kernel)
theorem klX2_98 : Cond.classLink RX2 98 "java/lang/IllegalStateException" ∈ hAll := h_in 177 (by decide +kernel) (by decide +kernel)
theorem kt_IllegalStateException : Cond.instantiable "java/lang/IllegalStateException" 6 ∈ hAll := h_in 178 (by decide +kernel) (by decide +kernel)
theorem kmX2_102 : Cond.methodLink RX2 102 ⟨"java/lang/IllegalStateException", "<init>", "(Ljava/lang/String;)V"⟩ ∈ hAll := h_in 187 (by decide +kernel) (by decide +kernel)
theorem kt_X1 : Cond.instantiable RX1 11 ∈ hAll := h_in 193 (by decide +kernel) (by decide +kernel)
theorem kmX2_184 : Cond.methodLink RX2 184 yX2_greatestStamp ∈ hAll := h_in 194 (by decide +kernel) (by decide +kernel)
theorem ki_X2_greatestStamp : Cond.instanceMethod yX2_greatestStamp ∈ hAll := h_in 196 (by decide +kernel) (by decide +kernel)
theorem kc_X2_greatestStamp : Cond.code yX2_greatestStamp cX2_greatestStamp 4 (some .int) ∈ hAll := h_in 197 (by decide +kernel) (by decide +kernel)
theorem kmX2_88 : Cond.methodLink RX2 88 yX1_isKnownAt ∈ hAll := h_in 198 (by decide +kernel) (by decide +kernel)
theorem ki_X1_isKnownAt : Cond.instanceMethod yX1_isKnownAt ∈ hAll := h_in 199 (by decide +kernel) (by decide +kernel)
theorem kv_X1_isKnownAt : Cond.selects RX1 yX1_isKnownAt yX1_isKnownAt ∈ hAll := h_in 200 (by decide +kernel) (by decide +kernel)
theorem kc_X1_isKnownAt : Cond.code yX1_isKnownAt cX1_isKnownAt 2 (some .boolean) ∈ hAll := h_in 201 (by decide +kernel) (by decide +kernel)
theorem kmX2_188 : Cond.methodLink RX2 188 yX1_init ∈ hAll := h_in 202 (by decide +kernel) (by decide +kernel)
theorem ki_X1_init : Cond.instanceMethod yX1_init ∈ hAll := h_in 203 (by decide +kernel) (by decide +kernel)
theorem kc_X1_init : Cond.code yX1_init cX1_init 7 none ∈ hAll := h_in 204 (by decide +kernel) (by decide +kernel)
theorem kmX1_1 : Cond.methodLink RX1 1 objectInit ∈ hAll := h_in 205 (by decide +kernel) (by decide +kernel)
theorem kfX1_7 : Cond.fieldLink RX1 7 "TrenchMerge$Telling" "id" "I" ∈ hAll := h_in 206 (by decide +kernel) (by decide +kernel)
theorem kfX2_55 : Cond.fieldLink RX2 55 "TrenchMerge$Telling" "id" "I" ∈ hAll := h_in 207 (by decide +kernel) (by decide +kernel)
theorem kfX1_13 : Cond.fieldLink RX1 13 "TrenchMerge$Telling" "desk" "I" ∈ hAll := h_in 208 (by decide +kernel) (by decide +kernel)
theorem kfX2_149 : Cond.fieldLink RX2 149 "TrenchMerge$Telling" "desk" "I" ∈ hAll := h_in 209 (by decide +kernel) (by decide +kernel)
theorem kfX1_16 : Cond.fieldLink RX1 16 "TrenchMerge$Telling" "stamp" "I" ∈ hAll := h_in 210 (by decide +kernel) (by decide +kernel)
theorem kfX2_146 : Cond.fieldLink RX2 146 "TrenchMerge$Telling" "stamp" "I" ∈ hAll := h_in 211 (by decide +kernel) (by decide +kernel)
theorem kfX1_19 : Cond.fieldLink RX1 19 "TrenchMerge$Telling" "sort" "I" ∈ hAll := h_in 212 (by decide +kernel) (by decide +kernel)
theorem kfX2_62 : Cond.fieldLink RX2 62 "TrenchMerge$Telling" "sort" "I" ∈ hAll := h_in 213 (by decide +kernel) (by decide +kernel)
theorem kfX1_22 : Cond.fieldLink RX1 22 "TrenchMerge$Telling" "thing" "I" ∈ hAll := h_in 214 (by decide +kernel) (by decide +kernel)
theorem kfX2_65 : Cond.fieldLink RX2 65 "TrenchMerge$Telling" "thing" "I" ∈ hAll := h_in 215 (by decide +kernel) (by decide +kernel)
theorem kfX1_25 : Cond.fieldLink RX1 25 "TrenchMerge$Telling" "value" "I" ∈ hAll := h_in 216 (by decide +kernel) (by decide +kernel)
theorem kfX2_121 : Cond.fieldLink RX2 121 "TrenchMerge$Telling" "value" "I" ∈ hAll := h_in 217 (by decide +kernel) (by decide +kernel)
theorem kfX1_28 : Cond.fieldLink RX1 28 "TrenchMerge$Telling" "knownAt" "I" ∈ hAll := h_in 218 (by decide +kernel) (by decide +kernel)
theorem kfX2_221 : Cond.fieldLink RX2 221 "TrenchMerge$Telling" "knownAt" "I" ∈ hAll := h_in 219 (by decide +kernel) (by decide +kernel)
theorem kfX1_31 : Cond.fieldLink RX1 31 "TrenchMerge$Telling" "endedAt" "I" ∈ hAll := h_in 220 (by decide +kernel) (by decide +kernel)
theorem kfX1_34 : Cond.fieldLink RX1 34 "TrenchMerge$Telling" "standsOpen" "Z" ∈ hAll := h_in 221 (by decide +kernel) (by decide +kernel)
theorem kfX2_131 : Cond.fieldLink RX2 131 "TrenchMerge$Telling" "standsOpen" "Z" ∈ hAll := h_in 222 (by decide +kernel) (by decide +kernel)
theorem kfX1_38 : Cond.fieldLink RX1 38 "TrenchMerge$Telling" "later" "LTrenchMerge$Telling;" ∈ hAll := h_in 223 (by decide +kernel) (by decide +kernel)
theorem kfX2_95 : Cond.fieldLink RX2 95 "TrenchMerge$Telling" "later" "LTrenchMerge$Telling;" ∈ hAll := h_in 224 (by decide +kernel) (by decide +kernel)
theorem kfX1_42 : Cond.fieldLink RX1 42 "TrenchMerge$Telling" "nextInRow" "LTrenchMerge$Telling;" ∈ hAll := h_in 225 (by decide +kernel) (by decide +kernel)
theorem kfX2_203 : Cond.fieldLink RX2 203 "TrenchMerge$Telling" "nextInRow" "LTrenchMerge$Telling;" ∈ hAll := h_in 226 (by decide +kernel) (by decide +kernel)
theorem kmX2_191 : Cond.methodLink RX2 191 yX2_putByRank ∈ hAll := h_in 250 (by decide +kernel) (by decide +kernel)
theorem ki_X2_putByRank : Cond.instanceMethod yX2_putByRank ∈ hAll := h_in 252 (by decide +kernel) (by decide +kernel)
theorem kc_X2_putByRank : Cond.code yX2_putByRank cX2_putByRank 4 none ∈ hAll := h_in 253 (by decide +kernel) (by decide +kernel)
theorem kmX2_200 : Cond.methodLink RX2 200 yX1_isLaterThan ∈ hAll := h_in 254 (by decide +kernel) (by decide +kernel)
theorem ki_X1_isLaterThan : Cond.instanceMethod yX1_isLaterThan ∈ hAll := h_in 255 (by decide +kernel) (by decide +kernel)
theorem kv_X1_isLaterThan : Cond.selects RX1 yX1_isLaterThan yX1_isLaterThan ∈ hAll := h_in 256 (by decide +kernel) (by decide +kernel)
theorem kc_X1_isLaterThan : Cond.code yX1_isLaterThan cX1_isLaterThan 2 (some .boolean) ∈ hAll := h_in 257 (by decide +kernel) (by decide +kernel)
theorem kmL_79 : Cond.methodLink RL 79 yL_insert ∈ hAll := h_in 258 (by decide +kernel) (by decide +kernel)
theorem ks_L_insert : Cond.static yL_insert ∈ hAll := h_in 259 (by decide +kernel) (by decide +kernel)
theorem kc_L_insert : Cond.codeWith yL_insert cL_insert 7 (some .int) [(0, (14), (17), (13)), (0, (14), (21), (15)), (0, (14), (25), (17))] ∈ hAll := h_in 260 (by decide +kernel) (by decide +kernel)
theorem kmL_19 : Cond.methodLink RL 19 yX2_insert ∈ hAll := h_in 261 (by decide +kernel) (by decide +kernel)
theorem ki_X2_insert : Cond.instanceMethod yX2_insert ∈ hAll := h_in 262 (by decide +kernel) (by decide +kernel)
theorem kv_X2_insert : Cond.selects RX2 yX2_insert yX2_insert ∈ hAll := h_in 263 (by decide +kernel) (by decide +kernel)
theorem kc_X2_insert : Cond.code yX2_insert cX2_insert 7 (some .int) ∈ hAll := h_in 264 (by decide +kernel) (by decide +kernel)
theorem kmX2_58 : Cond.methodLink RX2 58 yX2_findKnown ∈ hAll := h_in 265 (by decide +kernel) (by decide +kernel)
theorem ki_X2_findKnown : Cond.instanceMethod yX2_findKnown ∈ hAll := h_in 267 (by decide +kernel) (by decide +kernel)
theorem kc_X2_findKnown : Cond.code yX2_findKnown cX2_findKnown 4 (some (.object "TrenchMerge$Telling")) ∈ hAll := h_in 268 (by decide +kernel) (by decide +kernel)
theorem kmX2_135 : Cond.methodLink RX2 135 yX2_findMade ∈ hAll := h_in 269 (by decide +kernel) (by decide +kernel)
theorem ki_X2_findMade : Cond.instanceMethod yX2_findMade ∈ hAll := h_in 271 (by decide +kernel) (by decide +kernel)
theorem kc_X2_findMade : Cond.code yX2_findMade cX2_findMade 3 (some (.object "TrenchMerge$Telling")) ∈ hAll := h_in 272 (by decide +kernel) (by decide +kernel)
theorem kmX2_75 : Cond.methodLink RX2 75 yX2_putInRow ∈ hAll := h_in 276 (by decide +kernel) (by decide +kernel)
theorem ki_X2_putInRow : Cond.instanceMethod yX2_putInRow ∈ hAll := h_in 278 (by decide +kernel) (by decide +kernel)
theorem kc_X2_putInRow : Cond.code yX2_putInRow cX2_putInRow 6 none ∈ hAll := h_in 279 (by decide +kernel) (by decide +kernel)
theorem kmL_82 : Cond.methodLink RL 82 yL_remove ∈ hAll := h_in 280 (by decide +kernel) (by decide +kernel)
theorem ks_L_remove : Cond.static yL_remove ∈ hAll := h_in 281 (by decide +kernel) (by decide +kernel)
theorem kc_L_remove : Cond.codeWith yL_remove cL_remove 5 (some .int) [(0, (10), (13), (13)), (0, (10), (17), (15)), (0, (10), (21), (17))] ∈ hAll := h_in 282 (by decide +kernel) (by decide +kernel)
theorem kmL_22 : Cond.methodLink RL 22 yX2_remove ∈ hAll := h_in 283 (by decide +kernel) (by decide +kernel)
theorem ki_X2_remove : Cond.instanceMethod yX2_remove ∈ hAll := h_in 284 (by decide +kernel) (by decide +kernel)
theorem kv_X2_remove : Cond.selects RX2 yX2_remove yX2_remove ∈ hAll := h_in 285 (by decide +kernel) (by decide +kernel)
theorem kc_X2_remove : Cond.code yX2_remove cX2_remove 3 (some .int) ∈ hAll := h_in 286 (by decide +kernel) (by decide +kernel)
theorem kmX2_79 : Cond.methodLink RX2 79 yX2_end ∈ hAll := h_in 287 (by decide +kernel) (by decide +kernel)
theorem ki_X2_end : Cond.instanceMethod yX2_end ∈ hAll := h_in 289 (by decide +kernel) (by decide +kernel)
theorem kc_X2_end : Cond.code yX2_end cX2_end 7 (some .int) ∈ hAll := h_in 290 (by decide +kernel) (by decide +kernel)
theorem kmX2_197 : Cond.methodLink RX2 197 yX1_endAt ∈ hAll := h_in 292 (by decide +kernel) (by decide +kernel)
theorem ki_X1_endAt : Cond.instanceMethod yX1_endAt ∈ hAll := h_in 293 (by decide +kernel) (by decide +kernel)
theorem kv_X1_endAt : Cond.selects RX1 yX1_endAt yX1_endAt ∈ hAll := h_in 294 (by decide +kernel) (by decide +kernel)
theorem kc_X1_endAt : Cond.code yX1_endAt cX1_endAt 2 none ∈ hAll := h_in 295 (by decide +kernel) (by decide +kernel)
theorem kmL_86 : Cond.methodLink RL 86 yL_relate ∈ hAll := h_in 296 (by decide +kernel) (by decide +kernel)
theorem ks_L_relate : Cond.static yL_relate ∈ hAll := h_in 297 (by decide +kernel) (by decide +kernel)
theorem kc_L_relate : Cond.codeWith yL_relate cL_relate 6 (some .int) [(0, (12), (15), (13)), (0, (12), (19), (15)), (0, (12), (23), (17))] ∈ hAll := h_in 298 (by decide +kernel) (by decide +kernel)
theorem kmL_26 : Cond.methodLink RL 26 yX2_relate ∈ hAll := h_in 299 (by decide +kernel) (by decide +kernel)
theorem ki_X2_relate : Cond.instanceMethod yX2_relate ∈ hAll := h_in 300 (by decide +kernel) (by decide +kernel)
theorem kv_X2_relate : Cond.selects RX2 yX2_relate yX2_relate ∈ hAll := h_in 301 (by decide +kernel) (by decide +kernel)
theorem kc_X2_relate : Cond.code yX2_relate cX2_relate 4 (some .int) ∈ hAll := h_in 302 (by decide +kernel) (by decide +kernel)
theorem kmX2_83 : Cond.methodLink RX2 83 yX2_requireContext ∈ hAll := h_in 303 (by decide +kernel) (by decide +kernel)
theorem ks_X2_requireContext : Cond.static yX2_requireContext ∈ hAll := h_in 304 (by decide +kernel) (by decide +kernel)
theorem kc_X2_requireContext : Cond.code yX2_requireContext cX2_requireContext 1 none ∈ hAll := h_in 305 (by decide +kernel) (by decide +kernel)
theorem kmL_90 : Cond.methodLink RL 90 yL_drop ∈ hAll := h_in 308 (by decide +kernel) (by decide +kernel)
theorem ks_L_drop : Cond.static yL_drop ∈ hAll := h_in 309 (by decide +kernel) (by decide +kernel)
theorem kc_L_drop : Cond.codeWith yL_drop cL_drop 5 (some .int) [(0, (10), (13), (13)), (0, (10), (17), (15)), (0, (10), (21), (17))] ∈ hAll := h_in 310 (by decide +kernel) (by decide +kernel)
theorem kmL_30 : Cond.methodLink RL 30 yX2_drop ∈ hAll := h_in 311 (by decide +kernel) (by decide +kernel)
theorem ki_X2_drop : Cond.instanceMethod yX2_drop ∈ hAll := h_in 312 (by decide +kernel) (by decide +kernel)
theorem kv_X2_drop : Cond.selects RX2 yX2_drop yX2_drop ∈ hAll := h_in 313 (by decide +kernel) (by decide +kernel)
theorem kc_X2_drop : Cond.code yX2_drop cX2_drop 3 (some .int) ∈ hAll := h_in 314 (by decide +kernel) (by decide +kernel)
theorem kmL_93 : Cond.methodLink RL 93 yL_join ∈ hAll := h_in 315 (by decide +kernel) (by decide +kernel)
theorem ks_L_join : Cond.static yL_join ∈ hAll := h_in 316 (by decide +kernel) (by decide +kernel)
theorem kc_L_join : Cond.codeWith yL_join cL_join 5 (some .int) [(0, (10), (13), (13))] ∈ hAll := h_in 317 (by decide +kernel) (by decide +kernel)
theorem kmL_33 : Cond.methodLink RL 33 yX2_join ∈ hAll := h_in 318 (by decide +kernel) (by decide +kernel)
theorem ki_X2_join : Cond.instanceMethod yX2_join ∈ hAll := h_in 319 (by decide +kernel) (by decide +kernel)
theorem kv_X2_join : Cond.selects RX2 yX2_join yX2_join ∈ hAll := h_in 320 (by decide +kernel) (by decide +kernel)
theorem kc_X2_join : Cond.code yX2_join cX2_join 5 (some .int) ∈ hAll := h_in 321 (by decide +kernel) (by decide +kernel)
theorem kmX2_92 : Cond.methodLink RX2 92 yX1_pass ∈ hAll := h_in 322 (by decide +kernel) (by decide +kernel)
theorem ki_X1_pass : Cond.instanceMethod yX1_pass ∈ hAll := h_in 323 (by decide +kernel) (by decide +kernel)
theorem kv_X1_pass : Cond.selects RX1 yX1_pass yX1_pass ∈ hAll := h_in 324 (by decide +kernel) (by decide +kernel)
theorem kc_X1_pass : Cond.code yX1_pass cX1_pass 3 none ∈ hAll := h_in 325 (by decide +kernel) (by decide +kernel)
theorem kmL_96 : Cond.methodLink RL 96 yL_number ∈ hAll := h_in 326 (by decide +kernel) (by decide +kernel)
theorem ks_L_number : Cond.static yL_number ∈ hAll := h_in 327 (by decide +kernel) (by decide +kernel)
theorem kc_L_number : Cond.codeWith yL_number cL_number 4 (some .int) [(0, (9), (12), (13)), (0, (9), (15), (17))] ∈ hAll := h_in 328 (by decide +kernel) (by decide +kernel)
theorem kmL_36 : Cond.methodLink RL 36 yX2_number ∈ hAll := h_in 329 (by decide +kernel) (by decide +kernel)
theorem ki_X2_number : Cond.instanceMethod yX2_number ∈ hAll := h_in 330 (by decide +kernel) (by decide +kernel)
theorem kv_X2_number : Cond.selects RX2 yX2_number yX2_number ∈ hAll := h_in 331 (by decide +kernel) (by decide +kernel)
theorem kc_X2_number : Cond.code yX2_number cX2_number 3 (some .int) ∈ hAll := h_in 332 (by decide +kernel) (by decide +kernel)
theorem kmL_100 : Cond.methodLink RL 100 yL_at ∈ hAll := h_in 334 (by decide +kernel) (by decide +kernel)
theorem ks_L_at : Cond.static yL_at ∈ hAll := h_in 335 (by decide +kernel) (by decide +kernel)
theorem kc_L_at : Cond.codeWith yL_at cL_at 7 (some .int) [(0, (14), (17), (13))] ∈ hAll := h_in 336 (by decide +kernel) (by decide +kernel)
theorem kmL_40 : Cond.methodLink RL 40 yX2_at ∈ hAll := h_in 337 (by decide +kernel) (by decide +kernel)
theorem ki_X2_at : Cond.instanceMethod yX2_at ∈ hAll := h_in 338 (by decide +kernel) (by decide +kernel)
theorem kv_X2_at : Cond.selects RX2 yX2_at yX2_at ∈ hAll := h_in 339 (by decide +kernel) (by decide +kernel)
theorem kc_X2_at : Cond.code yX2_at cX2_at 6 (some .int) ∈ hAll := h_in 340 (by decide +kernel) (by decide +kernel)
theorem kmX2_103 : Cond.methodLink RX2 103 yX2_requireOrdinal ∈ hAll := h_in 341 (by decide +kernel) (by decide +kernel)
theorem ks_X2_requireOrdinal : Cond.static yX2_requireOrdinal ∈ hAll := h_in 342 (by decide +kernel) (by decide +kernel)
theorem kc_X2_requireOrdinal : Cond.code yX2_requireOrdinal cX2_requireOrdinal 1 none ∈ hAll := h_in 343 (by decide +kernel) (by decide +kernel)
theorem kmX2_106 : Cond.methodLink RX2 106 yX2_latestValue ∈ hAll := h_in 345 (by decide +kernel) (by decide +kernel)
theorem ki_X2_latestValue : Cond.instanceMethod yX2_latestValue ∈ hAll := h_in 347 (by decide +kernel) (by decide +kernel)
theorem kc_X2_latestValue : Cond.code yX2_latestValue cX2_latestValue 5 (some .int) ∈ hAll := h_in 348 (by decide +kernel) (by decide +kernel)
theorem kmX2_209 : Cond.methodLink RX2 209 yX1_isOfField ∈ hAll := h_in 349 (by decide +kernel) (by decide +kernel)
theorem ki_X1_isOfField : Cond.instanceMethod yX1_isOfField ∈ hAll := h_in 350 (by decide +kernel) (by decide +kernel)
theorem kv_X1_isOfField : Cond.selects RX1 yX1_isOfField yX1_isOfField ∈ hAll := h_in 351 (by decide +kernel) (by decide +kernel)
theorem kc_X1_isOfField : Cond.code yX1_isOfField cX1_isOfField 3 (some .boolean) ∈ hAll := h_in 352 (by decide +kernel) (by decide +kernel)
theorem kmX2_110 : Cond.methodLink RX2 110 yX2_sumOfValues ∈ hAll := h_in 353 (by decide +kernel) (by decide +kernel)
theorem ki_X2_sumOfValues : Cond.instanceMethod yX2_sumOfValues ∈ hAll := h_in 355 (by decide +kernel) (by decide +kernel)
theorem kc_X2_sumOfValues : Cond.code yX2_sumOfValues cX2_sumOfValues 5 (some .int) ∈ hAll := h_in 356 (by decide +kernel) (by decide +kernel)
theorem kmX2_113 : Cond.methodLink RX2 113 yX2_memberOfUnion ∈ hAll := h_in 357 (by decide +kernel) (by decide +kernel)
theorem ki_X2_memberOfUnion : Cond.instanceMethod yX2_memberOfUnion ∈ hAll := h_in 359 (by decide +kernel) (by decide +kernel)
theorem kc_X2_memberOfUnion : Cond.code yX2_memberOfUnion cX2_memberOfUnion 7 (some .int) ∈ hAll := h_in 360 (by decide +kernel) (by decide +kernel)
theorem kmX2_117 : Cond.methodLink RX2 117 yX2_findInRow ∈ hAll := h_in 361 (by decide +kernel) (by decide +kernel)
theorem ki_X2_findInRow : Cond.instanceMethod yX2_findInRow ∈ hAll := h_in 363 (by decide +kernel) (by decide +kernel)
theorem kc_X2_findInRow : Cond.code yX2_findInRow cX2_findInRow 6 (some (.object "TrenchMerge$Telling")) ∈ hAll := h_in 364 (by decide +kernel) (by decide +kernel)
theorem kmX2_206 : Cond.methodLink RX2 206 yX1_isEndedAt ∈ hAll := h_in 365 (by decide +kernel) (by decide +kernel)
theorem ki_X1_isEndedAt : Cond.instanceMethod yX1_isEndedAt ∈ hAll := h_in 366 (by decide +kernel) (by decide +kernel)
theorem kv_X1_isEndedAt : Cond.selects RX1 yX1_isEndedAt yX1_isEndedAt ∈ hAll := h_in 367 (by decide +kernel) (by decide +kernel)
theorem kc_X1_isEndedAt : Cond.code yX1_isEndedAt cX1_isEndedAt 2 (some .boolean) ∈ hAll := h_in 368 (by decide +kernel) (by decide +kernel)
theorem kmL_103 : Cond.methodLink RL 103 yL_place ∈ hAll := h_in 369 (by decide +kernel) (by decide +kernel)
theorem ks_L_place : Cond.static yL_place ∈ hAll := h_in 370 (by decide +kernel) (by decide +kernel)
theorem kc_L_place : Cond.codeWith yL_place cL_place 6 (some .int) [(0, (12), (15), (13))] ∈ hAll := h_in 371 (by decide +kernel) (by decide +kernel)
theorem kmL_43 : Cond.methodLink RL 43 yX2_place ∈ hAll := h_in 372 (by decide +kernel) (by decide +kernel)
theorem ki_X2_place : Cond.instanceMethod yX2_place ∈ hAll := h_in 373 (by decide +kernel) (by decide +kernel)
theorem kv_X2_place : Cond.selects RX2 yX2_place yX2_place ∈ hAll := h_in 374 (by decide +kernel) (by decide +kernel)
theorem kc_X2_place : Cond.code yX2_place cX2_place 5 (some .int) ∈ hAll := h_in 375 (by decide +kernel) (by decide +kernel)
theorem kmL_106 : Cond.methodLink RL 106 yL_order ∈ hAll := h_in 376 (by decide +kernel) (by decide +kernel)
theorem ks_L_order : Cond.static yL_order ∈ hAll := h_in 377 (by decide +kernel) (by decide +kernel)
theorem kc_L_order : Cond.codeWith yL_order cL_order 6 (some .int) [(0, (12), (15), (13))] ∈ hAll := h_in 378 (by decide +kernel) (by decide +kernel)
theorem kmL_46 : Cond.methodLink RL 46 yX2_order ∈ hAll := h_in 379 (by decide +kernel) (by decide +kernel)
theorem ki_X2_order : Cond.instanceMethod yX2_order ∈ hAll := h_in 380 (by decide +kernel) (by decide +kernel)
theorem kv_X2_order : Cond.selects RX2 yX2_order yX2_order ∈ hAll := h_in 381 (by decide +kernel) (by decide +kernel)
theorem kc_X2_order : Cond.code yX2_order cX2_order 4 (some .int) ∈ hAll := h_in 382 (by decide +kernel) (by decide +kernel)
theorem kmX2_124 : Cond.methodLink RX2 124 yX2_takeRelations ∈ hAll := h_in 383 (by decide +kernel) (by decide +kernel)
theorem ki_X2_takeRelations : Cond.instanceMethod yX2_takeRelations ∈ hAll := h_in 385 (by decide +kernel) (by decide +kernel)
theorem kc_X2_takeRelations : Cond.code yX2_takeRelations cX2_takeRelations 4 none ∈ hAll := h_in 386 (by decide +kernel) (by decide +kernel)
theorem kmX2_212 : Cond.methodLink RX2 212 yX0_clear ∈ hAll := h_in 387 (by decide +kernel) (by decide +kernel)
theorem ki_X0_clear : Cond.instanceMethod yX0_clear ∈ hAll := h_in 388 (by decide +kernel) (by decide +kernel)
theorem kv_X0_clear : Cond.selects RX0 yX0_clear yX0_clear ∈ hAll := h_in 389 (by decide +kernel) (by decide +kernel)
theorem kc_X0_clear : Cond.code yX0_clear cX0_clear 2 none ∈ hAll := h_in 390 (by decide +kernel) (by decide +kernel)
theorem kmX2_215 : Cond.methodLink RX2 215 yX0_take ∈ hAll := h_in 391 (by decide +kernel) (by decide +kernel)
theorem ki_X0_take : Cond.instanceMethod yX0_take ∈ hAll := h_in 392 (by decide +kernel) (by decide +kernel)
theorem kv_X0_take : Cond.selects RX0 yX0_take yX0_take ∈ hAll := h_in 393 (by decide +kernel) (by decide +kernel)
theorem kc_X0_take : Cond.code yX0_take cX0_take 5 (some .boolean) ∈ hAll := h_in 394 (by decide +kernel) (by decide +kernel)
theorem kmX0_15 : Cond.methodLink RX0 15 yX0_isContext ∈ hAll := h_in 395 (by decide +kernel) (by decide +kernel)
theorem ks_X0_isContext : Cond.static yX0_isContext ∈ hAll := h_in 396 (by decide +kernel) (by decide +kernel)
theorem kc_X0_isContext : Cond.code yX0_isContext cX0_isContext 1 (some .boolean) ∈ hAll := h_in 397 (by decide +kernel) (by decide +kernel)
theorem kmX0_19 : Cond.methodLink RX0 19 yX0_isOver ∈ hAll := h_in 398 (by decide +kernel) (by decide +kernel)
theorem ki_X0_isOver : Cond.instanceMethod yX0_isOver ∈ hAll := h_in 399 (by decide +kernel) (by decide +kernel)
theorem kv_X0_isOver : Cond.selects RX0 yX0_isOver yX0_isOver ∈ hAll := h_in 400 (by decide +kernel) (by decide +kernel)
theorem kc_X0_isOver : Cond.code yX0_isOver cX0_isOver 3 (some .boolean) ∈ hAll := h_in 401 (by decide +kernel) (by decide +kernel)
theorem kmX2_127 : Cond.methodLink RX2 127 yX0_isOver ∈ hAll := h_in 402 (by decide +kernel) (by decide +kernel)
theorem kmL_109 : Cond.methodLink RL 109 yL_open ∈ hAll := h_in 403 (by decide +kernel) (by decide +kernel)
theorem ks_L_open : Cond.static yL_open ∈ hAll := h_in 404 (by decide +kernel) (by decide +kernel)
theorem kc_L_open : Cond.codeWith yL_open cL_open 5 (some .int) [(0, (10), (13), (13))] ∈ hAll := h_in 405 (by decide +kernel) (by decide +kernel)
theorem kmL_49 : Cond.methodLink RL 49 yX2_open ∈ hAll := h_in 406 (by decide +kernel) (by decide +kernel)
theorem ki_X2_open : Cond.instanceMethod yX2_open ∈ hAll := h_in 407 (by decide +kernel) (by decide +kernel)
theorem kv_X2_open : Cond.selects RX2 yX2_open yX2_open ∈ hAll := h_in 408 (by decide +kernel) (by decide +kernel)
theorem kc_X2_open : Cond.code yX2_open cX2_open 5 (some .int) ∈ hAll := h_in 409 (by decide +kernel) (by decide +kernel)
theorem kmL_112 : Cond.methodLink RL 112 yL_knows ∈ hAll := h_in 410 (by decide +kernel) (by decide +kernel)
theorem ks_L_knows : Cond.static yL_knows ∈ hAll := h_in 411 (by decide +kernel) (by decide +kernel)
theorem kc_L_knows : Cond.codeWith yL_knows cL_knows 5 (some .int) [(0, (17), (20), (13))] ∈ hAll := h_in 412 (by decide +kernel) (by decide +kernel)
theorem kmL_52 : Cond.methodLink RL 52 yX2_knows ∈ hAll := h_in 413 (by decide +kernel) (by decide +kernel)
theorem ki_X2_knows : Cond.instanceMethod yX2_knows ∈ hAll := h_in 414 (by decide +kernel) (by decide +kernel)
theorem kv_X2_knows : Cond.selects RX2 yX2_knows yX2_knows ∈ hAll := h_in 415 (by decide +kernel) (by decide +kernel)
theorem kc_X2_knows : Cond.code yX2_knows cX2_knows 3 (some .boolean) ∈ hAll := h_in 416 (by decide +kernel) (by decide +kernel)
theorem kmL_115 : Cond.methodLink RL 115 yL_equal ∈ hAll := h_in 417 (by decide +kernel) (by decide +kernel)
theorem ks_L_equal : Cond.static yL_equal ∈ hAll := h_in 418 (by decide +kernel) (by decide +kernel)
theorem kc_L_equal : Cond.codeWith yL_equal cL_equal 5 (some .int) [(0, (17), (20), (13))] ∈ hAll := h_in 419 (by decide +kernel) (by decide +kernel)
theorem kmL_56 : Cond.methodLink RL 56 yX2_equal ∈ hAll := h_in 420 (by decide +kernel) (by decide +kernel)
theorem ki_X2_equal : Cond.instanceMethod yX2_equal ∈ hAll := h_in 421 (by decide +kernel) (by decide +kernel)
theorem kv_X2_equal : Cond.selects RX2 yX2_equal yX2_equal ∈ hAll := h_in 422 (by decide +kernel) (by decide +kernel)
theorem kc_X2_equal : Cond.code yX2_equal cX2_equal 4 (some .boolean) ∈ hAll := h_in 423 (by decide +kernel) (by decide +kernel)
theorem kmL_122 : Cond.methodLink RL 122 yL_about ∈ hAll := h_in 424 (by decide +kernel) (by decide +kernel)
theorem ks_L_about : Cond.static yL_about ∈ hAll := h_in 425 (by decide +kernel) (by decide +kernel)
theorem kc_L_about : Cond.codeWith yL_about cL_about 6 (some .int) [(0, (12), (15), (13)), (0, (12), (19), (15))] ∈ hAll := h_in 426 (by decide +kernel) (by decide +kernel)
theorem kmL_59 : Cond.methodLink RL 59 yX2_about ∈ hAll := h_in 427 (by decide +kernel) (by decide +kernel)
theorem ki_X2_about : Cond.instanceMethod yX2_about ∈ hAll := h_in 428 (by decide +kernel) (by decide +kernel)
theorem kv_X2_about : Cond.selects RX2 yX2_about yX2_about ∈ hAll := h_in 429 (by decide +kernel) (by decide +kernel)
theorem kc_X2_about : Cond.code yX2_about cX2_about 5 (some .int) ∈ hAll := h_in 430 (by decide +kernel) (by decide +kernel)
theorem kmL_125 : Cond.methodLink RL 125 yL_count ∈ hAll := h_in 432 (by decide +kernel) (by decide +kernel)
theorem ks_L_count : Cond.static yL_count ∈ hAll := h_in 433 (by decide +kernel) (by decide +kernel)
theorem kc_L_count : Cond.codeWith yL_count cL_count 4 (some .int) [(0, (9), (12), (15))] ∈ hAll := h_in 434 (by decide +kernel) (by decide +kernel)
theorem kmL_62 : Cond.methodLink RL 62 yX2_count ∈ hAll := h_in 435 (by decide +kernel) (by decide +kernel)
theorem ki_X2_count : Cond.instanceMethod yX2_count ∈ hAll := h_in 436 (by decide +kernel) (by decide +kernel)
theorem kv_X2_count : Cond.selects RX2 yX2_count yX2_count ∈ hAll := h_in 437 (by decide +kernel) (by decide +kernel)
theorem kc_X2_count : Cond.code yX2_count cX2_count 2 (some .int) ∈ hAll := h_in 438 (by decide +kernel) (by decide +kernel)
theorem kmX2_154 : Cond.methodLink RX2 154 yX2_countForgotten ∈ hAll := h_in 439 (by decide +kernel) (by decide +kernel)
theorem ki_X2_countForgotten : Cond.instanceMethod yX2_countForgotten ∈ hAll := h_in 441 (by decide +kernel) (by decide +kernel)
theorem kc_X2_countForgotten : Cond.code yX2_countForgotten cX2_countForgotten 3 (some .int) ∈ hAll := h_in 442 (by decide +kernel) (by decide +kernel)
theorem kmX2_224 : Cond.methodLink RX2 224 yX1_isForgotten ∈ hAll := h_in 443 (by decide +kernel) (by decide +kernel)
theorem ki_X1_isForgotten : Cond.instanceMethod yX1_isForgotten ∈ hAll := h_in 444 (by decide +kernel) (by decide +kernel)
theorem kv_X1_isForgotten : Cond.selects RX1 yX1_isForgotten yX1_isForgotten ∈ hAll := h_in 445 (by decide +kernel) (by decide +kernel)
theorem kc_X1_isForgotten : Cond.code yX1_isForgotten cX1_isForgotten 1 (some .boolean) ∈ hAll := h_in 446 (by decide +kernel) (by decide +kernel)
theorem kmX2_158 : Cond.methodLink RX2 158 yX2_countUnshared ∈ hAll := h_in 447 (by decide +kernel) (by decide +kernel)
theorem ki_X2_countUnshared : Cond.instanceMethod yX2_countUnshared ∈ hAll := h_in 449 (by decide +kernel) (by decide +kernel)
theorem kc_X2_countUnshared : Cond.code yX2_countUnshared cX2_countUnshared 3 (some .int) ∈ hAll := h_in 450 (by decide +kernel) (by decide +kernel)
theorem klL_66 : Cond.classLink RL 66 RX3 ∈ hAll := h_in 452 (by decide +kernel) (by decide +kernel)
theorem kt_X3 : Cond.instantiable RX3 17 ∈ hAll := h_in 453 (by decide +kernel) (by decide +kernel)
theorem kmL_68 : Cond.methodLink RL 68 yX3_init ∈ hAll := h_in 454 (by decide +kernel) (by decide +kernel)
theorem ki_X3_init : Cond.instanceMethod yX3_init ∈ hAll := h_in 455 (by decide +kernel) (by decide +kernel)
theorem kc_X3_init : Cond.code yX3_init cX3_init 1 none ∈ hAll := h_in 456 (by decide +kernel) (by decide +kernel)
theorem kmX3_1 : Cond.methodLink RX3 1 objectInit ∈ hAll := h_in 457 (by decide +kernel) (by decide +kernel)
theorem kfX3_50 : Cond.fieldLink RX3 50 "TrenchMergeModel" "thrown" "I" ∈ hAll := h_in 458 (by decide +kernel) (by decide +kernel)
theorem kfX3_58 : Cond.fieldLink RX3 58 "TrenchMergeModel" "made" "I" ∈ hAll := h_in 459 (by decide +kernel) (by decide +kernel)
theorem kfX3_7 : Cond.fieldLink RX3 7 "TrenchMergeModel" "stamps" "[I" ∈ hAll := h_in 460 (by decide +kernel) (by decide +kernel)
theorem kfX3_13 : Cond.fieldLink RX3 13 "TrenchMergeModel" "desks" "[I" ∈ hAll := h_in 461 (by decide +kernel) (by decide +kernel)
theorem kfX3_16 : Cond.fieldLink RX3 16 "TrenchMergeModel" "sorts" "[I" ∈ hAll := h_in 462 (by decide +kernel) (by decide +kernel)
theorem kfX3_19 : Cond.fieldLink RX3 19 "TrenchMergeModel" "things" "[I" ∈ hAll := h_in 463 (by decide +kernel) (by decide +kernel)
theorem kfX3_22 : Cond.fieldLink RX3 22 "TrenchMergeModel" "values" "[I" ∈ hAll := h_in 464 (by decide +kernel) (by decide +kernel)
theorem kfX3_25 : Cond.fieldLink RX3 25 "TrenchMergeModel" "behinds" "[I" ∈ hAll := h_in 465 (by decide +kernel) (by decide +kernel)
theorem kfX3_28 : Cond.fieldLink RX3 28 "TrenchMergeModel" "forgotten" "[Z" ∈ hAll := h_in 466 (by decide +kernel) (by decide +kernel)
theorem kfX3_32 : Cond.fieldLink RX3 32 "TrenchMergeModel" "known" "[Z" ∈ hAll := h_in 467 (by decide +kernel) (by decide +kernel)
theorem kfX3_35 : Cond.fieldLink RX3 35 "TrenchMergeModel" "given" "[I" ∈ hAll := h_in 468 (by decide +kernel) (by decide +kernel)
theorem kfX3_38 : Cond.fieldLink RX3 38 "TrenchMergeModel" "order" "[I" ∈ hAll := h_in 469 (by decide +kernel) (by decide +kernel)
theorem kfX3_86 : Cond.fieldLink RX3 86 "TrenchMergeModel" "ordered" "I" ∈ hAll := h_in 470 (by decide +kernel) (by decide +kernel)
theorem kfX3_41 : Cond.fieldLink RX3 41 "TrenchMergeModel" "over" "[Z" ∈ hAll := h_in 471 (by decide +kernel) (by decide +kernel)
theorem kfX3_44 : Cond.fieldLink RX3 44 "TrenchMergeModel" "opens" "[I" ∈ hAll := h_in 472 (by decide +kernel) (by decide +kernel)
theorem kfX3_110 : Cond.fieldLink RX3 110 "TrenchMergeModel" "manyOpen" "I" ∈ hAll := h_in 473 (by decide +kernel) (by decide +kernel)
theorem kfX3_47 : Cond.fieldLink RX3 47 "TrenchMergeModel" "goes" "[Z" ∈ hAll := h_in 474 (by decide +kernel) (by decide +kernel)
theorem ka_boolean : Cond.arrayClass .boolean ∈ hAll := h_in 510 (by decide +kernel) (by decide +kernel)
theorem kmL_75 : Cond.methodLink RL 75 yX3_thrown ∈ hAll := h_in 511 (by decide +kernel) (by decide +kernel)
theorem ki_X3_thrown : Cond.instanceMethod yX3_thrown ∈ hAll := h_in 512 (by decide +kernel) (by decide +kernel)
theorem kv_X3_thrown : Cond.selects RX3 yX3_thrown yX3_thrown ∈ hAll := h_in 513 (by decide +kernel) (by decide +kernel)
theorem kc_X3_thrown : Cond.code yX3_thrown cX3_thrown 1 (some .int) ∈ hAll := h_in 514 (by decide +kernel) (by decide +kernel)
theorem kmL_74 : Cond.methodLink RL 74 yX3_tell ∈ hAll := h_in 515 (by decide +kernel) (by decide +kernel)
theorem ki_X3_tell : Cond.instanceMethod yX3_tell ∈ hAll := h_in 516 (by decide +kernel) (by decide +kernel)
theorem kv_X3_tell : Cond.selects RX3 yX3_tell yX3_tell ∈ hAll := h_in 517 (by decide +kernel) (by decide +kernel)
theorem kc_X3_tell : Cond.code yX3_tell cX3_tell 5 (some .int) ∈ hAll := h_in 518 (by decide +kernel) (by decide +kernel)
theorem kmX3_54 : Cond.methodLink RX3 54 yX3_isDesk ∈ hAll := h_in 519 (by decide +kernel) (by decide +kernel)
theorem ks_X3_isDesk : Cond.static yX3_isDesk ∈ hAll := h_in 520 (by decide +kernel) (by decide +kernel)
theorem kc_X3_isDesk : Cond.code yX3_isDesk cX3_isDesk 1 (some .boolean) ∈ hAll := h_in 521 (by decide +kernel) (by decide +kernel)
theorem kmX3_61 : Cond.methodLink RX3 61 yX3_isThing ∈ hAll := h_in 522 (by decide +kernel) (by decide +kernel)
theorem ks_X3_isThing : Cond.static yX3_isThing ∈ hAll := h_in 523 (by decide +kernel) (by decide +kernel)
theorem kc_X3_isThing : Cond.code yX3_isThing cX3_isThing 1 (some .boolean) ∈ hAll := h_in 524 (by decide +kernel) (by decide +kernel)
theorem kmX3_64 : Cond.methodLink RX3 64 yX3_within ∈ hAll := h_in 525 (by decide +kernel) (by decide +kernel)
theorem ks_X3_within : Cond.static yX3_within ∈ hAll := h_in 526 (by decide +kernel) (by decide +kernel)
theorem kc_X3_within : Cond.code yX3_within cX3_within 3 (some .boolean) ∈ hAll := h_in 527 (by decide +kernel) (by decide +kernel)
theorem kmX3_68 : Cond.methodLink RX3 68 yX3_goes ∈ hAll := h_in 528 (by decide +kernel) (by decide +kernel)
theorem ki_X3_goes : Cond.instanceMethod yX3_goes ∈ hAll := h_in 530 (by decide +kernel) (by decide +kernel)
theorem kc_X3_goes : Cond.code yX3_goes cX3_goes 4 (some .boolean) ∈ hAll := h_in 531 (by decide +kernel) (by decide +kernel)
theorem kmX3_71 : Cond.methodLink RX3 71 yX3_make ∈ hAll := h_in 532 (by decide +kernel) (by decide +kernel)
theorem ki_X3_make : Cond.instanceMethod yX3_make ∈ hAll := h_in 534 (by decide +kernel) (by decide +kernel)
theorem kc_X3_make : Cond.code yX3_make cX3_make 8 (some .int) ∈ hAll := h_in 535 (by decide +kernel) (by decide +kernel)
theorem kmL_81 : Cond.methodLink RL 81 yX3_insert ∈ hAll := h_in 536 (by decide +kernel) (by decide +kernel)
theorem ki_X3_insert : Cond.instanceMethod yX3_insert ∈ hAll := h_in 537 (by decide +kernel) (by decide +kernel)
theorem kv_X3_insert : Cond.selects RX3 yX3_insert yX3_insert ∈ hAll := h_in 538 (by decide +kernel) (by decide +kernel)
theorem kc_X3_insert : Cond.code yX3_insert cX3_insert 7 (some .int) ∈ hAll := h_in 539 (by decide +kernel) (by decide +kernel)
theorem kmX3_75 : Cond.methodLink RX3 75 yX3_knowsOf ∈ hAll := h_in 540 (by decide +kernel) (by decide +kernel)
theorem ki_X3_knowsOf : Cond.instanceMethod yX3_knowsOf ∈ hAll := h_in 542 (by decide +kernel) (by decide +kernel)
theorem kc_X3_knowsOf : Cond.code yX3_knowsOf cX3_knowsOf 3 (some .boolean) ∈ hAll := h_in 543 (by decide +kernel) (by decide +kernel)
theorem kmL_85 : Cond.methodLink RL 85 yX3_remove ∈ hAll := h_in 544 (by decide +kernel) (by decide +kernel)
theorem ki_X3_remove : Cond.instanceMethod yX3_remove ∈ hAll := h_in 545 (by decide +kernel) (by decide +kernel)
theorem kv_X3_remove : Cond.selects RX3 yX3_remove yX3_remove ∈ hAll := h_in 546 (by decide +kernel) (by decide +kernel)
theorem kc_X3_remove : Cond.code yX3_remove cX3_remove 4 (some .int) ∈ hAll := h_in 547 (by decide +kernel) (by decide +kernel)
theorem kmL_89 : Cond.methodLink RL 89 yX3_relate ∈ hAll := h_in 548 (by decide +kernel) (by decide +kernel)
theorem ki_X3_relate : Cond.instanceMethod yX3_relate ∈ hAll := h_in 549 (by decide +kernel) (by decide +kernel)
theorem kv_X3_relate : Cond.selects RX3 yX3_relate yX3_relate ∈ hAll := h_in 550 (by decide +kernel) (by decide +kernel)
theorem kc_X3_relate : Cond.code yX3_relate cX3_relate 4 (some .int) ∈ hAll := h_in 551 (by decide +kernel) (by decide +kernel)
theorem kmL_92 : Cond.methodLink RL 92 yX3_drop ∈ hAll := h_in 552 (by decide +kernel) (by decide +kernel)
theorem ki_X3_drop : Cond.instanceMethod yX3_drop ∈ hAll := h_in 553 (by decide +kernel) (by decide +kernel)
theorem kv_X3_drop : Cond.selects RX3 yX3_drop yX3_drop ∈ hAll := h_in 554 (by decide +kernel) (by decide +kernel)
theorem kc_X3_drop : Cond.code yX3_drop cX3_drop 4 (some .int) ∈ hAll := h_in 555 (by decide +kernel) (by decide +kernel)
theorem kmL_95 : Cond.methodLink RL 95 yX3_join ∈ hAll := h_in 556 (by decide +kernel) (by decide +kernel)
theorem ki_X3_join : Cond.instanceMethod yX3_join ∈ hAll := h_in 557 (by decide +kernel) (by decide +kernel)
theorem kv_X3_join : Cond.selects RX3 yX3_join yX3_join ∈ hAll := h_in 558 (by decide +kernel) (by decide +kernel)
theorem kc_X3_join : Cond.code yX3_join cX3_join 6 (some .int) ∈ hAll := h_in 559 (by decide +kernel) (by decide +kernel)
theorem kmL_99 : Cond.methodLink RL 99 yX3_number ∈ hAll := h_in 560 (by decide +kernel) (by decide +kernel)
theorem ki_X3_number : Cond.instanceMethod yX3_number ∈ hAll := h_in 561 (by decide +kernel) (by decide +kernel)
theorem kv_X3_number : Cond.selects RX3 yX3_number yX3_number ∈ hAll := h_in 562 (by decide +kernel) (by decide +kernel)
theorem kc_X3_number : Cond.code yX3_number cX3_number 2 (some .int) ∈ hAll := h_in 563 (by decide +kernel) (by decide +kernel)
theorem kmL_102 : Cond.methodLink RL 102 yX3_at ∈ hAll := h_in 564 (by decide +kernel) (by decide +kernel)
theorem ki_X3_at : Cond.instanceMethod yX3_at ∈ hAll := h_in 565 (by decide +kernel) (by decide +kernel)
theorem kv_X3_at : Cond.selects RX3 yX3_at yX3_at ∈ hAll := h_in 566 (by decide +kernel) (by decide +kernel)
theorem kc_X3_at : Cond.code yX3_at cX3_at 6 (some .int) ∈ hAll := h_in 567 (by decide +kernel) (by decide +kernel)
theorem kmX3_96 : Cond.methodLink RX3 96 yX3_latest ∈ hAll := h_in 568 (by decide +kernel) (by decide +kernel)
theorem ki_X3_latest : Cond.instanceMethod yX3_latest ∈ hAll := h_in 570 (by decide +kernel) (by decide +kernel)
theorem kc_X3_latest : Cond.code yX3_latest cX3_latest 5 (some .int) ∈ hAll := h_in 571 (by decide +kernel) (by decide +kernel)
theorem kmX3_79 : Cond.methodLink RX3 79 yX3_isOf ∈ hAll := h_in 572 (by decide +kernel) (by decide +kernel)
theorem ki_X3_isOf : Cond.instanceMethod yX3_isOf ∈ hAll := h_in 574 (by decide +kernel) (by decide +kernel)
theorem kc_X3_isOf : Cond.code yX3_isOf cX3_isOf 5 (some .boolean) ∈ hAll := h_in 575 (by decide +kernel) (by decide +kernel)
theorem kmX3_83 : Cond.methodLink RX3 83 yX3_earlier ∈ hAll := h_in 576 (by decide +kernel) (by decide +kernel)
theorem ki_X3_earlier : Cond.instanceMethod yX3_earlier ∈ hAll := h_in 578 (by decide +kernel) (by decide +kernel)
theorem kc_X3_earlier : Cond.code yX3_earlier cX3_earlier 3 (some .boolean) ∈ hAll := h_in 579 (by decide +kernel) (by decide +kernel)
theorem kmX3_100 : Cond.methodLink RX3 100 yX3_sum ∈ hAll := h_in 580 (by decide +kernel) (by decide +kernel)
theorem ki_X3_sum : Cond.instanceMethod yX3_sum ∈ hAll := h_in 582 (by decide +kernel) (by decide +kernel)
theorem kc_X3_sum : Cond.code yX3_sum cX3_sum 5 (some .int) ∈ hAll := h_in 583 (by decide +kernel) (by decide +kernel)
theorem kmX3_103 : Cond.methodLink RX3 103 yX3_union ∈ hAll := h_in 584 (by decide +kernel) (by decide +kernel)
theorem ki_X3_union : Cond.instanceMethod yX3_union ∈ hAll := h_in 586 (by decide +kernel) (by decide +kernel)
theorem kc_X3_union : Cond.code yX3_union cX3_union 8 (some .int) ∈ hAll := h_in 587 (by decide +kernel) (by decide +kernel)
theorem kmX3_107 : Cond.methodLink RX3 107 yX3_standing ∈ hAll := h_in 588 (by decide +kernel) (by decide +kernel)
theorem ki_X3_standing : Cond.instanceMethod yX3_standing ∈ hAll := h_in 590 (by decide +kernel) (by decide +kernel)
theorem kc_X3_standing : Cond.code yX3_standing cX3_standing 6 (some .int) ∈ hAll := h_in 591 (by decide +kernel) (by decide +kernel)
theorem kmX3_89 : Cond.methodLink RX3 89 yX3_line ∈ hAll := h_in 592 (by decide +kernel) (by decide +kernel)
theorem ki_X3_line : Cond.instanceMethod yX3_line ∈ hAll := h_in 594 (by decide +kernel) (by decide +kernel)
theorem kc_X3_line : Cond.code yX3_line cX3_line 7 none ∈ hAll := h_in 595 (by decide +kernel) (by decide +kernel)
theorem kmX3_93 : Cond.methodLink RX3 93 yX3_isRemoved ∈ hAll := h_in 596 (by decide +kernel) (by decide +kernel)
theorem ki_X3_isRemoved : Cond.instanceMethod yX3_isRemoved ∈ hAll := h_in 598 (by decide +kernel) (by decide +kernel)
theorem kc_X3_isRemoved : Cond.code yX3_isRemoved cX3_isRemoved 5 (some .boolean) ∈ hAll := h_in 599 (by decide +kernel) (by decide +kernel)
theorem kmL_105 : Cond.methodLink RL 105 yX3_place ∈ hAll := h_in 600 (by decide +kernel) (by decide +kernel)
theorem ki_X3_place : Cond.instanceMethod yX3_place ∈ hAll := h_in 601 (by decide +kernel) (by decide +kernel)
theorem kv_X3_place : Cond.selects RX3 yX3_place yX3_place ∈ hAll := h_in 602 (by decide +kernel) (by decide +kernel)
theorem kc_X3_place : Cond.code yX3_place cX3_place 4 (some .int) ∈ hAll := h_in 603 (by decide +kernel) (by decide +kernel)
theorem kmL_108 : Cond.methodLink RL 108 yX3_order ∈ hAll := h_in 604 (by decide +kernel) (by decide +kernel)
theorem ki_X3_order : Cond.instanceMethod yX3_order ∈ hAll := h_in 605 (by decide +kernel) (by decide +kernel)
theorem kv_X3_order : Cond.selects RX3 yX3_order yX3_order ∈ hAll := h_in 606 (by decide +kernel) (by decide +kernel)
theorem kc_X3_order : Cond.code yX3_order cX3_order 4 (some .int) ∈ hAll := h_in 607 (by decide +kernel) (by decide +kernel)
theorem kmX3_120 : Cond.methodLink RX3 120 yX3_settle ∈ hAll := h_in 608 (by decide +kernel) (by decide +kernel)
theorem ki_X3_settle : Cond.instanceMethod yX3_settle ∈ hAll := h_in 610 (by decide +kernel) (by decide +kernel)
theorem kc_X3_settle : Cond.code yX3_settle cX3_settle 5 none ∈ hAll := h_in 611 (by decide +kernel) (by decide +kernel)
theorem kmX3_113 : Cond.methodLink RX3 113 yX3_isDropped ∈ hAll := h_in 612 (by decide +kernel) (by decide +kernel)
theorem ki_X3_isDropped : Cond.instanceMethod yX3_isDropped ∈ hAll := h_in 614 (by decide +kernel) (by decide +kernel)
theorem kc_X3_isDropped : Cond.code yX3_isDropped cX3_isDropped 5 (some .boolean) ∈ hAll := h_in 615 (by decide +kernel) (by decide +kernel)
theorem kmX3_116 : Cond.methodLink RX3 116 yX3_take ∈ hAll := h_in 616 (by decide +kernel) (by decide +kernel)
theorem ki_X3_take : Cond.instanceMethod yX3_take ∈ hAll := h_in 618 (by decide +kernel) (by decide +kernel)
theorem kc_X3_take : Cond.code yX3_take cX3_take 8 none ∈ hAll := h_in 619 (by decide +kernel) (by decide +kernel)
theorem kmL_111 : Cond.methodLink RL 111 yX3_open ∈ hAll := h_in 620 (by decide +kernel) (by decide +kernel)
theorem ki_X3_open : Cond.instanceMethod yX3_open ∈ hAll := h_in 621 (by decide +kernel) (by decide +kernel)
theorem kv_X3_open : Cond.selects RX3 yX3_open yX3_open ∈ hAll := h_in 622 (by decide +kernel) (by decide +kernel)
theorem kc_X3_open : Cond.code yX3_open cX3_open 3 (some .int) ∈ hAll := h_in 623 (by decide +kernel) (by decide +kernel)
theorem kmL_114 : Cond.methodLink RL 114 yX3_knows ∈ hAll := h_in 624 (by decide +kernel) (by decide +kernel)
theorem ki_X3_knows : Cond.instanceMethod yX3_knows ∈ hAll := h_in 625 (by decide +kernel) (by decide +kernel)
theorem kv_X3_knows : Cond.selects RX3 yX3_knows yX3_knows ∈ hAll := h_in 626 (by decide +kernel) (by decide +kernel)
theorem kc_X3_knows : Cond.code yX3_knows cX3_knows 3 (some .boolean) ∈ hAll := h_in 627 (by decide +kernel) (by decide +kernel)
theorem kmL_117 : Cond.methodLink RL 117 yX3_equal ∈ hAll := h_in 628 (by decide +kernel) (by decide +kernel)
theorem ki_X3_equal : Cond.instanceMethod yX3_equal ∈ hAll := h_in 629 (by decide +kernel) (by decide +kernel)
theorem kv_X3_equal : Cond.selects RX3 yX3_equal yX3_equal ∈ hAll := h_in 630 (by decide +kernel) (by decide +kernel)
theorem kc_X3_equal : Cond.code yX3_equal cX3_equal 5 (some .boolean) ∈ hAll := h_in 631 (by decide +kernel) (by decide +kernel)
theorem kmL_121 : Cond.methodLink RL 121 yX3_compact ∈ hAll := h_in 632 (by decide +kernel) (by decide +kernel)
theorem ki_X3_compact : Cond.instanceMethod yX3_compact ∈ hAll := h_in 633 (by decide +kernel) (by decide +kernel)
theorem kv_X3_compact : Cond.selects RX3 yX3_compact yX3_compact ∈ hAll := h_in 634 (by decide +kernel) (by decide +kernel)
theorem kc_X3_compact : Cond.code yX3_compact cX3_compact 4 (some .int) ∈ hAll := h_in 635 (by decide +kernel) (by decide +kernel)
theorem kmX3_126 : Cond.methodLink RX3 126 yX3_isPast ∈ hAll := h_in 636 (by decide +kernel) (by decide +kernel)
theorem ki_X3_isPast : Cond.instanceMethod yX3_isPast ∈ hAll := h_in 638 (by decide +kernel) (by decide +kernel)
theorem kc_X3_isPast : Cond.code yX3_isPast cX3_isPast 4 (some .boolean) ∈ hAll := h_in 639 (by decide +kernel) (by decide +kernel)
theorem kmX3_123 : Cond.methodLink RX3 123 yX3_isCommon ∈ hAll := h_in 640 (by decide +kernel) (by decide +kernel)
theorem ki_X3_isCommon : Cond.instanceMethod yX3_isCommon ∈ hAll := h_in 642 (by decide +kernel) (by decide +kernel)
theorem kc_X3_isCommon : Cond.code yX3_isCommon cX3_isCommon 4 (some .boolean) ∈ hAll := h_in 643 (by decide +kernel) (by decide +kernel)
theorem kmL_124 : Cond.methodLink RL 124 yX3_about ∈ hAll := h_in 644 (by decide +kernel) (by decide +kernel)
theorem ki_X3_about : Cond.instanceMethod yX3_about ∈ hAll := h_in 645 (by decide +kernel) (by decide +kernel)
theorem kv_X3_about : Cond.selects RX3 yX3_about yX3_about ∈ hAll := h_in 646 (by decide +kernel) (by decide +kernel)
theorem kc_X3_about : Cond.code yX3_about cX3_about 4 (some .int) ∈ hAll := h_in 647 (by decide +kernel) (by decide +kernel)
theorem kmL_127 : Cond.methodLink RL 127 yX3_count ∈ hAll := h_in 648 (by decide +kernel) (by decide +kernel)
theorem ki_X3_count : Cond.instanceMethod yX3_count ∈ hAll := h_in 649 (by decide +kernel) (by decide +kernel)
theorem kv_X3_count : Cond.selects RX3 yX3_count yX3_count ∈ hAll := h_in 650 (by decide +kernel) (by decide +kernel)
theorem kc_X3_count : Cond.code yX3_count cX3_count 6 (some .int) ∈ hAll := h_in 651 (by decide +kernel) (by decide +kernel)
theorem ka_long : Cond.arrayClass .long ∈ hAll := h_in 652 (by decide +kernel) (by decide +kernel)
theorem kv_X2_enter : Cond.selects RX2 yX2_enter yX2_enter ∈ hAll := h_sel 1 (by decide +kernel) (by decide +kernel)
theorem kv_X2_greatestStamp : Cond.selects RX2 yX2_greatestStamp yX2_greatestStamp ∈ hAll := h_sel 2 (by decide +kernel) (by decide +kernel)
theorem kv_X2_putByRank : Cond.selects RX2 yX2_putByRank yX2_putByRank ∈ hAll := h_sel 3 (by decide +kernel) (by decide +kernel)
theorem kv_X2_findKnown : Cond.selects RX2 yX2_findKnown yX2_findKnown ∈ hAll := h_sel 4 (by decide +kernel) (by decide +kernel)
theorem kv_X2_findMade : Cond.selects RX2 yX2_findMade yX2_findMade ∈ hAll := h_sel 5 (by decide +kernel) (by decide +kernel)
theorem kv_X2_putInRow : Cond.selects RX2 yX2_putInRow yX2_putInRow ∈ hAll := h_sel 6 (by decide +kernel) (by decide +kernel)
theorem kv_X2_end : Cond.selects RX2 yX2_end yX2_end ∈ hAll := h_sel 7 (by decide +kernel) (by decide +kernel)
theorem kv_X2_latestValue : Cond.selects RX2 yX2_latestValue yX2_latestValue ∈ hAll := h_sel 8 (by decide +kernel) (by decide +kernel)
theorem kv_X2_sumOfValues : Cond.selects RX2 yX2_sumOfValues yX2_sumOfValues ∈ hAll := h_sel 9 (by decide +kernel) (by decide +kernel)
theorem kv_X2_memberOfUnion : Cond.selects RX2 yX2_memberOfUnion yX2_memberOfUnion ∈ hAll := h_sel 10 (by decide +kernel) (by decide +kernel)
theorem kv_X2_findInRow : Cond.selects RX2 yX2_findInRow yX2_findInRow ∈ hAll := h_sel 11 (by decide +kernel) (by decide +kernel)
theorem kv_X2_takeRelations : Cond.selects RX2 yX2_takeRelations yX2_takeRelations ∈ hAll := h_sel 12 (by decide +kernel) (by decide +kernel)
theorem kv_X2_countForgotten : Cond.selects RX2 yX2_countForgotten yX2_countForgotten ∈ hAll := h_sel 13 (by decide +kernel) (by decide +kernel)
theorem kv_X2_countUnshared : Cond.selects RX2 yX2_countUnshared yX2_countUnshared ∈ hAll := h_sel 14 (by decide +kernel) (by decide +kernel)
theorem kv_X3_goes : Cond.selects RX3 yX3_goes yX3_goes ∈ hAll := h_sel 15 (by decide +kernel) (by decide +kernel)
theorem kv_X3_make : Cond.selects RX3 yX3_make yX3_make ∈ hAll := h_sel 16 (by decide +kernel) (by decide +kernel)
theorem kv_X3_knowsOf : Cond.selects RX3 yX3_knowsOf yX3_knowsOf ∈ hAll := h_sel 17 (by decide +kernel) (by decide +kernel)
theorem kv_X3_latest : Cond.selects RX3 yX3_latest yX3_latest ∈ hAll := h_sel 18 (by decide +kernel) (by decide +kernel)
theorem kv_X3_isOf : Cond.selects RX3 yX3_isOf yX3_isOf ∈ hAll := h_sel 19 (by decide +kernel) (by decide +kernel)
theorem kv_X3_earlier : Cond.selects RX3 yX3_earlier yX3_earlier ∈ hAll := h_sel 20 (by decide +kernel) (by decide +kernel)
theorem kv_X3_sum : Cond.selects RX3 yX3_sum yX3_sum ∈ hAll := h_sel 21 (by decide +kernel) (by decide +kernel)
theorem kv_X3_union : Cond.selects RX3 yX3_union yX3_union ∈ hAll := h_sel 22 (by decide +kernel) (by decide +kernel)
theorem kv_X3_standing : Cond.selects RX3 yX3_standing yX3_standing ∈ hAll := h_sel 23 (by decide +kernel) (by decide +kernel)
theorem kv_X3_line : Cond.selects RX3 yX3_line yX3_line ∈ hAll := h_sel 24 (by decide +kernel) (by decide +kernel)
theorem kv_X3_isRemoved : Cond.selects RX3 yX3_isRemoved yX3_isRemoved ∈ hAll := h_sel 25 (by decide +kernel) (by decide +kernel)
theorem kv_X3_settle : Cond.selects RX3 yX3_settle yX3_settle ∈ hAll := h_sel 26 (by decide +kernel) (by decide +kernel)
theorem kv_X3_isDropped : Cond.selects RX3 yX3_isDropped yX3_isDropped ∈ hAll := h_sel 27 (by decide +kernel) (by decide +kernel)
theorem kv_X3_take : Cond.selects RX3 yX3_take yX3_take ∈ hAll := h_sel 28 (by decide +kernel) (by decide +kernel)
theorem kv_X3_isPast : Cond.selects RX3 yX3_isPast yX3_isPast ∈ hAll := h_sel 29 (by decide +kernel) (by decide +kernel)
theorem kv_X3_isCommon : Cond.selects RX3 yX3_isCommon yX3_isCommon ∈ hAll := h_sel 30 (by decide +kernel) (by decide +kernel)
theorem kw_X0 : ∀ w ∈ wsX00, w ∈ hAll := by
  intro w hw
  exact List.mem_filter.mpr ⟨List.mem_append_right _ (by revert w; decide +kernel), by revert w; decide +kernel⟩
theorem kw_X1 : ∀ w ∈ wsX10, w ∈ hAll := by
  intro w hw
  exact List.mem_filter.mpr ⟨List.mem_append_right _ (by revert w; decide +kernel), by revert w; decide +kernel⟩
theorem kw_X2 : ∀ w ∈ wsX20, w ∈ hAll := by
  intro w hw
  exact List.mem_filter.mpr ⟨List.mem_append_right _ (by revert w; decide +kernel), by revert w; decide +kernel⟩
theorem kw_X3 : ∀ w ∈ wsX30, w ∈ hAll := by
  intro w hw
  exact List.mem_filter.mpr ⟨List.mem_append_right _ (by revert w; decide +kernel), by revert w; decide +kernel⟩
end
section
/-! ===== the world as a function from addresses; the judgement h_G: its rows follow the kit's own rows, one by one ===== -/
abbrev hW : Type := Nat → Option va_E
def h_up (w : hW) (a : Nat) (e : va_E) : hW := fun q => if q = a then some e else w q
theorem h_up_s (w : hW) (a : Nat) (e : va_E) : h_up w a e a = some e := if_pos rfl
theorem h_up_n {w : hW} {a b : Nat} {e : va_E} (h : b ≠ a) : h_up w a e b = w b := if_neg h
/-- the dictionary: classes and their slots; the array classes of int, boolean, long, Telling -/
abbrev hD : Type := va_G × ClassId × ClassId × ClassId × ClassId
abbrev hTy (G : hD) : List (ClassId × FieldType) := [(G.2.1, .int), (G.2.2.1, .boolean), (G.2.2.2.1, .long), (G.2.2.2.2, .object RX1)]
abbrev eI (G : hD) (n : Nat) (f : Nat → Int32) : va_E := .inl (G.2.1, n, .inl f)
abbrev eZ (G : hD) (n : Nat) (f : Nat → Int32) : va_E := .inl (G.2.2.1, n, .inl f)
abbrev eJ (G : hD) (n : Nat) (f : Nat → Int64) : va_E := .inl (G.2.2.2.1, n, .inr (.inl f))
abbrev eT (G : hD) (n : Nat) (f : Nat → Option Nat) : va_E := .inl (G.2.2.2.2, n, .inr (.inr (.inr (.inr f))))
abbrev eO (ci : Nat) (fs : List Value) : va_E := .inr (ci, fs)
def h_P (D : va_G) (w : hW) (H : Heap) : Prop := ∀ (a : Nat) (e : va_E), w a = some e → va_at D vwCl (a, e) H
theorem h_P.kept {D : va_G} {w : hW} {H H1 : Heap} (h : h_P D w H) (hq : ∀ (a : Nat) (e : va_E), w a = some e → H1[a]? = H[a]?) : h_P D w H1 := fun a e he => (h a e he).kept (hq a e he)
theorem h_P.lt {D : va_G} {w : hW} {H : Heap} (h : h_P D w H) {a : Nat} {e : va_E} (he : w a = some e) : a < H.size := (h a e he).lt
theorem h_P.put {D : va_G} {w : hW} {a : Nat} {e : va_E} {H H1 : Heap} (h : h_P D w H) (he : va_at D vwCl (a, e) H1) (oq : ∀ q : Nat, q ≠ a → H1[q]? = H[q]?) : h_P D (h_up w a e) H1 := by
  intro b f hb
  by_cases hba : b = a
  · subst hba
    rw [h_up_s] at hb
    cases hb
    exact he
  · rw [h_up_n hba] at hb
    exact (h b f hb).kept (oq b hba)
theorem h_P.one {D : va_G} {w : hW} {H : Heap} (h : h_P D w H) {a : Nat} {e : va_E} (he : w a = some e) : va_P D vwCl [(a, e)] H := by
  intro k q hk
  have hz : k < 1 := (List.getElem?_eq_some_iff.mp hk).1
  rw [show k = 0 by omega] at hk
  cases hk
  exact h a e he
def h_in_A (A : Nat → Prop) (w : hW) : Prop := ∀ (a : Nat) (e : va_E), w a = some e → A a
theorem h_in_A.up {A : Nat → Prop} {w : hW} {a : Nat} {e : va_E} (h : h_in_A A w) (ha : A a) : h_in_A A (h_up w a e) := by
  intro b f hb
  by_cases hba : b = a
  · rw [hba]; exact ha
  · rw [h_up_n hba] at hb
    exact h b f hb
/-! locals: a list by slots, all of one word -/
def lvG : List (Nat × Value) → Nat → Option Value
  | [], _ => none
  | q :: r, i => cond (Nat.beq q.1 i) (some q.2) (lvG r i)
def lvF : List (Nat × Value) → Nat → List (Nat × Value)
  | [], _ => []
  | q :: r, i => cond (Nat.beq q.1 i) (lvF r i) (q :: lvF r i)
def lvS : List (Nat × Value) → Nat → Value → List (Nat × Value)
  | [], i, v => [(i, v)]
  | q :: r, i, v => cond (Nat.beq q.1 i) ((i, v) :: lvF r i) (q :: lvS r i v)
def lvA : Nat → List Value → List (Nat × Value)
  | _, [] => []
  | i, v :: vs => (i, v) :: lvA (i + 1) vs
def lv1 (lv : List (Nat × Value)) : Prop := ∀ q ∈ lv, q.2.category = 1
theorem lvG_mem : ∀ (lv : List (Nat × Value)) (i : Nat) (v : Value), lvG lv i = some v → (i, v) ∈ lv
  | [], _, _, h => by cases h
  | q :: r, i, v, h => by
    unfold lvG at h
    cases hb : Nat.beq q.1 i with
    | true =>
      rw [hb] at h
      have h1 : q.1 = i := Nat.eq_of_beq_eq_true hb
      have h2 : q.2 = v := Option.some.inj h
      rw [← h1, ← h2]
      exact List.mem_cons_self
    | false =>
      rw [hb] at h
      exact List.mem_cons_of_mem _ (lvG_mem r i v h)
theorem lvF_mem : ∀ (lv : List (Nat × Value)) (i : Nat) (q : Nat × Value), q ∈ lvF lv i → q ∈ lv ∧ q.1 ≠ i
  | [], _, _, h => by cases h
  | x :: r, i, q, h => by
    unfold lvF at h
    cases hb : Nat.beq x.1 i with
    | true =>
      rw [hb] at h
      have h1 := lvF_mem r i q h
      exact ⟨List.mem_cons_of_mem _ h1.1, h1.2⟩
    | false =>
      rw [hb] at h
      have hx : x.1 ≠ i := Nat.ne_of_beq_eq_false hb
      rcases List.mem_cons.mp h with rfl | h2
      · exact ⟨List.mem_cons_self, hx⟩
      · have h1 := lvF_mem r i q h2
        exact ⟨List.mem_cons_of_mem _ h1.1, h1.2⟩
theorem lvS_mem : ∀ (lv : List (Nat × Value)) (i : Nat) (v : Value) (q : Nat × Value), q ∈ lvS lv i v → q = (i, v) ∨ (q ∈ lv ∧ q.1 ≠ i)
  | [], i, v, q, h => by
    rcases List.mem_cons.mp h with rfl | h
    · exact Or.inl rfl
    · cases h
  | x :: r, i, v, q, h => by
    unfold lvS at h
    cases hb : Nat.beq x.1 i with
    | true =>
      rw [hb] at h
      rcases List.mem_cons.mp h with rfl | h2
      · exact Or.inl rfl
      · have h1 := lvF_mem r i q h2
        exact Or.inr ⟨List.mem_cons_of_mem _ h1.1, h1.2⟩
    | false =>
      rw [hb] at h
      have hx : x.1 ≠ i := Nat.ne_of_beq_eq_false hb
      rcases List.mem_cons.mp h with rfl | h2
      · exact Or.inr ⟨List.mem_cons_self, hx⟩
      · rcases lvS_mem r i v q h2 with h3 | h3
        · exact Or.inl h3
        · exact Or.inr ⟨List.mem_cons_of_mem _ h3.1, h3.2⟩
theorem lvG_has {ls : Array Slot} {nL : Nat} {lv : List (Nat × Value)} {i : Nat} {v : Value} (h : lv_has ls nL lv) (hg : lvG lv i = some v) : ls[i]? = some (.val v) := h.2.2 (i, v) (lvG_mem lv i v hg)
theorem lvS_1 {lv : List (Nat × Value)} {i : Nat} {v : Value} (h : lv1 lv) (hv : v.category = 1) : lv1 (lvS lv i v) := by
  intro q hq
  rcases lvS_mem lv i v q hq with rfl | h1
  · exact hv
  · exact h q h1.1
theorem lvS_has {ls : Array Slot} {nL : Nat} {lv : List (Nat × Value)} {i : Nat} {v : Value} (h : lv_has ls nL ((i, v) :: lv.filter (fun q => !(q.1 == i) && !(q.1 + 1 == i && q.2.category == 2)))) (h1 : lv1 lv) : lv_has ls nL (lvS lv i v) := by
  refine ⟨h.1, h.2.1, fun q hq => h.2.2 q ?_⟩
  rcases lvS_mem lv i v q hq with rfl | h2
  · exact List.mem_cons_self
  · refine List.mem_cons_of_mem _ (List.mem_filter.mpr ⟨h2.1, ?_⟩)
    have h3 := h1 q h2.1
    simp [h2.2, h3]
theorem lvA_eq : ∀ (vs : List Value) (i : Nat), (∀ v ∈ vs, v.category = 1) → lv_args i vs = lvA i vs
  | [], _, _ => rfl
  | v :: vs, i, h => by
    have h1 : v.category = 1 := h v List.mem_cons_self
    show (i, v) :: lv_args (if v.category = 2 then i + 2 else i + 1) vs = (i, v) :: lvA (i + 1) vs
    rw [if_neg (by omega), lvA_eq vs (i + 1) (fun x hx => h x (List.mem_cons_of_mem _ hx))]
theorem lvA_1 : ∀ (vs : List Value) (i : Nat), (∀ v ∈ vs, v.category = 1) → lv1 (lvA i vs)
  | [], _, _ => fun q hq => by cases hq
  | v :: vs, i, h => fun q hq => by
    rcases List.mem_cons.mp hq with rfl | h1
    · exact h v List.mem_cons_self
    · exact lvA_1 vs (i + 1) (fun x hx => h x (List.mem_cons_of_mem _ hx)) q h1
theorem rf_cat (r : Option Nat) : (va_rf r).category = 1 := by cases r <;> rfl

/-! what a throw stands on: statics of Throwable, the texts, words that a call keeps by laws of their own -/
def hStr : List (Nat × String) := [(165, "there is no such desk"), (168, "there is no such thing"), (170, "there is no such field"), (176, "the value is out of its range"), (182, "no more tellings can be made"), (178, "there is no such telling"), (180, "the desk does not know the telling"), (70, "the telling is no place of this row"), (195, "the telling is of another sort"), (172, "there is no such context"), (86, "a context is not above itself"), (100, "the desk has given all numbers of its block"), (174, "places are counted from 0"), (152, "nothing of this kind is told about a telling"), (161, "nothing of this kind is counted")]
def hDcl : List MethodName := [Bundle.initS "java/lang/RuntimeException", Bundle.initS "java/lang/Exception", Bundle.initS "java/lang/Throwable"]
abbrev nNS : String := "java/util/NoSuchElementException"
abbrev nIA : String := "java/lang/IllegalArgumentException"
abbrev nIS : String := "java/lang/IllegalStateException"
def hExc : List String := [nNS, nIA, nIS]
def hNcs : List (String × String) := [(nIA, nNS), (nIS, nNS), (nIS, nIA), (nNS, nIA), (nNS, nIS), (nIA, nIS)]
def h_T (l : Launch) (A : Nat → Prop) (U : State) (H : Heap) : Prop :=
  l.stackTraces = false ∧ vx_Zq Bundle.tN "UNASSIGNED_STACK" Bundle.steD A U H ∧ vx_Zq Bundle.tN "SUPPRESSED_SENTINEL" Bundle.listD A U H ∧ (∀ q ∈ hStr, ∃ sa, vk_R RX2 q.1 q.2 sa U) ∧ (∀ x ∈ hDcl, va_Nw (.declares x) U) ∧ (∀ x ∈ hExc, va_Nw (.castable x x) U) ∧ (∀ q ∈ hNcs, va_Nc q.1 q.2 U) ∧ va_AO RX1 U
theorem h_T.go {l : Launch} {A : Nat → Prop} {s U : State} (h : h_T l A s s.heap) (hW : s.WarmedH U.vm) (hq : ∀ a : Nat, a < s.heap.size → ¬ A a → U.heap[a]? = s.heap[a]?) : h_T l A U U.heap := by
  obtain ⟨h1, h2, h3, h4, h5, h6, h7, h8⟩ := h
  refine ⟨h1, vx_Zq.moved hW.alike (h2.kept hq), vx_Zq.moved hW.alike (h3.kept hq), fun q hq => ?_, fun x hx => va_Nw.warmD hW (h5 x hx), fun x hx => va_Nw.warmC hW (h6 x hx), fun q hq => va_Nc.moved hW.alike (h7 q hq), va_AO.moved hW.alike h8⟩
  obtain ⟨sa, hs⟩ := h4 q hq
  exact ⟨sa, vk_R.warm hW hs⟩
theorem h_T.same {l : Launch} {A : Nat → Prop} {u U : State} {H : Heap} (h : h_T l A u H) (hv : U.vm = u.vm) : h_T l A U H := by
  have ha : u.vm.Alike U.vm := by rw [hv]; exact Vm.Alike.refl _
  obtain ⟨h1, h2, h3, h4, h5, h6, h7, h8⟩ := h
  refine ⟨h1, vx_Zq.moved ha h2, vx_Zq.moved ha h3, fun q hq => ?_, fun x hx => va_Nw.same rfl hv.symm (h5 x hx), fun x hx => va_Nw.same rfl hv.symm (h6 x hx), fun q hq => va_Nc.moved ha (h7 q hq), va_AO.moved ha h8⟩
  obtain ⟨sa, hs⟩ := h4 q hq
  exact ⟨sa, vk_R.same hv hs⟩
/-- what holds all through a method's body -/
def h_C (p : Program) (l : Launch) (s : State) (m : MethodId) (args : Array Value) (meth : Method) (c : Code) (G : hD) (A : Nat → Prop) (cc : ByteArray) (nL : Nat) (own : String) : Prop :=
  p.tables.exec = Jvm.exec ∧ c.code = cc ∧ c.maxLocals = nL ∧ s.vm.findClass own = some m.cls ∧ (∀ w ∈ hAll, w.before args s = true) ∧ va_K G.1 vwCl (hTy G) s ∧ (∀ q, s.heap.size ≤ q → A q) ∧ meth.locks = false ∧ h_T l A s s.heap
/-- from here, with the world w, the machine comes to a state with Q -/
def h_G (p : Program) (l : Launch) (e : Env) (R : Room) (s : State) (m : MethodId) (args : Array Value) (below : List Frame) (meth : Method) (c : Code) (G : hD) (A : Nat → Prop) (nL : Nat) (Q : State → Prop) (w : hW) (cells slots pc : Nat) (lv : List (Nat × Value)) (st : List Value) : Prop :=
  ∀ (H : Heap) (locs : List Loc) (ls : Array Slot), h_P G.1 w H → h_in_A A w → va_S A s.heap H locs → lv_has ls nL lv → lv1 lv → W p l e R s m args below meth c H locs cells slots Q (F0 m pc ls st)
section HK
variable {p : Program} {l : Launch} {e : Env} {R : Room} {s : State} {m : MethodId} {args : Array Value} {below : List Frame} {meth : Method} {c : Code} {Q : State → Prop}
variable {G : hD} {A : Nat → Prop} {nL : Nat} {w : hW} {cells slots pc : Nat} {lv : List (Nat × Value)} {st : List Value} {cc : ByteArray} {own : String}

theorem g_iconst (C : h_C p l s m args meth c G A cc nL own) {n : Int} {v : Int32} (hd : decode cc pc = .ok (.iconst n, 1)) (hv : Int32.ofInt n = v) (k : h_G p l e R s m args below meth c G A nL Q w cells slots (pc + 1) lv (.int v :: st)) : h_G p l e R s m args below meth c G A nL Q w cells slots pc lv st :=
  fun H locs ls hP hA hS hl h1 => lv_iconst C.1 C.2.1 hd hv (k H locs ls hP hA hS hl h1)
theorem g_bipush (C : h_C p l s m args meth c G A cc nL own) {n : Int} {v : Int32} (hd : decode cc pc = .ok (.bipush n, 2)) (hv : (Int8.ofInt n).toInt32 = v) (k : h_G p l e R s m args below meth c G A nL Q w cells slots (pc + 2) lv (.int v :: st)) : h_G p l e R s m args below meth c G A nL Q w cells slots pc lv st :=
  fun H locs ls hP hA hS hl h1 => lv_bipush C.1 C.2.1 hd hv (k H locs ls hP hA hS hl h1)
theorem g_sipush (C : h_C p l s m args meth c G A cc nL own) {n : Int} {v : Int32} (hd : decode cc pc = .ok (.sipush n, 3)) (hv : (Int16.ofInt n).toInt32 = v) (k : h_G p l e R s m args below meth c G A nL Q w cells slots (pc + 3) lv (.int v :: st)) : h_G p l e R s m args below meth c G A nL Q w cells slots pc lv st :=
  fun H locs ls hP hA hS hl h1 => lv_sipush C.1 C.2.1 hd hv (k H locs ls hP hA hS hl h1)
theorem g_lconst (C : h_C p l s m args meth c G A cc nL own) {n : Fin 2} {v : Int64} (hd : decode cc pc = .ok (.lconst n, 1)) (hv : Int64.ofNat (n : Nat) = v) (k : h_G p l e R s m args below meth c G A nL Q w cells slots (pc + 1) lv (.long v :: st)) : h_G p l e R s m args below meth c G A nL Q w cells slots pc lv st :=
  fun H locs ls hP hA hS hl h1 => lv_lconst C.1 C.2.1 hd hv (k H locs ls hP hA hS hl h1)
theorem g_null (C : h_C p l s m args meth c G A cc nL own)  (hd : decode cc pc = .ok (.aconst_null, 1))  (k : h_G p l e R s m args below meth c G A nL Q w cells slots (pc + 1) lv (.null :: st)) : h_G p l e R s m args below meth c G A nL Q w cells slots pc lv st :=
  fun H locs ls hP hA hS hl h1 => lv_null C.1 C.2.1 hd (k H locs ls hP hA hS hl h1)
theorem g_iload_n (C : h_C p l s m args meth c G A cc nL own) {k0 : Fin 4} {i : Nat} {x : Int32} (hd : decode cc pc = .ok (.iload_n k0, 1)) (hi : (k0 : Nat) = i) (hg : lvG lv i = some (.int x)) (k : h_G p l e R s m args below meth c G A nL Q w cells slots (pc + 1) lv (.int x :: st)) : h_G p l e R s m args below meth c G A nL Q w cells slots pc lv st :=
  fun H locs ls hP hA hS hl h1 => lv_iload_n C.1 C.2.1 hd hi (lvG_has hl hg) (k H locs ls hP hA hS hl h1)
theorem g_iload (C : h_C p l s m args meth c G A cc nL own) {i : Nat} {x : Int32} (hd : decode cc pc = .ok (.iload i, 2)) (hg : lvG lv i = some (.int x)) (k : h_G p l e R s m args below meth c G A nL Q w cells slots (pc + 2) lv (.int x :: st)) : h_G p l e R s m args below meth c G A nL Q w cells slots pc lv st :=
  fun H locs ls hP hA hS hl h1 => lv_iload C.1 C.2.1 hd (lvG_has hl hg) (k H locs ls hP hA hS hl h1)
theorem g_aload_n (C : h_C p l s m args meth c G A cc nL own) {k0 : Fin 4} {i : Nat} {x : Nat} (hd : decode cc pc = .ok (.aload_n k0, 1)) (hi : (k0 : Nat) = i) (hg : lvG lv i = some (.ref x)) (k : h_G p l e R s m args below meth c G A nL Q w cells slots (pc + 1) lv (.ref x :: st)) : h_G p l e R s m args below meth c G A nL Q w cells slots pc lv st :=
  fun H locs ls hP hA hS hl h1 => lv_aload_n C.1 C.2.1 hd hi (lvG_has hl hg) (k H locs ls hP hA hS hl h1)
theorem g_aload (C : h_C p l s m args meth c G A cc nL own) {i : Nat} {x : Nat} (hd : decode cc pc = .ok (.aload i, 2)) (hg : lvG lv i = some (.ref x)) (k : h_G p l e R s m args below meth c G A nL Q w cells slots (pc + 2) lv (.ref x :: st)) : h_G p l e R s m args below meth c G A nL Q w cells slots pc lv st :=
  fun H locs ls hP hA hS hl h1 => lv_aload C.1 C.2.1 hd (lvG_has hl hg) (k H locs ls hP hA hS hl h1)
theorem g_aload_nq (C : h_C p l s m args meth c G A cc nL own) {k0 : Fin 4} {i : Nat} {r : Option Nat} (hd : decode cc pc = .ok (.aload_n k0, 1)) (hi : (k0 : Nat) = i) (hg : lvG lv i = some (va_rf r)) (k : h_G p l e R s m args below meth c G A nL Q w cells slots (pc + 1) lv (va_rf r :: st)) : h_G p l e R s m args below meth c G A nL Q w cells slots pc lv st := by
  cases r with
  | none => exact fun H locs ls hP hA hS hl h1 => lv_aload_nN C.1 C.2.1 hd hi (lvG_has hl hg) (k H locs ls hP hA hS hl h1)
  | some a => exact fun H locs ls hP hA hS hl h1 => lv_aload_n C.1 C.2.1 hd hi (lvG_has hl hg) (k H locs ls hP hA hS hl h1)
theorem g_aloadq (C : h_C p l s m args meth c G A cc nL own) {i : Nat} {r : Option Nat} (hd : decode cc pc = .ok (.aload i, 2)) (hg : lvG lv i = some (va_rf r)) (k : h_G p l e R s m args below meth c G A nL Q w cells slots (pc + 2) lv (va_rf r :: st)) : h_G p l e R s m args below meth c G A nL Q w cells slots pc lv st := by
  cases r with
  | none => exact fun H locs ls hP hA hS hl h1 => lv_aloadN C.1 C.2.1 hd (lvG_has hl hg) (k H locs ls hP hA hS hl h1)
  | some a => exact fun H locs ls hP hA hS hl h1 => lv_aload C.1 C.2.1 hd (lvG_has hl hg) (k H locs ls hP hA hS hl h1)
theorem g_iadd (C : h_C p l s m args meth c G A cc nL own) {x y : Int32} (hd : decode cc pc = .ok (.iadd, 1))  (k : h_G p l e R s m args below meth c G A nL Q w cells slots (pc + 1) lv (.int (x + y) :: st)) : h_G p l e R s m args below meth c G A nL Q w cells slots pc lv (.int y :: .int x :: st) :=
  fun H locs ls hP hA hS hl h1 => lv_iadd C.1 C.2.1 hd (k H locs ls hP hA hS hl h1)
theorem g_isub (C : h_C p l s m args meth c G A cc nL own) {x y : Int32} (hd : decode cc pc = .ok (.isub, 1))  (k : h_G p l e R s m args below meth c G A nL Q w cells slots (pc + 1) lv (.int (x - y) :: st)) : h_G p l e R s m args below meth c G A nL Q w cells slots pc lv (.int y :: .int x :: st) :=
  fun H locs ls hP hA hS hl h1 => lv_isub C.1 C.2.1 hd (k H locs ls hP hA hS hl h1)
theorem g_imul (C : h_C p l s m args meth c G A cc nL own) {x y : Int32} (hd : decode cc pc = .ok (.imul, 1))  (k : h_G p l e R s m args below meth c G A nL Q w cells slots (pc + 1) lv (.int (x * y) :: st)) : h_G p l e R s m args below meth c G A nL Q w cells slots pc lv (.int y :: .int x :: st) :=
  fun H locs ls hP hA hS hl h1 => lv_imul C.1 C.2.1 hd (k H locs ls hP hA hS hl h1)
theorem g_iand (C : h_C p l s m args meth c G A cc nL own) {x y : Int32} (hd : decode cc pc = .ok (.iand, 1))  (k : h_G p l e R s m args below meth c G A nL Q w cells slots (pc + 1) lv (.int (x &&& y) :: st)) : h_G p l e R s m args below meth c G A nL Q w cells slots pc lv (.int y :: .int x :: st) :=
  fun H locs ls hP hA hS hl h1 => lv_iand C.1 C.2.1 hd (k H locs ls hP hA hS hl h1)
theorem g_ior (C : h_C p l s m args meth c G A cc nL own) {x y : Int32} (hd : decode cc pc = .ok (.ior, 1))  (k : h_G p l e R s m args below meth c G A nL Q w cells slots (pc + 1) lv (.int (x ||| y) :: st)) : h_G p l e R s m args below meth c G A nL Q w cells slots pc lv (.int y :: .int x :: st) :=
  fun H locs ls hP hA hS hl h1 => lv_ior C.1 C.2.1 hd (k H locs ls hP hA hS hl h1)
theorem g_ishl (C : h_C p l s m args meth c G A cc nL own) {x y : Int32} (hd : decode cc pc = .ok (.ishl, 1))  (k : h_G p l e R s m args below meth c G A nL Q w cells slots (pc + 1) lv (.int (x <<< (y &&& 31)) :: st)) : h_G p l e R s m args below meth c G A nL Q w cells slots pc lv (.int y :: .int x :: st) :=
  fun H locs ls hP hA hS hl h1 => lv_ishl C.1 C.2.1 hd (k H locs ls hP hA hS hl h1)
theorem g_ishr (C : h_C p l s m args meth c G A cc nL own) {x y : Int32} (hd : decode cc pc = .ok (.ishr, 1))  (k : h_G p l e R s m args below meth c G A nL Q w cells slots (pc + 1) lv (.int (x >>> (y &&& 31)) :: st)) : h_G p l e R s m args below meth c G A nL Q w cells slots pc lv (.int y :: .int x :: st) :=
  fun H locs ls hP hA hS hl h1 => lv_ishr C.1 C.2.1 hd (k H locs ls hP hA hS hl h1)
theorem g_iushr (C : h_C p l s m args meth c G A cc nL own) {x y v : Int32} (hd : decode cc pc = .ok (.iushr, 1)) (hv : (x.toUInt32 >>> (y.toUInt32 &&& Int32.toUInt32 31)).toInt32 = v) (k : h_G p l e R s m args below meth c G A nL Q w cells slots (pc + 1) lv (.int v :: st)) : h_G p l e R s m args below meth c G A nL Q w cells slots pc lv (.int y :: .int x :: st) :=
  fun H locs ls hP hA hS hl h1 => lv_iushr C.1 C.2.1 hd hv (k H locs ls hP hA hS hl h1)
theorem g_idiv (C : h_C p l s m args meth c G A cc nL own) {x y : Int32} (hd : decode cc pc = .ok (.idiv, 1)) (hne : ¬ y = 0) (k : h_G p l e R s m args below meth c G A nL Q w cells slots (pc + 1) lv (.int (x / y) :: st)) : h_G p l e R s m args below meth c G A nL Q w cells slots pc lv (.int y :: .int x :: st) :=
  fun H locs ls hP hA hS hl h1 => lv_idiv C.1 C.2.1 hd hne (k H locs ls hP hA hS hl h1)
theorem g_irem (C : h_C p l s m args meth c G A cc nL own) {x y : Int32} (hd : decode cc pc = .ok (.irem, 1)) (hne : ¬ y = 0) (k : h_G p l e R s m args below meth c G A nL Q w cells slots (pc + 1) lv (.int (x - x / y * y) :: st)) : h_G p l e R s m args below meth c G A nL Q w cells slots pc lv (.int y :: .int x :: st) :=
  fun H locs ls hP hA hS hl h1 => lv_irem C.1 C.2.1 hd hne (k H locs ls hP hA hS hl h1)
theorem g_i2l (C : h_C p l s m args meth c G A cc nL own) {x : Int32} {v : Int64} (hd : decode cc pc = .ok (.i2l, 1)) (hv : x.toInt64 = v) (k : h_G p l e R s m args below meth c G A nL Q w cells slots (pc + 1) lv (.long v :: st)) : h_G p l e R s m args below meth c G A nL Q w cells slots pc lv (.int x :: st) :=
  fun H locs ls hP hA hS hl h1 => lv_i2l C.1 C.2.1 hd hv (k H locs ls hP hA hS hl h1)
theorem g_lcmp (C : h_C p l s m args meth c G A cc nL own) {x y : Int64} (hd : decode cc pc = .ok (.lcmp, 1))  (k : h_G p l e R s m args below meth c G A nL Q w cells slots (pc + 1) lv (.int (lg_cmp x y) :: st)) : h_G p l e R s m args below meth c G A nL Q w cells slots pc lv (.long y :: .long x :: st) :=
  fun H locs ls hP hA hS hl h1 => W.lcmp C.1 C.2.1 hd (k H locs ls hP hA hS hl h1)
theorem g_dup (C : h_C p l s m args meth c G A cc nL own) {va : Value} (hd : decode cc pc = .ok (.dup, 1)) (hva : va.category = 1) (k : h_G p l e R s m args below meth c G A nL Q w cells slots (pc + 1) lv (va :: va :: st)) : h_G p l e R s m args below meth c G A nL Q w cells slots pc lv (va :: st) :=
  fun H locs ls hP hA hS hl h1 => lv_dup C.1 C.2.1 hd hva (k H locs ls hP hA hS hl h1)
theorem g_dup2 (C : h_C p l s m args meth c G A cc nL own) {va vb : Value} (hd : decode cc pc = .ok (.dup2, 1)) (hva : va.category = 1) (hvb : vb.category = 1) (k : h_G p l e R s m args below meth c G A nL Q w cells slots (pc + 1) lv (va :: vb :: va :: vb :: st)) : h_G p l e R s m args below meth c G A nL Q w cells slots pc lv (va :: vb :: st) :=
  fun H locs ls hP hA hS hl h1 => lv_dup2_11 C.1 C.2.1 hd hva hvb (k H locs ls hP hA hS hl h1)
theorem g_pop (C : h_C p l s m args meth c G A cc nL own) {va : Value} (hd : decode cc pc = .ok (.pop, 1)) (hva : va.category = 1) (k : h_G p l e R s m args below meth c G A nL Q w cells slots (pc + 1) lv st) : h_G p l e R s m args below meth c G A nL Q w cells slots pc lv (va :: st) :=
  fun H locs ls hP hA hS hl h1 => lv_pop C.1 C.2.1 hd hva (k H locs ls hP hA hS hl h1)
theorem g_top {x : Int32} (k : ∀ y : Int32, y = x → h_G p l e R s m args below meth c G A nL Q w cells slots pc lv (.int y :: st)) : h_G p l e R s m args below meth c G A nL Q w cells slots pc lv (.int x :: st) := k x rfl
theorem g_eq {x y : Int32} (h : x = y) (k : h_G p l e R s m args below meth c G A nL Q w cells slots pc lv (.int y :: st)) : h_G p l e R s m args below meth c G A nL Q w cells slots pc lv (.int x :: st) := h ▸ k
theorem g_istore_n (C : h_C p l s m args meth c G A cc nL own) {k0 : Fin 4} {i : Nat} {x : Int32} (hd : decode cc pc = .ok (.istore_n k0, 1)) (hi : (k0 : Nat) = i) (hn : i < nL) (k : h_G p l e R s m args below meth c G A nL Q w cells slots (pc + 1) (lvS lv i (.int x)) st) : h_G p l e R s m args below meth c G A nL Q w cells slots pc lv (.int x :: st) :=
  fun H locs ls hP hA hS hl h1 => lv_istore_n C.1 C.2.1 hd hi hl hn rfl fun ls' hl' => k H locs ls' hP hA hS (lvS_has hl' h1) (lvS_1 h1 rfl)
theorem g_istore (C : h_C p l s m args meth c G A cc nL own) {i : Nat} {x : Int32} (hd : decode cc pc = .ok (.istore i, 2)) (hn : i < nL) (k : h_G p l e R s m args below meth c G A nL Q w cells slots (pc + 2) (lvS lv i (.int x)) st) : h_G p l e R s m args below meth c G A nL Q w cells slots pc lv (.int x :: st) :=
  fun H locs ls hP hA hS hl h1 => lv_istore C.1 C.2.1 hd hl hn rfl fun ls' hl' => k H locs ls' hP hA hS (lvS_has hl' h1) (lvS_1 h1 rfl)
theorem g_astore_n (C : h_C p l s m args meth c G A cc nL own) {k0 : Fin 4} {i : Nat} {x : Nat} (hd : decode cc pc = .ok (.astore_n k0, 1)) (hi : (k0 : Nat) = i) (hn : i < nL) (k : h_G p l e R s m args below meth c G A nL Q w cells slots (pc + 1) (lvS lv i (.ref x)) st) : h_G p l e R s m args below meth c G A nL Q w cells slots pc lv (.ref x :: st) :=
  fun H locs ls hP hA hS hl h1 => lv_astore_n C.1 C.2.1 hd hi hl hn rfl fun ls' hl' => k H locs ls' hP hA hS (lvS_has hl' h1) (lvS_1 h1 rfl)
theorem g_astore (C : h_C p l s m args meth c G A cc nL own) {i : Nat} {x : Nat} (hd : decode cc pc = .ok (.astore i, 2)) (hn : i < nL) (k : h_G p l e R s m args below meth c G A nL Q w cells slots (pc + 2) (lvS lv i (.ref x)) st) : h_G p l e R s m args below meth c G A nL Q w cells slots pc lv (.ref x :: st) :=
  fun H locs ls hP hA hS hl h1 => lv_astore C.1 C.2.1 hd hl hn rfl fun ls' hl' => k H locs ls' hP hA hS (lvS_has hl' h1) (lvS_1 h1 rfl)
theorem g_astore_nq (C : h_C p l s m args meth c G A cc nL own) {k0 : Fin 4} {i : Nat} {r : Option Nat} (hd : decode cc pc = .ok (.astore_n k0, 1)) (hi : (k0 : Nat) = i) (hn : i < nL) (k : h_G p l e R s m args below meth c G A nL Q w cells slots (pc + 1) (lvS lv i (va_rf r)) st) : h_G p l e R s m args below meth c G A nL Q w cells slots pc lv (va_rf r :: st) := by
  cases r with
  | none => exact fun H locs ls hP hA hS hl h1 => lv_astore_nN C.1 C.2.1 hd hi hl hn rfl fun ls' hl' => k H locs ls' hP hA hS (lvS_has hl' h1) (lvS_1 h1 rfl)
  | some a => exact fun H locs ls hP hA hS hl h1 => lv_astore_n C.1 C.2.1 hd hi hl hn rfl fun ls' hl' => k H locs ls' hP hA hS (lvS_has hl' h1) (lvS_1 h1 rfl)
theorem g_astoreq (C : h_C p l s m args meth c G A cc nL own) {i : Nat} {r : Option Nat} (hd : decode cc pc = .ok (.astore i, 2)) (hn : i < nL) (k : h_G p l e R s m args below meth c G A nL Q w cells slots (pc + 2) (lvS lv i (va_rf r)) st) : h_G p l e R s m args below meth c G A nL Q w cells slots pc lv (va_rf r :: st) := by
  cases r with
  | none => exact fun H locs ls hP hA hS hl h1 => lv_astoreN C.1 C.2.1 hd hl hn rfl fun ls' hl' => k H locs ls' hP hA hS (lvS_has hl' h1) (lvS_1 h1 rfl)
  | some a => exact fun H locs ls hP hA hS hl h1 => lv_astore C.1 C.2.1 hd hl hn rfl fun ls' hl' => k H locs ls' hP hA hS (lvS_has hl' h1) (lvS_1 h1 rfl)
theorem g_iinc (C : h_C p l s m args meth c G A cc nL own) {i : Nat} {n : Int} {x v : Int32} (hd : decode cc pc = .ok (.iinc i n, 3)) (hg : lvG lv i = some (.int x)) (hv : x + Int32.ofInt n = v) (hn : i < nL) (k : h_G p l e R s m args below meth c G A nL Q w cells slots (pc + 3) (lvS lv i (.int v)) st) : h_G p l e R s m args below meth c G A nL Q w cells slots pc lv st := by
  intro H locs ls hP hA hS hl h1
  obtain ⟨j, hj⟩ := List.getElem?_of_mem (lvG_mem lv i _ hg)
  exact lv_iinc C.1 C.2.1 hd hl (k := j) hj hv hn rfl fun ls' hl' => k H locs ls' hP hA hS (lvS_has hl' h1) (lvS_1 h1 rfl)
theorem g_if_eq (C : h_C p l s m args meth c G A cc nL own) {x : Int32} {off : Int} (tgt : Nat) (hd : decode cc pc = .ok (.ifCond .eq off, 3)) (ht : (pc : Int) + off = (tgt : Int)) (kt : x = 0 → h_G p l e R s m args below meth c G A nL Q w cells slots tgt lv st) (kf : ¬ (x = 0) → h_G p l e R s m args below meth c G A nL Q w cells slots (pc + 3) lv st) : h_G p l e R s m args below meth c G A nL Q w cells slots pc lv (.int x :: st) :=
  fun H locs ls hP hA hS hl h1 => lv_if_eq C.1 C.2.1 hd ht (fun q => kt q H locs ls hP hA hS hl h1) (fun q => kf q H locs ls hP hA hS hl h1)
theorem g_if_ne (C : h_C p l s m args meth c G A cc nL own) {x : Int32} {off : Int} (tgt : Nat) (hd : decode cc pc = .ok (.ifCond .ne off, 3)) (ht : (pc : Int) + off = (tgt : Int)) (kt : ¬ x = 0 → h_G p l e R s m args below meth c G A nL Q w cells slots tgt lv st) (kf : x = 0 → h_G p l e R s m args below meth c G A nL Q w cells slots (pc + 3) lv st) : h_G p l e R s m args below meth c G A nL Q w cells slots pc lv (.int x :: st) :=
  fun H locs ls hP hA hS hl h1 => lv_if_ne C.1 C.2.1 hd ht (fun q => kt q H locs ls hP hA hS hl h1) (fun q => kf q H locs ls hP hA hS hl h1)
theorem g_if_lt (C : h_C p l s m args meth c G A cc nL own) {x : Int32} {off : Int} (tgt : Nat) (hd : decode cc pc = .ok (.ifCond .lt off, 3)) (ht : (pc : Int) + off = (tgt : Int)) (kt : x < 0 → h_G p l e R s m args below meth c G A nL Q w cells slots tgt lv st) (kf : ¬ (x < 0) → h_G p l e R s m args below meth c G A nL Q w cells slots (pc + 3) lv st) : h_G p l e R s m args below meth c G A nL Q w cells slots pc lv (.int x :: st) :=
  fun H locs ls hP hA hS hl h1 => lv_if_lt C.1 C.2.1 hd ht (fun q => kt q H locs ls hP hA hS hl h1) (fun q => kf q H locs ls hP hA hS hl h1)
theorem g_if_ge (C : h_C p l s m args meth c G A cc nL own) {x : Int32} {off : Int} (tgt : Nat) (hd : decode cc pc = .ok (.ifCond .ge off, 3)) (ht : (pc : Int) + off = (tgt : Int)) (kt : 0 ≤ x → h_G p l e R s m args below meth c G A nL Q w cells slots tgt lv st) (kf : ¬ (0 ≤ x) → h_G p l e R s m args below meth c G A nL Q w cells slots (pc + 3) lv st) : h_G p l e R s m args below meth c G A nL Q w cells slots pc lv (.int x :: st) :=
  fun H locs ls hP hA hS hl h1 => lv_if_ge C.1 C.2.1 hd ht (fun q => kt q H locs ls hP hA hS hl h1) (fun q => kf q H locs ls hP hA hS hl h1)
theorem g_if_gt (C : h_C p l s m args meth c G A cc nL own) {x : Int32} {off : Int} (tgt : Nat) (hd : decode cc pc = .ok (.ifCond .gt off, 3)) (ht : (pc : Int) + off = (tgt : Int)) (kt : 0 < x → h_G p l e R s m args below meth c G A nL Q w cells slots tgt lv st) (kf : ¬ (0 < x) → h_G p l e R s m args below meth c G A nL Q w cells slots (pc + 3) lv st) : h_G p l e R s m args below meth c G A nL Q w cells slots pc lv (.int x :: st) :=
  fun H locs ls hP hA hS hl h1 => lv_if_gt C.1 C.2.1 hd ht (fun q => kt q H locs ls hP hA hS hl h1) (fun q => kf q H locs ls hP hA hS hl h1)
theorem g_if_le (C : h_C p l s m args meth c G A cc nL own) {x : Int32} {off : Int} (tgt : Nat) (hd : decode cc pc = .ok (.ifCond .le off, 3)) (ht : (pc : Int) + off = (tgt : Int)) (kt : x ≤ 0 → h_G p l e R s m args below meth c G A nL Q w cells slots tgt lv st) (kf : ¬ (x ≤ 0) → h_G p l e R s m args below meth c G A nL Q w cells slots (pc + 3) lv st) : h_G p l e R s m args below meth c G A nL Q w cells slots pc lv (.int x :: st) :=
  fun H locs ls hP hA hS hl h1 => lv_if_le C.1 C.2.1 hd ht (fun q => kt q H locs ls hP hA hS hl h1) (fun q => kf q H locs ls hP hA hS hl h1)
theorem g_icmp_eq (C : h_C p l s m args meth c G A cc nL own) {x y : Int32} {off : Int} (tgt : Nat) (hd : decode cc pc = .ok (.if_icmp .eq off, 3)) (ht : (pc : Int) + off = (tgt : Int)) (kt : x = y → h_G p l e R s m args below meth c G A nL Q w cells slots tgt lv st) (kf : ¬ (x = y) → h_G p l e R s m args below meth c G A nL Q w cells slots (pc + 3) lv st) : h_G p l e R s m args below meth c G A nL Q w cells slots pc lv (.int y :: .int x :: st) :=
  fun H locs ls hP hA hS hl h1 => lv_icmp_eq C.1 C.2.1 hd ht (fun q => kt q H locs ls hP hA hS hl h1) (fun q => kf q H locs ls hP hA hS hl h1)
theorem g_icmp_ne (C : h_C p l s m args meth c G A cc nL own) {x y : Int32} {off : Int} (tgt : Nat) (hd : decode cc pc = .ok (.if_icmp .ne off, 3)) (ht : (pc : Int) + off = (tgt : Int)) (kt : ¬ x = y → h_G p l e R s m args below meth c G A nL Q w cells slots tgt lv st) (kf : x = y → h_G p l e R s m args below meth c G A nL Q w cells slots (pc + 3) lv st) : h_G p l e R s m args below meth c G A nL Q w cells slots pc lv (.int y :: .int x :: st) :=
  fun H locs ls hP hA hS hl h1 => lv_icmp_ne C.1 C.2.1 hd ht (fun q => kt q H locs ls hP hA hS hl h1) (fun q => kf q H locs ls hP hA hS hl h1)
theorem g_icmp_lt (C : h_C p l s m args meth c G A cc nL own) {x y : Int32} {off : Int} (tgt : Nat) (hd : decode cc pc = .ok (.if_icmp .lt off, 3)) (ht : (pc : Int) + off = (tgt : Int)) (kt : x < y → h_G p l e R s m args below meth c G A nL Q w cells slots tgt lv st) (kf : ¬ (x < y) → h_G p l e R s m args below meth c G A nL Q w cells slots (pc + 3) lv st) : h_G p l e R s m args below meth c G A nL Q w cells slots pc lv (.int y :: .int x :: st) :=
  fun H locs ls hP hA hS hl h1 => lv_icmp_lt C.1 C.2.1 hd ht (fun q => kt q H locs ls hP hA hS hl h1) (fun q => kf q H locs ls hP hA hS hl h1)
theorem g_icmp_ge (C : h_C p l s m args meth c G A cc nL own) {x y : Int32} {off : Int} (tgt : Nat) (hd : decode cc pc = .ok (.if_icmp .ge off, 3)) (ht : (pc : Int) + off = (tgt : Int)) (kt : y ≤ x → h_G p l e R s m args below meth c G A nL Q w cells slots tgt lv st) (kf : ¬ (y ≤ x) → h_G p l e R s m args below meth c G A nL Q w cells slots (pc + 3) lv st) : h_G p l e R s m args below meth c G A nL Q w cells slots pc lv (.int y :: .int x :: st) :=
  fun H locs ls hP hA hS hl h1 => lv_icmp_ge C.1 C.2.1 hd ht (fun q => kt q H locs ls hP hA hS hl h1) (fun q => kf q H locs ls hP hA hS hl h1)
theorem g_icmp_gt (C : h_C p l s m args meth c G A cc nL own) {x y : Int32} {off : Int} (tgt : Nat) (hd : decode cc pc = .ok (.if_icmp .gt off, 3)) (ht : (pc : Int) + off = (tgt : Int)) (kt : y < x → h_G p l e R s m args below meth c G A nL Q w cells slots tgt lv st) (kf : ¬ (y < x) → h_G p l e R s m args below meth c G A nL Q w cells slots (pc + 3) lv st) : h_G p l e R s m args below meth c G A nL Q w cells slots pc lv (.int y :: .int x :: st) :=
  fun H locs ls hP hA hS hl h1 => lv_icmp_gt C.1 C.2.1 hd ht (fun q => kt q H locs ls hP hA hS hl h1) (fun q => kf q H locs ls hP hA hS hl h1)
theorem g_icmp_le (C : h_C p l s m args meth c G A cc nL own) {x y : Int32} {off : Int} (tgt : Nat) (hd : decode cc pc = .ok (.if_icmp .le off, 3)) (ht : (pc : Int) + off = (tgt : Int)) (kt : x ≤ y → h_G p l e R s m args below meth c G A nL Q w cells slots tgt lv st) (kf : ¬ (x ≤ y) → h_G p l e R s m args below meth c G A nL Q w cells slots (pc + 3) lv st) : h_G p l e R s m args below meth c G A nL Q w cells slots pc lv (.int y :: .int x :: st) :=
  fun H locs ls hP hA hS hl h1 => lv_icmp_le C.1 C.2.1 hd ht (fun q => kt q H locs ls hP hA hS hl h1) (fun q => kf q H locs ls hP hA hS hl h1)
theorem g_goto (C : h_C p l s m args meth c G A cc nL own) {off : Int} (tgt : Nat) (hd : decode cc pc = .ok (.goto off, 3)) (ht : (pc : Int) + off = (tgt : Int)) (k : h_G p l e R s m args below meth c G A nL Q w cells slots tgt lv st) : h_G p l e R s m args below meth c G A nL Q w cells slots pc lv st :=
  fun H locs ls hP hA hS hl h1 => lv_goto C.1 C.2.1 hd ht (k H locs ls hP hA hS hl h1)
theorem g_ifnull (C : h_C p l s m args meth c G A cc nL own) {r : Option Nat} {off : Int} (tgt : Nat) (hd : decode cc pc = .ok (.ifnull off, 3)) (ht : (pc : Int) + off = (tgt : Int)) (kt : r = none → h_G p l e R s m args below meth c G A nL Q w cells slots tgt lv st) (kf : ∀ a, r = some a → h_G p l e R s m args below meth c G A nL Q w cells slots (pc + 3) lv st) : h_G p l e R s m args below meth c G A nL Q w cells slots pc lv (va_rf r :: st) := by
  cases r with
  | none => exact fun H locs ls hP hA hS hl h1 => lv_ifnullN C.1 C.2.1 hd ht (kt rfl H locs ls hP hA hS hl h1)
  | some a => exact fun H locs ls hP hA hS hl h1 => lv_ifnull C.1 C.2.1 hd (kf a rfl H locs ls hP hA hS hl h1)
theorem g_ifnonnull (C : h_C p l s m args meth c G A cc nL own) {r : Option Nat} {off : Int} (tgt : Nat) (hd : decode cc pc = .ok (.ifnonnull off, 3)) (ht : (pc : Int) + off = (tgt : Int)) (kt : ∀ a, r = some a → h_G p l e R s m args below meth c G A nL Q w cells slots tgt lv st) (kf : r = none → h_G p l e R s m args below meth c G A nL Q w cells slots (pc + 3) lv st) : h_G p l e R s m args below meth c G A nL Q w cells slots pc lv (va_rf r :: st) := by
  cases r with
  | none => exact fun H locs ls hP hA hS hl h1 => lv_ifnonnullN C.1 C.2.1 hd (kf rfl H locs ls hP hA hS hl h1)
  | some a => exact fun H locs ls hP hA hS hl h1 => lv_ifnonnull C.1 C.2.1 hd ht (kt a rfl H locs ls hP hA hS hl h1)
theorem g_tableIn (C : h_C p l s m args meth c G A cc nL own) {dflt lo hi : Int} {offs : Array Int} {len : Nat} {x : Int32} {off : Int} (tgt : Nat) (hd : decode cc pc = .ok (.tableswitch dflt lo hi offs, len)) (q1 : ¬ x.toInt < lo) (q2 : ¬ hi < x.toInt) (ho : offs[(x.toInt - lo).toNat]? = some off) (ht : (pc : Int) + off = (tgt : Int)) (k : h_G p l e R s m args below meth c G A nL Q w cells slots tgt lv st) : h_G p l e R s m args below meth c G A nL Q w cells slots pc lv (.int x :: st) :=
  fun H locs ls hP hA hS hl h1 => lv_tableIn C.1 C.2.1 hd q1 q2 ho ht (k H locs ls hP hA hS hl h1)
theorem g_tableOut (C : h_C p l s m args meth c G A cc nL own) {dflt lo hi : Int} {offs : Array Int} {len : Nat} {x : Int32} (tgt : Nat) (hd : decode cc pc = .ok (.tableswitch dflt lo hi offs, len)) (q1 : x.toInt < lo ∨ hi < x.toInt) (ht : (pc : Int) + dflt = (tgt : Int)) (k : h_G p l e R s m args below meth c G A nL Q w cells slots tgt lv st) : h_G p l e R s m args below meth c G A nL Q w cells slots pc lv (.int x :: st) :=
  fun H locs ls hP hA hS hl h1 => lv_tableOut C.1 C.2.1 hd q1 ht (k H locs ls hP hA hS hl h1)
theorem g_widen {k n : Nat} (q1 : cells ≤ k) (q2 : slots ≤ n) (kk : h_G p l e R s m args below meth c G A nL Q w k n pc lv st) : h_G p l e R s m args below meth c G A nL Q w cells slots pc lv st := fun H locs ls hP hA hS hl h1 => W.widen q1 q2 (kk H locs ls hP hA hS hl h1)
theorem g_get (C : h_C p l s m args meth c G A cc nL own) {ref Cn : String} {T : u_T} {N ci index a : Nat} {fs : List Value} {v : Value} (hd : decode cc pc = .ok (.getfield index, 3)) (hw : w a = some (eO ci fs)) (hc : vwCl[ci]? = some (Cn, T, N)) (hin : ∀ x ∈ u_ws Cn T N, x ∈ hAll) (k0 : Nat) (hk : k0 < N) (hlk : Cond.fieldLink own index ref (T k0).2.1 (T k0).2.2.1 ∈ hAll) (href : (T k0).1 = ref) (hv : fs[k0]? = some v) (k : h_G p l e R s m args below meth c G A nL Q w cells slots (pc + 3) lv (v :: st)) : h_G p l e R s m args below meth c G A nL Q w cells slots pc lv (.ref a :: st) :=
  fun H locs ls hP hA hS hl h1 => va_get (fs := fs) C.1 C.2.1 C.2.2.2.2.1 hin C.2.2.2.1 C.2.2.2.2.2.1 (hP.one hw) 0 rfl hc k0 hk (C.2.2.2.2.1 _ hlk) (fun x hx => by rw [← href]; exact hx) hv hd (k H locs ls hP hA hS hl h1)
theorem g_put (C : h_C p l s m args meth c G A cc nL own) {ref Cn : String} {T : u_T} {N ci index a : Nat} {fs : List Value} {v : Value} (hd : decode cc pc = .ok (.putfield index, 3)) (hw : w a = some (eO ci fs)) (hc : vwCl[ci]? = some (Cn, T, N)) (hin : ∀ x ∈ u_ws Cn T N, x ∈ hAll) (ty0 : Nat → FieldType) (hty : ∀ k, k < N → parseFieldDescriptor (T k).2.2.1 = some (ty0 k)) (hnm : ∀ a, a < N → ∀ b, b < N → a ≠ b → (T a).2.1 ≠ (T b).2.1) (k0 : Nat) (hk : k0 < N) (hlk : Cond.fieldLink own index ref (T k0).2.1 (T k0).2.2.1 ∈ hAll) (href : (T k0).1 = ref) (hfin : (T k0).2.2.2 = false)  (hn : narrow (ty0 k0) v = v) (hfit : fits (ty0 k0) v = true) (hlen : k0 < fs.length) (k : h_G p l e R s m args below meth c G A nL Q (h_up w a (eO ci (fs.set k0 v))) cells slots (pc + 3) lv st) : h_G p l e R s m args below meth c G A nL Q w cells slots pc lv (v :: .ref a :: st) := by
  intro H locs ls hP hA hS hl h1
  have hap := va_apart (own := own) (tys := hTy G) C.2.2.2.2.1 hin ty0 hty hnm C.2.2.2.2.2.1 hc
  obtain ⟨r, hr1, cell, q1, q2, q3, q4⟩ := hP a _ hw
  have hr : r = (Cn, T, N) := Option.some.inj (hr1.symm.trans hc)
  subst hr
  obtain ⟨hSl, hfc, kC, hkC, hkind⟩ := C.2.2.2.2.2.1.1 ci _ hc
  obtain ⟨cf, kf, fi, f, hi, hsl⟩ := hSl k0 hk
  have hlay := C.2.2.2.2.1 _ (hin _ (u_in_lay hk))
  unfold u_lay at hlay
  rw [if_neg (by rw [hfin]; decide)] at hlay
  have hst := (u_facts hfc hkC (u_lays C.2.2.2.2.1 hin hk) hi).1
  have h6 := u_store hfc hkC hkind hlay hi (hty k0 hk) hn hfit
  refine W.putK C.1 C.2.1 (f := f) (own := own) (ref := ref) ⟨C.2.2.2.1, C.2.2.2.2.1 _ hlk, ⟨_, _, _, by rw [← href]; exact hi⟩, hst⟩ (by rw [q2]; exact h6) q1 q3 (by rw [hsl]; exact k2_hasslot (q4 k0 hk)) rfl rfl hd fun H' e1 e2 e3 => ?_
  rw [hsl] at e1 ⊢
  have ha : A a := hA a _ hw
  exact k H' _ ls (hP.put ⟨_, hc, t_OB.to (V := updV (vp_V fs) k0 v) ⟨_, e1, q2, q3, t_set q4 hap hk v⟩ (fun j _ => vp_updV_set hlen v j)⟩ e3) (hA.up ha) (hS.put e2 e3 ha) hl h1
theorem g_putF (C : h_C p l s m args meth c G A cc nL own) {ref Cn : String} {T : u_T} {N ci index a : Nat} {fs : List Value} {v : Value} (hd : decode cc pc = .ok (.putfield index, 3)) (hw : w a = some (eO ci fs)) (hc : vwCl[ci]? = some (Cn, T, N)) (hin : ∀ x ∈ u_ws Cn T N, x ∈ hAll) (ty0 : Nat → FieldType) (hty : ∀ k, k < N → parseFieldDescriptor (T k).2.2.1 = some (ty0 k)) (hnm : ∀ a, a < N → ∀ b, b < N → a ≠ b → (T a).2.1 ≠ (T b).2.1) (k0 : Nat) (hk : k0 < N) (hlk : Cond.fieldLink own index ref (T k0).2.1 (T k0).2.2.1 ∈ hAll) (href : (T k0).1 = ref) (hfin : (T k0).2.2.2 = true) (hin2 : meth.name = "<init>") (hdecl : (T k0).1 = own) (hn : narrow (ty0 k0) v = v) (hfit : fits (ty0 k0) v = true) (hlen : k0 < fs.length) (k : h_G p l e R s m args below meth c G A nL Q (h_up w a (eO ci (fs.set k0 v))) cells slots (pc + 3) lv st) : h_G p l e R s m args below meth c G A nL Q w cells slots pc lv (v :: .ref a :: st) := by
  intro H locs ls hP hA hS hl h1
  have hap := va_apart (own := own) (tys := hTy G) C.2.2.2.2.1 hin ty0 hty hnm C.2.2.2.2.2.1 hc
  obtain ⟨r, hr1, cell, q1, q2, q3, q4⟩ := hP a _ hw
  have hr : r = (Cn, T, N) := Option.some.inj (hr1.symm.trans hc)
  subst hr
  obtain ⟨hSl, hfc, kC, hkC, hkind⟩ := C.2.2.2.2.2.1.1 ci _ hc
  obtain ⟨cf, kf, fi, f, hi, hsl⟩ := hSl k0 hk
  have hlay := C.2.2.2.2.1 _ (hin _ (u_in_lay hk))
  unfold u_lay at hlay
  rw [if_pos hfin] at hlay
  have hst := (u_facts hfc hkC (u_lays C.2.2.2.2.1 hin hk) hi).1
  have hcf : m.cls = cf := by
    obtain ⟨_, _, c', _, _, _, -, -, hf', -, -, -, hown2, -⟩ := Cond.laysFinal_spec hlay
    have e1 : c' = cf := by have := hi.symm.trans hf'; simp at this; exact this.1.symm
    rw [hdecl] at hown2
    rw [← e1]; exact Option.some.inj (C.2.2.2.1.symm.trans hown2)
  have h6 := u_fits hfc hkC hkind (Or.inr hlay) hi (hty k0 hk) hn hfit
  refine W.putFinK C.1 C.2.1 C.2.2.2.1 (C.2.2.2.2.1 _ hlk) (by rw [← href]; exact hi) hst hcf hin2 (by rw [q2]; exact h6) q1 q3 (by rw [hsl]; exact k2_hasslot (q4 k0 hk)) rfl rfl hd fun H' e1 e2 e3 => ?_
  rw [hsl] at e1 ⊢
  have ha : A a := hA a _ hw
  exact k H' _ ls (hP.put ⟨_, hc, t_OB.to (V := updV (vp_V fs) k0 v) ⟨_, e1, q2, q3, t_set q4 hap hk v⟩ (fun j _ => vp_updV_set hlen v j)⟩ e3) (hA.up ha) (hS.put e2 e3 ha) hl h1
theorem g_iald (C : h_C p l s m args meth c G A cc nL own) {a n : Nat} {f : Nat → Int32} {i : Int32} (hd : decode cc pc = .ok (.iaload, 1)) (hw : w a = some (eI G n f)) (hi : vp_in i n) (k : h_G p l e R s m args below meth c G A nL Q w cells slots (pc + 1) lv (.int (f i.toNatClampNeg) :: st)) : h_G p l e R s m args below meth c G A nL Q w cells slots pc lv (.int i :: .ref a :: st) :=
  fun H locs ls hP hA hS hl h1 => va_iald C.1 C.2.1 C.2.2.2.2.2.1 (hP.one hw) 0 0 rfl rfl hi hd (k H locs ls hP hA hS hl h1)
theorem g_zald (C : h_C p l s m args meth c G A cc nL own) {a n : Nat} {f : Nat → Int32} {i : Int32} (hd : decode cc pc = .ok (.baload, 1)) (hw : w a = some (eZ G n f)) (hi : vp_in i n) (k : h_G p l e R s m args below meth c G A nL Q w cells slots (pc + 1) lv (.int (f i.toNatClampNeg) :: st)) : h_G p l e R s m args below meth c G A nL Q w cells slots pc lv (.int i :: .ref a :: st) :=
  fun H locs ls hP hA hS hl h1 => va_zald C.1 C.2.1 C.2.2.2.2.2.1 (hP.one hw) 0 1 rfl rfl hi hd (k H locs ls hP hA hS hl h1)
theorem g_lald (C : h_C p l s m args meth c G A cc nL own) {a n : Nat} {f : Nat → Int64} {i : Int32} (hd : decode cc pc = .ok (.laload, 1)) (hw : w a = some (eJ G n f)) (hi : vp_in i n) (k : h_G p l e R s m args below meth c G A nL Q w cells slots (pc + 1) lv (.long (f i.toNatClampNeg) :: st)) : h_G p l e R s m args below meth c G A nL Q w cells slots pc lv (.int i :: .ref a :: st) :=
  fun H locs ls hP hA hS hl h1 => va_lald C.1 C.2.1 C.2.2.2.2.2.1 (hP.one hw) 0 2 rfl rfl hi hd (k H locs ls hP hA hS hl h1)
theorem g_aldq (C : h_C p l s m args meth c G A cc nL own) {a n : Nat} {f : Nat → Option Nat} {i : Int32} (hd : decode cc pc = .ok (.aaload, 1)) (hw : w a = some (eT G n f)) (hi : vp_in i n) (k : h_G p l e R s m args below meth c G A nL Q w cells slots (pc + 1) lv (va_rf (f i.toNatClampNeg) :: st)) : h_G p l e R s m args below meth c G A nL Q w cells slots pc lv (.int i :: .ref a :: st) :=
  fun H locs ls hP hA hS hl h1 => va_aldq C.1 C.2.1 C.2.2.2.2.2.1 (hP.one hw) 0 3 rfl rfl hi hd (k H locs ls hP hA hS hl h1)
theorem g_alen (C : h_C p l s m args meth c G A cc nL own) {a : Nat} {x : vp_A} {cA : ClassId} {ty : FieldType} {v : Int32} (t0 : Nat) (hd : decode cc pc = .ok (.arraylength, 1)) (hw : w a = some (.inl (cA, x))) (ht : (hTy G)[t0]? = some (cA, ty)) (hv : Int32.ofNat x.1 = v) (k : h_G p l e R s m args below meth c G A nL Q w cells slots (pc + 1) lv (.int v :: st)) : h_G p l e R s m args below meth c G A nL Q w cells slots pc lv (.ref a :: st) :=
  fun H locs ls hP hA hS hl h1 => va_alen C.1 C.2.1 C.2.2.2.2.2.1 (hP.one hw) 0 t0 rfl ht hv hd (k H locs ls hP hA hS hl h1)
theorem g_iast (C : h_C p l s m args meth c G A cc nL own) {a n : Nat} {f : Nat → Int32} {i : Int32} {x : Int32} (hd : decode cc pc = .ok (.iastore, 1)) (hw : w a = some (eI G n f)) (hi : vp_in i n) (k : h_G p l e R s m args below meth c G A nL Q (h_up w a (eI G n (upd f i.toNatClampNeg x))) cells slots (pc + 1) lv st) : h_G p l e R s m args below meth c G A nL Q w cells slots pc lv (.int x :: .int i :: .ref a :: st) := by
  intro H locs ls hP hA hS hl h1
  refine W.iast C.1 C.2.1 (hP a _ hw) ((C.2.2.2.2.2.1.2 0 _ rfl).1 n (fun j => .int (f j))) (fun q => by cases q) (by show ¬ (i < 0 ∨ (arrV _ _ _).slots.size ≤ _); rw [arrV_size]; exact hi) rfl rfl hd fun H1 e z oq => ?_
  have ha : A a := hA a _ hw
  refine k H1 _ ls (hP.put ?_ oq) (hA.up ha) (hS.put z oq ha) hl h1
  show H1[a]? = some (vp_cell _ _)
  rw [e]
  rw [vp_cell_i, vp_cell_i, arrV_store]
  congr 2
  funext q
  by_cases hq : q = i.toNatClampNeg
  · subst hq
    simp [updV, upd]
  · simp [updV, upd, hq]
theorem g_zast (C : h_C p l s m args meth c G A cc nL own) {a n : Nat} {f : Nat → Int32} {i : Int32} {x : Int32} (hd : decode cc pc = .ok (.bastore, 1)) (hw : w a = some (eZ G n f)) (hi : vp_in i n) (k : h_G p l e R s m args below meth c G A nL Q (h_up w a (eZ G n (upd f i.toNatClampNeg (vp_nar .boolean x)))) cells slots (pc + 1) lv st) : h_G p l e R s m args below meth c G A nL Q w cells slots pc lv (.int x :: .int i :: .ref a :: st) := by
  intro H locs ls hP hA hS hl h1
  refine W.zast C.1 C.2.1 (hP a _ hw) ((C.2.2.2.2.2.1.2 1 _ rfl).1 n (fun j => .int (f j))) (fun q => by cases q) (by show ¬ (i < 0 ∨ (arrV _ _ _).slots.size ≤ _); rw [arrV_size]; exact hi) rfl rfl hd fun H1 e z oq => ?_
  have ha : A a := hA a _ hw
  refine k H1 _ ls (hP.put ?_ oq) (hA.up ha) (hS.put z oq ha) hl h1
  show H1[a]? = some (vp_cell _ _)
  rw [e]
  rw [vp_cell_i, vp_cell_i, arrV_store]
  congr 2
  funext q
  by_cases hq : q = i.toNatClampNeg
  · subst hq
    simp [updV, upd, vp_nar]
    try rfl
  · simp [updV, upd, hq]
theorem g_last (C : h_C p l s m args meth c G A cc nL own) {a n : Nat} {f : Nat → Int64} {i : Int32} {x : Int64} (hd : decode cc pc = .ok (.lastore, 1)) (hw : w a = some (eJ G n f)) (hi : vp_in i n) (k : h_G p l e R s m args below meth c G A nL Q (h_up w a (eJ G n (vp_updL f i.toNatClampNeg x))) cells slots (pc + 1) lv st) : h_G p l e R s m args below meth c G A nL Q w cells slots pc lv (.long x :: .int i :: .ref a :: st) := by
  intro H locs ls hP hA hS hl h1
  refine W.last C.1 C.2.1 (hP a _ hw) ((C.2.2.2.2.2.1.2 2 _ rfl).1 n (fun j => .long (f j))) (fun q => by cases q) (by show ¬ (i < 0 ∨ (arrV _ _ _).slots.size ≤ _); rw [arrV_size]; exact hi) rfl rfl hd fun H1 e z oq => ?_
  have ha : A a := hA a _ hw
  refine k H1 _ ls (hP.put ?_ oq) (hA.up ha) (hS.put z oq ha) hl h1
  show H1[a]? = some (vp_cell _ _)
  rw [e]
  rw [vp_cell_l, vp_cell_l, arrV_store]
  congr 2
  funext q
  by_cases hq : q = i.toNatClampNeg
  · subst hq
    simp [updV, vp_updL]
  · simp [updV, vp_updL, hq]
theorem g_astq (C : h_C p l s m args meth c G A cc nL own) {a n v ci : Nat} {T : u_T} {N : Nat} {vs : List Value} {f : Nat → Option Nat} {i : Int32} (hd : decode cc pc = .ok (.aastore, 1)) (hw : w a = some (eT G n f)) (hv : w v = some (eO ci vs)) (hc : vwCl[ci]? = some (RX1, T, N)) (hi : vp_in i n) (k : h_G p l e R s m args below meth c G A nL Q (h_up w a (eT G n (va_up f i.toNatClampNeg (some v)))) cells slots (pc + 1) lv st) : h_G p l e R s m args below meth c G A nL Q w cells slots pc lv (.ref v :: .int i :: .ref a :: st) := by
  intro H locs ls hP hA hS hl h1
  have hlt : i.toNatClampNeg < n := Nat.not_le.mp fun q => hi (Or.inr q)
  have h0 : ¬ i < 0 := fun q => hi (Or.inl q)
  obtain ⟨r', hr', cellV, g1, g2, g3, -⟩ := hP v _ hv
  have hcls := (C.2.2.2.2.2.1.1 ci _ hc).2
  obtain ⟨kA, comp, k1, k2, k3, -⟩ := (C.2.2.2.2.2.1.2 3 _ rfl).2
  have hcomp : comp = G.1.1 ci := Option.some.inj (k3.symm.trans hcls.1)
  subst hcomp
  obtain ⟨kC, hkC, -⟩ := hcls.2
  refine W.aast C.1 C.2.1 (hP a _ hw) (fun q h => by cases h) (fun h => by cases h) k1 k2 rfl hkC ⟨h0, by show _ < (arrV _ _ _).slots.size; rw [arrV_size]; exact hlt⟩ g1 (fun q h => by rw [g3] at h; cases h) (by rw [g2]; exact hkC) (by rw [g2]; exact va_assign hcls) rfl rfl hd fun H1 e z oq => ?_
  have ha : A a := hA a _ hw
  refine k H1 _ ls (hP.put ?_ oq) (hA.up ha) (hS.put z oq ha) hl h1
  show H1[a]? = some (vp_cell _ _)
  rw [e]
  rw [vp_cell_q, vp_cell_q, arrV_store]
  congr 2
  funext q
  by_cases hq : q = i.toNatClampNeg
  · subst hq
    simp [updV, va_up, va_rf]
  · simp [updV, va_up, hq]
theorem g_new (C : h_C p l s m args meth c G A cc nL own) {Cn : String} {T : u_T} {N ci index : Nat} {fs : List Value} (hd : decode cc pc = .ok (.new index, 3)) (hc : vwCl[ci]? = some (Cn, T, N)) (hin : ∀ x ∈ u_ws Cn T N, x ∈ hAll) (ty : Nat → FieldType) (hty : ∀ k, k < N → parseFieldDescriptor (T k).2.2.1 = some (ty k)) (hcl : Cond.classLink own index Cn ∈ hAll) (hinst : Cond.instantiable Cn N ∈ hAll) (hini : Cond.initialized Cn ∈ hAll) (hfs : ∀ j, j < N → defaultValue (ty j) = vp_V fs j) (hcells : cells + 1 ≤ R.cells) (hslots : slots + N ≤ R.slots)
    (k : ∀ q : Nat, w q = none → h_G p l e R s m args below meth c G A nL Q (h_up w q (eO ci fs)) (cells + 1) (slots + N) (pc + 3) lv (.ref q :: st)) : h_G p l e R s m args below meth c G A nL Q w cells slots pc lv st := by
  intro H locs ls hP hA hS hl h1
  have hts := C.2.2.2.2.1
  have hKn := C.2.2.2.2.2.1.1 ci _ hc
  refine W.newcK C.1 C.2.1 C.2.2.2.1 (hts _ hcl) (hts _ hinst) (hts _ hini) rfl hd hcells hslots hKn.2.1 rfl fun H1 kC hkC e1 z1 o1 => ?_
  have hf : w H.size = none := by
    cases hx : w H.size with
    | none => rfl
    | some e => exact absurd (hP.lt hx) (Nat.lt_irrefl _)
  have hAz : A H.size := C.2.2.2.2.2.2.1 _ hS.1
  refine k H.size hf H1 locs ls ?_ (hA.up hAz) ⟨Nat.le_trans hS.1 (by omega), fun x h2 h3 => (o1 x (Nat.lt_of_lt_of_le h2 hS.1)).trans (hS.2.1 x h2 h3), hS.2.2⟩ hl h1
  intro b f hb
  by_cases hba : b = H.size
  · subst hba
    rw [h_up_s] at hb
    cases hb
    exact ⟨_, hc, (u_born ty hts hin hKn hkC e1 hty).to hfs⟩
  · rw [h_up_n hba] at hb
    exact (hP b f hb).kept (o1 b (hP.lt hb))
theorem g_newI (C : h_C p l s m args meth c G A cc nL own) {n : Int32} {N : Nat} (hd : decode cc pc = .ok (.newarray .int, 2)) (harr : Cond.arrayClass .int ∈ hAll) (hn : ¬ n < 0) (hN : n.toNatClampNeg = N) (hb9 : N * 8 ≤ 536870912) (hcells : cells + 1 ≤ R.cells) (hslots : slots + N ≤ R.slots)
    (k : ∀ q : Nat, w q = none → h_G p l e R s m args below meth c G A nL Q (h_up w q (eI G N (fun _ => 0))) (cells + 1) (slots + N) (pc + 2) lv (.ref q :: st)) : h_G p l e R s m args below meth c G A nL Q w cells slots pc lv (.int n :: st) := by
  intro H locs ls hP hA hS hl h1
  refine va_newaK (atype := .int) C.1 C.2.1 (C.2.2.2.2.1 _ harr) rfl hd rfl hn hN (Nat.le_trans (Nat.mul_le_mul_left N (by decide)) hb9) hcells hslots rfl fun H1 cA e1 z1 o1 hAr hNm => ?_
  have hcA : cA = G.2.1 := by
    have h9 := (C.2.2.2.2.2.1.2 0 _ rfl).2
    exact Option.some.inj (hNm.symm.trans h9)
  subst hcA
  have hf : w H.size = none := by
    cases hx : w H.size with
    | none => rfl
    | some e => exact absurd (hP.lt hx) (Nat.lt_irrefl _)
  have hAz : A H.size := C.2.2.2.2.2.2.1 _ hS.1
  refine k H.size hf H1 locs ls ?_ (hA.up hAz) ⟨Nat.le_trans hS.1 (by omega), fun x h2 h3 => (o1 x (Nat.lt_of_lt_of_le h2 hS.1)).trans (hS.2.1 x h2 h3), hS.2.2⟩ hl h1
  intro b f hb
  by_cases hba : b = H.size
  · subst hba
    rw [h_up_s] at hb
    cases hb
    exact e1
  · rw [h_up_n hba] at hb
    exact (hP b f hb).kept (o1 b (hP.lt hb))
theorem g_newZ (C : h_C p l s m args meth c G A cc nL own) {n : Int32} {N : Nat} (hd : decode cc pc = .ok (.newarray .boolean, 2)) (harr : Cond.arrayClass .boolean ∈ hAll) (hn : ¬ n < 0) (hN : n.toNatClampNeg = N) (hb9 : N * 8 ≤ 536870912) (hcells : cells + 1 ≤ R.cells) (hslots : slots + N ≤ R.slots)
    (k : ∀ q : Nat, w q = none → h_G p l e R s m args below meth c G A nL Q (h_up w q (eZ G N (fun _ => 0))) (cells + 1) (slots + N) (pc + 2) lv (.ref q :: st)) : h_G p l e R s m args below meth c G A nL Q w cells slots pc lv (.int n :: st) := by
  intro H locs ls hP hA hS hl h1
  refine va_newaK (atype := .boolean) C.1 C.2.1 (C.2.2.2.2.1 _ harr) rfl hd rfl hn hN (Nat.le_trans (Nat.mul_le_mul_left N (by decide)) hb9) hcells hslots rfl fun H1 cA e1 z1 o1 hAr hNm => ?_
  have hcA : cA = G.2.2.1 := by
    have h9 := (C.2.2.2.2.2.1.2 1 _ rfl).2
    exact Option.some.inj (hNm.symm.trans h9)
  subst hcA
  have hf : w H.size = none := by
    cases hx : w H.size with
    | none => rfl
    | some e => exact absurd (hP.lt hx) (Nat.lt_irrefl _)
  have hAz : A H.size := C.2.2.2.2.2.2.1 _ hS.1
  refine k H.size hf H1 locs ls ?_ (hA.up hAz) ⟨Nat.le_trans hS.1 (by omega), fun x h2 h3 => (o1 x (Nat.lt_of_lt_of_le h2 hS.1)).trans (hS.2.1 x h2 h3), hS.2.2⟩ hl h1
  intro b f hb
  by_cases hba : b = H.size
  · subst hba
    rw [h_up_s] at hb
    cases hb
    exact e1
  · rw [h_up_n hba] at hb
    exact (hP b f hb).kept (o1 b (hP.lt hb))
theorem g_newJ (C : h_C p l s m args meth c G A cc nL own) {n : Int32} {N : Nat} (hd : decode cc pc = .ok (.newarray .long, 2)) (harr : Cond.arrayClass .long ∈ hAll) (hn : ¬ n < 0) (hN : n.toNatClampNeg = N) (hb9 : N * 8 ≤ 536870912) (hcells : cells + 1 ≤ R.cells) (hslots : slots + N ≤ R.slots)
    (k : ∀ q : Nat, w q = none → h_G p l e R s m args below meth c G A nL Q (h_up w q (eJ G N (fun _ => 0))) (cells + 1) (slots + N) (pc + 2) lv (.ref q :: st)) : h_G p l e R s m args below meth c G A nL Q w cells slots pc lv (.int n :: st) := by
  intro H locs ls hP hA hS hl h1
  refine va_newaK (atype := .long) C.1 C.2.1 (C.2.2.2.2.1 _ harr) rfl hd rfl hn hN (Nat.le_trans (Nat.mul_le_mul_left N (by decide)) hb9) hcells hslots rfl fun H1 cA e1 z1 o1 hAr hNm => ?_
  have hcA : cA = G.2.2.2.1 := by
    have h9 := (C.2.2.2.2.2.1.2 2 _ rfl).2
    exact Option.some.inj (hNm.symm.trans h9)
  subst hcA
  have hf : w H.size = none := by
    cases hx : w H.size with
    | none => rfl
    | some e => exact absurd (hP.lt hx) (Nat.lt_irrefl _)
  have hAz : A H.size := C.2.2.2.2.2.2.1 _ hS.1
  refine k H.size hf H1 locs ls ?_ (hA.up hAz) ⟨Nat.le_trans hS.1 (by omega), fun x h2 h3 => (o1 x (Nat.lt_of_lt_of_le h2 hS.1)).trans (hS.2.1 x h2 h3), hS.2.2⟩ hl h1
  intro b f hb
  by_cases hba : b = H.size
  · subst hba
    rw [h_up_s] at hb
    cases hb
    exact e1
  · rw [h_up_n hba] at hb
    exact (hP b f hb).kept (o1 b (hP.lt hb))
theorem g_newT (C : h_C p l s m args meth c G A cc nL own) {n : Int32} {N index : Nat} (hd : decode cc pc = .ok (.anewarray index, 3)) (hcl : Cond.classLink own index RX1 ∈ hAll) (hov : va_AO RX1 s) (hn : ¬ n < 0) (hN : n.toNatClampNeg = N) (hb9 : N * 4 ≤ 536870912) (hcells : cells + 1 ≤ R.cells) (hslots : slots + N ≤ R.slots)
    (k : ∀ q : Nat, w q = none → h_G p l e R s m args below meth c G A nL Q (h_up w q (eT G N (fun _ => none))) (cells + 1) (slots + N) (pc + 3) lv (.ref q :: st)) : h_G p l e R s m args below meth c G A nL Q w cells slots pc lv (.int n :: st) := by
  intro H locs ls hP hA hS hl h1
  subst hN
  refine W.anew C.1 C.2.1 C.2.2.2.1 (C.2.2.2.2.1 _ hcl) (va_AO.use hov) rfl hd rfl hn hb9 hcells hslots fun cA kA comp f1 f2 f3 f4 => ?_
  have hcA : cA = G.2.2.2.2 := by
    obtain ⟨_, _, _, _, _, h9⟩ := (C.2.2.2.2.2.1.2 3 _ rfl).2
    exact Option.some.inj (f1.symm.trans h9)
  subst hcA
  generalize hH1 : H.push ({ cls := G.2.2.2.2, slots := Array.replicate n.toNatClampNeg .null, vm := .none } : Cell) = H1
  have z1 : H1.size = H.size + 1 := by rw [← hH1, Array.size_push]
  have e1 : H1[H.size]? = some (arrV G.2.2.2.2 n.toNatClampNeg (fun _ => .null)) := by rw [← hH1, Array.getElem?_push_size, ← arrV_new]
  have o1 : ∀ q : Nat, q < H.size → H1[q]? = H[q]? := fun q hq => by rw [← hH1, Array.getElem?_push, if_neg (Nat.ne_of_lt hq)]
  have hf : w H.size = none := by
    cases hx : w H.size with
    | none => rfl
    | some e => exact absurd (hP.lt hx) (Nat.lt_irrefl _)
  have hAz : A H.size := C.2.2.2.2.2.2.1 _ hS.1
  refine k H.size hf H1 locs ls ?_ (hA.up hAz) ⟨Nat.le_trans hS.1 (by omega), fun x h2 h3 => (o1 x (Nat.lt_of_lt_of_le h2 hS.1)).trans (hS.2.1 x h2 h3), hS.2.2⟩ hl h1
  intro b f hb
  by_cases hba : b = H.size
  · subst hba
    rw [h_up_s] at hb
    cases hb
    show H1[H.size]? = some (vp_cell _ _)
    rw [vp_cell_q]
    exact e1
  · rw [h_up_n hba] at hb
    exact (hP b f hb).kept (o1 b (hP.lt hb))
theorem g_objInit (C : h_C p l s m args meth c G A cc nL own) {idx a : Nat} (hd : decode cc pc = .ok (.invokespecial idx, 3)) (hlk : Cond.methodLink own idx objectInit ∈ hAll) (hfr : 1 ≤ R.frames) (hlo : (st.map fun v => v.category).sum + 12 ≤ R.locals) (k : h_G p l e R s m args below meth c G A nL Q w cells slots (pc + 3) lv st) : h_G p l e R s m args below meth c G A nL Q w cells slots pc lv (.ref a :: st) := by
  intro H locs ls hP hA hS hl h1
  have hts := C.2.2.2.2.1
  refine W.objInit C.1 C.2.1 C.2.2.2.1 (hts _ hlk) (hts _ ki_object) (hts _ kc_object) rfl (hl.1.trans C.2.2.1.symm) rfl hd hfr ?_ (k H locs ls hP hA hS hl h1)
  have hm : (F0 m pc ls (.ref a :: st)).monitorRoom = 0 := rfl
  rw [hm]
  omega
end HK
end
section
/-! ===== contracts over function worlds: their start, their end, calls ===== -/
/-- a method's start: the world w, in cells that A names -/
def h_Ok (l : Launch) (G : hD) (A : Nat → Prop) (w : hW) (U : State) : Prop := h_P G.1 w U.heap ∧ va_K G.1 vwCl (hTy G) U ∧ h_in_A A w ∧ (∀ q, U.heap.size ≤ q → A q) ∧ h_T l A U U.heap
def h_Qc (G : hD) (A : Nat → Prop) (post : Option Value → hW → Prop) : Array Value → State → Outcome → State → Prop := fun _ st oc t => (∃ (v : Option Value) (w' : hW), oc = .returned v ∧ post v w' ∧ h_P G.1 w' t.heap ∧ h_in_A A w') ∧ va_F A st t
def h_XC (G : hD) (A : Nat → Prop) (w0 : hW) (px : String → Prop) : String → State → State → Prop := fun E st t => px E ∧ h_P G.1 w0 t.heap ∧ va_F A st t
def h_Q (G : hD) (A : Nat → Prop) (post : Option Value → hW → Prop) (px : String → Prop) (w0 : hW) (below : List Frame) (args : Array Value) (s : State) (mc ms : Nat) : State → Prop := vx_MQ below (h_Qc G A post) (h_XC G A w0 px) args s mc ms A
/-- the contract: from the world w, with these arguments, y returns with post, or throws (then the world is as it was) -/
def h_Met (l : Launch) (y : MethodName) (cd : Cond) (rm : Room) (G : hD) (av : List Value) (w : hW) (post : Option Value → hW → Prop) (px : String → Prop) : Prop :=
  ∀ A : Nat → Prop, vx_Met l y (cd :: hAll) rm (va_Pc av (h_Ok l G A w)) (h_Qc G A post) (h_XC G A w px) rm.cells rm.slots A
def noX : String → Prop := fun _ => False
theorem h_pre_blind {l : Launch} {G : hD} {A : Nat → Prop} {w : hW} {av : List Value} : FrameBlind (va_Pc av (h_Ok l G A w)) := by
  intro a U g mk q
  obtain ⟨q0, hP, hK, hA, hs, hT⟩ := q
  exact ⟨q0, hP, va_K.moved (u := U) (U := U.calling g mk a) (Vm.Alike.refl U.vm) hK, hA, hs, hT.same (U := U.calling g mk a) rfl⟩
/-- a contract out of the body's walk -/
theorem h_met {l : Launch} {y : MethodName} {cc : ByteArray} {maxL : Nat} {ret : Option FieldType} {rm : Room} {G : hD} {av : List Value} {w : hW} {post : Option Value → hW → Prop} {px : String → Prop} (own : String) (ho : y.cls = own) (hy : plainName y.cls = true) (hlen : (lg_sl av).length ≤ maxL) (hcat : ∀ v ∈ av, v.category = 1)
    (body : ∀ (p : Program) (e : Env) (s : State) (m : MethodId) (below : List Frame) (meth : Method) (c : Code) (A : Nat → Prop), h_C p l s m av.toArray meth c G A cc maxL own → (∀ x ∈ c.exceptionTable.toList, False) → meth.sig.returnType = ret → meth.name = y.name →
      h_G p l e rm s m av.toArray below meth c G A maxL (h_Q G A post px w below av.toArray s rm.cells rm.slots) w 0 0 0 (lvA 0 av) []) : h_Met l y (Cond.code y cc maxL ret) rm G av w post px := by
  subst ho
  intro A
  refine vx_ofW (cc := cc) (maxL := maxL) (ret := ret) hy rfl ?_
  intro p e s m args below meth c s₁ B hml hx hv
  obtain ⟨rfl, hP, hK, hA, hAs, hT⟩ := hv
  have hts := atoms_spec (ws := Cond.code y cc maxL ret :: hAll) B.pre
  have C : h_C p l s m av.toArray meth c G A cc maxL y.cls := ⟨B.exec, B.bytes, hml, findClass_of_methodNamed B.named, fun x hx => hts x (List.mem_cons_of_mem _ hx), hK, hAs, B.notSynchronized, hT⟩
  have hl := lv_entry av (n := maxL) hlen
  rw [lg_entry_eq]
  generalize (lg_sl av ++ List.replicate (maxL - (lg_sl av).length) Slot.unset).toArray = ls at hl ⊢
  exact body p e s m below meth c A C hx B.returns (name_of_methodNamed B.named B.method).1 s.heap [] ls hP hA va_S.rf (by rw [← lvA_eq av 0 hcat]; exact hl) (lvA_1 av 0 hcat)
/-- the same for a method with a table of handlers -/
theorem h_metH {l : Launch} {y : MethodName} {cc : ByteArray} {maxL : Nat} {ret : Option FieldType} {hh : List (Nat × Nat × Nat × Nat)} {rm : Room} {G : hD} {av : List Value} {w : hW} {post : Option Value → hW → Prop} {px : String → Prop} (own : String) (ho : y.cls = own) (hy : plainName y.cls = true) (hlen : (lg_sl av).length ≤ maxL) (hcat : ∀ v ∈ av, v.category = 1)
    (body : ∀ (p : Program) (e : Env) (s : State) (m : MethodId) (below : List Frame) (meth : Method) (c : Code) (A : Nat → Prop), h_C p l s m av.toArray meth c G A cc maxL own → c.exceptionTable.toList = tableOf hh → meth.sig.returnType = ret → meth.name = y.name →
      h_G p l e rm s m av.toArray below meth c G A maxL (h_Q G A post px w below av.toArray s rm.cells rm.slots) w 0 0 0 (lvA 0 av) []) : h_Met l y (Cond.codeWith y cc maxL ret hh) rm G av w post px := by
  subst ho
  intro A
  refine vx_ofWH (cc := cc) (maxL := maxL) (ret := ret) (hh := hh) hy rfl ?_
  intro p e s m args below meth c s₁ B hml hv
  obtain ⟨rfl, hP, hK, hA, hAs, hT⟩ := hv
  have hts := atoms_spec (ws := Cond.codeWith y cc maxL ret hh :: hAll) B.pre
  have C : h_C p l s m av.toArray meth c G A cc maxL y.cls := ⟨B.exec, B.bytes, hml, findClass_of_methodNamed B.named, fun x hx => hts x (List.mem_cons_of_mem _ hx), hK, hAs, B.notSynchronized, hT⟩
  have hl := lv_entry av (n := maxL) hlen
  rw [lg_entry_eq]
  generalize (lg_sl av ++ List.replicate (maxL - (lg_sl av).length) Slot.unset).toArray = ls at hl ⊢
  exact body p e s m below meth c A C (vx_table (x := y) B (hts _ List.mem_cons_self)) B.returns (name_of_methodNamed B.named B.method).1 s.heap [] ls hP hA va_S.rf (by rw [← lvA_eq av 0 hcat]; exact hl) (lvA_1 av 0 hcat)
section HR
variable {p : Program} {l : Launch} {e : Env} {R : Room} {s : State} {m : MethodId} {args : Array Value} {below : List Frame} {meth : Method} {c : Code} {Q : State → Prop}
variable {G : hD} {A : Nat → Prop} {nL : Nat} {w w0 : hW} {cells slots pc mc ms : Nat} {lv : List (Nat × Value)} {st : List Value} {cc : ByteArray} {own : String} {post : Option Value → hW → Prop} {px : String → Prop}
theorem g_iret (C : h_C p l s m args meth c G A cc nL own) {v : Int32} (hr : meth.sig.returnType = some .int) (hd : decode cc pc = .ok (.ireturn, 1)) (hc : cells ≤ mc) (hs : slots ≤ ms) (hp : post (some (.int v)) w) : h_G p l e R s m args below meth c G A nL (h_Q G A post px w0 below args s mc ms) w cells slots pc lv [.int v] :=
  fun H locs ls hP hA hS hl h1 => W.widen hc hs (vx_ret (W.iret C.1 C.2.1 hr (fun t ht hw => ⟨⟨_, w, rfl, hp, by rw [ht]; exact hP, hA⟩, hS.F ht⟩) hS.2.2 hd C.2.2.2.2.2.2.2.1))
theorem g_zret (C : h_C p l s m args meth c G A cc nL own) {v : Int32} (hr : meth.sig.returnType = some .boolean) (hn : narrow .boolean (.int v) = .int v) (hd : decode cc pc = .ok (.ireturn, 1)) (hc : cells ≤ mc) (hs : slots ≤ ms) (hp : post (some (.int v)) w) : h_G p l e R s m args below meth c G A nL (h_Q G A post px w0 below args s mc ms) w cells slots pc lv [.int v] :=
  fun H locs ls hP hA hS hl h1 => W.widen hc hs (vx_ret (W.zret C.1 C.2.1 hr hn (fun t ht hw => ⟨⟨_, w, rfl, hp, by rw [ht]; exact hP, hA⟩, hS.F ht⟩) hS.2.2 hd C.2.2.2.2.2.2.2.1))
theorem g_vret (C : h_C p l s m args meth c G A cc nL own) (hr : meth.sig.returnType = none) (hd : decode cc pc = .ok (.return_, 1)) (hc : cells ≤ mc) (hs : slots ≤ ms) (hp : post none w) : h_G p l e R s m args below meth c G A nL (h_Q G A post px w0 below args s mc ms) w cells slots pc lv [] :=
  fun H locs ls hP hA hS hl h1 => W.widen hc hs (vx_ret (W.vret C.1 C.2.1 hr (fun t ht hw => ⟨⟨_, w, rfl, hp, by rw [ht]; exact hP, hA⟩, hS.F ht⟩) hS.2.2 hd C.2.2.2.2.2.2.2.1))
theorem g_aret (C : h_C p l s m args meth c G A cc nL own) {r : Option Nat} {cn : String} (hr : meth.sig.returnType = some (.object cn)) (hd : decode cc pc = .ok (.areturn, 1)) (hc : cells ≤ mc) (hs : slots ≤ ms) (hp : post (some (va_rf r)) w) : h_G p l e R s m args below meth c G A nL (h_Q G A post px w0 below args s mc ms) w cells slots pc lv [va_rf r] :=
  fun H locs ls hP hA hS hl h1 => W.widen hc hs (vx_ret (W.aret C.1 C.2.1 hr (Or.inl ⟨cn, rfl⟩) (by cases r with | none => exact Or.inl rfl | some a => exact Or.inr ⟨a, rfl⟩) (fun t ht hw => ⟨⟨_, w, rfl, hp, by rw [ht]; exact hP, hA⟩, hS.F ht⟩) hS.2.2 hd C.2.2.2.2.2.2.2.1))
/-- a callee's start out of the caller's world -/
theorem h_callPre (C : h_C p l s m args meth c G A cc nL own) {H : Heap} {locs : List Loc} (hP : h_P G.1 w H) (hA : h_in_A A w) (hS : va_S A s.heap H locs) {U : State} (hU : U.heap = H) (hW : s.WarmedH U.vm) : h_Ok l G A w U :=
  ⟨by rw [hU]; exact hP, va_K.moved hW.alike C.2.2.2.2.2.1, hA, fun q hq => C.2.2.2.2.2.2.1 q (Nat.le_trans hS.1 (by rw [hU] at hq; exact hq)), C.2.2.2.2.2.2.2.2.go hW (fun a h1 h2 => by rw [hU]; exact hS.2.1 a h1 h2)⟩
theorem h_pay (hts : ∀ x ∈ hAll, x.before args s = true) {x : Cond} (hx : x ∈ hAll) (a' : Array Value) (U : State) (hW : s.WarmedH U.vm) : x.before a' U = true := word_at hW (good_of_word (List.mem_filter.mp hx).2) (hts x hx)
theorem h_cb {y : MethodName} {bytes : ByteArray} {maxL index n : Nat} {ret : Option FieldType} {rm : Room} (hts : ∀ x ∈ hAll, x.before args s = true) (h1 : Cond.methodLink own index y ∈ hAll) (h4 : Cond.initialized y.cls ∈ hAll) (h5 : Cond.code y bytes maxL ret ∈ hAll)
    (hd : y.cls ≠ "java/lang/invoke/MethodHandle" ∧ y.cls ≠ "java/lang/invoke/VarHandle" ∧ (parseMethodDescriptor y.desc).map (fun d => d.parameters.length) = some n) (hR : rm.frames + 1 ≤ R.frames ∧ 8 + (maxL + 11) + rm.locals ≤ R.locals) : CallB R s args own index y bytes maxL ret (Cond.code y bytes maxL ret :: hAll) rm rm.cells rm.slots n := by
  refine ⟨rfl, rfl, hR.1, hR.2, fun x hx a' U hW => ?_, List.mem_cons_self, hts _ h5, hts _ h4, ⟨hd.1, hd.2.1⟩, fun sig h => ?_, hts _ h1⟩
  · rcases List.mem_cons.mp hx with rfl | hx
    · exact h_pay hts h5 a' U hW
    · exact h_pay hts hx a' U hW
  · have h2 := hd.2.2
    rw [h] at h2
    exact (Option.some.inj h2).symm
theorem h_goOn {rest : List Value} {mc' ms' : Nat} {ls : Array Slot} {H : Heap} {locs : List Loc} {w' : hW} {av : Array Value} {pst : Option Value → hW → Prop} {pxx : String → Prop} (hr : vx_Run p l e R s m args below meth c H locs cells slots mc' ms' (F0 m pc ls st) rest (h_Qc G A pst av) (h_XC G A w' pxx) A) (hS : va_S A s.heap H locs) (hl : lv_has ls nL lv) (h1 : lv1 lv)
    (kx : ∀ (E : String) (q : Addr) (ce : Cell) (H1 : Heap) (locs1 : List Loc), pxx E → h_P G.1 w' H1 → va_S A s.heap H1 locs1 → H1[q]? = some ce → ce.vm = .none → s.vm.findClass E = some ce.cls → vx_W p l e R s m args below meth c H1 locs1 (cells + mc') (slots + ms') Q (F0 m pc ls rest) q)
    (k : ∀ (v : Option Value) (w1 : hW), pst v w1 → h_G p l e R s m args below meth c G A nL Q w1 (cells + mc') (slots + ms') (pc + 3) lv (v.toList ++ rest)) : W p l e R s m args below meth c H locs cells slots Q (F0 m pc ls st) := by
  intro T hT X
  rcases hr T hT X with ⟨v, st₀, t, T', L, h0, X', hL, e1, e2, ⟨⟨v', w1, hv, hp, hP', hA'⟩, hF⟩, go⟩ | ⟨q, st₀, t, T', L, E, ce, h0, X', hL, e1, e2, ⟨hp, hP', hF⟩, hce, hcv, hcl, go⟩
  · cases hv
    obtain ⟨k1, k2, k3⟩ := vx_keep h0 e1 hS (fun q _ h => h) (fun q h => h) hL hF
    obtain ⟨t2, a1, b1⟩ := k v w1 hp T'.heap (locs ++ L) ls (by rw [e1]; exact hP') hA' k3 hl h1 T' rfl X'
    exact ⟨t2, go t2 a1, b1⟩
  · obtain ⟨k1, k2, k3⟩ := vx_keep h0 e1 hS (fun q _ h => h) (fun q h => h) hL hF
    obtain ⟨t2, a1, b1⟩ := kx E q ce T'.heap (locs ++ L) hp (by rw [e1]; exact hP') k3 (by rw [e1]; exact hce) hcv hcl T' rfl X'
    exact ⟨t2, go.trans a1, b1⟩
/-- a virtual call of a method that returns or throws -/
theorem g_callVg (C : h_C p l s m args meth c G A cc nL own) {y : MethodName} {bytes : ByteArray} {maxL index ci a : Nat} {ret : Option FieldType} {rm : Room} {As rest fs : List Value} {T : u_T} {N : Nat} {pst : Option Value → hW → Prop} {pxx : String → Prop}
    (hd : decode cc pc = .ok (.invokevirtual index, 3)) (hM : h_Met l y (Cond.code y bytes maxL ret) rm G (.ref a :: As) w pst pxx) (h1 : Cond.methodLink own index y ∈ hAll) (h2 : Cond.instanceMethod y ∈ hAll) (h3 : Cond.selects y.cls y y ∈ hAll) (h4 : Cond.initialized y.cls ∈ hAll) (h5 : Cond.code y bytes maxL ret ∈ hAll)
    (hy : y.cls ≠ "java/lang/invoke/MethodHandle" ∧ y.cls ≠ "java/lang/invoke/VarHandle" ∧ (parseMethodDescriptor y.desc).map (fun d => d.parameters.length) = some As.length) (hR : rm.frames + 1 ≤ R.frames ∧ 8 + (maxL + 11) + rm.locals ≤ R.locals) (hcell : w a = some (eO ci fs)) (hci : vwCl[ci]? = some (y.cls, T, N)) (hst : st = As.reverse ++ .ref a :: rest) (hrs : (rest.map fun v => v.category).sum ≤ 8) (hf : cells + rm.cells ≤ R.cells ∧ slots + rm.slots ≤ R.slots)
    (kx : ∀ (E : String) (q : Addr) (ce : Cell) (H1 : Heap) (locs1 : List Loc) (ls : Array Slot), pxx E → h_P G.1 w H1 → h_in_A A w → va_S A s.heap H1 locs1 → lv_has ls nL lv → lv1 lv → H1[q]? = some ce → ce.vm = .none → s.vm.findClass E = some ce.cls → vx_W p l e R s m args below meth c H1 locs1 (cells + rm.cells) (slots + rm.slots) Q (F0 m pc ls rest) q)
    (k : ∀ (v : Option Value) (w1 : hW), pst v w1 → h_G p l e R s m args below meth c G A nL Q w1 (cells + rm.cells) (slots + rm.slots) (pc + 3) lv (v.toList ++ rest)) : h_G p l e R s m args below meth c G A nL Q w cells slots pc lv st := by
  intro H locs ls hP hA hS hl hl1
  have hts := C.2.2.2.2.1
  have hrc : ∃ cell : Cell, H[a]? = some cell ∧ cell.vm.isStatics = false ∧ s.vm.findClass y.cls = some cell.cls := va_recv C.2.2.2.2.2.1 (hP.one hcell) hci (q0 := 0) rfl
  exact h_goOn (vx_runV (b := a) (As := As) (rest := rest) (g := F0 m pc ls st) ⟨C.1, C.2.1, C.2.2.1, C.2.2.2.1, hts⟩ (hM A) ⟨h_cb hts h1 h4 h5 hy hR, hts _ h2, hts _ h3⟩ ⟨h_pre_blind, hrc, fun U hU hW => ⟨rfl, h_callPre C hP hA hS hU hW⟩⟩ rfl rfl hl.1 hst (lv_room hrs) hd hf) hS hl hl1
    (fun E q ce H1 locs1 hp hP1 hS1 hc1 hc2 hc3 => kx E q ce H1 locs1 ls hp hP1 hA hS1 hl hl1 hc1 hc2 hc3) k
theorem g_callSg (C : h_C p l s m args meth c G A cc nL own) {y : MethodName} {bytes : ByteArray} {maxL index : Nat} {ret : Option FieldType} {rm : Room} {As rest : List Value} {pst : Option Value → hW → Prop} {pxx : String → Prop}
    (hd : decode cc pc = .ok (.invokestatic index, 3)) (hM : h_Met l y (Cond.code y bytes maxL ret) rm G As w pst pxx) (h1 : Cond.methodLink own index y ∈ hAll) (h2 : Cond.static y ∈ hAll) (h4 : Cond.initialized y.cls ∈ hAll) (h5 : Cond.code y bytes maxL ret ∈ hAll)
    (hy : y.cls ≠ "java/lang/invoke/MethodHandle" ∧ y.cls ≠ "java/lang/invoke/VarHandle" ∧ (parseMethodDescriptor y.desc).map (fun d => d.parameters.length) = some As.length) (hR : rm.frames + 1 ≤ R.frames ∧ 8 + (maxL + 11) + rm.locals ≤ R.locals) (hst : st = As.reverse ++ rest) (hrs : (rest.map fun v => v.category).sum ≤ 8) (hf : cells + rm.cells ≤ R.cells ∧ slots + rm.slots ≤ R.slots)
    (kx : ∀ (E : String) (q : Addr) (ce : Cell) (H1 : Heap) (locs1 : List Loc) (ls : Array Slot), pxx E → h_P G.1 w H1 → h_in_A A w → va_S A s.heap H1 locs1 → lv_has ls nL lv → lv1 lv → H1[q]? = some ce → ce.vm = .none → s.vm.findClass E = some ce.cls → vx_W p l e R s m args below meth c H1 locs1 (cells + rm.cells) (slots + rm.slots) Q (F0 m pc ls rest) q)
    (k : ∀ (v : Option Value) (w1 : hW), pst v w1 → h_G p l e R s m args below meth c G A nL Q w1 (cells + rm.cells) (slots + rm.slots) (pc + 3) lv (v.toList ++ rest)) : h_G p l e R s m args below meth c G A nL Q w cells slots pc lv st := by
  intro H locs ls hP hA hS hl hl1
  have hts := C.2.2.2.2.1
  exact h_goOn (vx_runS (As := As) (rest := rest) (g := F0 m pc ls st) ⟨C.1, C.2.1, C.2.2.1, C.2.2.2.1, hts⟩ (hM A) ⟨h_cb hts h1 h4 h5 hy hR, hts _ h2⟩ ⟨h_pre_blind, fun U hU hW => ⟨rfl, h_callPre C hP hA hS hU hW⟩⟩ rfl rfl hl.1 hst (lv_room hrs) hd hf) hS hl hl1
    (fun E q ce H1 locs1 hp hP1 hS1 hc1 hc2 hc3 => kx E q ce H1 locs1 ls hp hP1 hA hS1 hl hl1 hc1 hc2 hc3) k
/-- thrown by a callee, not caught here -/
theorem h_pass (C : h_C p l s m args meth c G A cc nL own) (hnt : ∀ x ∈ c.exceptionTable.toList, False) {ls : Array Slot} {rest : List Value} {E : String} {q : Addr} {ce : Cell} {H1 : Heap} {locs1 : List Loc} (hx : px E) (hP : h_P G.1 w0 H1) (hS : va_S A s.heap H1 locs1) (hc1 : H1[q]? = some ce) (hc2 : ce.vm = .none) (hc3 : s.vm.findClass E = some ce.cls) (hc : cells ≤ mc) (hs : slots ≤ ms) :
    vx_W p l e R s m args below meth c H1 locs1 cells slots (h_Q G A post px w0 below args s mc ms) (F0 m pc ls rest) q :=
  vx_out (fun x hx => (hnt x hx).elim) C.2.2.2.2.2.2.2.1 hc1 hc2 hc3 (fun t ht ha => ⟨hx, by rw [ht]; exact hP, hS.F ht⟩) hS.2.2 hc hs
/-- calls in a method without a table: what a callee throws goes on to the caller -/
theorem g_callV (C : h_C p l s m args meth c G A cc nL own) (hnt : ∀ x ∈ c.exceptionTable.toList, False) {y : MethodName} {bytes : ByteArray} {maxL index ci a : Nat} {ret : Option FieldType} {rm : Room} {As : List Value} (rest : List Value) {fs : List Value} {T : u_T} {N : Nat} {pst : Option Value → hW → Prop} {pxx : String → Prop}
    (hd : decode cc pc = .ok (.invokevirtual index, 3)) (hM : h_Met l y (Cond.code y bytes maxL ret) rm G (.ref a :: As) w pst pxx) (h1 : Cond.methodLink own index y ∈ hAll) (h2 : Cond.instanceMethod y ∈ hAll) (h3 : Cond.selects y.cls y y ∈ hAll) (h4 : Cond.initialized y.cls ∈ hAll) (h5 : Cond.code y bytes maxL ret ∈ hAll)
    (hy : y.cls ≠ "java/lang/invoke/MethodHandle" ∧ y.cls ≠ "java/lang/invoke/VarHandle" ∧ (parseMethodDescriptor y.desc).map (fun d => d.parameters.length) = some As.length) (hR : rm.frames + 1 ≤ R.frames ∧ 8 + (maxL + 11) + rm.locals ≤ R.locals) (hcell : w a = some (eO ci fs)) (hci : vwCl[ci]? = some (y.cls, T, N)) (hst : st = As.reverse ++ .ref a :: rest) (hrs : (rest.map fun v => v.category).sum ≤ 8) (hf : cells + rm.cells ≤ R.cells ∧ slots + rm.slots ≤ R.slots) (hm : cells + rm.cells ≤ mc ∧ slots + rm.slots ≤ ms)
    (hx : ∀ E, pxx E → px E ∧ w = w0)
    (k : ∀ (v : Option Value) (w1 : hW), pst v w1 → h_G p l e R s m args below meth c G A nL (h_Q G A post px w0 below args s mc ms) w1 (cells + rm.cells) (slots + rm.slots) (pc + 3) lv (v.toList ++ rest)) : h_G p l e R s m args below meth c G A nL (h_Q G A post px w0 below args s mc ms) w cells slots pc lv st :=
  g_callVg C hd hM h1 h2 h3 h4 h5 hy hR hcell hci hst hrs hf (fun E q ce H1 locs1 ls hp hP1 _ hS1 _ _ hc1 hc2 hc3 => h_pass C hnt (hx E hp).1 (by rw [← (hx E hp).2]; exact hP1) hS1 hc1 hc2 hc3 hm.1 hm.2) k
theorem g_callS (C : h_C p l s m args meth c G A cc nL own) (hnt : ∀ x ∈ c.exceptionTable.toList, False) {y : MethodName} {bytes : ByteArray} {maxL index : Nat} {ret : Option FieldType} {rm : Room} {As : List Value} (rest : List Value) {pst : Option Value → hW → Prop} {pxx : String → Prop}
    (hd : decode cc pc = .ok (.invokestatic index, 3)) (hM : h_Met l y (Cond.code y bytes maxL ret) rm G As w pst pxx) (h1 : Cond.methodLink own index y ∈ hAll) (h2 : Cond.static y ∈ hAll) (h4 : Cond.initialized y.cls ∈ hAll) (h5 : Cond.code y bytes maxL ret ∈ hAll)
    (hy : y.cls ≠ "java/lang/invoke/MethodHandle" ∧ y.cls ≠ "java/lang/invoke/VarHandle" ∧ (parseMethodDescriptor y.desc).map (fun d => d.parameters.length) = some As.length) (hR : rm.frames + 1 ≤ R.frames ∧ 8 + (maxL + 11) + rm.locals ≤ R.locals) (hst : st = As.reverse ++ rest) (hrs : (rest.map fun v => v.category).sum ≤ 8) (hf : cells + rm.cells ≤ R.cells ∧ slots + rm.slots ≤ R.slots) (hm : cells + rm.cells ≤ mc ∧ slots + rm.slots ≤ ms)
    (hx : ∀ E, pxx E → px E ∧ w = w0)
    (k : ∀ (v : Option Value) (w1 : hW), pst v w1 → h_G p l e R s m args below meth c G A nL (h_Q G A post px w0 below args s mc ms) w1 (cells + rm.cells) (slots + rm.slots) (pc + 3) lv (v.toList ++ rest)) : h_G p l e R s m args below meth c G A nL (h_Q G A post px w0 below args s mc ms) w cells slots pc lv st :=
  g_callSg C hd hM h1 h2 h4 h5 hy hR hst hrs hf (fun E q ce H1 locs1 ls hp hP1 _ hS1 _ _ hc1 hc2 hc3 => h_pass C hnt (hx E hp).1 (by rw [← (hx E hp).2]; exact hP1) hS1 hc1 hc2 hc3 hm.1 hm.2) k
/-- calls of methods that never throw, in any method -/
theorem g_callVn (C : h_C p l s m args meth c G A cc nL own) {y : MethodName} {bytes : ByteArray} {maxL index ci a : Nat} {ret : Option FieldType} {rm : Room} {As : List Value} (rest : List Value) {fs : List Value} {T : u_T} {N : Nat} {pst : Option Value → hW → Prop}
    (hd : decode cc pc = .ok (.invokevirtual index, 3)) (hM : h_Met l y (Cond.code y bytes maxL ret) rm G (.ref a :: As) w pst noX) (h1 : Cond.methodLink own index y ∈ hAll) (h2 : Cond.instanceMethod y ∈ hAll) (h3 : Cond.selects y.cls y y ∈ hAll) (h4 : Cond.initialized y.cls ∈ hAll) (h5 : Cond.code y bytes maxL ret ∈ hAll)
    (hy : y.cls ≠ "java/lang/invoke/MethodHandle" ∧ y.cls ≠ "java/lang/invoke/VarHandle" ∧ (parseMethodDescriptor y.desc).map (fun d => d.parameters.length) = some As.length) (hR : rm.frames + 1 ≤ R.frames ∧ 8 + (maxL + 11) + rm.locals ≤ R.locals) (hcell : w a = some (eO ci fs)) (hci : vwCl[ci]? = some (y.cls, T, N)) (hst : st = As.reverse ++ .ref a :: rest) (hrs : (rest.map fun v => v.category).sum ≤ 8) (hf : cells + rm.cells ≤ R.cells ∧ slots + rm.slots ≤ R.slots)
    (k : ∀ (v : Option Value) (w1 : hW), pst v w1 → h_G p l e R s m args below meth c G A nL Q w1 (cells + rm.cells) (slots + rm.slots) (pc + 3) lv (v.toList ++ rest)) : h_G p l e R s m args below meth c G A nL Q w cells slots pc lv st :=
  g_callVg C hd hM h1 h2 h3 h4 h5 hy hR hcell hci hst hrs hf (fun E q ce H1 locs1 ls hp _ _ _ _ _ _ _ _ => hp.elim) k
theorem g_callSn (C : h_C p l s m args meth c G A cc nL own) {y : MethodName} {bytes : ByteArray} {maxL index : Nat} {ret : Option FieldType} {rm : Room} {As : List Value} (rest : List Value) {pst : Option Value → hW → Prop}
    (hd : decode cc pc = .ok (.invokestatic index, 3)) (hM : h_Met l y (Cond.code y bytes maxL ret) rm G As w pst noX) (h1 : Cond.methodLink own index y ∈ hAll) (h2 : Cond.static y ∈ hAll) (h4 : Cond.initialized y.cls ∈ hAll) (h5 : Cond.code y bytes maxL ret ∈ hAll)
    (hy : y.cls ≠ "java/lang/invoke/MethodHandle" ∧ y.cls ≠ "java/lang/invoke/VarHandle" ∧ (parseMethodDescriptor y.desc).map (fun d => d.parameters.length) = some As.length) (hR : rm.frames + 1 ≤ R.frames ∧ 8 + (maxL + 11) + rm.locals ≤ R.locals) (hst : st = As.reverse ++ rest) (hrs : (rest.map fun v => v.category).sum ≤ 8) (hf : cells + rm.cells ≤ R.cells ∧ slots + rm.slots ≤ R.slots)
    (k : ∀ (v : Option Value) (w1 : hW), pst v w1 → h_G p l e R s m args below meth c G A nL Q w1 (cells + rm.cells) (slots + rm.slots) (pc + 3) lv (v.toList ++ rest)) : h_G p l e R s m args below meth c G A nL Q w cells slots pc lv st :=
  g_callSg C hd hM h1 h2 h4 h5 hy hR hst hrs hf (fun E q ce H1 locs1 ls hp _ _ _ _ _ _ _ _ => hp.elim) k
/-- a contract without throws, as the kit has it -/
theorem h_met_n {y : MethodName} {cd : Cond} {rm : Room} {av : List Value} {pst : Option Value → hW → Prop} (hM : h_Met l y cd rm G av w pst noX) (A : Nat → Prop) : Met l y (cd :: hAll) rm (va_Pc av (h_Ok l G A w)) (h_Qc G A pst) rm.cells rm.slots A :=
  (hM A).mono (fun _ _ h => h) (fun _ _ _ _ _ h => h) (fun a st o t _ h => by
    rcases h with h | ⟨q, -, E, ce, L, ⟨hx, -⟩, -⟩
    · exact h
    · exact hx.elim)
/-- a constructor -/
theorem g_callI (C : h_C p l s m args meth c G A cc nL own) {y : MethodName} {bytes : ByteArray} {maxL index a : Nat} {rm : Room} {As : List Value} (rest : List Value) {pst : Option Value → hW → Prop}
    (hd : decode cc pc = .ok (.invokespecial index, 3)) (hM : h_Met l y (Cond.code y bytes maxL none) rm G (.ref a :: As) w pst noX) (h1 : Cond.methodLink own index y ∈ hAll) (h2 : Cond.instanceMethod y ∈ hAll) (h4 : Cond.initialized y.cls ∈ hAll) (h5 : Cond.code y bytes maxL none ∈ hAll) (hnm : y.name = "<init>")
    (hy : y.cls ≠ "java/lang/invoke/MethodHandle" ∧ y.cls ≠ "java/lang/invoke/VarHandle" ∧ (parseMethodDescriptor y.desc).map (fun d => d.parameters.length) = some As.length) (hR : rm.frames + 1 ≤ R.frames ∧ 8 + (maxL + 11) + rm.locals ≤ R.locals) (hst : st = As.reverse ++ .ref a :: rest) (hrs : (rest.map fun v => v.category).sum ≤ 8) (hf : cells + rm.cells ≤ R.cells ∧ slots + rm.slots ≤ R.slots)
    (k : ∀ (v : Option Value) (w1 : hW), pst v w1 → h_G p l e R s m args below meth c G A nL Q w1 (cells + rm.cells) (slots + rm.slots) (pc + 3) lv (v.toList ++ rest)) : h_G p l e R s m args below meth c G A nL Q w cells slots pc lv st := by
  intro H locs ls hP hA hS hl hl1
  have hts := C.2.2.2.2.1
  have hr := va_runI (p := p) (e := e) (below := below) (meth := meth) (R := R) (H := H) (locs := locs) (cells := cells) (slots := slots) (b := a) (As := As) (rest := rest) (g := F0 m pc ls st) ⟨C.1, C.2.1, C.2.2.1, C.2.2.2.1, hts⟩ (h_met_n hM A) ⟨h_cb hts h1 h4 h5 hy hR, hnm, hts _ h2⟩ ⟨h_pre_blind, fun U hU hW => ⟨rfl, h_callPre C hP hA hS hU hW⟩⟩ rfl rfl hl.1 hst (lv_room hrs) hd hf
  intro T hT X
  obtain ⟨v, st₀, t, T', L, h0, X', hL, e1, e2, ⟨⟨v', w1, hv, hp, hP', hA'⟩, hF⟩, go⟩ := hr T hT X
  cases hv
  obtain ⟨k1, k2, k3⟩ := vx_keep h0 e1 hS (fun q _ h => h) (fun q h => h) hL hF
  obtain ⟨t2, a1, b1⟩ := k v w1 hp T'.heap (locs ++ L) ls (by rw [e1]; exact hP') hA' k3 hl hl1 T' rfl X'
  exact ⟨t2, go t2 a1, b1⟩
/-- a static call of a method with a table that lets nothing out -/
theorem g_callSW (C : h_C p l s m args meth c G A cc nL own) {y : MethodName} {bytes : ByteArray} {maxL index : Nat} {ret : Option FieldType} {hh : List (Nat × Nat × Nat × Nat)} {rm : Room} {As : List Value} (rest : List Value) {pst : Option Value → hW → Prop}
    (hd : decode cc pc = .ok (.invokestatic index, 3)) (hM : h_Met l y (Cond.codeWith y bytes maxL ret hh) rm G As w pst noX) (h1 : Cond.methodLink own index y ∈ hAll) (h2 : Cond.static y ∈ hAll) (h4 : Cond.initialized y.cls ∈ hAll) (h5 : Cond.codeWith y bytes maxL ret hh ∈ hAll)
    (hy : y.cls ≠ "java/lang/invoke/MethodHandle" ∧ y.cls ≠ "java/lang/invoke/VarHandle" ∧ (parseMethodDescriptor y.desc).map (fun d => d.parameters.length) = some As.length) (hR : rm.frames + 1 ≤ R.frames ∧ 8 + (maxL + 11) + rm.locals ≤ R.locals) (hst : st = As.reverse ++ rest) (hrs : (rest.map fun v => v.category).sum ≤ 8) (hf : cells + rm.cells ≤ R.cells ∧ slots + rm.slots ≤ R.slots)
    (k : ∀ (v : Option Value) (w1 : hW), pst v w1 → h_G p l e R s m args below meth c G A nL Q w1 (cells + rm.cells) (slots + rm.slots) (pc + 3) lv (v.toList ++ rest)) : h_G p l e R s m args below meth c G A nL Q w cells slots pc lv st := by
  intro H locs ls hP hA hS hl hl1
  have hts := C.2.2.2.2.1
  have hG : GoodIn hAll (va_wsS own index y (Cond.codeWith y bytes maxL ret hh :: hAll)) := by
    intro x hx
    have hm : x ∈ hAll := by
      unfold va_wsS at hx
      rcases List.mem_append.mp hx with h | h
      · simp only [List.mem_cons, List.mem_nil_iff, or_false] at h
        rcases h with rfl | rfl | rfl
        · exact h1
        · exact h2
        · exact h4
      · rcases List.mem_cons.mp h with rfl | h
        · exact h5
        · exact h
    exact ⟨hm, good_of_word (List.mem_filter.mp hm).2⟩
  have hr := vx_runSW (p := p) (e := e) (below := below) (meth := meth) (R := R) (H := H) (locs := locs) (cells := cells) (slots := slots) (As := As) (rest := rest) (g := F0 m pc ls st) ⟨C.1, C.2.1, C.2.2.1, C.2.2.2.1, hts⟩ (h_met_n hM A) (vx_cwSW As.length hts hG rfl rfl rfl hy hR) ⟨h_pre_blind, fun U hU hW => ⟨rfl, h_callPre C hP hA hS hU hW⟩⟩ rfl rfl hl.1 hst (lv_room hrs) hd hf
  intro T hT X
  obtain ⟨v, st₀, t, T', L, h0, X', hL, e1, e2, ⟨⟨v', w1, hv, hp, hP', hA'⟩, hF⟩, go⟩ := hr T hT X
  cases hv
  obtain ⟨k1, k2, k3⟩ := vx_keep h0 e1 hS (fun q _ h => h) (fun q h => h) hL hF
  obtain ⟨t2, a1, b1⟩ := k v w1 hp T'.heap (locs ++ L) ls (by rw [e1]; exact hP') hA' k3 hl hl1 T' rfl X'
  exact ⟨t2, go t2 a1, b1⟩
abbrev hNames : List String := ["java/lang/RuntimeException", "java/lang/Exception"]
/-- throw new E("text"), not caught here -/
theorem g_throw (C : h_C p l s m args meth c G A cc nL own) (hnt : ∀ x ∈ c.exceptionTable.toList, False) (ho : own = RX2) {cls text : String} {ik is ic : Nat} (d0 : decode cc pc = .ok (.new ik, 3)) (d3 : decode cc (pc + 3) = .ok (.dup, 1)) (d4 : decode cc (pc + 4) = .ok (.ldc is, 2)) (d6 : decode cc (pc + 6) = .ok (.invokespecial ic, 3)) (d9 : decode cc (pc + 9) = .ok (.athrow, 1))
    (hcls : Bundle.fit cls = true) (hk : Cond.classLink RX2 ik cls ∈ hAll) (hini : Cond.initialized cls ∈ hAll) (hstr : (is, text) ∈ hStr) (hat1 : ∀ x ∈ (vx_atS RX2 ic cls hNames).filter goodWord, x ∈ hAll) (hat2 : ∀ x ∈ (vx_atS RX2 ic cls hNames).filter (fun x => !goodWord x), x ∈ hDcl.map Cond.declares ++ hExc.map (fun x => Cond.castable x x)) (hgood : ∀ x ∈ Cond.classLink RX2 ik cls :: Cond.initialized cls :: vx_atS RX2 ic cls hNames, vx_ot x = true)
    (hfr : 5 < R.frames) (hlo : (st.map fun v => v.category).sum + 82 ≤ R.locals) (hcl : cells + 1 ≤ R.cells) (hsl : slots + 6 ≤ R.slots) (hc : cells + 1 ≤ mc) (hs : slots + 6 ≤ ms) (hx : px cls) (hw : w = w0) : h_G p l e R s m args below meth c G A nL (h_Q G A post px w0 below args s mc ms) w cells slots pc lv st := by
  intro H locs ls hP hA hS hl hl1
  subst ho
  subst hw
  have hts := C.2.2.2.2.1
  obtain ⟨t1, t2, t3, t4, t5, t6, t7, t8⟩ := C.2.2.2.2.2.2.2.2
  obtain ⟨sa, hsa⟩ := t4 _ hstr
  have hat : ∀ x ∈ vx_atS RX2 ic cls hNames, x.before args s = true := vx_hat (fun x hx => hts x (hat1 x hx)) hat2 (fun x hx => by
    rcases List.mem_append.mp hx with h | h
    · obtain ⟨y, hy, rfl⟩ := List.mem_map.mp h
      exact va_Nw.use rfl (t5 y hy)
    · obtain ⟨y, hy, rfl⟩ := List.mem_map.mp h
      exact va_Nw.use rfl (t6 y hy))
  exact vx_throwS (names := hNames) C.1 C.2.1 t1 C.2.2.2.1 hcls (by decide +kernel) (hts _ hk) (hts _ hini) hsa hat hgood t2 t3 hS (hl.1.trans C.2.2.1.symm) d0 d3 d4 d6 d9 (fun x hx => (hnt x hx).elim) hfr hlo hcl hsl C.2.2.2.2.2.2.2.1
    (fun t ha hz hq => ⟨hx, hP.kept (fun a e he => hq a (hP.lt he)), Nat.le_trans hS.1 hz, fun q h1 h2 => (hq q (Nat.lt_of_lt_of_le h1 hS.1)).trans (hS.2.1 q h1 h2)⟩) hS.2.2 hc hs
end HR
end
section
/-! ===== throw new NoSuchElementException(text): its own constructor links its superclass's at entry 13 (the kit's chain of constructors has entry 7 in every link), so the kit's row for 'throw new E(text)' can't be had for it; this row follows the library's (BundleOwnThrow: ctorThrowS) and the kit's (vx_throwS) with that first link put in by hand ===== -/
abbrev nRE : String := "java/lang/RuntimeException"
abbrev nsB : ByteArray := prog_12_method_4_code
theorem ns_0 : decode nsB 0 = .ok (.aload_n 0, 1) := by decide +kernel
theorem ns_1 : decode nsB 1 = .ok (.aload_n 1, 1) := by decide +kernel
theorem ns_2 : decode nsB 2 = .ok (.invokespecial 13, 3) := by decide +kernel
theorem ns_5 : decode nsB 5 = .ok (.return_, 1) := by decide +kernel
def nsChain : List Cond := Bundle.passSAtoms nNS nRE 13 nsB ++ Bundle.chainSAtoms nRE ["java/lang/Exception"]
def nsLast : List Cond := [.methodLink RX2 167 (Bundle.initS nNS), .instantiable nNS 6, .castable nNS nNS, .selects nNS Bundle.tFill0 Bundle.tFill0, .selects nNS Bundle.tFill Bundle.tFill,
   .lays nNS Bundle.tN "cause" "Ljava/lang/Throwable;", .lays nNS Bundle.tN "stackTrace" Bundle.steD, .lays nNS Bundle.tN "suppressedExceptions" Bundle.listD, .lays nNS Bundle.tN "detailMessage" "Ljava/lang/String;",
   .isRef (.static Bundle.tN "UNASSIGNED_STACK" Bundle.steD), .isRef (.static Bundle.tN "SUPPRESSED_SENTINEL" Bundle.listD),
   .fieldLink Bundle.tN 198 Bundle.tN "backtrace" "Ljava/lang/Object;", .lays Bundle.tN Bundle.tN "backtrace" "Ljava/lang/Object;", .lays nNS Bundle.tN "backtrace" "Ljava/lang/Object;"]
def nsAtoms : List Cond := Bundle.throwableAtoms ++ (Bundle.throwableSAtoms ++ (nsChain ++ nsLast))
section NSA
variable {p : Program} {l : Launch} {e : Env} {R : Room} {s : State} {m₀ : MethodId} {args : Array Value} {below : List Frame} {meth : Method} {c : Code} {W9 : State} {locs : List Loc} {cells slots : Nat}
set_option maxHeartbeats 4000000 in
theorem ns_ctor (X : Stand p l e R s m₀ args below meth c W9 locs cells slots) (hexec : p.tables.exec = Jvm.exec) (htr : e.platform.stackTraces = false)
    (hown : s.vm.findClass RX2 = some m₀.cls) (h : ∀ a ∈ nsAtoms, a.before args s = true)
    (hlocs : ∀ x ∈ locs, ∀ cell, s.heap[x.base]? = some cell → cell.vm.isStatics = false)
    {a : Addr} {cX : ClassId} {kX : Class} (hfoundX : s.vm.findClass nNS = some cX) (hkX : s.vm.classes[cX]? = some kX) (hcell : W9.heap[a]? = some (freshCell cX kX)) (hnew : s.heap.size ≤ a)
    {msg : Value} (hmsg : msg.isRef = true)
    {g : JFrame} (hg : g.method = m₀) (hsize : g.locals.size = c.maxLocals) (hlocked : g.locked = none) (hentered : g.entered = []) {rest : List Value} (hstack : g.stack = msg :: .ref a :: .ref a :: rest)
    (hd6 : decode c.code g.pc = .ok (.invokespecial 167, 3)) (hd9 : decode c.code (g.pc + 3) = .ok (.athrow, 1)) (hout : ∀ x ∈ c.exceptionTable.toList, covers x (g.pc + 3) = false)
    (hRframes : 5 < R.frames) (hRlocals : 2 * g.monitorRoom + ((Value.ref a :: rest).map fun v => v.category).sum + 81 ≤ R.locals) (hlocks : meth.locks = false) :
    ∃ U : State, Steps p.tables e below (W9.setTop g) U ∧ U.status = .running ∧ Ended U below (.threw a) ∧ s.WarmedH U.vm ∧ s.sameButNew ({ U with vm := s.vm } : State) locs cells slots ∧
      ∃ ce, U.heap[a]? = some ce ∧ ce.vm = .none ∧ s.vm.findClass nNS = some ce.cls := by
  have howns : e.platform.frameOwnsMonitors = true := by rw [X.admits.platform]
  have hfin : e.platform.finalization = false := by rw [X.admits.platform]
  have hpl : e.platform.magicAccessors = ({} : Platform).magicAccessors := by rw [X.admits.platform]
  have hA1 : ∀ x ∈ Bundle.throwableAtoms, x.before args s = true := fun x hx => h x (List.mem_append_left _ hx)
  have hA2 : ∀ x ∈ Bundle.throwableSAtoms, x.before args s = true := fun x hx => h x (List.mem_append_right _ (List.mem_append_left _ hx))
  have hA3 : ∀ x ∈ nsChain, x.before args s = true := fun x hx => h x (List.mem_append_right _ (List.mem_append_right _ (List.mem_append_left _ hx)))
  have hA4 : ∀ x ∈ nsLast, x.before args s = true := fun x hx => h x (List.mem_append_right _ (List.mem_append_right _ (List.mem_append_right _ hx)))
  have a' : ∀ x, x ∈ nsLast → x.holds args s none s [] = true := fun x hx => hA4 x hx
  obtain ⟨T, Z0, L, -, Y⟩ := ThrowableC.of_atoms (args := args) howns hfin hpl hA1
  obtain ⟨Z, M, LZ, LM, hnZ⟩ := Init0T.ofS_atoms (args := args) hpl L Y hA2
  obtain ⟨P1, L1, hP1m, hsu⟩ := PassC.ofS_atoms (args := args) (s := s) hpl (X := nNS) (Y := nRE) (index := 13) (bytes := nsB) (by decide) (by decide) ns_0 ns_1 ns_2 ns_5 (fun x hx => hA3 x (List.mem_append_left _ hx))
  obtain ⟨P2, Qs, hlen2, L2, hL2, hP2m, hlink2, hlinks⟩ := Bundle.chainS (args := args) hpl hnZ ["java/lang/Exception"] nRE (by decide +kernel) (by decide +kernel) (fun x hx => hA3 x (List.mem_append_right _ hx))
  have hlink1 : P1.sup = P2.m := Option.some.inj (hsu.symm.trans hP2m)
  have hfound : s.vm.findClass nNS = some P1.m.cls := findClass_of_methodNamed hP1m
  cases Option.some.inj (hfoundX.symm.trans hfound)
  obtain ⟨c1, kX', hc1, hk, hord, -, -, hn6⟩ := Cond.instantiable_spec (a' (.instantiable nNS 6) (by simp [nsLast]))
  cases Option.some.inj (hc1.symm.trans hfound)
  cases Option.some.inj (hkX.symm.trans hk)
  have hsel0 : selectMethod e.platform s.vm P1.m.cls T.fill0 = .method T.fill0 := by
    obtain ⟨c2, r2, m2, q1, q2, q3, q4, -⟩ := Cond.selects_spec (a' (.selects nNS Bundle.tFill0 Bundle.tFill0) (by simp [nsLast]))
    cases Option.some.inj (q1.symm.trans hfound)
    cases Option.some.inj (q2.symm.trans (State.methodFound?_of_named Y.fill0 (by decide)))
    cases Option.some.inj (q3.symm.trans Y.fill0)
    rw [Launch.admits_selectMethod X.admits]; exact q4
  have hselF : selectMethod e.platform s.vm P1.m.cls T.fill = .method T.fill := by
    obtain ⟨c2, r2, m2, q1, q2, q3, q4, -⟩ := Cond.selects_spec (a' (.selects nNS Bundle.tFill Bundle.tFill) (by simp [nsLast]))
    cases Option.some.inj (q1.symm.trans hfound)
    cases Option.some.inj (q2.symm.trans (State.methodFound?_of_named Y.fill (by decide)))
    cases Option.some.inj (q3.symm.trans Y.fill)
    rw [Launch.admits_selectMethod X.admits]; exact q4
  obtain ⟨cellS0, hcS0, hiss⟩ := Y.statics
  obtain ⟨u0, hu0⟩ := Cond.staticRefV Y.unassigned L.unassignedStatic L.statics hcS0 hiss (a' (.isRef (.static Bundle.tN "UNASSIGNED_STACK" Bundle.steD)) (by simp [nsLast]))
  obtain ⟨sen, hsen⟩ := Cond.staticRefV Y.sentinel L.sentinelStatic L.statics hcS0 hiss (a' (.isRef (.static Bundle.tN "SUPPRESSED_SENTINEL" Bundle.listD)) (by simp [nsLast]))
  obtain ⟨ci198, i198, fB, hk198, hg198, ha198, hsB, -, hnB, htB, hffB⟩ := Cond.ownField (t := .object "java/lang/Object") Y.found L.cls (by decide +kernel) (a' (.fieldLink Bundle.tN 198 Bundle.tN "backtrace" "Ljava/lang/Object;") (by simp [nsLast])) (a' (.lays Bundle.tN Bundle.tN "backtrace" "Ljava/lang/Object;") (by simp [nsLast])) e.platform hpl
  obtain ⟨cellS, hcS', heS, -, hkeep⟩ := X.same.2.2.2.2.2 T.aS cellS0 hcS0
  have hcellS : W9.heap[T.aS]? = some cellS := hcS'
  have hout' : ∀ i, (⟨T.aS, i⟩ : Loc) ∉ locs := fun i hmem => by
    have := hlocs _ hmem cellS0 hcS0
    rw [hiss] at this; cases this
  have hknownS : cellS.vm ≠ .unknown := by
    rw [heS]; intro hu
    rw [show cellS0.vm = .unknown from hu] at hiss
    cases hiss
  have hneS : T.aS ≠ a := Nat.ne_of_lt (Nat.lt_of_lt_of_le (Array.getElem?_eq_some_iff.mp hcS0).1 hnew)
  obtain ⟨iM, hffM⟩ := Y.msg
  obtain ⟨tyC, dC, hdC, hdnC⟩ := Cond.laysAt hfound hk Y.cause (a' (.lays nNS Bundle.tN "cause" "Ljava/lang/Throwable;") (by simp [nsLast]))
  obtain ⟨tyS, dS, hdS, hdnS⟩ := Cond.laysAt hfound hk Y.stack (a' (.lays nNS Bundle.tN "stackTrace" Bundle.steD) (by simp [nsLast]))
  obtain ⟨tyP, dP, hdP, hdnP⟩ := Cond.laysAt hfound hk Y.supp (a' (.lays nNS Bundle.tN "suppressedExceptions" Bundle.listD) (by simp [nsLast]))
  obtain ⟨tyM, dM, hdM, hdnM⟩ := Cond.laysAt hfound hk hffM (a' (.lays nNS Bundle.tN "detailMessage" "Ljava/lang/String;") (by simp [nsLast]))
  obtain ⟨tyB, dB, hdB, hdnB⟩ := Cond.laysAt hfound hk hffB (a' (.lays nNS Bundle.tN "backtrace" "Ljava/lang/Object;") (by simp [nsLast]))
  have bC := Cond.laysApart hdB hdC hdnB hdnC (by rw [hnB, Y.causeName]; decide)
  have bS := Cond.laysApart hdB hdS hdnB hdnS (by rw [hnB, Y.stackName]; decide)
  have bP := Cond.laysApart hdB hdP hdnB hdnP (by rw [hnB, Y.suppName]; decide)
  have hskip : SkipFacts T e.platform s (fun u => u) u0 ((preparedCellV T.toThrowableT (freshCell P1.m.cls kX) a u0 sen).withEntry W9.cur) :=
    ⟨{ ci198 := ci198, i198 := i198, fBack := fB }, ⟨hk198, hg198, ha198, hsB⟩, by
      have := fresh_default (c := P1.m.cls) tyB
      rw [htB] at this
      simpa [preparedCellV, Cell.setSlot, Cell.withEntry, Array.getElem?_setIfInBounds, bC, bS, bP, bC.symm, bS.symm, bP.symm, defaultValue] using this, fun _ _ => rfl⟩
  obtain ⟨tm, methC, cdC, kC, vm₁, hnC, -, -, -, -, -, -, -, hW₁, st1⟩ := Steps.initColdS (tb := p.tables) (e := e) (below := below) (s := s) (U := W9) X.here hexec X.warmed hpl hown (t := Bundle.initS nNS) rfl rfl (by decide)
    (a' (.methodLink RX2 167 (Bundle.initS nNS)) (by simp [nsLast])) (hA3 (.instanceMethod (Bundle.initS nNS)) (by simp [nsChain, Bundle.passSAtoms])) (bytes := nsB) (maxL := 2) (hA3 (.code (Bundle.initS nNS) nsB 2 none) (by simp [nsChain, Bundle.passSAtoms]))
    (f := g) hg (a := a) (msg := msg) (rest := .ref a :: rest) hstack hd6
  cases Option.some.inj (hnC.symm.trans hP1m)
  have X₁ := X.noted hW₁
  have hlen : Qs.length = 1 := hlen2
  obtain ⟨vm₂, X₂, st2⟩ := X₁.ctorMessageOffV hexec (g := { g with stack := .ref a :: rest }) hg hsize T L Z LZ M LM (P1 :: P2 :: Qs)
    (fun P hP => by
      rcases List.mem_cons.mp hP with rfl | hP
      · exact L1
      · rcases List.mem_cons.mp hP with rfl | hP
        · exact L2
        · exact hL2 P hP) ⟨hlink1, hlink2, hlinks⟩ (u0 := u0) (sen := sen) (self := a) hmsg (cell := freshCell P1.m.cls kX) (cellS := cellS)
    hcell (fun _ => by simp) (by simp) rfl rfl hsel0 hselF hcellS hneS hknownS (by rw [hkeep _ (hout' _)]; exact hu0) (by rw [hkeep _ (hout' _)]; exact hsen)
    (Takes.of_laid hk hord tyC (by rw [Y.causeType]; rfl)) (Takes.of_laid hk hord tyS (by rw [Y.stackType]; exact fits_refV_array _ u0)) (Takes.of_laid hk hord tyP (by rw [Y.suppType]; exact fits_refV_object _ sen))
    (Takes.of_laid hk hord tyM (by rw [Y.msgType]; exact fits_refV_object _ ⟨msg, hmsg⟩)) Y.objLocals hskip htr [] hd6
    (by simp only [List.length_cons, hlen]; omega) (by simp only [List.length_cons, hlen]; exact hRlocals)
  obtain ⟨hwalk, hrun, hended, hWU, hsame⟩ := X₂.athrowLeaves hexec (g := { g with stack := .ref a :: rest, pc := g.pc + 3 }) hg hlocked hentered hout (a := a) (rest := rest) rfl hd9 (hlocks := hlocks)
  have hlt : a < ((W9.setVm vm₁).setVm vm₂).heap.size := (Array.getElem?_eq_some_iff.mp hcell).1
  have hU := heapAt_setCell_self (s := (W9.setVm vm₁).setVm vm₂) (plainBareV T.toThrowableT (freshCell P1.m.cls kX) a u0 sen msg) hlt
  refine ⟨_, st1 _ (fun acts => ?_), hrun, hended, hWU, hsame.weaken (fun y hy hlt' => ?_) (Nat.le_refl _) (Nat.le_refl _), _, hU, rfl, hfound⟩
  · rw [doInvoke_state]
    exact st2 _ hwalk
  · rcases List.mem_append.mp hy with h1 | h1
    · exact h1
    · exfalso
      have hb : y.base = a := by
        simp only [List.mem_cons, List.not_mem_nil, or_false] at h1
        rcases h1 with rfl | rfl | rfl | rfl | rfl <;> rfl
      rw [hb] at hlt'
      exact Nat.not_lt.mpr hnew hlt'
end NSA
def nsW : List Cond := nsAtoms.filter vx_no
theorem ns_own {args : Array Value} {s : State} (h1 : ∀ w ∈ nsW, w.before args s = true)
    (hU : (Cond.isRef (.static Bundle.tN "UNASSIGNED_STACK" Bundle.steD)).before args s = true) (hN : (Cond.isRef (.static Bundle.tN "SUPPRESSED_SENTINEL" Bundle.listD)).before args s = true)
    (lU : (Cond.laysStatic Bundle.tN "UNASSIGNED_STACK" Bundle.steD).before args s = true) (lN : (Cond.laysStatic Bundle.tN "SUPPRESSED_SENTINEL" Bundle.listD).before args s = true) : ∀ w ∈ nsAtoms, w.before args s = true := vx_own h1 hU hN lU lN
theorem ns_good : ∀ x ∈ Cond.classLink RX2 163 nNS :: Cond.initialized nNS :: nsW, vx_ot x = true := by decide +kernel
theorem ns_in1 : ∀ x ∈ nsW.filter goodWord, x ∈ hAll := fun x hx => List.mem_filter.mpr ⟨(by revert x; decide +kernel : x ∈ lw_tbl), (List.mem_filter.mp hx).2⟩
theorem ns_in2 : ∀ x ∈ nsW.filter (fun x => !goodWord x), x ∈ hDcl.map Cond.declares ++ hExc.map (fun x => Cond.castable x x) := by decide +kernel
section NSB
variable {p : Program} {l : Launch} {e : Env} {R : Room} {s : State} {m : MethodId} {args : Array Value} {below : List Frame} {meth : Method} {c : Code}
variable {G : hD} {A : Nat → Prop} {nL : Nat} {w w0 : hW} {cells slots pc mc ms : Nat} {lv : List (Nat × Value)} {st : List Value} {cc : ByteArray} {own : String} {post : Option Value → hW → Prop} {px : String → Prop}
set_option maxHeartbeats 4000000 in
/-- throw new NoSuchElementException("text"), not caught here -/
theorem g_throwNS (C : h_C p l s m args meth c G A cc nL own) (hnt : ∀ x ∈ c.exceptionTable.toList, False) (ho : own = RX2) {text : String} {is : Nat} (d0 : decode cc pc = .ok (.new 163, 3)) (d3 : decode cc (pc + 3) = .ok (.dup, 1)) (d4 : decode cc (pc + 4) = .ok (.ldc is, 2)) (d6 : decode cc (pc + 6) = .ok (.invokespecial 167, 3)) (d9 : decode cc (pc + 9) = .ok (.athrow, 1)) (hstr : (is, text) ∈ hStr)
    (hfr : 5 < R.frames) (hlo : (st.map fun v => v.category).sum + 82 ≤ R.locals) (hcl : cells + 1 ≤ R.cells) (hsl : slots + 6 ≤ R.slots) (hc : cells + 1 ≤ mc) (hs : slots + 6 ≤ ms) (hx : px nNS) (hw : w = w0) : h_G p l e R s m args below meth c G A nL (h_Q G A post px w0 below args s mc ms) w cells slots pc lv st := by
  intro H locs ls hP hA hS hl0 hl1
  subst ho
  subst hw
  have hts := C.2.2.2.2.1
  have hexec := C.1
  have hb := C.2.1
  have hown := C.2.2.2.1
  have hlocks := C.2.2.2.2.2.2.2.1
  obtain ⟨t1, t2, t3, t4, t5, t6, t7, t8⟩ := C.2.2.2.2.2.2.2.2
  obtain ⟨sa, hsa⟩ := t4 _ hstr
  have hat : ∀ x ∈ nsW, x.before args s = true := vx_hat (fun x hx => hts x (ns_in1 x hx)) ns_in2 (fun x hx => by
    rcases List.mem_append.mp hx with h | h
    · obtain ⟨y, hy, rfl⟩ := List.mem_map.mp h
      exact va_Nw.use rfl (t5 y hy)
    · obtain ⟨y, hy, rfl⟩ := List.mem_map.mp h
      exact va_Nw.use rfl (t6 y hy))
  intro T hT X
  have htr : e.platform.stackTraces = false := (show e.platform.stackTraces = l.stackTraces by rw [X.admits.platform]).trans t1
  have Y := vx_rebase X (R' := { frames := R.frames, locals := R.locals, cells := 1, slots := 6 }) (Nat.le_refl _) (Nat.le_refl _) hcl hsl
  obtain ⟨s', hA'⟩ : ∃ z, z = (T.setVm s.vm).setFrames (.invoking m args :: below) := ⟨_, rfl⟩
  rw [← hA'] at Y
  have hvm : s'.vm = s.vm := by rw [hA']; rfl
  have hhp : s'.heap = H := by rw [hA']; exact hT
  have hW0 : s.WarmedH s'.vm := by rw [hvm]; exact State.WarmedH.refl s
  have hat' : ∀ x ∈ nsW, x.before args s' = true := fun x hx => vx_ot_at hW0 hvm.symm (ns_good x (List.mem_cons_of_mem _ (List.mem_cons_of_mem _ hx))) (hat x hx)
  have hk' : (Cond.classLink RX2 163 nNS).before args s' = true := vx_ot_at hW0 hvm.symm (ns_good _ List.mem_cons_self) (hts _ klX2_163)
  have hini' : (Cond.initialized nNS).before args s' = true := vx_ot_at hW0 hvm.symm (ns_good _ (List.mem_cons_of_mem _ List.mem_cons_self)) (hts _ kn_NoSuchElementException)
  have hU' : vx_Zq Bundle.tN "UNASSIGNED_STACK" Bundle.steD A s' s'.heap := by rw [hhp]; exact vx_Zq.moved hW0.alike (t2.kept hS.2.1)
  have hN' : vx_Zq Bundle.tN "SUPPRESSED_SENTINEL" Bundle.listD A s' s'.heap := by rw [hhp]; exact vx_Zq.moved hW0.alike (t3.kept hS.2.1)
  have h : ∀ x ∈ nsAtoms, x.before args s' = true := ns_own hat' (vx_isRefq hU'.1) (vx_isRefq hN'.1) hU'.2.word hN'.2.word
  have hown' : s'.vm.findClass RX2 = some m.cls := by rw [hvm]; exact hown
  have hins : (Cond.instantiable nNS 6).before args s' = true := h _ (List.mem_append_right _ (List.mem_append_right _ (List.mem_append_right _ (by simp [nsLast]))))
  obtain ⟨vm₁, cX, kX, hfX, hkX, -, -, X₁, st1⟩ := Y.newCold hexec (own := RX2) (C := nNS) (index := 163) (n := 6) hown' hk' hins hini'
    (g := F0 m pc ls st) rfl (by rw [hb]; exact d0) (Nat.le_refl _) (Nat.le_refl _)
  generalize hT1 : (T.setVm vm₁).pushCell { cls := cX, slots := kX.instanceTypes.map defaultValue, vm := .none } = T1 at X₁ st1
  have hcat : (Value.ref T.heap.size).category = 1 := rfl
  have hcellA : T1.heap[T.heap.size]? = some (freshCell cX kX) := by rw [← hT1]; exact State.heap_pushCell_size _ _
  have d3' : decode c.code (pc + 3) = .ok (.dup, 1) := by rw [hb]; exact d3
  have d4' : decode c.code (pc + 4) = .ok (.ldc is, 2) := by rw [hb]; exact d4
  have hstr' : vk_R RX2 is text sa s' := vk_R.warm hW0 hsa
  obtain ⟨U, hsteps, hrun, hend, hW, hsame, ce, hce, hcv, hO⟩ := ns_ctor X₁ hexec htr hown' h (fun x hx => nomatch hx) hfX hkX hcellA (by rw [hhp, hT]; exact Nat.le_refl _) (msg := .ref sa) rfl
    (g := { method := m, pc := pc + 6, locals := ls, stack := .ref sa :: .ref T.heap.size :: .ref T.heap.size :: st, locked := none }) rfl (hl0.1.trans C.2.2.1.symm) rfl rfl (rest := st) rfl
    (by rw [hb]; exact d6) (by rw [hb]; exact d9) (fun x hx => (hnt x hx).elim) hfr (by
      have hm : ({ method := m, pc := pc + 6, locals := ls, stack := .ref sa :: .ref T.heap.size :: .ref T.heap.size :: st, locked := none } : JFrame).monitorRoom = 0 := rfl
      rw [hm]
      simp only [List.map_cons, List.sum_cons, hcat]; omega) hlocks
  obtain ⟨f1, f2⟩ := vx_frame hsame
  rw [hhp] at f1 f2
  have hWs : s.WarmedH U.vm := State.WarmedH.trans hW0 hW
  have hcl9 : s.vm.findClass nNS = some ce.cls := by rw [hvm] at hO; exact hO
  have hall : s.sameButNew ({ U with vm := s.vm } : State) locs mc ms := by
    subst hA'
    obtain ⟨e1, e2⟩ := hsame
    rw [State.setFrames_setFrames] at e1
    have h2 : (T.setVm s.vm).sameButNew ({ U with vm := s.vm } : State) [] (0 + 1) (0 + 6) := ⟨e1, e2⟩
    have h3 := X.same.trans h2
    rw [List.append_nil] at h3
    exact h3.mono hc hs
  have hq : ∀ q : Nat, q < H.size → U.heap[q]? = H[q]? := fun q hq => f2 q hq (fun z hz => nomatch hz)
  have hXC : h_XC G A w px nNS s U := ⟨hx, hP.kept (fun a e he => hq a (hP.lt he)), Nat.le_trans hS.1 f1, fun q h1 h2 => (hq q (Nat.lt_of_lt_of_le h1 hS.1)).trans (hS.2.1 q h1 h2)⟩
  refine ⟨U, ?_, .threw T.heap.size, hrun, hend, Or.inr ⟨T.heap.size, rfl, nNS, ce, locs, hXC, hce, hcv, hcl9, hWs, hall, hS.2.2⟩⟩
  refine st1 _ ?_
  show Steps p.tables e below (T1.setTop { method := m, pc := pc + 3, locals := ls, stack := .ref T.heap.size :: st, locked := none }) _
  jvm_step X₁.here [X₁.here.top, hexec, d3', Value.category]
  exact X₁.ldcString hexec (own := RX2) (text := text) (index := is) (a := sa) hown' hstr'.1 hstr'.2
    (g := { method := m, pc := pc + 4, locals := ls, stack := .ref T.heap.size :: .ref T.heap.size :: st, locked := none }) rfl d4' _ hsteps
end NSB
end
section
/-! ===== loops; array rows whose place is a number ===== -/
section HL
variable {p : Program} {l : Launch} {e : Env} {R : Room} {s : State} {m : MethodId} {args : Array Value} {below : List Frame} {meth : Method} {c : Code} {Q : State → Prop}
variable {G : hD} {A : Nat → Prop} {nL : Nat} {w : hW} {cells slots pc : Nat} {lv : List (Nat × Value)} {st : List Value} {cc : ByteArray} {own : String}
/-- a loop by a measure: W and L are the world and the locals at its head -/
theorem g_loop {σ : Type} (I : σ → Prop) (μ : σ → Nat) (Wf : σ → hW) (Lf : σ → List (Nat × Value)) (step : ∀ x, I x → (∀ x', I x' → μ x' < μ x → h_G p l e R s m args below meth c G A nL Q (Wf x') cells slots pc (Lf x') st) → h_G p l e R s m args below meth c G A nL Q (Wf x) cells slots pc (Lf x) st) (x : σ) (hI : I x) : h_G p l e R s m args below meth c G A nL Q (Wf x) cells slots pc (Lf x) st := by
  have key : ∀ (n : Nat) (x : σ), μ x < n → I x → h_G p l e R s m args below meth c G A nL Q (Wf x) cells slots pc (Lf x) st := by
    intro n
    induction n with
    | zero => intro x h; omega
    | succ n ih => exact fun x h hI => step x hI (fun x' hI' hm => ih x' (by omega) hI')
  exact key _ x (Nat.lt_succ_self _) hI
theorem g_w {w1 : hW} (h : w1 = w) (k : h_G p l e R s m args below meth c G A nL Q w1 cells slots pc lv st) : h_G p l e R s m args below meth c G A nL Q w cells slots pc lv st := h ▸ k
theorem g_lv {lv1 : List (Nat × Value)} (h : lv1 = lv) (k : h_G p l e R s m args below meth c G A nL Q w cells slots pc lv1 st) : h_G p l e R s m args below meth c G A nL Q w cells slots pc lv st := h ▸ k
theorem g_ialdN (C : h_C p l s m args meth c G A cc nL own) {a n k0 : Nat} {f : Nat → Int32} (hd : decode cc pc = .ok (.iaload, 1)) (hw : w a = some (eI G n f)) (hk : k0 < n) (hn : n < 2 ^ 31) (k : h_G p l e R s m args below meth c G A nL Q w cells slots (pc + 1) lv (.int (f k0) :: st)) : h_G p l e R s m args below meth c G A nL Q w cells slots pc lv (.int (nI k0) :: .ref a :: st) := by
  refine g_iald C hd hw (vp_in_nI hk hn) ?_
  rw [nI_clamp (by omega)]
  exact k
theorem g_zaldN (C : h_C p l s m args meth c G A cc nL own) {a n k0 : Nat} {f : Nat → Int32} (hd : decode cc pc = .ok (.baload, 1)) (hw : w a = some (eZ G n f)) (hk : k0 < n) (hn : n < 2 ^ 31) (k : h_G p l e R s m args below meth c G A nL Q w cells slots (pc + 1) lv (.int (f k0) :: st)) : h_G p l e R s m args below meth c G A nL Q w cells slots pc lv (.int (nI k0) :: .ref a :: st) := by
  refine g_zald C hd hw (vp_in_nI hk hn) ?_
  rw [nI_clamp (by omega)]
  exact k
theorem g_laldN (C : h_C p l s m args meth c G A cc nL own) {a n k0 : Nat} {f : Nat → Int64} (hd : decode cc pc = .ok (.laload, 1)) (hw : w a = some (eJ G n f)) (hk : k0 < n) (hn : n < 2 ^ 31) (k : h_G p l e R s m args below meth c G A nL Q w cells slots (pc + 1) lv (.long (f k0) :: st)) : h_G p l e R s m args below meth c G A nL Q w cells slots pc lv (.int (nI k0) :: .ref a :: st) := by
  refine g_lald C hd hw (vp_in_nI hk hn) ?_
  rw [nI_clamp (by omega)]
  exact k
theorem g_aldqN (C : h_C p l s m args meth c G A cc nL own) {a n k0 : Nat} {f : Nat → Option Nat} (hd : decode cc pc = .ok (.aaload, 1)) (hw : w a = some (eT G n f)) (hk : k0 < n) (hn : n < 2 ^ 31) (k : h_G p l e R s m args below meth c G A nL Q w cells slots (pc + 1) lv (va_rf (f k0) :: st)) : h_G p l e R s m args below meth c G A nL Q w cells slots pc lv (.int (nI k0) :: .ref a :: st) := by
  refine g_aldq C hd hw (vp_in_nI hk hn) ?_
  rw [nI_clamp (by omega)]
  exact k
theorem g_iastN (C : h_C p l s m args meth c G A cc nL own) {a n k0 : Nat} {f : Nat → Int32} {x : Int32} (hd : decode cc pc = .ok (.iastore, 1)) (hw : w a = some (eI G n f)) (hk : k0 < n) (hn : n < 2 ^ 31) (k : h_G p l e R s m args below meth c G A nL Q (h_up w a (eI G n (upd f k0 x))) cells slots (pc + 1) lv st) : h_G p l e R s m args below meth c G A nL Q w cells slots pc lv (.int x :: .int (nI k0) :: .ref a :: st) := by
  refine g_iast C hd hw (vp_in_nI hk hn) ?_
  rw [nI_clamp (by omega)]
  exact k
theorem g_lastN (C : h_C p l s m args meth c G A cc nL own) {a n k0 : Nat} {f : Nat → Int64} {x : Int64} (hd : decode cc pc = .ok (.lastore, 1)) (hw : w a = some (eJ G n f)) (hk : k0 < n) (hn : n < 2 ^ 31) (k : h_G p l e R s m args below meth c G A nL Q (h_up w a (eJ G n (vp_updL f k0 x))) cells slots (pc + 1) lv st) : h_G p l e R s m args below meth c G A nL Q w cells slots pc lv (.long x :: .int (nI k0) :: .ref a :: st) := by
  refine g_last C hd hw (vp_in_nI hk hn) ?_
  rw [nI_clamp (by omega)]
  exact k
theorem nar_bI (b : Bool) : vp_nar .boolean (cond b 1 0) = cond b 1 0 := by cases b <;> rfl
theorem g_zastN (C : h_C p l s m args meth c G A cc nL own) {a n k0 : Nat} {f : Nat → Int32} {b : Bool} (hd : decode cc pc = .ok (.bastore, 1)) (hw : w a = some (eZ G n f)) (hk : k0 < n) (hn : n < 2 ^ 31) (k : h_G p l e R s m args below meth c G A nL Q (h_up w a (eZ G n (upd f k0 (cond b 1 0)))) cells slots (pc + 1) lv st) : h_G p l e R s m args below meth c G A nL Q w cells slots pc lv (.int (cond b 1 0) :: .int (nI k0) :: .ref a :: st) := by
  refine g_zast C hd hw (vp_in_nI hk hn) ?_
  rw [nI_clamp (by omega), nar_bI]
  exact k
theorem g_ifnullR (C : h_C p l s m args meth c G A cc nL own) {x : Nat} {off : Int} (hd : decode cc pc = .ok (.ifnull off, 3)) (k : h_G p l e R s m args below meth c G A nL Q w cells slots (pc + 3) lv st) : h_G p l e R s m args below meth c G A nL Q w cells slots pc lv (.ref x :: st) :=
  fun H locs ls hP hA hS hl h1 => lv_ifnull C.1 C.2.1 hd (k H locs ls hP hA hS hl h1)
theorem g_ifnullN (C : h_C p l s m args meth c G A cc nL own) {off : Int} (tgt : Nat) (hd : decode cc pc = .ok (.ifnull off, 3)) (ht : (pc : Int) + off = (tgt : Int)) (k : h_G p l e R s m args below meth c G A nL Q w cells slots tgt lv st) : h_G p l e R s m args below meth c G A nL Q w cells slots pc lv (.null :: st) :=
  fun H locs ls hP hA hS hl h1 => lv_ifnullN C.1 C.2.1 hd ht (k H locs ls hP hA hS hl h1)
theorem g_ifnonnullR (C : h_C p l s m args meth c G A cc nL own) {x : Nat} {off : Int} (tgt : Nat) (hd : decode cc pc = .ok (.ifnonnull off, 3)) (ht : (pc : Int) + off = (tgt : Int)) (k : h_G p l e R s m args below meth c G A nL Q w cells slots tgt lv st) : h_G p l e R s m args below meth c G A nL Q w cells slots pc lv (.ref x :: st) :=
  fun H locs ls hP hA hS hl h1 => lv_ifnonnull C.1 C.2.1 hd ht (k H locs ls hP hA hS hl h1)
theorem g_ifnonnullN (C : h_C p l s m args meth c G A cc nL own) {off : Int} (hd : decode cc pc = .ok (.ifnonnull off, 3)) (k : h_G p l e R s m args below meth c G A nL Q w cells slots (pc + 3) lv st) : h_G p l e R s m args below meth c G A nL Q w cells slots pc lv (.null :: st) :=
  fun H locs ls hP hA hS hl h1 => lv_ifnonnullN C.1 C.2.1 hd (k H locs ls hP hA hS hl h1)
theorem g_aload_nN (C : h_C p l s m args meth c G A cc nL own) {k0 : Fin 4} {i : Nat} (hd : decode cc pc = .ok (.aload_n k0, 1)) (hi : (k0 : Nat) = i) (hg : lvG lv i = some .null) (k : h_G p l e R s m args below meth c G A nL Q w cells slots (pc + 1) lv (.null :: st)) : h_G p l e R s m args below meth c G A nL Q w cells slots pc lv st :=
  fun H locs ls hP hA hS hl h1 => lv_aload_nN C.1 C.2.1 hd hi (lvG_has hl hg) (k H locs ls hP hA hS hl h1)
theorem g_aloadN (C : h_C p l s m args meth c G A cc nL own) {i : Nat} (hd : decode cc pc = .ok (.aload i, 2)) (hg : lvG lv i = some .null) (k : h_G p l e R s m args below meth c G A nL Q w cells slots (pc + 2) lv (.null :: st)) : h_G p l e R s m args below meth c G A nL Q w cells slots pc lv st :=
  fun H locs ls hP hA hS hl h1 => lv_aloadN C.1 C.2.1 hd (lvG_has hl hg) (k H locs ls hP hA hS hl h1)
theorem g_astore_nN (C : h_C p l s m args meth c G A cc nL own) {k0 : Fin 4} {i : Nat} (hd : decode cc pc = .ok (.astore_n k0, 1)) (hi : (k0 : Nat) = i) (hn : i < nL) (k : h_G p l e R s m args below meth c G A nL Q w cells slots (pc + 1) (lvS lv i .null) st) : h_G p l e R s m args below meth c G A nL Q w cells slots pc lv (.null :: st) :=
  fun H locs ls hP hA hS hl h1 => lv_astore_nN C.1 C.2.1 hd hi hl hn rfl fun ls' hl' => k H locs ls' hP hA hS (lvS_has hl' h1) (lvS_1 h1 rfl)
theorem g_astoreN (C : h_C p l s m args meth c G A cc nL own) {i : Nat} (hd : decode cc pc = .ok (.astore i, 2)) (hn : i < nL) (k : h_G p l e R s m args below meth c G A nL Q w cells slots (pc + 2) (lvS lv i .null) st) : h_G p l e R s m args below meth c G A nL Q w cells slots pc lv (.null :: st) :=
  fun H locs ls hP hA hS hl h1 => lv_astoreN C.1 C.2.1 hd hl hn rfl fun ls' hl' => k H locs ls' hP hA hS (lvS_has hl' h1) (lvS_1 h1 rfl)
/-- locals that are not used any more -/
theorem g_drop (l1 l2 : List (Nat × Value)) (h : l1 ++ l2 = lv) (k : h_G p l e R s m args below meth c G A nL Q w cells slots pc l1 st) : h_G p l e R s m args below meth c G A nL Q w cells slots pc lv st := fun H locs ls hP hA hS hl h1 => k H locs ls hP hA hS ⟨hl.1, hl.2.1, fun q hq => hl.2.2 q (by rw [← h]; exact List.mem_append_left _ hq)⟩ (fun q hq => h1 q (by rw [← h]; exact List.mem_append_left _ hq))
end HL
theorem hy_X0_init : yX0_init.cls ≠ "java/lang/invoke/MethodHandle" ∧ yX0_init.cls ≠ "java/lang/invoke/VarHandle" ∧ (parseMethodDescriptor yX0_init.desc).map (fun d => d.parameters.length) = some 0 := by decide +kernel
theorem hy_X0_clear : yX0_clear.cls ≠ "java/lang/invoke/MethodHandle" ∧ yX0_clear.cls ≠ "java/lang/invoke/VarHandle" ∧ (parseMethodDescriptor yX0_clear.desc).map (fun d => d.parameters.length) = some 0 := by decide +kernel
theorem hy_X0_isOver : yX0_isOver.cls ≠ "java/lang/invoke/MethodHandle" ∧ yX0_isOver.cls ≠ "java/lang/invoke/VarHandle" ∧ (parseMethodDescriptor yX0_isOver.desc).map (fun d => d.parameters.length) = some 2 := by decide +kernel
theorem hy_X0_take : yX0_take.cls ≠ "java/lang/invoke/MethodHandle" ∧ yX0_take.cls ≠ "java/lang/invoke/VarHandle" ∧ (parseMethodDescriptor yX0_take.desc).map (fun d => d.parameters.length) = some 2 := by decide +kernel
theorem hy_X0_isContext : yX0_isContext.cls ≠ "java/lang/invoke/MethodHandle" ∧ yX0_isContext.cls ≠ "java/lang/invoke/VarHandle" ∧ (parseMethodDescriptor yX0_isContext.desc).map (fun d => d.parameters.length) = some 1 := by decide +kernel
theorem hy_X1_init : yX1_init.cls ≠ "java/lang/invoke/MethodHandle" ∧ yX1_init.cls ≠ "java/lang/invoke/VarHandle" ∧ (parseMethodDescriptor yX1_init.desc).map (fun d => d.parameters.length) = some 6 := by decide +kernel
theorem hy_X1_isLaterThan : yX1_isLaterThan.cls ≠ "java/lang/invoke/MethodHandle" ∧ yX1_isLaterThan.cls ≠ "java/lang/invoke/VarHandle" ∧ (parseMethodDescriptor yX1_isLaterThan.desc).map (fun d => d.parameters.length) = some 1 := by decide +kernel
theorem hy_X1_isOfField : yX1_isOfField.cls ≠ "java/lang/invoke/MethodHandle" ∧ yX1_isOfField.cls ≠ "java/lang/invoke/VarHandle" ∧ (parseMethodDescriptor yX1_isOfField.desc).map (fun d => d.parameters.length) = some 2 := by decide +kernel
theorem hy_X1_isKnownAt : yX1_isKnownAt.cls ≠ "java/lang/invoke/MethodHandle" ∧ yX1_isKnownAt.cls ≠ "java/lang/invoke/VarHandle" ∧ (parseMethodDescriptor yX1_isKnownAt.desc).map (fun d => d.parameters.length) = some 1 := by decide +kernel
theorem hy_X1_isEndedAt : yX1_isEndedAt.cls ≠ "java/lang/invoke/MethodHandle" ∧ yX1_isEndedAt.cls ≠ "java/lang/invoke/VarHandle" ∧ (parseMethodDescriptor yX1_isEndedAt.desc).map (fun d => d.parameters.length) = some 1 := by decide +kernel
theorem hy_X1_endAt : yX1_endAt.cls ≠ "java/lang/invoke/MethodHandle" ∧ yX1_endAt.cls ≠ "java/lang/invoke/VarHandle" ∧ (parseMethodDescriptor yX1_endAt.desc).map (fun d => d.parameters.length) = some 1 := by decide +kernel
theorem hy_X1_pass : yX1_pass.cls ≠ "java/lang/invoke/MethodHandle" ∧ yX1_pass.cls ≠ "java/lang/invoke/VarHandle" ∧ (parseMethodDescriptor yX1_pass.desc).map (fun d => d.parameters.length) = some 2 := by decide +kernel
theorem hy_X1_isForgotten : yX1_isForgotten.cls ≠ "java/lang/invoke/MethodHandle" ∧ yX1_isForgotten.cls ≠ "java/lang/invoke/VarHandle" ∧ (parseMethodDescriptor yX1_isForgotten.desc).map (fun d => d.parameters.length) = some 0 := by decide +kernel
theorem hy_X1_forget : yX1_forget.cls ≠ "java/lang/invoke/MethodHandle" ∧ yX1_forget.cls ≠ "java/lang/invoke/VarHandle" ∧ (parseMethodDescriptor yX1_forget.desc).map (fun d => d.parameters.length) = some 0 := by decide +kernel
theorem hy_X2_init : yX2_init.cls ≠ "java/lang/invoke/MethodHandle" ∧ yX2_init.cls ≠ "java/lang/invoke/VarHandle" ∧ (parseMethodDescriptor yX2_init.desc).map (fun d => d.parameters.length) = some 0 := by decide +kernel
theorem hy_X2_tell : yX2_tell.cls ≠ "java/lang/invoke/MethodHandle" ∧ yX2_tell.cls ≠ "java/lang/invoke/VarHandle" ∧ (parseMethodDescriptor yX2_tell.desc).map (fun d => d.parameters.length) = some 4 := by decide +kernel
theorem hy_X2_insert : yX2_insert.cls ≠ "java/lang/invoke/MethodHandle" ∧ yX2_insert.cls ≠ "java/lang/invoke/VarHandle" ∧ (parseMethodDescriptor yX2_insert.desc).map (fun d => d.parameters.length) = some 4 := by decide +kernel
theorem hy_X2_remove : yX2_remove.cls ≠ "java/lang/invoke/MethodHandle" ∧ yX2_remove.cls ≠ "java/lang/invoke/VarHandle" ∧ (parseMethodDescriptor yX2_remove.desc).map (fun d => d.parameters.length) = some 2 := by decide +kernel
theorem hy_X2_relate : yX2_relate.cls ≠ "java/lang/invoke/MethodHandle" ∧ yX2_relate.cls ≠ "java/lang/invoke/VarHandle" ∧ (parseMethodDescriptor yX2_relate.desc).map (fun d => d.parameters.length) = some 3 := by decide +kernel
theorem hy_X2_drop : yX2_drop.cls ≠ "java/lang/invoke/MethodHandle" ∧ yX2_drop.cls ≠ "java/lang/invoke/VarHandle" ∧ (parseMethodDescriptor yX2_drop.desc).map (fun d => d.parameters.length) = some 2 := by decide +kernel
theorem hy_X2_join : yX2_join.cls ≠ "java/lang/invoke/MethodHandle" ∧ yX2_join.cls ≠ "java/lang/invoke/VarHandle" ∧ (parseMethodDescriptor yX2_join.desc).map (fun d => d.parameters.length) = some 2 := by decide +kernel
theorem hy_X2_number : yX2_number.cls ≠ "java/lang/invoke/MethodHandle" ∧ yX2_number.cls ≠ "java/lang/invoke/VarHandle" ∧ (parseMethodDescriptor yX2_number.desc).map (fun d => d.parameters.length) = some 1 := by decide +kernel
theorem hy_X2_at : yX2_at.cls ≠ "java/lang/invoke/MethodHandle" ∧ yX2_at.cls ≠ "java/lang/invoke/VarHandle" ∧ (parseMethodDescriptor yX2_at.desc).map (fun d => d.parameters.length) = some 4 := by decide +kernel
theorem hy_X2_place : yX2_place.cls ≠ "java/lang/invoke/MethodHandle" ∧ yX2_place.cls ≠ "java/lang/invoke/VarHandle" ∧ (parseMethodDescriptor yX2_place.desc).map (fun d => d.parameters.length) = some 3 := by decide +kernel
theorem hy_X2_order : yX2_order.cls ≠ "java/lang/invoke/MethodHandle" ∧ yX2_order.cls ≠ "java/lang/invoke/VarHandle" ∧ (parseMethodDescriptor yX2_order.desc).map (fun d => d.parameters.length) = some 3 := by decide +kernel
theorem hy_X2_open : yX2_open.cls ≠ "java/lang/invoke/MethodHandle" ∧ yX2_open.cls ≠ "java/lang/invoke/VarHandle" ∧ (parseMethodDescriptor yX2_open.desc).map (fun d => d.parameters.length) = some 2 := by decide +kernel
theorem hy_X2_knows : yX2_knows.cls ≠ "java/lang/invoke/MethodHandle" ∧ yX2_knows.cls ≠ "java/lang/invoke/VarHandle" ∧ (parseMethodDescriptor yX2_knows.desc).map (fun d => d.parameters.length) = some 2 := by decide +kernel
theorem hy_X2_equal : yX2_equal.cls ≠ "java/lang/invoke/MethodHandle" ∧ yX2_equal.cls ≠ "java/lang/invoke/VarHandle" ∧ (parseMethodDescriptor yX2_equal.desc).map (fun d => d.parameters.length) = some 2 := by decide +kernel
theorem hy_X2_compact : yX2_compact.cls ≠ "java/lang/invoke/MethodHandle" ∧ yX2_compact.cls ≠ "java/lang/invoke/VarHandle" ∧ (parseMethodDescriptor yX2_compact.desc).map (fun d => d.parameters.length) = some 0 := by decide +kernel
theorem hy_X2_about : yX2_about.cls ≠ "java/lang/invoke/MethodHandle" ∧ yX2_about.cls ≠ "java/lang/invoke/VarHandle" ∧ (parseMethodDescriptor yX2_about.desc).map (fun d => d.parameters.length) = some 3 := by decide +kernel
theorem hy_X2_count : yX2_count.cls ≠ "java/lang/invoke/MethodHandle" ∧ yX2_count.cls ≠ "java/lang/invoke/VarHandle" ∧ (parseMethodDescriptor yX2_count.desc).map (fun d => d.parameters.length) = some 1 := by decide +kernel
theorem hy_X2_requireDesk : yX2_requireDesk.cls ≠ "java/lang/invoke/MethodHandle" ∧ yX2_requireDesk.cls ≠ "java/lang/invoke/VarHandle" ∧ (parseMethodDescriptor yX2_requireDesk.desc).map (fun d => d.parameters.length) = some 1 := by decide +kernel
theorem hy_X2_requireThing : yX2_requireThing.cls ≠ "java/lang/invoke/MethodHandle" ∧ yX2_requireThing.cls ≠ "java/lang/invoke/VarHandle" ∧ (parseMethodDescriptor yX2_requireThing.desc).map (fun d => d.parameters.length) = some 1 := by decide +kernel
theorem hy_X2_requireField : yX2_requireField.cls ≠ "java/lang/invoke/MethodHandle" ∧ yX2_requireField.cls ≠ "java/lang/invoke/VarHandle" ∧ (parseMethodDescriptor yX2_requireField.desc).map (fun d => d.parameters.length) = some 2 := by decide +kernel
theorem hy_X2_requireContext : yX2_requireContext.cls ≠ "java/lang/invoke/MethodHandle" ∧ yX2_requireContext.cls ≠ "java/lang/invoke/VarHandle" ∧ (parseMethodDescriptor yX2_requireContext.desc).map (fun d => d.parameters.length) = some 1 := by decide +kernel
theorem hy_X2_requireOrdinal : yX2_requireOrdinal.cls ≠ "java/lang/invoke/MethodHandle" ∧ yX2_requireOrdinal.cls ≠ "java/lang/invoke/VarHandle" ∧ (parseMethodDescriptor yX2_requireOrdinal.desc).map (fun d => d.parameters.length) = some 1 := by decide +kernel
theorem hy_X2_requireValue : yX2_requireValue.cls ≠ "java/lang/invoke/MethodHandle" ∧ yX2_requireValue.cls ≠ "java/lang/invoke/VarHandle" ∧ (parseMethodDescriptor yX2_requireValue.desc).map (fun d => d.parameters.length) = some 2 := by decide +kernel
theorem hy_X2_findMade : yX2_findMade.cls ≠ "java/lang/invoke/MethodHandle" ∧ yX2_findMade.cls ≠ "java/lang/invoke/VarHandle" ∧ (parseMethodDescriptor yX2_findMade.desc).map (fun d => d.parameters.length) = some 1 := by decide +kernel
theorem hy_X2_findKnown : yX2_findKnown.cls ≠ "java/lang/invoke/MethodHandle" ∧ yX2_findKnown.cls ≠ "java/lang/invoke/VarHandle" ∧ (parseMethodDescriptor yX2_findKnown.desc).map (fun d => d.parameters.length) = some 2 := by decide +kernel
theorem hy_X2_enter : yX2_enter.cls ≠ "java/lang/invoke/MethodHandle" ∧ yX2_enter.cls ≠ "java/lang/invoke/VarHandle" ∧ (parseMethodDescriptor yX2_enter.desc).map (fun d => d.parameters.length) = some 4 := by decide +kernel
theorem hy_X2_end : yX2_end.cls ≠ "java/lang/invoke/MethodHandle" ∧ yX2_end.cls ≠ "java/lang/invoke/VarHandle" ∧ (parseMethodDescriptor yX2_end.desc).map (fun d => d.parameters.length) = some 4 := by decide +kernel
theorem hy_X2_greatestStamp : yX2_greatestStamp.cls ≠ "java/lang/invoke/MethodHandle" ∧ yX2_greatestStamp.cls ≠ "java/lang/invoke/VarHandle" ∧ (parseMethodDescriptor yX2_greatestStamp.desc).map (fun d => d.parameters.length) = some 1 := by decide +kernel
theorem hy_X2_putByRank : yX2_putByRank.cls ≠ "java/lang/invoke/MethodHandle" ∧ yX2_putByRank.cls ≠ "java/lang/invoke/VarHandle" ∧ (parseMethodDescriptor yX2_putByRank.desc).map (fun d => d.parameters.length) = some 1 := by decide +kernel
theorem hy_X2_putInRow : yX2_putInRow.cls ≠ "java/lang/invoke/MethodHandle" ∧ yX2_putInRow.cls ≠ "java/lang/invoke/VarHandle" ∧ (parseMethodDescriptor yX2_putInRow.desc).map (fun d => d.parameters.length) = some 3 := by decide +kernel
theorem hy_X2_findInRow : yX2_findInRow.cls ≠ "java/lang/invoke/MethodHandle" ∧ yX2_findInRow.cls ≠ "java/lang/invoke/VarHandle" ∧ (parseMethodDescriptor yX2_findInRow.desc).map (fun d => d.parameters.length) = some 3 := by decide +kernel
theorem hy_X2_latestValue : yX2_latestValue.cls ≠ "java/lang/invoke/MethodHandle" ∧ yX2_latestValue.cls ≠ "java/lang/invoke/VarHandle" ∧ (parseMethodDescriptor yX2_latestValue.desc).map (fun d => d.parameters.length) = some 2 := by decide +kernel
theorem hy_X2_sumOfValues : yX2_sumOfValues.cls ≠ "java/lang/invoke/MethodHandle" ∧ yX2_sumOfValues.cls ≠ "java/lang/invoke/VarHandle" ∧ (parseMethodDescriptor yX2_sumOfValues.desc).map (fun d => d.parameters.length) = some 2 := by decide +kernel
theorem hy_X2_memberOfUnion : yX2_memberOfUnion.cls ≠ "java/lang/invoke/MethodHandle" ∧ yX2_memberOfUnion.cls ≠ "java/lang/invoke/VarHandle" ∧ (parseMethodDescriptor yX2_memberOfUnion.desc).map (fun d => d.parameters.length) = some 3 := by decide +kernel
theorem hy_X2_takeRelations : yX2_takeRelations.cls ≠ "java/lang/invoke/MethodHandle" ∧ yX2_takeRelations.cls ≠ "java/lang/invoke/VarHandle" ∧ (parseMethodDescriptor yX2_takeRelations.desc).map (fun d => d.parameters.length) = some 1 := by decide +kernel
theorem hy_X2_isOutdone : yX2_isOutdone.cls ≠ "java/lang/invoke/MethodHandle" ∧ yX2_isOutdone.cls ≠ "java/lang/invoke/VarHandle" ∧ (parseMethodDescriptor yX2_isOutdone.desc).map (fun d => d.parameters.length) = some 1 := by decide +kernel
theorem hy_X2_isSharedLatest : yX2_isSharedLatest.cls ≠ "java/lang/invoke/MethodHandle" ∧ yX2_isSharedLatest.cls ≠ "java/lang/invoke/VarHandle" ∧ (parseMethodDescriptor yX2_isSharedLatest.desc).map (fun d => d.parameters.length) = some 1 := by decide +kernel
theorem hy_X2_countForgotten : yX2_countForgotten.cls ≠ "java/lang/invoke/MethodHandle" ∧ yX2_countForgotten.cls ≠ "java/lang/invoke/VarHandle" ∧ (parseMethodDescriptor yX2_countForgotten.desc).map (fun d => d.parameters.length) = some 0 := by decide +kernel
theorem hy_X2_countUnshared : yX2_countUnshared.cls ≠ "java/lang/invoke/MethodHandle" ∧ yX2_countUnshared.cls ≠ "java/lang/invoke/VarHandle" ∧ (parseMethodDescriptor yX2_countUnshared.desc).map (fun d => d.parameters.length) = some 0 := by decide +kernel
theorem hy_X3_init : yX3_init.cls ≠ "java/lang/invoke/MethodHandle" ∧ yX3_init.cls ≠ "java/lang/invoke/VarHandle" ∧ (parseMethodDescriptor yX3_init.desc).map (fun d => d.parameters.length) = some 0 := by decide +kernel
theorem hy_X3_thrown : yX3_thrown.cls ≠ "java/lang/invoke/MethodHandle" ∧ yX3_thrown.cls ≠ "java/lang/invoke/VarHandle" ∧ (parseMethodDescriptor yX3_thrown.desc).map (fun d => d.parameters.length) = some 0 := by decide +kernel
theorem hy_X3_goes : yX3_goes.cls ≠ "java/lang/invoke/MethodHandle" ∧ yX3_goes.cls ≠ "java/lang/invoke/VarHandle" ∧ (parseMethodDescriptor yX3_goes.desc).map (fun d => d.parameters.length) = some 3 := by decide +kernel
theorem hy_X3_within : yX3_within.cls ≠ "java/lang/invoke/MethodHandle" ∧ yX3_within.cls ≠ "java/lang/invoke/VarHandle" ∧ (parseMethodDescriptor yX3_within.desc).map (fun d => d.parameters.length) = some 3 := by decide +kernel
theorem hy_X3_isDesk : yX3_isDesk.cls ≠ "java/lang/invoke/MethodHandle" ∧ yX3_isDesk.cls ≠ "java/lang/invoke/VarHandle" ∧ (parseMethodDescriptor yX3_isDesk.desc).map (fun d => d.parameters.length) = some 1 := by decide +kernel
theorem hy_X3_isThing : yX3_isThing.cls ≠ "java/lang/invoke/MethodHandle" ∧ yX3_isThing.cls ≠ "java/lang/invoke/VarHandle" ∧ (parseMethodDescriptor yX3_isThing.desc).map (fun d => d.parameters.length) = some 1 := by decide +kernel
theorem hy_X3_knowsOf : yX3_knowsOf.cls ≠ "java/lang/invoke/MethodHandle" ∧ yX3_knowsOf.cls ≠ "java/lang/invoke/VarHandle" ∧ (parseMethodDescriptor yX3_knowsOf.desc).map (fun d => d.parameters.length) = some 2 := by decide +kernel
theorem hy_X3_earlier : yX3_earlier.cls ≠ "java/lang/invoke/MethodHandle" ∧ yX3_earlier.cls ≠ "java/lang/invoke/VarHandle" ∧ (parseMethodDescriptor yX3_earlier.desc).map (fun d => d.parameters.length) = some 2 := by decide +kernel
theorem hy_X3_make : yX3_make.cls ≠ "java/lang/invoke/MethodHandle" ∧ yX3_make.cls ≠ "java/lang/invoke/VarHandle" ∧ (parseMethodDescriptor yX3_make.desc).map (fun d => d.parameters.length) = some 5 := by decide +kernel
theorem hy_X3_tell : yX3_tell.cls ≠ "java/lang/invoke/MethodHandle" ∧ yX3_tell.cls ≠ "java/lang/invoke/VarHandle" ∧ (parseMethodDescriptor yX3_tell.desc).map (fun d => d.parameters.length) = some 4 := by decide +kernel
theorem hy_X3_insert : yX3_insert.cls ≠ "java/lang/invoke/MethodHandle" ∧ yX3_insert.cls ≠ "java/lang/invoke/VarHandle" ∧ (parseMethodDescriptor yX3_insert.desc).map (fun d => d.parameters.length) = some 4 := by decide +kernel
theorem hy_X3_remove : yX3_remove.cls ≠ "java/lang/invoke/MethodHandle" ∧ yX3_remove.cls ≠ "java/lang/invoke/VarHandle" ∧ (parseMethodDescriptor yX3_remove.desc).map (fun d => d.parameters.length) = some 2 := by decide +kernel
theorem hy_X3_relate : yX3_relate.cls ≠ "java/lang/invoke/MethodHandle" ∧ yX3_relate.cls ≠ "java/lang/invoke/VarHandle" ∧ (parseMethodDescriptor yX3_relate.desc).map (fun d => d.parameters.length) = some 3 := by decide +kernel
theorem hy_X3_drop : yX3_drop.cls ≠ "java/lang/invoke/MethodHandle" ∧ yX3_drop.cls ≠ "java/lang/invoke/VarHandle" ∧ (parseMethodDescriptor yX3_drop.desc).map (fun d => d.parameters.length) = some 2 := by decide +kernel
theorem hy_X3_join : yX3_join.cls ≠ "java/lang/invoke/MethodHandle" ∧ yX3_join.cls ≠ "java/lang/invoke/VarHandle" ∧ (parseMethodDescriptor yX3_join.desc).map (fun d => d.parameters.length) = some 2 := by decide +kernel
theorem hy_X3_number : yX3_number.cls ≠ "java/lang/invoke/MethodHandle" ∧ yX3_number.cls ≠ "java/lang/invoke/VarHandle" ∧ (parseMethodDescriptor yX3_number.desc).map (fun d => d.parameters.length) = some 1 := by decide +kernel
theorem hy_X3_isOf : yX3_isOf.cls ≠ "java/lang/invoke/MethodHandle" ∧ yX3_isOf.cls ≠ "java/lang/invoke/VarHandle" ∧ (parseMethodDescriptor yX3_isOf.desc).map (fun d => d.parameters.length) = some 4 := by decide +kernel
theorem hy_X3_latest : yX3_latest.cls ≠ "java/lang/invoke/MethodHandle" ∧ yX3_latest.cls ≠ "java/lang/invoke/VarHandle" ∧ (parseMethodDescriptor yX3_latest.desc).map (fun d => d.parameters.length) = some 2 := by decide +kernel
theorem hy_X3_sum : yX3_sum.cls ≠ "java/lang/invoke/MethodHandle" ∧ yX3_sum.cls ≠ "java/lang/invoke/VarHandle" ∧ (parseMethodDescriptor yX3_sum.desc).map (fun d => d.parameters.length) = some 2 := by decide +kernel
theorem hy_X3_union : yX3_union.cls ≠ "java/lang/invoke/MethodHandle" ∧ yX3_union.cls ≠ "java/lang/invoke/VarHandle" ∧ (parseMethodDescriptor yX3_union.desc).map (fun d => d.parameters.length) = some 3 := by decide +kernel
theorem hy_X3_line : yX3_line.cls ≠ "java/lang/invoke/MethodHandle" ∧ yX3_line.cls ≠ "java/lang/invoke/VarHandle" ∧ (parseMethodDescriptor yX3_line.desc).map (fun d => d.parameters.length) = some 2 := by decide +kernel
theorem hy_X3_isRemoved : yX3_isRemoved.cls ≠ "java/lang/invoke/MethodHandle" ∧ yX3_isRemoved.cls ≠ "java/lang/invoke/VarHandle" ∧ (parseMethodDescriptor yX3_isRemoved.desc).map (fun d => d.parameters.length) = some 2 := by decide +kernel
theorem hy_X3_standing : yX3_standing.cls ≠ "java/lang/invoke/MethodHandle" ∧ yX3_standing.cls ≠ "java/lang/invoke/VarHandle" ∧ (parseMethodDescriptor yX3_standing.desc).map (fun d => d.parameters.length) = some 3 := by decide +kernel
theorem hy_X3_at : yX3_at.cls ≠ "java/lang/invoke/MethodHandle" ∧ yX3_at.cls ≠ "java/lang/invoke/VarHandle" ∧ (parseMethodDescriptor yX3_at.desc).map (fun d => d.parameters.length) = some 4 := by decide +kernel
theorem hy_X3_place : yX3_place.cls ≠ "java/lang/invoke/MethodHandle" ∧ yX3_place.cls ≠ "java/lang/invoke/VarHandle" ∧ (parseMethodDescriptor yX3_place.desc).map (fun d => d.parameters.length) = some 3 := by decide +kernel
theorem hy_X3_isDropped : yX3_isDropped.cls ≠ "java/lang/invoke/MethodHandle" ∧ yX3_isDropped.cls ≠ "java/lang/invoke/VarHandle" ∧ (parseMethodDescriptor yX3_isDropped.desc).map (fun d => d.parameters.length) = some 2 := by decide +kernel
theorem hy_X3_settle : yX3_settle.cls ≠ "java/lang/invoke/MethodHandle" ∧ yX3_settle.cls ≠ "java/lang/invoke/VarHandle" ∧ (parseMethodDescriptor yX3_settle.desc).map (fun d => d.parameters.length) = some 1 := by decide +kernel
theorem hy_X3_take : yX3_take.cls ≠ "java/lang/invoke/MethodHandle" ∧ yX3_take.cls ≠ "java/lang/invoke/VarHandle" ∧ (parseMethodDescriptor yX3_take.desc).map (fun d => d.parameters.length) = some 1 := by decide +kernel
theorem hy_X3_order : yX3_order.cls ≠ "java/lang/invoke/MethodHandle" ∧ yX3_order.cls ≠ "java/lang/invoke/VarHandle" ∧ (parseMethodDescriptor yX3_order.desc).map (fun d => d.parameters.length) = some 3 := by decide +kernel
theorem hy_X3_open : yX3_open.cls ≠ "java/lang/invoke/MethodHandle" ∧ yX3_open.cls ≠ "java/lang/invoke/VarHandle" ∧ (parseMethodDescriptor yX3_open.desc).map (fun d => d.parameters.length) = some 2 := by decide +kernel
theorem hy_X3_knows : yX3_knows.cls ≠ "java/lang/invoke/MethodHandle" ∧ yX3_knows.cls ≠ "java/lang/invoke/VarHandle" ∧ (parseMethodDescriptor yX3_knows.desc).map (fun d => d.parameters.length) = some 2 := by decide +kernel
theorem hy_X3_equal : yX3_equal.cls ≠ "java/lang/invoke/MethodHandle" ∧ yX3_equal.cls ≠ "java/lang/invoke/VarHandle" ∧ (parseMethodDescriptor yX3_equal.desc).map (fun d => d.parameters.length) = some 2 := by decide +kernel
theorem hy_X3_isCommon : yX3_isCommon.cls ≠ "java/lang/invoke/MethodHandle" ∧ yX3_isCommon.cls ≠ "java/lang/invoke/VarHandle" ∧ (parseMethodDescriptor yX3_isCommon.desc).map (fun d => d.parameters.length) = some 1 := by decide +kernel
theorem hy_X3_isPast : yX3_isPast.cls ≠ "java/lang/invoke/MethodHandle" ∧ yX3_isPast.cls ≠ "java/lang/invoke/VarHandle" ∧ (parseMethodDescriptor yX3_isPast.desc).map (fun d => d.parameters.length) = some 1 := by decide +kernel
theorem hy_X3_compact : yX3_compact.cls ≠ "java/lang/invoke/MethodHandle" ∧ yX3_compact.cls ≠ "java/lang/invoke/VarHandle" ∧ (parseMethodDescriptor yX3_compact.desc).map (fun d => d.parameters.length) = some 0 := by decide +kernel
theorem hy_X3_about : yX3_about.cls ≠ "java/lang/invoke/MethodHandle" ∧ yX3_about.cls ≠ "java/lang/invoke/VarHandle" ∧ (parseMethodDescriptor yX3_about.desc).map (fun d => d.parameters.length) = some 3 := by decide +kernel
theorem hy_X3_count : yX3_count.cls ≠ "java/lang/invoke/MethodHandle" ∧ yX3_count.cls ≠ "java/lang/invoke/VarHandle" ∧ (parseMethodDescriptor yX3_count.desc).map (fun d => d.parameters.length) = some 1 := by decide +kernel
theorem hy_L_tell : yL_tell.cls ≠ "java/lang/invoke/MethodHandle" ∧ yL_tell.cls ≠ "java/lang/invoke/VarHandle" ∧ (parseMethodDescriptor yL_tell.desc).map (fun d => d.parameters.length) = some 6 := by decide +kernel
theorem hy_L_insert : yL_insert.cls ≠ "java/lang/invoke/MethodHandle" ∧ yL_insert.cls ≠ "java/lang/invoke/VarHandle" ∧ (parseMethodDescriptor yL_insert.desc).map (fun d => d.parameters.length) = some 6 := by decide +kernel
theorem hy_L_remove : yL_remove.cls ≠ "java/lang/invoke/MethodHandle" ∧ yL_remove.cls ≠ "java/lang/invoke/VarHandle" ∧ (parseMethodDescriptor yL_remove.desc).map (fun d => d.parameters.length) = some 4 := by decide +kernel
theorem hy_L_relate : yL_relate.cls ≠ "java/lang/invoke/MethodHandle" ∧ yL_relate.cls ≠ "java/lang/invoke/VarHandle" ∧ (parseMethodDescriptor yL_relate.desc).map (fun d => d.parameters.length) = some 5 := by decide +kernel
theorem hy_L_drop : yL_drop.cls ≠ "java/lang/invoke/MethodHandle" ∧ yL_drop.cls ≠ "java/lang/invoke/VarHandle" ∧ (parseMethodDescriptor yL_drop.desc).map (fun d => d.parameters.length) = some 4 := by decide +kernel
theorem hy_L_join : yL_join.cls ≠ "java/lang/invoke/MethodHandle" ∧ yL_join.cls ≠ "java/lang/invoke/VarHandle" ∧ (parseMethodDescriptor yL_join.desc).map (fun d => d.parameters.length) = some 4 := by decide +kernel
theorem hy_L_number : yL_number.cls ≠ "java/lang/invoke/MethodHandle" ∧ yL_number.cls ≠ "java/lang/invoke/VarHandle" ∧ (parseMethodDescriptor yL_number.desc).map (fun d => d.parameters.length) = some 3 := by decide +kernel
theorem hy_L_at : yL_at.cls ≠ "java/lang/invoke/MethodHandle" ∧ yL_at.cls ≠ "java/lang/invoke/VarHandle" ∧ (parseMethodDescriptor yL_at.desc).map (fun d => d.parameters.length) = some 6 := by decide +kernel
theorem hy_L_place : yL_place.cls ≠ "java/lang/invoke/MethodHandle" ∧ yL_place.cls ≠ "java/lang/invoke/VarHandle" ∧ (parseMethodDescriptor yL_place.desc).map (fun d => d.parameters.length) = some 5 := by decide +kernel
theorem hy_L_order : yL_order.cls ≠ "java/lang/invoke/MethodHandle" ∧ yL_order.cls ≠ "java/lang/invoke/VarHandle" ∧ (parseMethodDescriptor yL_order.desc).map (fun d => d.parameters.length) = some 5 := by decide +kernel
theorem hy_L_open : yL_open.cls ≠ "java/lang/invoke/MethodHandle" ∧ yL_open.cls ≠ "java/lang/invoke/VarHandle" ∧ (parseMethodDescriptor yL_open.desc).map (fun d => d.parameters.length) = some 4 := by decide +kernel
theorem hy_L_knows : yL_knows.cls ≠ "java/lang/invoke/MethodHandle" ∧ yL_knows.cls ≠ "java/lang/invoke/VarHandle" ∧ (parseMethodDescriptor yL_knows.desc).map (fun d => d.parameters.length) = some 4 := by decide +kernel
theorem hy_L_equal : yL_equal.cls ≠ "java/lang/invoke/MethodHandle" ∧ yL_equal.cls ≠ "java/lang/invoke/VarHandle" ∧ (parseMethodDescriptor yL_equal.desc).map (fun d => d.parameters.length) = some 4 := by decide +kernel
theorem hy_L_about : yL_about.cls ≠ "java/lang/invoke/MethodHandle" ∧ yL_about.cls ≠ "java/lang/invoke/VarHandle" ∧ (parseMethodDescriptor yL_about.desc).map (fun d => d.parameters.length) = some 5 := by decide +kernel
theorem hy_L_count : yL_count.cls ≠ "java/lang/invoke/MethodHandle" ∧ yL_count.cls ≠ "java/lang/invoke/VarHandle" ∧ (parseMethodDescriptor yL_count.desc).map (fun d => d.parameters.length) = some 3 := by decide +kernel
theorem hy_L_law : yL_law.cls ≠ "java/lang/invoke/MethodHandle" ∧ yL_law.cls ≠ "java/lang/invoke/VarHandle" ∧ (parseMethodDescriptor yL_law.desc).map (fun d => d.parameters.length) = some 1 := by decide +kernel
end
section
/-! ===== leaves: the cells of a telling; what its own methods answer ===== -/
theorem cat_n : ∀ v ∈ ([] : List Value), v.category = 1 := fun _ h => by cases h
theorem cat_c {x : Value} {l : List Value} (h : x.category = 1) (t : ∀ v ∈ l, v.category = 1) : ∀ v ∈ x :: l, v.category = 1 := fun v hv => (List.mem_cons.mp hv).elim (fun e => e ▸ h) (t v)
def bI (b : Bool) : Int32 := cond b 1 0
theorem bI_t {b : Bool} (h : b = true) : (1 : Int32) = bI b := by rw [h]; rfl
theorem bI_f {b : Bool} (h : b = false) : (0 : Int32) = bI b := by rw [h]; rfl
theorem bI_1 {P : Prop} [Decidable P] (h : P) : (1 : Int32) = bI (decide P) := bI_t (decide_eq_true h)
theorem bI_0 {P : Prop} [Decidable P] (h : ¬ P) : (0 : Int32) = bI (decide P) := bI_f (decide_eq_false h)
/-- a telling's cell -/
abbrev tC (id dk st so th va kn en op : Int32) (la ne : Option Nat) : va_E := eO 1 [.int id, .int dk, .int st, .int so, .int th, .int va, .int kn, .int en, .int op, va_rf la, va_rf ne]
/-- the bit of a desk in a mask -/
def kb (k d : Int32) : Bool := decide ((k >>> (d &&& 31)) &&& 1 = 1)
theorem ht_IA1 : ∀ x ∈ (vx_atS RX2 72 nIA hNames).filter goodWord, x ∈ hAll := fun x hx => List.mem_filter.mpr ⟨(by revert x; decide +kernel : x ∈ lw_tbl), (List.mem_filter.mp hx).2⟩
theorem ht_IA2 : ∀ x ∈ (vx_atS RX2 72 nIA hNames).filter (fun x => !goodWord x), x ∈ hDcl.map Cond.declares ++ hExc.map (fun x => Cond.castable x x) := by decide +kernel
theorem ht_IA3 : ∀ x ∈ Cond.classLink RX2 68 nIA :: Cond.initialized nIA :: vx_atS RX2 72 nIA hNames, vx_ot x = true := by decide +kernel
theorem ht_IS1 : ∀ x ∈ (vx_atS RX2 102 nIS hNames).filter goodWord, x ∈ hAll := fun x hx => List.mem_filter.mpr ⟨(by revert x; decide +kernel : x ∈ lw_tbl), (List.mem_filter.mp hx).2⟩
theorem ht_IS2 : ∀ x ∈ (vx_atS RX2 102 nIS hNames).filter (fun x => !goodWord x), x ∈ hDcl.map Cond.declares ++ hExc.map (fun x => Cond.castable x x) := by decide +kernel
theorem ht_IS3 : ∀ x ∈ Cond.classLink RX2 98 nIS :: Cond.initialized nIS :: vx_atS RX2 102 nIS hNames, vx_ot x = true := by decide +kernel

set_option maxHeartbeats 4000000 in
set_option maxRecDepth 100000 in
theorem c_X1_isKnownAt (l : Launch) (G : hD) (w : hW) (a : Nat) (id dk st so th va kn en op : Int32) (la ne : Option Nat) (d : Int32) (hc : w a = some (tC id dk st so th va kn en op la ne)) : h_Met l yX1_isKnownAt (Cond.code yX1_isKnownAt cX1_isKnownAt 2 (some .boolean)) { frames := 0, cells := 0, slots := 0, locals := 0 } G [.ref a, .int d] w (fun v w' => v = some (.int (bI (kb kn d))) ∧ w' = w) noX := by
  refine h_met RX1 rfl (by decide) (Nat.le_of_ble_eq_true rfl) (cat_c (by first | rfl | exact rf_cat _) (cat_c (by first | rfl | exact rf_cat _) cat_n)) ?_
  intro p e s m below meth c A C hnt hr hnm
  first | refine g_aload_n C dX1_isKnownAt_0 rfl rfl ?_ | refine g_aload_nN C dX1_isKnownAt_0 rfl rfl ?_ | refine g_aload_nq C dX1_isKnownAt_0 rfl rfl ?_
  refine g_get C dX1_isKnownAt_1 hc rfl kw_X1 6 (by decide) kfX1_28 rfl rfl ?_
  refine g_iload_n C dX1_isKnownAt_4 rfl rfl ?_
  refine g_ishr C dX1_isKnownAt_5 ?_
  refine g_iconst C (v := 1) dX1_isKnownAt_6 (by decide) ?_
  refine g_iand C dX1_isKnownAt_7 ?_
  refine g_iconst C (v := 1) dX1_isKnownAt_8 (by decide) ?_
  refine g_icmp_ne C 16 dX1_isKnownAt_9 (by decide) (fun c9 => ?_) (fun c9 => ?_)
  · refine g_iconst C (v := 0) dX1_isKnownAt_16 (by decide) ?_
    exact g_zret C hr rfl dX1_isKnownAt_17 (by decide) (by decide) ⟨by simp [kb, bI, c9], rfl⟩
  · refine g_iconst C (v := 1) dX1_isKnownAt_12 (by decide) ?_
    refine g_goto C 17 dX1_isKnownAt_13 (by decide) ?_
    exact g_zret C hr rfl dX1_isKnownAt_17 (by decide) (by decide) ⟨by simp [kb, bI, c9], rfl⟩

set_option maxHeartbeats 4000000 in
set_option maxRecDepth 100000 in
theorem c_X1_isEndedAt (l : Launch) (G : hD) (w : hW) (a : Nat) (id dk st so th va kn en op : Int32) (la ne : Option Nat) (d : Int32) (hc : w a = some (tC id dk st so th va kn en op la ne)) : h_Met l yX1_isEndedAt (Cond.code yX1_isEndedAt cX1_isEndedAt 2 (some .boolean)) { frames := 0, cells := 0, slots := 0, locals := 0 } G [.ref a, .int d] w (fun v w' => v = some (.int (bI (kb en d))) ∧ w' = w) noX := by
  refine h_met RX1 rfl (by decide) (Nat.le_of_ble_eq_true rfl) (cat_c (by first | rfl | exact rf_cat _) (cat_c (by first | rfl | exact rf_cat _) cat_n)) ?_
  intro p e s m below meth c A C hnt hr hnm
  first | refine g_aload_n C dX1_isEndedAt_0 rfl rfl ?_ | refine g_aload_nN C dX1_isEndedAt_0 rfl rfl ?_ | refine g_aload_nq C dX1_isEndedAt_0 rfl rfl ?_
  refine g_get C dX1_isEndedAt_1 hc rfl kw_X1 7 (by decide) kfX1_31 rfl rfl ?_
  refine g_iload_n C dX1_isEndedAt_4 rfl rfl ?_
  refine g_ishr C dX1_isEndedAt_5 ?_
  refine g_iconst C (v := 1) dX1_isEndedAt_6 (by decide) ?_
  refine g_iand C dX1_isEndedAt_7 ?_
  refine g_iconst C (v := 1) dX1_isEndedAt_8 (by decide) ?_
  refine g_icmp_ne C 16 dX1_isEndedAt_9 (by decide) (fun c9 => ?_) (fun c9 => ?_)
  · refine g_iconst C (v := 0) dX1_isEndedAt_16 (by decide) ?_
    exact g_zret C hr rfl dX1_isEndedAt_17 (by decide) (by decide) ⟨by simp [kb, bI, c9], rfl⟩
  · refine g_iconst C (v := 1) dX1_isEndedAt_12 (by decide) ?_
    refine g_goto C 17 dX1_isEndedAt_13 (by decide) ?_
    exact g_zret C hr rfl dX1_isEndedAt_17 (by decide) (by decide) ⟨by simp [kb, bI, c9], rfl⟩

/-- by stamp, then by desk -/
def later2 (s1 d1 s2 d2 : Int32) : Bool := cond (decide (s1 = s2)) (!decide (d1 ≤ d2)) (!decide (s1 ≤ s2))
set_option maxHeartbeats 4000000 in
set_option maxRecDepth 100000 in
theorem c_X1_isLaterThan (l : Launch) (G : hD) (w : hW) (a : Nat) (id dk st so th va kn en op : Int32) (la ne : Option Nat) (b : Nat) (id2 dk2 st2 so2 th2 va2 kn2 en2 op2 : Int32) (la2 ne2 : Option Nat)(hc : w a = some (tC id dk st so th va kn en op la ne)) (hc2 : w b = some (tC id2 dk2 st2 so2 th2 va2 kn2 en2 op2 la2 ne2)) : h_Met l yX1_isLaterThan (Cond.code yX1_isLaterThan cX1_isLaterThan 2 (some .boolean)) { frames := 0, cells := 0, slots := 0, locals := 0 } G [.ref a, .ref b] w (fun v w' => v = some (.int (bI (later2 st dk st2 dk2))) ∧ w' = w) noX := by
  refine h_met RX1 rfl (by decide) (Nat.le_of_ble_eq_true rfl) (cat_c (by first | rfl | exact rf_cat _) (cat_c (by first | rfl | exact rf_cat _) cat_n)) ?_
  intro p e s m below meth c A C hnt hr hnm
  first | refine g_aload_n C dX1_isLaterThan_0 rfl rfl ?_ | refine g_aload_nN C dX1_isLaterThan_0 rfl rfl ?_ | refine g_aload_nq C dX1_isLaterThan_0 rfl rfl ?_
  refine g_get C dX1_isLaterThan_1 hc rfl kw_X1 2 (by decide) kfX1_16 rfl rfl ?_
  first | refine g_aload_n C dX1_isLaterThan_4 rfl rfl ?_ | refine g_aload_nN C dX1_isLaterThan_4 rfl rfl ?_ | refine g_aload_nq C dX1_isLaterThan_4 rfl rfl ?_
  refine g_get C dX1_isLaterThan_5 hc2 rfl kw_X1 2 (by decide) kfX1_16 rfl rfl ?_
  refine g_icmp_eq C 30 dX1_isLaterThan_8 (by decide) (fun c8 => ?_) (fun c8 => ?_)
  · first | refine g_aload_n C dX1_isLaterThan_30 rfl rfl ?_ | refine g_aload_nN C dX1_isLaterThan_30 rfl rfl ?_ | refine g_aload_nq C dX1_isLaterThan_30 rfl rfl ?_
    refine g_get C dX1_isLaterThan_31 hc rfl kw_X1 1 (by decide) kfX1_13 rfl rfl ?_
    first | refine g_aload_n C dX1_isLaterThan_34 rfl rfl ?_ | refine g_aload_nN C dX1_isLaterThan_34 rfl rfl ?_ | refine g_aload_nq C dX1_isLaterThan_34 rfl rfl ?_
    refine g_get C dX1_isLaterThan_35 hc2 rfl kw_X1 1 (by decide) kfX1_13 rfl rfl ?_
    refine g_icmp_le C 45 dX1_isLaterThan_38 (by decide) (fun c38 => ?_) (fun c38 => ?_)
    · refine g_iconst C (v := 0) dX1_isLaterThan_45 (by decide) ?_
      exact g_zret C hr rfl dX1_isLaterThan_46 (by decide) (by decide) ⟨by simp [later2, bI, c8, c38], rfl⟩
    · refine g_iconst C (v := 1) dX1_isLaterThan_41 (by decide) ?_
      refine g_goto C 46 dX1_isLaterThan_42 (by decide) ?_
      exact g_zret C hr rfl dX1_isLaterThan_46 (by decide) (by decide) ⟨by simp [later2, bI, c8, c38], rfl⟩
  · first | refine g_aload_n C dX1_isLaterThan_11 rfl rfl ?_ | refine g_aload_nN C dX1_isLaterThan_11 rfl rfl ?_ | refine g_aload_nq C dX1_isLaterThan_11 rfl rfl ?_
    refine g_get C dX1_isLaterThan_12 hc rfl kw_X1 2 (by decide) kfX1_16 rfl rfl ?_
    first | refine g_aload_n C dX1_isLaterThan_15 rfl rfl ?_ | refine g_aload_nN C dX1_isLaterThan_15 rfl rfl ?_ | refine g_aload_nq C dX1_isLaterThan_15 rfl rfl ?_
    refine g_get C dX1_isLaterThan_16 hc2 rfl kw_X1 2 (by decide) kfX1_16 rfl rfl ?_
    refine g_icmp_le C 26 dX1_isLaterThan_19 (by decide) (fun c19 => ?_) (fun c19 => ?_)
    · refine g_iconst C (v := 0) dX1_isLaterThan_26 (by decide) ?_
      refine g_goto C 46 dX1_isLaterThan_27 (by decide) ?_
      exact g_zret C hr rfl dX1_isLaterThan_46 (by decide) (by decide) ⟨by simp [later2, bI, c8, c19], rfl⟩
    · refine g_iconst C (v := 1) dX1_isLaterThan_22 (by decide) ?_
      refine g_goto C 46 dX1_isLaterThan_23 (by decide) ?_
      exact g_zret C hr rfl dX1_isLaterThan_46 (by decide) (by decide) ⟨by simp [later2, bI, c8, c19], rfl⟩

set_option maxHeartbeats 4000000 in
set_option maxRecDepth 100000 in
theorem c_X1_isOfField (l : Launch) (G : hD) (w : hW) (a : Nat) (id dk st so th va kn en op : Int32) (la ne : Option Nat) (x y : Int32) (hc : w a = some (tC id dk st so th va kn en op la ne)) : h_Met l yX1_isOfField (Cond.code yX1_isOfField cX1_isOfField 3 (some .boolean)) { frames := 0, cells := 0, slots := 0, locals := 0 } G [.ref a, .int x, .int y] w (fun v w' => v = some (.int (bI (decide (th = x) && decide (so = y)))) ∧ w' = w) noX := by
  refine h_met RX1 rfl (by decide) (Nat.le_of_ble_eq_true rfl) (cat_c (by first | rfl | exact rf_cat _) (cat_c (by first | rfl | exact rf_cat _) (cat_c (by first | rfl | exact rf_cat _) cat_n))) ?_
  intro p e s m below meth c A C hnt hr hnm
  first | refine g_aload_n C dX1_isOfField_0 rfl rfl ?_ | refine g_aload_nN C dX1_isOfField_0 rfl rfl ?_ | refine g_aload_nq C dX1_isOfField_0 rfl rfl ?_
  refine g_get C dX1_isOfField_1 hc rfl kw_X1 4 (by decide) kfX1_22 rfl rfl ?_
  refine g_iload_n C dX1_isOfField_4 rfl rfl ?_
  refine g_icmp_ne C 20 dX1_isOfField_5 (by decide) (fun c5 => ?_) (fun c5 => ?_)
  · refine g_iconst C (v := 0) dX1_isOfField_20 (by decide) ?_
    exact g_zret C hr rfl dX1_isOfField_21 (by decide) (by decide) ⟨by simp [bI, c5], rfl⟩
  · first | refine g_aload_n C dX1_isOfField_8 rfl rfl ?_ | refine g_aload_nN C dX1_isOfField_8 rfl rfl ?_ | refine g_aload_nq C dX1_isOfField_8 rfl rfl ?_
    refine g_get C dX1_isOfField_9 hc rfl kw_X1 3 (by decide) kfX1_19 rfl rfl ?_
    refine g_iload_n C dX1_isOfField_12 rfl rfl ?_
    refine g_icmp_ne C 20 dX1_isOfField_13 (by decide) (fun c13 => ?_) (fun c13 => ?_)
    · refine g_iconst C (v := 0) dX1_isOfField_20 (by decide) ?_
      exact g_zret C hr rfl dX1_isOfField_21 (by decide) (by decide) ⟨by simp [bI, c5, c13], rfl⟩
    · refine g_iconst C (v := 1) dX1_isOfField_16 (by decide) ?_
      refine g_goto C 21 dX1_isOfField_17 (by decide) ?_
      exact g_zret C hr rfl dX1_isOfField_21 (by decide) (by decide) ⟨by simp [bI, c5, c13], rfl⟩

set_option maxHeartbeats 4000000 in
set_option maxRecDepth 100000 in
theorem c_X1_isForgotten (l : Launch) (G : hD) (w : hW) (a : Nat) (id dk st so th va kn en op : Int32) (la ne : Option Nat)(hc : w a = some (tC id dk st so th va kn en op la ne)) : h_Met l yX1_isForgotten (Cond.code yX1_isForgotten cX1_isForgotten 1 (some .boolean)) { frames := 0, cells := 0, slots := 0, locals := 0 } G [.ref a] w (fun v w' => v = some (.int (bI (decide (kn = 0)))) ∧ w' = w) noX := by
  refine h_met RX1 rfl (by decide) (Nat.le_of_ble_eq_true rfl) (cat_c (by first | rfl | exact rf_cat _) cat_n) ?_
  intro p e s m below meth c A C hnt hr hnm
  first | refine g_aload_n C dX1_isForgotten_0 rfl rfl ?_ | refine g_aload_nN C dX1_isForgotten_0 rfl rfl ?_ | refine g_aload_nq C dX1_isForgotten_0 rfl rfl ?_
  refine g_get C dX1_isForgotten_1 hc rfl kw_X1 6 (by decide) kfX1_28 rfl rfl ?_
  refine g_if_ne C 11 dX1_isForgotten_4 (by decide) (fun c4 => ?_) (fun c4 => ?_)
  · refine g_iconst C (v := 0) dX1_isForgotten_11 (by decide) ?_
    exact g_zret C hr rfl dX1_isForgotten_12 (by decide) (by decide) ⟨by simp [bI, c4], rfl⟩
  · refine g_iconst C (v := 1) dX1_isForgotten_7 (by decide) ?_
    refine g_goto C 12 dX1_isForgotten_8 (by decide) ?_
    exact g_zret C hr rfl dX1_isForgotten_12 (by decide) (by decide) ⟨by simp [bI, c4], rfl⟩

set_option maxHeartbeats 4000000 in
set_option maxRecDepth 100000 in
theorem c_X1_forget (l : Launch) (G : hD) (w : hW) (a : Nat) (id dk st so th va kn en op : Int32) (la ne : Option Nat)(hc : w a = some (tC id dk st so th va kn en op la ne)) : h_Met l yX1_forget (Cond.code yX1_forget cX1_forget 1 none) { frames := 0, cells := 0, slots := 0, locals := 0 } G [.ref a] w (fun v w' => v = none ∧ w' = h_up w a (tC id dk st so th va 0 en op la ne)) noX := by
  refine h_met RX1 rfl (by decide) (Nat.le_of_ble_eq_true rfl) (cat_c (by first | rfl | exact rf_cat _) cat_n) ?_
  intro p e s m below meth c A C hnt hr hnm
  first | refine g_aload_n C dX1_forget_0 rfl rfl ?_ | refine g_aload_nN C dX1_forget_0 rfl rfl ?_ | refine g_aload_nq C dX1_forget_0 rfl rfl ?_
  refine g_iconst C (v := 0) dX1_forget_1 (by decide) ?_
  refine g_put C dX1_forget_2 hc rfl kw_X1 tyX1 tyX1_ok nmX1 6 (by decide) kfX1_28 rfl rfl rfl rfl (Nat.le_of_ble_eq_true rfl) ?_
  exact g_vret C hr dX1_forget_5 (by decide) (by decide) ⟨rfl, rfl⟩

/-- a mask with one more desk -/
def kor (k d : Int32) : Int32 := k ||| ((1 : Int32) <<< (d &&& 31))
set_option maxHeartbeats 4000000 in
set_option maxRecDepth 100000 in
theorem c_X1_endAt (l : Launch) (G : hD) (w : hW) (a : Nat) (id dk st so th va kn en op : Int32) (la ne : Option Nat) (d : Int32) (hc : w a = some (tC id dk st so th va kn en op la ne)) : h_Met l yX1_endAt (Cond.code yX1_endAt cX1_endAt 2 none) { frames := 0, cells := 0, slots := 0, locals := 0 } G [.ref a, .int d] w (fun v w' => v = none ∧ w' = h_up w a (tC id dk st so th va kn (kor en d) op la ne)) noX := by
  refine h_met RX1 rfl (by decide) (Nat.le_of_ble_eq_true rfl) (cat_c (by first | rfl | exact rf_cat _) (cat_c (by first | rfl | exact rf_cat _) cat_n)) ?_
  intro p e s m below meth c A C hnt hr hnm
  first | refine g_aload_n C dX1_endAt_0 rfl rfl ?_ | refine g_aload_nN C dX1_endAt_0 rfl rfl ?_ | refine g_aload_nq C dX1_endAt_0 rfl rfl ?_
  refine g_dup C dX1_endAt_1 rfl ?_
  refine g_get C dX1_endAt_2 hc rfl kw_X1 7 (by decide) kfX1_31 rfl rfl ?_
  refine g_iconst C (v := 1) dX1_endAt_5 (by decide) ?_
  refine g_iload_n C dX1_endAt_6 rfl rfl ?_
  refine g_ishl C dX1_endAt_7 ?_
  refine g_ior C dX1_endAt_8 ?_
  refine g_put C dX1_endAt_9 hc rfl kw_X1 tyX1 tyX1_ok nmX1 7 (by decide) kfX1_31 rfl rfl rfl rfl (Nat.le_of_ble_eq_true rfl) ?_
  exact g_vret C hr dX1_endAt_12 (by decide) (by decide) ⟨rfl, rfl⟩

/-- a mask with what stands at one desk passed to another -/
def kpass (k f t : Int32) : Int32 := k ||| (((k >>> (f &&& 31)) &&& 1) <<< (t &&& 31))
theorem h_up_up (w : hW) (a : Nat) (e f : va_E) : h_up (h_up w a e) a f = h_up w a f := by
  funext q
  unfold h_up
  split <;> rfl
set_option maxHeartbeats 4000000 in
set_option maxRecDepth 100000 in
theorem c_X1_pass (l : Launch) (G : hD) (w : hW) (a : Nat) (id dk st so th va kn en op : Int32) (la ne : Option Nat) (d1 d2 : Int32) (hc : w a = some (tC id dk st so th va kn en op la ne)) : h_Met l yX1_pass (Cond.code yX1_pass cX1_pass 3 none) { frames := 0, cells := 0, slots := 0, locals := 0 } G [.ref a, .int d1, .int d2] w (fun v w' => v = none ∧ w' = h_up w a (tC id dk st so th va (kpass kn d1 d2) (kpass en d1 d2) op la ne)) noX := by
  refine h_met RX1 rfl (by decide) (Nat.le_of_ble_eq_true rfl) (cat_c (by first | rfl | exact rf_cat _) (cat_c (by first | rfl | exact rf_cat _) (cat_c (by first | rfl | exact rf_cat _) cat_n))) ?_
  intro p e s m below meth c A C hnt hr hnm
  first | refine g_aload_n C dX1_pass_0 rfl rfl ?_ | refine g_aload_nN C dX1_pass_0 rfl rfl ?_ | refine g_aload_nq C dX1_pass_0 rfl rfl ?_
  refine g_dup C dX1_pass_1 rfl ?_
  refine g_get C dX1_pass_2 hc rfl kw_X1 6 (by decide) kfX1_28 rfl rfl ?_
  first | refine g_aload_n C dX1_pass_5 rfl rfl ?_ | refine g_aload_nN C dX1_pass_5 rfl rfl ?_ | refine g_aload_nq C dX1_pass_5 rfl rfl ?_
  refine g_get C dX1_pass_6 hc rfl kw_X1 6 (by decide) kfX1_28 rfl rfl ?_
  refine g_iload_n C dX1_pass_9 rfl rfl ?_
  refine g_ishr C dX1_pass_10 ?_
  refine g_iconst C (v := 1) dX1_pass_11 (by decide) ?_
  refine g_iand C dX1_pass_12 ?_
  refine g_iload_n C dX1_pass_13 rfl rfl ?_
  refine g_ishl C dX1_pass_14 ?_
  refine g_ior C dX1_pass_15 ?_
  refine g_put C dX1_pass_16 hc rfl kw_X1 tyX1 tyX1_ok nmX1 6 (by decide) kfX1_28 rfl rfl rfl rfl (Nat.le_of_ble_eq_true rfl) ?_
  first | refine g_aload_n C dX1_pass_19 rfl rfl ?_ | refine g_aload_nN C dX1_pass_19 rfl rfl ?_ | refine g_aload_nq C dX1_pass_19 rfl rfl ?_
  refine g_dup C dX1_pass_20 rfl ?_
  refine g_get C dX1_pass_21 (h_up_s _ _ _) rfl kw_X1 7 (by decide) kfX1_31 rfl rfl ?_
  first | refine g_aload_n C dX1_pass_24 rfl rfl ?_ | refine g_aload_nN C dX1_pass_24 rfl rfl ?_ | refine g_aload_nq C dX1_pass_24 rfl rfl ?_
  refine g_get C dX1_pass_25 (h_up_s _ _ _) rfl kw_X1 7 (by decide) kfX1_31 rfl rfl ?_
  refine g_iload_n C dX1_pass_28 rfl rfl ?_
  refine g_ishr C dX1_pass_29 ?_
  refine g_iconst C (v := 1) dX1_pass_30 (by decide) ?_
  refine g_iand C dX1_pass_31 ?_
  refine g_iload_n C dX1_pass_32 rfl rfl ?_
  refine g_ishl C dX1_pass_33 ?_
  refine g_ior C dX1_pass_34 ?_
  refine g_put C dX1_pass_35 (h_up_s _ _ _) rfl kw_X1 tyX1 tyX1_ok nmX1 7 (by decide) kfX1_31 rfl rfl rfl rfl (Nat.le_of_ble_eq_true rfl) ?_
  refine g_vret C hr dX1_pass_38 (by decide) (by decide) ⟨rfl, ?_⟩
  exact h_up_up _ _ _ _

set_option maxHeartbeats 4000000 in
set_option maxRecDepth 100000 in
theorem c_X1_init (l : Launch) (G : hD) (w : hW) (a : Nat) (id dk st so th va kn en op : Int32) (la ne : Option Nat) (id' dk' st' so' th' va' : Int32) (hc : w a = some (tC id dk st so th va kn en op la ne)) : h_Met l yX1_init (Cond.code yX1_init cX1_init 7 none) { frames := 1, cells := 0, slots := 0, locals := 12 } G [.ref a, .int id', .int dk', .int st', .int so', .int th', .int va'] w (fun v w' => v = none ∧ w' = h_up w a (tC id' dk' st' so' th' va' ((1 : Int32) <<< (dk' &&& 31)) 0 0 none none)) noX := by
  refine h_met RX1 rfl (by decide) (Nat.le_of_ble_eq_true rfl) (cat_c (by first | rfl | exact rf_cat _) (cat_c (by first | rfl | exact rf_cat _) (cat_c (by first | rfl | exact rf_cat _) (cat_c (by first | rfl | exact rf_cat _) (cat_c (by first | rfl | exact rf_cat _) (cat_c (by first | rfl | exact rf_cat _) (cat_c (by first | rfl | exact rf_cat _) cat_n))))))) ?_
  intro p e s m below meth c A C hnt hr hnm
  first | refine g_aload_n C dX1_init_0 rfl rfl ?_ | refine g_aload_nN C dX1_init_0 rfl rfl ?_ | refine g_aload_nq C dX1_init_0 rfl rfl ?_
  refine g_objInit C dX1_init_1 kmX1_1 (by decide) (Nat.le_of_ble_eq_true rfl) ?_
  first | refine g_aload_n C dX1_init_4 rfl rfl ?_ | refine g_aload_nN C dX1_init_4 rfl rfl ?_ | refine g_aload_nq C dX1_init_4 rfl rfl ?_
  refine g_iload_n C dX1_init_5 rfl rfl ?_
  refine g_putF C dX1_init_6 hc rfl kw_X1 tyX1 tyX1_ok nmX1 0 (by decide) kfX1_7 rfl rfl hnm rfl rfl rfl (Nat.le_of_ble_eq_true rfl) ?_
  first | refine g_aload_n C dX1_init_9 rfl rfl ?_ | refine g_aload_nN C dX1_init_9 rfl rfl ?_ | refine g_aload_nq C dX1_init_9 rfl rfl ?_
  refine g_iload_n C dX1_init_10 rfl rfl ?_
  refine g_putF C dX1_init_11 (h_up_s _ _ _) rfl kw_X1 tyX1 tyX1_ok nmX1 1 (by decide) kfX1_13 rfl rfl hnm rfl rfl rfl (Nat.le_of_ble_eq_true rfl) ?_
  first | refine g_aload_n C dX1_init_14 rfl rfl ?_ | refine g_aload_nN C dX1_init_14 rfl rfl ?_ | refine g_aload_nq C dX1_init_14 rfl rfl ?_
  refine g_iload_n C dX1_init_15 rfl rfl ?_
  refine g_putF C dX1_init_16 (h_up_s _ _ _) rfl kw_X1 tyX1 tyX1_ok nmX1 2 (by decide) kfX1_16 rfl rfl hnm rfl rfl rfl (Nat.le_of_ble_eq_true rfl) ?_
  first | refine g_aload_n C dX1_init_19 rfl rfl ?_ | refine g_aload_nN C dX1_init_19 rfl rfl ?_ | refine g_aload_nq C dX1_init_19 rfl rfl ?_
  refine g_iload C dX1_init_20 rfl ?_
  refine g_putF C dX1_init_22 (h_up_s _ _ _) rfl kw_X1 tyX1 tyX1_ok nmX1 3 (by decide) kfX1_19 rfl rfl hnm rfl rfl rfl (Nat.le_of_ble_eq_true rfl) ?_
  first | refine g_aload_n C dX1_init_25 rfl rfl ?_ | refine g_aload_nN C dX1_init_25 rfl rfl ?_ | refine g_aload_nq C dX1_init_25 rfl rfl ?_
  refine g_iload C dX1_init_26 rfl ?_
  refine g_putF C dX1_init_28 (h_up_s _ _ _) rfl kw_X1 tyX1 tyX1_ok nmX1 4 (by decide) kfX1_22 rfl rfl hnm rfl rfl rfl (Nat.le_of_ble_eq_true rfl) ?_
  first | refine g_aload_n C dX1_init_31 rfl rfl ?_ | refine g_aload_nN C dX1_init_31 rfl rfl ?_ | refine g_aload_nq C dX1_init_31 rfl rfl ?_
  refine g_iload C dX1_init_32 rfl ?_
  refine g_putF C dX1_init_34 (h_up_s _ _ _) rfl kw_X1 tyX1 tyX1_ok nmX1 5 (by decide) kfX1_25 rfl rfl hnm rfl rfl rfl (Nat.le_of_ble_eq_true rfl) ?_
  first | refine g_aload_n C dX1_init_37 rfl rfl ?_ | refine g_aload_nN C dX1_init_37 rfl rfl ?_ | refine g_aload_nq C dX1_init_37 rfl rfl ?_
  refine g_iconst C (v := 1) dX1_init_38 (by decide) ?_
  refine g_iload_n C dX1_init_39 rfl rfl ?_
  refine g_ishl C dX1_init_40 ?_
  refine g_put C dX1_init_41 (h_up_s _ _ _) rfl kw_X1 tyX1 tyX1_ok nmX1 6 (by decide) kfX1_28 rfl rfl rfl rfl (Nat.le_of_ble_eq_true rfl) ?_
  first | refine g_aload_n C dX1_init_44 rfl rfl ?_ | refine g_aload_nN C dX1_init_44 rfl rfl ?_ | refine g_aload_nq C dX1_init_44 rfl rfl ?_
  refine g_iconst C (v := 0) dX1_init_45 (by decide) ?_
  refine g_put C dX1_init_46 (h_up_s _ _ _) rfl kw_X1 tyX1 tyX1_ok nmX1 7 (by decide) kfX1_31 rfl rfl rfl rfl (Nat.le_of_ble_eq_true rfl) ?_
  first | refine g_aload_n C dX1_init_49 rfl rfl ?_ | refine g_aload_nN C dX1_init_49 rfl rfl ?_ | refine g_aload_nq C dX1_init_49 rfl rfl ?_
  refine g_iconst C (v := 0) dX1_init_50 (by decide) ?_
  refine g_put C dX1_init_51 (h_up_s _ _ _) rfl kw_X1 tyX1 tyX1_ok nmX1 8 (by decide) kfX1_34 rfl rfl rfl rfl (Nat.le_of_ble_eq_true rfl) ?_
  first | refine g_aload_n C dX1_init_54 rfl rfl ?_ | refine g_aload_nN C dX1_init_54 rfl rfl ?_ | refine g_aload_nq C dX1_init_54 rfl rfl ?_
  refine g_null C dX1_init_55 ?_
  refine g_put C dX1_init_56 (h_up_s _ _ _) rfl kw_X1 tyX1 tyX1_ok nmX1 9 (by decide) kfX1_38 rfl rfl rfl rfl (Nat.le_of_ble_eq_true rfl) ?_
  first | refine g_aload_n C dX1_init_59 rfl rfl ?_ | refine g_aload_nN C dX1_init_59 rfl rfl ?_ | refine g_aload_nq C dX1_init_59 rfl rfl ?_
  refine g_null C dX1_init_60 ?_
  refine g_put C dX1_init_61 (h_up_s _ _ _) rfl kw_X1 tyX1 tyX1_ok nmX1 10 (by decide) kfX1_42 rfl rfl rfl rfl (Nat.le_of_ble_eq_true rfl) ?_
  refine g_vret C hr dX1_init_64 (by decide) (by decide) ⟨rfl, ?_⟩
  simp only [h_up_up]
  rfl

set_option maxHeartbeats 4000000 in
set_option maxRecDepth 100000 in
theorem c_X2_requireDesk (l : Launch) (G : hD) (w : hW) (d : Int32) : h_Met l yX2_requireDesk (Cond.code yX2_requireDesk cX2_requireDesk 1 none) { frames := 6, cells := 1, slots := 6, locals := 82 } G [.int d] w (fun v w' => v = none ∧ w' = w ∧ ¬ d < 0 ∧ d < 6) (fun E => E = nNS ∧ ¬ (¬ d < 0 ∧ d < 6)) := by
  refine h_met RX2 rfl (by decide) (Nat.le_of_ble_eq_true rfl) (cat_c (by first | rfl | exact rf_cat _) cat_n) ?_
  intro p e s m below meth c A C hnt hr hnm
  refine g_iload_n C dX2_requireDesk_0 rfl rfl ?_
  refine g_if_lt C 10 dX2_requireDesk_1 (by decide) (fun c1 => ?_) (fun c1 => ?_)
  · exact g_throwNS C hnt rfl dX2_requireDesk_10 dX2_requireDesk_13 dX2_requireDesk_14 dX2_requireDesk_16 dX2_requireDesk_19 (List.mem_of_getElem? (i := 0) rfl) (by decide) (by decide) (by decide) (by decide) (by decide) (by decide) (⟨rfl, by simp [c1]⟩) rfl
  · refine g_iload_n C dX2_requireDesk_4 rfl rfl ?_
    refine g_bipush C (v := 6) dX2_requireDesk_5 (by decide) ?_
    refine g_icmp_lt C 20 dX2_requireDesk_7 (by decide) (fun c7 => ?_) (fun c7 => ?_)
    · exact g_vret C hr dX2_requireDesk_20 (by decide) (by decide) ⟨rfl, rfl, by simp [c1, c7]⟩
    · exact g_throwNS C hnt rfl dX2_requireDesk_10 dX2_requireDesk_13 dX2_requireDesk_14 dX2_requireDesk_16 dX2_requireDesk_19 (List.mem_of_getElem? (i := 0) rfl) (by decide) (by decide) (by decide) (by decide) (by decide) (by decide) (⟨rfl, by simp [c1, c7]⟩) rfl

set_option maxHeartbeats 4000000 in
set_option maxRecDepth 100000 in
theorem c_X2_requireThing (l : Launch) (G : hD) (w : hW) (d : Int32) : h_Met l yX2_requireThing (Cond.code yX2_requireThing cX2_requireThing 1 none) { frames := 6, cells := 1, slots := 6, locals := 82 } G [.int d] w (fun v w' => v = none ∧ w' = w ∧ ¬ d < 0 ∧ d < 16) (fun E => E = nNS ∧ ¬ (¬ d < 0 ∧ d < 16)) := by
  refine h_met RX2 rfl (by decide) (Nat.le_of_ble_eq_true rfl) (cat_c (by first | rfl | exact rf_cat _) cat_n) ?_
  intro p e s m below meth c A C hnt hr hnm
  refine g_iload_n C dX2_requireThing_0 rfl rfl ?_
  refine g_if_lt C 10 dX2_requireThing_1 (by decide) (fun c1 => ?_) (fun c1 => ?_)
  · exact g_throwNS C hnt rfl dX2_requireThing_10 dX2_requireThing_13 dX2_requireThing_14 dX2_requireThing_16 dX2_requireThing_19 (List.mem_of_getElem? (i := 1) rfl) (by decide) (by decide) (by decide) (by decide) (by decide) (by decide) (⟨rfl, by simp [c1]⟩) rfl
  · refine g_iload_n C dX2_requireThing_4 rfl rfl ?_
    refine g_bipush C (v := 16) dX2_requireThing_5 (by decide) ?_
    refine g_icmp_lt C 20 dX2_requireThing_7 (by decide) (fun c7 => ?_) (fun c7 => ?_)
    · exact g_vret C hr dX2_requireThing_20 (by decide) (by decide) ⟨rfl, rfl, by simp [c1, c7]⟩
    · exact g_throwNS C hnt rfl dX2_requireThing_10 dX2_requireThing_13 dX2_requireThing_14 dX2_requireThing_16 dX2_requireThing_19 (List.mem_of_getElem? (i := 1) rfl) (by decide) (by decide) (by decide) (by decide) (by decide) (by decide) (⟨rfl, by simp [c1, c7]⟩) rfl

set_option maxHeartbeats 4000000 in
set_option maxRecDepth 100000 in
theorem c_X2_requireContext (l : Launch) (G : hD) (w : hW) (d : Int32) : h_Met l yX2_requireContext (Cond.code yX2_requireContext cX2_requireContext 1 none) { frames := 6, cells := 1, slots := 6, locals := 82 } G [.int d] w (fun v w' => v = none ∧ w' = w ∧ ¬ d < 0 ∧ d < 16) (fun E => E = nNS ∧ ¬ (¬ d < 0 ∧ d < 16)) := by
  refine h_met RX2 rfl (by decide) (Nat.le_of_ble_eq_true rfl) (cat_c (by first | rfl | exact rf_cat _) cat_n) ?_
  intro p e s m below meth c A C hnt hr hnm
  refine g_iload_n C dX2_requireContext_0 rfl rfl ?_
  refine g_if_lt C 10 dX2_requireContext_1 (by decide) (fun c1 => ?_) (fun c1 => ?_)
  · exact g_throwNS C hnt rfl dX2_requireContext_10 dX2_requireContext_13 dX2_requireContext_14 dX2_requireContext_16 dX2_requireContext_19 (List.mem_of_getElem? (i := 9) rfl) (by decide) (by decide) (by decide) (by decide) (by decide) (by decide) (⟨rfl, by simp [c1]⟩) rfl
  · refine g_iload_n C dX2_requireContext_4 rfl rfl ?_
    refine g_bipush C (v := 16) dX2_requireContext_5 (by decide) ?_
    refine g_icmp_lt C 20 dX2_requireContext_7 (by decide) (fun c7 => ?_) (fun c7 => ?_)
    · exact g_vret C hr dX2_requireContext_20 (by decide) (by decide) ⟨rfl, rfl, by simp [c1, c7]⟩
    · exact g_throwNS C hnt rfl dX2_requireContext_10 dX2_requireContext_13 dX2_requireContext_14 dX2_requireContext_16 dX2_requireContext_19 (List.mem_of_getElem? (i := 9) rfl) (by decide) (by decide) (by decide) (by decide) (by decide) (by decide) (⟨rfl, by simp [c1, c7]⟩) rfl

set_option maxHeartbeats 4000000 in
set_option maxRecDepth 100000 in
theorem c_X2_requireOrdinal (l : Launch) (G : hD) (w : hW) (d : Int32) : h_Met l yX2_requireOrdinal (Cond.code yX2_requireOrdinal cX2_requireOrdinal 1 none) { frames := 6, cells := 1, slots := 6, locals := 82 } G [.int d] w (fun v w' => v = none ∧ w' = w ∧ ¬ d < 0) (fun E => E = nNS ∧ ¬ (¬ d < 0)) := by
  refine h_met RX2 rfl (by decide) (Nat.le_of_ble_eq_true rfl) (cat_c (by first | rfl | exact rf_cat _) cat_n) ?_
  intro p e s m below meth c A C hnt hr hnm
  refine g_iload_n C dX2_requireOrdinal_0 rfl rfl ?_
  refine g_if_ge C 14 dX2_requireOrdinal_1 (by decide) (fun c1 => ?_) (fun c1 => ?_)
  · exact g_vret C hr dX2_requireOrdinal_14 (by decide) (by decide) ⟨rfl, rfl, by simp [c1]⟩
  · exact g_throwNS C hnt rfl dX2_requireOrdinal_4 dX2_requireOrdinal_7 dX2_requireOrdinal_8 dX2_requireOrdinal_10 dX2_requireOrdinal_13 (List.mem_of_getElem? (i := 12) rfl) (by decide) (by decide) (by decide) (by decide) (by decide) (by decide) (⟨rfl, by simp [c1]⟩) rfl

set_option maxHeartbeats 4000000 in
set_option maxRecDepth 100000 in
theorem c_X2_requireField (l : Launch) (G : hD) (w : hW) (d x : Int32) : h_Met l yX2_requireField (Cond.code yX2_requireField cX2_requireField 2 none) { frames := 6, cells := 1, slots := 6, locals := 82 } G [.int d, .int x] w (fun v w' => v = none ∧ w' = w ∧ ¬ d < 0 ∧ ¬ x < d) (fun E => E = nNS ∧ ¬ (¬ d < 0 ∧ ¬ x < d)) := by
  refine h_met RX2 rfl (by decide) (Nat.le_of_ble_eq_true rfl) (cat_c (by first | rfl | exact rf_cat _) (cat_c (by first | rfl | exact rf_cat _) cat_n)) ?_
  intro p e s m below meth c A C hnt hr hnm
  refine g_iload_n C dX2_requireField_0 rfl rfl ?_
  refine g_if_lt C 9 dX2_requireField_1 (by decide) (fun c1 => ?_) (fun c1 => ?_)
  · exact g_throwNS C hnt rfl dX2_requireField_9 dX2_requireField_12 dX2_requireField_13 dX2_requireField_15 dX2_requireField_18 (List.mem_of_getElem? (i := 2) rfl) (by decide) (by decide) (by decide) (by decide) (by decide) (by decide) (⟨rfl, by simp [c1]⟩) rfl
  · refine g_iload_n C dX2_requireField_4 rfl rfl ?_
    refine g_iload_n C dX2_requireField_5 rfl rfl ?_
    refine g_icmp_le C 19 dX2_requireField_6 (by decide) (fun c6 => ?_) (fun c6 => ?_)
    · exact g_vret C hr dX2_requireField_19 (by decide) (by decide) ⟨rfl, rfl, by simp [c1, c6]⟩
    · exact g_throwNS C hnt rfl dX2_requireField_9 dX2_requireField_12 dX2_requireField_13 dX2_requireField_15 dX2_requireField_18 (List.mem_of_getElem? (i := 2) rfl) (by decide) (by decide) (by decide) (by decide) (by decide) (by decide) (⟨rfl, by simp [c1, c6]⟩) rfl

set_option maxHeartbeats 4000000 in
set_option maxRecDepth 100000 in
theorem c_X2_requireValue (l : Launch) (G : hD) (w : hW) (d x : Int32) : h_Met l yX2_requireValue (Cond.code yX2_requireValue cX2_requireValue 2 none) { frames := 6, cells := 1, slots := 6, locals := 82 } G [.int d, .int x] w (fun v w' => v = none ∧ w' = w ∧ ¬ d < 0 ∧ d < x) (fun E => E = nIA ∧ ¬ (¬ d < 0 ∧ d < x)) := by
  refine h_met RX2 rfl (by decide) (Nat.le_of_ble_eq_true rfl) (cat_c (by first | rfl | exact rf_cat _) (cat_c (by first | rfl | exact rf_cat _) cat_n)) ?_
  intro p e s m below meth c A C hnt hr hnm
  refine g_iload_n C dX2_requireValue_0 rfl rfl ?_
  refine g_if_lt C 9 dX2_requireValue_1 (by decide) (fun c1 => ?_) (fun c1 => ?_)
  · exact g_throw C hnt rfl dX2_requireValue_9 dX2_requireValue_12 dX2_requireValue_13 dX2_requireValue_15 dX2_requireValue_18 (by decide +kernel) klX2_68 kn_IllegalArgumentException (List.mem_of_getElem? (i := 3) rfl) ht_IA1 ht_IA2 ht_IA3 (by decide) (by decide) (by decide) (by decide) (by decide) (by decide) (⟨rfl, by simp [c1]⟩) rfl
  · refine g_iload_n C dX2_requireValue_4 rfl rfl ?_
    refine g_iload_n C dX2_requireValue_5 rfl rfl ?_
    refine g_icmp_lt C 19 dX2_requireValue_6 (by decide) (fun c6 => ?_) (fun c6 => ?_)
    · exact g_vret C hr dX2_requireValue_19 (by decide) (by decide) ⟨rfl, rfl, by simp [c1, c6]⟩
    · exact g_throw C hnt rfl dX2_requireValue_9 dX2_requireValue_12 dX2_requireValue_13 dX2_requireValue_15 dX2_requireValue_18 (by decide +kernel) klX2_68 kn_IllegalArgumentException (List.mem_of_getElem? (i := 3) rfl) ht_IA1 ht_IA2 ht_IA3 (by decide) (by decide) (by decide) (by decide) (by decide) (by decide) (⟨rfl, by simp [c1, c6]⟩) rfl
end
section
/-! ===== Contexts: which contexts are over which, a mask a context ===== -/
theorem bI_z {b : Bool} : bI b = 0 ↔ b = false := by cases b <;> simp [bI]
theorem bI_nz {b : Bool} : ¬ bI b = 0 ↔ b = true := by cases b <;> simp [bI]
theorem h_up_self {w : hW} {a : Nat} {e : va_E} (h : w a = some e) : h_up w a e = w := by
  funext q
  by_cases hq : q = a
  · rw [hq, h_up_s, h]
  · exact h_up_n hq
def isCtx (d : Int32) : Bool := !decide (d < 0) && decide (d < 16)
theorem isCtx_nI {x : Nat} (h : x < 16) : isCtx (nI x) = true := by
  have h1 : ¬ nI x < 0 := nI_pos (by omega)
  have h2 : nI x < nI 16 := nI_lt h (by omega)
  have h3 : nI x < 16 := h2
  simp [isCtx, h1, h3]
theorem isCtx_in {d : Int32} (h : isCtx d = true) : vp_in d 16 := by
  simp only [isCtx, Bool.and_eq_true, Bool.not_eq_true', decide_eq_false_iff_not, decide_eq_true_eq] at h
  rw [vp_in_iff]
  have h1 := h.1
  have h2 := h.2
  rw [Int32.lt_iff_toInt_lt] at h1 h2
  simp at h1 h2
  omega
abbrev hCx (G : hD) (cx un : Nat) (f : Nat → Int32) (w : hW) : Prop := w cx = some (eO 0 [.ref un]) ∧ w un = some (eI G 16 f)

set_option maxHeartbeats 4000000 in
set_option maxRecDepth 100000 in
theorem c_X0_isContext (l : Launch) (G : hD) (w : hW) (d : Int32) : h_Met l yX0_isContext (Cond.code yX0_isContext cX0_isContext 1 (some .boolean)) { frames := 0, cells := 0, slots := 0, locals := 0 } G [.int d] w (fun v w' => v = some (.int (bI (isCtx d))) ∧ w' = w) noX := by
  refine h_met RX0 rfl (by decide) (Nat.le_of_ble_eq_true rfl) (cat_c (by first | rfl | exact rf_cat _) cat_n) ?_
  intro p e s m below meth c A C hnt hr hnm
  refine g_iload_n C dX0_isContext_0 rfl rfl ?_
  refine g_if_lt C 14 dX0_isContext_1 (by decide) (fun c1 => ?_) (fun c1 => ?_)
  · refine g_iconst C (v := 0) dX0_isContext_14 (by decide) ?_
    exact g_zret C hr rfl dX0_isContext_15 (by decide) (by decide) ⟨by simp [isCtx, bI, c1], rfl⟩
  · refine g_iload_n C dX0_isContext_4 rfl rfl ?_
    refine g_bipush C (v := 16) dX0_isContext_5 (by decide) ?_
    refine g_icmp_ge C 14 dX0_isContext_7 (by decide) (fun c7 => ?_) (fun c7 => ?_)
    · have c7 := Int32.not_lt.mpr c7
      refine g_iconst C (v := 0) dX0_isContext_14 (by decide) ?_
      exact g_zret C hr rfl dX0_isContext_15 (by decide) (by decide) ⟨by simp [isCtx, bI, c1, c7], rfl⟩
    · have c7 := Int32.not_le.mp c7
      refine g_iconst C (v := 1) dX0_isContext_10 (by decide) ?_
      refine g_goto C 15 dX0_isContext_11 (by decide) ?_
      exact g_zret C hr rfl dX0_isContext_15 (by decide) (by decide) ⟨by simp [isCtx, bI, c1, c7], rfl⟩

set_option maxHeartbeats 4000000 in
set_option maxRecDepth 100000 in
theorem c_X0_isOver (l : Launch) (G : hD) (w : hW) (cx un : Nat) (f : Nat → Int32) (hcx : w cx = some (eO 0 [.ref un])) (hun : w un = some (eI G 16 f)) (x y : Int32) : h_Met l yX0_isOver (Cond.code yX0_isOver cX0_isOver 3 (some .boolean)) { frames := 1, cells := 0, slots := 0, locals := 20 } G [.ref cx, .int x, .int y] w (fun v w' => v = some (.int (bI (isCtx x && kb (f x.toNatClampNeg) y))) ∧ w' = w) noX := by
  refine h_met RX0 rfl (by decide) (Nat.le_of_ble_eq_true rfl) (cat_c (by first | rfl | exact rf_cat _) (cat_c (by first | rfl | exact rf_cat _) (cat_c (by first | rfl | exact rf_cat _) cat_n))) ?_
  intro p e s m below meth c A C hnt hr hnm
  refine g_iload_n C dX0_isOver_0 rfl rfl ?_
  refine g_callSn C _ dX0_isOver_1 (c_X0_isContext l G _ _) kmX0_15 ks_X0_isContext kn_X0 kc_X0_isContext hy_X0_isContext ⟨by decide, by decide⟩ rfl (Nat.le_of_ble_eq_true rfl) ⟨by decide, by decide⟩ (fun v w1 hp => ?_)
  obtain ⟨rfl, hw1⟩ := hp
  have hw1 := hw1.symm
  subst hw1
  refine g_if_eq C 25 dX0_isOver_4 (by decide) (fun c4 => ?_) (fun c4 => ?_)
  · have c4 := bI_z.mp c4
    refine g_iconst C (v := 0) dX0_isOver_25 (by decide) ?_
    exact g_zret C hr rfl dX0_isOver_26 (by decide) (by decide) ⟨by simp [kb, bI, c4], rfl⟩
  · have c4 := bI_nz.mp c4
    first | refine g_aload_n C dX0_isOver_7 rfl rfl ?_ | refine g_aload_nN C dX0_isOver_7 rfl rfl ?_ | refine g_aload_nq C dX0_isOver_7 rfl rfl ?_
    refine g_get C dX0_isOver_8 hcx rfl kw_X0 0 (by decide) kfX0_9 rfl rfl ?_
    refine g_iload_n C dX0_isOver_11 rfl rfl ?_
    refine g_iald C dX0_isOver_12 hun (isCtx_in c4) ?_
    refine g_iload_n C dX0_isOver_13 rfl rfl ?_
    refine g_ishr C dX0_isOver_14 ?_
    refine g_iconst C (v := 1) dX0_isOver_15 (by decide) ?_
    refine g_iand C dX0_isOver_16 ?_
    refine g_iconst C (v := 1) dX0_isOver_17 (by decide) ?_
    refine g_icmp_ne C 25 dX0_isOver_18 (by decide) (fun c18 => ?_) (fun c18 => ?_)
    · refine g_iconst C (v := 0) dX0_isOver_25 (by decide) ?_
      exact g_zret C hr rfl dX0_isOver_26 (by decide) (by decide) ⟨by simp [kb, bI, c4, c18], rfl⟩
    · refine g_iconst C (v := 1) dX0_isOver_21 (by decide) ?_
      refine g_goto C 26 dX0_isOver_22 (by decide) ?_
      exact g_zret C hr rfl dX0_isOver_26 (by decide) (by decide) ⟨by simp [kb, bI, c4, c18], rfl⟩

set_option maxHeartbeats 4000000 in
set_option maxRecDepth 100000 in
theorem c_X0_clear (l : Launch) (G : hD) (w : hW) (cx un : Nat) (f : Nat → Int32) (hcx : w cx = some (eO 0 [.ref un])) (hun : w un = some (eI G 16 f)) : h_Met l yX0_clear (Cond.code yX0_clear cX0_clear 2 none) { frames := 0, cells := 0, slots := 0, locals := 0 } G [.ref cx] w (fun v w' => v = none ∧ ∃ g : Nat → Int32, (∀ j, j < 16 → g j = 0) ∧ w' = h_up w un (eI G 16 g)) noX := by
  refine h_met RX0 rfl (by decide) (Nat.le_of_ble_eq_true rfl) (cat_c (by first | rfl | exact rf_cat _) cat_n) ?_
  intro p e s m below meth c A C hnt hr hnm
  have hne : cx ≠ un := fun h => by rw [h, hun] at hcx; cases hcx
  refine g_iconst C (v := 0) dX0_clear_0 (by decide) ?_
  refine g_istore_n C dX0_clear_1 rfl (by decide) ?_
  refine g_w (h_up_self hun) ?_
  refine g_loop (σ := Nat × (Nat → Int32)) (fun x => x.1 ≤ 16 ∧ ∀ j, j < x.1 → x.2 j = 0) (fun x => 16 - x.1) (fun x => h_up w un (eI G 16 x.2)) (fun x => [(0, .ref cx), (1, .int (nI x.1))]) ?_ (0, f) ⟨Nat.zero_le _, fun j hj => absurd hj (Nat.not_lt_zero j)⟩
  rintro ⟨k, g⟩ ⟨hk, hg⟩ ih
  dsimp only at hk hg ih ⊢
  have hcx' : h_up w un (eI G 16 g) cx = some (eO 0 [.ref un]) := (h_up_n hne).trans hcx
  refine g_iload_n C dX0_clear_2 rfl rfl ?_
  first | refine g_aload_n C dX0_clear_3 rfl rfl ?_ | refine g_aload_nN C dX0_clear_3 rfl rfl ?_ | refine g_aload_nq C dX0_clear_3 rfl rfl ?_
  refine g_get C dX0_clear_4 hcx' rfl kw_X0 0 (by decide) kfX0_9 rfl rfl ?_
  refine g_alen C 0 dX0_clear_7 (h_up_s _ _ _) rfl rfl ?_
  refine g_icmp_ge C 24 dX0_clear_8 (by decide) (fun c8 => ?_) (fun c8 => ?_)
  · have hge : 16 ≤ k := (nI_leI (by omega) (by omega)).mp c8
    exact g_vret C hr dX0_clear_24 (by decide) (by decide) ⟨rfl, g, fun j hj => hg j (by omega), rfl⟩
  · have hlt : k < 16 := by
      have := mt (nI_leI (a := 16) (b := k) (by omega) (by omega)).mpr c8
      omega
    first | refine g_aload_n C dX0_clear_11 rfl rfl ?_ | refine g_aload_nN C dX0_clear_11 rfl rfl ?_ | refine g_aload_nq C dX0_clear_11 rfl rfl ?_
    refine g_get C dX0_clear_12 hcx' rfl kw_X0 0 (by decide) kfX0_9 rfl rfl ?_
    refine g_iload_n C dX0_clear_15 rfl rfl ?_
    refine g_iconst C (v := 0) dX0_clear_16 (by decide) ?_
    refine g_iastN C dX0_clear_17 (h_up_s _ _ _) hlt (by decide) ?_
    refine g_iinc C (v := nI (k + 1)) dX0_clear_18 rfl (nI_1 k) (by decide) ?_
    refine g_goto C 2 dX0_clear_21 (by decide) ?_
    rw [h_up_up]
    exact ih (k + 1, upd g k 0) ⟨by omega, fun j hj => by
        by_cases hjk : j = k
        · subst hjk; exact pk_us
        · show upd g k 0 j = 0
          rw [pk_un hjk]; exact hg j (Nat.lt_of_le_of_ne (Nat.le_of_lt_succ hj) hjk)⟩ (by omega)

/-- the masks behind a relation taken, up to place k -/
def tkF (f : Nat → Int32) (x : Nat) (g : Int32) (k : Nat) : Nat → Int32 := fun j => cond (decide (j < k) && (decide (j = x) || kb (f j) (nI x))) (f j ||| g) (f j)
theorem tkF_0 (f : Nat → Int32) (x : Nat) (g : Int32) : tkF f x g 0 = f := by funext j; simp [tkF]
theorem tkF_y {f : Nat → Int32} {x : Nat} {g : Int32} {k : Nat} (h : (decide (k = x) || kb (f k) (nI x)) = true) : upd (tkF f x g k) k (tkF f x g k k ||| g) = tkF f x g (k + 1) := by
  funext j
  by_cases hj : j = k
  · subst hj
    rw [pk_us]
    simp only [tkF, Nat.lt_irrefl, decide_false, Bool.false_and, cond_false, Nat.lt_succ_self, decide_true, Bool.true_and, h, cond_true]
  · rw [pk_un hj]
    have e : decide (j < k + 1) = decide (j < k) := by
      rw [decide_eq_decide]; omega
    simp only [tkF, e]
theorem tkF_n {f : Nat → Int32} {x : Nat} {g : Int32} {k : Nat} (h : (decide (k = x) || kb (f k) (nI x)) = false) : tkF f x g k = tkF f x g (k + 1) := by
  funext j
  by_cases hj : j = k
  · subst hj
    simp [tkF, h]
  · have e : decide (j < k + 1) = decide (j < k) := by
      rw [decide_eq_decide]; omega
    simp only [tkF, e]

theorem tkF_k (f : Nat → Int32) (x : Nat) (g : Int32) (k : Nat) : tkF f x g k k = f k := by simp [tkF]
theorem nI_nge {a b : Nat} (h : ¬ nI b ≤ nI a) (ha : a < 2 ^ 31) (hb : b < 2 ^ 31) : a < b := by
  have := mt (nI_leI (a := b) (b := a) hb ha).mpr h
  omega
set_option maxHeartbeats 4000000 in
set_option maxRecDepth 100000 in
theorem c_X0_take (l : Launch) (G : hD) (w : hW) (cx un : Nat) (f : Nat → Int32) (hcx : w cx = some (eO 0 [.ref un])) (hun : w un = some (eI G 16 f)) (x y : Nat) (hx : x < 16) (hy : y < 16) (hxy : x ≠ y) : h_Met l yX0_take (Cond.code yX0_take cX0_take 5 (some .boolean)) { frames := 2, cells := 0, slots := 0, locals := 42 } G [.ref cx, .int (nI x), .int (nI y)] w (fun v w' => (kb (f y) (nI x) = true ∧ v = some (.int 0) ∧ w' = w) ∨ (kb (f y) (nI x) = false ∧ v = some (.int 1) ∧ w' = h_up w un (eI G 16 (tkF f x (f y ||| ((1 : Int32) <<< (nI y &&& 31))) 16)))) noX := by
  refine h_met RX0 rfl (by decide) (Nat.le_of_ble_eq_true rfl) (cat_c (by first | rfl | exact rf_cat _) (cat_c (by first | rfl | exact rf_cat _) (cat_c (by first | rfl | exact rf_cat _) cat_n))) ?_
  intro p e s m below meth c A C hnt hr hnm
  have hne : cx ≠ un := fun h => by rw [h, hun] at hcx; cases hcx
  refine g_iload_n C dX0_take_0 rfl rfl ?_
  refine g_callSn C _ dX0_take_1 (c_X0_isContext l G _ _) kmX0_15 ks_X0_isContext kn_X0 kc_X0_isContext hy_X0_isContext ⟨by decide, by decide⟩ rfl (Nat.le_of_ble_eq_true rfl) ⟨by decide, by decide⟩ (fun v w1 hp => ?_)
  obtain ⟨rfl, hw1⟩ := hp
  have hw1 := hw1.symm
  subst hw1
  refine g_if_eq C 28 dX0_take_4 (by decide) (fun c4 => ?_) (fun c4 => ?_)
  · have c4 := bI_z.mp c4
    refine g_iconst C (v := 0) dX0_take_28 (by decide) ?_
    exact absurd c4 (by simp [isCtx_nI hx])
  · have c4 := bI_nz.mp c4
    refine g_iload_n C dX0_take_7 rfl rfl ?_
    refine g_callSn C _ dX0_take_8 (c_X0_isContext l G _ _) kmX0_15 ks_X0_isContext kn_X0 kc_X0_isContext hy_X0_isContext ⟨by decide, by decide⟩ rfl (Nat.le_of_ble_eq_true rfl) ⟨by decide, by decide⟩ (fun v w1 hp => ?_)
    obtain ⟨rfl, hw1⟩ := hp
    have hw1 := hw1.symm
    subst hw1
    refine g_if_eq C 28 dX0_take_11 (by decide) (fun c11 => ?_) (fun c11 => ?_)
    · have c11 := bI_z.mp c11
      refine g_iconst C (v := 0) dX0_take_28 (by decide) ?_
      exact absurd c11 (by simp [isCtx_nI hy])
    · have c11 := bI_nz.mp c11
      refine g_iload_n C dX0_take_14 rfl rfl ?_
      refine g_iload_n C dX0_take_15 rfl rfl ?_
      refine g_icmp_eq C 28 dX0_take_16 (by decide) (fun c16 => ?_) (fun c16 => ?_)
      · refine g_iconst C (v := 0) dX0_take_28 (by decide) ?_
        exact absurd ((nI_eq (by omega) (by omega)).mp c16) hxy
      · first | refine g_aload_n C dX0_take_19 rfl rfl ?_ | refine g_aload_nN C dX0_take_19 rfl rfl ?_ | refine g_aload_nq C dX0_take_19 rfl rfl ?_
        refine g_iload_n C dX0_take_20 rfl rfl ?_
        refine g_iload_n C dX0_take_21 rfl rfl ?_
        refine g_callVn C _ dX0_take_22 (c_X0_isOver l G _ _ _ _ hcx hun _ _) kmX0_19 ki_X0_isOver kv_X0_isOver kn_X0 kc_X0_isOver hy_X0_isOver ⟨by decide, by decide⟩ hcx rfl rfl (Nat.le_of_ble_eq_true rfl) ⟨by decide, by decide⟩ (fun v w1 hp => ?_)
        obtain ⟨rfl, hw1⟩ := hp
        have hw1 := hw1.symm
        subst hw1
        refine g_if_eq C 30 dX0_take_25 (by decide) (fun c25 => ?_) (fun c25 => ?_)
        · have c25 := bI_z.mp c25
          first | refine g_aload_n C dX0_take_30 rfl rfl ?_ | refine g_aload_nN C dX0_take_30 rfl rfl ?_ | refine g_aload_nq C dX0_take_30 rfl rfl ?_
          refine g_get C dX0_take_31 hcx rfl kw_X0 0 (by decide) kfX0_9 rfl rfl ?_
          refine g_iload_n C dX0_take_34 rfl rfl ?_
          refine g_ialdN C dX0_take_35 hun hy (by decide) ?_
          refine g_iconst C (v := 1) dX0_take_36 (by decide) ?_
          refine g_iload_n C dX0_take_37 rfl rfl ?_
          refine g_ishl C dX0_take_38 ?_
          refine g_ior C dX0_take_39 ?_
          refine g_istore_n C dX0_take_40 rfl (by decide) ?_
          refine g_iconst C (v := 0) dX0_take_41 (by decide) ?_
          refine g_istore C dX0_take_42 (by decide) ?_
          have hno : kb (f y) (nI x) = false := by simpa [isCtx_nI hy, nI_clamp (n := y) (by omega)] using c25
          refine g_w ((congrArg (fun z => h_up w un (eI G 16 z)) (tkF_0 f x (f y ||| ((1 : Int32) <<< (nI y &&& 31))))).trans (h_up_self hun)) ?_
          refine g_loop (σ := Nat) (fun k => k ≤ 16) (fun k => 16 - k) (fun k => h_up w un (eI G 16 (tkF f x (f y ||| ((1 : Int32) <<< (nI y &&& 31))) k))) (fun k => [(0, .ref cx), (1, .int (nI x)), (2, .int (nI y)), (3, .int (f y ||| ((1 : Int32) <<< (nI y &&& 31)))), (4, .int (nI k))]) ?_ 0 (Nat.zero_le _)
          intro k hk ih
          have hcx' : h_up w un (eI G 16 (tkF f x (f y ||| ((1 : Int32) <<< (nI y &&& 31))) k)) cx = some (eO 0 [.ref un]) := (h_up_n hne).trans hcx
          refine g_iload C dX0_take_44 rfl ?_
          first | refine g_aload_n C dX0_take_46 rfl rfl ?_ | refine g_aload_nN C dX0_take_46 rfl rfl ?_ | refine g_aload_nq C dX0_take_46 rfl rfl ?_
          refine g_get C dX0_take_47 hcx' rfl kw_X0 0 (by decide) kfX0_9 rfl rfl ?_
          refine g_alen C 0 dX0_take_50 (h_up_s _ _ _) rfl rfl ?_
          refine g_icmp_ge C 87 dX0_take_51 (by decide) (fun c51 => ?_) (fun c51 => ?_)
          · have hge : 16 ≤ k := (nI_leI (by omega) (by omega)).mp c51
            refine g_iconst C (v := 1) dX0_take_87 (by decide) ?_
            exact g_zret C hr rfl dX0_take_88 (by decide) (by decide) (Or.inr ⟨hno, rfl, by rw [show k = 16 by omega]⟩)
          · have hlt : k < 16 := nI_nge c51 (by omega) (by omega)
            refine g_iload C dX0_take_54 rfl ?_
            refine g_iload_n C dX0_take_56 rfl rfl ?_
            refine g_icmp_eq C 70 dX0_take_57 (by decide) (fun c57 => ?_) (fun c57 => ?_)
            · have c57 := (nI_eq (by omega) (by omega)).mp c57
              first | refine g_aload_n C dX0_take_70 rfl rfl ?_ | refine g_aload_nN C dX0_take_70 rfl rfl ?_ | refine g_aload_nq C dX0_take_70 rfl rfl ?_
              refine g_get C dX0_take_71 hcx' rfl kw_X0 0 (by decide) kfX0_9 rfl rfl ?_
              refine g_iload C dX0_take_74 rfl ?_
              refine g_dup2 C dX0_take_76 rfl rfl ?_
              refine g_ialdN C dX0_take_77 (h_up_s _ _ _) hlt (by decide) ?_
              refine g_iload_n C dX0_take_78 rfl rfl ?_
              refine g_ior C dX0_take_79 ?_
              refine g_iastN C dX0_take_80 (h_up_s _ _ _) hlt (by decide) ?_
              refine g_iinc C (v := nI (k + 1)) dX0_take_81 rfl (nI_1 k) (by decide) ?_
              refine g_goto C 44 dX0_take_84 (by decide) ?_
              rw [h_up_up, tkF_y (by simp [c57])]
              exact ih (k + 1) hlt (by omega)
            · have c57 := mt (nI_eq (a := k) (b := x) (by omega) (by omega)).mpr c57
              first | refine g_aload_n C dX0_take_60 rfl rfl ?_ | refine g_aload_nN C dX0_take_60 rfl rfl ?_ | refine g_aload_nq C dX0_take_60 rfl rfl ?_
              refine g_iload C dX0_take_61 rfl ?_
              refine g_iload_n C dX0_take_63 rfl rfl ?_
              refine g_callVn C _ dX0_take_64 (c_X0_isOver l G _ _ _ _ hcx' (h_up_s _ _ _) _ _) kmX0_19 ki_X0_isOver kv_X0_isOver kn_X0 kc_X0_isOver hy_X0_isOver ⟨by decide, by decide⟩ hcx' rfl rfl (Nat.le_of_ble_eq_true rfl) ⟨by decide, by decide⟩ (fun v w1 hp => ?_)
              obtain ⟨rfl, hw1⟩ := hp
              have hw1 := hw1.symm
              subst hw1
              refine g_if_eq C 81 dX0_take_67 (by decide) (fun c67 => ?_) (fun c67 => ?_)
              · have c67 := bI_z.mp c67
                refine g_iinc C (v := nI (k + 1)) dX0_take_81 rfl (nI_1 k) (by decide) ?_
                refine g_goto C 44 dX0_take_84 (by decide) ?_
                have h9 : kb (f k) (nI x) = false := by simpa [isCtx_nI hlt, nI_clamp (n := k) (by omega), tkF_k] using c67
                refine g_w (congrArg (fun z => h_up w un (eI G 16 z)) (tkF_n (by simp [h9, c57])).symm) ?_
                exact ih (k + 1) hlt (by omega)
              · have c67 := bI_nz.mp c67
                first | refine g_aload_n C dX0_take_70 rfl rfl ?_ | refine g_aload_nN C dX0_take_70 rfl rfl ?_ | refine g_aload_nq C dX0_take_70 rfl rfl ?_
                refine g_get C dX0_take_71 hcx' rfl kw_X0 0 (by decide) kfX0_9 rfl rfl ?_
                refine g_iload C dX0_take_74 rfl ?_
                refine g_dup2 C dX0_take_76 rfl rfl ?_
                refine g_ialdN C dX0_take_77 (h_up_s _ _ _) hlt (by decide) ?_
                refine g_iload_n C dX0_take_78 rfl rfl ?_
                refine g_ior C dX0_take_79 ?_
                refine g_iastN C dX0_take_80 (h_up_s _ _ _) hlt (by decide) ?_
                refine g_iinc C (v := nI (k + 1)) dX0_take_81 rfl (nI_1 k) (by decide) ?_
                refine g_goto C 44 dX0_take_84 (by decide) ?_
                have h9 : kb (f k) (nI x) = true := by simpa [isCtx_nI hlt, nI_clamp (n := k) (by omega), tkF_k] using c67
                rw [h_up_up, tkF_y (by simp [h9])]
                exact ih (k + 1) hlt (by omega)
        · have c25 := bI_nz.mp c25
          refine g_iconst C (v := 0) dX0_take_28 (by decide) ?_
          exact g_zret C hr rfl dX0_take_29 (by decide) (by decide) (Or.inl ⟨by simpa [isCtx_nI hy, nI_clamp (n := y) (by omega)] using c25, rfl, rfl⟩)

set_option maxHeartbeats 4000000 in
set_option maxRecDepth 100000 in
theorem c_X0_init (l : Launch) (G : hD) (w : hW) (cx : Nat) (o : Option Nat) (hcx : w cx = some (eO 0 [va_rf o])) : h_Met l yX0_init (Cond.code yX0_init cX0_init 1 none) { frames := 1, cells := 1, slots := 16, locals := 12 } G [.ref cx] w (fun v w' => v = none ∧ ∃ un, w un = none ∧ w' = h_up (h_up w un (eI G 16 (fun _ => 0))) cx (eO 0 [.ref un])) noX := by
  refine h_met RX0 rfl (by decide) (Nat.le_of_ble_eq_true rfl) (cat_c (by first | rfl | exact rf_cat _) cat_n) ?_
  intro p e s m below meth c A C hnt hr hnm
  first | refine g_aload_n C dX0_init_0 rfl rfl ?_ | refine g_aload_nN C dX0_init_0 rfl rfl ?_ | refine g_aload_nq C dX0_init_0 rfl rfl ?_
  refine g_objInit C dX0_init_1 kmX0_3 (by decide) (Nat.le_of_ble_eq_true rfl) ?_
  first | refine g_aload_n C dX0_init_4 rfl rfl ?_ | refine g_aload_nN C dX0_init_4 rfl rfl ?_ | refine g_aload_nq C dX0_init_4 rfl rfl ?_
  refine g_bipush C (v := 16) dX0_init_5 (by decide) ?_
  refine g_newI C (N := 16) dX0_init_7 ka_int (by decide) (by decide) (by decide) (by decide) (by decide) (fun un hun => ?_)
  have hne : cx ≠ un := fun h => by rw [h, hun] at hcx; cases hcx
  have hcx' : h_up w un (eI G 16 (fun _ => 0)) cx = some (eO 0 [va_rf o]) := (h_up_n hne).trans hcx
  refine g_putF C dX0_init_9 hcx' rfl kw_X0 tyX0 tyX0_ok nmX0 0 (by decide) kfX0_9 rfl rfl hnm rfl rfl rfl (Nat.le_of_ble_eq_true rfl) ?_
  exact g_vret C hr dX0_init_12 (by decide) (by decide) ⟨rfl, un, hun, rfl⟩
end
section
/-! ===== the class's state: tellings by their numbers, the chain by rank, the rows ===== -/
/-- a telling: desk, stamp, sort, thing, value; the desks that know it, that know its end; open; the next by rank, in its row -/
abbrev TI : Type := Nat × Nat × Nat × Int32 × Nat × Int32 × Int32 × Int32 × Option Nat × Option Nat
abbrev TI.dk (t : TI) : Nat := t.1
abbrev TI.st (t : TI) : Nat := t.2.1
abbrev TI.so (t : TI) : Nat := t.2.2.1
abbrev TI.th (t : TI) : Int32 := t.2.2.2.1
abbrev TI.va (t : TI) : Nat := t.2.2.2.2.1
abbrev TI.kn (t : TI) : Int32 := t.2.2.2.2.2.1
abbrev TI.en (t : TI) : Int32 := t.2.2.2.2.2.2.1
abbrev TI.op (t : TI) : Int32 := t.2.2.2.2.2.2.2.1
abbrev TI.la (t : TI) : Option Nat := t.2.2.2.2.2.2.2.2.1
abbrev TI.ne (t : TI) : Option Nat := t.2.2.2.2.2.2.2.2.2
abbrev cellT (ad : Nat → Nat) (i : Nat) (t : TI) : va_E := tC (nI i) (nI t.dk) (nI t.st) (nI t.so) t.th (nI t.va) t.kn t.en t.op (t.la.map ad) (t.ne.map ad)
abbrev cellX (ad : Nat → Nat) (tl rw ng cx : Nat) (er : Option Nat) (n : Nat) : va_E := eO 2 [.ref tl, .ref rw, .ref ng, .ref cx, va_rf (er.map ad), .int (nI n)]
/-- linked, from h on, through the list -/
def lk (nx : Nat → Option Nat) : Option Nat → List Nat → Prop
  | h, [] => h = none
  | h, i :: r => h = some i ∧ lk nx (nx i) r
theorem lk_hd {nx : Nat → Option Nat} {h : Option Nat} {r : List Nat} (hl : lk nx h r) : h = r.head? := by
  cases r with
  | nil => exact hl
  | cons i r => exact hl.1
def tIn (w : hW) (ad : Nat → Nat) (n : Nat) (ti : Nat → TI) : Prop := ∀ i, i < n → w (ad i) = some (cellT ad i (ti i))
abbrev isF (t : TI) (th so : Int32) : Bool := decide (t.th = th) && decide (nI t.so = so)
def gsS (ti : Nat → TI) (d : Int32) (g : Int32) (i : Nat) : Int32 := cond (kb (ti i).kn d) (nI (ti i).st) g
def lvSt (ti : Nat → TI) (d th : Int32) (g : Int32) (i : Nat) : Int32 := cond (isF (ti i) th 0 && kb (ti i).kn d) (nI (ti i).va) g
def smS (ti : Nat → TI) (d th : Int32) (g : Int32) (i : Nat) : Int32 := cond (isF (ti i) th 1 && kb (ti i).kn d) (g + nI (ti i).va) g
def unS (ti : Nat → TI) (d th : Int32) (g : Int32) (i : Nat) : Int32 := cond (isF (ti i) th 2 && kb (ti i).kn d) (g ||| ((1 : Int32) <<< (nI (ti i).va &&& 31))) g
def cfS (ti : Nat → TI) (g : Int32) (i : Nat) : Int32 := cond (decide ((ti i).kn = 0)) (g + 1) g
def cuS (ti : Nat → TI) (g : Int32) (i : Nat) : Int32 := cond (!decide ((ti i).kn = 0) && !decide ((ti i).kn = 63)) (g + 1) g

set_option maxHeartbeats 4000000 in
set_option maxRecDepth 100000 in
theorem c_X2_greatestStamp (l : Launch) (G : hD) (w : hW) (x tl rw ng cx : Nat) (ad : Nat → Nat) (er : Option Nat) (n : Nat) (ti : Nat → TI) (ch : List Nat) (hx : w x = some (cellX ad tl rw ng cx er n)) (hT : tIn w ad n ti) (hch : ∀ i ∈ ch, i < n) (hlk : lk (fun i => (ti i).la) er ch) (d : Int32) : h_Met l yX2_greatestStamp (Cond.code yX2_greatestStamp cX2_greatestStamp 4 (some .int)) { frames := 1, cells := 0, slots := 0, locals := 21 } G [.ref x, .int d] w (fun v w' => v = some (.int (ch.foldl (gsS ti d) 0)) ∧ w' = w) noX := by
  refine h_met RX2 rfl (by decide) (Nat.le_of_ble_eq_true rfl) (cat_c (by first | rfl | exact rf_cat _) (cat_c (by first | rfl | exact rf_cat _) cat_n)) ?_
  intro p e s m below meth c A C hnt hr hnm
  have her : er = ch.head? := lk_hd hlk
  refine g_iconst C (v := 0) dX2_greatestStamp_0 (by decide) ?_
  refine g_istore_n C dX2_greatestStamp_1 rfl (by decide) ?_
  first | refine g_aload_n C dX2_greatestStamp_2 rfl rfl ?_ | refine g_aload_nN C dX2_greatestStamp_2 rfl rfl ?_ | refine g_aload_nq C dX2_greatestStamp_2 rfl rfl ?_
  refine g_get C dX2_greatestStamp_3 hx rfl kw_X2 4 (by decide) kfX2_29 rfl rfl ?_
  first | refine g_astore_n C dX2_greatestStamp_6 rfl (by decide) ?_ | refine g_astore_nN C dX2_greatestStamp_6 rfl (by decide) ?_ | refine g_astore_nq C dX2_greatestStamp_6 rfl (by decide) ?_
  rw [her]
  refine g_loop (σ := List Nat × Int32) (fun z => lk (fun i => (ti i).la) z.1.head? z.1 ∧ (∀ i ∈ z.1, i < n) ∧ z.1.foldl (gsS ti d) z.2 = ch.foldl (gsS ti d) 0) (fun z => z.1.length) (fun _ => w) (fun z => [(0, .ref x), (1, .int d), (2, .int z.2), (3, va_rf (z.1.head?.map ad))]) ?_ (ch, 0) ⟨by rw [← lk_hd hlk]; exact hlk, hch, rfl⟩
  rintro ⟨r, acc⟩ ⟨hr1, hr2, hinv⟩ ih
  dsimp only at hr1 hr2 hinv ih ⊢
  cases r with
  | nil =>
    first | refine g_aload_n C dX2_greatestStamp_7 rfl rfl ?_ | refine g_aload_nN C dX2_greatestStamp_7 rfl rfl ?_ | refine g_aload_nq C dX2_greatestStamp_7 rfl rfl ?_
    refine g_ifnullN C 32 dX2_greatestStamp_8 (by decide) ?_
    refine g_iload_n C dX2_greatestStamp_32 rfl rfl ?_
    exact g_iret C hr dX2_greatestStamp_33 (by decide) (by decide) ⟨by rw [← hinv]; rfl, rfl⟩
  | cons i r =>
    have hi : i < n := hr2 i List.mem_cons_self
    have hc := hT i hi
    have hla : (ti i).la = r.head? := lk_hd hr1.2
    have hlk' : lk (fun i => (ti i).la) r.head? r := by rw [← hla]; exact hr1.2
    first | refine g_aload_n C dX2_greatestStamp_7 rfl rfl ?_ | refine g_aload_nN C dX2_greatestStamp_7 rfl rfl ?_ | refine g_aload_nq C dX2_greatestStamp_7 rfl rfl ?_
    refine g_ifnullR C dX2_greatestStamp_8 ?_
    first | refine g_aload_n C dX2_greatestStamp_11 rfl rfl ?_ | refine g_aload_nN C dX2_greatestStamp_11 rfl rfl ?_ | refine g_aload_nq C dX2_greatestStamp_11 rfl rfl ?_
    refine g_iload_n C dX2_greatestStamp_12 rfl rfl ?_
    refine g_callVn C _ dX2_greatestStamp_13 (c_X1_isKnownAt l G _ _ _ _ _ _ _ _ _ _ _ _ _ _ hc) kmX2_88 ki_X1_isKnownAt kv_X1_isKnownAt kn_X1 kc_X1_isKnownAt hy_X1_isKnownAt ⟨by decide, by decide⟩ hc rfl rfl (Nat.le_of_ble_eq_true rfl) ⟨by decide, by decide⟩ (fun v w1 hp => ?_)
    obtain ⟨rfl, hw1⟩ := hp
    have hw1 := hw1.symm
    subst hw1
    refine g_if_eq C 24 dX2_greatestStamp_16 (by decide) (fun c16 => ?_) (fun c16 => ?_)
    · have c16 := bI_z.mp c16
      first | refine g_aload_n C dX2_greatestStamp_24 rfl rfl ?_ | refine g_aload_nN C dX2_greatestStamp_24 rfl rfl ?_ | refine g_aload_nq C dX2_greatestStamp_24 rfl rfl ?_
      refine g_get C dX2_greatestStamp_25 hc rfl kw_X1 9 (by decide) kfX2_95 rfl rfl ?_
      first | refine g_astore_n C dX2_greatestStamp_28 rfl (by decide) ?_ | refine g_astore_nN C dX2_greatestStamp_28 rfl (by decide) ?_ | refine g_astore_nq C dX2_greatestStamp_28 rfl (by decide) ?_
      refine g_goto C 7 dX2_greatestStamp_29 (by decide) ?_
      have e9 : gsS ti d acc i = acc := by simp [gsS, c16]
      rw [hla]
      exact ih (r, acc) ⟨hlk', fun j hj => hr2 j (List.mem_cons_of_mem _ hj), (congrArg (fun q => List.foldl (gsS ti d) q r) e9.symm).trans hinv⟩ (Nat.lt_succ_self _)
    · have c16 := bI_nz.mp c16
      first | refine g_aload_n C dX2_greatestStamp_19 rfl rfl ?_ | refine g_aload_nN C dX2_greatestStamp_19 rfl rfl ?_ | refine g_aload_nq C dX2_greatestStamp_19 rfl rfl ?_
      refine g_get C dX2_greatestStamp_20 hc rfl kw_X1 2 (by decide) kfX2_146 rfl rfl ?_
      refine g_istore_n C dX2_greatestStamp_23 rfl (by decide) ?_
      first | refine g_aload_n C dX2_greatestStamp_24 rfl rfl ?_ | refine g_aload_nN C dX2_greatestStamp_24 rfl rfl ?_ | refine g_aload_nq C dX2_greatestStamp_24 rfl rfl ?_
      refine g_get C dX2_greatestStamp_25 hc rfl kw_X1 9 (by decide) kfX2_95 rfl rfl ?_
      first | refine g_astore_n C dX2_greatestStamp_28 rfl (by decide) ?_ | refine g_astore_nN C dX2_greatestStamp_28 rfl (by decide) ?_ | refine g_astore_nq C dX2_greatestStamp_28 rfl (by decide) ?_
      refine g_goto C 7 dX2_greatestStamp_29 (by decide) ?_
      have e9 : gsS ti d acc i = (nI (ti i).st) := by simp [gsS, c16]
      rw [hla]
      exact ih (r, (nI (ti i).st)) ⟨hlk', fun j hj => hr2 j (List.mem_cons_of_mem _ hj), (congrArg (fun q => List.foldl (gsS ti d) q r) e9.symm).trans hinv⟩ (Nat.lt_succ_self _)

set_option maxHeartbeats 4000000 in
set_option maxRecDepth 100000 in
theorem c_X2_latestValue (l : Launch) (G : hD) (w : hW) (x tl rw ng cx : Nat) (ad : Nat → Nat) (er : Option Nat) (n : Nat) (ti : Nat → TI) (ch : List Nat) (hx : w x = some (cellX ad tl rw ng cx er n)) (hT : tIn w ad n ti) (hch : ∀ i ∈ ch, i < n) (hlk : lk (fun i => (ti i).la) er ch) (d th : Int32) : h_Met l yX2_latestValue (Cond.code yX2_latestValue cX2_latestValue 5 (some .int)) { frames := 1, cells := 0, slots := 0, locals := 22 } G [.ref x, .int d, .int th] w (fun v w' => v = some (.int (ch.foldl (lvSt ti d th) (-1))) ∧ w' = w) noX := by
  refine h_met RX2 rfl (by decide) (Nat.le_of_ble_eq_true rfl) (cat_c (by first | rfl | exact rf_cat _) (cat_c (by first | rfl | exact rf_cat _) (cat_c (by first | rfl | exact rf_cat _) cat_n))) ?_
  intro p e s m below meth c A C hnt hr hnm
  have her : er = ch.head? := lk_hd hlk
  refine g_iconst C (v := (-1)) dX2_latestValue_0 (by decide) ?_
  refine g_istore_n C dX2_latestValue_1 rfl (by decide) ?_
  first | refine g_aload_n C dX2_latestValue_2 rfl rfl ?_ | refine g_aload_nN C dX2_latestValue_2 rfl rfl ?_ | refine g_aload_nq C dX2_latestValue_2 rfl rfl ?_
  refine g_get C dX2_latestValue_3 hx rfl kw_X2 4 (by decide) kfX2_29 rfl rfl ?_
  first | refine g_astore C dX2_latestValue_6 (by decide) ?_ | refine g_astoreN C dX2_latestValue_6 (by decide) ?_ | refine g_astoreq C dX2_latestValue_6 (by decide) ?_
  rw [her]
  refine g_loop (σ := List Nat × Int32) (fun z => lk (fun i => (ti i).la) z.1.head? z.1 ∧ (∀ i ∈ z.1, i < n) ∧ z.1.foldl (lvSt ti d th) z.2 = ch.foldl (lvSt ti d th) (-1)) (fun z => z.1.length) (fun _ => w) (fun z => [(0, .ref x), (1, .int d), (2, .int th), (3, .int z.2), (4, va_rf (z.1.head?.map ad))]) ?_ (ch, (-1)) ⟨by rw [← lk_hd hlk]; exact hlk, hch, rfl⟩
  rintro ⟨r, acc⟩ ⟨hr1, hr2, hinv⟩ ih
  dsimp only at hr1 hr2 hinv ih ⊢
  cases r with
  | nil =>
    first | refine g_aload C dX2_latestValue_8 rfl ?_ | refine g_aloadN C dX2_latestValue_8 rfl ?_ | refine g_aloadq C dX2_latestValue_8 rfl ?_
    refine g_ifnullN C 48 dX2_latestValue_10 (by decide) ?_
    refine g_iload_n C dX2_latestValue_48 rfl rfl ?_
    exact g_iret C hr dX2_latestValue_49 (by decide) (by decide) ⟨by rw [← hinv]; rfl, rfl⟩
  | cons i r =>
    have hi : i < n := hr2 i List.mem_cons_self
    have hc := hT i hi
    have hla : (ti i).la = r.head? := lk_hd hr1.2
    have hlk' : lk (fun i => (ti i).la) r.head? r := by rw [← hla]; exact hr1.2
    first | refine g_aload C dX2_latestValue_8 rfl ?_ | refine g_aloadN C dX2_latestValue_8 rfl ?_ | refine g_aloadq C dX2_latestValue_8 rfl ?_
    refine g_ifnullR C dX2_latestValue_10 ?_
    first | refine g_aload C dX2_latestValue_13 rfl ?_ | refine g_aloadN C dX2_latestValue_13 rfl ?_ | refine g_aloadq C dX2_latestValue_13 rfl ?_
    refine g_iload_n C dX2_latestValue_15 rfl rfl ?_
    refine g_iconst C (v := 0) dX2_latestValue_16 (by decide) ?_
    refine g_callVn C _ dX2_latestValue_17 (c_X1_isOfField l G _ _ _ _ _ _ _ _ _ _ _ _ _ _ _ hc) kmX2_209 ki_X1_isOfField kv_X1_isOfField kn_X1 kc_X1_isOfField hy_X1_isOfField ⟨by decide, by decide⟩ hc rfl rfl (Nat.le_of_ble_eq_true rfl) ⟨by decide, by decide⟩ (fun v w1 hp => ?_)
    obtain ⟨rfl, hw1⟩ := hp
    have hw1 := hw1.symm
    subst hw1
    refine g_if_eq C 38 dX2_latestValue_20 (by decide) (fun c20 => ?_) (fun c20 => ?_)
    · have c20 := bI_z.mp c20
      first | refine g_aload C dX2_latestValue_38 rfl ?_ | refine g_aloadN C dX2_latestValue_38 rfl ?_ | refine g_aloadq C dX2_latestValue_38 rfl ?_
      refine g_get C dX2_latestValue_40 hc rfl kw_X1 9 (by decide) kfX2_95 rfl rfl ?_
      first | refine g_astore C dX2_latestValue_43 (by decide) ?_ | refine g_astoreN C dX2_latestValue_43 (by decide) ?_ | refine g_astoreq C dX2_latestValue_43 (by decide) ?_
      refine g_goto C 8 dX2_latestValue_45 (by decide) ?_
      have e9 : lvSt ti d th acc i = acc := by simp [lvSt, c20]
      rw [hla]
      exact ih (r, acc) ⟨hlk', fun j hj => hr2 j (List.mem_cons_of_mem _ hj), (congrArg (fun q => List.foldl (lvSt ti d th) q r) e9.symm).trans hinv⟩ (Nat.lt_succ_self _)
    · have c20 := bI_nz.mp c20
      first | refine g_aload C dX2_latestValue_23 rfl ?_ | refine g_aloadN C dX2_latestValue_23 rfl ?_ | refine g_aloadq C dX2_latestValue_23 rfl ?_
      refine g_iload_n C dX2_latestValue_25 rfl rfl ?_
      refine g_callVn C _ dX2_latestValue_26 (c_X1_isKnownAt l G _ _ _ _ _ _ _ _ _ _ _ _ _ _ hc) kmX2_88 ki_X1_isKnownAt kv_X1_isKnownAt kn_X1 kc_X1_isKnownAt hy_X1_isKnownAt ⟨by decide, by decide⟩ hc rfl rfl (Nat.le_of_ble_eq_true rfl) ⟨by decide, by decide⟩ (fun v w1 hp => ?_)
      obtain ⟨rfl, hw1⟩ := hp
      have hw1 := hw1.symm
      subst hw1
      refine g_if_eq C 38 dX2_latestValue_29 (by decide) (fun c29 => ?_) (fun c29 => ?_)
      · have c29 := bI_z.mp c29
        first | refine g_aload C dX2_latestValue_38 rfl ?_ | refine g_aloadN C dX2_latestValue_38 rfl ?_ | refine g_aloadq C dX2_latestValue_38 rfl ?_
        refine g_get C dX2_latestValue_40 hc rfl kw_X1 9 (by decide) kfX2_95 rfl rfl ?_
        first | refine g_astore C dX2_latestValue_43 (by decide) ?_ | refine g_astoreN C dX2_latestValue_43 (by decide) ?_ | refine g_astoreq C dX2_latestValue_43 (by decide) ?_
        refine g_goto C 8 dX2_latestValue_45 (by decide) ?_
        have e9 : lvSt ti d th acc i = acc := by simp [lvSt, c20, c29]
        rw [hla]
        exact ih (r, acc) ⟨hlk', fun j hj => hr2 j (List.mem_cons_of_mem _ hj), (congrArg (fun q => List.foldl (lvSt ti d th) q r) e9.symm).trans hinv⟩ (Nat.lt_succ_self _)
      · have c29 := bI_nz.mp c29
        first | refine g_aload C dX2_latestValue_32 rfl ?_ | refine g_aloadN C dX2_latestValue_32 rfl ?_ | refine g_aloadq C dX2_latestValue_32 rfl ?_
        refine g_get C dX2_latestValue_34 hc rfl kw_X1 5 (by decide) kfX2_121 rfl rfl ?_
        refine g_istore_n C dX2_latestValue_37 rfl (by decide) ?_
        first | refine g_aload C dX2_latestValue_38 rfl ?_ | refine g_aloadN C dX2_latestValue_38 rfl ?_ | refine g_aloadq C dX2_latestValue_38 rfl ?_
        refine g_get C dX2_latestValue_40 hc rfl kw_X1 9 (by decide) kfX2_95 rfl rfl ?_
        first | refine g_astore C dX2_latestValue_43 (by decide) ?_ | refine g_astoreN C dX2_latestValue_43 (by decide) ?_ | refine g_astoreq C dX2_latestValue_43 (by decide) ?_
        refine g_goto C 8 dX2_latestValue_45 (by decide) ?_
        have e9 : lvSt ti d th acc i = (nI (ti i).va) := by simp [lvSt, c20, c29]
        rw [hla]
        exact ih (r, (nI (ti i).va)) ⟨hlk', fun j hj => hr2 j (List.mem_cons_of_mem _ hj), (congrArg (fun q => List.foldl (lvSt ti d th) q r) e9.symm).trans hinv⟩ (Nat.lt_succ_self _)

set_option maxHeartbeats 4000000 in
set_option maxRecDepth 100000 in
theorem c_X2_sumOfValues (l : Launch) (G : hD) (w : hW) (x tl rw ng cx : Nat) (ad : Nat → Nat) (er : Option Nat) (n : Nat) (ti : Nat → TI) (ch : List Nat) (hx : w x = some (cellX ad tl rw ng cx er n)) (hT : tIn w ad n ti) (hch : ∀ i ∈ ch, i < n) (hlk : lk (fun i => (ti i).la) er ch) (d th : Int32) : h_Met l yX2_sumOfValues (Cond.code yX2_sumOfValues cX2_sumOfValues 5 (some .int)) { frames := 1, cells := 0, slots := 0, locals := 22 } G [.ref x, .int d, .int th] w (fun v w' => v = some (.int (ch.foldl (smS ti d th) 0)) ∧ w' = w) noX := by
  refine h_met RX2 rfl (by decide) (Nat.le_of_ble_eq_true rfl) (cat_c (by first | rfl | exact rf_cat _) (cat_c (by first | rfl | exact rf_cat _) (cat_c (by first | rfl | exact rf_cat _) cat_n))) ?_
  intro p e s m below meth c A C hnt hr hnm
  have her : er = ch.head? := lk_hd hlk
  refine g_iconst C (v := 0) dX2_sumOfValues_0 (by decide) ?_
  refine g_istore_n C dX2_sumOfValues_1 rfl (by decide) ?_
  first | refine g_aload_n C dX2_sumOfValues_2 rfl rfl ?_ | refine g_aload_nN C dX2_sumOfValues_2 rfl rfl ?_ | refine g_aload_nq C dX2_sumOfValues_2 rfl rfl ?_
  refine g_get C dX2_sumOfValues_3 hx rfl kw_X2 4 (by decide) kfX2_29 rfl rfl ?_
  first | refine g_astore C dX2_sumOfValues_6 (by decide) ?_ | refine g_astoreN C dX2_sumOfValues_6 (by decide) ?_ | refine g_astoreq C dX2_sumOfValues_6 (by decide) ?_
  rw [her]
  refine g_loop (σ := List Nat × Int32) (fun z => lk (fun i => (ti i).la) z.1.head? z.1 ∧ (∀ i ∈ z.1, i < n) ∧ z.1.foldl (smS ti d th) z.2 = ch.foldl (smS ti d th) 0) (fun z => z.1.length) (fun _ => w) (fun z => [(0, .ref x), (1, .int d), (2, .int th), (3, .int z.2), (4, va_rf (z.1.head?.map ad))]) ?_ (ch, 0) ⟨by rw [← lk_hd hlk]; exact hlk, hch, rfl⟩
  rintro ⟨r, acc⟩ ⟨hr1, hr2, hinv⟩ ih
  dsimp only at hr1 hr2 hinv ih ⊢
  cases r with
  | nil =>
    first | refine g_aload C dX2_sumOfValues_8 rfl ?_ | refine g_aloadN C dX2_sumOfValues_8 rfl ?_ | refine g_aloadq C dX2_sumOfValues_8 rfl ?_
    refine g_ifnullN C 50 dX2_sumOfValues_10 (by decide) ?_
    refine g_iload_n C dX2_sumOfValues_50 rfl rfl ?_
    exact g_iret C hr dX2_sumOfValues_51 (by decide) (by decide) ⟨by rw [← hinv]; rfl, rfl⟩
  | cons i r =>
    have hi : i < n := hr2 i List.mem_cons_self
    have hc := hT i hi
    have hla : (ti i).la = r.head? := lk_hd hr1.2
    have hlk' : lk (fun i => (ti i).la) r.head? r := by rw [← hla]; exact hr1.2
    first | refine g_aload C dX2_sumOfValues_8 rfl ?_ | refine g_aloadN C dX2_sumOfValues_8 rfl ?_ | refine g_aloadq C dX2_sumOfValues_8 rfl ?_
    refine g_ifnullR C dX2_sumOfValues_10 ?_
    first | refine g_aload C dX2_sumOfValues_13 rfl ?_ | refine g_aloadN C dX2_sumOfValues_13 rfl ?_ | refine g_aloadq C dX2_sumOfValues_13 rfl ?_
    refine g_iload_n C dX2_sumOfValues_15 rfl rfl ?_
    refine g_iconst C (v := 1) dX2_sumOfValues_16 (by decide) ?_
    refine g_callVn C _ dX2_sumOfValues_17 (c_X1_isOfField l G _ _ _ _ _ _ _ _ _ _ _ _ _ _ _ hc) kmX2_209 ki_X1_isOfField kv_X1_isOfField kn_X1 kc_X1_isOfField hy_X1_isOfField ⟨by decide, by decide⟩ hc rfl rfl (Nat.le_of_ble_eq_true rfl) ⟨by decide, by decide⟩ (fun v w1 hp => ?_)
    obtain ⟨rfl, hw1⟩ := hp
    have hw1 := hw1.symm
    subst hw1
    refine g_if_eq C 40 dX2_sumOfValues_20 (by decide) (fun c20 => ?_) (fun c20 => ?_)
    · have c20 := bI_z.mp c20
      first | refine g_aload C dX2_sumOfValues_40 rfl ?_ | refine g_aloadN C dX2_sumOfValues_40 rfl ?_ | refine g_aloadq C dX2_sumOfValues_40 rfl ?_
      refine g_get C dX2_sumOfValues_42 hc rfl kw_X1 9 (by decide) kfX2_95 rfl rfl ?_
      first | refine g_astore C dX2_sumOfValues_45 (by decide) ?_ | refine g_astoreN C dX2_sumOfValues_45 (by decide) ?_ | refine g_astoreq C dX2_sumOfValues_45 (by decide) ?_
      refine g_goto C 8 dX2_sumOfValues_47 (by decide) ?_
      have e9 : smS ti d th acc i = acc := by simp [smS, c20]
      rw [hla]
      exact ih (r, acc) ⟨hlk', fun j hj => hr2 j (List.mem_cons_of_mem _ hj), (congrArg (fun q => List.foldl (smS ti d th) q r) e9.symm).trans hinv⟩ (Nat.lt_succ_self _)
    · have c20 := bI_nz.mp c20
      first | refine g_aload C dX2_sumOfValues_23 rfl ?_ | refine g_aloadN C dX2_sumOfValues_23 rfl ?_ | refine g_aloadq C dX2_sumOfValues_23 rfl ?_
      refine g_iload_n C dX2_sumOfValues_25 rfl rfl ?_
      refine g_callVn C _ dX2_sumOfValues_26 (c_X1_isKnownAt l G _ _ _ _ _ _ _ _ _ _ _ _ _ _ hc) kmX2_88 ki_X1_isKnownAt kv_X1_isKnownAt kn_X1 kc_X1_isKnownAt hy_X1_isKnownAt ⟨by decide, by decide⟩ hc rfl rfl (Nat.le_of_ble_eq_true rfl) ⟨by decide, by decide⟩ (fun v w1 hp => ?_)
      obtain ⟨rfl, hw1⟩ := hp
      have hw1 := hw1.symm
      subst hw1
      refine g_if_eq C 40 dX2_sumOfValues_29 (by decide) (fun c29 => ?_) (fun c29 => ?_)
      · have c29 := bI_z.mp c29
        first | refine g_aload C dX2_sumOfValues_40 rfl ?_ | refine g_aloadN C dX2_sumOfValues_40 rfl ?_ | refine g_aloadq C dX2_sumOfValues_40 rfl ?_
        refine g_get C dX2_sumOfValues_42 hc rfl kw_X1 9 (by decide) kfX2_95 rfl rfl ?_
        first | refine g_astore C dX2_sumOfValues_45 (by decide) ?_ | refine g_astoreN C dX2_sumOfValues_45 (by decide) ?_ | refine g_astoreq C dX2_sumOfValues_45 (by decide) ?_
        refine g_goto C 8 dX2_sumOfValues_47 (by decide) ?_
        have e9 : smS ti d th acc i = acc := by simp [smS, c20, c29]
        rw [hla]
        exact ih (r, acc) ⟨hlk', fun j hj => hr2 j (List.mem_cons_of_mem _ hj), (congrArg (fun q => List.foldl (smS ti d th) q r) e9.symm).trans hinv⟩ (Nat.lt_succ_self _)
      · have c29 := bI_nz.mp c29
        refine g_iload_n C dX2_sumOfValues_32 rfl rfl ?_
        first | refine g_aload C dX2_sumOfValues_33 rfl ?_ | refine g_aloadN C dX2_sumOfValues_33 rfl ?_ | refine g_aloadq C dX2_sumOfValues_33 rfl ?_
        refine g_get C dX2_sumOfValues_35 hc rfl kw_X1 5 (by decide) kfX2_121 rfl rfl ?_
        refine g_iadd C dX2_sumOfValues_38 ?_
        refine g_istore_n C dX2_sumOfValues_39 rfl (by decide) ?_
        first | refine g_aload C dX2_sumOfValues_40 rfl ?_ | refine g_aloadN C dX2_sumOfValues_40 rfl ?_ | refine g_aloadq C dX2_sumOfValues_40 rfl ?_
        refine g_get C dX2_sumOfValues_42 hc rfl kw_X1 9 (by decide) kfX2_95 rfl rfl ?_
        first | refine g_astore C dX2_sumOfValues_45 (by decide) ?_ | refine g_astoreN C dX2_sumOfValues_45 (by decide) ?_ | refine g_astoreq C dX2_sumOfValues_45 (by decide) ?_
        refine g_goto C 8 dX2_sumOfValues_47 (by decide) ?_
        have e9 : smS ti d th acc i = (acc + nI (ti i).va) := by simp [smS, c20, c29]
        rw [hla]
        exact ih (r, (acc + nI (ti i).va)) ⟨hlk', fun j hj => hr2 j (List.mem_cons_of_mem _ hj), (congrArg (fun q => List.foldl (smS ti d th) q r) e9.symm).trans hinv⟩ (Nat.lt_succ_self _)

set_option maxHeartbeats 4000000 in
set_option maxRecDepth 100000 in
theorem c_X2_countForgotten (l : Launch) (G : hD) (w : hW) (x tl rw ng cx : Nat) (ad : Nat → Nat) (er : Option Nat) (n : Nat) (ti : Nat → TI) (ch : List Nat) (hx : w x = some (cellX ad tl rw ng cx er n)) (hT : tIn w ad n ti) (hch : ∀ i ∈ ch, i < n) (hlk : lk (fun i => (ti i).la) er ch) : h_Met l yX2_countForgotten (Cond.code yX2_countForgotten cX2_countForgotten 3 (some .int)) { frames := 1, cells := 0, slots := 0, locals := 20 } G [.ref x] w (fun v w' => v = some (.int (ch.foldl (cfS ti) 0)) ∧ w' = w) noX := by
  refine h_met RX2 rfl (by decide) (Nat.le_of_ble_eq_true rfl) (cat_c (by first | rfl | exact rf_cat _) cat_n) ?_
  intro p e s m below meth c A C hnt hr hnm
  have her : er = ch.head? := lk_hd hlk
  refine g_iconst C (v := 0) dX2_countForgotten_0 (by decide) ?_
  refine g_istore_n C dX2_countForgotten_1 rfl (by decide) ?_
  first | refine g_aload_n C dX2_countForgotten_2 rfl rfl ?_ | refine g_aload_nN C dX2_countForgotten_2 rfl rfl ?_ | refine g_aload_nq C dX2_countForgotten_2 rfl rfl ?_
  refine g_get C dX2_countForgotten_3 hx rfl kw_X2 4 (by decide) kfX2_29 rfl rfl ?_
  first | refine g_astore_n C dX2_countForgotten_6 rfl (by decide) ?_ | refine g_astore_nN C dX2_countForgotten_6 rfl (by decide) ?_ | refine g_astore_nq C dX2_countForgotten_6 rfl (by decide) ?_
  rw [her]
  refine g_loop (σ := List Nat × Int32) (fun z => lk (fun i => (ti i).la) z.1.head? z.1 ∧ (∀ i ∈ z.1, i < n) ∧ z.1.foldl (cfS ti) z.2 = ch.foldl (cfS ti) 0) (fun z => z.1.length) (fun _ => w) (fun z => [(0, .ref x), (1, .int z.2), (2, va_rf (z.1.head?.map ad))]) ?_ (ch, 0) ⟨by rw [← lk_hd hlk]; exact hlk, hch, rfl⟩
  rintro ⟨r, acc⟩ ⟨hr1, hr2, hinv⟩ ih
  dsimp only at hr1 hr2 hinv ih ⊢
  cases r with
  | nil =>
    first | refine g_aload_n C dX2_countForgotten_7 rfl rfl ?_ | refine g_aload_nN C dX2_countForgotten_7 rfl rfl ?_ | refine g_aload_nq C dX2_countForgotten_7 rfl rfl ?_
    refine g_ifnullN C 29 dX2_countForgotten_8 (by decide) ?_
    refine g_iload_n C dX2_countForgotten_29 rfl rfl ?_
    exact g_iret C hr dX2_countForgotten_30 (by decide) (by decide) ⟨by rw [← hinv]; rfl, rfl⟩
  | cons i r =>
    have hi : i < n := hr2 i List.mem_cons_self
    have hc := hT i hi
    have hla : (ti i).la = r.head? := lk_hd hr1.2
    have hlk' : lk (fun i => (ti i).la) r.head? r := by rw [← hla]; exact hr1.2
    first | refine g_aload_n C dX2_countForgotten_7 rfl rfl ?_ | refine g_aload_nN C dX2_countForgotten_7 rfl rfl ?_ | refine g_aload_nq C dX2_countForgotten_7 rfl rfl ?_
    refine g_ifnullR C dX2_countForgotten_8 ?_
    first | refine g_aload_n C dX2_countForgotten_11 rfl rfl ?_ | refine g_aload_nN C dX2_countForgotten_11 rfl rfl ?_ | refine g_aload_nq C dX2_countForgotten_11 rfl rfl ?_
    refine g_callVn C _ dX2_countForgotten_12 (c_X1_isForgotten l G _ _ _ _ _ _ _ _ _ _ _ _ _ hc) kmX2_224 ki_X1_isForgotten kv_X1_isForgotten kn_X1 kc_X1_isForgotten hy_X1_isForgotten ⟨by decide, by decide⟩ hc rfl rfl (Nat.le_of_ble_eq_true rfl) ⟨by decide, by decide⟩ (fun v w1 hp => ?_)
    obtain ⟨rfl, hw1⟩ := hp
    have hw1 := hw1.symm
    subst hw1
    refine g_if_eq C 21 dX2_countForgotten_15 (by decide) (fun c15 => ?_) (fun c15 => ?_)
    · have c15 := bI_z.mp c15
      first | refine g_aload_n C dX2_countForgotten_21 rfl rfl ?_ | refine g_aload_nN C dX2_countForgotten_21 rfl rfl ?_ | refine g_aload_nq C dX2_countForgotten_21 rfl rfl ?_
      refine g_get C dX2_countForgotten_22 hc rfl kw_X1 9 (by decide) kfX2_95 rfl rfl ?_
      first | refine g_astore_n C dX2_countForgotten_25 rfl (by decide) ?_ | refine g_astore_nN C dX2_countForgotten_25 rfl (by decide) ?_ | refine g_astore_nq C dX2_countForgotten_25 rfl (by decide) ?_
      refine g_goto C 7 dX2_countForgotten_26 (by decide) ?_
      have e9 : cfS ti acc i = acc := by simp [cfS, c15]
      rw [hla]
      exact ih (r, acc) ⟨hlk', fun j hj => hr2 j (List.mem_cons_of_mem _ hj), (congrArg (fun q => List.foldl (cfS ti) q r) e9.symm).trans hinv⟩ (Nat.lt_succ_self _)
    · have c15 := bI_nz.mp c15
      refine g_iinc C (v := (acc + 1)) dX2_countForgotten_18 rfl (rfl) (by decide) ?_
      first | refine g_aload_n C dX2_countForgotten_21 rfl rfl ?_ | refine g_aload_nN C dX2_countForgotten_21 rfl rfl ?_ | refine g_aload_nq C dX2_countForgotten_21 rfl rfl ?_
      refine g_get C dX2_countForgotten_22 hc rfl kw_X1 9 (by decide) kfX2_95 rfl rfl ?_
      first | refine g_astore_n C dX2_countForgotten_25 rfl (by decide) ?_ | refine g_astore_nN C dX2_countForgotten_25 rfl (by decide) ?_ | refine g_astore_nq C dX2_countForgotten_25 rfl (by decide) ?_
      refine g_goto C 7 dX2_countForgotten_26 (by decide) ?_
      have e9 : cfS ti acc i = (acc + 1) := by simp [cfS, c15]
      rw [hla]
      exact ih (r, (acc + 1)) ⟨hlk', fun j hj => hr2 j (List.mem_cons_of_mem _ hj), (congrArg (fun q => List.foldl (cfS ti) q r) e9.symm).trans hinv⟩ (Nat.lt_succ_self _)

set_option maxHeartbeats 4000000 in
set_option maxRecDepth 100000 in
theorem c_X2_countUnshared (l : Launch) (G : hD) (w : hW) (x tl rw ng cx : Nat) (ad : Nat → Nat) (er : Option Nat) (n : Nat) (ti : Nat → TI) (ch : List Nat) (hx : w x = some (cellX ad tl rw ng cx er n)) (hT : tIn w ad n ti) (hch : ∀ i ∈ ch, i < n) (hlk : lk (fun i => (ti i).la) er ch) : h_Met l yX2_countUnshared (Cond.code yX2_countUnshared cX2_countUnshared 3 (some .int)) { frames := 1, cells := 0, slots := 0, locals := 20 } G [.ref x] w (fun v w' => v = some (.int (ch.foldl (cuS ti) 0)) ∧ w' = w) noX := by
  refine h_met RX2 rfl (by decide) (Nat.le_of_ble_eq_true rfl) (cat_c (by first | rfl | exact rf_cat _) cat_n) ?_
  intro p e s m below meth c A C hnt hr hnm
  have her : er = ch.head? := lk_hd hlk
  refine g_iconst C (v := 0) dX2_countUnshared_0 (by decide) ?_
  refine g_istore_n C dX2_countUnshared_1 rfl (by decide) ?_
  first | refine g_aload_n C dX2_countUnshared_2 rfl rfl ?_ | refine g_aload_nN C dX2_countUnshared_2 rfl rfl ?_ | refine g_aload_nq C dX2_countUnshared_2 rfl rfl ?_
  refine g_get C dX2_countUnshared_3 hx rfl kw_X2 4 (by decide) kfX2_29 rfl rfl ?_
  first | refine g_astore_n C dX2_countUnshared_6 rfl (by decide) ?_ | refine g_astore_nN C dX2_countUnshared_6 rfl (by decide) ?_ | refine g_astore_nq C dX2_countUnshared_6 rfl (by decide) ?_
  rw [her]
  refine g_loop (σ := List Nat × Int32) (fun z => lk (fun i => (ti i).la) z.1.head? z.1 ∧ (∀ i ∈ z.1, i < n) ∧ z.1.foldl (cuS ti) z.2 = ch.foldl (cuS ti) 0) (fun z => z.1.length) (fun _ => w) (fun z => [(0, .ref x), (1, .int z.2), (2, va_rf (z.1.head?.map ad))]) ?_ (ch, 0) ⟨by rw [← lk_hd hlk]; exact hlk, hch, rfl⟩
  rintro ⟨r, acc⟩ ⟨hr1, hr2, hinv⟩ ih
  dsimp only at hr1 hr2 hinv ih ⊢
  cases r with
  | nil =>
    first | refine g_aload_n C dX2_countUnshared_7 rfl rfl ?_ | refine g_aload_nN C dX2_countUnshared_7 rfl rfl ?_ | refine g_aload_nq C dX2_countUnshared_7 rfl rfl ?_
    refine g_ifnullN C 38 dX2_countUnshared_8 (by decide) ?_
    refine g_iload_n C dX2_countUnshared_38 rfl rfl ?_
    exact g_iret C hr dX2_countUnshared_39 (by decide) (by decide) ⟨by rw [← hinv]; rfl, rfl⟩
  | cons i r =>
    have hi : i < n := hr2 i List.mem_cons_self
    have hc := hT i hi
    have hla : (ti i).la = r.head? := lk_hd hr1.2
    have hlk' : lk (fun i => (ti i).la) r.head? r := by rw [← hla]; exact hr1.2
    first | refine g_aload_n C dX2_countUnshared_7 rfl rfl ?_ | refine g_aload_nN C dX2_countUnshared_7 rfl rfl ?_ | refine g_aload_nq C dX2_countUnshared_7 rfl rfl ?_
    refine g_ifnullR C dX2_countUnshared_8 ?_
    first | refine g_aload_n C dX2_countUnshared_11 rfl rfl ?_ | refine g_aload_nN C dX2_countUnshared_11 rfl rfl ?_ | refine g_aload_nq C dX2_countUnshared_11 rfl rfl ?_
    refine g_callVn C _ dX2_countUnshared_12 (c_X1_isForgotten l G _ _ _ _ _ _ _ _ _ _ _ _ _ hc) kmX2_224 ki_X1_isForgotten kv_X1_isForgotten kn_X1 kc_X1_isForgotten hy_X1_isForgotten ⟨by decide, by decide⟩ hc rfl rfl (Nat.le_of_ble_eq_true rfl) ⟨by decide, by decide⟩ (fun v w1 hp => ?_)
    obtain ⟨rfl, hw1⟩ := hp
    have hw1 := hw1.symm
    subst hw1
    refine g_if_ne C 30 dX2_countUnshared_15 (by decide) (fun c15 => ?_) (fun c15 => ?_)
    · have c15 := bI_nz.mp c15
      first | refine g_aload_n C dX2_countUnshared_30 rfl rfl ?_ | refine g_aload_nN C dX2_countUnshared_30 rfl rfl ?_ | refine g_aload_nq C dX2_countUnshared_30 rfl rfl ?_
      refine g_get C dX2_countUnshared_31 hc rfl kw_X1 9 (by decide) kfX2_95 rfl rfl ?_
      first | refine g_astore_n C dX2_countUnshared_34 rfl (by decide) ?_ | refine g_astore_nN C dX2_countUnshared_34 rfl (by decide) ?_ | refine g_astore_nq C dX2_countUnshared_34 rfl (by decide) ?_
      refine g_goto C 7 dX2_countUnshared_35 (by decide) ?_
      have e9 : cuS ti acc i = acc := by simp [cuS, c15]
      rw [hla]
      exact ih (r, acc) ⟨hlk', fun j hj => hr2 j (List.mem_cons_of_mem _ hj), (congrArg (fun q => List.foldl (cuS ti) q r) e9.symm).trans hinv⟩ (Nat.lt_succ_self _)
    · have c15 := bI_z.mp c15
      first | refine g_aload_n C dX2_countUnshared_18 rfl rfl ?_ | refine g_aload_nN C dX2_countUnshared_18 rfl rfl ?_ | refine g_aload_nq C dX2_countUnshared_18 rfl rfl ?_
      refine g_get C dX2_countUnshared_19 hc rfl kw_X1 6 (by decide) kfX2_221 rfl rfl ?_
      refine g_bipush C (v := 63) dX2_countUnshared_22 (by decide) ?_
      refine g_icmp_eq C 30 dX2_countUnshared_24 (by decide) (fun c24 => ?_) (fun c24 => ?_)
      · first | refine g_aload_n C dX2_countUnshared_30 rfl rfl ?_ | refine g_aload_nN C dX2_countUnshared_30 rfl rfl ?_ | refine g_aload_nq C dX2_countUnshared_30 rfl rfl ?_
        refine g_get C dX2_countUnshared_31 hc rfl kw_X1 9 (by decide) kfX2_95 rfl rfl ?_
        first | refine g_astore_n C dX2_countUnshared_34 rfl (by decide) ?_ | refine g_astore_nN C dX2_countUnshared_34 rfl (by decide) ?_ | refine g_astore_nq C dX2_countUnshared_34 rfl (by decide) ?_
        refine g_goto C 7 dX2_countUnshared_35 (by decide) ?_
        have e9 : cuS ti acc i = acc := by simp [cuS, c15, c24]
        rw [hla]
        exact ih (r, acc) ⟨hlk', fun j hj => hr2 j (List.mem_cons_of_mem _ hj), (congrArg (fun q => List.foldl (cuS ti) q r) e9.symm).trans hinv⟩ (Nat.lt_succ_self _)
      · refine g_iinc C (v := (acc + 1)) dX2_countUnshared_27 rfl (rfl) (by decide) ?_
        first | refine g_aload_n C dX2_countUnshared_30 rfl rfl ?_ | refine g_aload_nN C dX2_countUnshared_30 rfl rfl ?_ | refine g_aload_nq C dX2_countUnshared_30 rfl rfl ?_
        refine g_get C dX2_countUnshared_31 hc rfl kw_X1 9 (by decide) kfX2_95 rfl rfl ?_
        first | refine g_astore_n C dX2_countUnshared_34 rfl (by decide) ?_ | refine g_astore_nN C dX2_countUnshared_34 rfl (by decide) ?_ | refine g_astore_nq C dX2_countUnshared_34 rfl (by decide) ?_
        refine g_goto C 7 dX2_countUnshared_35 (by decide) ?_
        have e9 : cuS ti acc i = (acc + 1) := by simp [cuS, c15, c24]
        rw [hla]
        exact ih (r, (acc + 1)) ⟨hlk', fun j hj => hr2 j (List.mem_cons_of_mem _ hj), (congrArg (fun q => List.foldl (cuS ti) q r) e9.symm).trans hinv⟩ (Nat.lt_succ_self _)
end
section
/-! ===== what is only read: finding tellings, rows, the answers that change nothing ===== -/
theorem sw_of {x : Int32} {k : Nat} (hk : k < 2 ^ 31) (h : x.toInt = k) : x = nI k := by
  apply Int32.toInt_inj.mp
  rw [h, nI_toInt hk]
theorem sw3 (x : Int32) : x = 0 ∨ x = 1 ∨ x = 2 ∨ (x.toInt < 0 ∨ 2 < x.toInt) := by
  by_cases h : x.toInt < 0 ∨ 2 < x.toInt
  · exact Or.inr (Or.inr (Or.inr h))
  · rcases (show x.toInt = ((0 : Nat) : Int) ∨ x.toInt = ((1 : Nat) : Int) ∨ x.toInt = ((2 : Nat) : Int) by omega) with h | h | h
    · exact Or.inl (sw_of (by decide) h)
    · exact Or.inr (Or.inl (sw_of (by decide) h))
    · exact Or.inr (Or.inr (Or.inl (sw_of (by decide) h)))
theorem sw4 (x : Int32) : x = 0 ∨ x = 1 ∨ x = 2 ∨ x = 3 ∨ (x.toInt < 0 ∨ 3 < x.toInt) := by
  by_cases h : x.toInt < 0 ∨ 3 < x.toInt
  · exact Or.inr (Or.inr (Or.inr (Or.inr h)))
  · rcases (show x.toInt = ((0 : Nat) : Int) ∨ x.toInt = ((1 : Nat) : Int) ∨ x.toInt = ((2 : Nat) : Int) ∨ x.toInt = ((3 : Nat) : Int) by omega) with h | h | h | h
    · exact Or.inl (sw_of (by decide) h)
    · exact Or.inr (Or.inl (sw_of (by decide) h))
    · exact Or.inr (Or.inr (Or.inl (sw_of (by decide) h)))
    · exact Or.inr (Or.inr (Or.inr (Or.inl (sw_of (by decide) h))))
def okD (d : Int32) : Prop := ¬ d < 0 ∧ d < 6
def okT (d : Int32) : Prop := ¬ d < 0 ∧ d < 16
/-- a telling's number, and the telling is made -/
def isM (n : Nat) (t : Int32) : Prop := ∃ j, j < n ∧ t = nI j
/-- .. and the desk knows it -/
def isK (ti : Nat → TI) (n : Nat) (d t : Int32) : Prop := ∃ j, j < n ∧ t = nI j ∧ kb (ti j).kn d = true
theorem isM_of {n : Nat} (hn : n < 2 ^ 31) {t : Int32} (h0 : ¬ t < 0) (h1 : t < nI n) : isM n t := by
  obtain ⟨j, hj, rfl⟩ := nI_of h0
  exact ⟨j, (nI_ltI hj hn).mp h1, rfl⟩
theorem isM_in {n : Nat} (hn : n < 2 ^ 31) {t : Int32} (h : isM n t) : ¬ t < 0 ∧ t < nI n := by
  obtain ⟨j, hj, rfl⟩ := h
  exact ⟨nI_pos (by omega), nI_lt hj hn⟩
def exc1 (P1 : Prop) (E : String) : Prop := E = nNS ∧ ¬ P1
def shL (t : TI) : Bool := decide (nI t.so = 0) && decide (t.kn = 63)
def odF (ti : Nat → TI) (th : Int32) (i : Nat) : Bool := shL (ti i) && decide ((ti i).th = th)
def frG (ti : Nat → TI) (d k : Int32) : Int32 → List Nat → Option Nat
  | _, [] => none
  | b, i :: r => cond (kb (ti i).kn d && !kb (ti i).en d) (cond (decide (b = k)) (some i) (frG ti d k (b + 1) r)) (frG ti d k b r)
def ub (u : Int32) (m : Nat) : Bool := decide (((u.toUInt32 >>> ((nI m).toUInt32 &&& Int32.toUInt32 31)).toInt32 &&& 1) = 1)
def muG (u k : Int32) : Nat → Nat → Int32 → Int32
  | 0, _, _ => -1
  | n + 1, m, b => cond (ub u m) (cond (decide (b = k)) (nI m) (muG u k n (m + 1) (b + 1))) (muG u k n (m + 1) b)

set_option maxHeartbeats 4000000 in
set_option maxRecDepth 100000 in
theorem c_X2_isSharedLatest (l : Launch) (G : hD) (w : hW) (ad : Nat → Nat) (i : Nat) (t : TI) (hc : w (ad i) = some (cellT ad i t)) : h_Met l yX2_isSharedLatest (Cond.code yX2_isSharedLatest cX2_isSharedLatest 1 (some .boolean)) { frames := 0, cells := 0, slots := 0, locals := 0 } G [.ref (ad i)] w (fun v w' => v = some (.int (bI (shL t))) ∧ w' = w) noX := by
  refine h_met RX2 rfl (by decide) (Nat.le_of_ble_eq_true rfl) (cat_c (by first | rfl | exact rf_cat _) cat_n) ?_
  intro p e s m below meth c A C hnt hr hnm
  first | refine g_aload_n C dX2_isSharedLatest_0 rfl rfl ?_ | refine g_aload_nN C dX2_isSharedLatest_0 rfl rfl ?_ | refine g_aload_nq C dX2_isSharedLatest_0 rfl rfl ?_
  refine g_get C dX2_isSharedLatest_1 hc rfl kw_X1 3 (by decide) kfX2_62 rfl rfl ?_
  refine g_if_ne C 20 dX2_isSharedLatest_4 (by decide) (fun c4 => ?_) (fun c4 => ?_)
  · refine g_iconst C (v := 0) dX2_isSharedLatest_20 (by decide) ?_
    exact g_zret C hr rfl dX2_isSharedLatest_21 (by decide) (by decide) ⟨by simp [shL, bI, c4], rfl⟩
  · first | refine g_aload_n C dX2_isSharedLatest_7 rfl rfl ?_ | refine g_aload_nN C dX2_isSharedLatest_7 rfl rfl ?_ | refine g_aload_nq C dX2_isSharedLatest_7 rfl rfl ?_
    refine g_get C dX2_isSharedLatest_8 hc rfl kw_X1 6 (by decide) kfX2_221 rfl rfl ?_
    refine g_bipush C (v := 63) dX2_isSharedLatest_11 (by decide) ?_
    refine g_icmp_ne C 20 dX2_isSharedLatest_13 (by decide) (fun c13 => ?_) (fun c13 => ?_)
    · refine g_iconst C (v := 0) dX2_isSharedLatest_20 (by decide) ?_
      exact g_zret C hr rfl dX2_isSharedLatest_21 (by decide) (by decide) ⟨by simp [shL, bI, c4, c13], rfl⟩
    · refine g_iconst C (v := 1) dX2_isSharedLatest_16 (by decide) ?_
      refine g_goto C 21 dX2_isSharedLatest_17 (by decide) ?_
      exact g_zret C hr rfl dX2_isSharedLatest_21 (by decide) (by decide) ⟨by simp [shL, bI, c4, c13], rfl⟩

set_option maxHeartbeats 4000000 in
set_option maxRecDepth 100000 in
theorem c_X2_isOutdone (l : Launch) (G : hD) (w : hW) (ad : Nat → Nat) (n : Nat) (ti : Nat → TI) (hT : tIn w ad n ti) (ch : List Nat) (i0 : Nat) (hi0 : i0 < n) (hch : ∀ i ∈ ch, i < n) (hlk : lk (fun i => (ti i).la) (ti i0).la ch) : h_Met l yX2_isOutdone (Cond.code yX2_isOutdone cX2_isOutdone 2 (some .boolean)) { frames := 1, cells := 0, slots := 0, locals := 20 } G [.ref (ad i0)] w (fun v w' => v = some (.int (bI (shL (ti i0) && ch.any (odF ti (ti i0).th)))) ∧ w' = w) noX := by
  refine h_met RX2 rfl (by decide) (Nat.le_of_ble_eq_true rfl) (cat_c (by first | rfl | exact rf_cat _) cat_n) ?_
  intro p e s m below meth c A C hnt hr hnm
  have hc0 := hT i0 hi0
  have hla0 : (ti i0).la = ch.head? := lk_hd hlk
  first | refine g_aload_n C dX2_isOutdone_0 rfl rfl ?_ | refine g_aload_nN C dX2_isOutdone_0 rfl rfl ?_ | refine g_aload_nq C dX2_isOutdone_0 rfl rfl ?_
  refine g_callSn C _ dX2_isOutdone_1 (c_X2_isSharedLatest l G _ ad _ _ hc0) kmX2_218 ks_X2_isSharedLatest kn_X2 kc_X2_isSharedLatest hy_X2_isSharedLatest ⟨by decide, by decide⟩ rfl (Nat.le_of_ble_eq_true rfl) ⟨by decide, by decide⟩ (fun v w1 hp => ?_)
  obtain ⟨rfl, hw1⟩ := hp
  have hw1 := hw1.symm
  subst hw1
  refine g_if_ne C 9 dX2_isOutdone_4 (by decide) (fun c4 => ?_) (fun c4 => ?_)
  · have c4 := bI_nz.mp c4
    first | refine g_aload_n C dX2_isOutdone_9 rfl rfl ?_ | refine g_aload_nN C dX2_isOutdone_9 rfl rfl ?_ | refine g_aload_nq C dX2_isOutdone_9 rfl rfl ?_
    refine g_get C dX2_isOutdone_10 hc0 rfl kw_X1 9 (by decide) kfX2_95 rfl rfl ?_
    first | refine g_astore_n C dX2_isOutdone_13 rfl (by decide) ?_ | refine g_astore_nN C dX2_isOutdone_13 rfl (by decide) ?_ | refine g_astore_nq C dX2_isOutdone_13 rfl (by decide) ?_
    rw [hla0]
    refine g_loop (σ := List Nat) (fun z => lk (fun i => (ti i).la) z.head? z ∧ (∀ i ∈ z, i < n) ∧ z.any (odF ti (ti i0).th) = ch.any (odF ti (ti i0).th)) (fun z => z.length) (fun _ => w) (fun z => [(0, .ref (ad i0)), (1, va_rf (z.head?.map ad))]) ?_ ch ⟨by rw [← hla0]; exact hlk, hch, rfl⟩
    intro r hI ih
    obtain ⟨hr1, hr2, hinv⟩ := hI
    cases r with
    | nil =>
      first | refine g_aload_n C dX2_isOutdone_14 rfl rfl ?_ | refine g_aload_nN C dX2_isOutdone_14 rfl rfl ?_ | refine g_aload_nq C dX2_isOutdone_14 rfl rfl ?_
      refine g_ifnullN C 46 dX2_isOutdone_15 (by decide) ?_
      refine g_iconst C (v := 0) dX2_isOutdone_46 (by decide) ?_
      exact g_zret C hr rfl dX2_isOutdone_47 (by decide) (by decide) ⟨by rw [← hinv]; simp [bI, c4], rfl⟩
    | cons i r =>
      have hi : i < n := hr2 i List.mem_cons_self
      have hc := hT i hi
      have hla : (ti i).la = r.head? := lk_hd hr1.2
      have hlk' : lk (fun i => (ti i).la) r.head? r := by rw [← hla]; exact hr1.2
      first | refine g_aload_n C dX2_isOutdone_14 rfl rfl ?_ | refine g_aload_nN C dX2_isOutdone_14 rfl rfl ?_ | refine g_aload_nq C dX2_isOutdone_14 rfl rfl ?_
      refine g_ifnullR C dX2_isOutdone_15 ?_
      first | refine g_aload_n C dX2_isOutdone_18 rfl rfl ?_ | refine g_aload_nN C dX2_isOutdone_18 rfl rfl ?_ | refine g_aload_nq C dX2_isOutdone_18 rfl rfl ?_
      refine g_callSn C _ dX2_isOutdone_19 (c_X2_isSharedLatest l G _ ad _ _ hc) kmX2_218 ks_X2_isSharedLatest kn_X2 kc_X2_isSharedLatest hy_X2_isSharedLatest ⟨by decide, by decide⟩ rfl (Nat.le_of_ble_eq_true rfl) ⟨by decide, by decide⟩ (fun v w1 hp => ?_)
      obtain ⟨rfl, hw1⟩ := hp
      have hw1 := hw1.symm
      subst hw1
      refine g_if_eq C 38 dX2_isOutdone_22 (by decide) (fun c22 => ?_) (fun c22 => ?_)
      · have c22 := bI_z.mp c22
        first | refine g_aload_n C dX2_isOutdone_38 rfl rfl ?_ | refine g_aload_nN C dX2_isOutdone_38 rfl rfl ?_ | refine g_aload_nq C dX2_isOutdone_38 rfl rfl ?_
        refine g_get C dX2_isOutdone_39 hc rfl kw_X1 9 (by decide) kfX2_95 rfl rfl ?_
        first | refine g_astore_n C dX2_isOutdone_42 rfl (by decide) ?_ | refine g_astore_nN C dX2_isOutdone_42 rfl (by decide) ?_ | refine g_astore_nq C dX2_isOutdone_42 rfl (by decide) ?_
        refine g_goto C 14 dX2_isOutdone_43 (by decide) ?_
        rw [hla]
        exact ih r ⟨hlk', fun j hj => hr2 j (List.mem_cons_of_mem _ hj), by rw [← hinv]; simp [odF, c22]⟩ (Nat.lt_succ_self _)
      · have c22 := bI_nz.mp c22
        first | refine g_aload_n C dX2_isOutdone_25 rfl rfl ?_ | refine g_aload_nN C dX2_isOutdone_25 rfl rfl ?_ | refine g_aload_nq C dX2_isOutdone_25 rfl rfl ?_
        refine g_get C dX2_isOutdone_26 hc rfl kw_X1 4 (by decide) kfX2_65 rfl rfl ?_
        first | refine g_aload_n C dX2_isOutdone_29 rfl rfl ?_ | refine g_aload_nN C dX2_isOutdone_29 rfl rfl ?_ | refine g_aload_nq C dX2_isOutdone_29 rfl rfl ?_
        refine g_get C dX2_isOutdone_30 hc0 rfl kw_X1 4 (by decide) kfX2_65 rfl rfl ?_
        refine g_icmp_ne C 38 dX2_isOutdone_33 (by decide) (fun c33 => ?_) (fun c33 => ?_)
        · first | refine g_aload_n C dX2_isOutdone_38 rfl rfl ?_ | refine g_aload_nN C dX2_isOutdone_38 rfl rfl ?_ | refine g_aload_nq C dX2_isOutdone_38 rfl rfl ?_
          refine g_get C dX2_isOutdone_39 hc rfl kw_X1 9 (by decide) kfX2_95 rfl rfl ?_
          first | refine g_astore_n C dX2_isOutdone_42 rfl (by decide) ?_ | refine g_astore_nN C dX2_isOutdone_42 rfl (by decide) ?_ | refine g_astore_nq C dX2_isOutdone_42 rfl (by decide) ?_
          refine g_goto C 14 dX2_isOutdone_43 (by decide) ?_
          rw [hla]
          exact ih r ⟨hlk', fun j hj => hr2 j (List.mem_cons_of_mem _ hj), by rw [← hinv]; simp [odF, c22, c33]⟩ (Nat.lt_succ_self _)
        · refine g_iconst C (v := 1) dX2_isOutdone_36 (by decide) ?_
          exact g_zret C hr rfl dX2_isOutdone_37 (by decide) (by decide) ⟨by rw [← hinv]; simp [bI, odF, c4, c22, c33], rfl⟩
  · have c4 := bI_z.mp c4
    refine g_iconst C (v := 0) dX2_isOutdone_7 (by decide) ?_
    exact g_zret C hr rfl dX2_isOutdone_8 (by decide) (by decide) ⟨by simp [bI, c4], rfl⟩

set_option maxHeartbeats 4000000 in
set_option maxRecDepth 100000 in
theorem c_X2_findInRow (l : Launch) (G : hD) (w : hW) (x tl rw ng cx : Nat) (ad : Nat → Nat) (er : Option Nat) (n : Nat) (ti : Nat → TI) (rf : Nat → Option Nat) (rh : Option Nat) (rl : List Nat) (t : Nat) (hx : w x = some (cellX ad tl rw ng cx er n)) (hT : tIn w ad n ti) (hrw : w rw = some (eT G 16 rf)) (ht : t < 16) (hrf : rf t = rh.map ad) (hrl : ∀ i ∈ rl, i < n) (hlk : lk (fun i => (ti i).ne) rh rl) (d k : Int32) : h_Met l yX2_findInRow (Cond.code yX2_findInRow cX2_findInRow 6 (some (.object "TrenchMerge$Telling"))) { frames := 1, cells := 0, slots := 0, locals := 21 } G [.ref x, .int d, .int (nI t), .int k] w (fun v w' => v = some (va_rf ((frG ti d k 0 rl).map ad)) ∧ w' = w) noX := by
  refine h_met RX2 rfl (by decide) (Nat.le_of_ble_eq_true rfl) (cat_c (by first | rfl | exact rf_cat _) (cat_c (by first | rfl | exact rf_cat _) (cat_c (by first | rfl | exact rf_cat _) (cat_c (by first | rfl | exact rf_cat _) cat_n)))) ?_
  intro p e s m below meth c A C hnt hr hnm
  have hh0 : rh = rl.head? := lk_hd hlk
  refine g_iconst C (v := 0) dX2_findInRow_0 (by decide) ?_
  refine g_istore C dX2_findInRow_1 (by decide) ?_
  first | refine g_aload_n C dX2_findInRow_3 rfl rfl ?_ | refine g_aload_nN C dX2_findInRow_3 rfl rfl ?_ | refine g_aload_nq C dX2_findInRow_3 rfl rfl ?_
  refine g_get C dX2_findInRow_4 hx rfl kw_X2 1 (by decide) kfX2_15 rfl rfl ?_
  refine g_iload_n C dX2_findInRow_7 rfl rfl ?_
  refine g_aldqN C dX2_findInRow_8 hrw ht (by decide) ?_
  first | refine g_astore C dX2_findInRow_9 (by decide) ?_ | refine g_astoreN C dX2_findInRow_9 (by decide) ?_ | refine g_astoreq C dX2_findInRow_9 (by decide) ?_
  rw [hrf, hh0]
  refine g_loop (σ := List Nat × Int32) (fun z => lk (fun i => (ti i).ne) z.1.head? z.1 ∧ (∀ i ∈ z.1, i < n) ∧ frG ti d k z.2 z.1 = frG ti d k 0 rl) (fun z => z.1.length) (fun _ => w) (fun z => [(0, .ref x), (1, .int d), (2, .int (nI t)), (3, .int k), (4, .int z.2), (5, va_rf (z.1.head?.map ad))]) ?_ (rl, 0) ⟨by rw [← hh0]; exact hlk, hrl, rfl⟩
  rintro ⟨r, b⟩ ⟨hr1, hr2, hinv⟩ ih
  dsimp only at hr1 hr2 hinv ih ⊢
  cases r with
  | nil =>
    first | refine g_aload C dX2_findInRow_11 rfl ?_ | refine g_aloadN C dX2_findInRow_11 rfl ?_ | refine g_aloadq C dX2_findInRow_11 rfl ?_
    refine g_ifnullN C 56 dX2_findInRow_13 (by decide) ?_
    refine g_null C dX2_findInRow_56 ?_
    exact g_aret C (r := none) hr dX2_findInRow_57 (by decide) (by decide) ⟨by rw [← hinv]; rfl, rfl⟩
  | cons i r =>
    have hi : i < n := hr2 i List.mem_cons_self
    have hc := hT i hi
    have hla : (ti i).ne = r.head? := lk_hd hr1.2
    have hlk' : lk (fun i => (ti i).ne) r.head? r := by rw [← hla]; exact hr1.2
    first | refine g_aload C dX2_findInRow_11 rfl ?_ | refine g_aloadN C dX2_findInRow_11 rfl ?_ | refine g_aloadq C dX2_findInRow_11 rfl ?_
    refine g_ifnullR C dX2_findInRow_13 ?_
    first | refine g_aload C dX2_findInRow_16 rfl ?_ | refine g_aloadN C dX2_findInRow_16 rfl ?_ | refine g_aloadq C dX2_findInRow_16 rfl ?_
    refine g_iload_n C dX2_findInRow_18 rfl rfl ?_
    refine g_callVn C _ dX2_findInRow_19 (c_X1_isKnownAt l G _ _ _ _ _ _ _ _ _ _ _ _ _ _ hc) kmX2_88 ki_X1_isKnownAt kv_X1_isKnownAt kn_X1 kc_X1_isKnownAt hy_X1_isKnownAt ⟨by decide, by decide⟩ hc rfl rfl (Nat.le_of_ble_eq_true rfl) ⟨by decide, by decide⟩ (fun v w1 hp => ?_)
    obtain ⟨rfl, hw1⟩ := hp
    have hw1 := hw1.symm
    subst hw1
    refine g_if_eq C 46 dX2_findInRow_22 (by decide) (fun c22 => ?_) (fun c22 => ?_)
    · have c22 := bI_z.mp c22
      first | refine g_aload C dX2_findInRow_46 rfl ?_ | refine g_aloadN C dX2_findInRow_46 rfl ?_ | refine g_aloadq C dX2_findInRow_46 rfl ?_
      refine g_get C dX2_findInRow_48 hc rfl kw_X1 10 (by decide) kfX2_203 rfl rfl ?_
      first | refine g_astore C dX2_findInRow_51 (by decide) ?_ | refine g_astoreN C dX2_findInRow_51 (by decide) ?_ | refine g_astoreq C dX2_findInRow_51 (by decide) ?_
      refine g_goto C 11 dX2_findInRow_53 (by decide) ?_
      rw [hla]
      exact ih (r, b) ⟨hlk', fun j hj => hr2 j (List.mem_cons_of_mem _ hj), by rw [← hinv]; simp [frG, c22]⟩ (Nat.lt_succ_self _)
    · have c22 := bI_nz.mp c22
      first | refine g_aload C dX2_findInRow_25 rfl ?_ | refine g_aloadN C dX2_findInRow_25 rfl ?_ | refine g_aloadq C dX2_findInRow_25 rfl ?_
      refine g_iload_n C dX2_findInRow_27 rfl rfl ?_
      refine g_callVn C _ dX2_findInRow_28 (c_X1_isEndedAt l G _ _ _ _ _ _ _ _ _ _ _ _ _ _ hc) kmX2_206 ki_X1_isEndedAt kv_X1_isEndedAt kn_X1 kc_X1_isEndedAt hy_X1_isEndedAt ⟨by decide, by decide⟩ hc rfl rfl (Nat.le_of_ble_eq_true rfl) ⟨by decide, by decide⟩ (fun v w1 hp => ?_)
      obtain ⟨rfl, hw1⟩ := hp
      have hw1 := hw1.symm
      subst hw1
      refine g_if_ne C 46 dX2_findInRow_31 (by decide) (fun c31 => ?_) (fun c31 => ?_)
      · have c31 := bI_nz.mp c31
        first | refine g_aload C dX2_findInRow_46 rfl ?_ | refine g_aloadN C dX2_findInRow_46 rfl ?_ | refine g_aloadq C dX2_findInRow_46 rfl ?_
        refine g_get C dX2_findInRow_48 hc rfl kw_X1 10 (by decide) kfX2_203 rfl rfl ?_
        first | refine g_astore C dX2_findInRow_51 (by decide) ?_ | refine g_astoreN C dX2_findInRow_51 (by decide) ?_ | refine g_astoreq C dX2_findInRow_51 (by decide) ?_
        refine g_goto C 11 dX2_findInRow_53 (by decide) ?_
        rw [hla]
        exact ih (r, b) ⟨hlk', fun j hj => hr2 j (List.mem_cons_of_mem _ hj), by rw [← hinv]; simp [frG, c22, c31]⟩ (Nat.lt_succ_self _)
      · have c31 := bI_z.mp c31
        refine g_iload C dX2_findInRow_34 rfl ?_
        refine g_iload_n C dX2_findInRow_36 rfl rfl ?_
        refine g_icmp_ne C 43 dX2_findInRow_37 (by decide) (fun c37 => ?_) (fun c37 => ?_)
        · refine g_iinc C (v := (b + 1)) dX2_findInRow_43 rfl (rfl) (by decide) ?_
          first | refine g_aload C dX2_findInRow_46 rfl ?_ | refine g_aloadN C dX2_findInRow_46 rfl ?_ | refine g_aloadq C dX2_findInRow_46 rfl ?_
          refine g_get C dX2_findInRow_48 hc rfl kw_X1 10 (by decide) kfX2_203 rfl rfl ?_
          first | refine g_astore C dX2_findInRow_51 (by decide) ?_ | refine g_astoreN C dX2_findInRow_51 (by decide) ?_ | refine g_astoreq C dX2_findInRow_51 (by decide) ?_
          refine g_goto C 11 dX2_findInRow_53 (by decide) ?_
          rw [hla]
          exact ih (r, b + 1) ⟨hlk', fun j hj => hr2 j (List.mem_cons_of_mem _ hj), by rw [← hinv]; simp [frG, c22, c31, c37]⟩ (Nat.lt_succ_self _)
        · first | refine g_aload C dX2_findInRow_40 rfl ?_ | refine g_aloadN C dX2_findInRow_40 rfl ?_ | refine g_aloadq C dX2_findInRow_40 rfl ?_
          exact g_aret C (r := some (ad i)) hr dX2_findInRow_42 (by decide) (by decide) ⟨by rw [← hinv]; simp [frG, c22, c31, c37, va_rf], rfl⟩

set_option maxHeartbeats 4000000 in
set_option maxRecDepth 100000 in
theorem c_X2_memberOfUnion (l : Launch) (G : hD) (w : hW) (x tl rw ng cx : Nat) (ad : Nat → Nat) (er : Option Nat) (n : Nat) (ti : Nat → TI) (ch : List Nat) (hx : w x = some (cellX ad tl rw ng cx er n)) (hT : tIn w ad n ti) (hch : ∀ i ∈ ch, i < n) (hlk : lk (fun i => (ti i).la) er ch) (d th k : Int32) : h_Met l yX2_memberOfUnion (Cond.code yX2_memberOfUnion cX2_memberOfUnion 7 (some .int)) { frames := 1, cells := 0, slots := 0, locals := 22 } G [.ref x, .int d, .int th, .int k] w (fun v w' => v = some (.int (muG (ch.foldl (unS ti d th) 0) k 32 0 0)) ∧ w' = w) noX := by
  refine h_met RX2 rfl (by decide) (Nat.le_of_ble_eq_true rfl) (cat_c (by first | rfl | exact rf_cat _) (cat_c (by first | rfl | exact rf_cat _) (cat_c (by first | rfl | exact rf_cat _) (cat_c (by first | rfl | exact rf_cat _) cat_n)))) ?_
  intro p e s m below meth c A C hnt hr hnm
  have her : er = ch.head? := lk_hd hlk
  refine g_iconst C (v := 0) dX2_memberOfUnion_0 (by decide) ?_
  refine g_istore C dX2_memberOfUnion_1 (by decide) ?_
  first | refine g_aload_n C dX2_memberOfUnion_3 rfl rfl ?_ | refine g_aload_nN C dX2_memberOfUnion_3 rfl rfl ?_ | refine g_aload_nq C dX2_memberOfUnion_3 rfl rfl ?_
  refine g_get C dX2_memberOfUnion_4 hx rfl kw_X2 4 (by decide) kfX2_29 rfl rfl ?_
  first | refine g_astore C dX2_memberOfUnion_7 (by decide) ?_ | refine g_astoreN C dX2_memberOfUnion_7 (by decide) ?_ | refine g_astoreq C dX2_memberOfUnion_7 (by decide) ?_
  rw [her]
  refine g_loop (σ := List Nat × Int32) (fun z => lk (fun i => (ti i).la) z.1.head? z.1 ∧ (∀ i ∈ z.1, i < n) ∧ z.1.foldl (unS ti d th) z.2 = ch.foldl (unS ti d th) 0) (fun z => z.1.length) (fun _ => w) (fun z => [(0, .ref x), (1, .int d), (2, .int th), (3, .int k), (4, .int z.2), (5, va_rf (z.1.head?.map ad))]) ?_ (ch, 0) ⟨by rw [← lk_hd hlk]; exact hlk, hch, rfl⟩
  rintro ⟨r, acc⟩ ⟨hr1, hr2, hinv⟩ ih
  dsimp only at hr1 hr2 hinv ih ⊢
  cases r with
  | nil =>
    have hacc : acc = ch.foldl (unS ti d th) 0 := hinv
    subst hacc
    first | refine g_aload C dX2_memberOfUnion_9 rfl ?_ | refine g_aloadN C dX2_memberOfUnion_9 rfl ?_ | refine g_aloadq C dX2_memberOfUnion_9 rfl ?_
    refine g_ifnullN C 55 dX2_memberOfUnion_11 (by decide) ?_
    refine g_iconst C (v := 0) dX2_memberOfUnion_55 (by decide) ?_
    refine g_istore C dX2_memberOfUnion_56 (by decide) ?_
    refine g_iconst C (v := 0) dX2_memberOfUnion_58 (by decide) ?_
    refine g_istore C dX2_memberOfUnion_59 (by decide) ?_
    refine g_loop (σ := Nat × Int32) (fun z => z.1 ≤ 32 ∧ muG (ch.foldl (unS ti d th) 0) k (32 - z.1) z.1 z.2 = muG (ch.foldl (unS ti d th) 0) k 32 0 0) (fun z => 32 - z.1) (fun _ => w) (fun z => [(0, .ref x), (1, .int d), (2, .int th), (3, .int k), (4, .int (ch.foldl (unS ti d th) 0)), (5, .int z.2), (6, .int (nI z.1))]) ?_ (0, 0) ⟨Nat.zero_le _, rfl⟩
    rintro ⟨mm, b⟩ ⟨hm, hinv⟩ ih
    dsimp only at hm hinv ih ⊢
    refine g_iload C dX2_memberOfUnion_61 rfl ?_
    refine g_bipush C (v := 32) dX2_memberOfUnion_63 (by decide) ?_
    refine g_icmp_ge C 97 dX2_memberOfUnion_65 (by decide) (fun c65 => ?_) (fun c65 => ?_)
    · have hge : 32 ≤ mm := (nI_leI (by decide) (by omega)).mp c65
      refine g_iconst C (v := (-1)) dX2_memberOfUnion_97 (by decide) ?_
      exact g_iret C hr dX2_memberOfUnion_98 (by decide) (by decide) ⟨by rw [← hinv, show 32 - mm = 0 by omega]; rfl, rfl⟩
    · have hlt : mm < 32 := nI_nge c65 (by omega) (by decide)
      rw [show 32 - mm = (32 - (mm + 1)) + 1 by omega] at hinv
      refine g_iload C dX2_memberOfUnion_68 rfl ?_
      refine g_iload C dX2_memberOfUnion_70 rfl ?_
      refine g_iushr C dX2_memberOfUnion_72 rfl ?_
      refine g_iconst C (v := 1) dX2_memberOfUnion_73 (by decide) ?_
      refine g_iand C dX2_memberOfUnion_74 ?_
      refine g_iconst C (v := 1) dX2_memberOfUnion_75 (by decide) ?_
      refine g_icmp_ne C 91 dX2_memberOfUnion_76 (by decide) (fun c76 => ?_) (fun c76 => ?_)
      · refine g_iinc C (v := nI (mm + 1)) dX2_memberOfUnion_91 rfl (nI_1 mm) (by decide) ?_
        refine g_goto C 61 dX2_memberOfUnion_94 (by decide) ?_
        exact ih (mm + 1, b) ⟨hlt, by rw [← hinv]; simp [muG, ub, c76]⟩ (by dsimp only; omega)
      · refine g_iload C dX2_memberOfUnion_79 rfl ?_
        refine g_iload_n C dX2_memberOfUnion_81 rfl rfl ?_
        refine g_icmp_ne C 88 dX2_memberOfUnion_82 (by decide) (fun c82 => ?_) (fun c82 => ?_)
        · refine g_iinc C (v := (b + 1)) dX2_memberOfUnion_88 rfl (rfl) (by decide) ?_
          refine g_iinc C (v := nI (mm + 1)) dX2_memberOfUnion_91 rfl (nI_1 mm) (by decide) ?_
          refine g_goto C 61 dX2_memberOfUnion_94 (by decide) ?_
          exact ih (mm + 1, b + 1) ⟨hlt, by rw [← hinv]; simp [muG, ub, c76, c82]⟩ (by dsimp only; omega)
        · refine g_iload C dX2_memberOfUnion_85 rfl ?_
          exact g_iret C hr dX2_memberOfUnion_87 (by decide) (by decide) ⟨by rw [← hinv]; simp [muG, ub, c76, c82], rfl⟩
  | cons i r =>
    have hi : i < n := hr2 i List.mem_cons_self
    have hc := hT i hi
    have hla : (ti i).la = r.head? := lk_hd hr1.2
    have hlk' : lk (fun i => (ti i).la) r.head? r := by rw [← hla]; exact hr1.2
    first | refine g_aload C dX2_memberOfUnion_9 rfl ?_ | refine g_aloadN C dX2_memberOfUnion_9 rfl ?_ | refine g_aloadq C dX2_memberOfUnion_9 rfl ?_
    refine g_ifnullR C dX2_memberOfUnion_11 ?_
    first | refine g_aload C dX2_memberOfUnion_14 rfl ?_ | refine g_aloadN C dX2_memberOfUnion_14 rfl ?_ | refine g_aloadq C dX2_memberOfUnion_14 rfl ?_
    refine g_iload_n C dX2_memberOfUnion_16 rfl rfl ?_
    refine g_iconst C (v := 2) dX2_memberOfUnion_17 (by decide) ?_
    refine g_callVn C _ dX2_memberOfUnion_18 (c_X1_isOfField l G _ _ _ _ _ _ _ _ _ _ _ _ _ _ _ hc) kmX2_209 ki_X1_isOfField kv_X1_isOfField kn_X1 kc_X1_isOfField hy_X1_isOfField ⟨by decide, by decide⟩ hc rfl rfl (Nat.le_of_ble_eq_true rfl) ⟨by decide, by decide⟩ (fun v w1 hp => ?_)
    obtain ⟨rfl, hw1⟩ := hp
    have hw1 := hw1.symm
    subst hw1
    refine g_if_eq C 45 dX2_memberOfUnion_21 (by decide) (fun c21 => ?_) (fun c21 => ?_)
    · have c21 := bI_z.mp c21
      first | refine g_aload C dX2_memberOfUnion_45 rfl ?_ | refine g_aloadN C dX2_memberOfUnion_45 rfl ?_ | refine g_aloadq C dX2_memberOfUnion_45 rfl ?_
      refine g_get C dX2_memberOfUnion_47 hc rfl kw_X1 9 (by decide) kfX2_95 rfl rfl ?_
      first | refine g_astore C dX2_memberOfUnion_50 (by decide) ?_ | refine g_astoreN C dX2_memberOfUnion_50 (by decide) ?_ | refine g_astoreq C dX2_memberOfUnion_50 (by decide) ?_
      refine g_goto C 9 dX2_memberOfUnion_52 (by decide) ?_
      have e9 : unS ti d th acc i = acc := by simp [unS, c21]
      rw [hla]
      exact ih (r, acc) ⟨hlk', fun j hj => hr2 j (List.mem_cons_of_mem _ hj), (congrArg (fun q => List.foldl (unS ti d th) q r) e9.symm).trans hinv⟩ (Nat.lt_succ_self _)
    · have c21 := bI_nz.mp c21
      first | refine g_aload C dX2_memberOfUnion_24 rfl ?_ | refine g_aloadN C dX2_memberOfUnion_24 rfl ?_ | refine g_aloadq C dX2_memberOfUnion_24 rfl ?_
      refine g_iload_n C dX2_memberOfUnion_26 rfl rfl ?_
      refine g_callVn C _ dX2_memberOfUnion_27 (c_X1_isKnownAt l G _ _ _ _ _ _ _ _ _ _ _ _ _ _ hc) kmX2_88 ki_X1_isKnownAt kv_X1_isKnownAt kn_X1 kc_X1_isKnownAt hy_X1_isKnownAt ⟨by decide, by decide⟩ hc rfl rfl (Nat.le_of_ble_eq_true rfl) ⟨by decide, by decide⟩ (fun v w1 hp => ?_)
      obtain ⟨rfl, hw1⟩ := hp
      have hw1 := hw1.symm
      subst hw1
      refine g_if_eq C 45 dX2_memberOfUnion_30 (by decide) (fun c30 => ?_) (fun c30 => ?_)
      · have c30 := bI_z.mp c30
        first | refine g_aload C dX2_memberOfUnion_45 rfl ?_ | refine g_aloadN C dX2_memberOfUnion_45 rfl ?_ | refine g_aloadq C dX2_memberOfUnion_45 rfl ?_
        refine g_get C dX2_memberOfUnion_47 hc rfl kw_X1 9 (by decide) kfX2_95 rfl rfl ?_
        first | refine g_astore C dX2_memberOfUnion_50 (by decide) ?_ | refine g_astoreN C dX2_memberOfUnion_50 (by decide) ?_ | refine g_astoreq C dX2_memberOfUnion_50 (by decide) ?_
        refine g_goto C 9 dX2_memberOfUnion_52 (by decide) ?_
        have e9 : unS ti d th acc i = acc := by simp [unS, c21, c30]
        rw [hla]
        exact ih (r, acc) ⟨hlk', fun j hj => hr2 j (List.mem_cons_of_mem _ hj), (congrArg (fun q => List.foldl (unS ti d th) q r) e9.symm).trans hinv⟩ (Nat.lt_succ_self _)
      · have c30 := bI_nz.mp c30
        refine g_iload C dX2_memberOfUnion_33 rfl ?_
        refine g_iconst C (v := 1) dX2_memberOfUnion_35 (by decide) ?_
        first | refine g_aload C dX2_memberOfUnion_36 rfl ?_ | refine g_aloadN C dX2_memberOfUnion_36 rfl ?_ | refine g_aloadq C dX2_memberOfUnion_36 rfl ?_
        refine g_get C dX2_memberOfUnion_38 hc rfl kw_X1 5 (by decide) kfX2_121 rfl rfl ?_
        refine g_ishl C dX2_memberOfUnion_41 ?_
        refine g_ior C dX2_memberOfUnion_42 ?_
        refine g_istore C dX2_memberOfUnion_43 (by decide) ?_
        first | refine g_aload C dX2_memberOfUnion_45 rfl ?_ | refine g_aloadN C dX2_memberOfUnion_45 rfl ?_ | refine g_aloadq C dX2_memberOfUnion_45 rfl ?_
        refine g_get C dX2_memberOfUnion_47 hc rfl kw_X1 9 (by decide) kfX2_95 rfl rfl ?_
        first | refine g_astore C dX2_memberOfUnion_50 (by decide) ?_ | refine g_astoreN C dX2_memberOfUnion_50 (by decide) ?_ | refine g_astoreq C dX2_memberOfUnion_50 (by decide) ?_
        refine g_goto C 9 dX2_memberOfUnion_52 (by decide) ?_
        have e9 : unS ti d th acc i = (acc ||| ((1 : Int32) <<< (nI (ti i).va &&& 31))) := by simp [unS, c21, c30]
        rw [hla]
        exact ih (r, (acc ||| ((1 : Int32) <<< (nI (ti i).va &&& 31)))) ⟨hlk', fun j hj => hr2 j (List.mem_cons_of_mem _ hj), (congrArg (fun q => List.foldl (unS ti d th) q r) e9.symm).trans hinv⟩ (Nat.lt_succ_self _)
end
section
/-! ===== the whole state of the class, and its answers that change nothing ===== -/
def TM (G : hD) (x tl rw ng cx un : Nat) (ad : Nat → Nat) (n : Nat) (ti : Nat → TI) (ch : List Nat) (rl : Nat → List Nat) (gv : Nat → Nat) (f : Nat → Int32) (w : hW) : Prop :=
  w x = some (cellX ad tl rw ng cx ch.head? n) ∧ (∃ tf, w tl = some (eT G 120 tf) ∧ ∀ i, i < n → tf i = some (ad i)) ∧ (∃ rf, w rw = some (eT G 16 rf) ∧ ∀ t, t < 16 → rf t = (rl t).head?.map ad) ∧ (∃ gf, w ng = some (eI G 6 gf) ∧ ∀ d, d < 6 → gf d = nI (gv d)) ∧ w cx = some (eO 0 [.ref un]) ∧ w un = some (eI G 16 f) ∧ tIn w ad n ti ∧ n ≤ 120 ∧ (∀ i ∈ ch, i < n) ∧ lk (fun i => (ti i).la) ch.head? ch ∧ (∀ t, t < 16 → (∀ i ∈ rl t, i < n) ∧ lk (fun i => (ti i).ne) (rl t).head? (rl t))
theorem ok_nI {d : Int32} {N : Nat} (hN : N < 2 ^ 31) (h0 : ¬ d < 0) (h1 : d < nI N) : ∃ j, j < N ∧ d = nI j := isM_of hN h0 h1
def frV (ti : Nat → TI) : Option Nat → Int32
  | none => -1
  | some i => nI (ti i).va
def frI : Option Nat → Int32
  | none => -1
  | some i => nI i
def atV (ti : Nat → TI) (ch : List Nat) (rl : Nat → List Nat) (d th fl k : Int32) : Int32 :=
  if fl = 0 then cond (decide (k = 0)) (ch.foldl (lvSt ti d th) (-1)) (-1) else if fl = 1 then cond (decide (k = 0)) (ch.foldl (smS ti d th) 0) (-1) else if fl = 2 then muG (ch.foldl (unS ti d th) 0) k 32 0 0 else frV ti (frG ti d k 0 (rl th.toNatClampNeg))
def abV (t : TI) (q : Int32) : Int32 := if q = 0 then nI t.st else if q = 1 then nI t.dk else if q = 2 then nI t.so else nI t.va
theorem nI_3 {fl : Int32} (h1 : ¬ 3 < fl) (h2 : fl.toInt < 0 ∨ 2 < fl.toInt) (h0 : ¬ fl < 0) : fl = 3 := by
  rw [Int32.lt_iff_toInt_lt] at h0 h1
  have e0 : (0 : Int32).toInt = 0 := by decide
  have e3 : (3 : Int32).toInt = 3 := by decide
  rw [e0] at h0
  rw [e3] at h1
  exact sw_of (k := 3) (by decide) (by omega)

set_option maxHeartbeats 4000000 in
set_option maxRecDepth 100000 in
theorem c_X2_findMade (l : Launch) (G : hD) (w : hW) (x tl rw ng cx un : Nat) (ad : Nat → Nat) (n : Nat) (ti : Nat → TI) (ch : List Nat) (rl : Nat → List Nat) (gv : Nat → Nat) (f : Nat → Int32) (hM : TM G x tl rw ng cx un ad n ti ch rl gv f w) (t : Int32) : h_Met l yX2_findMade (Cond.code yX2_findMade cX2_findMade 3 (some (.object "TrenchMerge$Telling"))) { frames := 6, cells := 1, slots := 6, locals := 82 } G [.ref x, .int t] w (fun v w' => ∃ j, j < n ∧ t = nI j ∧ v = some (.ref (ad j)) ∧ w' = w) (exc1 (isM n t)) := by
  refine h_met RX2 rfl (by decide) (Nat.le_of_ble_eq_true rfl) (cat_c (by first | rfl | exact rf_cat _) (cat_c (by first | rfl | exact rf_cat _) cat_n)) ?_
  intro p e s m below meth c A C hnt hr hnm
  obtain ⟨hx, ⟨tf, htl, htf⟩, ⟨rf, hrw, hrf⟩, ⟨gf, hng, hgf⟩, hcx, hun, hT, hn, hch, hlk, hrl⟩ := id hM
  refine g_iload_n C dX2_findMade_0 rfl rfl ?_
  refine g_if_lt C 12 dX2_findMade_1 (by decide) (fun c1 => ?_) (fun c1 => ?_)
  · refine g_null C dX2_findMade_12 ?_
    refine g_goto C 22 dX2_findMade_13 (by decide) ?_
    have hno : ¬ isM n t := fun h => (isM_in (by omega) h).1 c1
    first | refine g_astore_n C dX2_findMade_22 rfl (by decide) ?_ | refine g_astore_nN C dX2_findMade_22 rfl (by decide) ?_ | refine g_astore_nq C dX2_findMade_22 rfl (by decide) ?_
    first | refine g_aload_n C dX2_findMade_23 rfl rfl ?_ | refine g_aload_nN C dX2_findMade_23 rfl rfl ?_ | refine g_aload_nq C dX2_findMade_23 rfl rfl ?_
    refine g_ifnonnullN C dX2_findMade_24 ?_
    exact g_throwNS C hnt rfl dX2_findMade_27 dX2_findMade_30 dX2_findMade_31 dX2_findMade_33 dX2_findMade_36 (List.mem_of_getElem? (i := 5) rfl) (by decide) (by decide) (by decide) (by decide) (by decide) (by decide) (⟨rfl, hno⟩) rfl
  · refine g_iload_n C dX2_findMade_4 rfl rfl ?_
    first | refine g_aload_n C dX2_findMade_5 rfl rfl ?_ | refine g_aload_nN C dX2_findMade_5 rfl rfl ?_ | refine g_aload_nq C dX2_findMade_5 rfl rfl ?_
    refine g_get C dX2_findMade_6 hx rfl kw_X2 5 (by decide) kfX2_33 rfl rfl ?_
    refine g_icmp_lt C 16 dX2_findMade_9 (by decide) (fun c9 => ?_) (fun c9 => ?_)
    · obtain ⟨j, hj, rfl⟩ := isM_of (by omega) c1 c9
      first | refine g_aload_n C dX2_findMade_16 rfl rfl ?_ | refine g_aload_nN C dX2_findMade_16 rfl rfl ?_ | refine g_aload_nq C dX2_findMade_16 rfl rfl ?_
      refine g_get C dX2_findMade_17 hx rfl kw_X2 0 (by decide) kfX2_11 rfl rfl ?_
      refine g_iload_n C dX2_findMade_20 rfl rfl ?_
      refine g_aldqN C dX2_findMade_21 htl (Nat.lt_of_lt_of_le hj hn) (by decide) ?_
      rw [htf j hj]
      first | refine g_astore_n C dX2_findMade_22 rfl (by decide) ?_ | refine g_astore_nN C dX2_findMade_22 rfl (by decide) ?_ | refine g_astore_nq C dX2_findMade_22 rfl (by decide) ?_
      first | refine g_aload_n C dX2_findMade_23 rfl rfl ?_ | refine g_aload_nN C dX2_findMade_23 rfl rfl ?_ | refine g_aload_nq C dX2_findMade_23 rfl rfl ?_
      refine g_ifnonnullR C 37 dX2_findMade_24 (by decide) ?_
      first | refine g_aload_n C dX2_findMade_37 rfl rfl ?_ | refine g_aload_nN C dX2_findMade_37 rfl rfl ?_ | refine g_aload_nq C dX2_findMade_37 rfl rfl ?_
      exact g_aret C (r := some (ad j)) hr dX2_findMade_38 (by decide) (by decide) ⟨j, hj, rfl, rfl, rfl⟩
    · refine g_null C dX2_findMade_12 ?_
      refine g_goto C 22 dX2_findMade_13 (by decide) ?_
      have hno : ¬ isM n t := fun h => c9 (isM_in (by omega) h).2
      first | refine g_astore_n C dX2_findMade_22 rfl (by decide) ?_ | refine g_astore_nN C dX2_findMade_22 rfl (by decide) ?_ | refine g_astore_nq C dX2_findMade_22 rfl (by decide) ?_
      first | refine g_aload_n C dX2_findMade_23 rfl rfl ?_ | refine g_aload_nN C dX2_findMade_23 rfl rfl ?_ | refine g_aload_nq C dX2_findMade_23 rfl rfl ?_
      refine g_ifnonnullN C dX2_findMade_24 ?_
      exact g_throwNS C hnt rfl dX2_findMade_27 dX2_findMade_30 dX2_findMade_31 dX2_findMade_33 dX2_findMade_36 (List.mem_of_getElem? (i := 5) rfl) (by decide) (by decide) (by decide) (by decide) (by decide) (by decide) (⟨rfl, hno⟩) rfl

set_option maxHeartbeats 4000000 in
set_option maxRecDepth 100000 in
theorem c_X2_findKnown (l : Launch) (G : hD) (w : hW) (x tl rw ng cx un : Nat) (ad : Nat → Nat) (n : Nat) (ti : Nat → TI) (ch : List Nat) (rl : Nat → List Nat) (gv : Nat → Nat) (f : Nat → Int32) (hM : TM G x tl rw ng cx un ad n ti ch rl gv f w) (d t : Int32) : h_Met l yX2_findKnown (Cond.code yX2_findKnown cX2_findKnown 4 (some (.object "TrenchMerge$Telling"))) { frames := 7, cells := 2, slots := 12, locals := 104 } G [.ref x, .int d, .int t] w (fun v w' => ∃ j, j < n ∧ t = nI j ∧ kb (ti j).kn d = true ∧ v = some (.ref (ad j)) ∧ w' = w) (exc1 (isK ti n d t)) := by
  refine h_met RX2 rfl (by decide) (Nat.le_of_ble_eq_true rfl) (cat_c (by first | rfl | exact rf_cat _) (cat_c (by first | rfl | exact rf_cat _) (cat_c (by first | rfl | exact rf_cat _) cat_n))) ?_
  intro p e s m below meth c A C hnt hr hnm
  obtain ⟨hx, ⟨tf, htl, htf⟩, ⟨rf, hrw, hrf⟩, ⟨gf, hng, hgf⟩, hcx, hun, hT, hn, hch, hlk, hrl⟩ := id hM
  first | refine g_aload_n C dX2_findKnown_0 rfl rfl ?_ | refine g_aload_nN C dX2_findKnown_0 rfl rfl ?_ | refine g_aload_nq C dX2_findKnown_0 rfl rfl ?_
  refine g_iload_n C dX2_findKnown_1 rfl rfl ?_
  refine g_callV C hnt _ dX2_findKnown_2 (c_X2_findMade l G _ _ _ _ _ _ _ _ _ _ _ _ _ _ hM _) kmX2_135 ki_X2_findMade kv_X2_findMade kn_X2 kc_X2_findMade hy_X2_findMade ⟨by decide, by decide⟩ hx rfl rfl (Nat.le_of_ble_eq_true rfl) ⟨by decide, by decide⟩ ⟨by decide, by decide⟩ (fun E hE => ⟨⟨hE.1, fun h => hE.2 (by obtain ⟨j, h1, h2, -⟩ := h; exact ⟨j, h1, h2⟩)⟩, rfl⟩) (fun v w1 hp => ?_)
  obtain ⟨j, hj, rfl, rfl, hw1⟩ := hp
  have hw1 := hw1.symm
  subst hw1
  have hc := hT j hj
  first | refine g_astore_n C dX2_findKnown_5 rfl (by decide) ?_ | refine g_astore_nN C dX2_findKnown_5 rfl (by decide) ?_ | refine g_astore_nq C dX2_findKnown_5 rfl (by decide) ?_
  first | refine g_aload_n C dX2_findKnown_6 rfl rfl ?_ | refine g_aload_nN C dX2_findKnown_6 rfl rfl ?_ | refine g_aload_nq C dX2_findKnown_6 rfl rfl ?_
  refine g_iload_n C dX2_findKnown_7 rfl rfl ?_
  refine g_callVn C _ dX2_findKnown_8 (c_X1_isKnownAt l G _ _ _ _ _ _ _ _ _ _ _ _ _ _ hc) kmX2_88 ki_X1_isKnownAt kv_X1_isKnownAt kn_X1 kc_X1_isKnownAt hy_X1_isKnownAt ⟨by decide, by decide⟩ hc rfl rfl (Nat.le_of_ble_eq_true rfl) ⟨by decide, by decide⟩ (fun v w1 hp => ?_)
  obtain ⟨rfl, hw1⟩ := hp
  have hw1 := hw1.symm
  subst hw1
  refine g_if_ne C 24 dX2_findKnown_11 (by decide) (fun c11 => ?_) (fun c11 => ?_)
  · have c11 := bI_nz.mp c11
    first | refine g_aload_n C dX2_findKnown_24 rfl rfl ?_ | refine g_aload_nN C dX2_findKnown_24 rfl rfl ?_ | refine g_aload_nq C dX2_findKnown_24 rfl rfl ?_
    exact g_aret C (r := some (ad j)) hr dX2_findKnown_25 (by decide) (by decide) ⟨j, hj, rfl, c11, rfl, rfl⟩
  · have c11 := bI_z.mp c11
    exact g_throwNS C hnt rfl dX2_findKnown_14 dX2_findKnown_17 dX2_findKnown_18 dX2_findKnown_20 dX2_findKnown_23 (List.mem_of_getElem? (i := 6) rfl) (by decide) (by decide) (by decide) (by decide) (by decide) (by decide) (⟨rfl, fun h => by obtain ⟨j2, h1, h2, h3⟩ := h; rw [← (nI_eq (by omega) (by omega)).mp h2, c11] at h3; cases h3⟩) rfl

set_option maxHeartbeats 4000000 in
set_option maxRecDepth 100000 in
theorem c_X2_knows (l : Launch) (G : hD) (w : hW) (x tl rw ng cx un : Nat) (ad : Nat → Nat) (n : Nat) (ti : Nat → TI) (ch : List Nat) (rl : Nat → List Nat) (gv : Nat → Nat) (f : Nat → Int32) (hM : TM G x tl rw ng cx un ad n ti ch rl gv f w) (d t : Int32) : h_Met l yX2_knows (Cond.code yX2_knows cX2_knows 3 (some .boolean)) { frames := 7, cells := 2, slots := 12, locals := 104 } G [.ref x, .int d, .int t] w (fun v w' => okD d ∧ (∃ j, j < n ∧ t = nI j ∧ v = some (.int (bI (kb (ti j).kn d)))) ∧ w' = w) (exc1 (okD d ∧ isM n t)) := by
  refine h_met RX2 rfl (by decide) (Nat.le_of_ble_eq_true rfl) (cat_c (by first | rfl | exact rf_cat _) (cat_c (by first | rfl | exact rf_cat _) (cat_c (by first | rfl | exact rf_cat _) cat_n))) ?_
  intro p e s m below meth c A C hnt hr hnm
  obtain ⟨hx, ⟨tf, htl, htf⟩, ⟨rf, hrw, hrf⟩, ⟨gf, hng, hgf⟩, hcx, hun, hT, hn, hch, hlk, hrl⟩ := id hM
  refine g_iload_n C dX2_knows_0 rfl rfl ?_
  refine g_callS C hnt _ dX2_knows_1 (c_X2_requireDesk l G _ _) kmX2_37 ks_X2_requireDesk kn_X2 kc_X2_requireDesk hy_X2_requireDesk ⟨by decide, by decide⟩ rfl (Nat.le_of_ble_eq_true rfl) ⟨by decide, by decide⟩ ⟨by decide, by decide⟩ (fun E hE => ⟨⟨hE.1, fun h => hE.2 h.1⟩, rfl⟩) (fun v w1 hp => ?_)
  obtain ⟨rfl, hw1, hok0⟩ := hp
  have hw1 := hw1.symm
  subst hw1
  first | refine g_aload_n C dX2_knows_4 rfl rfl ?_ | refine g_aload_nN C dX2_knows_4 rfl rfl ?_ | refine g_aload_nq C dX2_knows_4 rfl rfl ?_
  refine g_iload_n C dX2_knows_5 rfl rfl ?_
  refine g_callV C hnt _ dX2_knows_6 (c_X2_findMade l G _ _ _ _ _ _ _ _ _ _ _ _ _ _ hM _) kmX2_135 ki_X2_findMade kv_X2_findMade kn_X2 kc_X2_findMade hy_X2_findMade ⟨by decide, by decide⟩ hx rfl rfl (Nat.le_of_ble_eq_true rfl) ⟨by decide, by decide⟩ ⟨by decide, by decide⟩ (fun E hE => ⟨⟨hE.1, fun h => hE.2 h.2⟩, rfl⟩) (fun v w1 hp => ?_)
  obtain ⟨j, hj, rfl, rfl, hw1⟩ := hp
  have hw1 := hw1.symm
  subst hw1
  have hc := hT j hj
  refine g_iload_n C dX2_knows_9 rfl rfl ?_
  refine g_callVn C _ dX2_knows_10 (c_X1_isKnownAt l G _ _ _ _ _ _ _ _ _ _ _ _ _ _ hc) kmX2_88 ki_X1_isKnownAt kv_X1_isKnownAt kn_X1 kc_X1_isKnownAt hy_X1_isKnownAt ⟨by decide, by decide⟩ hc rfl rfl (Nat.le_of_ble_eq_true rfl) ⟨by decide, by decide⟩ (fun v w1 hp => ?_)
  obtain ⟨rfl, hw1⟩ := hp
  have hw1 := hw1.symm
  subst hw1
  exact g_zret C hr (by cases kb (ti j).kn d <;> rfl) dX2_knows_13 (by decide) (by decide) ⟨hok0, ⟨j, hj, rfl, rfl⟩, rfl⟩

def eqF (ti : Nat → TI) (d1 d2 : Int32) (i : Nat) : Bool := kb (ti i).kn d1 == kb (ti i).kn d2
theorem bI_inj {p q : Bool} : bI p = bI q ↔ p = q := by cases p <;> cases q <;> simp [bI]
set_option maxHeartbeats 4000000 in
set_option maxRecDepth 100000 in
theorem c_X2_equal (l : Launch) (G : hD) (w : hW) (x tl rw ng cx un : Nat) (ad : Nat → Nat) (n : Nat) (ti : Nat → TI) (ch : List Nat) (rl : Nat → List Nat) (gv : Nat → Nat) (f : Nat → Int32) (hM : TM G x tl rw ng cx un ad n ti ch rl gv f w) (d1 d2 : Int32) : h_Met l yX2_equal (Cond.code yX2_equal cX2_equal 4 (some .boolean)) { frames := 7, cells := 2, slots := 12, locals := 102 } G [.ref x, .int d1, .int d2] w (fun v w' => okD d1 ∧ okD d2 ∧ v = some (.int (bI (ch.all (eqF ti d1 d2)))) ∧ w' = w) (exc1 (okD d1 ∧ okD d2)) := by
  refine h_met RX2 rfl (by decide) (Nat.le_of_ble_eq_true rfl) (cat_c (by first | rfl | exact rf_cat _) (cat_c (by first | rfl | exact rf_cat _) (cat_c (by first | rfl | exact rf_cat _) cat_n))) ?_
  intro p e s m below meth c A C hnt hr hnm
  obtain ⟨hx, ⟨tf, htl, htf⟩, ⟨rf, hrw, hrf⟩, ⟨gf, hng, hgf⟩, hcx, hun, hT, hn, hch, hlk, hrl⟩ := id hM
  refine g_iload_n C dX2_equal_0 rfl rfl ?_
  refine g_callS C hnt _ dX2_equal_1 (c_X2_requireDesk l G _ _) kmX2_37 ks_X2_requireDesk kn_X2 kc_X2_requireDesk hy_X2_requireDesk ⟨by decide, by decide⟩ rfl (Nat.le_of_ble_eq_true rfl) ⟨by decide, by decide⟩ ⟨by decide, by decide⟩ (fun E hE => ⟨⟨hE.1, fun h => hE.2 h.1⟩, rfl⟩) (fun v w1 hp => ?_)
  obtain ⟨rfl, hw1, hok0⟩ := hp
  have hw1 := hw1.symm
  subst hw1
  refine g_iload_n C dX2_equal_4 rfl rfl ?_
  refine g_callS C hnt _ dX2_equal_5 (c_X2_requireDesk l G _ _) kmX2_37 ks_X2_requireDesk kn_X2 kc_X2_requireDesk hy_X2_requireDesk ⟨by decide, by decide⟩ rfl (Nat.le_of_ble_eq_true rfl) ⟨by decide, by decide⟩ ⟨by decide, by decide⟩ (fun E hE => ⟨⟨hE.1, fun h => hE.2 h.2⟩, rfl⟩) (fun v w1 hp => ?_)
  obtain ⟨rfl, hw1, hok1⟩ := hp
  have hw1 := hw1.symm
  subst hw1
  first | refine g_aload_n C dX2_equal_8 rfl rfl ?_ | refine g_aload_nN C dX2_equal_8 rfl rfl ?_ | refine g_aload_nq C dX2_equal_8 rfl rfl ?_
  refine g_get C dX2_equal_9 hx rfl kw_X2 4 (by decide) kfX2_29 rfl rfl ?_
  first | refine g_astore_n C dX2_equal_12 rfl (by decide) ?_ | refine g_astore_nN C dX2_equal_12 rfl (by decide) ?_ | refine g_astore_nq C dX2_equal_12 rfl (by decide) ?_
  refine g_loop (σ := List Nat) (fun z => lk (fun i => (ti i).la) z.head? z ∧ (∀ i ∈ z, i < n) ∧ z.all (eqF ti d1 d2) = ch.all (eqF ti d1 d2)) (fun z => z.length) (fun _ => w) (fun z => [(0, .ref x), (1, .int d1), (2, .int d2), (3, va_rf (z.head?.map ad))]) ?_ ch ⟨hlk, hch, rfl⟩
  intro r hI ih
  obtain ⟨hr1, hr2, hinv⟩ := hI
  cases r with
  | nil =>
    first | refine g_aload_n C dX2_equal_13 rfl rfl ?_ | refine g_aload_nN C dX2_equal_13 rfl rfl ?_ | refine g_aload_nq C dX2_equal_13 rfl rfl ?_
    refine g_ifnullN C 40 dX2_equal_14 (by decide) ?_
    refine g_iconst C (v := 1) dX2_equal_40 (by decide) ?_
    exact g_zret C hr rfl dX2_equal_41 (by decide) (by decide) ⟨hok0, hok1, by rw [← hinv]; rfl, rfl⟩
  | cons i r =>
    have hi : i < n := hr2 i List.mem_cons_self
    have hc := hT i hi
    have hla : (ti i).la = r.head? := lk_hd hr1.2
    have hlk' : lk (fun i => (ti i).la) r.head? r := by rw [← hla]; exact hr1.2
    first | refine g_aload_n C dX2_equal_13 rfl rfl ?_ | refine g_aload_nN C dX2_equal_13 rfl rfl ?_ | refine g_aload_nq C dX2_equal_13 rfl rfl ?_
    refine g_ifnullR C dX2_equal_14 ?_
    first | refine g_aload_n C dX2_equal_17 rfl rfl ?_ | refine g_aload_nN C dX2_equal_17 rfl rfl ?_ | refine g_aload_nq C dX2_equal_17 rfl rfl ?_
    refine g_iload_n C dX2_equal_18 rfl rfl ?_
    refine g_callVn C _ dX2_equal_19 (c_X1_isKnownAt l G _ _ _ _ _ _ _ _ _ _ _ _ _ _ hc) kmX2_88 ki_X1_isKnownAt kv_X1_isKnownAt kn_X1 kc_X1_isKnownAt hy_X1_isKnownAt ⟨by decide, by decide⟩ hc rfl rfl (Nat.le_of_ble_eq_true rfl) ⟨by decide, by decide⟩ (fun v w1 hp => ?_)
    obtain ⟨rfl, hw1⟩ := hp
    have hw1 := hw1.symm
    subst hw1
    first | refine g_aload_n C dX2_equal_22 rfl rfl ?_ | refine g_aload_nN C dX2_equal_22 rfl rfl ?_ | refine g_aload_nq C dX2_equal_22 rfl rfl ?_
    refine g_iload_n C dX2_equal_23 rfl rfl ?_
    refine g_callVn C _ dX2_equal_24 (c_X1_isKnownAt l G _ _ _ _ _ _ _ _ _ _ _ _ _ _ hc) kmX2_88 ki_X1_isKnownAt kv_X1_isKnownAt kn_X1 kc_X1_isKnownAt hy_X1_isKnownAt ⟨by decide, by decide⟩ hc rfl rfl (Nat.le_of_ble_eq_true rfl) ⟨by decide, by decide⟩ (fun v w1 hp => ?_)
    obtain ⟨rfl, hw1⟩ := hp
    have hw1 := hw1.symm
    subst hw1
    refine g_icmp_eq C 32 dX2_equal_27 (by decide) (fun c27 => ?_) (fun c27 => ?_)
    · have c27 := bI_inj.mp c27
      first | refine g_aload_n C dX2_equal_32 rfl rfl ?_ | refine g_aload_nN C dX2_equal_32 rfl rfl ?_ | refine g_aload_nq C dX2_equal_32 rfl rfl ?_
      refine g_get C dX2_equal_33 hc rfl kw_X1 9 (by decide) kfX2_95 rfl rfl ?_
      first | refine g_astore_n C dX2_equal_36 rfl (by decide) ?_ | refine g_astore_nN C dX2_equal_36 rfl (by decide) ?_ | refine g_astore_nq C dX2_equal_36 rfl (by decide) ?_
      refine g_goto C 13 dX2_equal_37 (by decide) ?_
      rw [hla]
      exact ih r ⟨hlk', fun j hj => hr2 j (List.mem_cons_of_mem _ hj), by rw [← hinv]; simp [eqF, c27]⟩ (Nat.lt_succ_self _)
    · have c27 := mt bI_inj.mpr c27
      refine g_iconst C (v := 0) dX2_equal_30 (by decide) ?_
      exact g_zret C hr rfl dX2_equal_31 (by decide) (by decide) ⟨hok0, hok1, by rw [← hinv]; have h9 : (kb (ti i).kn d1 == kb (ti i).kn d2) = false := beq_eq_false_iff_ne.mpr c27; simp [eqF, h9, bI], rfl⟩

def exc2 (P1 P2 : Prop) (E : String) : Prop := (E = nNS ∧ ¬ P1) ∨ (E = nIA ∧ P1 ∧ ¬ P2)
theorem nI_03 {q : Int32} (h : q.toInt < 0 ∨ 3 < q.toInt) : ¬ (¬ q < 0 ∧ ¬ 3 < q) := by
  rw [Int32.lt_iff_toInt_lt, Int32.lt_iff_toInt_lt]
  have e0 : (0 : Int32).toInt = 0 := by decide
  have e3 : (3 : Int32).toInt = 3 := by decide
  rw [e0, e3]
  omega
set_option maxHeartbeats 4000000 in
set_option maxRecDepth 100000 in
theorem c_X2_about (l : Launch) (G : hD) (w : hW) (x tl rw ng cx un : Nat) (ad : Nat → Nat) (n : Nat) (ti : Nat → TI) (ch : List Nat) (rl : Nat → List Nat) (gv : Nat → Nat) (f : Nat → Int32) (hM : TM G x tl rw ng cx un ad n ti ch rl gv f w) (d t q : Int32) : h_Met l yX2_about (Cond.code yX2_about cX2_about 5 (some .int)) { frames := 8, cells := 4, slots := 24, locals := 127 } G [.ref x, .int d, .int t, .int q] w (fun v w' => okD d ∧ (¬ q < 0 ∧ ¬ 3 < q) ∧ (∃ j, j < n ∧ t = nI j ∧ kb (ti j).kn d = true ∧ v = some (.int (abV (ti j) q))) ∧ w' = w) (exc2 (okD d ∧ isK ti n d t) (¬ q < 0 ∧ ¬ 3 < q)) := by
  refine h_met RX2 rfl (by decide) (Nat.le_of_ble_eq_true rfl) (cat_c (by first | rfl | exact rf_cat _) (cat_c (by first | rfl | exact rf_cat _) (cat_c (by first | rfl | exact rf_cat _) (cat_c (by first | rfl | exact rf_cat _) cat_n)))) ?_
  intro p e s m below meth c A C hnt hr hnm
  obtain ⟨hx, ⟨tf, htl, htf⟩, ⟨rf, hrw, hrf⟩, ⟨gf, hng, hgf⟩, hcx, hun, hT, hn, hch, hlk, hrl⟩ := id hM
  refine g_iload_n C dX2_about_0 rfl rfl ?_
  refine g_callS C hnt _ dX2_about_1 (c_X2_requireDesk l G _ _) kmX2_37 ks_X2_requireDesk kn_X2 kc_X2_requireDesk hy_X2_requireDesk ⟨by decide, by decide⟩ rfl (Nat.le_of_ble_eq_true rfl) ⟨by decide, by decide⟩ ⟨by decide, by decide⟩ (fun E hE => ⟨Or.inl ⟨hE.1, fun h => hE.2 h.1⟩, rfl⟩) (fun v w1 hp => ?_)
  obtain ⟨rfl, hw1, hok0⟩ := hp
  have hw1 := hw1.symm
  subst hw1
  first | refine g_aload_n C dX2_about_4 rfl rfl ?_ | refine g_aload_nN C dX2_about_4 rfl rfl ?_ | refine g_aload_nq C dX2_about_4 rfl rfl ?_
  refine g_iload_n C dX2_about_5 rfl rfl ?_
  refine g_iload_n C dX2_about_6 rfl rfl ?_
  refine g_callV C hnt _ dX2_about_7 (c_X2_findKnown l G _ _ _ _ _ _ _ _ _ _ _ _ _ _ hM _ _) kmX2_58 ki_X2_findKnown kv_X2_findKnown kn_X2 kc_X2_findKnown hy_X2_findKnown ⟨by decide, by decide⟩ hx rfl rfl (Nat.le_of_ble_eq_true rfl) ⟨by decide, by decide⟩ ⟨by decide, by decide⟩ (fun E hE => ⟨Or.inl ⟨hE.1, fun h => hE.2 h.2⟩, rfl⟩) (fun v w1 hp => ?_)
  obtain ⟨j, hj, rfl, hkj, rfl, hw1⟩ := hp
  have hw1 := hw1.symm
  subst hw1
  have hc := hT j hj
  first | refine g_astore C dX2_about_10 (by decide) ?_ | refine g_astoreN C dX2_about_10 (by decide) ?_ | refine g_astoreq C dX2_about_10 (by decide) ?_
  refine g_iload_n C dX2_about_12 rfl rfl ?_
  rcases sw4 q with rfl | rfl | rfl | rfl | c13
  · refine g_tableIn C 44 dX2_about_13 (by decide) (by decide) rfl (by decide) ?_
    first | refine g_aload C dX2_about_44 rfl ?_ | refine g_aloadN C dX2_about_44 rfl ?_ | refine g_aloadq C dX2_about_44 rfl ?_
    refine g_get C dX2_about_46 hc rfl kw_X1 2 (by decide) kfX2_146 rfl rfl ?_
    exact g_iret C hr dX2_about_49 (by decide) (by decide) ⟨hok0, by decide, ⟨j, hj, rfl, hkj, rfl⟩, rfl⟩
  · refine g_tableIn C 50 dX2_about_13 (by decide) (by decide) rfl (by decide) ?_
    first | refine g_aload C dX2_about_50 rfl ?_ | refine g_aloadN C dX2_about_50 rfl ?_ | refine g_aloadq C dX2_about_50 rfl ?_
    refine g_get C dX2_about_52 hc rfl kw_X1 1 (by decide) kfX2_149 rfl rfl ?_
    exact g_iret C hr dX2_about_55 (by decide) (by decide) ⟨hok0, by decide, ⟨j, hj, rfl, hkj, rfl⟩, rfl⟩
  · refine g_tableIn C 56 dX2_about_13 (by decide) (by decide) rfl (by decide) ?_
    first | refine g_aload C dX2_about_56 rfl ?_ | refine g_aloadN C dX2_about_56 rfl ?_ | refine g_aloadq C dX2_about_56 rfl ?_
    refine g_get C dX2_about_58 hc rfl kw_X1 3 (by decide) kfX2_62 rfl rfl ?_
    exact g_iret C hr dX2_about_61 (by decide) (by decide) ⟨hok0, by decide, ⟨j, hj, rfl, hkj, rfl⟩, rfl⟩
  · refine g_tableIn C 62 dX2_about_13 (by decide) (by decide) rfl (by decide) ?_
    first | refine g_aload C dX2_about_62 rfl ?_ | refine g_aloadN C dX2_about_62 rfl ?_ | refine g_aloadq C dX2_about_62 rfl ?_
    refine g_get C dX2_about_64 hc rfl kw_X1 5 (by decide) kfX2_121 rfl rfl ?_
    exact g_iret C hr dX2_about_67 (by decide) (by decide) ⟨hok0, by decide, ⟨j, hj, rfl, hkj, rfl⟩, rfl⟩
  · refine g_tableOut C 68 dX2_about_13 c13 (by decide) ?_
    exact g_throw C hnt rfl dX2_about_68 dX2_about_71 dX2_about_72 dX2_about_74 dX2_about_77 (by decide +kernel) klX2_68 kn_IllegalArgumentException (List.mem_of_getElem? (i := 13) rfl) ht_IA1 ht_IA2 ht_IA3 (by decide) (by decide) (by decide) (by decide) (by decide) (by decide) (Or.inr ⟨rfl, ⟨hok0, ⟨j, hj, rfl, hkj⟩⟩, nI_03 c13⟩) rfl

def ctV (n : Nat) (ti : Nat → TI) (ch : List Nat) (q : Int32) : Int32 := if q = 0 then nI n else if q = 1 then ch.foldl (cfS ti) 0 else ch.foldl (cuS ti) 0
def exc9 (P2 : Prop) (E : String) : Prop := E = nIA ∧ ¬ P2
theorem nI_02 {q : Int32} (h : q.toInt < 0 ∨ 2 < q.toInt) : ¬ (¬ q < 0 ∧ ¬ 2 < q) := by
  rw [Int32.lt_iff_toInt_lt, Int32.lt_iff_toInt_lt]
  have e0 : (0 : Int32).toInt = 0 := by decide
  have e3 : (2 : Int32).toInt = 2 := by decide
  rw [e0, e3]
  omega
set_option maxHeartbeats 4000000 in
set_option maxRecDepth 100000 in
theorem c_X2_count (l : Launch) (G : hD) (w : hW) (x tl rw ng cx un : Nat) (ad : Nat → Nat) (n : Nat) (ti : Nat → TI) (ch : List Nat) (rl : Nat → List Nat) (gv : Nat → Nat) (f : Nat → Int32) (hM : TM G x tl rw ng cx un ad n ti ch rl gv f w) (q : Int32) : h_Met l yX2_count (Cond.code yX2_count cX2_count 2 (some .int)) { frames := 6, cells := 1, slots := 6, locals := 82 } G [.ref x, .int q] w (fun v w' => (¬ q < 0 ∧ ¬ 2 < q) ∧ v = some (.int (ctV n ti ch q)) ∧ w' = w) (exc9 (¬ q < 0 ∧ ¬ 2 < q)) := by
  refine h_met RX2 rfl (by decide) (Nat.le_of_ble_eq_true rfl) (cat_c (by first | rfl | exact rf_cat _) (cat_c (by first | rfl | exact rf_cat _) cat_n)) ?_
  intro p e s m below meth c A C hnt hr hnm
  obtain ⟨hx, ⟨tf, htl, htf⟩, ⟨rf, hrw, hrf⟩, ⟨gf, hng, hgf⟩, hcx, hun, hT, hn, hch, hlk, hrl⟩ := id hM
  refine g_iload_n C dX2_count_0 rfl rfl ?_
  rcases sw3 q with rfl | rfl | rfl | c1
  · refine g_tableIn C 28 dX2_count_1 (by decide) (by decide) rfl (by decide) ?_
    first | refine g_aload_n C dX2_count_28 rfl rfl ?_ | refine g_aload_nN C dX2_count_28 rfl rfl ?_ | refine g_aload_nq C dX2_count_28 rfl rfl ?_
    refine g_get C dX2_count_29 hx rfl kw_X2 5 (by decide) kfX2_33 rfl rfl ?_
    exact g_iret C hr dX2_count_32 (by decide) (by decide) ⟨by decide, rfl, rfl⟩
  · refine g_tableIn C 33 dX2_count_1 (by decide) (by decide) rfl (by decide) ?_
    first | refine g_aload_n C dX2_count_33 rfl rfl ?_ | refine g_aload_nN C dX2_count_33 rfl rfl ?_ | refine g_aload_nq C dX2_count_33 rfl rfl ?_
    refine g_callVn C _ dX2_count_34 (c_X2_countForgotten l G _ _ _ _ _ _ _ _ _ _ _ hx hT hch hlk) kmX2_154 ki_X2_countForgotten kv_X2_countForgotten kn_X2 kc_X2_countForgotten hy_X2_countForgotten ⟨by decide, by decide⟩ hx rfl rfl (Nat.le_of_ble_eq_true rfl) ⟨by decide, by decide⟩ (fun v w1 hp => ?_)
    obtain ⟨rfl, hw1⟩ := hp
    have hw1 := hw1.symm
    subst hw1
    exact g_iret C hr dX2_count_37 (by decide) (by decide) ⟨by decide, rfl, rfl⟩
  · refine g_tableIn C 38 dX2_count_1 (by decide) (by decide) rfl (by decide) ?_
    first | refine g_aload_n C dX2_count_38 rfl rfl ?_ | refine g_aload_nN C dX2_count_38 rfl rfl ?_ | refine g_aload_nq C dX2_count_38 rfl rfl ?_
    refine g_callVn C _ dX2_count_39 (c_X2_countUnshared l G _ _ _ _ _ _ _ _ _ _ _ hx hT hch hlk) kmX2_158 ki_X2_countUnshared kv_X2_countUnshared kn_X2 kc_X2_countUnshared hy_X2_countUnshared ⟨by decide, by decide⟩ hx rfl rfl (Nat.le_of_ble_eq_true rfl) ⟨by decide, by decide⟩ (fun v w1 hp => ?_)
    obtain ⟨rfl, hw1⟩ := hp
    have hw1 := hw1.symm
    subst hw1
    exact g_iret C hr dX2_count_42 (by decide) (by decide) ⟨by decide, rfl, rfl⟩
  · refine g_tableOut C 43 dX2_count_1 c1 (by decide) ?_
    exact g_throw C hnt rfl dX2_count_43 dX2_count_46 dX2_count_47 dX2_count_49 dX2_count_52 (by decide +kernel) klX2_68 kn_IllegalArgumentException (List.mem_of_getElem? (i := 14) rfl) ht_IA1 ht_IA2 ht_IA3 (by decide) (by decide) (by decide) (by decide) (by decide) (by decide) (⟨rfl, nI_02 c1⟩) rfl

theorem frG_mem {ti : Nat → TI} {d k : Int32} : ∀ {r : List Nat} {b : Int32} {j : Nat}, frG ti d k b r = some j → j ∈ r
  | [], _, _, h => by cases h
  | i :: r, b, j, h => by
    unfold frG at h
    cases h1 : (kb (ti i).kn d && !kb (ti i).en d) with
    | false => rw [h1] at h; exact List.mem_cons_of_mem _ (frG_mem h)
    | true =>
      rw [h1] at h
      cases h2 : decide (b = k) with
      | false => rw [h2] at h; exact List.mem_cons_of_mem _ (frG_mem h)
      | true => rw [h2] at h; cases h; exact List.mem_cons_self
set_option maxHeartbeats 4000000 in
set_option maxRecDepth 100000 in
theorem c_X2_place (l : Launch) (G : hD) (w : hW) (x tl rw ng cx un : Nat) (ad : Nat → Nat) (n : Nat) (ti : Nat → TI) (ch : List Nat) (rl : Nat → List Nat) (gv : Nat → Nat) (f : Nat → Int32) (hM : TM G x tl rw ng cx un ad n ti ch rl gv f w) (d th k : Int32) : h_Met l yX2_place (Cond.code yX2_place cX2_place 5 (some .int)) { frames := 7, cells := 3, slots := 18, locals := 102 } G [.ref x, .int d, .int th, .int k] w (fun v w' => okD d ∧ okT th ∧ ¬ k < 0 ∧ v = some (.int (frI (frG ti d k 0 (rl th.toNatClampNeg)))) ∧ w' = w) (exc1 (okD d ∧ okT th ∧ ¬ k < 0)) := by
  refine h_met RX2 rfl (by decide) (Nat.le_of_ble_eq_true rfl) (cat_c (by first | rfl | exact rf_cat _) (cat_c (by first | rfl | exact rf_cat _) (cat_c (by first | rfl | exact rf_cat _) (cat_c (by first | rfl | exact rf_cat _) cat_n)))) ?_
  intro p e s m below meth c A C hnt hr hnm
  obtain ⟨hx, ⟨tf, htl, htf⟩, ⟨rf, hrw, hrf⟩, ⟨gf, hng, hgf⟩, hcx, hun, hT, hn, hch, hlk, hrl⟩ := id hM
  refine g_iload_n C dX2_place_0 rfl rfl ?_
  refine g_callS C hnt _ dX2_place_1 (c_X2_requireDesk l G _ _) kmX2_37 ks_X2_requireDesk kn_X2 kc_X2_requireDesk hy_X2_requireDesk ⟨by decide, by decide⟩ rfl (Nat.le_of_ble_eq_true rfl) ⟨by decide, by decide⟩ ⟨by decide, by decide⟩ (fun E hE => ⟨⟨hE.1, fun h => hE.2 h.1⟩, rfl⟩) (fun v w1 hp => ?_)
  obtain ⟨rfl, hw1, hok0⟩ := hp
  have hw1 := hw1.symm
  subst hw1
  refine g_iload_n C dX2_place_4 rfl rfl ?_
  refine g_callS C hnt _ dX2_place_5 (c_X2_requireThing l G _ _) kmX2_41 ks_X2_requireThing kn_X2 kc_X2_requireThing hy_X2_requireThing ⟨by decide, by decide⟩ rfl (Nat.le_of_ble_eq_true rfl) ⟨by decide, by decide⟩ ⟨by decide, by decide⟩ (fun E hE => ⟨⟨hE.1, fun h => hE.2 h.2.1⟩, rfl⟩) (fun v w1 hp => ?_)
  obtain ⟨rfl, hw1, hok1⟩ := hp
  have hw1 := hw1.symm
  subst hw1
  refine g_iload_n C dX2_place_8 rfl rfl ?_
  refine g_callS C hnt _ dX2_place_9 (c_X2_requireOrdinal l G _ _) kmX2_103 ks_X2_requireOrdinal kn_X2 kc_X2_requireOrdinal hy_X2_requireOrdinal ⟨by decide, by decide⟩ rfl (Nat.le_of_ble_eq_true rfl) ⟨by decide, by decide⟩ ⟨by decide, by decide⟩ (fun E hE => ⟨⟨hE.1, fun h => hE.2 h.2.2⟩, rfl⟩) (fun v w1 hp => ?_)
  obtain ⟨rfl, hw1, hok2⟩ := hp
  have hw1 := hw1.symm
  subst hw1
  obtain ⟨t, ht, rfl⟩ := ok_nI (N := 16) (by decide) hok1.1 hok1.2
  first | refine g_aload_n C dX2_place_12 rfl rfl ?_ | refine g_aload_nN C dX2_place_12 rfl rfl ?_ | refine g_aload_nq C dX2_place_12 rfl rfl ?_
  refine g_iload_n C dX2_place_13 rfl rfl ?_
  refine g_iload_n C dX2_place_14 rfl rfl ?_
  refine g_iload_n C dX2_place_15 rfl rfl ?_
  refine g_callVn C _ dX2_place_16 (c_X2_findInRow l G _ _ _ _ _ _ _ _ _ _ _ _ (rl t) t hx hT hrw ht (hrf t ht) (hrl t ht).1 (hrl t ht).2 _ _) kmX2_117 ki_X2_findInRow kv_X2_findInRow kn_X2 kc_X2_findInRow hy_X2_findInRow ⟨by decide, by decide⟩ hx rfl rfl (Nat.le_of_ble_eq_true rfl) ⟨by decide, by decide⟩ (fun v w1 hp => ?_)
  obtain ⟨rfl, hw1⟩ := hp
  have hw1 := hw1.symm
  subst hw1
  cases hfr : frG ti d k 0 (rl t) with
  | none =>
    first | refine g_astore C dX2_place_19 (by decide) ?_ | refine g_astoreN C dX2_place_19 (by decide) ?_ | refine g_astoreq C dX2_place_19 (by decide) ?_
    first | refine g_aload C dX2_place_21 rfl ?_ | refine g_aloadN C dX2_place_21 rfl ?_ | refine g_aloadq C dX2_place_21 rfl ?_
    refine g_ifnonnullN C dX2_place_23 ?_
    refine g_iconst C (v := (-1)) dX2_place_26 (by decide) ?_
    refine g_goto C 35 dX2_place_27 (by decide) ?_
    exact g_iret C hr dX2_place_35 (by decide) (by decide) ⟨hok0, hok1, hok2, by rw [nI_clamp (by omega), hfr]; rfl, rfl⟩
  | some j =>
    have hj : j < n := (hrl t ht).1 j (frG_mem hfr)
    have hc := hT j hj
    first | refine g_astore C dX2_place_19 (by decide) ?_ | refine g_astoreN C dX2_place_19 (by decide) ?_ | refine g_astoreq C dX2_place_19 (by decide) ?_
    first | refine g_aload C dX2_place_21 rfl ?_ | refine g_aloadN C dX2_place_21 rfl ?_ | refine g_aloadq C dX2_place_21 rfl ?_
    refine g_ifnonnullR C 30 dX2_place_23 (by decide) ?_
    first | refine g_aload C dX2_place_30 rfl ?_ | refine g_aloadN C dX2_place_30 rfl ?_ | refine g_aloadq C dX2_place_30 rfl ?_
    refine g_get C dX2_place_32 hc rfl kw_X1 0 (by decide) kfX2_55 rfl rfl ?_
    exact g_iret C hr dX2_place_35 (by decide) (by decide) ⟨hok0, hok1, hok2, by rw [nI_clamp (by omega), hfr]; rfl, rfl⟩

set_option maxHeartbeats 4000000 in
set_option maxRecDepth 100000 in
theorem c_X2_at (l : Launch) (G : hD) (w : hW) (x tl rw ng cx un : Nat) (ad : Nat → Nat) (n : Nat) (ti : Nat → TI) (ch : List Nat) (rl : Nat → List Nat) (gv : Nat → Nat) (f : Nat → Int32) (hM : TM G x tl rw ng cx un ad n ti ch rl gv f w) (d th fl k : Int32) : h_Met l yX2_at (Cond.code yX2_at cX2_at 6 (some .int)) { frames := 7, cells := 4, slots := 24, locals := 103 } G [.ref x, .int d, .int th, .int fl, .int k] w (fun v w' => (okD d ∧ okT th ∧ (¬ fl < 0 ∧ ¬ 3 < fl) ∧ ¬ k < 0) ∧ v = some (.int (atV ti ch rl d th fl k)) ∧ w' = w) (exc1 (okD d ∧ okT th ∧ (¬ fl < 0 ∧ ¬ 3 < fl) ∧ ¬ k < 0)) := by
  refine h_met RX2 rfl (by decide) (Nat.le_of_ble_eq_true rfl) (cat_c (by first | rfl | exact rf_cat _) (cat_c (by first | rfl | exact rf_cat _) (cat_c (by first | rfl | exact rf_cat _) (cat_c (by first | rfl | exact rf_cat _) (cat_c (by first | rfl | exact rf_cat _) cat_n))))) ?_
  intro p e s m below meth c A C hnt hr hnm
  obtain ⟨hx, ⟨tf, htl, htf⟩, ⟨rf, hrw, hrf⟩, ⟨gf, hng, hgf⟩, hcx, hun, hT, hn, hch, hlk, hrl⟩ := id hM
  refine g_iload_n C dX2_at_0 rfl rfl ?_
  refine g_callS C hnt _ dX2_at_1 (c_X2_requireDesk l G _ _) kmX2_37 ks_X2_requireDesk kn_X2 kc_X2_requireDesk hy_X2_requireDesk ⟨by decide, by decide⟩ rfl (Nat.le_of_ble_eq_true rfl) ⟨by decide, by decide⟩ ⟨by decide, by decide⟩ (fun E hE => ⟨⟨hE.1, fun h => hE.2 h.1⟩, rfl⟩) (fun v w1 hp => ?_)
  obtain ⟨rfl, hw1, hok0⟩ := hp
  have hw1 := hw1.symm
  subst hw1
  refine g_iload_n C dX2_at_4 rfl rfl ?_
  refine g_callS C hnt _ dX2_at_5 (c_X2_requireThing l G _ _) kmX2_41 ks_X2_requireThing kn_X2 kc_X2_requireThing hy_X2_requireThing ⟨by decide, by decide⟩ rfl (Nat.le_of_ble_eq_true rfl) ⟨by decide, by decide⟩ ⟨by decide, by decide⟩ (fun E hE => ⟨⟨hE.1, fun h => hE.2 h.2.1⟩, rfl⟩) (fun v w1 hp => ?_)
  obtain ⟨rfl, hw1, hok1⟩ := hp
  have hw1 := hw1.symm
  subst hw1
  refine g_iload_n C dX2_at_8 rfl rfl ?_
  refine g_iconst C (v := 3) dX2_at_9 (by decide) ?_
  refine g_callS C hnt _ dX2_at_10 (c_X2_requireField l G _ _ _) kmX2_44 ks_X2_requireField kn_X2 kc_X2_requireField hy_X2_requireField ⟨by decide, by decide⟩ rfl (Nat.le_of_ble_eq_true rfl) ⟨by decide, by decide⟩ ⟨by decide, by decide⟩ (fun E hE => ⟨⟨hE.1, fun h => hE.2 h.2.2.1⟩, rfl⟩) (fun v w1 hp => ?_)
  obtain ⟨rfl, hw1, hok2⟩ := hp
  have hw1 := hw1.symm
  subst hw1
  refine g_iload C dX2_at_13 rfl ?_
  refine g_callS C hnt _ dX2_at_15 (c_X2_requireOrdinal l G _ _) kmX2_103 ks_X2_requireOrdinal kn_X2 kc_X2_requireOrdinal hy_X2_requireOrdinal ⟨by decide, by decide⟩ rfl (Nat.le_of_ble_eq_true rfl) ⟨by decide, by decide⟩ ⟨by decide, by decide⟩ (fun E hE => ⟨⟨hE.1, fun h => hE.2 h.2.2.2⟩, rfl⟩) (fun v w1 hp => ?_)
  obtain ⟨rfl, hw1, hok3⟩ := hp
  have hw1 := hw1.symm
  subst hw1
  refine g_iload_n C dX2_at_18 rfl rfl ?_
  rcases sw3 fl with rfl | rfl | rfl | c19
  · refine g_tableIn C 44 dX2_at_19 (by decide) (by decide) rfl (by decide) ?_
    refine g_iload C dX2_at_44 rfl ?_
    refine g_if_ne C 58 dX2_at_46 (by decide) (fun c46 => ?_) (fun c46 => ?_)
    · refine g_iconst C (v := (-1)) dX2_at_58 (by decide) ?_
      exact g_iret C hr dX2_at_59 (by decide) (by decide) ⟨⟨hok0, hok1, hok2, hok3⟩, by simp [atV, c46], rfl⟩
    · first | refine g_aload_n C dX2_at_49 rfl rfl ?_ | refine g_aload_nN C dX2_at_49 rfl rfl ?_ | refine g_aload_nq C dX2_at_49 rfl rfl ?_
      refine g_iload_n C dX2_at_50 rfl rfl ?_
      refine g_iload_n C dX2_at_51 rfl rfl ?_
      refine g_callVn C _ dX2_at_52 (c_X2_latestValue l G _ _ _ _ _ _ _ _ _ _ _ hx hT hch hlk _ _) kmX2_106 ki_X2_latestValue kv_X2_latestValue kn_X2 kc_X2_latestValue hy_X2_latestValue ⟨by decide, by decide⟩ hx rfl rfl (Nat.le_of_ble_eq_true rfl) ⟨by decide, by decide⟩ (fun v w1 hp => ?_)
      obtain ⟨rfl, hw1⟩ := hp
      have hw1 := hw1.symm
      subst hw1
      refine g_goto C 59 dX2_at_55 (by decide) ?_
      exact g_iret C hr dX2_at_59 (by decide) (by decide) ⟨⟨hok0, hok1, hok2, hok3⟩, by simp [atV, c46], rfl⟩
  · refine g_tableIn C 60 dX2_at_19 (by decide) (by decide) rfl (by decide) ?_
    refine g_iload C dX2_at_60 rfl ?_
    refine g_if_ne C 74 dX2_at_62 (by decide) (fun c62 => ?_) (fun c62 => ?_)
    · refine g_iconst C (v := (-1)) dX2_at_74 (by decide) ?_
      exact g_iret C hr dX2_at_75 (by decide) (by decide) ⟨⟨hok0, hok1, hok2, hok3⟩, by simp [atV, c62], rfl⟩
    · first | refine g_aload_n C dX2_at_65 rfl rfl ?_ | refine g_aload_nN C dX2_at_65 rfl rfl ?_ | refine g_aload_nq C dX2_at_65 rfl rfl ?_
      refine g_iload_n C dX2_at_66 rfl rfl ?_
      refine g_iload_n C dX2_at_67 rfl rfl ?_
      refine g_callVn C _ dX2_at_68 (c_X2_sumOfValues l G _ _ _ _ _ _ _ _ _ _ _ hx hT hch hlk _ _) kmX2_110 ki_X2_sumOfValues kv_X2_sumOfValues kn_X2 kc_X2_sumOfValues hy_X2_sumOfValues ⟨by decide, by decide⟩ hx rfl rfl (Nat.le_of_ble_eq_true rfl) ⟨by decide, by decide⟩ (fun v w1 hp => ?_)
      obtain ⟨rfl, hw1⟩ := hp
      have hw1 := hw1.symm
      subst hw1
      refine g_goto C 75 dX2_at_71 (by decide) ?_
      exact g_iret C hr dX2_at_75 (by decide) (by decide) ⟨⟨hok0, hok1, hok2, hok3⟩, by simp [atV, c62], rfl⟩
  · refine g_tableIn C 76 dX2_at_19 (by decide) (by decide) rfl (by decide) ?_
    first | refine g_aload_n C dX2_at_76 rfl rfl ?_ | refine g_aload_nN C dX2_at_76 rfl rfl ?_ | refine g_aload_nq C dX2_at_76 rfl rfl ?_
    refine g_iload_n C dX2_at_77 rfl rfl ?_
    refine g_iload_n C dX2_at_78 rfl rfl ?_
    refine g_iload C dX2_at_79 rfl ?_
    refine g_callVn C _ dX2_at_81 (c_X2_memberOfUnion l G _ _ _ _ _ _ _ _ _ _ _ hx hT hch hlk _ _ _) kmX2_113 ki_X2_memberOfUnion kv_X2_memberOfUnion kn_X2 kc_X2_memberOfUnion hy_X2_memberOfUnion ⟨by decide, by decide⟩ hx rfl rfl (Nat.le_of_ble_eq_true rfl) ⟨by decide, by decide⟩ (fun v w1 hp => ?_)
    obtain ⟨rfl, hw1⟩ := hp
    have hw1 := hw1.symm
    subst hw1
    exact g_iret C hr dX2_at_84 (by decide) (by decide) ⟨⟨hok0, hok1, hok2, hok3⟩, by simp [atV, ], rfl⟩
  · refine g_tableOut C 85 dX2_at_19 c19 (by decide) ?_
    have hf3 := nI_3 hok2.2 c19 hok2.1
    subst hf3
    obtain ⟨t, ht, rfl⟩ := ok_nI (N := 16) (by decide) hok1.1 hok1.2
    first | refine g_aload_n C dX2_at_85 rfl rfl ?_ | refine g_aload_nN C dX2_at_85 rfl rfl ?_ | refine g_aload_nq C dX2_at_85 rfl rfl ?_
    refine g_iload_n C dX2_at_86 rfl rfl ?_
    refine g_iload_n C dX2_at_87 rfl rfl ?_
    refine g_iload C dX2_at_88 rfl ?_
    refine g_callVn C _ dX2_at_90 (c_X2_findInRow l G _ _ _ _ _ _ _ _ _ _ _ _ (rl t) t hx hT hrw ht (hrf t ht) (hrl t ht).1 (hrl t ht).2 _ _) kmX2_117 ki_X2_findInRow kv_X2_findInRow kn_X2 kc_X2_findInRow hy_X2_findInRow ⟨by decide, by decide⟩ hx rfl rfl (Nat.le_of_ble_eq_true rfl) ⟨by decide, by decide⟩ (fun v w1 hp => ?_)
    obtain ⟨rfl, hw1⟩ := hp
    have hw1 := hw1.symm
    subst hw1
    cases hfr : frG ti d k 0 (rl t) with
    | none =>
      first | refine g_astore C dX2_at_93 (by decide) ?_ | refine g_astoreN C dX2_at_93 (by decide) ?_ | refine g_astoreq C dX2_at_93 (by decide) ?_
      first | refine g_aload C dX2_at_95 rfl ?_ | refine g_aloadN C dX2_at_95 rfl ?_ | refine g_aloadq C dX2_at_95 rfl ?_
      refine g_ifnonnullN C dX2_at_97 ?_
      refine g_iconst C (v := (-1)) dX2_at_100 (by decide) ?_
      refine g_goto C 109 dX2_at_101 (by decide) ?_
      exact g_iret C hr dX2_at_109 (by decide) (by decide) ⟨⟨hok0, hok1, hok2, hok3⟩, by simp only [atV]; rw [if_neg (by decide), if_neg (by decide), if_neg (by decide), nI_clamp (by omega), hfr]; rfl, rfl⟩
    | some j =>
      have hj : j < n := (hrl t ht).1 j (frG_mem hfr)
      have hc := hT j hj
      first | refine g_astore C dX2_at_93 (by decide) ?_ | refine g_astoreN C dX2_at_93 (by decide) ?_ | refine g_astoreq C dX2_at_93 (by decide) ?_
      first | refine g_aload C dX2_at_95 rfl ?_ | refine g_aloadN C dX2_at_95 rfl ?_ | refine g_aloadq C dX2_at_95 rfl ?_
      refine g_ifnonnullR C 104 dX2_at_97 (by decide) ?_
      first | refine g_aload C dX2_at_104 rfl ?_ | refine g_aloadN C dX2_at_104 rfl ?_ | refine g_aloadq C dX2_at_104 rfl ?_
      refine g_get C dX2_at_106 hc rfl kw_X1 5 (by decide) kfX2_121 rfl rfl ?_
      exact g_iret C hr dX2_at_109 (by decide) (by decide) ⟨⟨hok0, hok1, hok2, hok3⟩, by simp only [atV]; rw [if_neg (by decide), if_neg (by decide), if_neg (by decide), nI_clamp (by omega), hfr]; rfl, rfl⟩
end
section
/-! ===== what changes: numbers, joins, compacting ===== -/
theorem lk_congr {nx ny : Nat → Option Nat} : ∀ {r : List Nat} {h : Option Nat}, lk nx h r → (∀ i ∈ r, ny i = nx i) → lk ny h r
  | [], _, hl, _ => hl
  | i :: r, _, hl, hc => ⟨hl.1, by rw [hc i List.mem_cons_self]; exact lk_congr hl.2 (fun j hj => hc j (List.mem_cons_of_mem _ hj))⟩
theorem any_congr {p q : Nat → Bool} : ∀ {l : List Nat}, (∀ i ∈ l, p i = q i) → l.any p = l.any q
  | [], _ => rfl
  | i :: l, h => by
    simp only [List.any_cons, h i List.mem_cons_self, any_congr (fun j hj => h j (List.mem_cons_of_mem _ hj))]
theorem tIn_inj {w : hW} {ad : Nat → Nat} {n : Nat} {ti : Nat → TI} (h : tIn w ad n ti) (hn : n ≤ 120) {i j : Nat} (hi : i < n) (hj : j < n) (e : ad i = ad j) : i = j := by
  have h1 := h i hi
  have h2 := h j hj
  rw [e, h2] at h1
  have h3 : nI j = nI i := by
    have h4 := Option.some.inj h1
    simp only [cellT, tC, eO, Sum.inr.injEq, Prod.mk.injEq, List.cons.injEq, Value.int.injEq] at h4
    exact h4.2.1
  exact ((nI_eq (by omega) (by omega)).mp h3).symm
theorem tIn_up {w : hW} {ad : Nat → Nat} {n : Nat} {ti : Nat → TI} (h : tIn w ad n ti) (hn : n ≤ 120) {i : Nat} (hi : i < n) (t : TI) : tIn (h_up w (ad i) (cellT ad i t)) ad n (va_up ti i t) := by
  intro j hj
  by_cases hji : j = i
  · subst hji
    rw [h_up_s, va_up_self]
  · rw [h_up_n (fun e => hji (tIn_inj h hn hj hi e)), va_up_ne _ _ hji]
    exact h j hj
theorem tIn_off {w : hW} {ad : Nat → Nat} {n : Nat} {ti : Nat → TI} (h : tIn w ad n ti) {b : Nat} {e : va_E} (hb : ∀ i, i < n → b ≠ ad i) : tIn (h_up w b e) ad n ti := fun i hi => (h_up_n (fun q => hb i hi q.symm)).trans (h i hi)
/-- a loop along the chain that changes tellings one by one to F -/
def LI (w : hW) (ad : Nat → Nat) (n : Nat) (ti F : Nat → TI) (r : List Nat) (wa : hW) (t1 : Nat → TI) : Prop :=
  tIn wa ad n t1 ∧ (∀ q, (∀ i, i < n → q ≠ ad i) → wa q = w q) ∧ (∀ i ∈ r, t1 i = ti i) ∧ (∀ i, i < n → i ∉ r → t1 i = F i) ∧ r.Nodup
section LI
variable {w wa : hW} {ad : Nat → Nat} {n : Nat} {ti F t1 : Nat → TI} {r : List Nat} {i : Nat}
theorem LI.start (hT : tIn w ad n ti) (hall : ∀ i, i < n → i ∈ r) (hnd : r.Nodup) : LI w ad n ti F r w ti := ⟨hT, fun _ _ => rfl, fun _ _ => rfl, fun i hi h => absurd (hall i hi) h, hnd⟩
theorem LI.cell (h : LI w ad n ti F (i :: r) wa t1) (hi : i < n) : wa (ad i) = some (cellT ad i (ti i)) := by
  rw [← h.2.2.1 i List.mem_cons_self]
  exact h.1 i hi
theorem LI.step (h : LI w ad n ti F (i :: r) wa t1) (hn : n ≤ 120) (hi : i < n) : LI w ad n ti F r (h_up wa (ad i) (cellT ad i (F i))) (va_up t1 i (F i)) := by
  obtain ⟨h1, h2, h3, h4, h5⟩ := h
  have hnd := List.nodup_cons.mp h5
  refine ⟨tIn_up h1 hn hi _, fun q hq => (h_up_n (hq i hi)).trans (h2 q hq), fun j hj => ?_, fun j hj hr => ?_, hnd.2⟩
  · rw [va_up_ne _ _ (fun e : j = i => hnd.1 (by rw [← e]; exact hj))]
    exact h3 j (List.mem_cons_of_mem _ hj)
  · by_cases hji : j = i
    · subst hji
      rw [va_up_self]
    · rw [va_up_ne _ _ hji]
      exact h4 j hj (fun h => (List.mem_cons.mp h).elim hji hr)
theorem LI.skip (h : LI w ad n ti F (i :: r) wa t1) (hF : F i = ti i) : LI w ad n ti F r wa t1 := by
  obtain ⟨h1, h2, h3, h4, h5⟩ := h
  refine ⟨h1, h2, fun j hj => h3 j (List.mem_cons_of_mem _ hj), fun j hj hr => ?_, (List.nodup_cons.mp h5).2⟩
  by_cases hji : j = i
  · subst hji
    rw [hF]
    exact h3 j List.mem_cons_self
  · exact h4 j hj (fun h => (List.mem_cons.mp h).elim hji hr)
theorem LI.fin (h : LI w ad n ti F [] wa t1) : tIn wa ad n F := fun j hj => by
  rw [← h.2.2.2.1 j hj List.not_mem_nil]
  exact h.1 j hj
theorem LI.other (h : LI w ad n ti F r wa t1) {b : Nat} (e : va_E) (hb : ∀ i, i < n → b ≠ ad i) : LI (h_up w b e) ad n ti F r (h_up wa b e) t1 := by
  obtain ⟨h1, h2, h3⟩ := h
  refine ⟨tIn_off h1 hb, fun q hq => ?_, h3⟩
  by_cases hqb : q = b
  · subst hqb
    rw [h_up_s, h_up_s]
  · rw [h_up_n hqb, h_up_n hqb]
    exact h2 q hq
end LI
/-- the class's cells -/
def CD (x tl rw ng cx un : Nat) (ad : Nat → Nat) (n q : Nat) : Prop := q = x ∨ q = tl ∨ q = rw ∨ q = ng ∨ q = cx ∨ q = un ∨ ∃ i, i < n ∧ q = ad i
/-- nothing else changed -/
def fr (D : Nat → Prop) (w w' : hW) : Prop := ∀ q e, ¬ D q → w q = some e → w' q = some e
theorem fr.rf {D : Nat → Prop} {w : hW} : fr D w w := fun _ _ _ h => h
theorem fr.up {D : Nat → Prop} {w w' : hW} {b : Nat} {e : va_E} (h : fr D w w') (hb : D b) : fr D w (h_up w' b e) := fun q f hq hw => (h_up_n (fun z : q = b => hq (by rw [z]; exact hb))).trans (h q f hq hw)
theorem fr.new {D : Nat → Prop} {w w' : hW} {b : Nat} {e : va_E} (h : fr D w w') (hb : w' b = none) : fr D w (h_up w' b e) := fun q f hq hw => (h_up_n (fun z : q = b => by subst z; rw [h q f hq hw] at hb; cases hb)).trans (h q f hq hw)
theorem fr.trans {D : Nat → Prop} {w1 w2 w3 : hW} (h : fr D w1 w2) (k : fr D w2 w3) : fr D w1 w3 := fun q e hq hw => k q e hq (h q e hq hw)
section TM
variable {G : hD} {x tl rw ng cx un : Nat} {ad : Nat → Nat} {n : Nat} {ti ti1 : Nat → TI} {ch : List Nat} {rl : Nat → List Nat} {gv : Nat → Nat} {f f1 : Nat → Int32} {w w1 : hW}
theorem TM.apart (h : TM G x tl rw ng cx un ad n ti ch rl gv f w) : ∀ i, i < n → x ≠ ad i ∧ tl ≠ ad i ∧ rw ≠ ad i ∧ ng ≠ ad i ∧ cx ≠ ad i ∧ un ≠ ad i := by
  obtain ⟨hx, ⟨tf, htl, htf⟩, ⟨rf, hrw, hrf⟩, ⟨gf, hng, hgf⟩, hcx, hun, hT, -⟩ := h
  intro i hi
  have hc := hT i hi
  refine ⟨?_, ?_, ?_, ?_, ?_, ?_⟩ <;> intro e
  · rw [e, hc] at hx; simp at hx
  · rw [e, hc] at htl; simp at htl
  · rw [e, hc] at hrw; simp at hrw
  · rw [e, hc] at hng; simp at hng
  · rw [e, hc] at hcx; simp at hcx
  · rw [e, hc] at hun; simp at hun
theorem TM.apart2 (h : TM G x tl rw ng cx un ad n ti ch rl gv f w) : x ≠ tl ∧ x ≠ rw ∧ x ≠ ng ∧ x ≠ cx ∧ x ≠ un ∧ tl ≠ rw ∧ tl ≠ cx ∧ rw ≠ cx ∧ ng ≠ cx ∧ ng ≠ un ∧ cx ≠ un := by
  obtain ⟨hx, ⟨tf, htl, htf⟩, ⟨rf, hrw, hrf⟩, ⟨gf, hng, hgf⟩, hcx, hun, -⟩ := h
  refine ⟨?_, ?_, ?_, ?_, ?_, ?_, ?_, ?_, ?_, ?_, ?_⟩ <;> intro e
  · rw [e, htl] at hx; simp at hx
  · rw [e, hrw] at hx; simp at hx
  · rw [e, hng] at hx; simp at hx
  · rw [e, hcx] at hx; simp at hx
  · rw [e, hun] at hx; simp at hx
  · rw [e, hrw] at htl; simp at htl
  · rw [e, hcx] at htl; simp at htl
  · rw [e, hcx] at hrw; simp at hrw
  · rw [e, hcx] at hng; simp at hng
  · rw [e, hun] at hng; simp at hng
  · rw [e, hun] at hcx; simp at hcx
/-- tellings changed, not their links; and the masks of contexts -/
theorem TM.chg (h : TM G x tl rw ng cx un ad n ti ch rl gv f w) (hT1 : tIn w1 ad n ti1) (ho : ∀ q, (∀ i, i < n → q ≠ ad i) → w1 q = h_up w un (eI G 16 f1) q) (hla : ∀ i, i < n → (ti1 i).la = (ti i).la) (hne : ∀ i, i < n → (ti1 i).ne = (ti i).ne) : TM G x tl rw ng cx un ad n ti1 ch rl gv f1 w1 := by
  have ap := h.apart
  obtain ⟨b1, b2, b3, b4, b5, b6, b7, b8, b9, b10, b11⟩ := h.apart2
  obtain ⟨hx, ⟨tf, htl, htf⟩, ⟨rf, hrw, hrf⟩, ⟨gf, hng, hgf⟩, hcx, hun, hT, hn, hch, hlk, hrl⟩ := h
  have tlun : tl ≠ un := fun e => by rw [e, hun] at htl; simp at htl
  have rwun : rw ≠ un := fun e => by rw [e, hun] at hrw; simp at hrw
  refine ⟨?_, ⟨tf, ?_, htf⟩, ⟨rf, ?_, hrf⟩, ⟨gf, ?_, hgf⟩, ?_, ?_, hT1, hn, hch, lk_congr hlk (fun i hi => hla i (hch i hi)), fun t ht => ⟨(hrl t ht).1, lk_congr (hrl t ht).2 (fun i hi => hne i ((hrl t ht).1 i hi))⟩⟩
  · rw [ho x (fun i hi => (ap i hi).1), h_up_n b5]; exact hx
  · rw [ho tl (fun i hi => (ap i hi).2.1), h_up_n tlun]; exact htl
  · rw [ho rw (fun i hi => (ap i hi).2.2.1), h_up_n rwun]; exact hrw
  · rw [ho ng (fun i hi => (ap i hi).2.2.2.1), h_up_n b10]; exact hng
  · rw [ho cx (fun i hi => (ap i hi).2.2.2.2.1), h_up_n b11]; exact hcx
  · rw [ho un (fun i hi => (ap i hi).2.2.2.2.2), h_up_s]
theorem TM.chg0 (h : TM G x tl rw ng cx un ad n ti ch rl gv f w) (hT1 : tIn w1 ad n ti1) (ho : ∀ q, (∀ i, i < n → q ≠ ad i) → w1 q = w q) (hla : ∀ i, i < n → (ti1 i).la = (ti i).la) (hne : ∀ i, i < n → (ti1 i).ne = (ti i).ne) : TM G x tl rw ng cx un ad n ti1 ch rl gv f w1 :=
  h.chg hT1 (fun q hq => by rw [h_up_self h.2.2.2.2.2.1]; exact ho q hq) hla hne
theorem fr_off (ho : ∀ q, (∀ i, i < n → q ≠ ad i) → w1 q = h_up w un (eI G 16 f1) q) : fr (CD x tl rw ng cx un ad n) w w1 := fun q e hq hw => by
  rw [ho q (fun i hi z => hq (Or.inr (Or.inr (Or.inr (Or.inr (Or.inr (Or.inr ⟨i, hi, z⟩))))))), h_up_n (fun z => hq (Or.inr (Or.inr (Or.inr (Or.inr (Or.inr (Or.inl z)))))))]
  exact hw
theorem fr_off0 (ho : ∀ q, (∀ i, i < n → q ≠ ad i) → w1 q = w q) : fr (CD x tl rw ng cx un ad n) w w1 := fun q e hq hw => (ho q (fun i hi z => hq (Or.inr (Or.inr (Or.inr (Or.inr (Or.inr (Or.inr ⟨i, hi, z⟩)))))))).trans hw
end TM
def psT (d o : Int32) (t : TI) : TI := (t.dk, t.st, t.so, t.th, t.va, kpass t.kn o d, kpass t.en o d, t.op, t.la, t.ne)
def jnS (ti : Nat → TI) (d o : Int32) (g : Int32) (i : Nat) : Int32 := cond (kb (ti i).kn o && !kb (ti i).kn d) (g + 1) g
def fgT (t : TI) : TI := (t.dk, t.st, t.so, t.th, t.va, 0, t.en, t.op, t.la, t.ne)
/-- outdone in the chain: shared, and a later shared one of the same thing -/
def cpB (ti : Nat → TI) : List Nat → Nat → Bool
  | [], _ => false
  | j :: r, i => cond (decide (i = j)) (shL (ti j) && r.any (odF ti (ti j).th)) (cpB ti r i)
theorem cpB_at {ti : Nat → TI} : ∀ {pre r : List Nat} {i : Nat}, (pre ++ i :: r).Nodup → cpB ti (pre ++ i :: r) i = (shL (ti i) && r.any (odF ti (ti i).th))
  | [], r, i, _ => by simp [cpB]
  | j :: pre, r, i, h => by
    have h1 := List.nodup_cons.mp h
    have hne : i ≠ j := fun e => h1.1 (by rw [← e]; simp)
    show cond (decide (i = j)) _ (cpB ti (pre ++ i :: r) i) = _
    rw [decide_eq_false hne]
    exact cpB_at h1.2
def cpS (ti : Nat → TI) (ch : List Nat) (g : Int32) (i : Nat) : Int32 := cond (cpB ti ch i) (g + 1) g
def cpT (ti : Nat → TI) (ch : List Nat) (i : Nat) : TI := cond (cpB ti ch i) (fgT (ti i)) (ti i)

def excN (P1 P3 : Prop) (E : String) : Prop := (E = nNS ∧ ¬ P1) ∨ (E = nIS ∧ P1 ∧ ¬ P3)
set_option maxHeartbeats 4000000 in
set_option maxRecDepth 100000 in
theorem c_X2_number (l : Launch) (G : hD) (w : hW) (x tl rw ng cx un : Nat) (ad : Nat → Nat) (n : Nat) (ti : Nat → TI) (ch : List Nat) (rl : Nat → List Nat) (gv : Nat → Nat) (f : Nat → Int32) (hM : TM G x tl rw ng cx un ad n ti ch rl gv f w) (d : Int32) (hgv : ∀ j, j < 6 → gv j ≤ 1000) : h_Met l yX2_number (Cond.code yX2_number cX2_number 3 (some .int)) { frames := 7, cells := 2, slots := 12, locals := 102 } G [.ref x, .int d] w (fun v w' => ∃ j, j < 6 ∧ d = nI j ∧ gv j < 1000 ∧ v = some (.int (nI (1000 * j + gv j))) ∧ TM G x tl rw ng cx un ad n ti ch rl (va_up gv j (gv j + 1)) f w' ∧ fr (CD x tl rw ng cx un ad n) w w') (excN (okD d) (∀ j, d = nI j → j < 6 → gv j < 1000)) := by
  refine h_met RX2 rfl (by decide) (Nat.le_of_ble_eq_true rfl) (cat_c (by first | rfl | exact rf_cat _) (cat_c (by first | rfl | exact rf_cat _) cat_n)) ?_
  intro p e s m below meth c A C hnt hr hnm
  obtain ⟨hx, ⟨tf, htl, htf⟩, ⟨rf, hrw, hrf⟩, ⟨gf, hng, hgf⟩, hcx, hun, hT, hn, hch, hlk, hrl⟩ := id hM
  refine g_iload_n C dX2_number_0 rfl rfl ?_
  refine g_callS C hnt _ dX2_number_1 (c_X2_requireDesk l G _ _) kmX2_37 ks_X2_requireDesk kn_X2 kc_X2_requireDesk hy_X2_requireDesk ⟨by decide, by decide⟩ rfl (Nat.le_of_ble_eq_true rfl) ⟨by decide, by decide⟩ ⟨by decide, by decide⟩ (fun E hE => ⟨Or.inl hE, rfl⟩) (fun v w1 hp => ?_)
  obtain ⟨rfl, hw1, hok0⟩ := hp
  have hw1 := hw1.symm
  subst hw1
  obtain ⟨j, hj, rfl⟩ := ok_nI (N := 6) (by decide) hok0.1 hok0.2
  first | refine g_aload_n C dX2_number_4 rfl rfl ?_ | refine g_aload_nN C dX2_number_4 rfl rfl ?_ | refine g_aload_nq C dX2_number_4 rfl rfl ?_
  refine g_get C dX2_number_5 hx rfl kw_X2 2 (by decide) kfX2_18 rfl rfl ?_
  refine g_iload_n C dX2_number_8 rfl rfl ?_
  refine g_ialdN C dX2_number_9 hng hj (by decide) ?_
  rw [hgf j hj]
  refine g_istore_n C dX2_number_10 rfl (by decide) ?_
  refine g_iload_n C dX2_number_11 rfl rfl ?_
  refine g_sipush C (v := 1000) dX2_number_12 (by decide) ?_
  refine g_icmp_lt C 28 dX2_number_15 (by decide) (fun c15 => ?_) (fun c15 => ?_)
  · have c15 : gv j < 1000 := (nI_ltI (b := 1000) (by have := hgv j hj; omega) (by decide)).mp c15
    first | refine g_aload_n C dX2_number_28 rfl rfl ?_ | refine g_aload_nN C dX2_number_28 rfl rfl ?_ | refine g_aload_nq C dX2_number_28 rfl rfl ?_
    refine g_get C dX2_number_29 hx rfl kw_X2 2 (by decide) kfX2_18 rfl rfl ?_
    refine g_iload_n C dX2_number_32 rfl rfl ?_
    refine g_iload_n C dX2_number_33 rfl rfl ?_
    refine g_iconst C (v := 1) dX2_number_34 (by decide) ?_
    refine g_iadd C dX2_number_35 ?_
    refine g_iastN C dX2_number_36 hng hj (by decide) ?_
    refine g_sipush C (v := 1000) dX2_number_37 (by decide) ?_
    refine g_iload_n C dX2_number_40 rfl rfl ?_
    refine g_imul C dX2_number_41 ?_
    refine g_iload_n C dX2_number_42 rfl rfl ?_
    refine g_iadd C dX2_number_43 ?_
    refine g_iret C hr dX2_number_44 (by decide) (by decide) ⟨j, hj, rfl, c15, ?_, ?_, ?_⟩
    · rw [show (1000 : Int32) = nI 1000 from rfl, pk_mul, nI_add]
    · obtain ⟨b1, b2, b3, b4, b5, b6, b7, b8, b9, b10, b11⟩ := hM.apart2
      have ap := hM.apart
      have tlng : tl ≠ ng := fun e => by rw [e, hng] at htl; have h9 := Option.some.inj htl; simp at h9
      have rwng : rw ≠ ng := fun e => by rw [e, hng] at hrw; have h9 := Option.some.inj hrw; simp at h9
      exact ⟨(h_up_n b3).trans hx, ⟨tf, (h_up_n tlng).trans htl, htf⟩, ⟨rf, (h_up_n rwng).trans hrw, hrf⟩, ⟨_, h_up_s _ _ _, fun q hq => by
        by_cases hqj : q = j
        · subst hqj; rw [pk_us, va_up_self, nI_1]
        · rw [pk_un hqj, va_up_ne _ _ hqj]; exact hgf q hq⟩, (h_up_n (Ne.symm b9)).trans hcx, (h_up_n (Ne.symm b10)).trans hun, tIn_off hT (fun i hi => (ap i hi).2.2.2.1), hn, hch, hlk, hrl⟩
    · exact fr.up fr.rf (Or.inr (Or.inr (Or.inr (Or.inl rfl))))
  · have c15 : ¬ gv j < 1000 := mt (nI_ltI (a := gv j) (b := 1000) (by have := hgv j hj; omega) (by decide)).mpr c15
    exact g_throw C hnt rfl dX2_number_18 dX2_number_21 dX2_number_22 dX2_number_24 dX2_number_27 (by decide +kernel) klX2_98 kn_IllegalStateException (List.mem_of_getElem? (i := 11) rfl) ht_IS1 ht_IS2 ht_IS3 (by decide) (by decide) (by decide) (by decide) (by decide) (by decide) (Or.inr ⟨rfl, hok0, fun h => c15 (h j rfl hj)⟩) rfl

set_option maxHeartbeats 4000000 in
set_option maxRecDepth 100000 in
theorem c_X2_join (l : Launch) (G : hD) (w : hW) (x tl rw ng cx un : Nat) (ad : Nat → Nat) (n : Nat) (ti : Nat → TI) (ch : List Nat) (rl : Nat → List Nat) (gv : Nat → Nat) (f : Nat → Int32) (hM : TM G x tl rw ng cx un ad n ti ch rl gv f w) (hall : ∀ i, i < n → i ∈ ch) (hnd : ch.Nodup) (d1 d2 : Int32) : h_Met l yX2_join (Cond.code yX2_join cX2_join 5 (some .int)) { frames := 7, cells := 2, slots := 12, locals := 102 } G [.ref x, .int d1, .int d2] w (fun v w' => okD d1 ∧ okD d2 ∧ v = some (.int (ch.foldl (jnS ti d1 d2) 0)) ∧ TM G x tl rw ng cx un ad n (fun i => psT d1 d2 (ti i)) ch rl gv f w' ∧ fr (CD x tl rw ng cx un ad n) w w') (exc1 (okD d1 ∧ okD d2)) := by
  refine h_met RX2 rfl (by decide) (Nat.le_of_ble_eq_true rfl) (cat_c (by first | rfl | exact rf_cat _) (cat_c (by first | rfl | exact rf_cat _) (cat_c (by first | rfl | exact rf_cat _) cat_n))) ?_
  intro p e s m below meth c A C hnt hr hnm
  obtain ⟨hx, ⟨tf, htl, htf⟩, ⟨rf, hrw, hrf⟩, ⟨gf, hng, hgf⟩, hcx, hun, hT, hn, hch, hlk, hrl⟩ := id hM
  refine g_iload_n C dX2_join_0 rfl rfl ?_
  refine g_callS C hnt _ dX2_join_1 (c_X2_requireDesk l G _ _) kmX2_37 ks_X2_requireDesk kn_X2 kc_X2_requireDesk hy_X2_requireDesk ⟨by decide, by decide⟩ rfl (Nat.le_of_ble_eq_true rfl) ⟨by decide, by decide⟩ ⟨by decide, by decide⟩ (fun E hE => ⟨⟨hE.1, fun h => hE.2 h.1⟩, rfl⟩) (fun v w1 hp => ?_)
  obtain ⟨rfl, hw1, hok0⟩ := hp
  have hw1 := hw1.symm
  subst hw1
  refine g_iload_n C dX2_join_4 rfl rfl ?_
  refine g_callS C hnt _ dX2_join_5 (c_X2_requireDesk l G _ _) kmX2_37 ks_X2_requireDesk kn_X2 kc_X2_requireDesk hy_X2_requireDesk ⟨by decide, by decide⟩ rfl (Nat.le_of_ble_eq_true rfl) ⟨by decide, by decide⟩ ⟨by decide, by decide⟩ (fun E hE => ⟨⟨hE.1, fun h => hE.2 h.2⟩, rfl⟩) (fun v w1 hp => ?_)
  obtain ⟨rfl, hw1, hok1⟩ := hp
  have hw1 := hw1.symm
  subst hw1
  refine g_iconst C (v := 0) dX2_join_8 (by decide) ?_
  refine g_istore_n C dX2_join_9 rfl (by decide) ?_
  first | refine g_aload_n C dX2_join_10 rfl rfl ?_ | refine g_aload_nN C dX2_join_10 rfl rfl ?_ | refine g_aload_nq C dX2_join_10 rfl rfl ?_
  refine g_get C dX2_join_11 hx rfl kw_X2 4 (by decide) kfX2_29 rfl rfl ?_
  first | refine g_astore C dX2_join_14 (by decide) ?_ | refine g_astoreN C dX2_join_14 (by decide) ?_ | refine g_astoreq C dX2_join_14 (by decide) ?_
  refine g_loop (σ := List Nat × Int32 × hW × (Nat → TI)) (fun z => lk (fun i => (ti i).la) z.1.head? z.1 ∧ (∀ i ∈ z.1, i < n) ∧ LI w ad n ti (fun i => psT d1 d2 (ti i)) z.1 z.2.2.1 z.2.2.2 ∧ z.1.foldl (jnS ti d1 d2) z.2.1 = ch.foldl (jnS ti d1 d2) 0) (fun z => z.1.length) (fun z => z.2.2.1) (fun z => [(0, .ref x), (1, .int d1), (2, .int d2), (3, .int z.2.1), (4, va_rf (z.1.head?.map ad))]) ?_ (ch, 0, w, ti) ⟨hlk, hch, LI.start hT hall hnd, rfl⟩
  rintro ⟨r, acc, wa, t1⟩ ⟨hr1, hr2, hli, hinv⟩ ih
  dsimp only at hr1 hr2 hli hinv ih ⊢
  cases r with
  | nil =>
    first | refine g_aload C dX2_join_16 rfl ?_ | refine g_aloadN C dX2_join_16 rfl ?_ | refine g_aloadq C dX2_join_16 rfl ?_
    refine g_ifnullN C 59 dX2_join_18 (by decide) ?_
    refine g_iload_n C dX2_join_59 rfl rfl ?_
    exact g_iret C hr dX2_join_60 (by decide) (by decide) ⟨hok0, hok1, by rw [← hinv]; rfl, hM.chg0 hli.fin hli.2.1 (fun _ _ => rfl) (fun _ _ => rfl), fr_off0 hli.2.1⟩
  | cons i r =>
    have hi : i < n := hr2 i List.mem_cons_self
    have hc := hli.cell hi
    have hla : (ti i).la = r.head? := lk_hd hr1.2
    have hlk' : lk (fun i => (ti i).la) r.head? r := by rw [← hla]; exact hr1.2
    first | refine g_aload C dX2_join_16 rfl ?_ | refine g_aloadN C dX2_join_16 rfl ?_ | refine g_aloadq C dX2_join_16 rfl ?_
    refine g_ifnullR C dX2_join_18 ?_
    first | refine g_aload C dX2_join_21 rfl ?_ | refine g_aloadN C dX2_join_21 rfl ?_ | refine g_aloadq C dX2_join_21 rfl ?_
    refine g_iload_n C dX2_join_23 rfl rfl ?_
    refine g_callVn C _ dX2_join_24 (c_X1_isKnownAt l G _ _ _ _ _ _ _ _ _ _ _ _ _ _ hc) kmX2_88 ki_X1_isKnownAt kv_X1_isKnownAt kn_X1 kc_X1_isKnownAt hy_X1_isKnownAt ⟨by decide, by decide⟩ hc rfl rfl (Nat.le_of_ble_eq_true rfl) ⟨by decide, by decide⟩ (fun v w1 hp => ?_)
    obtain ⟨rfl, hw1⟩ := hp
    have hw1 := hw1.symm
    subst hw1
    refine g_if_eq C 42 dX2_join_27 (by decide) (fun c27 => ?_) (fun c27 => ?_)
    · have c27 := bI_z.mp c27
      first | refine g_aload C dX2_join_42 rfl ?_ | refine g_aloadN C dX2_join_42 rfl ?_ | refine g_aloadq C dX2_join_42 rfl ?_
      refine g_iload_n C dX2_join_44 rfl rfl ?_
      refine g_iload_n C dX2_join_45 rfl rfl ?_
      refine g_callVn C _ dX2_join_46 (c_X1_pass l G _ _ _ _ _ _ _ _ _ _ _ _ _ _ _ hc) kmX2_92 ki_X1_pass kv_X1_pass kn_X1 kc_X1_pass hy_X1_pass ⟨by decide, by decide⟩ hc rfl rfl (Nat.le_of_ble_eq_true rfl) ⟨by decide, by decide⟩ (fun v w1 hp => ?_)
      obtain ⟨rfl, rfl⟩ := hp
      first | refine g_aload C dX2_join_49 rfl ?_ | refine g_aloadN C dX2_join_49 rfl ?_ | refine g_aloadq C dX2_join_49 rfl ?_
      refine g_get C dX2_join_51 (h_up_s _ _ _) rfl kw_X1 9 (by decide) kfX2_95 rfl rfl ?_
      first | refine g_astore C dX2_join_54 (by decide) ?_ | refine g_astoreN C dX2_join_54 (by decide) ?_ | refine g_astoreq C dX2_join_54 (by decide) ?_
      refine g_goto C 16 dX2_join_56 (by decide) ?_
      have e9 : jnS ti d1 d2 acc i = acc := by simp [jnS, c27]
      have hs := ih (r, acc, h_up wa (ad i) (cellT ad i (psT d1 d2 (ti i))), va_up t1 i (psT d1 d2 (ti i))) ⟨hlk', fun j hj => hr2 j (List.mem_cons_of_mem _ hj), hli.step hn hi, (congrArg (fun q => List.foldl (jnS ti d1 d2) q r) e9.symm).trans hinv⟩ (Nat.lt_succ_self _)
      dsimp only at hs
      rw [← hla] at hs
      exact hs
    · have c27 := bI_nz.mp c27
      first | refine g_aload C dX2_join_30 rfl ?_ | refine g_aloadN C dX2_join_30 rfl ?_ | refine g_aloadq C dX2_join_30 rfl ?_
      refine g_iload_n C dX2_join_32 rfl rfl ?_
      refine g_callVn C _ dX2_join_33 (c_X1_isKnownAt l G _ _ _ _ _ _ _ _ _ _ _ _ _ _ hc) kmX2_88 ki_X1_isKnownAt kv_X1_isKnownAt kn_X1 kc_X1_isKnownAt hy_X1_isKnownAt ⟨by decide, by decide⟩ hc rfl rfl (Nat.le_of_ble_eq_true rfl) ⟨by decide, by decide⟩ (fun v w1 hp => ?_)
      obtain ⟨rfl, hw1⟩ := hp
      have hw1 := hw1.symm
      subst hw1
      refine g_if_ne C 42 dX2_join_36 (by decide) (fun c36 => ?_) (fun c36 => ?_)
      · have c36 := bI_nz.mp c36
        first | refine g_aload C dX2_join_42 rfl ?_ | refine g_aloadN C dX2_join_42 rfl ?_ | refine g_aloadq C dX2_join_42 rfl ?_
        refine g_iload_n C dX2_join_44 rfl rfl ?_
        refine g_iload_n C dX2_join_45 rfl rfl ?_
        refine g_callVn C _ dX2_join_46 (c_X1_pass l G _ _ _ _ _ _ _ _ _ _ _ _ _ _ _ hc) kmX2_92 ki_X1_pass kv_X1_pass kn_X1 kc_X1_pass hy_X1_pass ⟨by decide, by decide⟩ hc rfl rfl (Nat.le_of_ble_eq_true rfl) ⟨by decide, by decide⟩ (fun v w1 hp => ?_)
        obtain ⟨rfl, rfl⟩ := hp
        first | refine g_aload C dX2_join_49 rfl ?_ | refine g_aloadN C dX2_join_49 rfl ?_ | refine g_aloadq C dX2_join_49 rfl ?_
        refine g_get C dX2_join_51 (h_up_s _ _ _) rfl kw_X1 9 (by decide) kfX2_95 rfl rfl ?_
        first | refine g_astore C dX2_join_54 (by decide) ?_ | refine g_astoreN C dX2_join_54 (by decide) ?_ | refine g_astoreq C dX2_join_54 (by decide) ?_
        refine g_goto C 16 dX2_join_56 (by decide) ?_
        have e9 : jnS ti d1 d2 acc i = acc := by simp [jnS, c27, c36]
        have hs := ih (r, acc, h_up wa (ad i) (cellT ad i (psT d1 d2 (ti i))), va_up t1 i (psT d1 d2 (ti i))) ⟨hlk', fun j hj => hr2 j (List.mem_cons_of_mem _ hj), hli.step hn hi, (congrArg (fun q => List.foldl (jnS ti d1 d2) q r) e9.symm).trans hinv⟩ (Nat.lt_succ_self _)
        dsimp only at hs
        rw [← hla] at hs
        exact hs
      · have c36 := bI_z.mp c36
        refine g_iinc C (v := (acc + 1)) dX2_join_39 rfl (rfl) (by decide) ?_
        first | refine g_aload C dX2_join_42 rfl ?_ | refine g_aloadN C dX2_join_42 rfl ?_ | refine g_aloadq C dX2_join_42 rfl ?_
        refine g_iload_n C dX2_join_44 rfl rfl ?_
        refine g_iload_n C dX2_join_45 rfl rfl ?_
        refine g_callVn C _ dX2_join_46 (c_X1_pass l G _ _ _ _ _ _ _ _ _ _ _ _ _ _ _ hc) kmX2_92 ki_X1_pass kv_X1_pass kn_X1 kc_X1_pass hy_X1_pass ⟨by decide, by decide⟩ hc rfl rfl (Nat.le_of_ble_eq_true rfl) ⟨by decide, by decide⟩ (fun v w1 hp => ?_)
        obtain ⟨rfl, rfl⟩ := hp
        first | refine g_aload C dX2_join_49 rfl ?_ | refine g_aloadN C dX2_join_49 rfl ?_ | refine g_aloadq C dX2_join_49 rfl ?_
        refine g_get C dX2_join_51 (h_up_s _ _ _) rfl kw_X1 9 (by decide) kfX2_95 rfl rfl ?_
        first | refine g_astore C dX2_join_54 (by decide) ?_ | refine g_astoreN C dX2_join_54 (by decide) ?_ | refine g_astoreq C dX2_join_54 (by decide) ?_
        refine g_goto C 16 dX2_join_56 (by decide) ?_
        have e9 : jnS ti d1 d2 acc i = (acc + 1) := by simp [jnS, c27, c36]
        have hs := ih (r, (acc + 1), h_up wa (ad i) (cellT ad i (psT d1 d2 (ti i))), va_up t1 i (psT d1 d2 (ti i))) ⟨hlk', fun j hj => hr2 j (List.mem_cons_of_mem _ hj), hli.step hn hi, (congrArg (fun q => List.foldl (jnS ti d1 d2) q r) e9.symm).trans hinv⟩ (Nat.lt_succ_self _)
        dsimp only at hs
        rw [← hla] at hs
        exact hs

set_option maxHeartbeats 4000000 in
set_option maxRecDepth 100000 in
theorem c_X2_compact (l : Launch) (G : hD) (w : hW) (x tl rw ng cx un : Nat) (ad : Nat → Nat) (n : Nat) (ti : Nat → TI) (ch : List Nat) (rl : Nat → List Nat) (gv : Nat → Nat) (f : Nat → Int32) (hM : TM G x tl rw ng cx un ad n ti ch rl gv f w) (hall : ∀ i, i < n → i ∈ ch) (hnd : ch.Nodup) : h_Met l yX2_compact (Cond.code yX2_compact cX2_compact 3 (some .int)) { frames := 2, cells := 0, slots := 0, locals := 41 } G [.ref x] w (fun v w' => v = some (.int (ch.foldl (cpS ti ch) 0)) ∧ TM G x tl rw ng cx un ad n (cpT ti ch) ch rl gv f w' ∧ fr (CD x tl rw ng cx un ad n) w w') noX := by
  refine h_met RX2 rfl (by decide) (Nat.le_of_ble_eq_true rfl) (cat_c (by first | rfl | exact rf_cat _) cat_n) ?_
  intro p e s m below meth c A C hnt hr hnm
  obtain ⟨hx, ⟨tf, htl, htf⟩, ⟨rf, hrw, hrf⟩, ⟨gf, hng, hgf⟩, hcx, hun, hT, hn, hch, hlk, hrl⟩ := id hM
  refine g_iconst C (v := 0) dX2_compact_0 (by decide) ?_
  refine g_istore_n C dX2_compact_1 rfl (by decide) ?_
  first | refine g_aload_n C dX2_compact_2 rfl rfl ?_ | refine g_aload_nN C dX2_compact_2 rfl rfl ?_ | refine g_aload_nq C dX2_compact_2 rfl rfl ?_
  refine g_get C dX2_compact_3 hx rfl kw_X2 4 (by decide) kfX2_29 rfl rfl ?_
  first | refine g_astore_n C dX2_compact_6 rfl (by decide) ?_ | refine g_astore_nN C dX2_compact_6 rfl (by decide) ?_ | refine g_astore_nq C dX2_compact_6 rfl (by decide) ?_
  refine g_loop (σ := List Nat × Int32 × hW × (Nat → TI)) (fun z => lk (fun i => (ti i).la) z.1.head? z.1 ∧ (∀ i ∈ z.1, i < n) ∧ LI w ad n ti (cpT ti ch) z.1 z.2.2.1 z.2.2.2 ∧ z.1.foldl (cpS ti ch) z.2.1 = ch.foldl (cpS ti ch) 0 ∧ ∃ pre, ch = pre ++ z.1) (fun z => z.1.length) (fun z => z.2.2.1) (fun z => [(0, .ref x), (1, .int z.2.1), (2, va_rf (z.1.head?.map ad))]) ?_ (ch, 0, w, ti) ⟨hlk, hch, LI.start hT hall hnd, rfl, [], rfl⟩
  rintro ⟨r, acc, wa, t1⟩ ⟨hr1, hr2, hli, hinv, pre, hpre⟩ ih
  dsimp only at hr1 hr2 hli hinv hpre ih ⊢
  cases r with
  | nil =>
    first | refine g_aload_n C dX2_compact_7 rfl rfl ?_ | refine g_aload_nN C dX2_compact_7 rfl rfl ?_ | refine g_aload_nq C dX2_compact_7 rfl rfl ?_
    refine g_ifnullN C 33 dX2_compact_8 (by decide) ?_
    refine g_iload_n C dX2_compact_33 rfl rfl ?_
    exact g_iret C hr dX2_compact_34 (by decide) (by decide) ⟨by rw [← hinv]; rfl, hM.chg0 hli.fin hli.2.1 (fun i _ => by unfold cpT; cases cpB ti ch i <;> rfl) (fun i _ => by unfold cpT; cases cpB ti ch i <;> rfl), fr_off0 hli.2.1⟩
  | cons i r =>
    have hi : i < n := hr2 i List.mem_cons_self
    have hc := hli.cell hi
    have hla : (ti i).la = r.head? := lk_hd hr1.2
    have hlk' : lk (fun i => (ti i).la) r.head? r := by rw [← hla]; exact hr1.2
    have hpre' : ∃ pre, ch = pre ++ r := ⟨pre ++ [i], by rw [hpre]; simp⟩
    have hti : t1 i = ti i := hli.2.2.1 i List.mem_cons_self
    have hlk1 : lk (fun i => (t1 i).la) (t1 i).la r := by rw [hti]; exact lk_congr hr1.2 (fun j hj => by rw [hli.2.2.1 j (List.mem_cons_of_mem _ hj)])
    have hod : (shL (t1 i) && r.any (odF t1 (t1 i).th)) = cpB ti ch i := by
      rw [hpre, cpB_at (by rw [← hpre]; exact hnd), hti]
      congr 1
      exact any_congr (fun j hj => by unfold odF; rw [hli.2.2.1 j (List.mem_cons_of_mem _ hj)])
    first | refine g_aload_n C dX2_compact_7 rfl rfl ?_ | refine g_aload_nN C dX2_compact_7 rfl rfl ?_ | refine g_aload_nq C dX2_compact_7 rfl rfl ?_
    refine g_ifnullR C dX2_compact_8 ?_
    first | refine g_aload_n C dX2_compact_11 rfl rfl ?_ | refine g_aload_nN C dX2_compact_11 rfl rfl ?_ | refine g_aload_nq C dX2_compact_11 rfl rfl ?_
    refine g_callSn C _ dX2_compact_12 (c_X2_isOutdone l G _ ad n t1 hli.1 r i hi (fun j hj => hr2 j (List.mem_cons_of_mem _ hj)) hlk1) kmX2_139 ks_X2_isOutdone kn_X2 kc_X2_isOutdone hy_X2_isOutdone ⟨by decide, by decide⟩ rfl (Nat.le_of_ble_eq_true rfl) ⟨by decide, by decide⟩ (fun v w1 hp => ?_)
    obtain ⟨rfl, hw1⟩ := hp
    have hw1 := hw1.symm
    subst hw1
    rw [hod]
    refine g_if_eq C 25 dX2_compact_15 (by decide) (fun c15 => ?_) (fun c15 => ?_)
    · have c15 := bI_z.mp c15
      have e9 : cpS ti ch acc i = acc := by simp [cpS, c15]
      have hF : cpT ti ch i = ti i := by simp [cpT, c15]
      first | refine g_aload_n C dX2_compact_25 rfl rfl ?_ | refine g_aload_nN C dX2_compact_25 rfl rfl ?_ | refine g_aload_nq C dX2_compact_25 rfl rfl ?_
      refine g_get C dX2_compact_26 hc rfl kw_X1 9 (by decide) kfX2_95 rfl rfl ?_
      first | refine g_astore_n C dX2_compact_29 rfl (by decide) ?_ | refine g_astore_nN C dX2_compact_29 rfl (by decide) ?_ | refine g_astore_nq C dX2_compact_29 rfl (by decide) ?_
      refine g_goto C 7 dX2_compact_30 (by decide) ?_
      have hs := ih (r, acc, wa, t1) ⟨hlk', fun j hj => hr2 j (List.mem_cons_of_mem _ hj), hli.skip hF, (congrArg (fun q => List.foldl (cpS ti ch) q r) e9.symm).trans hinv, hpre'⟩ (Nat.lt_succ_self _)
      dsimp only at hs
      rw [← hla] at hs
      exact hs
    · have c15 := bI_nz.mp c15
      first | refine g_aload_n C dX2_compact_18 rfl rfl ?_ | refine g_aload_nN C dX2_compact_18 rfl rfl ?_ | refine g_aload_nq C dX2_compact_18 rfl rfl ?_
      refine g_callVn C _ dX2_compact_19 (c_X1_forget l G _ _ _ _ _ _ _ _ _ _ _ _ _ hc) kmX2_143 ki_X1_forget kv_X1_forget kn_X1 kc_X1_forget hy_X1_forget ⟨by decide, by decide⟩ hc rfl rfl (Nat.le_of_ble_eq_true rfl) ⟨by decide, by decide⟩ (fun v w1 hp => ?_)
      obtain ⟨rfl, rfl⟩ := hp
      refine g_iinc C (v := (acc + 1)) dX2_compact_22 rfl (rfl) (by decide) ?_
      have e9 : cpS ti ch acc i = acc + 1 := by simp [cpS, c15]
      have hF : cpT ti ch i = fgT (ti i) := by simp [cpT, c15]
      first | refine g_aload_n C dX2_compact_25 rfl rfl ?_ | refine g_aload_nN C dX2_compact_25 rfl rfl ?_ | refine g_aload_nq C dX2_compact_25 rfl rfl ?_
      refine g_get C dX2_compact_26 (h_up_s _ _ _) rfl kw_X1 9 (by decide) kfX2_95 rfl rfl ?_
      first | refine g_astore_n C dX2_compact_29 rfl (by decide) ?_ | refine g_astore_nN C dX2_compact_29 rfl (by decide) ?_ | refine g_astore_nq C dX2_compact_29 rfl (by decide) ?_
      refine g_goto C 7 dX2_compact_30 (by decide) ?_
      have hs := ih (r, acc + 1, h_up wa (ad i) (cellT ad i (fgT (ti i))), va_up t1 i (fgT (ti i))) ⟨hlk', fun j hj => hr2 j (List.mem_cons_of_mem _ hj), by have h9 := hli.step hn hi; rw [hF] at h9; exact h9, (congrArg (fun q => List.foldl (cpS ti ch) q r) e9.symm).trans hinv, hpre'⟩ (Nat.lt_succ_self _)
      dsimp only at hs
      rw [← hla] at hs
      exact hs
end
section
/-! ===== relations: taken one behind the other by rank ===== -/
def opT (t : TI) (b : Bool) : TI := (t.dk, t.st, t.so, t.th, t.va, t.kn, t.en, bI b, t.la, t.ne)
def cnt (ti : Nat → TI) (d : Int32) (i : Nat) : Bool := decide (nI (ti i).so = 5) && (kb (ti i).kn d && !kb (ti i).en d)
/-- the relation would close a ring -/
def trO (ti : Nat → TI) (d : Int32) (f : Nat → Int32) (i : Nat) : Bool := cnt ti d i && kb (f ((ti i).va % 16)) (nI ((ti i).va / 16))
def trN (ti : Nat → TI) (d : Int32) (f : Nat → Int32) (i : Nat) : Nat → Int32 := cond (cnt ti d i && !kb (f ((ti i).va % 16)) (nI ((ti i).va / 16))) (tkF f ((ti i).va / 16) (f ((ti i).va % 16) ||| ((1 : Int32) <<< (nI ((ti i).va % 16) &&& 31))) 16) f
def opB (ti : Nat → TI) (d : Int32) : (Nat → Int32) → List Nat → Nat → Bool
  | _, [], _ => false
  | f, j :: r, i => cond (decide (i = j)) (trO ti d f j) (opB ti d (trN ti d f j) r i)
theorem opB_hd (ti : Nat → TI) (d : Int32) (f : Nat → Int32) (i : Nat) (r : List Nat) : opB ti d f (i :: r) i = trO ti d f i := by simp [opB]
theorem opB_tl {ti : Nat → TI} {d : Int32} {f : Nat → Int32} {i j : Nat} {r : List Nat} (h : j ≠ i) : opB ti d f (i :: r) j = opB ti d (trN ti d f i) r j := by simp [opB, h]
/-- relations tell of two contexts; sorts are small -/
def relOk (n : Nat) (ti : Nat → TI) : Prop := ∀ i, i < n → (ti i).so ≤ 6 ∧ ((ti i).so = 5 → (ti i).va < 256 ∧ (ti i).va / 16 ≠ (ti i).va % 16)

set_option maxHeartbeats 4000000 in
set_option maxRecDepth 100000 in
theorem c_X2_takeRelations (l : Launch) (G : hD) (w : hW) (x tl rw ng cx un : Nat) (ad : Nat → Nat) (n : Nat) (ti : Nat → TI) (ch : List Nat) (rl : Nat → List Nat) (gv : Nat → Nat) (f : Nat → Int32) (hM : TM G x tl rw ng cx un ad n ti ch rl gv f w) (hall : ∀ i, i < n → i ∈ ch) (hnd : ch.Nodup) (hrel : relOk n ti) (d : Int32) : h_Met l yX2_takeRelations (Cond.code yX2_takeRelations cX2_takeRelations 4 none) { frames := 3, cells := 0, slots := 0, locals := 66 } G [.ref x, .int d] w (fun v w' => v = none ∧ ∃ f0 : Nat → Int32, (∀ j, j < 16 → f0 j = 0) ∧ TM G x tl rw ng cx un ad n (fun i => opT (ti i) (opB ti d f0 ch i)) ch rl gv (ch.foldl (trN ti d) f0) w' ∧ fr (CD x tl rw ng cx un ad n) w w') noX := by
  refine h_met RX2 rfl (by decide) (Nat.le_of_ble_eq_true rfl) (cat_c (by first | rfl | exact rf_cat _) (cat_c (by first | rfl | exact rf_cat _) cat_n)) ?_
  intro p e s m below meth c A C hnt hr hnm
  obtain ⟨hx, ⟨tf, htl, htf⟩, ⟨rf, hrw, hrf⟩, ⟨gf, hng, hgf⟩, hcx, hun, hT, hn, hch, hlk, hrl⟩ := id hM
  have ap := hM.apart
  obtain ⟨b1, b2, b3, b4, b5, b6, b7, b8, b9, b10, b11⟩ := hM.apart2
  first | refine g_aload_n C dX2_takeRelations_0 rfl rfl ?_ | refine g_aload_nN C dX2_takeRelations_0 rfl rfl ?_ | refine g_aload_nq C dX2_takeRelations_0 rfl rfl ?_
  refine g_get C dX2_takeRelations_1 hx rfl kw_X2 3 (by decide) kfX2_25 rfl rfl ?_
  refine g_callVn C _ dX2_takeRelations_4 (c_X0_clear l G _ _ _ _ hcx hun) kmX2_212 ki_X0_clear kv_X0_clear kn_X0 kc_X0_clear hy_X0_clear ⟨by decide, by decide⟩ hcx rfl rfl (Nat.le_of_ble_eq_true rfl) ⟨by decide, by decide⟩ (fun v w1 hp => ?_)
  obtain ⟨rfl, f0, hf0, rfl⟩ := hp
  have hx0 : h_up w un (eI G 16 f0) x = some (cellX ad tl rw ng cx ch.head? n) := (h_up_n b5).trans hx
  have hT0 : tIn (h_up w un (eI G 16 f0)) ad n ti := tIn_off hT (fun i hi => (ap i hi).2.2.2.2.2)
  first | refine g_aload_n C dX2_takeRelations_7 rfl rfl ?_ | refine g_aload_nN C dX2_takeRelations_7 rfl rfl ?_ | refine g_aload_nq C dX2_takeRelations_7 rfl rfl ?_
  refine g_get C dX2_takeRelations_8 hx0 rfl kw_X2 4 (by decide) kfX2_29 rfl rfl ?_
  first | refine g_astore_n C dX2_takeRelations_11 rfl (by decide) ?_ | refine g_astore_nN C dX2_takeRelations_11 rfl (by decide) ?_ | refine g_astore_nq C dX2_takeRelations_11 rfl (by decide) ?_
  refine g_loop (σ := List Nat × (Nat → Int32) × hW × (Nat → TI)) (fun z => lk (fun i => (ti i).la) z.1.head? z.1 ∧ (∀ i ∈ z.1, i < n) ∧ LI (h_up w un (eI G 16 z.2.1)) ad n ti (fun i => opT (ti i) (opB ti d f0 ch i)) z.1 z.2.2.1 z.2.2.2 ∧ z.1.foldl (trN ti d) z.2.1 = ch.foldl (trN ti d) f0 ∧ ∀ i ∈ z.1, opB ti d z.2.1 z.1 i = opB ti d f0 ch i) (fun z => z.1.length) (fun z => z.2.2.1) (fun z => [(0, .ref x), (1, .int d), (2, va_rf (z.1.head?.map ad))]) ?_ (ch, f0, h_up w un (eI G 16 f0), ti) ⟨hlk, hch, LI.start hT0 hall hnd, rfl, fun _ _ => rfl⟩
  rintro ⟨r, f, wa, t1⟩ ⟨hr1, hr2, hli, hf, hop⟩ ih
  dsimp only at hr1 hr2 hli hf hop ih ⊢
  cases r with
  | nil =>
    first | refine g_aload_n C dX2_takeRelations_12 rfl rfl ?_ | refine g_aload_nN C dX2_takeRelations_12 rfl rfl ?_ | refine g_aload_nq C dX2_takeRelations_12 rfl rfl ?_
    refine g_ifnullN C 91 dX2_takeRelations_13 (by decide) ?_
    exact g_vret C hr dX2_takeRelations_91 (by decide) (by decide) ⟨rfl, f0, hf0, hM.chg hli.fin (fun q hq => by rw [hli.2.1 q hq, show f = ch.foldl (trN ti d) f0 from hf]) (fun _ _ => rfl) (fun _ _ => rfl), fr_off hli.2.1⟩
  | cons i r =>
    have hi : i < n := hr2 i List.mem_cons_self
    have hc := hli.cell hi
    have hla : (ti i).la = r.head? := lk_hd hr1.2
    have hlk' : lk (fun i => (ti i).la) r.head? r := by rw [← hla]; exact hr1.2
    have hni : i ∉ r := (List.nodup_cons.mp hli.2.2.2.2).1
    have hopi := hop i List.mem_cons_self
    have hx' : wa x = some (cellX ad tl rw ng cx ch.head? n) := by rw [hli.2.1 x (fun j hj => (ap j hj).1), h_up_n b5]; exact hx
    have hcx' : wa cx = some (eO 0 [.ref un]) := by rw [hli.2.1 cx (fun j hj => (ap j hj).2.2.2.2.1), h_up_n b11]; exact hcx
    have hun' : wa un = some (eI G 16 f) := by rw [hli.2.1 un (fun j hj => (ap j hj).2.2.2.2.2), h_up_s]
    first | refine g_aload_n C dX2_takeRelations_12 rfl rfl ?_ | refine g_aload_nN C dX2_takeRelations_12 rfl rfl ?_ | refine g_aload_nq C dX2_takeRelations_12 rfl rfl ?_
    refine g_ifnullR C dX2_takeRelations_13 ?_
    first | refine g_aload_n C dX2_takeRelations_16 rfl rfl ?_ | refine g_aload_nN C dX2_takeRelations_16 rfl rfl ?_ | refine g_aload_nq C dX2_takeRelations_16 rfl rfl ?_
    refine g_get C dX2_takeRelations_17 hc rfl kw_X1 3 (by decide) kfX2_62 rfl rfl ?_
    refine g_iconst C (v := 5) dX2_takeRelations_20 (by decide) ?_
    refine g_icmp_ne C 44 dX2_takeRelations_21 (by decide) (fun c21 => ?_) (fun c21 => ?_)
    · refine g_iconst C (v := 0) dX2_takeRelations_44 (by decide) ?_
      refine g_istore_n C dX2_takeRelations_45 rfl (by decide) ?_
      first | refine g_aload_n C dX2_takeRelations_46 rfl rfl ?_ | refine g_aload_nq C dX2_takeRelations_46 rfl rfl ?_
      refine g_iload_n C dX2_takeRelations_47 rfl rfl ?_
      have hcn : cnt ti d i = false := by simp [cnt, c21]
      have hto : trO ti d f i = false := by simp [trO, hcn]
      have htn : trN ti d f i = f := by simp [trN, hcn]
      refine g_if_eq C 79 dX2_takeRelations_48 (by decide) (fun _ => ?_) (fun c48 => absurd rfl c48)
      refine g_iconst C (v := 0) dX2_takeRelations_79 (by decide) ?_
      refine g_put C dX2_takeRelations_80 hc rfl kw_X1 tyX1 tyX1_ok nmX1 8 (by decide) kfX2_131 rfl rfl rfl rfl (Nat.le_of_ble_eq_true rfl) ?_
      first | refine g_aload_n C dX2_takeRelations_83 rfl rfl ?_ | refine g_aload_nN C dX2_takeRelations_83 rfl rfl ?_ | refine g_aload_nq C dX2_takeRelations_83 rfl rfl ?_
      refine g_get C dX2_takeRelations_84 (h_up_s _ _ _) rfl kw_X1 9 (by decide) kfX2_95 rfl rfl ?_
      first | refine g_astore_n C dX2_takeRelations_87 rfl (by decide) ?_ | refine g_astore_nN C dX2_takeRelations_87 rfl (by decide) ?_ | refine g_astore_nq C dX2_takeRelations_87 rfl (by decide) ?_
      refine g_goto C 12 dX2_takeRelations_88 (by decide) ?_
      refine g_drop [(0, .ref x), (1, .int d), (2, va_rf ((ti i).la.map ad))] _ rfl ?_
      have hFi : opT (ti i) (opB ti d f0 ch i) = opT (ti i) false := by rw [← hopi, opB_hd, hto]
      have hs := ih (r, f, h_up wa (ad i) (cellT ad i (opT (ti i) false)), va_up t1 i (opT (ti i) false)) ⟨hlk', fun j hj => hr2 j (List.mem_cons_of_mem _ hj), by have h9 := hli.step hn hi; rw [hFi] at h9; exact h9, by rw [← hf]; simp only [List.foldl_cons, htn], fun j hj => by rw [← hop j (List.mem_cons_of_mem _ hj), opB_tl (fun e : j = i => hni (by rw [← e]; exact hj)), htn]⟩ (Nat.lt_succ_self _)
      dsimp only at hs
      rw [← hla] at hs
      exact hs
    · first | refine g_aload_n C dX2_takeRelations_24 rfl rfl ?_ | refine g_aload_nN C dX2_takeRelations_24 rfl rfl ?_ | refine g_aload_nq C dX2_takeRelations_24 rfl rfl ?_
      refine g_iload_n C dX2_takeRelations_25 rfl rfl ?_
      refine g_callVn C _ dX2_takeRelations_26 (c_X1_isKnownAt l G _ _ _ _ _ _ _ _ _ _ _ _ _ _ hc) kmX2_88 ki_X1_isKnownAt kv_X1_isKnownAt kn_X1 kc_X1_isKnownAt hy_X1_isKnownAt ⟨by decide, by decide⟩ hc rfl rfl (Nat.le_of_ble_eq_true rfl) ⟨by decide, by decide⟩ (fun v w1 hp => ?_)
      obtain ⟨rfl, hw1⟩ := hp
      have hw1 := hw1.symm
      subst hw1
      refine g_if_eq C 44 dX2_takeRelations_29 (by decide) (fun c29 => ?_) (fun c29 => ?_)
      · have c29 := bI_z.mp c29
        refine g_iconst C (v := 0) dX2_takeRelations_44 (by decide) ?_
        refine g_istore_n C dX2_takeRelations_45 rfl (by decide) ?_
        first | refine g_aload_n C dX2_takeRelations_46 rfl rfl ?_ | refine g_aload_nq C dX2_takeRelations_46 rfl rfl ?_
        refine g_iload_n C dX2_takeRelations_47 rfl rfl ?_
        have hcn : cnt ti d i = false := by simp [cnt, c29]
        have hto : trO ti d f i = false := by simp [trO, hcn]
        have htn : trN ti d f i = f := by simp [trN, hcn]
        refine g_if_eq C 79 dX2_takeRelations_48 (by decide) (fun _ => ?_) (fun c48 => absurd rfl c48)
        refine g_iconst C (v := 0) dX2_takeRelations_79 (by decide) ?_
        refine g_put C dX2_takeRelations_80 hc rfl kw_X1 tyX1 tyX1_ok nmX1 8 (by decide) kfX2_131 rfl rfl rfl rfl (Nat.le_of_ble_eq_true rfl) ?_
        first | refine g_aload_n C dX2_takeRelations_83 rfl rfl ?_ | refine g_aload_nN C dX2_takeRelations_83 rfl rfl ?_ | refine g_aload_nq C dX2_takeRelations_83 rfl rfl ?_
        refine g_get C dX2_takeRelations_84 (h_up_s _ _ _) rfl kw_X1 9 (by decide) kfX2_95 rfl rfl ?_
        first | refine g_astore_n C dX2_takeRelations_87 rfl (by decide) ?_ | refine g_astore_nN C dX2_takeRelations_87 rfl (by decide) ?_ | refine g_astore_nq C dX2_takeRelations_87 rfl (by decide) ?_
        refine g_goto C 12 dX2_takeRelations_88 (by decide) ?_
        refine g_drop [(0, .ref x), (1, .int d), (2, va_rf ((ti i).la.map ad))] _ rfl ?_
        have hFi : opT (ti i) (opB ti d f0 ch i) = opT (ti i) false := by rw [← hopi, opB_hd, hto]
        have hs := ih (r, f, h_up wa (ad i) (cellT ad i (opT (ti i) false)), va_up t1 i (opT (ti i) false)) ⟨hlk', fun j hj => hr2 j (List.mem_cons_of_mem _ hj), by have h9 := hli.step hn hi; rw [hFi] at h9; exact h9, by rw [← hf]; simp only [List.foldl_cons, htn], fun j hj => by rw [← hop j (List.mem_cons_of_mem _ hj), opB_tl (fun e : j = i => hni (by rw [← e]; exact hj)), htn]⟩ (Nat.lt_succ_self _)
        dsimp only at hs
        rw [← hla] at hs
        exact hs
      · have c29 := bI_nz.mp c29
        first | refine g_aload_n C dX2_takeRelations_32 rfl rfl ?_ | refine g_aload_nN C dX2_takeRelations_32 rfl rfl ?_ | refine g_aload_nq C dX2_takeRelations_32 rfl rfl ?_
        refine g_iload_n C dX2_takeRelations_33 rfl rfl ?_
        refine g_callVn C _ dX2_takeRelations_34 (c_X1_isEndedAt l G _ _ _ _ _ _ _ _ _ _ _ _ _ _ hc) kmX2_206 ki_X1_isEndedAt kv_X1_isEndedAt kn_X1 kc_X1_isEndedAt hy_X1_isEndedAt ⟨by decide, by decide⟩ hc rfl rfl (Nat.le_of_ble_eq_true rfl) ⟨by decide, by decide⟩ (fun v w1 hp => ?_)
        obtain ⟨rfl, hw1⟩ := hp
        have hw1 := hw1.symm
        subst hw1
        refine g_if_ne C 44 dX2_takeRelations_37 (by decide) (fun c37 => ?_) (fun c37 => ?_)
        · have c37 := bI_nz.mp c37
          refine g_iconst C (v := 0) dX2_takeRelations_44 (by decide) ?_
          refine g_istore_n C dX2_takeRelations_45 rfl (by decide) ?_
          first | refine g_aload_n C dX2_takeRelations_46 rfl rfl ?_ | refine g_aload_nq C dX2_takeRelations_46 rfl rfl ?_
          refine g_iload_n C dX2_takeRelations_47 rfl rfl ?_
          have hcn : cnt ti d i = false := by simp [cnt, c37]
          have hto : trO ti d f i = false := by simp [trO, hcn]
          have htn : trN ti d f i = f := by simp [trN, hcn]
          refine g_if_eq C 79 dX2_takeRelations_48 (by decide) (fun _ => ?_) (fun c48 => absurd rfl c48)
          refine g_iconst C (v := 0) dX2_takeRelations_79 (by decide) ?_
          refine g_put C dX2_takeRelations_80 hc rfl kw_X1 tyX1 tyX1_ok nmX1 8 (by decide) kfX2_131 rfl rfl rfl rfl (Nat.le_of_ble_eq_true rfl) ?_
          first | refine g_aload_n C dX2_takeRelations_83 rfl rfl ?_ | refine g_aload_nN C dX2_takeRelations_83 rfl rfl ?_ | refine g_aload_nq C dX2_takeRelations_83 rfl rfl ?_
          refine g_get C dX2_takeRelations_84 (h_up_s _ _ _) rfl kw_X1 9 (by decide) kfX2_95 rfl rfl ?_
          first | refine g_astore_n C dX2_takeRelations_87 rfl (by decide) ?_ | refine g_astore_nN C dX2_takeRelations_87 rfl (by decide) ?_ | refine g_astore_nq C dX2_takeRelations_87 rfl (by decide) ?_
          refine g_goto C 12 dX2_takeRelations_88 (by decide) ?_
          refine g_drop [(0, .ref x), (1, .int d), (2, va_rf ((ti i).la.map ad))] _ rfl ?_
          have hFi : opT (ti i) (opB ti d f0 ch i) = opT (ti i) false := by rw [← hopi, opB_hd, hto]
          have hs := ih (r, f, h_up wa (ad i) (cellT ad i (opT (ti i) false)), va_up t1 i (opT (ti i) false)) ⟨hlk', fun j hj => hr2 j (List.mem_cons_of_mem _ hj), by have h9 := hli.step hn hi; rw [hFi] at h9; exact h9, by rw [← hf]; simp only [List.foldl_cons, htn], fun j hj => by rw [← hop j (List.mem_cons_of_mem _ hj), opB_tl (fun e : j = i => hni (by rw [← e]; exact hj)), htn]⟩ (Nat.lt_succ_self _)
          dsimp only at hs
          rw [← hla] at hs
          exact hs
        · have c37 := bI_z.mp c37
          refine g_iconst C (v := 1) dX2_takeRelations_40 (by decide) ?_
          refine g_goto C 45 dX2_takeRelations_41 (by decide) ?_
          refine g_istore_n C dX2_takeRelations_45 rfl (by decide) ?_
          first | refine g_aload_n C dX2_takeRelations_46 rfl rfl ?_ | refine g_aload_nq C dX2_takeRelations_46 rfl rfl ?_
          refine g_iload_n C dX2_takeRelations_47 rfl rfl ?_
          have hcn : cnt ti d i = true := by simp [cnt, c21, c29, c37]
          have hso : (ti i).so = 5 := (nI_eq (b := 5) (by have := (hrel i hi).1; omega) (by decide)).mp c21
          obtain ⟨hva, hab⟩ := (hrel i hi).2 hso
          refine g_if_eq C 79 dX2_takeRelations_48 (by decide) (fun c48 => absurd c48 (by decide)) (fun _ => ?_)
          first | refine g_aload_n C dX2_takeRelations_51 rfl rfl ?_ | refine g_aload_nN C dX2_takeRelations_51 rfl rfl ?_ | refine g_aload_nq C dX2_takeRelations_51 rfl rfl ?_
          refine g_get C dX2_takeRelations_52 hx' rfl kw_X2 3 (by decide) kfX2_25 rfl rfl ?_
          first | refine g_aload_n C dX2_takeRelations_55 rfl rfl ?_ | refine g_aload_nN C dX2_takeRelations_55 rfl rfl ?_ | refine g_aload_nq C dX2_takeRelations_55 rfl rfl ?_
          refine g_get C dX2_takeRelations_56 hc rfl kw_X1 5 (by decide) kfX2_121 rfl rfl ?_
          refine g_bipush C (v := 16) dX2_takeRelations_59 (by decide) ?_
          refine g_idiv C dX2_takeRelations_61 (by decide) ?_
          refine g_eq (y := nI ((ti i).va / 16)) (pk_div (by omega) (by decide) (by decide)) ?_
          first | refine g_aload_n C dX2_takeRelations_62 rfl rfl ?_ | refine g_aload_nN C dX2_takeRelations_62 rfl rfl ?_ | refine g_aload_nq C dX2_takeRelations_62 rfl rfl ?_
          refine g_get C dX2_takeRelations_63 hc rfl kw_X1 5 (by decide) kfX2_121 rfl rfl ?_
          refine g_bipush C (v := 16) dX2_takeRelations_66 (by decide) ?_
          refine g_irem C dX2_takeRelations_68 (by decide) ?_
          refine g_eq (y := nI ((ti i).va % 16)) (pk_rem (by omega) (by decide) (by decide)) ?_
          refine g_callVn C _ dX2_takeRelations_69 (c_X0_take l G _ _ _ _ hcx' hun' _ _ (by omega) (by omega) hab) kmX2_215 ki_X0_take kv_X0_take kn_X0 kc_X0_take hy_X0_take ⟨by decide, by decide⟩ hcx' rfl rfl (Nat.le_of_ble_eq_true rfl) ⟨by decide, by decide⟩ (fun v w1 hp => ?_)
          rcases hp with ⟨ht, rfl, hw1⟩ | ⟨ht, rfl, rfl⟩
          · have hw1 := hw1.symm
            subst hw1
            have hto : trO ti d f i = true := by simp [trO, hcn, ht]
            have htn : trN ti d f i = f := by simp [trN, ht]
            refine g_if_ne C 79 dX2_takeRelations_72 (by decide) (fun c72 => absurd rfl c72) (fun _ => ?_)
            refine g_iconst C (v := 1) dX2_takeRelations_75 (by decide) ?_
            refine g_goto C 80 dX2_takeRelations_76 (by decide) ?_
            refine g_put C dX2_takeRelations_80 hc rfl kw_X1 tyX1 tyX1_ok nmX1 8 (by decide) kfX2_131 rfl rfl rfl rfl (Nat.le_of_ble_eq_true rfl) ?_
            first | refine g_aload_n C dX2_takeRelations_83 rfl rfl ?_ | refine g_aload_nN C dX2_takeRelations_83 rfl rfl ?_ | refine g_aload_nq C dX2_takeRelations_83 rfl rfl ?_
            refine g_get C dX2_takeRelations_84 (h_up_s _ _ _) rfl kw_X1 9 (by decide) kfX2_95 rfl rfl ?_
            first | refine g_astore_n C dX2_takeRelations_87 rfl (by decide) ?_ | refine g_astore_nN C dX2_takeRelations_87 rfl (by decide) ?_ | refine g_astore_nq C dX2_takeRelations_87 rfl (by decide) ?_
            refine g_goto C 12 dX2_takeRelations_88 (by decide) ?_
            refine g_drop [(0, .ref x), (1, .int d), (2, va_rf ((ti i).la.map ad))] _ rfl ?_
            have hFi : opT (ti i) (opB ti d f0 ch i) = opT (ti i) true := by rw [← hopi, opB_hd, hto]
            have hs := ih (r, f, h_up wa (ad i) (cellT ad i (opT (ti i) true)), va_up t1 i (opT (ti i) true)) ⟨hlk', fun j hj => hr2 j (List.mem_cons_of_mem _ hj), by have h9 := hli.step hn hi; rw [hFi] at h9; exact h9, by rw [← hf]; simp only [List.foldl_cons, htn], fun j hj => by rw [← hop j (List.mem_cons_of_mem _ hj), opB_tl (fun e : j = i => hni (by rw [← e]; exact hj)), htn]⟩ (Nat.lt_succ_self _)
            dsimp only at hs
            rw [← hla] at hs
            exact hs
          · have hto : trO ti d f i = false := by simp [trO, ht]
            have htn : trN ti d f i = (tkF f ((ti i).va / 16) (f ((ti i).va % 16) ||| ((1 : Int32) <<< (nI ((ti i).va % 16) &&& 31))) 16) := by simp [trN, hcn, ht]
            have hc2 : h_up wa un (eI G 16 (tkF f ((ti i).va / 16) (f ((ti i).va % 16) ||| ((1 : Int32) <<< (nI ((ti i).va % 16) &&& 31))) 16)) (ad i) = some (cellT ad i (ti i)) := (h_up_n (Ne.symm (ap i hi).2.2.2.2.2)).trans hc
            have hli2 : LI (h_up w un (eI G 16 (tkF f ((ti i).va / 16) (f ((ti i).va % 16) ||| ((1 : Int32) <<< (nI ((ti i).va % 16) &&& 31))) 16))) ad n ti (fun i => opT (ti i) (opB ti d f0 ch i)) (i :: r) (h_up wa un (eI G 16 (tkF f ((ti i).va / 16) (f ((ti i).va % 16) ||| ((1 : Int32) <<< (nI ((ti i).va % 16) &&& 31))) 16))) t1 := by have h9 := hli.other (eI G 16 (tkF f ((ti i).va / 16) (f ((ti i).va % 16) ||| ((1 : Int32) <<< (nI ((ti i).va % 16) &&& 31))) 16)) (b := un) (fun j hj => (ap j hj).2.2.2.2.2); rw [h_up_up] at h9; exact h9
            refine g_if_ne C 79 dX2_takeRelations_72 (by decide) (fun _ => ?_) (fun c72 => absurd c72 (by decide))
            refine g_iconst C (v := 0) dX2_takeRelations_79 (by decide) ?_
            refine g_put C dX2_takeRelations_80 hc2 rfl kw_X1 tyX1 tyX1_ok nmX1 8 (by decide) kfX2_131 rfl rfl rfl rfl (Nat.le_of_ble_eq_true rfl) ?_
            first | refine g_aload_n C dX2_takeRelations_83 rfl rfl ?_ | refine g_aload_nN C dX2_takeRelations_83 rfl rfl ?_ | refine g_aload_nq C dX2_takeRelations_83 rfl rfl ?_
            refine g_get C dX2_takeRelations_84 (h_up_s _ _ _) rfl kw_X1 9 (by decide) kfX2_95 rfl rfl ?_
            first | refine g_astore_n C dX2_takeRelations_87 rfl (by decide) ?_ | refine g_astore_nN C dX2_takeRelations_87 rfl (by decide) ?_ | refine g_astore_nq C dX2_takeRelations_87 rfl (by decide) ?_
            refine g_goto C 12 dX2_takeRelations_88 (by decide) ?_
            refine g_drop [(0, .ref x), (1, .int d), (2, va_rf ((ti i).la.map ad))] _ rfl ?_
            have hFi : opT (ti i) (opB ti d f0 ch i) = opT (ti i) false := by rw [← hopi, opB_hd, hto]
            have hs := ih (r, (tkF f ((ti i).va / 16) (f ((ti i).va % 16) ||| ((1 : Int32) <<< (nI ((ti i).va % 16) &&& 31))) 16), h_up (h_up wa un (eI G 16 (tkF f ((ti i).va / 16) (f ((ti i).va % 16) ||| ((1 : Int32) <<< (nI ((ti i).va % 16) &&& 31))) 16))) (ad i) (cellT ad i (opT (ti i) false)), va_up t1 i (opT (ti i) false)) ⟨hlk', fun j hj => hr2 j (List.mem_cons_of_mem _ hj), by have h9 := hli2.step hn hi; rw [hFi] at h9; exact h9, by rw [← hf]; simp only [List.foldl_cons, htn], fun j hj => by rw [← hop j (List.mem_cons_of_mem _ hj), opB_tl (fun e : j = i => hni (by rw [← e]; exact hj)), htn]⟩ (Nat.lt_succ_self _)
            dsimp only at hs
            rw [← hla] at hs
            exact hs

/-- the number of the k-th that stands open -/
def opG (P : Nat → Bool) (k : Int32) : Int32 → List Nat → Int32
  | _, [] => -1
  | b, i :: r => cond (P i) (cond (decide (b = k)) (nI i) (opG P k (b + 1) r)) (opG P k b r)
def orV (f : Nat → Int32) (p q : Nat) : Int32 := cond (kb (f p) (nI q)) 1 (cond (kb (f q) (nI p)) (-1) 0)
set_option maxHeartbeats 4000000 in
set_option maxRecDepth 100000 in
theorem c_X2_order (l : Launch) (G : hD) (w : hW) (x tl rw ng cx un : Nat) (ad : Nat → Nat) (n : Nat) (ti : Nat → TI) (ch : List Nat) (rl : Nat → List Nat) (gv : Nat → Nat) (f : Nat → Int32) (hM : TM G x tl rw ng cx un ad n ti ch rl gv f w) (hall : ∀ i, i < n → i ∈ ch) (hnd : ch.Nodup) (hrel : relOk n ti) (d p9 q9 : Int32) : h_Met l yX2_order (Cond.code yX2_order cX2_order 4 (some .int)) { frames := 7, cells := 3, slots := 18, locals := 102 } G [.ref x, .int d, .int p9, .int q9] w (fun v w' => okD d ∧ ∃ pa qa, pa < 16 ∧ qa < 16 ∧ p9 = nI pa ∧ q9 = nI qa ∧ ∃ f0 : Nat → Int32, (∀ j, j < 16 → f0 j = 0) ∧ v = some (.int (orV (ch.foldl (trN ti d) f0) pa qa)) ∧ TM G x tl rw ng cx un ad n (fun i => opT (ti i) (opB ti d f0 ch i)) ch rl gv (ch.foldl (trN ti d) f0) w' ∧ fr (CD x tl rw ng cx un ad n) w w') (exc1 (okD d ∧ okT p9 ∧ okT q9)) := by
  refine h_met RX2 rfl (by decide) (Nat.le_of_ble_eq_true rfl) (cat_c (by first | rfl | exact rf_cat _) (cat_c (by first | rfl | exact rf_cat _) (cat_c (by first | rfl | exact rf_cat _) (cat_c (by first | rfl | exact rf_cat _) cat_n)))) ?_
  intro p e s m below meth c A C hnt hr hnm
  obtain ⟨hx, ⟨tf, htl, htf⟩, ⟨rf, hrw, hrf⟩, ⟨gf, hng, hgf⟩, hcx, hun, hT, hn, hch, hlk, hrl⟩ := id hM
  refine g_iload_n C dX2_order_0 rfl rfl ?_
  refine g_callS C hnt _ dX2_order_1 (c_X2_requireDesk l G _ _) kmX2_37 ks_X2_requireDesk kn_X2 kc_X2_requireDesk hy_X2_requireDesk ⟨by decide, by decide⟩ rfl (Nat.le_of_ble_eq_true rfl) ⟨by decide, by decide⟩ ⟨by decide, by decide⟩ (fun E hE => ⟨⟨hE.1, fun h => hE.2 h.1⟩, rfl⟩) (fun v w1 hp => ?_)
  obtain ⟨rfl, hw1, hok0⟩ := hp
  have hw1 := hw1.symm
  subst hw1
  refine g_iload_n C dX2_order_4 rfl rfl ?_
  refine g_callS C hnt _ dX2_order_5 (c_X2_requireContext l G _ _) kmX2_83 ks_X2_requireContext kn_X2 kc_X2_requireContext hy_X2_requireContext ⟨by decide, by decide⟩ rfl (Nat.le_of_ble_eq_true rfl) ⟨by decide, by decide⟩ ⟨by decide, by decide⟩ (fun E hE => ⟨⟨hE.1, fun h => hE.2 h.2.1⟩, rfl⟩) (fun v w1 hp => ?_)
  obtain ⟨rfl, hw1, hok1⟩ := hp
  have hw1 := hw1.symm
  subst hw1
  refine g_iload_n C dX2_order_8 rfl rfl ?_
  refine g_callS C hnt _ dX2_order_9 (c_X2_requireContext l G _ _) kmX2_83 ks_X2_requireContext kn_X2 kc_X2_requireContext hy_X2_requireContext ⟨by decide, by decide⟩ rfl (Nat.le_of_ble_eq_true rfl) ⟨by decide, by decide⟩ ⟨by decide, by decide⟩ (fun E hE => ⟨⟨hE.1, fun h => hE.2 h.2.2⟩, rfl⟩) (fun v w1 hp => ?_)
  obtain ⟨rfl, hw1, hok2⟩ := hp
  have hw1 := hw1.symm
  subst hw1
  obtain ⟨pa, hpa, rfl⟩ := ok_nI (N := 16) (by decide) hok1.1 hok1.2
  obtain ⟨qa, hqa, rfl⟩ := ok_nI (N := 16) (by decide) hok2.1 hok2.2
  first | refine g_aload_n C dX2_order_12 rfl rfl ?_ | refine g_aload_nN C dX2_order_12 rfl rfl ?_ | refine g_aload_nq C dX2_order_12 rfl rfl ?_
  refine g_iload_n C dX2_order_13 rfl rfl ?_
  refine g_callVn C _ dX2_order_14 (c_X2_takeRelations l G _ _ _ _ _ _ _ _ _ _ _ _ _ _ hM hall hnd hrel _) kmX2_124 ki_X2_takeRelations kv_X2_takeRelations kn_X2 kc_X2_takeRelations hy_X2_takeRelations ⟨by decide, by decide⟩ hx rfl rfl (Nat.le_of_ble_eq_true rfl) ⟨by decide, by decide⟩ (fun v w1 hp => ?_)
  obtain ⟨rfl, f0, hf0, hM', hfr⟩ := hp
  obtain ⟨hx', -, -, -, hcx', hun', hT', -, hch', hlk', -⟩ := id hM'
  first | refine g_aload_n C dX2_order_17 rfl rfl ?_ | refine g_aload_nN C dX2_order_17 rfl rfl ?_ | refine g_aload_nq C dX2_order_17 rfl rfl ?_
  refine g_get C dX2_order_18 hx' rfl kw_X2 3 (by decide) kfX2_25 rfl rfl ?_
  refine g_iload_n C dX2_order_21 rfl rfl ?_
  refine g_iload_n C dX2_order_22 rfl rfl ?_
  refine g_callVn C _ dX2_order_23 (c_X0_isOver l G _ _ _ _ hcx' hun' _ _) kmX2_127 ki_X0_isOver kv_X0_isOver kn_X0 kc_X0_isOver hy_X0_isOver ⟨by decide, by decide⟩ hcx' rfl rfl (Nat.le_of_ble_eq_true rfl) ⟨by decide, by decide⟩ (fun v w1 hp => ?_)
  obtain ⟨rfl, hw1⟩ := hp
  have hw1 := hw1.symm
  subst hw1
  refine g_if_eq C 31 dX2_order_26 (by decide) (fun c26 => ?_) (fun c26 => ?_)
  · have c26 := bI_z.mp c26; rw [isCtx_nI hpa, Bool.true_and, nI_clamp (by omega)] at c26
    first | refine g_aload_n C dX2_order_31 rfl rfl ?_ | refine g_aload_nN C dX2_order_31 rfl rfl ?_ | refine g_aload_nq C dX2_order_31 rfl rfl ?_
    refine g_get C dX2_order_32 hx' rfl kw_X2 3 (by decide) kfX2_25 rfl rfl ?_
    refine g_iload_n C dX2_order_35 rfl rfl ?_
    refine g_iload_n C dX2_order_36 rfl rfl ?_
    refine g_callVn C _ dX2_order_37 (c_X0_isOver l G _ _ _ _ hcx' hun' _ _) kmX2_127 ki_X0_isOver kv_X0_isOver kn_X0 kc_X0_isOver hy_X0_isOver ⟨by decide, by decide⟩ hcx' rfl rfl (Nat.le_of_ble_eq_true rfl) ⟨by decide, by decide⟩ (fun v w1 hp => ?_)
    obtain ⟨rfl, hw1⟩ := hp
    have hw1 := hw1.symm
    subst hw1
    refine g_if_eq C 47 dX2_order_40 (by decide) (fun c40 => ?_) (fun c40 => ?_)
    · have c40 := bI_z.mp c40; rw [isCtx_nI hqa, Bool.true_and, nI_clamp (by omega)] at c40
      refine g_iconst C (v := 0) dX2_order_47 (by decide) ?_
      exact g_iret C hr dX2_order_48 (by decide) (by decide) ⟨hok0, pa, qa, hpa, hqa, rfl, rfl, f0, hf0, by simp [orV, c26, c40], hM', hfr⟩
    · have c40 := bI_nz.mp c40; rw [isCtx_nI hqa, Bool.true_and, nI_clamp (by omega)] at c40
      refine g_iconst C (v := (-1)) dX2_order_43 (by decide) ?_
      refine g_goto C 48 dX2_order_44 (by decide) ?_
      exact g_iret C hr dX2_order_48 (by decide) (by decide) ⟨hok0, pa, qa, hpa, hqa, rfl, rfl, f0, hf0, by simp [orV, c26, c40], hM', hfr⟩
  · have c26 := bI_nz.mp c26; rw [isCtx_nI hpa, Bool.true_and, nI_clamp (by omega)] at c26
    refine g_iconst C (v := 1) dX2_order_29 (by decide) ?_
    exact g_iret C hr dX2_order_30 (by decide) (by decide) ⟨hok0, pa, qa, hpa, hqa, rfl, rfl, f0, hf0, by simp [orV, c26], hM', hfr⟩

set_option maxHeartbeats 4000000 in
set_option maxRecDepth 100000 in
theorem c_X2_open (l : Launch) (G : hD) (w : hW) (x tl rw ng cx un : Nat) (ad : Nat → Nat) (n : Nat) (ti : Nat → TI) (ch : List Nat) (rl : Nat → List Nat) (gv : Nat → Nat) (f : Nat → Int32) (hM : TM G x tl rw ng cx un ad n ti ch rl gv f w) (hall : ∀ i, i < n → i ∈ ch) (hnd : ch.Nodup) (hrel : relOk n ti) (d k : Int32) : h_Met l yX2_open (Cond.code yX2_open cX2_open 5 (some .int)) { frames := 7, cells := 2, slots := 12, locals := 102 } G [.ref x, .int d, .int k] w (fun v w' => okD d ∧ ¬ k < 0 ∧ ∃ f0 : Nat → Int32, (∀ j, j < 16 → f0 j = 0) ∧ v = some (.int (opG (opB ti d f0 ch) k 0 ch)) ∧ TM G x tl rw ng cx un ad n (fun i => opT (ti i) (opB ti d f0 ch i)) ch rl gv (ch.foldl (trN ti d) f0) w' ∧ fr (CD x tl rw ng cx un ad n) w w') (exc1 (okD d ∧ ¬ k < 0)) := by
  refine h_met RX2 rfl (by decide) (Nat.le_of_ble_eq_true rfl) (cat_c (by first | rfl | exact rf_cat _) (cat_c (by first | rfl | exact rf_cat _) (cat_c (by first | rfl | exact rf_cat _) cat_n))) ?_
  intro p e s m below meth c A C hnt hr hnm
  obtain ⟨hx, ⟨tf, htl, htf⟩, ⟨rf, hrw, hrf⟩, ⟨gf, hng, hgf⟩, hcx, hun, hT, hn, hch, hlk, hrl⟩ := id hM
  refine g_iload_n C dX2_open_0 rfl rfl ?_
  refine g_callS C hnt _ dX2_open_1 (c_X2_requireDesk l G _ _) kmX2_37 ks_X2_requireDesk kn_X2 kc_X2_requireDesk hy_X2_requireDesk ⟨by decide, by decide⟩ rfl (Nat.le_of_ble_eq_true rfl) ⟨by decide, by decide⟩ ⟨by decide, by decide⟩ (fun E hE => ⟨⟨hE.1, fun h => hE.2 h.1⟩, rfl⟩) (fun v w1 hp => ?_)
  obtain ⟨rfl, hw1, hok0⟩ := hp
  have hw1 := hw1.symm
  subst hw1
  refine g_iload_n C dX2_open_4 rfl rfl ?_
  refine g_callS C hnt _ dX2_open_5 (c_X2_requireOrdinal l G _ _) kmX2_103 ks_X2_requireOrdinal kn_X2 kc_X2_requireOrdinal hy_X2_requireOrdinal ⟨by decide, by decide⟩ rfl (Nat.le_of_ble_eq_true rfl) ⟨by decide, by decide⟩ ⟨by decide, by decide⟩ (fun E hE => ⟨⟨hE.1, fun h => hE.2 h.2⟩, rfl⟩) (fun v w1 hp => ?_)
  obtain ⟨rfl, hw1, hok1⟩ := hp
  have hw1 := hw1.symm
  subst hw1
  first | refine g_aload_n C dX2_open_8 rfl rfl ?_ | refine g_aload_nN C dX2_open_8 rfl rfl ?_ | refine g_aload_nq C dX2_open_8 rfl rfl ?_
  refine g_iload_n C dX2_open_9 rfl rfl ?_
  refine g_callVn C _ dX2_open_10 (c_X2_takeRelations l G _ _ _ _ _ _ _ _ _ _ _ _ _ _ hM hall hnd hrel _) kmX2_124 ki_X2_takeRelations kv_X2_takeRelations kn_X2 kc_X2_takeRelations hy_X2_takeRelations ⟨by decide, by decide⟩ hx rfl rfl (Nat.le_of_ble_eq_true rfl) ⟨by decide, by decide⟩ (fun v w1 hp => ?_)
  obtain ⟨rfl, f0, hf0, hM', hfr⟩ := hp
  obtain ⟨hx', -, -, -, hcx', hun', hT', -, hch', hlk', -⟩ := id hM'
  refine g_iconst C (v := 0) dX2_open_13 (by decide) ?_
  refine g_istore_n C dX2_open_14 rfl (by decide) ?_
  first | refine g_aload_n C dX2_open_15 rfl rfl ?_ | refine g_aload_nN C dX2_open_15 rfl rfl ?_ | refine g_aload_nq C dX2_open_15 rfl rfl ?_
  refine g_get C dX2_open_16 hx' rfl kw_X2 4 (by decide) kfX2_29 rfl rfl ?_
  first | refine g_astore C dX2_open_19 (by decide) ?_ | refine g_astoreN C dX2_open_19 (by decide) ?_ | refine g_astoreq C dX2_open_19 (by decide) ?_
  refine g_loop (σ := List Nat × Int32) (fun z => lk (fun i => (ti i).la) z.1.head? z.1 ∧ (∀ i ∈ z.1, i < n) ∧ opG (opB ti d f0 ch) k z.2 z.1 = opG (opB ti d f0 ch) k 0 ch) (fun z => z.1.length) (fun _ => w1) (fun z => [(0, .ref x), (1, .int d), (2, .int k), (3, .int z.2), (4, va_rf (z.1.head?.map ad))]) ?_ (ch, 0) ⟨hlk, hch, rfl⟩
  rintro ⟨r, b⟩ ⟨hr1, hr2, hinv⟩ ih
  dsimp only at hr1 hr2 hinv ih ⊢
  cases r with
  | nil =>
    first | refine g_aload C dX2_open_21 rfl ?_ | refine g_aloadN C dX2_open_21 rfl ?_ | refine g_aloadq C dX2_open_21 rfl ?_
    refine g_ifnullN C 58 dX2_open_23 (by decide) ?_
    refine g_iconst C (v := (-1)) dX2_open_58 (by decide) ?_
    exact g_iret C hr dX2_open_59 (by decide) (by decide) ⟨hok0, hok1, f0, hf0, by rw [← hinv]; rfl, hM', hfr⟩
  | cons i r =>
    have hi : i < n := hr2 i List.mem_cons_self
    have hc := hT' i hi
    have hla : (ti i).la = r.head? := lk_hd hr1.2
    have hlk9 : lk (fun i => (ti i).la) r.head? r := by rw [← hla]; exact hr1.2
    first | refine g_aload C dX2_open_21 rfl ?_ | refine g_aloadN C dX2_open_21 rfl ?_ | refine g_aloadq C dX2_open_21 rfl ?_
    refine g_ifnullR C dX2_open_23 ?_
    first | refine g_aload C dX2_open_26 rfl ?_ | refine g_aloadN C dX2_open_26 rfl ?_ | refine g_aloadq C dX2_open_26 rfl ?_
    refine g_get C dX2_open_28 hc rfl kw_X1 8 (by decide) kfX2_131 rfl rfl ?_
    refine g_if_eq C 48 dX2_open_31 (by decide) (fun c31 => ?_) (fun c31 => ?_)
    · have c31 := bI_z.mp c31
      first | refine g_aload C dX2_open_48 rfl ?_ | refine g_aloadN C dX2_open_48 rfl ?_ | refine g_aloadq C dX2_open_48 rfl ?_
      refine g_get C dX2_open_50 hc rfl kw_X1 9 (by decide) kfX2_95 rfl rfl ?_
      first | refine g_astore C dX2_open_53 (by decide) ?_ | refine g_astoreN C dX2_open_53 (by decide) ?_ | refine g_astoreq C dX2_open_53 (by decide) ?_
      refine g_goto C 21 dX2_open_55 (by decide) ?_
      have hs := ih (r, b) ⟨hlk9, fun j hj => hr2 j (List.mem_cons_of_mem _ hj), by rw [← hinv]; simp [opG, c31]⟩ (Nat.lt_succ_self _)
      dsimp only at hs
      rw [← hla] at hs
      exact hs
    · have c31 := bI_nz.mp c31
      refine g_iload_n C dX2_open_34 rfl rfl ?_
      refine g_iload_n C dX2_open_35 rfl rfl ?_
      refine g_icmp_ne C 45 dX2_open_36 (by decide) (fun c36 => ?_) (fun c36 => ?_)
      · refine g_iinc C (v := (b + 1)) dX2_open_45 rfl (rfl) (by decide) ?_
        first | refine g_aload C dX2_open_48 rfl ?_ | refine g_aloadN C dX2_open_48 rfl ?_ | refine g_aloadq C dX2_open_48 rfl ?_
        refine g_get C dX2_open_50 hc rfl kw_X1 9 (by decide) kfX2_95 rfl rfl ?_
        first | refine g_astore C dX2_open_53 (by decide) ?_ | refine g_astoreN C dX2_open_53 (by decide) ?_ | refine g_astoreq C dX2_open_53 (by decide) ?_
        refine g_goto C 21 dX2_open_55 (by decide) ?_
        have hs := ih (r, b + 1) ⟨hlk9, fun j hj => hr2 j (List.mem_cons_of_mem _ hj), by rw [← hinv]; simp [opG, c31, c36]⟩ (Nat.lt_succ_self _)
        dsimp only at hs
        rw [← hla] at hs
        exact hs
      · first | refine g_aload C dX2_open_39 rfl ?_ | refine g_aloadN C dX2_open_39 rfl ?_ | refine g_aloadq C dX2_open_39 rfl ?_
        refine g_get C dX2_open_41 hc rfl kw_X1 0 (by decide) kfX2_55 rfl rfl ?_
        exact g_iret C hr dX2_open_44 (by decide) (by decide) ⟨hok0, hok1, f0, hf0, by rw [← hinv]; simp [opG, c31, c36], hM', hfr⟩
end
section
/-! ===== a telling is put into the chain, a place into its row ===== -/
def laT (t : TI) (l : Option Nat) : TI := (t.dk, t.st, t.so, t.th, t.va, t.kn, t.en, t.op, l, t.ne)
def neT (t : TI) (l : Option Nat) : TI := (t.dk, t.st, t.so, t.th, t.va, t.kn, t.en, t.op, t.la, l)
def ltT (t1 t2 : TI) : Bool := later2 (nI t1.st) (nI t1.dk) (nI t2.st) (nI t2.dk)
def insR (ti : Nat → TI) (j : Nat) : List Nat → List Nat
  | [] => [j]
  | i :: r => cond (ltT (ti j) (ti i)) (i :: insR ti j r) (j :: i :: r)
def skR (ti : Nat → TI) (j : Nat) : List Nat → List Nat
  | [] => [j]
  | i :: r => cond (ltT (ti i) (ti j)) (i :: skR ti j r) (j :: i :: r)
theorem tIn_eq {w : hW} {ad : Nat → Nat} {n : Nat} {t1 t2 : Nat → TI} (h : tIn w ad n t1) (he : ∀ i, i < n → t1 i = t2 i) : tIn w ad n t2 := fun i hi => by rw [← he i hi]; exact h i hi
theorem lk_ins0 {nx : Nat → Option Nat} {j : Nat} {r : List Nat} (h : lk nx r.head? r) (hj : j ∉ r) : lk (va_up nx j r.head?) (some j) (j :: r) := ⟨rfl, by rw [va_up_self]; exact lk_congr h (fun i hi => va_up_ne _ _ (fun e => hj (e ▸ hi)))⟩
theorem lk_ins1 {nx : Nat → Option Nat} {b j : Nat} {r : List Nat} : ∀ {pre : List Nat} {h : Option Nat}, lk nx h (pre ++ b :: r) → (pre ++ b :: r).Nodup → j ∉ pre ++ b :: r → lk (va_up (va_up nx j r.head?) b (some j)) h (pre ++ b :: j :: r)
  | [], h, hl, hnd, hj => by
    have hb := List.nodup_cons.mp hnd
    have hjb : j ≠ b := fun e => hj (by rw [e]; exact List.mem_cons_self)
    have hjr : j ∉ r := fun e => hj (List.mem_cons_of_mem _ e)
    refine ⟨hl.1, ?_⟩
    rw [va_up_self]
    refine ⟨rfl, ?_⟩
    rw [va_up_ne _ _ hjb, va_up_self]
    have h2 : lk nx r.head? r := by rw [← lk_hd hl.2]; exact hl.2
    exact lk_congr h2 (fun i hi => by rw [va_up_ne _ _ (fun e : i = b => hb.1 (e ▸ hi)), va_up_ne _ _ (fun e : i = j => hjr (e ▸ hi))])
  | i :: pre, h, hl, hnd, hj => by
    have hi := List.nodup_cons.mp hnd
    have hib : i ≠ b := fun e => hi.1 (by rw [e]; simp)
    have hij : i ≠ j := fun e => hj (by rw [← e]; exact List.mem_cons_self)
    refine ⟨hl.1, ?_⟩
    show lk _ (va_up (va_up nx j r.head?) b (some j) i) _
    rw [va_up_ne _ _ hib, va_up_ne _ _ hij]
    exact lk_ins1 hl.2 hi.2 (fun e => hj (List.mem_cons_of_mem _ e))
theorem lk_mid {nx : Nat → Option Nat} {b : Nat} {r : List Nat} : ∀ {pre : List Nat} {h : Option Nat}, lk nx h (pre ++ b :: r) → nx b = r.head? ∧ lk nx r.head? r
  | [], h, hl => ⟨lk_hd hl.2, by rw [← lk_hd hl.2]; exact hl.2⟩
  | i :: pre, h, hl => lk_mid hl.2
theorem lk_suf {nx : Nat → Option Nat} {r : List Nat} : ∀ {pre : List Nat} {h : Option Nat}, lk nx h (pre ++ r) → lk nx r.head? r
  | [], h, hl => by have h1 : lk nx h r := hl; rw [← lk_hd h1]; exact h1
  | i :: pre, h, hl => lk_suf hl.2
theorem hd_app {α : Type} {b : α} (pre r q : List α) : (pre ++ b :: r).head? = (pre ++ b :: q).head? := by cases pre <;> rfl
section PB
variable {G : hD} {x tl rw ng cx un : Nat} {ad : Nat → Nat} {n : Nat} {ti : Nat → TI} {ch : List Nat} {rl : Nat → List Nat} {gv : Nat → Nat} {f : Nat → Int32} {w : hW}
/-- put at the chain's beginning -/
theorem TM.first (h : TM G x tl rw ng cx un ad n ti ch rl gv f w) {j : Nat} (hj : j < n) (hjc : j ∉ ch) : TM G x tl rw ng cx un ad n (fun i => laT (ti i) (va_up (fun i => (ti i).la) j ch.head? i)) (j :: ch) rl gv f (h_up (h_up w (ad j) (cellT ad j (laT (ti j) ch.head?))) x (cellX ad tl rw ng cx (some j) n)) := by
  have ap := h.apart
  obtain ⟨b1, b2, b3, b4, b5, b6, b7, b8, b9, b10, b11⟩ := h.apart2
  obtain ⟨hx, ⟨tf, htl, htf⟩, ⟨rf, hrw, hrf⟩, ⟨gf, hng, hgf⟩, hcx, hun, hT, hn, hch, hlk, hrl⟩ := h
  have q := ap j hj
  refine ⟨h_up_s _ _ _, ⟨tf, by rw [h_up_n (Ne.symm b1), h_up_n q.2.1]; exact htl, htf⟩, ⟨rf, by rw [h_up_n (Ne.symm b2), h_up_n q.2.2.1]; exact hrw, hrf⟩, ⟨gf, by rw [h_up_n (Ne.symm b3), h_up_n q.2.2.2.1]; exact hng, hgf⟩, by rw [h_up_n (Ne.symm b4), h_up_n q.2.2.2.2.1]; exact hcx, by rw [h_up_n (Ne.symm b5), h_up_n q.2.2.2.2.2]; exact hun, ?_, hn, ?_, ?_, ?_⟩
  · refine tIn_off (tIn_eq (tIn_up hT hn hj _) (fun i hi => ?_)) (fun i hi => (ap i hi).1)
    by_cases hij : i = j
    · subst hij; rw [va_up_self, va_up_self]
    · rw [va_up_ne _ _ hij, va_up_ne _ _ hij]; rfl
  · intro i hi
    rcases List.mem_cons.mp hi with rfl | hi
    · exact hj
    · exact hch i hi
  · exact lk_ins0 hlk hjc
  · exact fun t ht => ⟨(hrl t ht).1, (hrl t ht).2⟩
/-- put behind another one -/
theorem TM.behind {pre r : List Nat} {b : Nat} (h : TM G x tl rw ng cx un ad n ti (pre ++ b :: r) rl gv f w) {j : Nat} (hj : j < n) (hjc : j ∉ pre ++ b :: r) (hnd : (pre ++ b :: r).Nodup) : TM G x tl rw ng cx un ad n (fun i => laT (ti i) (va_up (va_up (fun i => (ti i).la) j r.head?) b (some j) i)) (pre ++ b :: j :: r) rl gv f (h_up (h_up w (ad j) (cellT ad j (laT (ti j) r.head?))) (ad b) (cellT ad b (laT (ti b) (some j)))) := by
  have ap := h.apart
  obtain ⟨hx, ⟨tf, htl, htf⟩, ⟨rf, hrw, hrf⟩, ⟨gf, hng, hgf⟩, hcx, hun, hT, hn, hch, hlk, hrl⟩ := h
  have hb : b < n := hch b (by simp)
  have q := ap j hj
  have q2 := ap b hb
  refine ⟨by rw [h_up_n q2.1, h_up_n q.1, hd_app pre (j :: r) r]; exact hx, ⟨tf, by rw [h_up_n q2.2.1, h_up_n q.2.1]; exact htl, htf⟩, ⟨rf, by rw [h_up_n q2.2.2.1, h_up_n q.2.2.1]; exact hrw, hrf⟩, ⟨gf, by rw [h_up_n q2.2.2.2.1, h_up_n q.2.2.2.1]; exact hng, hgf⟩, by rw [h_up_n q2.2.2.2.2.1, h_up_n q.2.2.2.2.1]; exact hcx, by rw [h_up_n q2.2.2.2.2.2, h_up_n q.2.2.2.2.2]; exact hun, ?_, hn, ?_, ?_, ?_⟩
  · have hjb : j ≠ b := fun e => hjc (by rw [e]; simp)
    refine tIn_eq (tIn_up (tIn_up hT hn hj _) hn hb _) (fun i hi => ?_)
    by_cases hib : i = b
    · subst hib; rw [va_up_self, va_up_self]
    · rw [va_up_ne _ _ hib, va_up_ne _ _ hib]
      by_cases hij : i = j
      · subst hij; rw [va_up_self, va_up_self]
      · rw [va_up_ne _ _ hij, va_up_ne _ _ hij]; rfl
  · intro i hi
    rcases List.mem_append.mp hi with hi | hi
    · exact hch i (by simp [hi])
    · rcases List.mem_cons.mp hi with rfl | hi
      · exact hb
      · rcases List.mem_cons.mp hi with rfl | hi
        · exact hj
        · exact hch i (by simp [hi])
  · rw [hd_app pre (j :: r) r]
    exact lk_ins1 hlk hnd hjc
  · exact fun t ht => ⟨(hrl t ht).1, (hrl t ht).2⟩
end PB
theorem g_st {p : Program} {l : Launch} {e : Env} {R : Room} {s : State} {m : MethodId} {args : Array Value} {below : List Frame} {meth : Method} {c : Code} {Q : State → Prop} {G : hD} {A : Nat → Prop} {nL : Nat} {w : hW} {cells slots pc : Nat} {lv : List (Nat × Value)} {st st1 : List Value} (h : st1 = st) (k : h_G p l e R s m args below meth c G A nL Q w cells slots pc lv st1) : h_G p l e R s m args below meth c G A nL Q w cells slots pc lv st := h ▸ k
theorem lg_len : ∀ (vs : List Value), (∀ v ∈ vs, v.category = 1) → (lg_sl vs).length = vs.length
  | [], _ => rfl
  | v :: vs, h => by
    have h1 : v.category = 1 := h v List.mem_cons_self
    have h2 := lg_len vs (fun x hx => h x (List.mem_cons_of_mem _ hx))
    simp only [lg_sl, List.flatMap_cons, List.length_append, List.length_cons] at h2 ⊢
    rw [h2]
    simp [h1]
    omega
theorem rf_nar (c : String) (o : Option Nat) : narrow (.object c) (va_rf o) = va_rf o := by cases o <;> rfl
theorem rf_fit (c : String) (o : Option Nat) : fits (.object c) (va_rf o) = true := by cases o <;> rfl
theorem snoc {α : Type} (l : List α) : l = [] ∨ ∃ p b, l = p ++ [b] := by
  rcases List.eq_nil_or_concat l with h | ⟨p, b, h⟩
  · exact Or.inl h
  · exact Or.inr ⟨p, b, by rw [h, List.concat_eq_append]⟩
theorem last_app {α : Type} (l : List α) (b : α) : (l ++ [b]).getLast? = some b := by simp
theorem last_none {ad : Nat → Nat} {l : List Nat} (h : l.getLast?.map ad = none) : l = [] := by
  rcases snoc l with h0 | ⟨p, b, h0⟩
  · exact h0
  · rw [h0, last_app] at h; cases h
theorem last_some {ad : Nat → Nat} {l : List Nat} {a : Nat} (h : l.getLast?.map ad = some a) : ∃ p b, l = p ++ [b] := by
  rcases snoc l with h0 | h0
  · rw [h0] at h; cases h
  · exact h0

set_option maxHeartbeats 4000000 in
set_option maxRecDepth 100000 in
theorem c_X2_putByRank (l : Launch) (G : hD) (w : hW) (x tl rw ng cx un : Nat) (ad : Nat → Nat) (n : Nat) (ti : Nat → TI) (ch : List Nat) (rl : Nat → List Nat) (gv : Nat → Nat) (f : Nat → Int32) (hM : TM G x tl rw ng cx un ad n ti ch rl gv f w) (j : Nat) (hj : j < n) (hjc : j ∉ ch) (hnd : ch.Nodup) : h_Met l yX2_putByRank (Cond.code yX2_putByRank cX2_putByRank 4 none) { frames := 1, cells := 0, slots := 0, locals := 21 } G [.ref x, .ref (ad j)] w (fun v w' => v = none ∧ ∃ lf : Nat → Option Nat, TM G x tl rw ng cx un ad n (fun i => laT (ti i) (lf i)) (insR ti j ch) rl gv f w' ∧ fr (CD x tl rw ng cx un ad n) w w') noX := by
  refine h_met RX2 rfl (by decide) (Nat.le_of_ble_eq_true rfl) (cat_c (by first | rfl | exact rf_cat _) (cat_c (by first | rfl | exact rf_cat _) cat_n)) ?_
  intro p e s m below meth c A C hnt hr hnm
  obtain ⟨hx, ⟨tf, htl, htf⟩, ⟨rf, hrw, hrf⟩, ⟨gf, hng, hgf⟩, hcx, hun, hT, hn, hch, hlk, hrl⟩ := id hM
  have ap := hM.apart
  have hcj := hT j hj
  have hfin : ∀ (pre r : List Nat), ch = pre ++ r → insR ti j ch = pre ++ j :: r → h_G p l e { frames := 1, cells := 0, slots := 0, locals := 21 } s m ([.ref x, .ref (ad j)] : List Value).toArray below meth c G A 4 (h_Q G A (fun v w' => v = none ∧ ∃ lf : Nat → Option Nat, TM G x tl rw ng cx un ad n (fun i => laT (ti i) (lf i)) (insR ti j ch) rl gv f w' ∧ fr (CD x tl rw ng cx un ad n) w w') noX w below ([.ref x, .ref (ad j)] : List Value).toArray s 0 0) w 0 0 29 [(0, .ref x), (1, .ref (ad j)), (2, va_rf (pre.getLast?.map ad)), (3, va_rf (r.head?.map ad))] [] := by
    intro pre r hpr hins
    have hx1 : h_up w (ad j) (cellT ad j (laT (ti j) r.head?)) x = some (cellX ad tl rw ng cx ch.head? n) := (h_up_n (ap j hj).1).trans hx
    rcases snoc pre with rfl | ⟨p1, b, rfl⟩
    · first | refine g_aload_n C dX2_putByRank_29 rfl rfl ?_ | refine g_aload_nN C dX2_putByRank_29 rfl rfl ?_ | refine g_aload_nq C dX2_putByRank_29 rfl rfl ?_
      first | refine g_aload_n C dX2_putByRank_30 rfl rfl ?_ | refine g_aload_nN C dX2_putByRank_30 rfl rfl ?_ | refine g_aload_nq C dX2_putByRank_30 rfl rfl ?_
      refine g_put C dX2_putByRank_31 hcj rfl kw_X1 tyX1 tyX1_ok nmX1 9 (by decide) kfX2_95 rfl rfl (rf_nar _ _) (rf_fit _ _) (Nat.le_of_ble_eq_true rfl) ?_
      first | refine g_aload_n C dX2_putByRank_34 rfl rfl ?_ | refine g_aload_nN C dX2_putByRank_34 rfl rfl ?_ | refine g_aload_nq C dX2_putByRank_34 rfl rfl ?_
      refine g_ifnonnullN C dX2_putByRank_35 ?_
      first | refine g_aload_n C dX2_putByRank_38 rfl rfl ?_ | refine g_aload_nN C dX2_putByRank_38 rfl rfl ?_ | refine g_aload_nq C dX2_putByRank_38 rfl rfl ?_
      first | refine g_aload_n C dX2_putByRank_39 rfl rfl ?_ | refine g_aload_nN C dX2_putByRank_39 rfl rfl ?_ | refine g_aload_nq C dX2_putByRank_39 rfl rfl ?_
      refine g_put C dX2_putByRank_40 hx1 rfl kw_X2 tyX2 tyX2_ok nmX2 4 (by decide) kfX2_29 rfl rfl rfl rfl (Nat.le_of_ble_eq_true rfl) ?_
      refine g_goto C 51 dX2_putByRank_43 (by decide) ?_
      refine g_vret C hr dX2_putByRank_51 (by decide) (by decide) ⟨rfl, va_up (fun i => (ti i).la) j r.head?, ?_, ?_⟩
      · have hch9 : ch = r := hpr
        subst hch9
        rw [hins]
        exact hM.first hj hjc
      · exact fr.up (fr.up fr.rf (Or.inr (Or.inr (Or.inr (Or.inr (Or.inr (Or.inr ⟨j, hj, rfl⟩))))))) (Or.inl rfl)
    · have hpr : ch = p1 ++ b :: r := by rw [hpr]; simp
      have hb : b < n := hch b (by rw [hpr]; simp)
      have hjb : j ≠ b := fun e => hjc (by rw [hpr, e]; simp)
      have hcb : h_up w (ad j) (cellT ad j (laT (ti j) r.head?)) (ad b) = some (cellT ad b (ti b)) := (h_up_n (fun e => hjb (tIn_inj hT hn hb hj e).symm)).trans (hT b hb)
      rw [last_app]
      first | refine g_aload_n C dX2_putByRank_29 rfl rfl ?_ | refine g_aload_nN C dX2_putByRank_29 rfl rfl ?_ | refine g_aload_nq C dX2_putByRank_29 rfl rfl ?_
      first | refine g_aload_n C dX2_putByRank_30 rfl rfl ?_ | refine g_aload_nN C dX2_putByRank_30 rfl rfl ?_ | refine g_aload_nq C dX2_putByRank_30 rfl rfl ?_
      refine g_put C dX2_putByRank_31 hcj rfl kw_X1 tyX1 tyX1_ok nmX1 9 (by decide) kfX2_95 rfl rfl (rf_nar _ _) (rf_fit _ _) (Nat.le_of_ble_eq_true rfl) ?_
      first | refine g_aload_n C dX2_putByRank_34 rfl rfl ?_ | refine g_aload_nN C dX2_putByRank_34 rfl rfl ?_ | refine g_aload_nq C dX2_putByRank_34 rfl rfl ?_
      refine g_ifnonnullR C 46 dX2_putByRank_35 (by decide) ?_
      first | refine g_aload_n C dX2_putByRank_46 rfl rfl ?_ | refine g_aload_nN C dX2_putByRank_46 rfl rfl ?_ | refine g_aload_nq C dX2_putByRank_46 rfl rfl ?_
      first | refine g_aload_n C dX2_putByRank_47 rfl rfl ?_ | refine g_aload_nN C dX2_putByRank_47 rfl rfl ?_ | refine g_aload_nq C dX2_putByRank_47 rfl rfl ?_
      refine g_put C dX2_putByRank_48 hcb rfl kw_X1 tyX1 tyX1_ok nmX1 9 (by decide) kfX2_95 rfl rfl rfl rfl (Nat.le_of_ble_eq_true rfl) ?_
      refine g_vret C hr dX2_putByRank_51 (by decide) (by decide) ⟨rfl, va_up (va_up (fun i => (ti i).la) j r.head?) b (some j), ?_, ?_⟩
      · rw [hins]
        have h9 := (hpr ▸ hM : TM G x tl rw ng cx un ad n ti (p1 ++ b :: r) rl gv f w).behind hj (by rw [← hpr]; exact hjc) (by rw [← hpr]; exact hnd)
        rw [List.append_assoc, List.singleton_append]
        exact h9
      · exact fr.up (fr.up fr.rf (Or.inr (Or.inr (Or.inr (Or.inr (Or.inr (Or.inr ⟨j, hj, rfl⟩))))))) (Or.inr (Or.inr (Or.inr (Or.inr (Or.inr (Or.inr ⟨b, hb, rfl⟩))))))
  refine g_null C dX2_putByRank_0 ?_
  first | refine g_astore_n C dX2_putByRank_1 rfl (by decide) ?_ | refine g_astore_nN C dX2_putByRank_1 rfl (by decide) ?_ | refine g_astore_nq C dX2_putByRank_1 rfl (by decide) ?_
  first | refine g_aload_n C dX2_putByRank_2 rfl rfl ?_ | refine g_aload_nN C dX2_putByRank_2 rfl rfl ?_ | refine g_aload_nq C dX2_putByRank_2 rfl rfl ?_
  refine g_get C dX2_putByRank_3 hx rfl kw_X2 4 (by decide) kfX2_29 rfl rfl ?_
  first | refine g_astore_n C dX2_putByRank_6 rfl (by decide) ?_ | refine g_astore_nN C dX2_putByRank_6 rfl (by decide) ?_ | refine g_astore_nq C dX2_putByRank_6 rfl (by decide) ?_
  refine g_loop (σ := List Nat × List Nat) (fun z => ch = z.1 ++ z.2 ∧ insR ti j ch = z.1 ++ insR ti j z.2) (fun z => z.2.length) (fun _ => w) (fun z => [(0, .ref x), (1, .ref (ad j)), (2, va_rf (z.1.getLast?.map ad)), (3, va_rf (z.2.head?.map ad))]) ?_ ([], ch) ⟨rfl, rfl⟩
  rintro ⟨pre, r⟩ ⟨hpr, hins⟩ ih
  dsimp only at hpr hins ih ⊢
  cases r with
  | nil =>
    first | refine g_aload_n C dX2_putByRank_7 rfl rfl ?_ | refine g_aload_nN C dX2_putByRank_7 rfl rfl ?_ | refine g_aload_nq C dX2_putByRank_7 rfl rfl ?_
    refine g_ifnullN C 29 dX2_putByRank_8 (by decide) ?_
    exact hfin pre [] hpr hins
  | cons i r =>
    have hi : i < n := hch i (by rw [hpr]; simp)
    have hc := hT i hi
    have hla : (ti i).la = r.head? := (lk_mid (by rw [← hpr]; exact hlk)).1
    first | refine g_aload_n C dX2_putByRank_7 rfl rfl ?_ | refine g_aload_nN C dX2_putByRank_7 rfl rfl ?_ | refine g_aload_nq C dX2_putByRank_7 rfl rfl ?_
    refine g_ifnullR C dX2_putByRank_8 ?_
    first | refine g_aload_n C dX2_putByRank_11 rfl rfl ?_ | refine g_aload_nN C dX2_putByRank_11 rfl rfl ?_ | refine g_aload_nq C dX2_putByRank_11 rfl rfl ?_
    first | refine g_aload_n C dX2_putByRank_12 rfl rfl ?_ | refine g_aload_nN C dX2_putByRank_12 rfl rfl ?_ | refine g_aload_nq C dX2_putByRank_12 rfl rfl ?_
    refine g_callVn C _ dX2_putByRank_13 (c_X1_isLaterThan l G _ _ _ _ _ _ _ _ _ _ _ _ _ _ _ _ _ _ _ _ _ _ _ _ _ hcj hc) kmX2_200 ki_X1_isLaterThan kv_X1_isLaterThan kn_X1 kc_X1_isLaterThan hy_X1_isLaterThan ⟨by decide, by decide⟩ hcj rfl rfl (Nat.le_of_ble_eq_true rfl) ⟨by decide, by decide⟩ (fun v w1 hp => ?_)
    obtain ⟨rfl, hw1⟩ := hp
    have hw1 := hw1.symm
    subst hw1
    refine g_if_eq C 29 dX2_putByRank_16 (by decide) (fun c16 => ?_) (fun c16 => ?_)
    · have c16 := bI_z.mp c16
      have hlt : ltT (ti j) (ti i) = false := c16
      exact hfin pre (i :: r) hpr (by rw [hins]; simp [insR, hlt])
    · have c16 := bI_nz.mp c16
      first | refine g_aload_n C dX2_putByRank_19 rfl rfl ?_ | refine g_aload_nN C dX2_putByRank_19 rfl rfl ?_ | refine g_aload_nq C dX2_putByRank_19 rfl rfl ?_
      first | refine g_astore_n C dX2_putByRank_20 rfl (by decide) ?_ | refine g_astore_nN C dX2_putByRank_20 rfl (by decide) ?_ | refine g_astore_nq C dX2_putByRank_20 rfl (by decide) ?_
      first | refine g_aload_n C dX2_putByRank_21 rfl rfl ?_ | refine g_aload_nN C dX2_putByRank_21 rfl rfl ?_ | refine g_aload_nq C dX2_putByRank_21 rfl rfl ?_
      refine g_get C dX2_putByRank_22 hc rfl kw_X1 9 (by decide) kfX2_95 rfl rfl ?_
      first | refine g_astore_n C dX2_putByRank_25 rfl (by decide) ?_ | refine g_astore_nN C dX2_putByRank_25 rfl (by decide) ?_ | refine g_astore_nq C dX2_putByRank_25 rfl (by decide) ?_
      refine g_goto C 7 dX2_putByRank_26 (by decide) ?_
      have hlt : ltT (ti j) (ti i) = true := c16
      have hs := ih (pre ++ [i], r) ⟨by rw [hpr]; simp, by rw [hins]; simp [insR, hlt]⟩ (Nat.lt_succ_self _)
      dsimp only at hs
      rw [← hla, last_app] at hs
      exact hs

/-- rows have no telling in common, none twice -/
def rowsOk (rl : Nat → List Nat) : Prop := (∀ t, t < 16 → (rl t).Nodup) ∧ ∀ t1 t2, t1 < 16 → t2 < 16 → t1 ≠ t2 → ∀ i ∈ rl t1, i ∉ rl t2
section PR
variable {G : hD} {x tl rw ng cx un : Nat} {ad : Nat → Nat} {n : Nat} {ti : Nat → TI} {ch : List Nat} {rl : Nat → List Nat} {gv : Nat → Nat} {f : Nat → Int32} {w : hW}
/-- put at a row's beginning -/
theorem TM.rfirst (h : TM G x tl rw ng cx un ad n ti ch rl gv f w) {j t : Nat} {rf : Nat → Option Nat} (ht : t < 16) (hj : j < n) (hjr : ∀ t, t < 16 → j ∉ rl t) (hrw : w rw = some (eT G 16 rf)) (hrf : ∀ t, t < 16 → rf t = (rl t).head?.map ad) : TM G x tl rw ng cx un ad n (fun i => neT (ti i) (va_up (fun i => (ti i).ne) j (rl t).head? i)) ch (va_up rl t (j :: rl t)) gv f (h_up (h_up w (ad j) (cellT ad j (neT (ti j) (rl t).head?))) rw (eT G 16 (va_up rf t (some (ad j))))) := by
  have ap := h.apart
  obtain ⟨b1, b2, b3, b4, b5, b6, b7, b8, b9, b10, b11⟩ := h.apart2
  obtain ⟨hx, ⟨tf, htl, htf⟩, -, ⟨gf, hng, hgf⟩, hcx, hun, hT, hn, hch, hlk, hrl⟩ := h
  have ngrw : ng ≠ rw := fun e => by rw [e, hrw] at hng; have h9 := Option.some.inj hng; simp at h9
  have unrw : un ≠ rw := fun e => by rw [e, hrw] at hun; have h9 := Option.some.inj hun; simp at h9
  have q := ap j hj
  refine ⟨by rw [h_up_n b2, h_up_n q.1]; exact hx, ⟨tf, by rw [h_up_n b6, h_up_n q.2.1]; exact htl, htf⟩, ⟨_, h_up_s _ _ _, fun t' ht' => ?_⟩, ⟨gf, by rw [h_up_n ngrw, h_up_n q.2.2.2.1]; exact hng, hgf⟩, by rw [h_up_n (Ne.symm b8), h_up_n q.2.2.2.2.1]; exact hcx, by rw [h_up_n unrw, h_up_n q.2.2.2.2.2]; exact hun, ?_, hn, hch, hlk, fun t' ht' => ?_⟩
  · by_cases e : t' = t
    · subst e; rw [va_up_self, va_up_self]; rfl
    · rw [va_up_ne _ _ e, va_up_ne _ _ e]; exact hrf t' ht'
  · refine tIn_off (tIn_eq (tIn_up hT hn hj _) (fun i hi => ?_)) (fun i hi => (ap i hi).2.2.1)
    by_cases hij : i = j
    · subst hij; rw [va_up_self, va_up_self]
    · rw [va_up_ne _ _ hij, va_up_ne _ _ hij]; rfl
  · by_cases e : t' = t
    · subst e
      rw [va_up_self]
      refine ⟨fun i hi => ?_, lk_ins0 (hrl t' ht').2 (hjr t' ht')⟩
      rcases List.mem_cons.mp hi with rfl | hi
      · exact hj
      · exact (hrl t' ht').1 i hi
    · rw [va_up_ne _ _ e]
      exact ⟨(hrl t' ht').1, lk_congr (hrl t' ht').2 (fun i hi => by
        show va_up (fun i => (ti i).ne) j (rl t).head? i = (ti i).ne
        rw [va_up_ne _ _ (fun z : i = j => hjr t' ht' (by rw [← z]; exact hi))])⟩
/-- put in a row behind another place -/
theorem TM.rbehind (h : TM G x tl rw ng cx un ad n ti ch rl gv f w) {j t b : Nat} {pre r : List Nat} (ht : t < 16) (hj : j < n) (hjr : ∀ t, t < 16 → j ∉ rl t) (hro : rowsOk rl) (hrow : rl t = pre ++ b :: r) : TM G x tl rw ng cx un ad n (fun i => neT (ti i) (va_up (va_up (fun i => (ti i).ne) j r.head?) b (some j) i)) ch (va_up rl t (pre ++ b :: j :: r)) gv f (h_up (h_up w (ad j) (cellT ad j (neT (ti j) r.head?))) (ad b) (cellT ad b (neT (ti b) (some j)))) := by
  have ap := h.apart
  obtain ⟨hx, ⟨tf, htl, htf⟩, ⟨rf, hrw, hrf⟩, ⟨gf, hng, hgf⟩, hcx, hun, hT, hn, hch, hlk, hrl⟩ := h
  have hbm : b ∈ rl t := by rw [hrow]; simp
  have hb : b < n := (hrl t ht).1 b hbm
  have hjt : j ∉ pre ++ b :: r := by rw [← hrow]; exact hjr t ht
  have q := ap j hj
  have q2 := ap b hb
  refine ⟨by rw [h_up_n q2.1, h_up_n q.1]; exact hx, ⟨tf, by rw [h_up_n q2.2.1, h_up_n q.2.1]; exact htl, htf⟩, ⟨rf, by rw [h_up_n q2.2.2.1, h_up_n q.2.2.1]; exact hrw, fun t' ht' => ?_⟩, ⟨gf, by rw [h_up_n q2.2.2.2.1, h_up_n q.2.2.2.1]; exact hng, hgf⟩, by rw [h_up_n q2.2.2.2.2.1, h_up_n q.2.2.2.2.1]; exact hcx, by rw [h_up_n q2.2.2.2.2.2, h_up_n q.2.2.2.2.2]; exact hun, ?_, hn, hch, hlk, fun t' ht' => ?_⟩
  · by_cases e : t' = t
    · subst e; rw [va_up_self, hd_app pre (j :: r) r, ← hrow]; exact hrf t' ht'
    · rw [va_up_ne _ _ e]; exact hrf t' ht'
  · refine tIn_eq (tIn_up (tIn_up hT hn hj _) hn hb _) (fun i hi => ?_)
    by_cases hib : i = b
    · subst hib; rw [va_up_self, va_up_self]
    · rw [va_up_ne _ _ hib, va_up_ne _ _ hib]
      by_cases hij : i = j
      · subst hij; rw [va_up_self, va_up_self]
      · rw [va_up_ne _ _ hij, va_up_ne _ _ hij]; rfl
  · by_cases e : t' = t
    · subst e
      rw [va_up_self]
      have h1 := hrl t' ht'
      rw [hrow] at h1
      refine ⟨fun i hi => ?_, by rw [hd_app pre (j :: r) r]; exact lk_ins1 h1.2 (by rw [← hrow]; exact hro.1 t' ht') hjt⟩
      rcases List.mem_append.mp hi with hi | hi
      · exact h1.1 i (by simp [hi])
      · rcases List.mem_cons.mp hi with rfl | hi
        · exact hb
        · rcases List.mem_cons.mp hi with rfl | hi
          · exact hj
          · exact h1.1 i (by simp [hi])
    · rw [va_up_ne _ _ e]
      exact ⟨(hrl t' ht').1, lk_congr (hrl t' ht').2 (fun i hi => by
        show va_up (va_up (fun i => (ti i).ne) j r.head?) b (some j) i = (ti i).ne
        rw [va_up_ne _ _ (fun z : i = b => hro.2 t t' ht ht' (Ne.symm e) b hbm (by rw [← z]; exact hi)), va_up_ne _ _ (fun z : i = j => hjr t' ht' (by rw [← z]; exact hi))])⟩
end PR

set_option maxHeartbeats 4000000 in
set_option maxRecDepth 100000 in
theorem c_X2_putInRow (l : Launch) (G : hD) (w : hW) (x tl rw ng cx un : Nat) (ad : Nat → Nat) (n : Nat) (ti : Nat → TI) (ch : List Nat) (rl : Nat → List Nat) (gv : Nat → Nat) (f : Nat → Int32) (hM : TM G x tl rw ng cx un ad n ti ch rl gv f w) (t : Nat) (pre0 r0 : List Nat) (j : Nat) (ht : t < 16) (hj : j < n) (hjr : ∀ t, t < 16 → j ∉ rl t) (hro : rowsOk rl) (hrow : rl t = pre0 ++ r0) : h_Met l yX2_putInRow (Cond.code yX2_putInRow cX2_putInRow 6 none) { frames := 1, cells := 0, slots := 0, locals := 21 } G [.ref x, .int (nI t), va_rf (pre0.getLast?.map ad), .ref (ad j)] w (fun v w' => v = none ∧ ∃ lf : Nat → Option Nat, TM G x tl rw ng cx un ad n (fun i => neT (ti i) (lf i)) ch (va_up rl t (pre0 ++ skR ti j r0)) gv f w' ∧ fr (CD x tl rw ng cx un ad n) w w') noX := by
  refine h_met RX2 rfl (by decide) (Nat.le_trans (Nat.le_of_eq (lg_len _ (cat_c (by first | rfl | exact rf_cat _) (cat_c (by first | rfl | exact rf_cat _) (cat_c (by first | rfl | exact rf_cat _) (cat_c (by first | rfl | exact rf_cat _) cat_n)))))) (Nat.le_of_ble_eq_true rfl)) (cat_c (by first | rfl | exact rf_cat _) (cat_c (by first | rfl | exact rf_cat _) (cat_c (by first | rfl | exact rf_cat _) (cat_c (by first | rfl | exact rf_cat _) cat_n)))) ?_
  intro p e s m below meth c A C hnt hr hnm
  obtain ⟨hx, ⟨tf, htl, htf⟩, ⟨rf, hrw, hrf⟩, ⟨gf, hng, hgf⟩, hcx, hun, hT, hn, hch, hlk, hrl⟩ := id hM
  have ap := hM.apart
  have hcj := hT j hj
  have hfin : ∀ (pre r : List Nat), rl t = pre ++ r → pre0 ++ skR ti j r0 = pre ++ j :: r → h_G p l e { frames := 1, cells := 0, slots := 0, locals := 21 } s m ([.ref x, .int (nI t), va_rf (pre0.getLast?.map ad), .ref (ad j)] : List Value).toArray below meth c G A 6 (h_Q G A (fun v w' => v = none ∧ ∃ lf : Nat → Option Nat, TM G x tl rw ng cx un ad n (fun i => neT (ti i) (lf i)) ch (va_up rl t (pre0 ++ skR ti j r0)) gv f w' ∧ fr (CD x tl rw ng cx un ad n) w w') noX w below ([.ref x, .int (nI t), va_rf (pre0.getLast?.map ad), .ref (ad j)] : List Value).toArray s 0 0) w 0 0 50 [(0, .ref x), (1, .int (nI t)), (2, va_rf (pre0.getLast?.map ad)), (3, .ref (ad j)), (4, va_rf (pre.getLast?.map ad)), (5, va_rf (r.head?.map ad))] [] := by
    intro pre r hpr hins
    have hx1 : h_up w (ad j) (cellT ad j (neT (ti j) r.head?)) x = some (cellX ad tl rw ng cx ch.head? n) := (h_up_n (ap j hj).1).trans hx
    have hrw1 : h_up w (ad j) (cellT ad j (neT (ti j) r.head?)) rw = some (eT G 16 rf) := (h_up_n (ap j hj).2.2.1).trans hrw
    rcases snoc pre with rfl | ⟨p1, b, rfl⟩
    · first | refine g_aload_n C dX2_putInRow_50 rfl rfl ?_ | refine g_aload_nN C dX2_putInRow_50 rfl rfl ?_ | refine g_aload_nq C dX2_putInRow_50 rfl rfl ?_
      first | refine g_aload C dX2_putInRow_51 rfl ?_ | refine g_aloadN C dX2_putInRow_51 rfl ?_ | refine g_aloadq C dX2_putInRow_51 rfl ?_
      refine g_put C dX2_putInRow_53 hcj rfl kw_X1 tyX1 tyX1_ok nmX1 10 (by decide) kfX2_203 rfl rfl (rf_nar _ _) (rf_fit _ _) (Nat.le_of_ble_eq_true rfl) ?_
      first | refine g_aload C dX2_putInRow_56 rfl ?_ | refine g_aloadN C dX2_putInRow_56 rfl ?_ | refine g_aloadq C dX2_putInRow_56 rfl ?_
      refine g_ifnonnullN C dX2_putInRow_58 ?_
      first | refine g_aload_n C dX2_putInRow_61 rfl rfl ?_ | refine g_aload_nN C dX2_putInRow_61 rfl rfl ?_ | refine g_aload_nq C dX2_putInRow_61 rfl rfl ?_
      refine g_get C dX2_putInRow_62 hx1 rfl kw_X2 1 (by decide) kfX2_15 rfl rfl ?_
      refine g_iload_n C dX2_putInRow_65 rfl rfl ?_
      first | refine g_aload_n C dX2_putInRow_66 rfl rfl ?_ | refine g_aload_nN C dX2_putInRow_66 rfl rfl ?_ | refine g_aload_nq C dX2_putInRow_66 rfl rfl ?_
      refine g_astq C dX2_putInRow_67 hrw1 (h_up_s _ _ _) rfl (vp_in_nI ht (by decide)) ?_
      rw [nI_clamp (by omega)]
      refine g_goto C 77 dX2_putInRow_68 (by decide) ?_
      refine g_vret C hr dX2_putInRow_77 (by decide) (by decide) ⟨rfl, va_up (fun i => (ti i).ne) j r.head?, ?_, ?_⟩
      · rw [hins]
        have hr9 : rl t = r := hpr
        subst hr9
        exact hM.rfirst ht hj hjr hrw hrf
      · exact fr.up (fr.up fr.rf (Or.inr (Or.inr (Or.inr (Or.inr (Or.inr (Or.inr ⟨j, hj, rfl⟩))))))) (Or.inr (Or.inr (Or.inl rfl)))
    · have hpr : rl t = p1 ++ b :: r := by rw [hpr]; simp
      have hb : b < n := (hrl t ht).1 b (by rw [hpr]; simp)
      have hjb : j ≠ b := fun e => hjr t ht (by rw [hpr, e]; simp)
      have hcb : h_up w (ad j) (cellT ad j (neT (ti j) r.head?)) (ad b) = some (cellT ad b (ti b)) := (h_up_n (fun e => hjb (tIn_inj hT hn hb hj e).symm)).trans (hT b hb)
      rw [last_app]
      first | refine g_aload_n C dX2_putInRow_50 rfl rfl ?_ | refine g_aload_nN C dX2_putInRow_50 rfl rfl ?_ | refine g_aload_nq C dX2_putInRow_50 rfl rfl ?_
      first | refine g_aload C dX2_putInRow_51 rfl ?_ | refine g_aloadN C dX2_putInRow_51 rfl ?_ | refine g_aloadq C dX2_putInRow_51 rfl ?_
      refine g_put C dX2_putInRow_53 hcj rfl kw_X1 tyX1 tyX1_ok nmX1 10 (by decide) kfX2_203 rfl rfl (rf_nar _ _) (rf_fit _ _) (Nat.le_of_ble_eq_true rfl) ?_
      first | refine g_aload C dX2_putInRow_56 rfl ?_ | refine g_aloadN C dX2_putInRow_56 rfl ?_ | refine g_aloadq C dX2_putInRow_56 rfl ?_
      refine g_ifnonnullR C 71 dX2_putInRow_58 (by decide) ?_
      first | refine g_aload C dX2_putInRow_71 rfl ?_ | refine g_aloadN C dX2_putInRow_71 rfl ?_ | refine g_aloadq C dX2_putInRow_71 rfl ?_
      first | refine g_aload_n C dX2_putInRow_73 rfl rfl ?_ | refine g_aload_nN C dX2_putInRow_73 rfl rfl ?_ | refine g_aload_nq C dX2_putInRow_73 rfl rfl ?_
      refine g_put C dX2_putInRow_74 hcb rfl kw_X1 tyX1 tyX1_ok nmX1 10 (by decide) kfX2_203 rfl rfl rfl rfl (Nat.le_of_ble_eq_true rfl) ?_
      refine g_vret C hr dX2_putInRow_77 (by decide) (by decide) ⟨rfl, va_up (va_up (fun i => (ti i).ne) j r.head?) b (some j), ?_, ?_⟩
      · rw [hins, List.append_assoc, List.singleton_append]
        exact hM.rbehind ht hj hjr hro hpr
      · exact fr.up (fr.up fr.rf (Or.inr (Or.inr (Or.inr (Or.inr (Or.inr (Or.inr ⟨j, hj, rfl⟩))))))) (Or.inr (Or.inr (Or.inr (Or.inr (Or.inr (Or.inr ⟨b, hb, rfl⟩))))))
  first | refine g_aload_n C dX2_putInRow_0 rfl rfl ?_ | refine g_aload_nN C dX2_putInRow_0 rfl rfl ?_ | refine g_aload_nq C dX2_putInRow_0 rfl rfl ?_
  first | refine g_astore C dX2_putInRow_1 (by decide) ?_ | refine g_astoreN C dX2_putInRow_1 (by decide) ?_ | refine g_astoreq C dX2_putInRow_1 (by decide) ?_
  first | refine g_aload_n C dX2_putInRow_3 rfl rfl ?_ | refine g_aload_nN C dX2_putInRow_3 rfl rfl ?_ | refine g_aload_nq C dX2_putInRow_3 rfl rfl ?_
  refine g_ifnonnull C 16 dX2_putInRow_4 (by decide) (fun a4 c4 => ?_) (fun c4 => ?_)
  · obtain ⟨p1, b, h0⟩ : ∃ p1 b, pre0 = p1 ++ [b] := last_some c4
    have hv0 : va_rf (pre0.getLast?.map ad) = .ref (ad b) := by rw [h0, last_app]; rfl
    have hr9 : rl t = p1 ++ b :: r0 := by rw [hrow, h0]; simp
    have hb : b < n := (hrl t ht).1 b (by rw [hr9]; simp)
    have hcb := hT b hb
    have hh0 : (ti b).ne = r0.head? := (lk_mid (by rw [← hr9]; exact (hrl t ht).2)).1
    first | refine g_aload_n C dX2_putInRow_16 rfl rfl ?_ | refine g_aload_nN C dX2_putInRow_16 rfl rfl ?_ | refine g_aload_nq C dX2_putInRow_16 rfl rfl ?_
    refine g_st (st1 := [.ref (ad b)]) (by rw [← hv0]) ?_
    refine g_get C dX2_putInRow_17 hcb rfl kw_X1 10 (by decide) kfX2_203 rfl rfl ?_
    first | refine g_astore C dX2_putInRow_20 (by decide) ?_ | refine g_astoreN C dX2_putInRow_20 (by decide) ?_ | refine g_astoreq C dX2_putInRow_20 (by decide) ?_
    rw [hh0]
    refine g_loop (σ := List Nat × List Nat) (fun z => rl t = z.1 ++ z.2 ∧ pre0 ++ skR ti j r0 = z.1 ++ skR ti j z.2) (fun z => z.2.length) (fun _ => w) (fun z => [(0, .ref x), (1, .int (nI t)), (2, va_rf (pre0.getLast?.map ad)), (3, .ref (ad j)), (4, va_rf (z.1.getLast?.map ad)), (5, va_rf (z.2.head?.map ad))]) ?_ (pre0, r0) ⟨hrow, rfl⟩
    rintro ⟨pre, r⟩ ⟨hpr, hins⟩ ih
    dsimp only at hpr hins ih ⊢
    cases r with
    | nil =>
      first | refine g_aload C dX2_putInRow_22 rfl ?_ | refine g_aloadN C dX2_putInRow_22 rfl ?_ | refine g_aloadq C dX2_putInRow_22 rfl ?_
      refine g_ifnullN C 50 dX2_putInRow_24 (by decide) ?_
      exact hfin pre [] hpr hins
    | cons i r =>
      have hi : i < n := (hrl t ht).1 i (by rw [hpr]; simp)
      have hc := hT i hi
      have hla : (ti i).ne = r.head? := (lk_mid (by rw [← hpr]; exact (hrl t ht).2)).1
      first | refine g_aload C dX2_putInRow_22 rfl ?_ | refine g_aloadN C dX2_putInRow_22 rfl ?_ | refine g_aloadq C dX2_putInRow_22 rfl ?_
      refine g_ifnullR C dX2_putInRow_24 ?_
      first | refine g_aload C dX2_putInRow_27 rfl ?_ | refine g_aloadN C dX2_putInRow_27 rfl ?_ | refine g_aloadq C dX2_putInRow_27 rfl ?_
      first | refine g_aload_n C dX2_putInRow_29 rfl rfl ?_ | refine g_aload_nN C dX2_putInRow_29 rfl rfl ?_ | refine g_aload_nq C dX2_putInRow_29 rfl rfl ?_
      refine g_callVn C _ dX2_putInRow_30 (c_X1_isLaterThan l G _ _ _ _ _ _ _ _ _ _ _ _ _ _ _ _ _ _ _ _ _ _ _ _ _ hc hcj) kmX2_200 ki_X1_isLaterThan kv_X1_isLaterThan kn_X1 kc_X1_isLaterThan hy_X1_isLaterThan ⟨by decide, by decide⟩ hc rfl rfl (Nat.le_of_ble_eq_true rfl) ⟨by decide, by decide⟩ (fun v w1 hp => ?_)
      obtain ⟨rfl, hw1⟩ := hp
      have hw1 := hw1.symm
      subst hw1
      refine g_if_eq C 50 dX2_putInRow_33 (by decide) (fun c33 => ?_) (fun c33 => ?_)
      · have c33 := bI_z.mp c33
        have hlt : ltT (ti i) (ti j) = false := c33
        exact hfin pre (i :: r) hpr (by rw [hins]; simp [skR, hlt])
      · have c33 := bI_nz.mp c33
        first | refine g_aload C dX2_putInRow_36 rfl ?_ | refine g_aloadN C dX2_putInRow_36 rfl ?_ | refine g_aloadq C dX2_putInRow_36 rfl ?_
        first | refine g_astore C dX2_putInRow_38 (by decide) ?_ | refine g_astoreN C dX2_putInRow_38 (by decide) ?_ | refine g_astoreq C dX2_putInRow_38 (by decide) ?_
        first | refine g_aload C dX2_putInRow_40 rfl ?_ | refine g_aloadN C dX2_putInRow_40 rfl ?_ | refine g_aloadq C dX2_putInRow_40 rfl ?_
        refine g_get C dX2_putInRow_42 hc rfl kw_X1 10 (by decide) kfX2_203 rfl rfl ?_
        first | refine g_astore C dX2_putInRow_45 (by decide) ?_ | refine g_astoreN C dX2_putInRow_45 (by decide) ?_ | refine g_astoreq C dX2_putInRow_45 (by decide) ?_
        refine g_goto C 22 dX2_putInRow_47 (by decide) ?_
        have hlt : ltT (ti i) (ti j) = true := c33
        have hs := ih (pre ++ [i], r) ⟨by rw [hpr]; simp, by rw [hins]; simp [skR, hlt]⟩ (Nat.lt_succ_self _)
        dsimp only at hs
        rw [← hla, last_app] at hs
        exact hs
  · have h0 : pre0 = [] := last_none c4
    have hh0 : rf t = r0.head?.map ad := by rw [hrf t ht, hrow, h0]; rfl
    first | refine g_aload_n C dX2_putInRow_7 rfl rfl ?_ | refine g_aload_nN C dX2_putInRow_7 rfl rfl ?_ | refine g_aload_nq C dX2_putInRow_7 rfl rfl ?_
    refine g_get C dX2_putInRow_8 hx rfl kw_X2 1 (by decide) kfX2_15 rfl rfl ?_
    refine g_iload_n C dX2_putInRow_11 rfl rfl ?_
    refine g_aldqN C dX2_putInRow_12 hrw ht (by decide) ?_
    refine g_goto C 20 dX2_putInRow_13 (by decide) ?_
    first | refine g_astore C dX2_putInRow_20 (by decide) ?_ | refine g_astoreN C dX2_putInRow_20 (by decide) ?_ | refine g_astoreq C dX2_putInRow_20 (by decide) ?_
    rw [hh0]
    refine g_loop (σ := List Nat × List Nat) (fun z => rl t = z.1 ++ z.2 ∧ pre0 ++ skR ti j r0 = z.1 ++ skR ti j z.2) (fun z => z.2.length) (fun _ => w) (fun z => [(0, .ref x), (1, .int (nI t)), (2, va_rf (pre0.getLast?.map ad)), (3, .ref (ad j)), (4, va_rf (z.1.getLast?.map ad)), (5, va_rf (z.2.head?.map ad))]) ?_ (pre0, r0) ⟨hrow, rfl⟩
    rintro ⟨pre, r⟩ ⟨hpr, hins⟩ ih
    dsimp only at hpr hins ih ⊢
    cases r with
    | nil =>
      first | refine g_aload C dX2_putInRow_22 rfl ?_ | refine g_aloadN C dX2_putInRow_22 rfl ?_ | refine g_aloadq C dX2_putInRow_22 rfl ?_
      refine g_ifnullN C 50 dX2_putInRow_24 (by decide) ?_
      exact hfin pre [] hpr hins
    | cons i r =>
      have hi : i < n := (hrl t ht).1 i (by rw [hpr]; simp)
      have hc := hT i hi
      have hla : (ti i).ne = r.head? := (lk_mid (by rw [← hpr]; exact (hrl t ht).2)).1
      first | refine g_aload C dX2_putInRow_22 rfl ?_ | refine g_aloadN C dX2_putInRow_22 rfl ?_ | refine g_aloadq C dX2_putInRow_22 rfl ?_
      refine g_ifnullR C dX2_putInRow_24 ?_
      first | refine g_aload C dX2_putInRow_27 rfl ?_ | refine g_aloadN C dX2_putInRow_27 rfl ?_ | refine g_aloadq C dX2_putInRow_27 rfl ?_
      first | refine g_aload_n C dX2_putInRow_29 rfl rfl ?_ | refine g_aload_nN C dX2_putInRow_29 rfl rfl ?_ | refine g_aload_nq C dX2_putInRow_29 rfl rfl ?_
      refine g_callVn C _ dX2_putInRow_30 (c_X1_isLaterThan l G _ _ _ _ _ _ _ _ _ _ _ _ _ _ _ _ _ _ _ _ _ _ _ _ _ hc hcj) kmX2_200 ki_X1_isLaterThan kv_X1_isLaterThan kn_X1 kc_X1_isLaterThan hy_X1_isLaterThan ⟨by decide, by decide⟩ hc rfl rfl (Nat.le_of_ble_eq_true rfl) ⟨by decide, by decide⟩ (fun v w1 hp => ?_)
      obtain ⟨rfl, hw1⟩ := hp
      have hw1 := hw1.symm
      subst hw1
      refine g_if_eq C 50 dX2_putInRow_33 (by decide) (fun c33 => ?_) (fun c33 => ?_)
      · have c33 := bI_z.mp c33
        have hlt : ltT (ti i) (ti j) = false := c33
        exact hfin pre (i :: r) hpr (by rw [hins]; simp [skR, hlt])
      · have c33 := bI_nz.mp c33
        first | refine g_aload C dX2_putInRow_36 rfl ?_ | refine g_aloadN C dX2_putInRow_36 rfl ?_ | refine g_aloadq C dX2_putInRow_36 rfl ?_
        first | refine g_astore C dX2_putInRow_38 (by decide) ?_ | refine g_astoreN C dX2_putInRow_38 (by decide) ?_ | refine g_astoreq C dX2_putInRow_38 (by decide) ?_
        first | refine g_aload C dX2_putInRow_40 rfl ?_ | refine g_aloadN C dX2_putInRow_40 rfl ?_ | refine g_aloadq C dX2_putInRow_40 rfl ?_
        refine g_get C dX2_putInRow_42 hc rfl kw_X1 10 (by decide) kfX2_203 rfl rfl ?_
        first | refine g_astore C dX2_putInRow_45 (by decide) ?_ | refine g_astoreN C dX2_putInRow_45 (by decide) ?_ | refine g_astoreq C dX2_putInRow_45 (by decide) ?_
        refine g_goto C 22 dX2_putInRow_47 (by decide) ?_
        have hlt : ltT (ti i) (ti j) = true := c33
        have hs := ih (pre ++ [i], r) ⟨by rw [hpr]; simp, by rw [hins]; simp [skR, hlt]⟩ (Nat.lt_succ_self _)
        dsimp only at hs
        rw [← hla, last_app] at hs
        exact hs
end
section
/-! ===== tellings are made ===== -/
def gsN (ti : Nat → TI) (d : Int32) (l : List Nat) : Nat → Nat := fun g => l.foldl (fun g i => cond (kb (ti i).kn d) (ti i).st g) g
theorem gsN_eq (ti : Nat → TI) (d : Int32) : ∀ (l : List Nat) (g : Nat), l.foldl (gsS ti d) (nI g) = nI (gsN ti d l g)
  | [], _ => rfl
  | i :: l, g => by
    show l.foldl (gsS ti d) (gsS ti d (nI g) i) = nI (gsN ti d l (cond (kb (ti i).kn d) (ti i).st g))
    rw [← gsN_eq ti d l]
    congr 1
    unfold gsS
    cases kb (ti i).kn d <;> rfl
/-- a fresh telling -/
def frT (d st so : Nat) (th : Int32) (va : Nat) : TI := (d, st, so, th, va, (1 : Int32) <<< (nI d &&& 31), 0, 0, none, none)
/-- links stay among the tellings -/
def lnkB (n : Nat) (ti : Nat → TI) : Prop := ∀ i, i < n → (∀ k, (ti i).la = some k → k < n) ∧ ∀ k, (ti i).ne = some k → k < n
theorem map_ad {ad : Nat → Nat} {n q : Nat} {o : Option Nat} (h : ∀ k, o = some k → k < n) : o.map (va_up ad n q) = o.map ad := by
  cases o with
  | none => rfl
  | some k => show some (va_up ad n q k) = some (ad k); rw [va_up_ne _ _ (fun e => absurd (h k rfl) (by omega))]
theorem cellT_ad {ad : Nat → Nat} {n q i : Nat} {t : TI} (h : (∀ k, t.la = some k → k < n) ∧ ∀ k, t.ne = some k → k < n) : cellT (va_up ad n q) i t = cellT ad i t := by
  show tC _ _ _ _ _ _ _ _ _ _ _ = tC _ _ _ _ _ _ _ _ _ _ _
  rw [map_ad h.1, map_ad h.2]
theorem hd_lt {l : List Nat} {n : Nat} (h : ∀ i ∈ l, i < n) : ∀ k, l.head? = some k → k < n := fun k hk => h k (by cases l with | nil => cases hk | cons i r => cases hk; exact List.mem_cons_self)
theorem TM.grow {G : hD} {x tl rw ng cx un : Nat} {ad : Nat → Nat} {n : Nat} {ti : Nat → TI} {ch : List Nat} {rl : Nat → List Nat} {gv : Nat → Nat} {f : Nat → Int32} {w : hW} (h : TM G x tl rw ng cx un ad n ti ch rl gv f w) (hn : n < 120) (hlb : lnkB n ti) {q : Nat} (hq : w q = none) (t : TI) {tf : Nat → Option Nat} (htl : w tl = some (eT G 120 tf)) (htf : ∀ i, i < n → tf i = some (ad i)) (htla : t.la = none) (htne : t.ne = none) :
    TM G x tl rw ng cx un (va_up ad n q) (n + 1) (va_up ti n t) ch rl gv f (h_up (h_up (h_up w q (cellT ad n t)) tl (eT G 120 (va_up tf n (some q)))) x (cellX ad tl rw ng cx ch.head? (n + 1))) := by
  have ap := h.apart
  obtain ⟨b1, b2, b3, b4, b5, b6, b7, b8, b9, b10, b11⟩ := h.apart2
  obtain ⟨hx, -, ⟨rf, hrw, hrf⟩, ⟨gf, hng, hgf⟩, hcx, hun, hT, -, hch, hlk, hrl⟩ := h
  have ngtl : ng ≠ tl := fun e => by rw [e, htl] at hng; have h9 := Option.some.inj hng; simp at h9
  have untl : un ≠ tl := fun e => by rw [e, htl] at hun; have h9 := Option.some.inj hun; simp at h9
  have nq : ∀ {b : Nat} {e : va_E}, w b = some e → b ≠ q := fun hb e => by rw [e, hq] at hb; cases hb
  refine ⟨?_, ⟨va_up tf n (some q), ?_, fun i hi => ?_⟩, ⟨rf, ?_, fun t' ht' => ?_⟩, ⟨gf, ?_, hgf⟩, ?_, ?_, fun i hi => ?_, hn, fun i hi => Nat.lt_succ_of_lt (hch i hi), ?_, fun t' ht' => ⟨fun i hi => Nat.lt_succ_of_lt ((hrl t' ht').1 i hi), ?_⟩⟩
  · rw [h_up_s]
    show some (cellX ad tl rw ng cx ch.head? (n + 1)) = some (cellX (va_up ad n q) tl rw ng cx ch.head? (n + 1))
    unfold cellX
    rw [map_ad (hd_lt hch)]
  · rw [h_up_n (Ne.symm b1), h_up_s]
  · by_cases e : i = n
    · subst e; rw [va_up_self, va_up_self]
    · rw [va_up_ne _ _ e, va_up_ne _ _ e]; exact htf i (by omega)
  · rw [h_up_n (Ne.symm b2), h_up_n (Ne.symm b6), h_up_n (nq hrw)]; exact hrw
  · rw [map_ad (hd_lt (hrl t' ht').1)]; exact hrf t' ht'
  · rw [h_up_n (Ne.symm b3), h_up_n ngtl, h_up_n (nq hng)]; exact hng
  · rw [h_up_n (Ne.symm b4), h_up_n (Ne.symm b7), h_up_n (nq hcx)]; exact hcx
  · rw [h_up_n (Ne.symm b5), h_up_n untl, h_up_n (nq hun)]; exact hun
  · by_cases e : i = n
    · subst e
      rw [va_up_self, va_up_self, h_up_n (Ne.symm (nq hx)), h_up_n (Ne.symm (nq htl)), h_up_s, cellT_ad (t := t) ⟨fun k hk => (by rw [htla] at hk; cases hk), fun k hk => (by rw [htne] at hk; cases hk)⟩]
    · have hi' : i < n := by omega
      rw [va_up_ne _ _ e, va_up_ne _ _ e, h_up_n (Ne.symm (ap i hi').1), h_up_n (Ne.symm (ap i hi').2.1), h_up_n (nq (hT i hi')), cellT_ad (hlb i hi')]
      exact hT i hi'
  · exact lk_congr hlk (fun i hi => by rw [va_up_ne _ _ (fun e => absurd (hch i hi) (by omega))])
  · exact lk_congr (hrl t' ht').2 (fun i hi => by rw [va_up_ne _ _ (fun e => absurd ((hrl t' ht').1 i hi) (by omega))])
/-- behind the making of a telling -/
def EN (G : hD) (x tl rw ng cx un : Nat) (ad : Nat → Nat) (n : Nat) (ti : Nat → TI) (ch : List Nat) (rl : Nat → List Nat) (gv : Nat → Nat) (f : Nat → Int32) (w : hW) (t : TI) (q : Nat) (lf : Nat → Option Nat) (w' : hW) : Prop :=
  w q = none ∧ TM G x tl rw ng cx un (va_up ad n q) (n + 1) (fun i => laT (va_up ti n t i) (lf i)) (insR (va_up ti n t) n ch) rl gv f w' ∧ fr (CD x tl rw ng cx un ad n) w w'
def exc3 (P1 P2 P3 : Prop) (E : String) : Prop := (E = nNS ∧ ¬ P1) ∨ (E = nIA ∧ P1 ∧ ¬ P2) ∨ (E = nIS ∧ P1 ∧ P2 ∧ ¬ P3)
theorem insR_mem {ti : Nat → TI} {j : Nat} : ∀ {l : List Nat} {i : Nat}, i ∈ insR ti j l ↔ i = j ∨ i ∈ l
  | [], i => by simp [insR]
  | k :: l, i => by
    unfold insR
    cases ltT (ti j) (ti k)
    · simp
    · simp only [cond_true, List.mem_cons, insR_mem (l := l)]
      constructor
      · rintro (h | h | h)
        · exact Or.inr (Or.inl h)
        · exact Or.inl h
        · exact Or.inr (Or.inr h)
      · rintro (h | h | h)
        · exact Or.inr (Or.inl h)
        · exact Or.inl h
        · exact Or.inr (Or.inr h)

set_option maxHeartbeats 4000000 in
set_option maxRecDepth 100000 in
theorem c_X2_enter (l : Launch) (G : hD) (w : hW) (x tl rw ng cx un : Nat) (ad : Nat → Nat) (n : Nat) (ti : Nat → TI) (ch : List Nat) (rl : Nat → List Nat) (gv : Nat → Nat) (f : Nat → Int32) (hM : TM G x tl rw ng cx un ad n ti ch rl gv f w) (d so va : Nat) (th : Int32) (hlb : lnkB n ti) (hnd : ch.Nodup) : h_Met l yX2_enter (Cond.code yX2_enter cX2_enter 6 (some (.object "TrenchMerge$Telling"))) { frames := 6, cells := 1, slots := 11, locals := 82 } G [.ref x, .int (nI d), .int (nI so), .int th, .int (nI va)] w (fun v w' => n < 120 ∧ ∃ q lf, v = some (.ref q) ∧ EN G x tl rw ng cx un ad n ti ch rl gv f w (frT d (gsN ti (nI d) ch 0 + 1) so th va) q lf w') (fun E => E = nIS ∧ ¬ n < 120) := by
  refine h_met RX2 rfl (by decide) (Nat.le_of_ble_eq_true rfl) (cat_c (by first | rfl | exact rf_cat _) (cat_c (by first | rfl | exact rf_cat _) (cat_c (by first | rfl | exact rf_cat _) (cat_c (by first | rfl | exact rf_cat _) (cat_c (by first | rfl | exact rf_cat _) cat_n))))) ?_
  intro p e s m below meth c A C hnt hr hnm
  obtain ⟨hx, ⟨tf, htl, htf⟩, ⟨rf, hrw, hrf⟩, ⟨gf, hng, hgf⟩, hcx, hun, hT, hn, hch, hlk, hrl⟩ := id hM
  obtain ⟨b1, b2, b3, b4, b5, b6, b7, b8, b9, b10, b11⟩ := hM.apart2
  have hdefT : ∀ j, j < 11 → defaultValue (tyX1 j) = vp_V [.int 0, .int 0, .int 0, .int 0, .int 0, .int 0, .int 0, .int 0, .int 0, .null, .null] j := by decide +kernel
  first | refine g_aload_n C dX2_enter_0 rfl rfl ?_ | refine g_aload_nN C dX2_enter_0 rfl rfl ?_ | refine g_aload_nq C dX2_enter_0 rfl rfl ?_
  refine g_get C dX2_enter_1 hx rfl kw_X2 5 (by decide) kfX2_33 rfl rfl ?_
  refine g_bipush C (v := 120) dX2_enter_4 (by decide) ?_
  refine g_icmp_lt C 19 dX2_enter_6 (by decide) (fun c6 => ?_) (fun c6 => ?_)
  · have c6 : n < 120 := (nI_ltI (b := 120) (by omega) (by decide)).mp c6
    refine g_new C (ci := 1) (fs := [.int 0, .int 0, .int 0, .int 0, .int 0, .int 0, .int 0, .int 0, .int 0, .null, .null]) dX2_enter_19 rfl kw_X1 tyX1 tyX1_ok klX2_9 kt_X1 kn_X1 hdefT (by decide) (by decide) (fun q hq => ?_)
    have nq : ∀ {b : Nat} {e : va_E}, w b = some e → b ≠ q := fun hb e => by rw [e, hq] at hb; cases hb
    have hx1 : h_up w q (eO 1 [.int 0, .int 0, .int 0, .int 0, .int 0, .int 0, .int 0, .int 0, .int 0, .null, .null]) x = some (cellX ad tl rw ng cx ch.head? n) := (h_up_n (nq hx)).trans hx
    have hT1 : tIn (h_up w q (eO 1 [.int 0, .int 0, .int 0, .int 0, .int 0, .int 0, .int 0, .int 0, .int 0, .null, .null])) ad n ti := fun i hi => (h_up_n (nq (hT i hi))).trans (hT i hi)
    refine g_dup C dX2_enter_22 rfl ?_
    first | refine g_aload_n C dX2_enter_23 rfl rfl ?_ | refine g_aload_nN C dX2_enter_23 rfl rfl ?_ | refine g_aload_nq C dX2_enter_23 rfl rfl ?_
    refine g_get C dX2_enter_24 hx1 rfl kw_X2 5 (by decide) kfX2_33 rfl rfl ?_
    refine g_iload_n C dX2_enter_27 rfl rfl ?_
    first | refine g_aload_n C dX2_enter_28 rfl rfl ?_ | refine g_aload_nN C dX2_enter_28 rfl rfl ?_ | refine g_aload_nq C dX2_enter_28 rfl rfl ?_
    refine g_iload_n C dX2_enter_29 rfl rfl ?_
    refine g_callVn C _ dX2_enter_30 (c_X2_greatestStamp l G _ _ _ _ _ _ _ _ _ _ _ hx1 hT1 hch hlk _) kmX2_184 ki_X2_greatestStamp kv_X2_greatestStamp kn_X2 kc_X2_greatestStamp hy_X2_greatestStamp ⟨by decide, by decide⟩ hx1 rfl rfl (Nat.le_of_ble_eq_true rfl) ⟨by decide, by decide⟩ (fun v w1 hp => ?_)
    obtain ⟨rfl, hw1⟩ := hp
    have hw1 := hw1.symm
    subst hw1
    rw [show (0 : Int32) = nI 0 from rfl, gsN_eq]
    refine g_iconst C (v := 1) dX2_enter_33 (by decide) ?_
    refine g_iadd C dX2_enter_34 ?_
    refine g_eq (y := nI (gsN ti (nI d) ch 0 + 1)) (nI_1 _) ?_
    refine g_iload_n C dX2_enter_35 rfl rfl ?_
    refine g_iload_n C dX2_enter_36 rfl rfl ?_
    refine g_iload C dX2_enter_37 rfl ?_
    refine g_callI C _ dX2_enter_39 (c_X1_init l G _ _ 0 0 0 0 0 0 0 0 0 none none _ _ _ _ _ _ (h_up_s _ _ _)) kmX2_188 ki_X1_init kn_X1 kc_X1_init rfl hy_X1_init ⟨by decide, by decide⟩ rfl (Nat.le_of_ble_eq_true rfl) ⟨by decide, by decide⟩ (fun v w1 hp => ?_)
    obtain ⟨rfl, rfl⟩ := hp
    rw [h_up_up]
    have hx2 : h_up w q (cellT ad n (frT d (gsN ti (nI d) ch 0 + 1) so th va)) x = some (cellX ad tl rw ng cx ch.head? n) := (h_up_n (nq hx)).trans hx
    have htl2 : h_up w q (cellT ad n (frT d (gsN ti (nI d) ch 0 + 1) so th va)) tl = some (eT G 120 tf) := (h_up_n (nq htl)).trans htl
    first | refine g_astore C dX2_enter_42 (by decide) ?_ | refine g_astoreN C dX2_enter_42 (by decide) ?_ | refine g_astoreq C dX2_enter_42 (by decide) ?_
    first | refine g_aload_n C dX2_enter_44 rfl rfl ?_ | refine g_aload_nN C dX2_enter_44 rfl rfl ?_ | refine g_aload_nq C dX2_enter_44 rfl rfl ?_
    refine g_get C dX2_enter_45 hx2 rfl kw_X2 0 (by decide) kfX2_11 rfl rfl ?_
    first | refine g_aload_n C dX2_enter_48 rfl rfl ?_ | refine g_aload_nN C dX2_enter_48 rfl rfl ?_ | refine g_aload_nq C dX2_enter_48 rfl rfl ?_
    refine g_get C dX2_enter_49 hx2 rfl kw_X2 5 (by decide) kfX2_33 rfl rfl ?_
    first | refine g_aload C dX2_enter_52 rfl ?_ | refine g_aloadN C dX2_enter_52 rfl ?_ | refine g_aloadq C dX2_enter_52 rfl ?_
    refine g_astq C dX2_enter_54 htl2 (h_up_s _ _ _) rfl (vp_in_nI c6 (by decide)) ?_
    rw [nI_clamp (by omega)]
    have hx3 : h_up (h_up w q (cellT ad n (frT d (gsN ti (nI d) ch 0 + 1) so th va))) tl (eT G 120 (va_up tf n (some q))) x = some (cellX ad tl rw ng cx ch.head? n) := (h_up_n b1).trans hx2
    first | refine g_aload_n C dX2_enter_55 rfl rfl ?_ | refine g_aload_nN C dX2_enter_55 rfl rfl ?_ | refine g_aload_nq C dX2_enter_55 rfl rfl ?_
    refine g_dup C dX2_enter_56 rfl ?_
    refine g_get C dX2_enter_57 hx3 rfl kw_X2 5 (by decide) kfX2_33 rfl rfl ?_
    refine g_iconst C (v := 1) dX2_enter_60 (by decide) ?_
    refine g_iadd C dX2_enter_61 ?_
    refine g_eq (y := nI (n + 1)) (nI_1 n) ?_
    refine g_put C dX2_enter_62 hx3 rfl kw_X2 tyX2 tyX2_ok nmX2 5 (by decide) kfX2_33 rfl rfl rfl rfl (Nat.le_of_ble_eq_true rfl) ?_
    have hM2 := hM.grow c6 hlb hq (frT d (gsN ti (nI d) ch 0 + 1) so th va) htl htf rfl rfl
    have hPB := c_X2_putByRank l G _ _ _ _ _ _ _ (va_up ad n q) _ _ _ _ _ _ hM2 n (Nat.lt_succ_self n) (fun hh => absurd (hch n hh) (Nat.lt_irrefl n)) hnd
    rw [va_up_self] at hPB
    first | refine g_aload_n C dX2_enter_65 rfl rfl ?_ | refine g_aload_nN C dX2_enter_65 rfl rfl ?_ | refine g_aload_nq C dX2_enter_65 rfl rfl ?_
    first | refine g_aload C dX2_enter_66 rfl ?_ | refine g_aloadN C dX2_enter_66 rfl ?_ | refine g_aloadq C dX2_enter_66 rfl ?_
    refine g_callVn C _ dX2_enter_68 (hPB) kmX2_191 ki_X2_putByRank kv_X2_putByRank kn_X2 kc_X2_putByRank hy_X2_putByRank ⟨by decide, by decide⟩ hM2.1 rfl rfl (Nat.le_of_ble_eq_true rfl) ⟨by decide, by decide⟩ (fun v w1 hp => ?_)
    obtain ⟨rfl, lf, hM3, hfr⟩ := hp
    first | refine g_aload C dX2_enter_71 rfl ?_ | refine g_aloadN C dX2_enter_71 rfl ?_ | refine g_aloadq C dX2_enter_71 rfl ?_
    exact g_aret C (r := some q) hr dX2_enter_73 (by decide) (by decide) ⟨c6, q, lf, rfl, hq, hM3, (fun z e hz hw => hfr z e (fun hcd => by
          rcases hcd with h9 | h9 | h9 | h9 | h9 | h9 | ⟨i, hi, h9⟩
          · exact hz (Or.inl h9)
          · exact hz (Or.inr (Or.inl h9))
          · exact hz (Or.inr (Or.inr (Or.inl h9)))
          · exact hz (Or.inr (Or.inr (Or.inr (Or.inl h9))))
          · exact hz (Or.inr (Or.inr (Or.inr (Or.inr (Or.inl h9)))))
          · exact hz (Or.inr (Or.inr (Or.inr (Or.inr (Or.inr (Or.inl h9))))))
          · by_cases hin : i = n
            · subst hin; rw [va_up_self] at h9; exact nq hw h9
            · rw [va_up_ne _ _ hin] at h9; exact hz (Or.inr (Or.inr (Or.inr (Or.inr (Or.inr (Or.inr ⟨i, by omega, h9⟩))))))) ((fr.up (fr.up (fr.new fr.rf hq) (Or.inr (Or.inl rfl))) (Or.inl rfl) : fr (CD x tl rw ng cx un ad n) w _) z e hz hw))⟩
  · have c6 : ¬ n < 120 := mt (nI_ltI (a := n) (b := 120) (by omega) (by decide)).mpr c6
    exact g_throw C hnt rfl dX2_enter_9 dX2_enter_12 dX2_enter_13 dX2_enter_15 dX2_enter_18 (by decide +kernel) klX2_98 kn_IllegalStateException (List.mem_of_getElem? (i := 4) rfl) ht_IS1 ht_IS2 ht_IS3 (by decide) (by decide) (by decide) (by decide) (by decide) (by decide) (⟨rfl, c6⟩) rfl

def vOk (fl v : Int32) : Prop := ¬ v < 0 ∧ v < (if fl = 2 then 32 else 1000)
theorem nI_of9 {v : Int32} (h : ¬ v < 0) : ∃ j : Nat, v = nI j := by obtain ⟨j, -, rfl⟩ := nI_of h; exact ⟨j, rfl⟩
set_option maxHeartbeats 4000000 in
set_option maxRecDepth 100000 in
theorem c_X2_tell (l : Launch) (G : hD) (w : hW) (x tl rw ng cx un : Nat) (ad : Nat → Nat) (n : Nat) (ti : Nat → TI) (ch : List Nat) (rl : Nat → List Nat) (gv : Nat → Nat) (f : Nat → Int32) (hM : TM G x tl rw ng cx un ad n ti ch rl gv f w) (hlb : lnkB n ti) (hnd : ch.Nodup) (d th fl v : Int32) : h_Met l yX2_tell (Cond.code yX2_tell cX2_tell 5 (some .int)) { frames := 7, cells := 5, slots := 35, locals := 108 } G [.ref x, .int d, .int th, .int fl, .int v] w (fun r w' => okD d ∧ okT th ∧ (¬ fl < 0 ∧ ¬ 2 < fl) ∧ vOk fl v ∧ n < 120 ∧ r = some (.int (nI n)) ∧ ∃ d' t' fl' v', d' < 6 ∧ t' < 16 ∧ d = nI d' ∧ th = nI t' ∧ fl = nI fl' ∧ v = nI v' ∧ ∃ q lf, EN G x tl rw ng cx un ad n ti ch rl gv f w (frT d' (gsN ti (nI d') ch 0 + 1) fl' (nI t') v') q lf w') (exc3 (okD d ∧ okT th ∧ (¬ fl < 0 ∧ ¬ 2 < fl)) (vOk fl v) (n < 120)) := by
  refine h_met RX2 rfl (by decide) (Nat.le_of_ble_eq_true rfl) (cat_c (by first | rfl | exact rf_cat _) (cat_c (by first | rfl | exact rf_cat _) (cat_c (by first | rfl | exact rf_cat _) (cat_c (by first | rfl | exact rf_cat _) (cat_c (by first | rfl | exact rf_cat _) cat_n))))) ?_
  intro p e s m below meth c A C hnt hr hnm
  obtain ⟨hx, ⟨tf, htl, htf⟩, ⟨rf, hrw, hrf⟩, ⟨gf, hng, hgf⟩, hcx, hun, hT, hn, hch, hlk, hrl⟩ := id hM
  refine g_iload_n C dX2_tell_0 rfl rfl ?_
  refine g_callS C hnt _ dX2_tell_1 (c_X2_requireDesk l G _ _) kmX2_37 ks_X2_requireDesk kn_X2 kc_X2_requireDesk hy_X2_requireDesk ⟨by decide, by decide⟩ rfl (Nat.le_of_ble_eq_true rfl) ⟨by decide, by decide⟩ ⟨by decide, by decide⟩ (fun E hE => ⟨Or.inl ⟨hE.1, fun h => hE.2 h.1⟩, rfl⟩) (fun v w1 hp => ?_)
  obtain ⟨rfl, hw1, hok0⟩ := hp
  have hw1 := hw1.symm
  subst hw1
  refine g_iload_n C dX2_tell_4 rfl rfl ?_
  refine g_callS C hnt _ dX2_tell_5 (c_X2_requireThing l G _ _) kmX2_41 ks_X2_requireThing kn_X2 kc_X2_requireThing hy_X2_requireThing ⟨by decide, by decide⟩ rfl (Nat.le_of_ble_eq_true rfl) ⟨by decide, by decide⟩ ⟨by decide, by decide⟩ (fun E hE => ⟨Or.inl ⟨hE.1, fun h => hE.2 h.2.1⟩, rfl⟩) (fun v w1 hp => ?_)
  obtain ⟨rfl, hw1, hok1⟩ := hp
  have hw1 := hw1.symm
  subst hw1
  refine g_iload_n C dX2_tell_8 rfl rfl ?_
  refine g_iconst C (v := 2) dX2_tell_9 (by decide) ?_
  refine g_callS C hnt _ dX2_tell_10 (c_X2_requireField l G _ _ _) kmX2_44 ks_X2_requireField kn_X2 kc_X2_requireField hy_X2_requireField ⟨by decide, by decide⟩ rfl (Nat.le_of_ble_eq_true rfl) ⟨by decide, by decide⟩ ⟨by decide, by decide⟩ (fun E hE => ⟨Or.inl ⟨hE.1, fun h => hE.2 h.2.2⟩, rfl⟩) (fun v w1 hp => ?_)
  obtain ⟨rfl, hw1, hok2⟩ := hp
  have hw1 := hw1.symm
  subst hw1
  refine g_iload C dX2_tell_13 rfl ?_
  refine g_iload_n C dX2_tell_15 rfl rfl ?_
  refine g_iconst C (v := 2) dX2_tell_16 (by decide) ?_
  refine g_icmp_ne C 25 dX2_tell_17 (by decide) (fun c17 => ?_) (fun c17 => ?_)
  · refine g_sipush C (v := 1000) dX2_tell_25 (by decide) ?_
    have c17 : ¬ fl = 2 := c17
    refine g_callS C hnt _ dX2_tell_28 (c_X2_requireValue l G _ _ _) kmX2_48 ks_X2_requireValue kn_X2 kc_X2_requireValue hy_X2_requireValue ⟨by decide, by decide⟩ rfl (Nat.le_of_ble_eq_true rfl) ⟨by decide, by decide⟩ ⟨by decide, by decide⟩ (fun E hE => ⟨Or.inr (Or.inl ⟨hE.1, ⟨hok0, hok1, hok2⟩, fun h => hE.2 (by rw [vOk, if_neg c17] at h; exact h)⟩), rfl⟩) (fun v w1 hp => ?_)
    obtain ⟨rfl, hw1, hok3⟩ := hp
    have hw1 := hw1.symm
    subst hw1
    have hok3 : vOk fl v := by rw [vOk, if_neg c17]; exact hok3
    obtain ⟨d', hd', rfl⟩ := ok_nI (N := 6) (by decide) hok0.1 hok0.2
    obtain ⟨t', ht', rfl⟩ := ok_nI (N := 16) (by decide) hok1.1 hok1.2
    obtain ⟨fl', rfl⟩ := nI_of9 hok2.1
    obtain ⟨v', rfl⟩ := nI_of9 hok3.1
    first | refine g_aload_n C dX2_tell_31 rfl rfl ?_ | refine g_aload_nN C dX2_tell_31 rfl rfl ?_ | refine g_aload_nq C dX2_tell_31 rfl rfl ?_
    refine g_iload_n C dX2_tell_32 rfl rfl ?_
    refine g_iload_n C dX2_tell_33 rfl rfl ?_
    refine g_iload_n C dX2_tell_34 rfl rfl ?_
    refine g_iload C dX2_tell_35 rfl ?_
    refine g_callV C hnt _ dX2_tell_37 (c_X2_enter l G _ _ _ _ _ _ _ _ _ _ _ _ _ _ hM d' fl' v' (nI t') hlb hnd) kmX2_51 ki_X2_enter kv_X2_enter kn_X2 kc_X2_enter hy_X2_enter ⟨by decide, by decide⟩ hx rfl rfl (Nat.le_of_ble_eq_true rfl) ⟨by decide, by decide⟩ ⟨by decide, by decide⟩ (fun E hE => ⟨Or.inr (Or.inr ⟨hE.1, ⟨hok0, hok1, hok2⟩, hok3, hE.2⟩), rfl⟩) (fun v w1 hp => ?_)
    obtain ⟨hn9, q, lf, rfl, hq, hM3, hfr⟩ := hp
    have hcq : w1 q = some (cellT (va_up ad n q) n (laT (va_up ti n (frT d' (gsN ti (nI d') ch 0 + 1) fl' (nI t') v') n) (lf n))) := by have h9 := hM3.2.2.2.2.2.2.1 n (Nat.lt_succ_self n); rw [va_up_self] at h9; exact h9
    refine g_get C dX2_tell_40 hcq rfl kw_X1 0 (by decide) kfX2_55 rfl rfl ?_
    exact g_iret C hr dX2_tell_43 (by decide) (by decide) ⟨hok0, hok1, hok2, hok3, hn9, rfl, d', t', fl', v', hd', ht', rfl, rfl, rfl, rfl, q, lf, hq, hM3, hfr⟩
  · refine g_bipush C (v := 32) dX2_tell_20 (by decide) ?_
    refine g_goto C 28 dX2_tell_22 (by decide) ?_
    have c17 : fl = 2 := c17
    refine g_callS C hnt _ dX2_tell_28 (c_X2_requireValue l G _ _ _) kmX2_48 ks_X2_requireValue kn_X2 kc_X2_requireValue hy_X2_requireValue ⟨by decide, by decide⟩ rfl (Nat.le_of_ble_eq_true rfl) ⟨by decide, by decide⟩ ⟨by decide, by decide⟩ (fun E hE => ⟨Or.inr (Or.inl ⟨hE.1, ⟨hok0, hok1, hok2⟩, fun h => hE.2 (by rw [vOk, if_pos c17] at h; exact h)⟩), rfl⟩) (fun v w1 hp => ?_)
    obtain ⟨rfl, hw1, hok3⟩ := hp
    have hw1 := hw1.symm
    subst hw1
    have hok3 : vOk fl v := by rw [vOk, if_pos c17]; exact hok3
    obtain ⟨d', hd', rfl⟩ := ok_nI (N := 6) (by decide) hok0.1 hok0.2
    obtain ⟨t', ht', rfl⟩ := ok_nI (N := 16) (by decide) hok1.1 hok1.2
    obtain ⟨fl', rfl⟩ := nI_of9 hok2.1
    obtain ⟨v', rfl⟩ := nI_of9 hok3.1
    first | refine g_aload_n C dX2_tell_31 rfl rfl ?_ | refine g_aload_nN C dX2_tell_31 rfl rfl ?_ | refine g_aload_nq C dX2_tell_31 rfl rfl ?_
    refine g_iload_n C dX2_tell_32 rfl rfl ?_
    refine g_iload_n C dX2_tell_33 rfl rfl ?_
    refine g_iload_n C dX2_tell_34 rfl rfl ?_
    refine g_iload C dX2_tell_35 rfl ?_
    refine g_callV C hnt _ dX2_tell_37 (c_X2_enter l G _ _ _ _ _ _ _ _ _ _ _ _ _ _ hM d' fl' v' (nI t') hlb hnd) kmX2_51 ki_X2_enter kv_X2_enter kn_X2 kc_X2_enter hy_X2_enter ⟨by decide, by decide⟩ hx rfl rfl (Nat.le_of_ble_eq_true rfl) ⟨by decide, by decide⟩ ⟨by decide, by decide⟩ (fun E hE => ⟨Or.inr (Or.inr ⟨hE.1, ⟨hok0, hok1, hok2⟩, hok3, hE.2⟩), rfl⟩) (fun v w1 hp => ?_)
    obtain ⟨hn9, q, lf, rfl, hq, hM3, hfr⟩ := hp
    have hcq : w1 q = some (cellT (va_up ad n q) n (laT (va_up ti n (frT d' (gsN ti (nI d') ch 0 + 1) fl' (nI t') v') n) (lf n))) := by have h9 := hM3.2.2.2.2.2.2.1 n (Nat.lt_succ_self n); rw [va_up_self] at h9; exact h9
    refine g_get C dX2_tell_40 hcq rfl kw_X1 0 (by decide) kfX2_55 rfl rfl ?_
    exact g_iret C hr dX2_tell_43 (by decide) (by decide) ⟨hok0, hok1, hok2, hok3, hn9, rfl, d', t', fl', v', hd', ht', rfl, rfl, rfl, rfl, q, lf, hq, hM3, hfr⟩

set_option maxHeartbeats 4000000 in
set_option maxRecDepth 100000 in
theorem c_X2_relate (l : Launch) (G : hD) (w : hW) (x tl rw ng cx un : Nat) (ad : Nat → Nat) (n : Nat) (ti : Nat → TI) (ch : List Nat) (rl : Nat → List Nat) (gv : Nat → Nat) (f : Nat → Int32) (hM : TM G x tl rw ng cx un ad n ti ch rl gv f w) (hlb : lnkB n ti) (hnd : ch.Nodup) (d p9 q9 : Int32) : h_Met l yX2_relate (Cond.code yX2_relate cX2_relate 4 (some .int)) { frames := 7, cells := 4, slots := 29, locals := 107 } G [.ref x, .int d, .int p9, .int q9] w (fun r w' => okD d ∧ okT p9 ∧ okT q9 ∧ ¬ p9 = q9 ∧ n < 120 ∧ r = some (.int (nI n)) ∧ ∃ d' a' b', d' < 6 ∧ a' < 16 ∧ b' < 16 ∧ d = nI d' ∧ p9 = nI a' ∧ q9 = nI b' ∧ ∃ q lf, EN G x tl rw ng cx un ad n ti ch rl gv f w (frT d' (gsN ti (nI d') ch 0 + 1) 5 (-1) (16 * a' + b')) q lf w') (exc3 (okD d ∧ okT p9 ∧ okT q9) (¬ p9 = q9) (n < 120)) := by
  refine h_met RX2 rfl (by decide) (Nat.le_of_ble_eq_true rfl) (cat_c (by first | rfl | exact rf_cat _) (cat_c (by first | rfl | exact rf_cat _) (cat_c (by first | rfl | exact rf_cat _) (cat_c (by first | rfl | exact rf_cat _) cat_n)))) ?_
  intro p e s m below meth c A C hnt hr hnm
  obtain ⟨hx, ⟨tf, htl, htf⟩, ⟨rf, hrw, hrf⟩, ⟨gf, hng, hgf⟩, hcx, hun, hT, hn, hch, hlk, hrl⟩ := id hM
  refine g_iload_n C dX2_relate_0 rfl rfl ?_
  refine g_callS C hnt _ dX2_relate_1 (c_X2_requireDesk l G _ _) kmX2_37 ks_X2_requireDesk kn_X2 kc_X2_requireDesk hy_X2_requireDesk ⟨by decide, by decide⟩ rfl (Nat.le_of_ble_eq_true rfl) ⟨by decide, by decide⟩ ⟨by decide, by decide⟩ (fun E hE => ⟨Or.inl ⟨hE.1, fun h => hE.2 h.1⟩, rfl⟩) (fun v w1 hp => ?_)
  obtain ⟨rfl, hw1, hok0⟩ := hp
  have hw1 := hw1.symm
  subst hw1
  refine g_iload_n C dX2_relate_4 rfl rfl ?_
  refine g_callS C hnt _ dX2_relate_5 (c_X2_requireContext l G _ _) kmX2_83 ks_X2_requireContext kn_X2 kc_X2_requireContext hy_X2_requireContext ⟨by decide, by decide⟩ rfl (Nat.le_of_ble_eq_true rfl) ⟨by decide, by decide⟩ ⟨by decide, by decide⟩ (fun E hE => ⟨Or.inl ⟨hE.1, fun h => hE.2 h.2.1⟩, rfl⟩) (fun v w1 hp => ?_)
  obtain ⟨rfl, hw1, hok1⟩ := hp
  have hw1 := hw1.symm
  subst hw1
  refine g_iload_n C dX2_relate_8 rfl rfl ?_
  refine g_callS C hnt _ dX2_relate_9 (c_X2_requireContext l G _ _) kmX2_83 ks_X2_requireContext kn_X2 kc_X2_requireContext hy_X2_requireContext ⟨by decide, by decide⟩ rfl (Nat.le_of_ble_eq_true rfl) ⟨by decide, by decide⟩ ⟨by decide, by decide⟩ (fun E hE => ⟨Or.inl ⟨hE.1, fun h => hE.2 h.2.2⟩, rfl⟩) (fun v w1 hp => ?_)
  obtain ⟨rfl, hw1, hok2⟩ := hp
  have hw1 := hw1.symm
  subst hw1
  refine g_iload_n C dX2_relate_12 rfl rfl ?_
  refine g_iload_n C dX2_relate_13 rfl rfl ?_
  refine g_icmp_ne C 27 dX2_relate_14 (by decide) (fun c14 => ?_) (fun c14 => ?_)
  · obtain ⟨d', hd', rfl⟩ := ok_nI (N := 6) (by decide) hok0.1 hok0.2
    obtain ⟨a', ha', rfl⟩ := ok_nI (N := 16) (by decide) hok1.1 hok1.2
    obtain ⟨b', hb', rfl⟩ := ok_nI (N := 16) (by decide) hok2.1 hok2.2
    first | refine g_aload_n C dX2_relate_27 rfl rfl ?_ | refine g_aload_nN C dX2_relate_27 rfl rfl ?_ | refine g_aload_nq C dX2_relate_27 rfl rfl ?_
    refine g_iload_n C dX2_relate_28 rfl rfl ?_
    refine g_iconst C (v := 5) dX2_relate_29 (by decide) ?_
    refine g_iconst C (v := (-1)) dX2_relate_30 (by decide) ?_
    refine g_bipush C (v := 16) dX2_relate_31 (by decide) ?_
    refine g_iload_n C dX2_relate_33 rfl rfl ?_
    refine g_imul C dX2_relate_34 ?_
    refine g_iload_n C dX2_relate_35 rfl rfl ?_
    refine g_iadd C dX2_relate_36 ?_
    refine g_eq (y := nI (16 * a' + b')) (by rw [show (16 : Int32) = nI 16 from rfl, pk_mul, nI_add]) ?_
    refine g_callV C hnt _ dX2_relate_37 (c_X2_enter l G _ _ _ _ _ _ _ _ _ _ _ _ _ _ hM d' 5 (16 * a' + b') (-1) hlb hnd) kmX2_51 ki_X2_enter kv_X2_enter kn_X2 kc_X2_enter hy_X2_enter ⟨by decide, by decide⟩ hx rfl rfl (Nat.le_of_ble_eq_true rfl) ⟨by decide, by decide⟩ ⟨by decide, by decide⟩ (fun E hE => ⟨Or.inr (Or.inr ⟨hE.1, ⟨hok0, hok1, hok2⟩, c14, hE.2⟩), rfl⟩) (fun v w1 hp => ?_)
    obtain ⟨hn9, q, lf, rfl, hq, hM3, hfr⟩ := hp
    have hcq : w1 q = some (cellT (va_up ad n q) n (laT (va_up ti n (frT d' (gsN ti (nI d') ch 0 + 1) 5 (-1) (16 * a' + b')) n) (lf n))) := by have h9 := hM3.2.2.2.2.2.2.1 n (Nat.lt_succ_self n); rw [va_up_self] at h9; exact h9
    refine g_get C dX2_relate_40 hcq rfl kw_X1 0 (by decide) kfX2_55 rfl rfl ?_
    exact g_iret C hr dX2_relate_43 (by decide) (by decide) ⟨hok0, hok1, hok2, c14, hn9, rfl, d', a', b', hd', ha', hb', rfl, rfl, rfl, q, lf, hq, hM3, hfr⟩
  · exact g_throw C hnt rfl dX2_relate_17 dX2_relate_20 dX2_relate_21 dX2_relate_23 dX2_relate_26 (by decide +kernel) klX2_68 kn_IllegalArgumentException (List.mem_of_getElem? (i := 10) rfl) ht_IA1 ht_IA2 ht_IA3 (by decide) (by decide) (by decide) (by decide) (by decide) (by decide) (Or.inr (Or.inl ⟨rfl, ⟨hok0, hok1, hok2⟩, fun h => h c14⟩)) rfl
end
section
/-! ===== ends, places, the new object ===== -/
def enT (t : TI) (d : Int32) : TI := (t.dk, t.st, t.so, t.th, t.va, t.kn, kor t.en d, t.op, t.la, t.ne)
/-- the tellings with a fresh one -/
def T3 (ti : Nat → TI) (n : Nat) (t : TI) (lf : Nat → Option Nat) : Nat → TI := fun i => laT (va_up ti n t i) (lf i)

set_option maxHeartbeats 4000000 in
set_option maxRecDepth 100000 in
theorem c_X2_end (l : Launch) (G : hD) (w : hW) (x tl rw ng cx un : Nat) (ad : Nat → Nat) (n : Nat) (ti : Nat → TI) (ch : List Nat) (rl : Nat → List Nat) (gv : Nat → Nat) (f : Nat → Int32) (hM : TM G x tl rw ng cx un ad n ti ch rl gv f w) (hlb : lnkB n ti) (hnd : ch.Nodup) (hso : ∀ i, i < n → (ti i).so ≤ 6) (d t : Int32) (s1 s2 : Nat) (hs1 : s1 ≤ 6) : h_Met l yX2_end (Cond.code yX2_end cX2_end 7 (some .int)) { frames := 8, cells := 4, slots := 35, locals := 127 } G [.ref x, .int d, .int t, .int (nI s1), .int (nI s2)] w (fun r w' => okD d ∧ ∃ j d', j < n ∧ d' < 6 ∧ t = nI j ∧ d = nI d' ∧ kb (ti j).kn d = true ∧ (ti j).so = s1 ∧ n < 120 ∧ r = some (.int (nI n)) ∧ ∃ q lf, w q = none ∧ TM G x tl rw ng cx un (va_up ad n q) (n + 1) (va_up (T3 ti n (frT d' (gsN ti (nI d') ch 0 + 1) s2 (-1) j) lf) j (enT (T3 ti n (frT d' (gsN ti (nI d') ch 0 + 1) s2 (-1) j) lf j) (nI d'))) (insR (va_up ti n (frT d' (gsN ti (nI d') ch 0 + 1) s2 (-1) j)) n ch) rl gv f w' ∧ fr (CD x tl rw ng cx un ad n) w w') (exc3 (okD d ∧ isK ti n d t) (∀ j, t = nI j → j < n → (ti j).so = s1) (n < 120)) := by
  refine h_met RX2 rfl (by decide) (Nat.le_of_ble_eq_true rfl) (cat_c (by first | rfl | exact rf_cat _) (cat_c (by first | rfl | exact rf_cat _) (cat_c (by first | rfl | exact rf_cat _) (cat_c (by first | rfl | exact rf_cat _) (cat_c (by first | rfl | exact rf_cat _) cat_n))))) ?_
  intro p e s m below meth c A C hnt hr hnm
  obtain ⟨hx, ⟨tf, htl, htf⟩, ⟨rf, hrw, hrf⟩, ⟨gf, hng, hgf⟩, hcx, hun, hT, hn, hch, hlk, hrl⟩ := id hM
  refine g_iload_n C dX2_end_0 rfl rfl ?_
  refine g_callS C hnt _ dX2_end_1 (c_X2_requireDesk l G _ _) kmX2_37 ks_X2_requireDesk kn_X2 kc_X2_requireDesk hy_X2_requireDesk ⟨by decide, by decide⟩ rfl (Nat.le_of_ble_eq_true rfl) ⟨by decide, by decide⟩ ⟨by decide, by decide⟩ (fun E hE => ⟨Or.inl ⟨hE.1, fun h => hE.2 h.1⟩, rfl⟩) (fun v w1 hp => ?_)
  obtain ⟨rfl, hw1, hok0⟩ := hp
  have hw1 := hw1.symm
  subst hw1
  first | refine g_aload_n C dX2_end_4 rfl rfl ?_ | refine g_aload_nN C dX2_end_4 rfl rfl ?_ | refine g_aload_nq C dX2_end_4 rfl rfl ?_
  refine g_iload_n C dX2_end_5 rfl rfl ?_
  refine g_iload_n C dX2_end_6 rfl rfl ?_
  refine g_callV C hnt _ dX2_end_7 (c_X2_findKnown l G _ _ _ _ _ _ _ _ _ _ _ _ _ _ hM _ _) kmX2_58 ki_X2_findKnown kv_X2_findKnown kn_X2 kc_X2_findKnown hy_X2_findKnown ⟨by decide, by decide⟩ hx rfl rfl (Nat.le_of_ble_eq_true rfl) ⟨by decide, by decide⟩ ⟨by decide, by decide⟩ (fun E hE => ⟨Or.inl ⟨hE.1, fun h => hE.2 h.2⟩, rfl⟩) (fun v w1 hp => ?_)
  obtain ⟨j, hj, rfl, hkj, rfl, hw1⟩ := hp
  have hw1 := hw1.symm
  subst hw1
  have hc := hT j hj
  first | refine g_astore C dX2_end_10 (by decide) ?_ | refine g_astoreN C dX2_end_10 (by decide) ?_ | refine g_astoreq C dX2_end_10 (by decide) ?_
  first | refine g_aload C dX2_end_12 rfl ?_ | refine g_aloadN C dX2_end_12 rfl ?_ | refine g_aloadq C dX2_end_12 rfl ?_
  refine g_get C dX2_end_14 hc rfl kw_X1 3 (by decide) kfX2_62 rfl rfl ?_
  refine g_iload_n C dX2_end_17 rfl rfl ?_
  refine g_icmp_eq C 31 dX2_end_18 (by decide) (fun c18 => ?_) (fun c18 => ?_)
  · have c18 := (nI_eq (by have := hso j hj; omega) (by omega)).mp c18
    have hso9 : ∀ k, nI j = nI k → k < n → (ti k).so = s1 := fun k hk hkn => by rw [← (nI_eq (by omega) (by omega)).mp hk]; exact c18
    obtain ⟨d', hd', rfl⟩ := ok_nI (N := 6) (by decide) hok0.1 hok0.2
    first | refine g_aload_n C dX2_end_31 rfl rfl ?_ | refine g_aload_nN C dX2_end_31 rfl rfl ?_ | refine g_aload_nq C dX2_end_31 rfl rfl ?_
    refine g_iload_n C dX2_end_32 rfl rfl ?_
    refine g_iload C dX2_end_33 rfl ?_
    refine g_iconst C (v := (-1)) dX2_end_35 (by decide) ?_
    first | refine g_aload C dX2_end_36 rfl ?_ | refine g_aloadN C dX2_end_36 rfl ?_ | refine g_aloadq C dX2_end_36 rfl ?_
    refine g_get C dX2_end_38 hc rfl kw_X1 0 (by decide) kfX2_55 rfl rfl ?_
    refine g_callV C hnt _ dX2_end_41 (c_X2_enter l G _ _ _ _ _ _ _ _ _ _ _ _ _ _ hM d' s2 j (-1) hlb hnd) kmX2_51 ki_X2_enter kv_X2_enter kn_X2 kc_X2_enter hy_X2_enter ⟨by decide, by decide⟩ hx rfl rfl (Nat.le_of_ble_eq_true rfl) ⟨by decide, by decide⟩ ⟨by decide, by decide⟩ (fun E hE => ⟨Or.inr (Or.inr ⟨hE.1, ⟨hok0, ⟨j, hj, rfl, hkj⟩⟩, hso9, hE.2⟩), rfl⟩) (fun v w1 hp => ?_)
    obtain ⟨hn9, q, lf, rfl, hq, hM3, hfr⟩ := hp
    have hcq : w1 q = some (cellT (va_up ad n q) n (laT (va_up ti n (frT d' (gsN ti (nI d') ch 0 + 1) s2 (-1) j) n) (lf n))) := by have h9 := hM3.2.2.2.2.2.2.1 n (Nat.lt_succ_self n); rw [va_up_self] at h9; exact h9
    have hjn : j ≠ n := fun e => absurd hj (by omega)
    have hcj : w1 (ad j) = some (cellT (va_up ad n q) j (T3 ti n (frT d' (gsN ti (nI d') ch 0 + 1) s2 (-1) j) lf j)) := by have h9 := hM3.2.2.2.2.2.2.1 j (Nat.lt_succ_of_lt hj); rw [va_up_ne _ _ hjn] at h9; exact h9
    first | refine g_astore C dX2_end_44 (by decide) ?_ | refine g_astoreN C dX2_end_44 (by decide) ?_ | refine g_astoreq C dX2_end_44 (by decide) ?_
    first | refine g_aload C dX2_end_46 rfl ?_ | refine g_aloadN C dX2_end_46 rfl ?_ | refine g_aloadq C dX2_end_46 rfl ?_
    refine g_iload_n C dX2_end_48 rfl rfl ?_
    refine g_callVn C _ dX2_end_49 (c_X1_endAt l G _ _ _ _ _ _ _ _ _ _ _ _ _ _ hcj) kmX2_197 ki_X1_endAt kv_X1_endAt kn_X1 kc_X1_endAt hy_X1_endAt ⟨by decide, by decide⟩ hcj rfl rfl (Nat.le_of_ble_eq_true rfl) ⟨by decide, by decide⟩ (fun v w1 hp => ?_)
    obtain ⟨rfl, rfl⟩ := hp
    have hqj : q ≠ ad j := fun e => by have h9 := hT j hj; rw [← e, hq] at h9; cases h9
    have hcq2 := (h_up_n (w := w1) (a := ad j) (e := cellT (va_up ad n q) j (enT (T3 ti n (frT d' (gsN ti (nI d') ch 0 + 1) s2 (-1) j) lf j) (nI d'))) hqj).trans hcq
    have hT9 : tIn (h_up w1 (ad j) (cellT (va_up ad n q) j (enT (T3 ti n (frT d' (gsN ti (nI d') ch 0 + 1) s2 (-1) j) lf j) (nI d')))) (va_up ad n q) (n + 1) (va_up (T3 ti n (frT d' (gsN ti (nI d') ch 0 + 1) s2 (-1) j) lf) j (enT (T3 ti n (frT d' (gsN ti (nI d') ch 0 + 1) s2 (-1) j) lf j) (nI d'))) := by have h9 := tIn_up (i := j) hM3.2.2.2.2.2.2.1 (by omega) (Nat.lt_succ_of_lt hj) (enT (T3 ti n (frT d' (gsN ti (nI d') ch 0 + 1) s2 (-1) j) lf j) (nI d')); rw [va_up_ne _ _ hjn] at h9; exact h9
    have hM4 := hM3.chg0 hT9 (fun z hz => h_up_n (by have h9 := hz j (Nat.lt_succ_of_lt hj); rw [va_up_ne _ _ hjn] at h9; exact h9)) (fun i hi => by by_cases e : i = j <;> first | (rw [va_up_ne _ _ e]; rfl) | (rw [e, va_up_self]; rfl)) (fun i hi => by by_cases e : i = j <;> first | (rw [va_up_ne _ _ e]; rfl) | (rw [e, va_up_self]; rfl))
    first | refine g_aload C dX2_end_52 rfl ?_ | refine g_aloadN C dX2_end_52 rfl ?_ | refine g_aloadq C dX2_end_52 rfl ?_
    refine g_get C dX2_end_54 hcq2 rfl kw_X1 0 (by decide) kfX2_55 rfl rfl ?_
    exact g_iret C hr dX2_end_57 (by decide) (by decide) ⟨hok0, j, d', hj, hd', rfl, rfl, hkj, c18, hn9, rfl, q, lf, hq, hM4, fr.up hfr (Or.inr (Or.inr (Or.inr (Or.inr (Or.inr (Or.inr ⟨j, hj, rfl⟩))))))⟩
  · have c18 := mt (nI_eq (a := (ti j).so) (b := s1) (by have := hso j hj; omega) (by omega)).mpr c18
    exact g_throw C hnt rfl dX2_end_21 dX2_end_24 dX2_end_25 dX2_end_27 dX2_end_30 (by decide +kernel) klX2_68 kn_IllegalArgumentException (List.mem_of_getElem? (i := 8) rfl) ht_IA1 ht_IA2 ht_IA3 (by decide) (by decide) (by decide) (by decide) (by decide) (by decide) (Or.inr (Or.inl ⟨rfl, ⟨hok0, ⟨j, hj, rfl, hkj⟩⟩, fun h => c18 (h j rfl hj)⟩)) rfl

set_option maxHeartbeats 4000000 in
set_option maxRecDepth 100000 in
theorem c_X2_remove (l : Launch) (G : hD) (w : hW) (x tl rw ng cx un : Nat) (ad : Nat → Nat) (n : Nat) (ti : Nat → TI) (ch : List Nat) (rl : Nat → List Nat) (gv : Nat → Nat) (f : Nat → Int32) (hM : TM G x tl rw ng cx un ad n ti ch rl gv f w) (hlb : lnkB n ti) (hnd : ch.Nodup) (hso : ∀ i, i < n → (ti i).so ≤ 6) (d t : Int32) : h_Met l yX2_remove (Cond.code yX2_remove cX2_remove 3 (some .int)) { frames := 9, cells := 4, slots := 35, locals := 153 } G [.ref x, .int d, .int t] w (fun r w' => okD d ∧ ∃ j d', j < n ∧ d' < 6 ∧ t = nI j ∧ d = nI d' ∧ kb (ti j).kn d = true ∧ (ti j).so = 3 ∧ n < 120 ∧ r = some (.int (nI n)) ∧ ∃ q lf, w q = none ∧ TM G x tl rw ng cx un (va_up ad n q) (n + 1) (va_up (T3 ti n (frT d' (gsN ti (nI d') ch 0 + 1) 4 (-1) j) lf) j (enT (T3 ti n (frT d' (gsN ti (nI d') ch 0 + 1) 4 (-1) j) lf j) (nI d'))) (insR (va_up ti n (frT d' (gsN ti (nI d') ch 0 + 1) 4 (-1) j)) n ch) rl gv f w' ∧ fr (CD x tl rw ng cx un ad n) w w') (exc3 (okD d ∧ isK ti n d t) (∀ j, t = nI j → j < n → (ti j).so = 3) (n < 120)) := by
  refine h_met RX2 rfl (by decide) (Nat.le_of_ble_eq_true rfl) (cat_c (by first | rfl | exact rf_cat _) (cat_c (by first | rfl | exact rf_cat _) (cat_c (by first | rfl | exact rf_cat _) cat_n))) ?_
  intro p e s m below meth c A C hnt hr hnm
  obtain ⟨hx, ⟨tf, htl, htf⟩, ⟨rf, hrw, hrf⟩, ⟨gf, hng, hgf⟩, hcx, hun, hT, hn, hch, hlk, hrl⟩ := id hM
  first | refine g_aload_n C dX2_remove_0 rfl rfl ?_ | refine g_aload_nN C dX2_remove_0 rfl rfl ?_ | refine g_aload_nq C dX2_remove_0 rfl rfl ?_
  refine g_iload_n C dX2_remove_1 rfl rfl ?_
  refine g_iload_n C dX2_remove_2 rfl rfl ?_
  refine g_iconst C (v := 3) dX2_remove_3 (by decide) ?_
  refine g_iconst C (v := 4) dX2_remove_4 (by decide) ?_
  refine g_callV C hnt _ dX2_remove_5 (c_X2_end l G _ _ _ _ _ _ _ _ _ _ _ _ _ _ hM hlb hnd hso _ _ 3 4 (by decide)) kmX2_79 ki_X2_end kv_X2_end kn_X2 kc_X2_end hy_X2_end ⟨by decide, by decide⟩ hx rfl rfl (Nat.le_of_ble_eq_true rfl) ⟨by decide, by decide⟩ ⟨by decide, by decide⟩ (fun E hE => ⟨hE, rfl⟩) (fun v w1 hp => ?_)
  obtain ⟨hp0, j, d', hj, hd', rfl, rfl, hkj, hs9, hn9, rfl, hrest⟩ := hp
  exact g_iret C hr dX2_remove_8 (by decide) (by decide) ⟨hp0, j, d', hj, hd', rfl, rfl, hkj, hs9, hn9, rfl, hrest⟩

set_option maxHeartbeats 4000000 in
set_option maxRecDepth 100000 in
theorem c_X2_drop (l : Launch) (G : hD) (w : hW) (x tl rw ng cx un : Nat) (ad : Nat → Nat) (n : Nat) (ti : Nat → TI) (ch : List Nat) (rl : Nat → List Nat) (gv : Nat → Nat) (f : Nat → Int32) (hM : TM G x tl rw ng cx un ad n ti ch rl gv f w) (hlb : lnkB n ti) (hnd : ch.Nodup) (hso : ∀ i, i < n → (ti i).so ≤ 6) (d t : Int32) : h_Met l yX2_drop (Cond.code yX2_drop cX2_drop 3 (some .int)) { frames := 9, cells := 4, slots := 35, locals := 153 } G [.ref x, .int d, .int t] w (fun r w' => okD d ∧ ∃ j d', j < n ∧ d' < 6 ∧ t = nI j ∧ d = nI d' ∧ kb (ti j).kn d = true ∧ (ti j).so = 5 ∧ n < 120 ∧ r = some (.int (nI n)) ∧ ∃ q lf, w q = none ∧ TM G x tl rw ng cx un (va_up ad n q) (n + 1) (va_up (T3 ti n (frT d' (gsN ti (nI d') ch 0 + 1) 6 (-1) j) lf) j (enT (T3 ti n (frT d' (gsN ti (nI d') ch 0 + 1) 6 (-1) j) lf j) (nI d'))) (insR (va_up ti n (frT d' (gsN ti (nI d') ch 0 + 1) 6 (-1) j)) n ch) rl gv f w' ∧ fr (CD x tl rw ng cx un ad n) w w') (exc3 (okD d ∧ isK ti n d t) (∀ j, t = nI j → j < n → (ti j).so = 5) (n < 120)) := by
  refine h_met RX2 rfl (by decide) (Nat.le_of_ble_eq_true rfl) (cat_c (by first | rfl | exact rf_cat _) (cat_c (by first | rfl | exact rf_cat _) (cat_c (by first | rfl | exact rf_cat _) cat_n))) ?_
  intro p e s m below meth c A C hnt hr hnm
  obtain ⟨hx, ⟨tf, htl, htf⟩, ⟨rf, hrw, hrf⟩, ⟨gf, hng, hgf⟩, hcx, hun, hT, hn, hch, hlk, hrl⟩ := id hM
  first | refine g_aload_n C dX2_drop_0 rfl rfl ?_ | refine g_aload_nN C dX2_drop_0 rfl rfl ?_ | refine g_aload_nq C dX2_drop_0 rfl rfl ?_
  refine g_iload_n C dX2_drop_1 rfl rfl ?_
  refine g_iload_n C dX2_drop_2 rfl rfl ?_
  refine g_iconst C (v := 5) dX2_drop_3 (by decide) ?_
  refine g_bipush C (v := 6) dX2_drop_4 (by decide) ?_
  refine g_callV C hnt _ dX2_drop_6 (c_X2_end l G _ _ _ _ _ _ _ _ _ _ _ _ _ _ hM hlb hnd hso _ _ 5 6 (by decide)) kmX2_79 ki_X2_end kv_X2_end kn_X2 kc_X2_end hy_X2_end ⟨by decide, by decide⟩ hx rfl rfl (Nat.le_of_ble_eq_true rfl) ⟨by decide, by decide⟩ ⟨by decide, by decide⟩ (fun E hE => ⟨hE, rfl⟩) (fun v w1 hp => ?_)
  obtain ⟨hp0, j, d', hj, hd', rfl, rfl, hkj, hs9, hn9, rfl, hrest⟩ := hp
  exact g_iret C hr dX2_drop_9 (by decide) (by decide) ⟨hp0, j, d', hj, hd', rfl, rfl, hkj, hs9, hn9, rfl, hrest⟩

set_option maxHeartbeats 4000000 in
set_option maxRecDepth 100000 in
theorem c_X2_insert (l : Launch) (G : hD) (w : hW) (x tl rw ng cx un : Nat) (ad : Nat → Nat) (n : Nat) (ti : Nat → TI) (ch : List Nat) (rl : Nat → List Nat) (gv : Nat → Nat) (f : Nat → Int32) (hM : TM G x tl rw ng cx un ad n ti ch rl gv f w) (hlb : lnkB n ti) (hnd : ch.Nodup) (hso : ∀ i, i < n → (ti i).so ≤ 6) (hro : rowsOk rl) (hpl : ∀ i, i < n → (ti i).so = 3 → ∀ t, t < 16 → (ti i).th = nI t → i ∈ rl t) (d th be v : Int32) : h_Met l yX2_insert (Cond.code yX2_insert cX2_insert 7 (some .int)) { frames := 8, cells := 6, slots := 41, locals := 127 } G [.ref x, .int d, .int th, .int be, .int v] w (fun r w' => (okD d ∧ okT th ∧ (be = -1 ∨ isK ti n d be)) ∧ ((be = -1 ∨ ∀ j, be = nI j → j < n → (ti j).so = 3 ∧ (ti j).th = th) ∧ ¬ v < 0 ∧ v < 1000) ∧ n < 120 ∧ r = some (.int (nI n)) ∧ ∃ d' t' v', d' < 6 ∧ t' < 16 ∧ d = nI d' ∧ th = nI t' ∧ v = nI v' ∧ ∃ (q : Nat) (lf lf2 : Nat → Option Nat) (pre0 r0 : List Nat), w q = none ∧ rl t' = pre0 ++ r0 ∧ ((be = -1 ∧ pre0 = []) ∨ ∃ b p1, b < n ∧ be = nI b ∧ kb (ti b).kn d = true ∧ pre0 = p1 ++ [b]) ∧ TM G x tl rw ng cx un (va_up ad n q) (n + 1) (fun i => neT (T3 ti n (frT d' (gsN ti (nI d') ch 0 + 1) 3 (nI t') v') lf i) (lf2 i)) (insR (va_up ti n (frT d' (gsN ti (nI d') ch 0 + 1) 3 (nI t') v')) n ch) (va_up rl t' (pre0 ++ skR (T3 ti n (frT d' (gsN ti (nI d') ch 0 + 1) 3 (nI t') v') lf) n r0)) gv f w' ∧ fr (CD x tl rw ng cx un ad n) w w') (exc3 (okD d ∧ okT th ∧ (be = -1 ∨ isK ti n d be)) ((be = -1 ∨ ∀ j, be = nI j → j < n → (ti j).so = 3 ∧ (ti j).th = th) ∧ ¬ v < 0 ∧ v < 1000) (n < 120)) := by
  refine h_met RX2 rfl (by decide) (Nat.le_of_ble_eq_true rfl) (cat_c (by first | rfl | exact rf_cat _) (cat_c (by first | rfl | exact rf_cat _) (cat_c (by first | rfl | exact rf_cat _) (cat_c (by first | rfl | exact rf_cat _) (cat_c (by first | rfl | exact rf_cat _) cat_n))))) ?_
  intro p e s m below meth c A C hnt hr hnm
  obtain ⟨hx, ⟨tf, htl, htf⟩, ⟨rf, hrw, hrf⟩, ⟨gf, hng, hgf⟩, hcx, hun, hT, hn, hch, hlk, hrl⟩ := id hM
  refine g_iload_n C dX2_insert_0 rfl rfl ?_
  refine g_callS C hnt _ dX2_insert_1 (c_X2_requireDesk l G _ _) kmX2_37 ks_X2_requireDesk kn_X2 kc_X2_requireDesk hy_X2_requireDesk ⟨by decide, by decide⟩ rfl (Nat.le_of_ble_eq_true rfl) ⟨by decide, by decide⟩ ⟨by decide, by decide⟩ (fun E hE => ⟨Or.inl ⟨hE.1, fun h => hE.2 h.1⟩, rfl⟩) (fun v w1 hp => ?_)
  obtain ⟨rfl, hw1, hok0⟩ := hp
  have hw1 := hw1.symm
  subst hw1
  refine g_iload_n C dX2_insert_4 rfl rfl ?_
  refine g_callS C hnt _ dX2_insert_5 (c_X2_requireThing l G _ _) kmX2_41 ks_X2_requireThing kn_X2 kc_X2_requireThing hy_X2_requireThing ⟨by decide, by decide⟩ rfl (Nat.le_of_ble_eq_true rfl) ⟨by decide, by decide⟩ ⟨by decide, by decide⟩ (fun E hE => ⟨Or.inl ⟨hE.1, fun h => hE.2 h.2.1⟩, rfl⟩) (fun v w1 hp => ?_)
  obtain ⟨rfl, hw1, hok1⟩ := hp
  have hw1 := hw1.symm
  subst hw1
  obtain ⟨d', hd', rfl⟩ := ok_nI (N := 6) (by decide) hok0.1 hok0.2
  obtain ⟨t', ht', rfl⟩ := ok_nI (N := 16) (by decide) hok1.1 hok1.2
  refine g_iload_n C dX2_insert_8 rfl rfl ?_
  refine g_iconst C (v := (-1)) dX2_insert_9 (by decide) ?_
  refine g_icmp_ne C 17 dX2_insert_10 (by decide) (fun c10 => ?_) (fun c10 => ?_)
  · first | refine g_aload_n C dX2_insert_17 rfl rfl ?_ | refine g_aload_nN C dX2_insert_17 rfl rfl ?_ | refine g_aload_nq C dX2_insert_17 rfl rfl ?_
    refine g_iload_n C dX2_insert_18 rfl rfl ?_
    refine g_iload_n C dX2_insert_19 rfl rfl ?_
    refine g_callV C hnt _ dX2_insert_20 (c_X2_findKnown l G _ _ _ _ _ _ _ _ _ _ _ _ _ _ hM _ _) kmX2_58 ki_X2_findKnown kv_X2_findKnown kn_X2 kc_X2_findKnown hy_X2_findKnown ⟨by decide, by decide⟩ hx rfl rfl (Nat.le_of_ble_eq_true rfl) ⟨by decide, by decide⟩ ⟨by decide, by decide⟩ (fun E hE => ⟨Or.inl ⟨hE.1, fun h => hE.2 (h.2.2.resolve_left c10)⟩, rfl⟩) (fun v w1 hp => ?_)
    obtain ⟨b, hb, rfl, hkb, rfl, hw1⟩ := hp
    have hw1 := hw1.symm
    subst hw1
    have hc := hT b hb
    first | refine g_astore C dX2_insert_23 (by decide) ?_ | refine g_astoreN C dX2_insert_23 (by decide) ?_ | refine g_astoreq C dX2_insert_23 (by decide) ?_
    first | refine g_aload C dX2_insert_25 rfl ?_ | refine g_aloadN C dX2_insert_25 rfl ?_ | refine g_aloadq C dX2_insert_25 rfl ?_
    refine g_ifnullR C dX2_insert_27 ?_
    first | refine g_aload C dX2_insert_30 rfl ?_ | refine g_aloadN C dX2_insert_30 rfl ?_ | refine g_aloadq C dX2_insert_30 rfl ?_
    refine g_get C dX2_insert_32 hc rfl kw_X1 3 (by decide) kfX2_62 rfl rfl ?_
    refine g_iconst C (v := 3) dX2_insert_35 (by decide) ?_
    refine g_icmp_ne C 48 dX2_insert_36 (by decide) (fun c36 => ?_) (fun c36 => ?_)
    · have c36 := mt (nI_eq (a := (ti b).so) (b := 3) (by have := hso b hb; omega) (by decide)).mpr c36
      exact g_throw C hnt rfl dX2_insert_48 dX2_insert_51 dX2_insert_52 dX2_insert_54 dX2_insert_57 (by decide +kernel) klX2_68 kn_IllegalArgumentException (List.mem_of_getElem? (i := 7) rfl) ht_IA1 ht_IA2 ht_IA3 (by decide) (by decide) (by decide) (by decide) (by decide) (by decide) (Or.inr (Or.inl ⟨rfl, ⟨hok0, hok1, Or.inr ⟨b, hb, rfl, hkb⟩⟩, fun h => by
            rcases h.1 with h9 | h9
            · exact c10 h9
            · exact c36 (h9 b rfl hb).1⟩)) rfl
    · have c36 := (nI_eq (b := 3) (by have := hso b hb; omega) (by decide)).mp c36
      first | refine g_aload C dX2_insert_39 rfl ?_ | refine g_aloadN C dX2_insert_39 rfl ?_ | refine g_aloadq C dX2_insert_39 rfl ?_
      refine g_get C dX2_insert_41 hc rfl kw_X1 4 (by decide) kfX2_65 rfl rfl ?_
      refine g_iload_n C dX2_insert_44 rfl rfl ?_
      refine g_icmp_eq C 58 dX2_insert_45 (by decide) (fun c45 => ?_) (fun c45 => ?_)
      · refine g_iload C dX2_insert_58 rfl ?_
        refine g_sipush C (v := 1000) dX2_insert_60 (by decide) ?_
        refine g_callS C hnt _ dX2_insert_63 (c_X2_requireValue l G _ _ _) kmX2_48 ks_X2_requireValue kn_X2 kc_X2_requireValue hy_X2_requireValue ⟨by decide, by decide⟩ rfl (Nat.le_of_ble_eq_true rfl) ⟨by decide, by decide⟩ ⟨by decide, by decide⟩ (fun E hE => ⟨Or.inr (Or.inl ⟨hE.1, ⟨hok0, hok1, Or.inr ⟨b, hb, rfl, hkb⟩⟩, fun h => hE.2 h.2⟩), rfl⟩) (fun v w1 hp => ?_)
        obtain ⟨rfl, hw1, hok3⟩ := hp
        have hw1 := hw1.symm
        subst hw1
        obtain ⟨v', rfl⟩ := nI_of9 hok3.1
        first | refine g_aload_n C dX2_insert_66 rfl rfl ?_ | refine g_aload_nN C dX2_insert_66 rfl rfl ?_ | refine g_aload_nq C dX2_insert_66 rfl rfl ?_
        refine g_iload_n C dX2_insert_67 rfl rfl ?_
        refine g_iconst C (v := 3) dX2_insert_68 (by decide) ?_
        refine g_iload_n C dX2_insert_69 rfl rfl ?_
        refine g_iload C dX2_insert_70 rfl ?_
        refine g_callV C hnt _ dX2_insert_72 (c_X2_enter l G _ _ _ _ _ _ _ _ _ _ _ _ _ _ hM d' 3 v' (nI t') hlb hnd) kmX2_51 ki_X2_enter kv_X2_enter kn_X2 kc_X2_enter hy_X2_enter ⟨by decide, by decide⟩ hx rfl rfl (Nat.le_of_ble_eq_true rfl) ⟨by decide, by decide⟩ ⟨by decide, by decide⟩ (fun E hE => ⟨Or.inr (Or.inr ⟨hE.1, ⟨hok0, hok1, Or.inr ⟨b, hb, rfl, hkb⟩⟩, ⟨Or.inr (fun k hk hkn => by rw [← (nI_eq (by omega) (by omega)).mp hk]; exact ⟨c36, c45⟩), hok3⟩, hE.2⟩), rfl⟩) (fun v w1 hp => ?_)
        obtain ⟨hn9, q, lf, rfl, hq, hM3, hfr⟩ := hp
        have hcq : w1 q = some (cellT (va_up ad n q) n (laT (va_up ti n (frT d' (gsN ti (nI d') ch 0 + 1) 3 (nI t') v') n) (lf n))) := by have h9 := hM3.2.2.2.2.2.2.1 n (Nat.lt_succ_self n); rw [va_up_self] at h9; exact h9
        have hjr9 : ∀ t, t < 16 → n ∉ rl t := fun t ht hm => absurd ((hrl t ht).1 n hm) (Nat.lt_irrefl n)
        obtain ⟨p1, r0, hsp⟩ := List.append_of_mem (hpl b hb c36 t' ht' c45)
        have hPR := c_X2_putInRow l G _ _ _ _ _ _ _ (va_up ad n q) _ _ _ _ _ _ hM3 t' (p1 ++ [b]) r0 n ht' (Nat.lt_succ_self n) hjr9 hro (by rw [hsp]; simp)
        rw [last_app, va_up_self, show Option.map (va_up ad n q) (some b) = some (ad b) from congrArg some (va_up_ne _ _ (fun e => absurd hb (by omega)))] at hPR
        first | refine g_astore C dX2_insert_75 (by decide) ?_ | refine g_astoreN C dX2_insert_75 (by decide) ?_ | refine g_astoreq C dX2_insert_75 (by decide) ?_
        first | refine g_aload_n C dX2_insert_77 rfl rfl ?_ | refine g_aload_nN C dX2_insert_77 rfl rfl ?_ | refine g_aload_nq C dX2_insert_77 rfl rfl ?_
        refine g_iload_n C dX2_insert_78 rfl rfl ?_
        first | refine g_aload C dX2_insert_79 rfl ?_ | refine g_aloadN C dX2_insert_79 rfl ?_ | refine g_aloadq C dX2_insert_79 rfl ?_
        first | refine g_aload C dX2_insert_81 rfl ?_ | refine g_aloadN C dX2_insert_81 rfl ?_ | refine g_aloadq C dX2_insert_81 rfl ?_
        refine g_callVn C _ dX2_insert_83 (hPR) kmX2_75 ki_X2_putInRow kv_X2_putInRow kn_X2 kc_X2_putInRow hy_X2_putInRow ⟨by decide, by decide⟩ hM3.1 rfl rfl (Nat.le_of_ble_eq_true rfl) ⟨by decide, by decide⟩ (fun v w1 hp => ?_)
        obtain ⟨rfl, lf2, hM5, hfr2⟩ := hp
        have hcq5 : w1 q = some (cellT (va_up ad n q) n (neT (T3 ti n (frT d' (gsN ti (nI d') ch 0 + 1) 3 (nI t') v') lf n) (lf2 n))) := by have h9 := hM5.2.2.2.2.2.2.1 n (Nat.lt_succ_self n); rw [va_up_self] at h9; exact h9
        first | refine g_aload C dX2_insert_86 rfl ?_ | refine g_aloadN C dX2_insert_86 rfl ?_ | refine g_aloadq C dX2_insert_86 rfl ?_
        refine g_get C dX2_insert_88 hcq5 rfl kw_X1 0 (by decide) kfX2_55 rfl rfl ?_
        exact g_iret C hr dX2_insert_91 (by decide) (by decide) ⟨⟨hok0, hok1, Or.inr ⟨b, hb, rfl, hkb⟩⟩, ⟨Or.inr (fun k hk hkn => by rw [← (nI_eq (by omega) (by omega)).mp hk]; exact ⟨c36, c45⟩), hok3⟩, hn9, rfl, d', t', v', hd', ht', rfl, rfl, rfl, q, lf, lf2, p1 ++ [b], r0, hq, by rw [hsp]; simp, Or.inr ⟨b, p1, hb, rfl, hkb, rfl⟩, hM5, (fun z e hz hw => hfr2 z e (fun hcd => by
          rcases hcd with h9 | h9 | h9 | h9 | h9 | h9 | ⟨i, hi, h9⟩
          · exact hz (Or.inl h9)
          · exact hz (Or.inr (Or.inl h9))
          · exact hz (Or.inr (Or.inr (Or.inl h9)))
          · exact hz (Or.inr (Or.inr (Or.inr (Or.inl h9))))
          · exact hz (Or.inr (Or.inr (Or.inr (Or.inr (Or.inl h9)))))
          · exact hz (Or.inr (Or.inr (Or.inr (Or.inr (Or.inr (Or.inl h9))))))
          · by_cases hin : i = n
            · subst hin; rw [va_up_self] at h9; rw [h9, hq] at hw; cases hw
            · rw [va_up_ne _ _ hin] at h9; exact hz (Or.inr (Or.inr (Or.inr (Or.inr (Or.inr (Or.inr ⟨i, by omega, h9⟩))))))) (hfr z e hz hw))⟩
      · exact g_throw C hnt rfl dX2_insert_48 dX2_insert_51 dX2_insert_52 dX2_insert_54 dX2_insert_57 (by decide +kernel) klX2_68 kn_IllegalArgumentException (List.mem_of_getElem? (i := 7) rfl) ht_IA1 ht_IA2 ht_IA3 (by decide) (by decide) (by decide) (by decide) (by decide) (by decide) (Or.inr (Or.inl ⟨rfl, ⟨hok0, hok1, Or.inr ⟨b, hb, rfl, hkb⟩⟩, fun h => by
            rcases h.1 with h9 | h9
            · exact c10 h9
            · exact c45 (h9 b rfl hb).2⟩)) rfl
  · refine g_null C dX2_insert_13 ?_
    refine g_goto C 23 dX2_insert_14 (by decide) ?_
    subst c10
    first | refine g_astore C dX2_insert_23 (by decide) ?_ | refine g_astoreN C dX2_insert_23 (by decide) ?_ | refine g_astoreq C dX2_insert_23 (by decide) ?_
    first | refine g_aload C dX2_insert_25 rfl ?_ | refine g_aloadN C dX2_insert_25 rfl ?_ | refine g_aloadq C dX2_insert_25 rfl ?_
    refine g_ifnullN C 58 dX2_insert_27 (by decide) ?_
    refine g_iload C dX2_insert_58 rfl ?_
    refine g_sipush C (v := 1000) dX2_insert_60 (by decide) ?_
    refine g_callS C hnt _ dX2_insert_63 (c_X2_requireValue l G _ _ _) kmX2_48 ks_X2_requireValue kn_X2 kc_X2_requireValue hy_X2_requireValue ⟨by decide, by decide⟩ rfl (Nat.le_of_ble_eq_true rfl) ⟨by decide, by decide⟩ ⟨by decide, by decide⟩ (fun E hE => ⟨Or.inr (Or.inl ⟨hE.1, ⟨hok0, hok1, Or.inl rfl⟩, fun h => hE.2 h.2⟩), rfl⟩) (fun v w1 hp => ?_)
    obtain ⟨rfl, hw1, hok3⟩ := hp
    have hw1 := hw1.symm
    subst hw1
    obtain ⟨v', rfl⟩ := nI_of9 hok3.1
    first | refine g_aload_n C dX2_insert_66 rfl rfl ?_ | refine g_aload_nN C dX2_insert_66 rfl rfl ?_ | refine g_aload_nq C dX2_insert_66 rfl rfl ?_
    refine g_iload_n C dX2_insert_67 rfl rfl ?_
    refine g_iconst C (v := 3) dX2_insert_68 (by decide) ?_
    refine g_iload_n C dX2_insert_69 rfl rfl ?_
    refine g_iload C dX2_insert_70 rfl ?_
    refine g_callV C hnt _ dX2_insert_72 (c_X2_enter l G _ _ _ _ _ _ _ _ _ _ _ _ _ _ hM d' 3 v' (nI t') hlb hnd) kmX2_51 ki_X2_enter kv_X2_enter kn_X2 kc_X2_enter hy_X2_enter ⟨by decide, by decide⟩ hx rfl rfl (Nat.le_of_ble_eq_true rfl) ⟨by decide, by decide⟩ ⟨by decide, by decide⟩ (fun E hE => ⟨Or.inr (Or.inr ⟨hE.1, ⟨hok0, hok1, Or.inl rfl⟩, ⟨Or.inl rfl, hok3⟩, hE.2⟩), rfl⟩) (fun v w1 hp => ?_)
    obtain ⟨hn9, q, lf, rfl, hq, hM3, hfr⟩ := hp
    have hcq : w1 q = some (cellT (va_up ad n q) n (laT (va_up ti n (frT d' (gsN ti (nI d') ch 0 + 1) 3 (nI t') v') n) (lf n))) := by have h9 := hM3.2.2.2.2.2.2.1 n (Nat.lt_succ_self n); rw [va_up_self] at h9; exact h9
    have hjr9 : ∀ t, t < 16 → n ∉ rl t := fun t ht hm => absurd ((hrl t ht).1 n hm) (Nat.lt_irrefl n)
    have hPR := c_X2_putInRow l G _ _ _ _ _ _ _ (va_up ad n q) _ _ _ _ _ _ hM3 t' [] (rl t') n ht' (Nat.lt_succ_self n) hjr9 hro rfl
    rw [va_up_self] at hPR
    first | refine g_astore C dX2_insert_75 (by decide) ?_ | refine g_astoreN C dX2_insert_75 (by decide) ?_ | refine g_astoreq C dX2_insert_75 (by decide) ?_
    first | refine g_aload_n C dX2_insert_77 rfl rfl ?_ | refine g_aload_nN C dX2_insert_77 rfl rfl ?_ | refine g_aload_nq C dX2_insert_77 rfl rfl ?_
    refine g_iload_n C dX2_insert_78 rfl rfl ?_
    first | refine g_aload C dX2_insert_79 rfl ?_ | refine g_aloadN C dX2_insert_79 rfl ?_ | refine g_aloadq C dX2_insert_79 rfl ?_
    first | refine g_aload C dX2_insert_81 rfl ?_ | refine g_aloadN C dX2_insert_81 rfl ?_ | refine g_aloadq C dX2_insert_81 rfl ?_
    refine g_callVn C _ dX2_insert_83 (hPR) kmX2_75 ki_X2_putInRow kv_X2_putInRow kn_X2 kc_X2_putInRow hy_X2_putInRow ⟨by decide, by decide⟩ hM3.1 rfl rfl (Nat.le_of_ble_eq_true rfl) ⟨by decide, by decide⟩ (fun v w1 hp => ?_)
    obtain ⟨rfl, lf2, hM5, hfr2⟩ := hp
    have hcq5 : w1 q = some (cellT (va_up ad n q) n (neT (T3 ti n (frT d' (gsN ti (nI d') ch 0 + 1) 3 (nI t') v') lf n) (lf2 n))) := by have h9 := hM5.2.2.2.2.2.2.1 n (Nat.lt_succ_self n); rw [va_up_self] at h9; exact h9
    first | refine g_aload C dX2_insert_86 rfl ?_ | refine g_aloadN C dX2_insert_86 rfl ?_ | refine g_aloadq C dX2_insert_86 rfl ?_
    refine g_get C dX2_insert_88 hcq5 rfl kw_X1 0 (by decide) kfX2_55 rfl rfl ?_
    exact g_iret C hr dX2_insert_91 (by decide) (by decide) ⟨⟨hok0, hok1, Or.inl rfl⟩, ⟨Or.inl rfl, hok3⟩, hn9, rfl, d', t', v', hd', ht', rfl, rfl, rfl, q, lf, lf2, [], rl t', hq, rfl, Or.inl ⟨rfl, rfl⟩, hM5, (fun z e hz hw => hfr2 z e (fun hcd => by
          rcases hcd with h9 | h9 | h9 | h9 | h9 | h9 | ⟨i, hi, h9⟩
          · exact hz (Or.inl h9)
          · exact hz (Or.inr (Or.inl h9))
          · exact hz (Or.inr (Or.inr (Or.inl h9)))
          · exact hz (Or.inr (Or.inr (Or.inr (Or.inl h9))))
          · exact hz (Or.inr (Or.inr (Or.inr (Or.inr (Or.inl h9)))))
          · exact hz (Or.inr (Or.inr (Or.inr (Or.inr (Or.inr (Or.inl h9))))))
          · by_cases hin : i = n
            · subst hin; rw [va_up_self] at h9; rw [h9, hq] at hw; cases hw
            · rw [va_up_ne _ _ hin] at h9; exact hz (Or.inr (Or.inr (Or.inr (Or.inr (Or.inr (Or.inr ⟨i, by omega, h9⟩))))))) (hfr z e hz hw))⟩

def ti0 : Nat → TI := fun _ => (0, 0, 0, 0, 0, 0, 0, 0, none, none)
theorem up_none {w : hW} {a q : Nat} {e : va_E} (h : h_up w a e q = none) : q ≠ a ∧ w q = none := by
  by_cases hq : q = a
  · rw [hq, h_up_s] at h; cases h
  · exact ⟨hq, by rw [h_up_n hq] at h; exact h⟩
set_option maxHeartbeats 4000000 in
set_option maxRecDepth 100000 in
theorem c_X2_init (l : Launch) (G : hD) (w : hW) (x : Nat) (hx : w x = some (eO 2 [.null, .null, .null, .null, .null, .int 0])) : h_Met l yX2_init (Cond.code yX2_init cX2_init 1 none) { frames := 2, cells := 5, slots := 159, locals := 32 } G [.ref x] w (fun v w' => v = none ∧ ∃ tl rw ng cx un, w tl = none ∧ w rw = none ∧ w ng = none ∧ w cx = none ∧ w un = none ∧ TM G x tl rw ng cx un (fun _ => 0) 0 ti0 [] (fun _ => []) (fun _ => 0) (fun _ => 0) w' ∧ ∀ q e, q ≠ x → w q = some e → w' q = some e) noX := by
  refine h_met RX2 rfl (by decide) (Nat.le_of_ble_eq_true rfl) (cat_c (by first | rfl | exact rf_cat _) cat_n) ?_
  intro p e s m below meth c A C hnt hr hnm
  first | refine g_aload_n C dX2_init_0 rfl rfl ?_ | refine g_aload_nN C dX2_init_0 rfl rfl ?_ | refine g_aload_nq C dX2_init_0 rfl rfl ?_
  refine g_objInit C dX2_init_1 kmX2_3 (by decide) (Nat.le_of_ble_eq_true rfl) ?_
  first | refine g_aload_n C dX2_init_4 rfl rfl ?_ | refine g_aload_nN C dX2_init_4 rfl rfl ?_ | refine g_aload_nq C dX2_init_4 rfl rfl ?_
  refine g_bipush C (v := 120) dX2_init_5 (by decide) ?_
  refine g_newT C (N := 120) dX2_init_7 klX2_9 C.2.2.2.2.2.2.2.2.2.2.2.2.2.2.2 (by decide) (by decide) (by decide) (by decide) (by decide) (fun tl htl => ?_)
  have n1 : tl ≠ x := fun e => by rw [← e, htl] at hx; cases hx
  refine g_putF C dX2_init_10 ((h_up_n (Ne.symm n1)).trans hx) rfl kw_X2 tyX2 tyX2_ok nmX2 0 (by decide) kfX2_11 rfl rfl hnm rfl rfl rfl (Nat.le_of_ble_eq_true rfl) ?_
  first | refine g_aload_n C dX2_init_13 rfl rfl ?_ | refine g_aload_nN C dX2_init_13 rfl rfl ?_ | refine g_aload_nq C dX2_init_13 rfl rfl ?_
  refine g_bipush C (v := 16) dX2_init_14 (by decide) ?_
  refine g_newT C (N := 16) dX2_init_16 klX2_9 C.2.2.2.2.2.2.2.2.2.2.2.2.2.2.2 (by decide) (by decide) (by decide) (by decide) (by decide) (fun rw hrw => ?_)
  have y1 := up_none hrw
  have y2 := up_none y1.2
  have hrw2 := y2.2
  have n2 : rw ≠ x := y1.1
  have n6 : rw ≠ tl := y2.1
  refine g_putF C dX2_init_19 ((h_up_n (Ne.symm n2)).trans (h_up_s _ _ _)) rfl kw_X2 tyX2 tyX2_ok nmX2 1 (by decide) kfX2_15 rfl rfl hnm rfl rfl rfl (Nat.le_of_ble_eq_true rfl) ?_
  first | refine g_aload_n C dX2_init_22 rfl rfl ?_ | refine g_aload_nN C dX2_init_22 rfl rfl ?_ | refine g_aload_nq C dX2_init_22 rfl rfl ?_
  refine g_bipush C (v := 6) dX2_init_23 (by decide) ?_
  refine g_newI C (N := 6) dX2_init_25 ka_int (by decide) (by decide) (by decide) (by decide) (by decide) (fun ng hng => ?_)
  have w1 := up_none hng
  have w2 := up_none w1.2
  have w3 := up_none w2.2
  have w4 := up_none w3.2
  have hng4 := w4.2
  have n3 : ng ≠ x := w1.1
  have n7 : ng ≠ tl := w4.1
  have n10 : ng ≠ rw := w2.1
  refine g_putF C dX2_init_27 ((h_up_n (Ne.symm n3)).trans (h_up_s _ _ _)) rfl kw_X2 tyX2 tyX2_ok nmX2 2 (by decide) kfX2_18 rfl rfl hnm rfl rfl rfl (Nat.le_of_ble_eq_true rfl) ?_
  first | refine g_aload_n C dX2_init_30 rfl rfl ?_ | refine g_aload_nN C dX2_init_30 rfl rfl ?_ | refine g_aload_nq C dX2_init_30 rfl rfl ?_
  refine g_new C (ci := 0) (fs := [.null]) dX2_init_31 rfl kw_X0 tyX0 tyX0_ok klX2_22 kt_X0 kn_X0 (by decide +kernel) (by decide) (by decide) (fun cx hcx => ?_)
  have v1 := up_none hcx
  have v2 := up_none v1.2
  have v3 := up_none v2.2
  have v4 := up_none v3.2
  have v5 := up_none v4.2
  have v6 := up_none v5.2
  have hcx6 := v6.2
  have n4 : cx ≠ x := v1.1
  have n8 : cx ≠ tl := v6.1
  have n11 : cx ≠ rw := v4.1
  have n13 : cx ≠ ng := v2.1
  refine g_dup C dX2_init_34 rfl ?_
  refine g_callI C _ dX2_init_35 (c_X0_init l G _ _ none (h_up_s _ _ _)) kmX2_24 ki_X0_init kn_X0 kc_X0_init rfl hy_X0_init ⟨by decide, by decide⟩ rfl (Nat.le_of_ble_eq_true rfl) ⟨by decide, by decide⟩ (fun v w1 hp => ?_)
  obtain ⟨rfl, un, hun, rfl⟩ := hp
  have u1 := up_none hun
  have u2 := up_none u1.2
  have u3 := up_none u2.2
  have u4 := up_none u3.2
  have u5 := up_none u4.2
  have u6 := up_none u5.2
  have u7 := up_none u6.2
  have hun7 := u7.2
  have n5 : un ≠ x := u2.1
  have n9 : un ≠ tl := u7.1
  have n12 : un ≠ rw := u5.1
  have n14 : un ≠ ng := u3.1
  have n15 : un ≠ cx := u1.1
  refine g_putF C dX2_init_38 ((h_up_n (Ne.symm n4)).trans ((h_up_n (Ne.symm n5)).trans ((h_up_n (Ne.symm n4)).trans (h_up_s _ _ _)))) rfl kw_X2 tyX2 tyX2_ok nmX2 3 (by decide) kfX2_25 rfl rfl hnm rfl rfl rfl (Nat.le_of_ble_eq_true rfl) ?_
  first | refine g_aload_n C dX2_init_41 rfl rfl ?_ | refine g_aload_nN C dX2_init_41 rfl rfl ?_ | refine g_aload_nq C dX2_init_41 rfl rfl ?_
  refine g_null C dX2_init_42 ?_
  refine g_put C dX2_init_43 (h_up_s _ _ _) rfl kw_X2 tyX2 tyX2_ok nmX2 4 (by decide) kfX2_29 rfl rfl rfl rfl (Nat.le_of_ble_eq_true rfl) ?_
  first | refine g_aload_n C dX2_init_46 rfl rfl ?_ | refine g_aload_nN C dX2_init_46 rfl rfl ?_ | refine g_aload_nq C dX2_init_46 rfl rfl ?_
  refine g_iconst C (v := 0) dX2_init_47 (by decide) ?_
  refine g_put C dX2_init_48 (h_up_s _ _ _) rfl kw_X2 tyX2 tyX2_ok nmX2 5 (by decide) kfX2_33 rfl rfl rfl rfl (Nat.le_of_ble_eq_true rfl) ?_
  refine g_vret C hr dX2_init_51 (by decide) (by decide) ⟨rfl, tl, rw, ng, cx, un, htl, hrw2, hng4, hcx6, hun7, ?_, ?_⟩
  · refine ⟨h_up_s _ _ _, ⟨fun _ => none, (by simp [h_up, n1, Ne.symm n1, n2, Ne.symm n2, n3, Ne.symm n3, n4, Ne.symm n4, n5, Ne.symm n5, n6, Ne.symm n6, n7, Ne.symm n7, n8, Ne.symm n8, n9, Ne.symm n9, n10, Ne.symm n10, n11, Ne.symm n11, n12, Ne.symm n12, n13, Ne.symm n13, n14, Ne.symm n14, n15, Ne.symm n15]), fun i hi => absurd hi (Nat.not_lt_zero i)⟩, ⟨fun _ => none, (by simp [h_up, n1, Ne.symm n1, n2, Ne.symm n2, n3, Ne.symm n3, n4, Ne.symm n4, n5, Ne.symm n5, n6, Ne.symm n6, n7, Ne.symm n7, n8, Ne.symm n8, n9, Ne.symm n9, n10, Ne.symm n10, n11, Ne.symm n11, n12, Ne.symm n12, n13, Ne.symm n13, n14, Ne.symm n14, n15, Ne.symm n15]), fun _ _ => rfl⟩, ⟨fun _ => 0, (by simp [h_up, n1, Ne.symm n1, n2, Ne.symm n2, n3, Ne.symm n3, n4, Ne.symm n4, n5, Ne.symm n5, n6, Ne.symm n6, n7, Ne.symm n7, n8, Ne.symm n8, n9, Ne.symm n9, n10, Ne.symm n10, n11, Ne.symm n11, n12, Ne.symm n12, n13, Ne.symm n13, n14, Ne.symm n14, n15, Ne.symm n15]), fun _ _ => rfl⟩, (by simp [h_up, n1, Ne.symm n1, n2, Ne.symm n2, n3, Ne.symm n3, n4, Ne.symm n4, n5, Ne.symm n5, n6, Ne.symm n6, n7, Ne.symm n7, n8, Ne.symm n8, n9, Ne.symm n9, n10, Ne.symm n10, n11, Ne.symm n11, n12, Ne.symm n12, n13, Ne.symm n13, n14, Ne.symm n14, n15, Ne.symm n15]), (by simp [h_up, n1, Ne.symm n1, n2, Ne.symm n2, n3, Ne.symm n3, n4, Ne.symm n4, n5, Ne.symm n5, n6, Ne.symm n6, n7, Ne.symm n7, n8, Ne.symm n8, n9, Ne.symm n9, n10, Ne.symm n10, n11, Ne.symm n11, n12, Ne.symm n12, n13, Ne.symm n13, n14, Ne.symm n14, n15, Ne.symm n15]), fun i hi => absurd hi (Nat.not_lt_zero i), Nat.zero_le _, fun i hi => (by cases hi), rfl, fun t ht => ⟨fun i hi => (by cases hi), rfl⟩⟩
  · intro q e hq hw
    have z : ∀ {b : Nat}, w b = none → q ≠ b := fun hb e9 => by rw [e9, hb] at hw; cases hw
    simp [h_up, hq, z htl, z hrw2, z hng4, z hcx6, z hun7, hw]
end
