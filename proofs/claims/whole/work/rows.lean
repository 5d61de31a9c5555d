section
-- ===== PART A: goes FIRST, ahead of the names: the tables' words, and 'selects' of the private methods out of them =====
/-- a private method of a class that the tables say can be made, by its rows of tables_1 -/
def lw_okq (q : MethodName × Nat) : Prop := (q.1.cls ≠ "java/lang/invoke/MethodHandle" ∧ q.1.cls ≠ "java/lang/invoke/VarHandle") ∧ Cond.instantiable q.1.cls q.2 ∈ tables_1 ∧ Cond.privateMethod q.1 ∈ tables_1 ∧ Cond.instanceMethod q.1 ∈ tables_1
theorem lw_p0 : lw_okq (⟨"GameGraph", "makeEvenEnds", "(I)V"⟩, 13) := ⟨⟨by decide +kernel, by decide +kernel⟩, List.mem_of_getElem? (i := 12) (by decide +kernel), List.mem_of_getElem? (i := 20) (by decide +kernel), List.mem_of_getElem? (i := 21) (by decide +kernel)⟩
theorem lw_p1 : lw_okq (⟨"GameGraph", "makeState", "(IZII)V"⟩, 13) := ⟨⟨by decide +kernel, by decide +kernel⟩, List.mem_of_getElem? (i := 12) (by decide +kernel), List.mem_of_getElem? (i := 24) (by decide +kernel), List.mem_of_getElem? (i := 25) (by decide +kernel)⟩
theorem lw_p2 : lw_okq (⟨"GameGraph", "survey", "()V"⟩, 13) := ⟨⟨by decide +kernel, by decide +kernel⟩, List.mem_of_getElem? (i := 12) (by decide +kernel), List.mem_of_getElem? (i := 75) (by decide +kernel), List.mem_of_getElem? (i := 76) (by decide +kernel)⟩
theorem lw_p3 : lw_okq (⟨"GameGraph", "findWhatStatesComeTo", "()V"⟩, 13) := ⟨⟨by decide +kernel, by decide +kernel⟩, List.mem_of_getElem? (i := 12) (by decide +kernel), List.mem_of_getElem? (i := 79) (by decide +kernel), List.mem_of_getElem? (i := 80) (by decide +kernel)⟩
theorem lw_p4 : lw_okq (⟨"GameGraph", "goesTo", "(I)J"⟩, 13) := ⟨⟨by decide +kernel, by decide +kernel⟩, List.mem_of_getElem? (i := 12) (by decide +kernel), List.mem_of_getElem? (i := 83) (by decide +kernel), List.mem_of_getElem? (i := 84) (by decide +kernel)⟩
theorem lw_p5 : lw_okq (⟨"GameGraph", "jointMoves", "(I)I"⟩, 13) := ⟨⟨by decide +kernel, by decide +kernel⟩, List.mem_of_getElem? (i := 12) (by decide +kernel), List.mem_of_getElem? (i := 87) (by decide +kernel), List.mem_of_getElem? (i := 88) (by decide +kernel)⟩
theorem lw_p6 : lw_okq (⟨"GameGraph", "target", "(II)I"⟩, 13) := ⟨⟨by decide +kernel, by decide +kernel⟩, List.mem_of_getElem? (i := 12) (by decide +kernel), List.mem_of_getElem? (i := 91) (by decide +kernel), List.mem_of_getElem? (i := 92) (by decide +kernel)⟩
theorem lw_p7 : lw_okq (⟨"GameGraph", "findDefect", "()V"⟩, 13) := ⟨⟨by decide +kernel, by decide +kernel⟩, List.mem_of_getElem? (i := 12) (by decide +kernel), List.mem_of_getElem? (i := 98) (by decide +kernel), List.mem_of_getElem? (i := 99) (by decide +kernel)⟩
theorem lw_p8 : lw_okq (⟨"GameGraph", "defectOfOpen", "(I)I"⟩, 13) := ⟨⟨by decide +kernel, by decide +kernel⟩, List.mem_of_getElem? (i := 12) (by decide +kernel), List.mem_of_getElem? (i := 102) (by decide +kernel), List.mem_of_getElem? (i := 103) (by decide +kernel)⟩
theorem lw_p9 : lw_okq (⟨"GameGraph", "defectOfEnd", "(I)I"⟩, 13) := ⟨⟨by decide +kernel, by decide +kernel⟩, List.mem_of_getElem? (i := 12) (by decide +kernel), List.mem_of_getElem? (i := 106) (by decide +kernel), List.mem_of_getElem? (i := 107) (by decide +kernel)⟩
theorem lw_p10 : lw_okq (⟨"GameGraph", "noteDefect", "(II)V"⟩, 13) := ⟨⟨by decide +kernel, by decide +kernel⟩, List.mem_of_getElem? (i := 12) (by decide +kernel), List.mem_of_getElem? (i := 110) (by decide +kernel), List.mem_of_getElem? (i := 111) (by decide +kernel)⟩
theorem lw_p11 : lw_okq (⟨"GameGraph", "findLengths", "()V"⟩, 13) := ⟨⟨by decide +kernel, by decide +kernel⟩, List.mem_of_getElem? (i := 12) (by decide +kernel), List.mem_of_getElem? (i := 114) (by decide +kernel), List.mem_of_getElem? (i := 115) (by decide +kernel)⟩
theorem lw_p12 : lw_okq (⟨"GameGraph", "boundValues", "()V"⟩, 13) := ⟨⟨by decide +kernel, by decide +kernel⟩, List.mem_of_getElem? (i := 12) (by decide +kernel), List.mem_of_getElem? (i := 119) (by decide +kernel), List.mem_of_getElem? (i := 120) (by decide +kernel)⟩
theorem lw_p13 : lw_okq (⟨"java/lang/Throwable", "fillInStackTrace", "(I)Ljava/lang/Throwable;"⟩, 6) := ⟨⟨by decide +kernel, by decide +kernel⟩, List.mem_of_getElem? (i := 175) (by decide +kernel), List.mem_of_getElem? (i := 173) (by decide +kernel), List.mem_of_getElem? (i := 174) (by decide +kernel)⟩
theorem lw_p14 : lw_okq (⟨"GameGraph", "requireState", "(I)V"⟩, 13) := ⟨⟨by decide +kernel, by decide +kernel⟩, List.mem_of_getElem? (i := 12) (by decide +kernel), List.mem_of_getElem? (i := 213) (by decide +kernel), List.mem_of_getElem? (i := 214) (by decide +kernel)⟩
theorem lw_p15 : lw_okq (⟨"GameGraph", "hasState", "(I)Z"⟩, 13) := ⟨⟨by decide +kernel, by decide +kernel⟩, List.mem_of_getElem? (i := 12) (by decide +kernel), List.mem_of_getElem? (i := 217) (by decide +kernel), List.mem_of_getElem? (i := 218) (by decide +kernel)⟩
def lw_privs_1 : List (MethodName × Nat) := [(⟨"GameGraph", "makeEvenEnds", "(I)V"⟩, 13), (⟨"GameGraph", "makeState", "(IZII)V"⟩, 13), (⟨"GameGraph", "survey", "()V"⟩, 13), (⟨"GameGraph", "findWhatStatesComeTo", "()V"⟩, 13), (⟨"GameGraph", "goesTo", "(I)J"⟩, 13), (⟨"GameGraph", "jointMoves", "(I)I"⟩, 13), (⟨"GameGraph", "target", "(II)I"⟩, 13), (⟨"GameGraph", "findDefect", "()V"⟩, 13), (⟨"GameGraph", "defectOfOpen", "(I)I"⟩, 13), (⟨"GameGraph", "defectOfEnd", "(I)I"⟩, 13), (⟨"GameGraph", "noteDefect", "(II)V"⟩, 13), (⟨"GameGraph", "findLengths", "()V"⟩, 13), (⟨"GameGraph", "boundValues", "()V"⟩, 13), (⟨"java/lang/Throwable", "fillInStackTrace", "(I)Ljava/lang/Throwable;"⟩, 6), (⟨"GameGraph", "requireState", "(I)V"⟩, 13), (⟨"GameGraph", "hasState", "(I)Z"⟩, 13)]
theorem lw_r1 : ∀ q ∈ lw_privs_1, lw_okq q := List.forall_mem_cons.mpr ⟨lw_p0, List.forall_mem_cons.mpr ⟨lw_p1, List.forall_mem_cons.mpr ⟨lw_p2, List.forall_mem_cons.mpr ⟨lw_p3, List.forall_mem_cons.mpr ⟨lw_p4, List.forall_mem_cons.mpr ⟨lw_p5, List.forall_mem_cons.mpr ⟨lw_p6, List.forall_mem_cons.mpr ⟨lw_p7, List.forall_mem_cons.mpr ⟨lw_p8, List.forall_mem_cons.mpr ⟨lw_p9, List.forall_mem_cons.mpr ⟨lw_p10, List.forall_mem_cons.mpr ⟨lw_p11, List.forall_mem_cons.mpr ⟨lw_p12, List.forall_mem_cons.mpr ⟨lw_p13, List.forall_mem_cons.mpr ⟨lw_p14, List.forall_mem_cons.mpr ⟨lw_p15, fun _ h => absurd h List.not_mem_nil⟩⟩⟩⟩⟩⟩⟩⟩⟩⟩⟩⟩⟩⟩⟩⟩
theorem lw_p16 : lw_okq (⟨"GameGraph", "requireJointMove", "(II)V"⟩, 13) := ⟨⟨by decide +kernel, by decide +kernel⟩, List.mem_of_getElem? (i := 12) (by decide +kernel), List.mem_of_getElem? (i := 259) (by decide +kernel), List.mem_of_getElem? (i := 260) (by decide +kernel)⟩
theorem lw_p17 : lw_okq (⟨"GameGraph", "requireValued", "(I)V"⟩, 13) := ⟨⟨by decide +kernel, by decide +kernel⟩, List.mem_of_getElem? (i := 12) (by decide +kernel), List.mem_of_getElem? (i := 287) (by decide +kernel), List.mem_of_getElem? (i := 288) (by decide +kernel)⟩
theorem lw_p18 : lw_okq (⟨"GameGraph", "findValue", "(I)I"⟩, 13) := ⟨⟨by decide +kernel, by decide +kernel⟩, List.mem_of_getElem? (i := 12) (by decide +kernel), List.mem_of_getElem? (i := 308) (by decide +kernel), List.mem_of_getElem? (i := 309) (by decide +kernel)⟩
theorem lw_p19 : lw_okq (⟨"GameGraph", "search", "(IIII)I"⟩, 13) := ⟨⟨by decide +kernel, by decide +kernel⟩, List.mem_of_getElem? (i := 12) (by decide +kernel), List.mem_of_getElem? (i := 312) (by decide +kernel), List.mem_of_getElem? (i := 313) (by decide +kernel)⟩
theorem lw_p20 : lw_okq (⟨"GameGraph", "greatest", "(IIII)I"⟩, 13) := ⟨⟨by decide +kernel, by decide +kernel⟩, List.mem_of_getElem? (i := 12) (by decide +kernel), List.mem_of_getElem? (i := 316) (by decide +kernel), List.mem_of_getElem? (i := 317) (by decide +kernel)⟩
theorem lw_p21 : lw_okq (⟨"GameGraph", "least", "(IIII)I"⟩, 13) := ⟨⟨by decide +kernel, by decide +kernel⟩, List.mem_of_getElem? (i := 12) (by decide +kernel), List.mem_of_getElem? (i := 323) (by decide +kernel), List.mem_of_getElem? (i := 324) (by decide +kernel)⟩
theorem lw_p22 : lw_okq (⟨"GameGraph", "findBest", "(I)I"⟩, 13) := ⟨⟨by decide +kernel, by decide +kernel⟩, List.mem_of_getElem? (i := 12) (by decide +kernel), List.mem_of_getElem? (i := 337) (by decide +kernel), List.mem_of_getElem? (i := 338) (by decide +kernel)⟩
theorem lw_p23 : lw_okq (⟨"GameGraphModel", "isState", "(I)Z"⟩, 13) := ⟨⟨by decide +kernel, by decide +kernel⟩, List.mem_of_getElem? (i := 348) (by decide +kernel), List.mem_of_getElem? (i := 406) (by decide +kernel), List.mem_of_getElem? (i := 407) (by decide +kernel)⟩
theorem lw_p24 : lw_okq (⟨"GameGraphModel", "isJoint", "(II)Z"⟩, 13) := ⟨⟨by decide +kernel, by decide +kernel⟩, List.mem_of_getElem? (i := 348) (by decide +kernel), List.mem_of_getElem? (i := 421) (by decide +kernel), List.mem_of_getElem? (i := 422) (by decide +kernel)⟩
theorem lw_p25 : lw_okq (⟨"GameGraphModel", "joint", "(I)I"⟩, 13) := ⟨⟨by decide +kernel, by decide +kernel⟩, List.mem_of_getElem? (i := 348) (by decide +kernel), List.mem_of_getElem? (i := 425) (by decide +kernel), List.mem_of_getElem? (i := 426) (by decide +kernel)⟩
theorem lw_p26 : lw_okq (⟨"GameGraphModel", "reach", "()V"⟩, 13) := ⟨⟨by decide +kernel, by decide +kernel⟩, List.mem_of_getElem? (i := 348) (by decide +kernel), List.mem_of_getElem? (i := 437) (by decide +kernel), List.mem_of_getElem? (i := 438) (by decide +kernel)⟩
theorem lw_p27 : lw_okq (⟨"GameGraphModel", "spread", "([Z)V"⟩, 13) := ⟨⟨by decide +kernel, by decide +kernel⟩, List.mem_of_getElem? (i := 348) (by decide +kernel), List.mem_of_getElem? (i := 441) (by decide +kernel), List.mem_of_getElem? (i := 442) (by decide +kernel)⟩
theorem lw_p28 : lw_okq (⟨"GameGraphModel", "defective", "()I"⟩, 13) := ⟨⟨by decide +kernel, by decide +kernel⟩, List.mem_of_getElem? (i := 348) (by decide +kernel), List.mem_of_getElem? (i := 449) (by decide +kernel), List.mem_of_getElem? (i := 450) (by decide +kernel)⟩
theorem lw_p29 : lw_okq (⟨"GameGraphModel", "own", "(I)I"⟩, 13) := ⟨⟨by decide +kernel, by decide +kernel⟩, List.mem_of_getElem? (i := 348) (by decide +kernel), List.mem_of_getElem? (i := 453) (by decide +kernel), List.mem_of_getElem? (i := 454) (by decide +kernel)⟩
theorem lw_p30 : lw_okq (⟨"GameGraphModel", "comesAgain", "(I)Z"⟩, 13) := ⟨⟨by decide +kernel, by decide +kernel⟩, List.mem_of_getElem? (i := 348) (by decide +kernel), List.mem_of_getElem? (i := 457) (by decide +kernel), List.mem_of_getElem? (i := 458) (by decide +kernel)⟩
theorem lw_p31 : lw_okq (⟨"GameGraphModel", "asked", "(I)Z"⟩, 13) := ⟨⟨by decide +kernel, by decide +kernel⟩, List.mem_of_getElem? (i := 348) (by decide +kernel), List.mem_of_getElem? (i := 465) (by decide +kernel), List.mem_of_getElem? (i := 466) (by decide +kernel)⟩
def lw_privs_2 : List (MethodName × Nat) := [(⟨"GameGraph", "requireJointMove", "(II)V"⟩, 13), (⟨"GameGraph", "requireValued", "(I)V"⟩, 13), (⟨"GameGraph", "findValue", "(I)I"⟩, 13), (⟨"GameGraph", "search", "(IIII)I"⟩, 13), (⟨"GameGraph", "greatest", "(IIII)I"⟩, 13), (⟨"GameGraph", "least", "(IIII)I"⟩, 13), (⟨"GameGraph", "findBest", "(I)I"⟩, 13), (⟨"GameGraphModel", "isState", "(I)Z"⟩, 13), (⟨"GameGraphModel", "isJoint", "(II)Z"⟩, 13), (⟨"GameGraphModel", "joint", "(I)I"⟩, 13), (⟨"GameGraphModel", "reach", "()V"⟩, 13), (⟨"GameGraphModel", "spread", "([Z)V"⟩, 13), (⟨"GameGraphModel", "defective", "()I"⟩, 13), (⟨"GameGraphModel", "own", "(I)I"⟩, 13), (⟨"GameGraphModel", "comesAgain", "(I)Z"⟩, 13), (⟨"GameGraphModel", "asked", "(I)Z"⟩, 13)]
theorem lw_r2 : ∀ q ∈ lw_privs_2, lw_okq q := List.forall_mem_cons.mpr ⟨lw_p16, List.forall_mem_cons.mpr ⟨lw_p17, List.forall_mem_cons.mpr ⟨lw_p18, List.forall_mem_cons.mpr ⟨lw_p19, List.forall_mem_cons.mpr ⟨lw_p20, List.forall_mem_cons.mpr ⟨lw_p21, List.forall_mem_cons.mpr ⟨lw_p22, List.forall_mem_cons.mpr ⟨lw_p23, List.forall_mem_cons.mpr ⟨lw_p24, List.forall_mem_cons.mpr ⟨lw_p25, List.forall_mem_cons.mpr ⟨lw_p26, List.forall_mem_cons.mpr ⟨lw_p27, List.forall_mem_cons.mpr ⟨lw_p28, List.forall_mem_cons.mpr ⟨lw_p29, List.forall_mem_cons.mpr ⟨lw_p30, List.forall_mem_cons.mpr ⟨lw_p31, fun _ h => absurd h List.not_mem_nil⟩⟩⟩⟩⟩⟩⟩⟩⟩⟩⟩⟩⟩⟩⟩⟩
theorem lw_p32 : lw_okq (⟨"GameGraphModel", "learn", "(I)V"⟩, 13) := ⟨⟨by decide +kernel, by decide +kernel⟩, List.mem_of_getElem? (i := 348) (by decide +kernel), List.mem_of_getElem? (i := 469) (by decide +kernel), List.mem_of_getElem? (i := 470) (by decide +kernel)⟩
def lw_privs_3 : List (MethodName × Nat) := [(⟨"GameGraphModel", "learn", "(I)V"⟩, 13)]
theorem lw_r3 : ∀ q ∈ lw_privs_3, lw_okq q := List.forall_mem_cons.mpr ⟨lw_p32, fun _ h => absurd h List.not_mem_nil⟩
def lw_privs : List (MethodName × Nat) := lw_privs_1 ++ (lw_privs_2 ++ (lw_privs_3))
def lw_tbl : List Cond := k2_sels lw_privs ++ tables_1
theorem lw_privs_ok : ∀ q ∈ lw_privs, lw_okq q := by
  show ∀ q ∈ lw_privs_1 ++ (lw_privs_2 ++ (lw_privs_3)), lw_okq q
  exact List.forall_mem_append.mpr ⟨lw_r1, List.forall_mem_append.mpr ⟨lw_r2, lw_r3⟩⟩

/-! ===== BEGIN words of one list among another's, by their places ===== -/
theorem goodIn_r {big : List Cond} (ws : List Cond) (ps : List Nat) (hp : ws = ps.filterMap (fun i => big[i]?)) (h : ws.all goodWord = true) : GoodIn big ws := by
  intro w hw
  have h1 := List.all_eq_true.mp h w hw
  rw [hp] at hw
  obtain ⟨i, -, hi⟩ := List.mem_filterMap.mp hw
  have hm : w ∈ big := by first | exact List.mem_of_getElem? hi | exact List.getElem?_mem hi
  exact ⟨hm, good_of_word h1⟩
theorem goodIn_app {big a b : List Cond} (ha : GoodIn big a) (hb : GoodIn big b) : GoodIn big (a ++ b) := fun w h => (List.mem_append.mp h).elim (ha w) (hb w)
theorem goodIn_ca {big a b : List Cond} {c : Cond} (ha : GoodIn big (c :: a)) (hb : GoodIn big b) : GoodIn big (c :: (a ++ b)) := fun w h => (List.mem_cons.mp h).elim (fun e => ha w (List.mem_cons.mpr (Or.inl e))) (fun h => (List.mem_append.mp h).elim (fun h => ha w (List.mem_cons.mpr (Or.inr h))) (hb w))
theorem goodIn_sub {big ws : List Cond} (hm : ∀ w ∈ ws, w ∈ big) (h : ws.all goodWord = true) : GoodIn big ws := fun w hw => ⟨hm w hw, good_of_word (List.all_eq_true.mp h w hw)⟩
/-! ===== END ===== -/

/-! ===== BEGIN exceptions that leave a method, and their catching by the caller (launches without stack traces) ===== -/
section VXA
/-! The laws vx_back, vx_callV, vx_callS, vx_callSW, vx_throw0, vx_throwS follow proofs of the library, with one case more: JvmDerived/Free/Laws.lean (Back.of_free), Shelf42/LK1.lean (callV, callS), Shelf/KitTraced.lean (throwNew0V, throwNewS). -/
/-- where a method has thrown q: the class by its name, the cell, what was written, the world -/
def vx_T (XC : String → State → State → Prop) (st : State) (q : Addr) (t : State) (mc ms : Nat) (free : Addr → Prop) : Prop :=
  ∃ (E : String) (ce : Cell) (L : List Loc), XC E st t ∧ t.heap[q]? = some ce ∧ ce.vm = .none ∧ st.vm.findClass E = some ce.cls ∧ st.WarmedH t.vm ∧ st.sameButNew ({ t with vm := st.vm } : State) L mc ms ∧ ∀ z ∈ L, free z.base
def vx_Q (Qc : Array Value → State → Outcome → State → Prop) (XC : String → State → State → Prop) (mc ms : Nat) (free : Addr → Prop) : Array Value → State → Outcome → State → Prop := fun a st o t =>
  (Qc a st o t ∧ ∃ L, FrameEnd st o t L mc ms ∧ ∀ q ∈ L, free q.base) ∨ ∃ q, o = .threw q ∧ vx_T XC st q t mc ms free
/-- a callee that returns or throws -/
def vx_Met (l : Launch) (y : MethodName) (ws : List Cond) (rm : Room) (Pc : Array Value → State → Prop) (Qc : Array Value → State → Outcome → State → Prop) (XC : String → State → State → Prop) (mc ms : Nat) (free : Addr → Prop) : Prop :=
  MetFree l y (headSpec ws rm) Pc (fun _ _ _ _ _ => True) (vx_Q Qc XC mc ms free)
def vx_Post (XC : String → State → State → Prop) (mc ms : Nat) (free : Addr → Prop) : Pt → Array Value → Addr → Pt → Prop := fun A a q B =>
  ∃ (g : JFrame) (mk : MethodId) (t : State) (L : List Loc) (E : String) (ce : Cell), B.U.heap = t.heap ∧ B.U.vm = t.vm ∧ XC E (A.U.calling g mk a) t ∧ t.heap[q]? = some ce ∧ ce.vm = .none ∧ A.U.vm.findClass E = some ce.cls ∧ B.locs = A.locs ++ L ∧ (∀ z ∈ L, free z.base) ∧ B.cells = A.cells + mc ∧ B.slots = A.slots + ms
def vx_Back (l : Launch) (R : Room) (p : Program) (e : Env) (below : List Frame) (s : State) (sargs : Array Value) (y : MethodName) (len W9 : Nat)
    (Pre : Pt → Array Value → Prop) (Post : Pt → Array Value → Option Value → Pt → Prop) (PostX : Pt → Array Value → Addr → Pt → Prop) : Prop :=
  ∀ (m : MethodId) (meth : Method) (c : Code) (A : Pt) (g : JFrame) (ig : Instr) (mk : MethodId) (a : Array Value),
    Stand p l e R s m sargs below meth c A.U A.locs A.cells A.slots → g.method = m → g.locals.size = c.maxLocals → decode c.code g.pc = .ok (ig, len) →
    2 * g.monitorRoom + (g.stack.map fun v => v.category).sum ≤ W9 → A.U.methodNamed? y = some mk → Pre A a →
    (∃ (v : Option Value) (B : Pt), Stand p l e R s m sargs below meth c B.U B.locs B.cells B.slots ∧ Post A a v B ∧
      Steps p.tables e below (doInvoke e (A.U.setTop g) [] mk a).1 (B.U.setTop { g with pc := g.pc + len, stack := v.toList ++ g.stack })) ∨
    (∃ (q : Addr) (B : Pt), Stand p l e R s m sargs below meth c B.U B.locs B.cells B.slots ∧ PostX A a q B ∧
      Steps p.tables e below (doInvoke e (A.U.setTop g) [] mk a).1 ((B.U.setTop g).pushFrame (.throwing q)))
section Payer
variable {l : Launch} {R : Room} {p : Program} {e : Env} {below : List Frame} {s : State} {sargs : Array Value} {y : MethodName} {len W9 : Nat}
theorem vx_back {ws : List Cond} {rm : Room} {Pc : Array Value → State → Prop} {Qc : Array Value → State → Outcome → State → Prop} {XC : String → State → State → Prop} {mc ms : Nat} {free : Addr → Prop} {bytes : ByteArray} {maxL : Nat} {ret : Option FieldType}
    (hM : vx_Met l y ws rm Pc Qc XC mc ms free) (hblind : FrameBlind Pc) (hrc : rm.cells = mc) (hrs : rm.slots = ms)
    (hframes : rm.frames + 1 ≤ R.frames) (hlocals : W9 + (maxL + 11) + rm.locals ≤ R.locals)
    (hws : ∀ w ∈ ws, ∀ a' U, s.WarmedH U.vm → w.before a' U = true) (hcode : Cond.code y bytes maxL ret ∈ ws) (hinit : ∀ a' U, s.WarmedH U.vm → (Cond.initialized y.cls).before a' U = true) :
    vx_Back l R p e below s sargs y len W9 (PreOf R mc ms Pc) (PostOf Qc mc ms free) (vx_Post XC mc ms free) := by
  intro m meth c A g ig mk a X hg hsize hdg hW hn hp
  have h1 : (headSpec ws rm).pre.before a A.U = true := atoms_intro fun w hw => hws w hw _ _ X.warmed
  have h2 : (Cond.code y bytes maxL ret).before a A.U = true := hws _ hcode _ _ X.warmed
  have h3 : (Cond.initialized y.cls).before a A.U = true := hinit _ _ X.warmed
  have h4 : A.cells + (headSpec ws rm).room.cells ≤ R.cells := by rw [show (headSpec ws rm).room.cells = mc from hrc]; exact hp.1
  have h5 : A.slots + (headSpec ws rm).room.slots ≤ R.slots := by rw [show (headSpec ws rm).room.slots = ms from hrs]; exact hp.2.1
  have hPc : Pc a (A.U.calling g mk a) := hblind _ _ _ _ hp.2.2
  obtain ⟨U, Ls, c0, s0⟩ := A
  dsimp only [Pt.U, Pt.locs, Pt.cells, Pt.slots] at h1 h2 h3 h4 h5 X hn hPc ⊢
  obtain ⟨methY, cY, hmY, hcY, -, hlY, -, -, -, -⟩ := Cond.code_spec hn h2
  obtain ⟨kY, hkY, -⟩ := className_of_methodNamed hn
  have hinitY : kY.init = .initialized := Cond.initialized_spec (findClass_of_methodNamed hn) hkY h3
  have h : At U g.method c below := by rw [hg]; exact X.here
  have hlocals9 : W9 + (maxL + 11) + (headSpec ws rm).room.locals ≤ R.locals := hlocals
  have happ : (headSpec ws rm).appliesLoose y e.platform (U.calling g mk a) = true :=
    Spec.appliesLoose_calling (g := g) h hdg hn hkY hinitY
      (X.room_calling (g := g) (R' := (headSpec ws rm).room) hsize hmY hcY hframes (by rw [hlY]; omega) h4 h5) h1
  obtain ⟨mid, hmid⟩ := h.above
  have hfr : (U.setTop g).frames = (.java g :: mid) ++ below := by rw [State.frames_setTop' g h.top, hmid]; rfl
  obtain ⟨o, s₂, hsteps, -, hend, hq⟩ := Steps.callFree hM p X.admits X.cas X.clock (acts := []) hfr happ hPc trivial
  have hq' : vx_Q Qc XC mc ms free a (U.calling g mk a) o s₂ := hq
  rw [State.frames_setTop' g h.top] at hend
  obtain ⟨g₀, hg0⟩ := Option.isSome_iff_exists.mp h.top
  obtain ⟨r, hr⟩ := State.topJava?_eq_some.mp hg0
  have hr' : (({ U with heap := s₂.heap, slotsUsed := s₂.slotsUsed } : State).setVm s₂.vm).frames = .java g₀ :: r := hr
  rcases hq' with ⟨hqc, L, hfe, hL⟩ | ⟨q, rfl, E, ce, L, hx, hce, hcv, hcl, hW₂, hsm, hL⟩
  · obtain ⟨⟨v, rfl⟩, hW₂, e2, q2, q3, q4, q5, q6⟩ := id hfe
    have e3 : s₂ = ({ (U.calling g mk a).setFrames s₂.frames with heap := s₂.heap, slotsUsed := s₂.slotsUsed } : State).setVm s₂.vm := by
      have : s₂ = ({ s₂ with vm := (U.calling g mk a).vm } : State).setVm s₂.vm := rfl
      rw [e2] at this
      exact this
    obtain ⟨c₂, i₂, len₂, hc₂, hd₂, hf₂⟩ := hend
    have hW' : U.WarmedH s₂.vm := hW₂
    have hcc : c₂ = c := by
      have h1 : s₂.code? g.method = U.code? g.method := by
        rw [State.code?_eq, State.code?_eq, hW'.alike.method?]
      exact Option.some.inj (hc₂.symm.trans (h1.trans h.code))
    subst hcc
    have hlen : len₂ = len := by rw [hdg] at hd₂; cases hd₂; rfl
    subst hlen
    have hs₂ : s₂ = (({ U with heap := s₂.heap, slotsUsed := s₂.slotsUsed } : State).setVm s₂.vm).setTop { g with pc := g.pc + len₂, stack := v.toList ++ g.stack } := by
      refine e3.trans ?_
      rw [hf₂, State.calling_eq h.top, State.setFrames_setFrames, State.setTop_of_frames _ hr', hr]
      rfl
    have hsame : U.sameButNew ({ U with heap := s₂.heap, slotsUsed := s₂.slotsUsed } : State) L mc ms := by
      refine ⟨?_, q2, q3, q4, q5, q6⟩
      obtain ⟨t, ht, -⟩ := State.frames_cons hr
      show ({ U with heap := s₂.heap, slotsUsed := s₂.slotsUsed } : State) = { U.setFrames U.frames with heap := s₂.heap, slotsUsed := s₂.slotsUsed }
      rw [State.setFrames_self ht]
    subst hg
    refine Or.inl ⟨v, ⟨(({ U with heap := s₂.heap, slotsUsed := s₂.slotsUsed } : State).setVm s₂.vm), Ls ++ L, c0 + mc, s0 + ms⟩,
      ⟨X.admits, X.cas, X.clock, X.frames, X.room, X.hears, X.method, X.code, (X.here.setHeapUsed s₂.heap s₂.slotsUsed).setVm hW'.alike, X.tail, State.WarmedH.trans X.warmed hW', X.limits, X.bytes, X.same.trans (hsame.setVm s.vm)⟩,
      ⟨g, mk, s₂, L, rfl, rfl, hqc, rfl, hL, rfl, rfl⟩, ?_⟩
    show Steps p.tables e below _ ((({ U with heap := s₂.heap, slotsUsed := s₂.slotsUsed } : State).setVm s₂.vm).setTop { g with pc := g.pc + len₂, stack := v.toList ++ g.stack })
    rw [← hs₂]
    exact hsteps
  · obtain ⟨e2, q2, q3, q4, q5, q6⟩ := id hsm
    have e3 : s₂ = ({ (U.calling g mk a).setFrames s₂.frames with heap := s₂.heap, slotsUsed := s₂.slotsUsed } : State).setVm s₂.vm := by
      have : s₂ = ({ s₂ with vm := (U.calling g mk a).vm } : State).setVm s₂.vm := rfl
      rw [e2] at this
      exact this
    have hf₂ : s₂.frames = .throwing q :: .java g :: U.frames.tail := hend
    have hW' : U.WarmedH s₂.vm := hW₂
    have hs₂ : s₂ = ((({ U with heap := s₂.heap, slotsUsed := s₂.slotsUsed } : State).setVm s₂.vm).setTop g).pushFrame (.throwing q) := by
      refine e3.trans ?_
      rw [hf₂, State.calling_eq h.top, State.setFrames_setFrames, State.pushFrame, State.frames_setTop _ hr', State.setTop_of_frames _ hr', State.setFrames_setFrames, hr]
      rfl
    have hsame : U.sameButNew ({ U with heap := s₂.heap, slotsUsed := s₂.slotsUsed } : State) L mc ms := by
      refine ⟨?_, q2, q3, q4, q5, q6⟩
      obtain ⟨t, ht, -⟩ := State.frames_cons hr
      show ({ U with heap := s₂.heap, slotsUsed := s₂.slotsUsed } : State) = { U.setFrames U.frames with heap := s₂.heap, slotsUsed := s₂.slotsUsed }
      rw [State.setFrames_self ht]
    subst hg
    refine Or.inr ⟨q, ⟨(({ U with heap := s₂.heap, slotsUsed := s₂.slotsUsed } : State).setVm s₂.vm), Ls ++ L, c0 + mc, s0 + ms⟩,
      ⟨X.admits, X.cas, X.clock, X.frames, X.room, X.hears, X.method, X.code, (X.here.setHeapUsed s₂.heap s₂.slotsUsed).setVm hW'.alike, X.tail, State.WarmedH.trans X.warmed hW', X.limits, X.bytes, X.same.trans (hsame.setVm s.vm)⟩,
      ⟨g, mk, s₂, L, E, ce, rfl, rfl, hx, hce, hcv, hcl, rfl, hL, rfl, rfl⟩, ?_⟩
    show Steps p.tables e below _ (((({ U with heap := s₂.heap, slotsUsed := s₂.slotsUsed } : State).setVm s₂.vm).setTop g).pushFrame (.throwing q))
    rw [← hs₂]
    exact hsteps
end Payer
section Calls
variable {p : Program} {l : Launch} {e : Env} {R : Room} {s : State} {m : MethodId} {args : Array Value} {below : List Frame} {meth : Method} {c : Code} {T : State} {locs : List Loc} {cells slots : Nat}
theorem vx_callV (X : Stand p l e R s m args below meth c T locs cells slots) (hexec : p.tables.exec = Jvm.exec) {own C : String} {index : Nat} {y : MethodName} {bytes : ByteArray} {maxL : Nat} {ret : Option FieldType}
    (hown : s.vm.findClass own = some m.cls) (hlink : (Cond.methodLink own index y).before args s = true) (hinst : (Cond.instanceMethod y).before args s = true) (hsel : (Cond.selects C y y).before args s = true)
    (hcode : (Cond.code y bytes maxL ret).before args s = true) (hy : y.cls ≠ "java/lang/invoke/MethodHandle" ∧ y.cls ≠ "java/lang/invoke/VarHandle")
    {W9 : Nat} {Pre : Pt → Array Value → Prop} {Post : Pt → Array Value → Option Value → Pt → Prop} {PostX : Pt → Array Value → Addr → Pt → Prop} (hK : vx_Back l R p e below s args y 3 W9 Pre Post PostX)
    {b : Addr} {cellB : Cell} (hcell : T.heap[b]? = some cellB) (hobj : cellB.vm.isStatics = false) (hcls : s.vm.findClass C = some cellB.cls)
    {g : JFrame} (hg : g.method = m) (hsize : g.locals.size = c.maxLocals) {argsL rest : List Value} (hlen : ∀ sig, parseMethodDescriptor y.desc = some sig → argsL.length = sig.parameters.length)
    (hstack : g.stack = argsL.reverse ++ .ref b :: rest) (hW : 2 * g.monitorRoom + (rest.map fun v => v.category).sum ≤ W9) (hdg : decode c.code g.pc = .ok (.invokevirtual index, 3))
    (hpre : ∀ vm₁, s.WarmedH vm₁ → Pre ⟨T.setVm vm₁, locs, cells, slots⟩ (Value.ref b :: argsL).toArray) :
    (∃ (v : Option Value) (vm₁ : Vm) (B : Pt), s.WarmedH vm₁ ∧ Stand p l e R s m args below meth c B.U B.locs B.cells B.slots ∧ Post ⟨T.setVm vm₁, locs, cells, slots⟩ (Value.ref b :: argsL).toArray v B ∧
      ∀ target, Steps p.tables e below (B.U.setTop { g with pc := g.pc + 3, stack := v.toList ++ rest }) target → Steps p.tables e below (T.setTop g) target) ∨
    (∃ (q : Addr) (vm₁ : Vm) (B : Pt), s.WarmedH vm₁ ∧ Stand p l e R s m args below meth c B.U B.locs B.cells B.slots ∧ PostX ⟨T.setVm vm₁, locs, cells, slots⟩ (Value.ref b :: argsL).toArray q B ∧
      Steps p.tables e below (T.setTop g) ((B.U.setTop { g with stack := rest }).pushFrame (.throwing q))) := by
  obtain ⟨mk, methM, hnamed, hmethM, hstM, habM⟩ := Cond.instanceMethod_spec hinst
  obtain ⟨methM', cM, hmethM', -, -, -, -, -, -, hsigM⟩ := Cond.code_spec hnamed hcode
  cases hmethM.symm.trans hmethM'
  obtain ⟨c2, r2, m2, q1, q2, q3, q4, kP, hkP, hkPi⟩ := Cond.selects_spec hsel
  cases hcls.symm.trans q1
  cases (State.methodFound?_of_named hnamed hy).symm.trans q2
  cases hnamed.symm.trans q3
  have hselP : selectMethod e.platform s.vm cellB.cls mk = .method mk := by rw [Launch.admits_selectMethod X.admits]; exact q4
  obtain ⟨vm₁, X₁, hstep₁⟩ := X.invokevirtual hexec hown hlink hnamed hmethM hstM hkP hkPi hy (a := b) (cell := cellB) hcell
    (fun z h => by rw [h] at hobj; cases hobj) hselP hmethM habM hkP hkPi (g := g) hg (argsL := argsL) (rest := rest) (hlen _ hsigM) hstack hdg
  rcases hK m meth c ⟨T.setVm vm₁, locs, cells, slots⟩ { g with stack := rest } (.invokevirtual index) mk (Value.ref b :: argsL).toArray X₁ hg hsize hdg hW (X₁.named hnamed) (hpre vm₁ X₁.warmed) with ⟨v, B, X', hpost, hsteps⟩ | ⟨q, B, X', hpost, hsteps⟩
  · exact Or.inl ⟨v, vm₁, B, X₁.warmed, X', hpost, fun target h => hstep₁ _ fun acts => by rw [doInvoke_state]; exact hsteps.trans h⟩
  · exact Or.inr ⟨q, vm₁, B, X₁.warmed, X', hpost, hstep₁ _ fun acts => by rw [doInvoke_state]; exact hsteps⟩
theorem vx_callS (X : Stand p l e R s m args below meth c T locs cells slots) (hexec : p.tables.exec = Jvm.exec) {own : String} {index : Nat} {y : MethodName} {bytes : ByteArray} {maxL : Nat} {ret : Option FieldType}
    (hown : s.vm.findClass own = some m.cls) (hlink : (Cond.methodLink own index y).before args s = true) (hstat : (Cond.static y).before args s = true) (hinit : (Cond.initialized y.cls).before args s = true)
    (hcode : (Cond.code y bytes maxL ret).before args s = true) (hy : y.cls ≠ "java/lang/invoke/MethodHandle" ∧ y.cls ≠ "java/lang/invoke/VarHandle")
    {W9 : Nat} {Pre : Pt → Array Value → Prop} {Post : Pt → Array Value → Option Value → Pt → Prop} {PostX : Pt → Array Value → Addr → Pt → Prop} (hK : vx_Back l R p e below s args y 3 W9 Pre Post PostX)
    {g : JFrame} (hg : g.method = m) (hsize : g.locals.size = c.maxLocals) {argsL rest : List Value} (hlen : ∀ sig, parseMethodDescriptor y.desc = some sig → argsL.length = sig.parameters.length)
    (hstack : g.stack = argsL.reverse ++ rest) (hW : 2 * g.monitorRoom + (rest.map fun v => v.category).sum ≤ W9) (hdg : decode c.code g.pc = .ok (.invokestatic index, 3))
    (hpre : ∀ vm₁, s.WarmedH vm₁ → Pre ⟨T.setVm vm₁, locs, cells, slots⟩ argsL.toArray) :
    (∃ (v : Option Value) (vm₁ : Vm) (B : Pt), s.WarmedH vm₁ ∧ Stand p l e R s m args below meth c B.U B.locs B.cells B.slots ∧ Post ⟨T.setVm vm₁, locs, cells, slots⟩ argsL.toArray v B ∧
      ∀ target, Steps p.tables e below (B.U.setTop { g with pc := g.pc + 3, stack := v.toList ++ rest }) target → Steps p.tables e below (T.setTop g) target) ∨
    (∃ (q : Addr) (vm₁ : Vm) (B : Pt), s.WarmedH vm₁ ∧ Stand p l e R s m args below meth c B.U B.locs B.cells B.slots ∧ PostX ⟨T.setVm vm₁, locs, cells, slots⟩ argsL.toArray q B ∧
      Steps p.tables e below (T.setTop g) ((B.U.setTop { g with stack := rest }).pushFrame (.throwing q))) := by
  obtain ⟨mk, hnamed⟩ := Cond.code_named hcode
  obtain ⟨methM, cM, hmethM, -, -, -, -, -, -, hsigM⟩ := Cond.code_spec hnamed hcode
  have hstatic : methM.isStatic = true := Cond.static_spec hnamed hmethM hstat
  obtain ⟨kP, hkP, -⟩ := className_of_methodNamed hnamed
  have hinitP : kP.init = .initialized := Cond.initialized_spec (findClass_of_methodNamed hnamed) hkP hinit
  obtain ⟨vm₁, X₁, hstep₁⟩ := X.invokestatic hexec hown hlink hnamed hmethM hstatic hkP hinitP hy (g := g) hg (argsL := argsL) (rest := rest) (hlen _ hsigM) hstack hdg
  rcases hK m meth c ⟨T.setVm vm₁, locs, cells, slots⟩ { g with stack := rest } (.invokestatic index) mk argsL.toArray X₁ hg hsize hdg hW (X₁.named hnamed) (hpre vm₁ X₁.warmed) with ⟨v, B, X', hpost, hsteps⟩ | ⟨q, B, X', hpost, hsteps⟩
  · exact Or.inl ⟨v, vm₁, B, X₁.warmed, X', hpost, fun target h => hstep₁ _ fun acts => by rw [doInvoke_state]; exact hsteps.trans h⟩
  · exact Or.inr ⟨q, vm₁, B, X₁.warmed, X', hpost, hstep₁ _ fun acts => by rw [doInvoke_state]; exact hsteps⟩
end Calls
theorem vx_cls {s : State} {T : State} {vm₁ : Vm} {E : String} {k : ClassId} (hW : s.WarmedH vm₁) (h : (T.setVm vm₁).vm.findClass E = some k) : s.vm.findClass E = some k := by
  have h1 : vm₁.findClass E = some k := h
  rw [hW.alike.findClass] at h1
  exact h1
/-- the method's frame g, with q thrown over it -/
def vx_W (p : Program) (l : Launch) (e : Env) (R : Room) (s : State) (m : MethodId) (args : Array Value) (below : List Frame) (meth : Method) (c : Code) (H : Heap) (locs : List Loc) (cells slots : Nat) (Q : State → Prop) (g : JFrame) (q : Addr) : Prop :=
  ∀ T : State, T.heap = H → Stand p l e R s m args below meth c T locs cells slots → ∃ t, Steps p.tables e below ((T.setTop g).pushFrame (.throwing q)) t ∧ Q t
def vx_Run (p : Program) (l : Launch) (e : Env) (R : Room) (s : State) (m : MethodId) (args : Array Value) (below : List Frame) (meth : Method) (c : Code) (H : Heap) (locs : List Loc) (cells slots mc ms : Nat) (g : JFrame) (rest : List Value) (Qa : State → Outcome → State → Prop) (XC : String → State → State → Prop) (free : Addr → Prop) : Prop :=
  ∀ T : State, T.heap = H → Stand p l e R s m args below meth c T locs cells slots →
    (∃ (v : Option Value) (st₀ t T' : State) (L : List Loc), st₀.heap = H ∧ Stand p l e R s m args below meth c T' (locs ++ L) (cells + mc) (slots + ms) ∧ (∀ q ∈ L, free q.base) ∧ T'.heap = t.heap ∧ T'.vm = t.vm ∧ Qa st₀ (.returned v) t ∧
      Goes p e below T g T' { g with pc := g.pc + 3, stack := v.toList ++ rest }) ∨
    (∃ (q : Addr) (st₀ t T' : State) (L : List Loc) (E : String) (ce : Cell), st₀.heap = H ∧ Stand p l e R s m args below meth c T' (locs ++ L) (cells + mc) (slots + ms) ∧ (∀ z ∈ L, free z.base) ∧ T'.heap = t.heap ∧ T'.vm = t.vm ∧ XC E st₀ t ∧ t.heap[q]? = some ce ∧ ce.vm = .none ∧ s.vm.findClass E = some ce.cls ∧
      Steps p.tables e below (T.setTop g) ((T'.setTop { g with stack := rest }).pushFrame (.throwing q)))
def vx_X {S : Type} (px : S → Prop) (B : String → S → State → Prop) (A : Nat → Prop) : String → State → State → Prop := fun E st t => ∃ u : S, px u ∧ B E u t ∧ va_F A st t
section Runs
variable {p : Program} {l : Launch} {e : Env} {R : Room} {s : State} {m : MethodId} {args : Array Value} {below : List Frame} {meth : Method} {c : Code} {H : Heap} {locs : List Loc} {cells slots : Nat}
variable {y : MethodName} {bytes cc : ByteArray} {maxL nL mc ms n index : Nat} {ret : Option FieldType} {ws : List Cond} {rm : Room} {Pc : Array Value → State → Prop} {Qc : Array Value → State → Outcome → State → Prop} {XC : String → State → State → Prop} {free : Addr → Prop} {Ts : List Cond} {own C : String} {b : Addr} {As rest : List Value} {g : JFrame}
theorem vx_callBack (cb : CallB R s args own index y bytes maxL ret ws rm mc ms n) (hM : vx_Met l y ws rm Pc Qc XC mc ms free) (hbl : FrameBlind Pc) : vx_Back l R p e below s args y 3 8 (PreOf R mc ms Pc) (PostOf Qc mc ms free) (vx_Post XC mc ms free) := by
  obtain ⟨hrc, hrs, hfr, hlo, hws, hcw, -, hini, -⟩ := cb
  exact vx_back (bytes := bytes) (maxL := maxL) (ret := ret) hM hbl hrc hrs hfr hlo hws hcw (fun a' U hW => word_at hW (Or.inl (by first | rfl | simp [Cond.onTables, Cond.keeps, Cond.steady])) hini)
theorem vx_runV (S : CallFix p m c cc nL s args Ts own) (hM : vx_Met l y ws rm Pc Qc XC mc ms free) (cw : CallW R s args own C index y bytes maxL ret ws rm mc ms n) (hp : PreV s H C b Pc As)
    (hg : g.method = m) (hn : As.length = n) (hsize : g.locals.size = nL) (hstack : g.stack = As.reverse ++ .ref b :: rest) (hW : 2 * g.monitorRoom + (rest.map fun v => v.category).sum ≤ 8) (hdg : decode cc g.pc = .ok (.invokevirtual index, 3)) (hf : cells + mc ≤ R.cells ∧ slots + ms ≤ R.slots) :
    vx_Run p l e R s m args below meth c H locs cells slots mc ms g rest (Qc (Value.ref b :: As).toArray) XC free := by
  have hK : vx_Back l R p e below s args y 3 8 (PreOf R mc ms Pc) (PostOf Qc mc ms free) (vx_Post XC mc ms free) := vx_callBack cw.1 hM hp.1
  obtain ⟨⟨-, -, -, -, -, -, hcode, -, hy, hlen, hl⟩, hin, hse⟩ := cw
  obtain ⟨hx, hb, hml, ho, -⟩ := S
  obtain ⟨-, ⟨cellB, hcB, hoB, hclB⟩, hPc⟩ := hp
  intro T hT X
  rcases vx_callV X hx (C := C) (bytes := bytes) (maxL := maxL) (ret := ret) ho hl hin hse hcode hy hK (by rw [hT]; exact hcB) hoB hclB hg (hsize.trans hml.symm) (argsL := As) (rest := rest) (fun sig h => hn.trans (hlen sig h)) hstack hW (by rw [hb]; exact hdg)
    (fun vm₁ hW₁ => ⟨hf.1, hf.2, hPc (T.setVm vm₁) hT hW₁⟩) with ⟨v, vm₁, ⟨U', l2, c2, s2⟩, hW₁, X', ⟨g', mk, t, L, e1, e2, hq, h1, hL, h2, h3⟩, st⟩ | ⟨q, vm₁, ⟨U', l2, c2, s2⟩, hW₁, X', ⟨g', mk, t, L, E, ce, e1, e2, hq, hce, hcv, hcl, h1, hL, h2, h3⟩, st⟩
  · dsimp only [Pt.U, Pt.locs, Pt.cells, Pt.slots] at X' e1 e2 h1 h2 h3 st
    subst h1; subst h2; subst h3
    exact Or.inl ⟨v, (T.setVm vm₁).calling g' mk (Value.ref b :: As).toArray, t, U', L, hT, X', hL, e1, e2, hq, st⟩
  · dsimp only [Pt.U, Pt.locs, Pt.cells, Pt.slots] at X' e1 e2 h1 h2 h3 st hcl
    subst h1; subst h2; subst h3
    exact Or.inr ⟨q, (T.setVm vm₁).calling g' mk (Value.ref b :: As).toArray, t, U', L, E, ce, hT, X', hL, e1, e2, hq, hce, hcv, vx_cls hW₁ hcl, st⟩
theorem vx_runS (S : CallFix p m c cc nL s args Ts own) (hM : vx_Met l y ws rm Pc Qc XC mc ms free) (cw : CallB R s args own index y bytes maxL ret ws rm mc ms n ∧ (Cond.static y).before args s = true) (hp : PreS s H Pc As)
    (hg : g.method = m) (hn : As.length = n) (hsize : g.locals.size = nL) (hstack : g.stack = As.reverse ++ rest) (hW : 2 * g.monitorRoom + (rest.map fun v => v.category).sum ≤ 8) (hdg : decode cc g.pc = .ok (.invokestatic index, 3)) (hf : cells + mc ≤ R.cells ∧ slots + ms ≤ R.slots) :
    vx_Run p l e R s m args below meth c H locs cells slots mc ms g rest (Qc As.toArray) XC free := by
  have hK : vx_Back l R p e below s args y 3 8 (PreOf R mc ms Pc) (PostOf Qc mc ms free) (vx_Post XC mc ms free) := vx_callBack cw.1 hM hp.1
  obtain ⟨⟨-, -, -, -, -, -, hcode, hini, hy, hlen, hl⟩, hstt⟩ := cw
  obtain ⟨hx, hb, hml, ho, -⟩ := S
  intro T hT X
  rcases vx_callS X hx (bytes := bytes) (maxL := maxL) (ret := ret) ho hl hstt hini hcode hy hK hg (hsize.trans hml.symm) (argsL := As) (rest := rest) (fun sig h => hn.trans (hlen sig h)) hstack hW (by rw [hb]; exact hdg)
    (fun vm₁ hW₁ => ⟨hf.1, hf.2, hp.2 (T.setVm vm₁) hT hW₁⟩) with ⟨v, vm₁, ⟨U', l2, c2, s2⟩, hW₁, X', ⟨g', mk, t, L, e1, e2, hq, h1, hL, h2, h3⟩, st⟩ | ⟨q, vm₁, ⟨U', l2, c2, s2⟩, hW₁, X', ⟨g', mk, t, L, E, ce, e1, e2, hq, hce, hcv, hcl, h1, hL, h2, h3⟩, st⟩
  · dsimp only [Pt.U, Pt.locs, Pt.cells, Pt.slots] at X' e1 e2 h1 h2 h3 st
    subst h1; subst h2; subst h3
    exact Or.inl ⟨v, (T.setVm vm₁).calling g' mk As.toArray, t, U', L, hT, X', hL, e1, e2, hq, st⟩
  · dsimp only [Pt.U, Pt.locs, Pt.cells, Pt.slots] at X' e1 e2 h1 h2 h3 st hcl
    subst h1; subst h2; subst h3
    exact Or.inr ⟨q, (T.setVm vm₁).calling g' mk As.toArray, t, U', L, E, ce, hT, X', hL, e1, e2, hq, hce, hcv, vx_cls hW₁ hcl, st⟩
end Runs
section Rows
variable {p : Program} {l : Launch} {e : Env} {R : Room} {s : State} {m : MethodId} {args : Array Value} {below : List Frame} {meth : Method} {c : Code} {H : Heap} {locs : List Loc} {cells slots : Nat} {Q : State → Prop}
variable {mc ms : Nat} {free : Addr → Prop} {A0 A1 : Nat → Prop} {H0 : Heap} {a : Array Value} {pc : Nat} {ls : Array Slot} {st0 rest : List Value}
theorem vx_keep {st₀ t T' : State} {L : List Loc} (h0 : st₀.heap = H) (e1 : T'.heap = t.heap) (hS : va_S A0 H0 H locs) (hA : ∀ q, q < H.size → A1 q → A0 q) (hf : ∀ q, free q → A0 q) (hL : ∀ q ∈ L, free q.base) (hF : va_F A1 st₀ t) :
    H.size ≤ T'.heap.size ∧ (∀ q : Nat, q < H.size → ¬ A1 q → T'.heap[q]? = H[q]?) ∧ va_S A0 H0 T'.heap (locs ++ L) := by
  obtain ⟨hz, hk⟩ := hF
  rw [h0] at hz hk
  exact ⟨by rw [e1]; exact hz, fun q h1 h2 => by rw [e1]; exact hk q h1 h2,
    ⟨Nat.le_trans hS.1 (by rw [e1]; exact hz), fun q h1 h2 => by rw [e1, hk q (Nat.lt_of_lt_of_le h1 hS.1) (fun z => h2 (hA q (Nat.lt_of_lt_of_le h1 hS.1) z))]; exact hS.2.1 q h1 h2, fun q hq => by
      rcases List.mem_append.mp hq with h | h
      · exact hS.2.2 q h
      · exact hf _ (hL q h)⟩⟩
theorem vx_calli {S SX : Type} {post : Int32 → S → Prop} {px : SX → Prop} {B : S → State → Prop} {BX : String → SX → State → Prop} {AX : Nat → Prop} (hr : vx_Run p l e R s m args below meth c H locs cells slots mc ms (F0 m pc ls st0) rest (va_Qi post B A1 a) (vx_X px BX AX) free) (hS : va_S A0 H0 H locs) (hA : ∀ q, q < H.size → A1 q → A0 q) (hf : ∀ q, free q → A0 q) (hAX : ∀ q, q < H.size → AX q → A0 q)
    (kx : ∀ (E : String) (ce : Cell) (q9 : Addr) (u : SX) (t : State) (H1 : Heap) (locs1 : List Loc), t.heap = H1 → s.vm.Alike t.vm → px u → BX E u t → H.size ≤ H1.size → (∀ q : Nat, q < H.size → ¬ AX q → H1[q]? = H[q]?) → va_S A0 H0 H1 locs1 → H1[q9]? = some ce → ce.vm = .none → s.vm.findClass E = some ce.cls → vx_W p l e R s m args below meth c H1 locs1 (cells + mc) (slots + ms) Q (F0 m pc ls rest) q9)
    (kk : ∀ (r : Int32) (u : S) (t : State) (H1 : Heap) (locs1 : List Loc), t.heap = H1 → s.vm.Alike t.vm → post r u → B u t → H.size ≤ H1.size → (∀ q : Nat, q < H.size → ¬ A1 q → H1[q]? = H[q]?) → va_S A0 H0 H1 locs1 → W p l e R s m args below meth c H1 locs1 (cells + mc) (slots + ms) Q (F0 m (pc + 3) ls (.int r :: rest))) : W p l e R s m args below meth c H locs cells slots Q (F0 m pc ls st0) := by
  intro T hT X
  rcases hr T hT X with ⟨v, st₀, t, T', L, h0, X', hL, e1, e2, ⟨⟨r, u, hv, hp, hb⟩, hF⟩, st⟩ | ⟨q, st₀, t, T', L, E, ce, h0, X', hL, e1, e2, ⟨u, hp, hb, hF⟩, hce, hcv, hcl, st⟩
  · cases hv
    obtain ⟨k1, k2, k3⟩ := vx_keep h0 e1 hS hA hf hL hF
    obtain ⟨t2, a1, b1⟩ := kk r u t T'.heap (locs ++ L) e1.symm (by rw [← e2]; exact X'.warmed.alike) hp hb k1 k2 k3 T' rfl X'
    exact ⟨t2, st t2 a1, b1⟩
  · obtain ⟨k1, k2, k3⟩ := vx_keep h0 e1 hS hAX hf hL hF
    obtain ⟨t2, a1, b1⟩ := kx E ce q u t T'.heap (locs ++ L) e1.symm (by rw [← e2]; exact X'.warmed.alike) hp hb k1 k2 k3 (by rw [e1]; exact hce) hcv hcl T' rfl X'
    exact ⟨t2, st.trans a1, b1⟩
theorem vx_calll {S SX : Type} {post : Int64 → S → Prop} {px : SX → Prop} {B : S → State → Prop} {BX : String → SX → State → Prop} {AX : Nat → Prop} (hr : vx_Run p l e R s m args below meth c H locs cells slots mc ms (F0 m pc ls st0) rest (va_Ql post B A1 a) (vx_X px BX AX) free) (hS : va_S A0 H0 H locs) (hA : ∀ q, q < H.size → A1 q → A0 q) (hf : ∀ q, free q → A0 q) (hAX : ∀ q, q < H.size → AX q → A0 q)
    (kx : ∀ (E : String) (ce : Cell) (q9 : Addr) (u : SX) (t : State) (H1 : Heap) (locs1 : List Loc), t.heap = H1 → s.vm.Alike t.vm → px u → BX E u t → H.size ≤ H1.size → (∀ q : Nat, q < H.size → ¬ AX q → H1[q]? = H[q]?) → va_S A0 H0 H1 locs1 → H1[q9]? = some ce → ce.vm = .none → s.vm.findClass E = some ce.cls → vx_W p l e R s m args below meth c H1 locs1 (cells + mc) (slots + ms) Q (F0 m pc ls rest) q9)
    (kk : ∀ (r : Int64) (u : S) (t : State) (H1 : Heap) (locs1 : List Loc), t.heap = H1 → s.vm.Alike t.vm → post r u → B u t → H.size ≤ H1.size → (∀ q : Nat, q < H.size → ¬ A1 q → H1[q]? = H[q]?) → va_S A0 H0 H1 locs1 → W p l e R s m args below meth c H1 locs1 (cells + mc) (slots + ms) Q (F0 m (pc + 3) ls (.long r :: rest))) : W p l e R s m args below meth c H locs cells slots Q (F0 m pc ls st0) := by
  intro T hT X
  rcases hr T hT X with ⟨v, st₀, t, T', L, h0, X', hL, e1, e2, ⟨⟨r, u, hv, hp, hb⟩, hF⟩, st⟩ | ⟨q, st₀, t, T', L, E, ce, h0, X', hL, e1, e2, ⟨u, hp, hb, hF⟩, hce, hcv, hcl, st⟩
  · cases hv
    obtain ⟨k1, k2, k3⟩ := vx_keep h0 e1 hS hA hf hL hF
    obtain ⟨t2, a1, b1⟩ := kk r u t T'.heap (locs ++ L) e1.symm (by rw [← e2]; exact X'.warmed.alike) hp hb k1 k2 k3 T' rfl X'
    exact ⟨t2, st t2 a1, b1⟩
  · obtain ⟨k1, k2, k3⟩ := vx_keep h0 e1 hS hAX hf hL hF
    obtain ⟨t2, a1, b1⟩ := kx E ce q u t T'.heap (locs ++ L) e1.symm (by rw [← e2]; exact X'.warmed.alike) hp hb k1 k2 k3 (by rw [e1]; exact hce) hcv hcl T' rfl X'
    exact ⟨t2, st.trans a1, b1⟩
theorem vx_callf {S SX : Type} {post : UInt32 → S → Prop} {px : SX → Prop} {B : S → State → Prop} {BX : String → SX → State → Prop} {AX : Nat → Prop} (hr : vx_Run p l e R s m args below meth c H locs cells slots mc ms (F0 m pc ls st0) rest (va_Qf post B A1 a) (vx_X px BX AX) free) (hS : va_S A0 H0 H locs) (hA : ∀ q, q < H.size → A1 q → A0 q) (hf : ∀ q, free q → A0 q) (hAX : ∀ q, q < H.size → AX q → A0 q)
    (kx : ∀ (E : String) (ce : Cell) (q9 : Addr) (u : SX) (t : State) (H1 : Heap) (locs1 : List Loc), t.heap = H1 → s.vm.Alike t.vm → px u → BX E u t → H.size ≤ H1.size → (∀ q : Nat, q < H.size → ¬ AX q → H1[q]? = H[q]?) → va_S A0 H0 H1 locs1 → H1[q9]? = some ce → ce.vm = .none → s.vm.findClass E = some ce.cls → vx_W p l e R s m args below meth c H1 locs1 (cells + mc) (slots + ms) Q (F0 m pc ls rest) q9)
    (kk : ∀ (r : UInt32) (u : S) (t : State) (H1 : Heap) (locs1 : List Loc), t.heap = H1 → s.vm.Alike t.vm → post r u → B u t → H.size ≤ H1.size → (∀ q : Nat, q < H.size → ¬ A1 q → H1[q]? = H[q]?) → va_S A0 H0 H1 locs1 → W p l e R s m args below meth c H1 locs1 (cells + mc) (slots + ms) Q (F0 m (pc + 3) ls (.float r :: rest))) : W p l e R s m args below meth c H locs cells slots Q (F0 m pc ls st0) := by
  intro T hT X
  rcases hr T hT X with ⟨v, st₀, t, T', L, h0, X', hL, e1, e2, ⟨⟨r, u, hv, hp, hb⟩, hF⟩, st⟩ | ⟨q, st₀, t, T', L, E, ce, h0, X', hL, e1, e2, ⟨u, hp, hb, hF⟩, hce, hcv, hcl, st⟩
  · cases hv
    obtain ⟨k1, k2, k3⟩ := vx_keep h0 e1 hS hA hf hL hF
    obtain ⟨t2, a1, b1⟩ := kk r u t T'.heap (locs ++ L) e1.symm (by rw [← e2]; exact X'.warmed.alike) hp hb k1 k2 k3 T' rfl X'
    exact ⟨t2, st t2 a1, b1⟩
  · obtain ⟨k1, k2, k3⟩ := vx_keep h0 e1 hS hAX hf hL hF
    obtain ⟨t2, a1, b1⟩ := kx E ce q u t T'.heap (locs ++ L) e1.symm (by rw [← e2]; exact X'.warmed.alike) hp hb k1 k2 k3 (by rw [e1]; exact hce) hcv hcl T' rfl X'
    exact ⟨t2, st.trans a1, b1⟩
theorem vx_calld {S SX : Type} {post : UInt64 → S → Prop} {px : SX → Prop} {B : S → State → Prop} {BX : String → SX → State → Prop} {AX : Nat → Prop} (hr : vx_Run p l e R s m args below meth c H locs cells slots mc ms (F0 m pc ls st0) rest (va_Qd post B A1 a) (vx_X px BX AX) free) (hS : va_S A0 H0 H locs) (hA : ∀ q, q < H.size → A1 q → A0 q) (hf : ∀ q, free q → A0 q) (hAX : ∀ q, q < H.size → AX q → A0 q)
    (kx : ∀ (E : String) (ce : Cell) (q9 : Addr) (u : SX) (t : State) (H1 : Heap) (locs1 : List Loc), t.heap = H1 → s.vm.Alike t.vm → px u → BX E u t → H.size ≤ H1.size → (∀ q : Nat, q < H.size → ¬ AX q → H1[q]? = H[q]?) → va_S A0 H0 H1 locs1 → H1[q9]? = some ce → ce.vm = .none → s.vm.findClass E = some ce.cls → vx_W p l e R s m args below meth c H1 locs1 (cells + mc) (slots + ms) Q (F0 m pc ls rest) q9)
    (kk : ∀ (r : UInt64) (u : S) (t : State) (H1 : Heap) (locs1 : List Loc), t.heap = H1 → s.vm.Alike t.vm → post r u → B u t → H.size ≤ H1.size → (∀ q : Nat, q < H.size → ¬ A1 q → H1[q]? = H[q]?) → va_S A0 H0 H1 locs1 → W p l e R s m args below meth c H1 locs1 (cells + mc) (slots + ms) Q (F0 m (pc + 3) ls (.double r :: rest))) : W p l e R s m args below meth c H locs cells slots Q (F0 m pc ls st0) := by
  intro T hT X
  rcases hr T hT X with ⟨v, st₀, t, T', L, h0, X', hL, e1, e2, ⟨⟨r, u, hv, hp, hb⟩, hF⟩, st⟩ | ⟨q, st₀, t, T', L, E, ce, h0, X', hL, e1, e2, ⟨u, hp, hb, hF⟩, hce, hcv, hcl, st⟩
  · cases hv
    obtain ⟨k1, k2, k3⟩ := vx_keep h0 e1 hS hA hf hL hF
    obtain ⟨t2, a1, b1⟩ := kk r u t T'.heap (locs ++ L) e1.symm (by rw [← e2]; exact X'.warmed.alike) hp hb k1 k2 k3 T' rfl X'
    exact ⟨t2, st t2 a1, b1⟩
  · obtain ⟨k1, k2, k3⟩ := vx_keep h0 e1 hS hAX hf hL hF
    obtain ⟨t2, a1, b1⟩ := kx E ce q u t T'.heap (locs ++ L) e1.symm (by rw [← e2]; exact X'.warmed.alike) hp hb k1 k2 k3 (by rw [e1]; exact hce) hcv hcl T' rfl X'
    exact ⟨t2, st.trans a1, b1⟩
theorem vx_callv {S SX : Type} {post : S → Prop} {px : SX → Prop} {B : S → State → Prop} {BX : String → SX → State → Prop} {AX : Nat → Prop} (hr : vx_Run p l e R s m args below meth c H locs cells slots mc ms (F0 m pc ls st0) rest (va_Qv post B A1 a) (vx_X px BX AX) free) (hS : va_S A0 H0 H locs) (hA : ∀ q, q < H.size → A1 q → A0 q) (hf : ∀ q, free q → A0 q) (hAX : ∀ q, q < H.size → AX q → A0 q)
    (kx : ∀ (E : String) (ce : Cell) (q9 : Addr) (u : SX) (t : State) (H1 : Heap) (locs1 : List Loc), t.heap = H1 → s.vm.Alike t.vm → px u → BX E u t → H.size ≤ H1.size → (∀ q : Nat, q < H.size → ¬ AX q → H1[q]? = H[q]?) → va_S A0 H0 H1 locs1 → H1[q9]? = some ce → ce.vm = .none → s.vm.findClass E = some ce.cls → vx_W p l e R s m args below meth c H1 locs1 (cells + mc) (slots + ms) Q (F0 m pc ls rest) q9)
    (kk : ∀ (u : S) (t : State) (H1 : Heap) (locs1 : List Loc), t.heap = H1 → s.vm.Alike t.vm → post u → B u t → H.size ≤ H1.size → (∀ q : Nat, q < H.size → ¬ A1 q → H1[q]? = H[q]?) → va_S A0 H0 H1 locs1 → W p l e R s m args below meth c H1 locs1 (cells + mc) (slots + ms) Q (F0 m (pc + 3) ls (rest))) : W p l e R s m args below meth c H locs cells slots Q (F0 m pc ls st0) := by
  intro T hT X
  rcases hr T hT X with ⟨v, st₀, t, T', L, h0, X', hL, e1, e2, ⟨⟨u, hv, hp, hb⟩, hF⟩, st⟩ | ⟨q, st₀, t, T', L, E, ce, h0, X', hL, e1, e2, ⟨u, hp, hb, hF⟩, hce, hcv, hcl, st⟩
  · cases hv
    obtain ⟨k1, k2, k3⟩ := vx_keep h0 e1 hS hA hf hL hF
    obtain ⟨t2, a1, b1⟩ := kk u t T'.heap (locs ++ L) e1.symm (by rw [← e2]; exact X'.warmed.alike) hp hb k1 k2 k3 T' rfl X'
    exact ⟨t2, st t2 a1, b1⟩
  · obtain ⟨k1, k2, k3⟩ := vx_keep h0 e1 hS hAX hf hL hF
    obtain ⟨t2, a1, b1⟩ := kx E ce q u t T'.heap (locs ++ L) e1.symm (by rw [← e2]; exact X'.warmed.alike) hp hb k1 k2 k3 (by rw [e1]; exact hce) hcv hcl T' rfl X'
    exact ⟨t2, st.trans a1, b1⟩
/-- caught by the row x of this method's table; the rows ahead don't take it -/
theorem vx_catch {own name : String} {E : String} {ce : Cell} {q : Addr} (hown : s.vm.findClass own = some m.cls) (pre : List ExceptionTableEntry) (x : ExceptionTableEntry) (suf : List ExceptionTableEntry) (hsplit : c.exceptionTable.toList = pre ++ x :: suf)
    (hpass : ∀ z ∈ pre, covers z pc = false ∨ (z.catchType ≠ 0 ∧ ∃ nm : String, (Cond.classLink own z.catchType nm).before args s = true ∧ va_Nc E nm s)) (hx : covers x pc = true) (h0 : x.catchType ≠ 0)
    (hlink : (Cond.classLink own x.catchType name).before args s = true) (hcast : (Cond.castable E name).before args s = true) (hcell : H[q]? = some ce) (hv : ce.vm = .none) (hcl : s.vm.findClass E = some ce.cls)
    (kk : W p l e R s m args below meth c H locs cells slots Q (F0 m x.handlerPc ls [.ref q])) : vx_W p l e R s m args below meth c H locs cells slots Q (F0 m pc ls rest) q := by
  intro T hT X
  have hpl : e.platform.magicAccessors = ({} : Platform).magicAccessors := by rw [X.admits.platform]
  obtain ⟨c3, c4, hc3, hc4, hasg⟩ := Cond.castable_spec hcast
  cases Option.some.inj (hc3.symm.trans hcl)
  obtain ⟨c5, hc5, hcl5⟩ := Cond.classLink_spec hown hlink e.platform hpl
  cases Option.some.inj (hc4.symm.trans hc5)
  obtain ⟨vm', X', st⟩ := X.thenCaughtThrough q (g := F0 m pc ls rest) rfl (Steps.refl _) (by rw [hT]; exact hcell) (by rw [hv]; rfl) (by obtain ⟨k9, h9, -⟩ := Vm.findClass_spec hcl; exact ⟨k9, h9⟩) pre x suf hsplit
    (fun z hz => by
      rcases hpass z hz with h | ⟨hz0, nm, hl1, hn1⟩
      · exact Or.inl h
      · obtain ⟨c6, hc6, hcl6⟩ := Cond.classLink_spec hown hl1 e.platform hpl
        obtain ⟨a8, b8, h1, h2, h3⟩ := hn1
        cases Option.some.inj (h1.symm.trans hcl)
        cases Option.some.inj (h2.symm.trans hc6)
        exact Or.inr ⟨hz0, _, hcl6, h3⟩) hx (Or.inr ⟨h0, c4, hcl5, hasg⟩)
  obtain ⟨t, a1, b1⟩ := kk (T.setVm vm') hT X'
  exact ⟨t, st.trans a1, b1⟩
end Rows
section Ends
variable {p : Program} {l : Launch} {e : Env} {R : Room} {s : State} {m : MethodId} {args : Array Value} {below : List Frame} {meth : Method} {c : Code} {H : Heap} {locs : List Loc} {cells slots : Nat} {Q : State → Prop}
variable {mc ms : Nat} {free : Addr → Prop} {A0 A1 : Nat → Prop} {H0 : Heap} {a : Array Value} {ls : Array Slot} {st0 rest : List Value}
variable {Qc : Array Value → State → Outcome → State → Prop} {XC : String → State → State → Prop}
/-- what a body that may throw owes at its end -/
def vx_MQ (below : List Frame) (Qc : Array Value → State → Outcome → State → Prop) (XC : String → State → State → Prop) (a : Array Value) (s : State) (mc ms : Nat) (free : Addr → Prop) : State → Prop := fun t =>
  ∃ o, t.status = .running ∧ Ended t below o ∧ vx_Q Qc XC mc ms free a s o t
theorem vx_ret {g : JFrame} {mc ms : Nat} (k : W p l e R s m args below meth c H locs cells slots (MQ below Qc args s mc ms free) g) : W p l e R s m args below meth c H locs cells slots (vx_MQ below Qc XC args s mc ms free) g := by
  intro T hT X
  obtain ⟨t, a1, o, b1, b2, b3, b4⟩ := k T hT X
  exact ⟨t, a1, o, b1, b2, Or.inl ⟨b3, b4⟩⟩
/-- not caught here: it goes on to the caller -/
theorem vx_widen {g : JFrame} {q : Addr} {k n : Nat} (h1 : cells ≤ k) (h2 : slots ≤ n) (kk : vx_W p l e R s m args below meth c H locs k n Q g q) : vx_W p l e R s m args below meth c H locs cells slots Q g q := fun T hT X => kk T hT (stand_widen X h1 h2)
theorem vx_out {pc : Nat} {E : String} {ce : Cell} {q : Addr} {mc ms : Nat} (hout : ∀ x ∈ c.exceptionTable.toList, covers x pc = false) (hlocks : meth.locks = false) (hcell : H[q]? = some ce) (hv : ce.vm = .none) (hcl : s.vm.findClass E = some ce.cls)
    (hx : ∀ t : State, t.heap = H → s.vm.Alike t.vm → XC E s t) (hf : ∀ z ∈ locs, free z.base) (hc : cells ≤ mc) (hs : slots ≤ ms) :
    vx_W p l e R s m args below meth c H locs cells slots (vx_MQ below Qc XC args s mc ms free) (F0 m pc ls rest) q := by
  intro T hT X
  obtain ⟨st1, hrun, hend, hW, hsm⟩ := X.leaveThrown q (g := F0 m pc ls rest) rfl rfl rfl hout hlocks
  have hcell9 : (T.setFrames (.throwing q :: below)).heap[q]? = some ce := by
    show T.heap[q]? = some ce
    rw [hT]; exact hcell
  exact ⟨_, st1, .threw q, hrun, hend, Or.inr ⟨q, rfl, E, ce, locs, hx _ hT hW.alike, hcell9, hv, hcl, hW, hsm.mono hc hs, hf⟩⟩
theorem vx_frame {U : State} {k n : Nat} (h : s.sameButNew ({ U with vm := s.vm } : State) locs k n) : s.heap.size ≤ U.heap.size ∧ ∀ q : Nat, q < s.heap.size → (∀ z ∈ locs, z.base ≠ q) → U.heap[q]? = s.heap[q]? := by
  obtain ⟨-, h2, -, -, -, h6⟩ := h
  refine ⟨h2, fun q hq hz => ?_⟩
  obtain ⟨c9, e1, e2, e3, e4⟩ := h6 q _ (Array.getElem?_eq_getElem hq)
  have hs : c9.slots = (s.heap[q]).slots := Array.ext_getElem? fun i => e4 i fun hm => hz _ hm rfl
  have h9 : c9 = s.heap[q] := by
    rw [hs] at e2
    exact e2
  have e5 : U.heap[q]? = some c9 := e1
  rw [e5, h9, Array.getElem?_eq_getElem hq]
/-- the words of a throw but the four that speak of the heap -/
def vx_no (w : Cond) : Bool := decide (w ≠ .isRef (.static Bundle.tN "UNASSIGNED_STACK" Bundle.steD)) && decide (w ≠ .isRef (.static Bundle.tN "SUPPRESSED_SENTINEL" Bundle.listD)) && decide (w ≠ .laysStatic Bundle.tN "UNASSIGNED_STACK" Bundle.steD) && decide (w ≠ .laysStatic Bundle.tN "SUPPRESSED_SENTINEL" Bundle.listD)
def vx_at0 (own : String) (ic : Nat) (X : String) (names : List String) : List Cond := (Bundle.ownAtoms0 own ic X names).filter vx_no
def vx_atS (own : String) (ic : Nat) (X : String) (names : List String) : List Cond := (Bundle.ownAtoms own ic X names).filter vx_no
/-- a word that the tables alone decide, or a good one -/
def vx_ot (w : Cond) : Bool := w.onTables || goodWord w
theorem vx_ot_at {args a' : Array Value} {s U : State} {w : Cond} (hW : s.WarmedH U.vm) (hvm : s.vm = U.vm) (hg : vx_ot w = true) (h : w.before args s = true) : w.before a' U = true := by
  simp only [vx_ot, Bool.or_eq_true] at hg
  rcases hg with hg | hg
  · exact va_tabs hg hvm h
  · exact word_at hW (good_of_word hg) h
/-- a list's words: the good ones out of the method's own list, the others by premises of their own -/
theorem vx_hat {args : Array Value} {s : State} {L B : List Cond} (h1 : ∀ w ∈ L.filter goodWord, w.before args s = true) (h2 : ∀ w ∈ L.filter (fun w => !goodWord w), w ∈ B) (h3 : ∀ w ∈ B, w.before args s = true) : ∀ w ∈ L, w.before args s = true := by
  intro w hw
  by_cases g : goodWord w = true
  · exact h1 w (List.mem_filter.mpr ⟨hw, g⟩)
  · refine h3 w (h2 w (List.mem_filter.mpr ⟨hw, ?_⟩))
    show (!goodWord w) = true
    cases hgw : goodWord w
    · rfl
    · exact absurd hgw g
theorem vx_c {args : Array Value} {s : State} {w : Cond} {B : List Cond} (h : w.before args s = true) (t : ∀ w ∈ B, w.before args s = true) : ∀ w' ∈ w :: B, w'.before args s = true := fun w' h' => (List.mem_cons.mp h').elim (fun e => by rw [e]; exact h) (t w')
theorem vx_n {args : Array Value} {s : State} : ∀ w ∈ ([] : List Cond), w.before args s = true := fun _ h => nomatch h
theorem vx_own {args : Array Value} {s : State} {L : List Cond} (h1 : ∀ w ∈ L.filter vx_no, w.before args s = true)
    (hU : (Cond.isRef (.static Bundle.tN "UNASSIGNED_STACK" Bundle.steD)).before args s = true) (hN : (Cond.isRef (.static Bundle.tN "SUPPRESSED_SENTINEL" Bundle.listD)).before args s = true)
    (lU : (Cond.laysStatic Bundle.tN "UNASSIGNED_STACK" Bundle.steD).before args s = true) (lN : (Cond.laysStatic Bundle.tN "SUPPRESSED_SENTINEL" Bundle.listD).before args s = true) : ∀ w ∈ L, w.before args s = true := by
  intro w hw
  by_cases e1 : w = .isRef (.static Bundle.tN "UNASSIGNED_STACK" Bundle.steD)
  · rw [e1]; exact hU
  · by_cases e2 : w = .isRef (.static Bundle.tN "SUPPRESSED_SENTINEL" Bundle.listD)
    · rw [e2]; exact hN
    · by_cases e3 : w = .laysStatic Bundle.tN "UNASSIGNED_STACK" Bundle.steD
      · rw [e3]; exact lU
      · by_cases e4 : w = .laysStatic Bundle.tN "SUPPRESSED_SENTINEL" Bundle.listD
        · rw [e4]; exact lN
        · exact h1 w (List.mem_filter.mpr ⟨hw, by unfold vx_no; rw [decide_eq_true e1, decide_eq_true e2, decide_eq_true e3, decide_eq_true e4]; rfl⟩)
/-- where a static field lies, its class's statics cell in H -/
def vx_L (C n d : String) (A : Nat → Prop) (U : State) (H : Heap) : Prop := ∃ (c : ClassId) (k : Class) (i : Nat) (f : Field) (a : Nat) (cell : Cell), U.vm.findClass C = some c ∧ U.fieldFound? C n d = some (c, k, i, f) ∧ f.isStatic = true ∧ k.statics = some a ∧ H[a]? = some cell ∧ cell.vm.isStatics = true ∧ cell.cls = c ∧ f.slot < cell.slots.size ∧ k.staticTypes[f.slot]? = some f.type ∧ ¬ A a
theorem vx_L.moved {C n d : String} {A : Nat → Prop} {u U : State} {H : Heap} (hvm : u.vm.Alike U.vm) (h : vx_L C n d A u H) : vx_L C n d A U H := by
  obtain ⟨c, k, i, f, a, cell, h1, h2, h3, h4, h5, h6, h7, h8, h9, h10⟩ := h
  obtain ⟨k', hi', he⟩ := State.fieldFound?_setVm hvm h2
  exact ⟨c, k', i, f, a, cell, by rw [hvm.findClass]; exact h1, hi', h3, by rw [he]; exact h4, h5, h6, h7, h8, by rw [he]; exact h9, h10⟩
theorem vx_L.kept {C n d : String} {A : Nat → Prop} {U : State} {H H1 : Heap} (h : vx_L C n d A U H) (hq : ∀ a : Nat, a < H.size → ¬ A a → H1[a]? = H[a]?) : vx_L C n d A U H1 := by
  obtain ⟨c, k, i, f, a, cell, h1, h2, h3, h4, h5, h6, h7, h8, h9, h10⟩ := h
  exact ⟨c, k, i, f, a, cell, h1, h2, h3, h4, by rw [hq a (Array.getElem?_eq_some_iff.mp h5).1 h10]; exact h5, h6, h7, h8, h9, h10⟩
theorem vx_L.narrow {C n d : String} {A B : Nat → Prop} {U : State} {H : Heap} (h : vx_L C n d A U H) (hAB : ∀ q, B q → A q) : vx_L C n d B U H := by
  obtain ⟨c, k, i, f, a, cell, h1, h2, h3, h4, h5, h6, h7, h8, h9, h10⟩ := h
  exact ⟨c, k, i, f, a, cell, h1, h2, h3, h4, h5, h6, h7, h8, h9, fun z => h10 (hAB _ z)⟩
theorem vx_L.word {C n d : String} {A : Nat → Prop} {s : State} {args : Array Value} (h : vx_L C n d A s s.heap) : (Cond.laysStatic C n d).before args s = true := by
  obtain ⟨c, k, i, f, a, cell, h1, h2, h3, h4, h5, h6, h7, h8, h9, -⟩ := h
  show (Cond.laysStatic C n d).holds args s none s [] = true
  exact Cond.laysStatic_of h1 h2 h3 h4 h5 h6 h7 h8 h9
/-- .. and what it holds: null or some reference -/
def vx_Zq (C n d : String) (A : Nat → Prop) (U : State) (H : Heap) : Prop := va_Zq C n d A U H ∧ vx_L C n d A U H
theorem vx_Zq.moved {C n d : String} {A : Nat → Prop} {u U : State} {H : Heap} (hvm : u.vm.Alike U.vm) (h : vx_Zq C n d A u H) : vx_Zq C n d A U H := ⟨va_Zq.moved hvm h.1, vx_L.moved hvm h.2⟩
theorem vx_Zq.kept {C n d : String} {A : Nat → Prop} {U : State} {H H1 : Heap} (h : vx_Zq C n d A U H) (hq : ∀ a : Nat, a < H.size → ¬ A a → H1[a]? = H[a]?) : vx_Zq C n d A U H1 := ⟨va_Zq.kept h.1 hq, vx_L.kept h.2 hq⟩
theorem vx_Zq.narrow {C n d : String} {A B : Nat → Prop} {U : State} {H : Heap} (h : vx_Zq C n d A U H) (hAB : ∀ q, B q → A q) : vx_Zq C n d B U H := ⟨va_Zq.narrow h.1 hAB, vx_L.narrow h.2 hAB⟩
theorem vx_Zqof {args : Array Value} {s : State} {C n d : String} {A : Nat → Prop} (hl : (Cond.laysStatic C n d).before args s = true) (hini : (Cond.initialized C).before args s = true) (h : (Cond.isRef (.static C n d)).before args s = true) (hA : ∀ a : Nat, a < s.heap.size → ¬ A a) : vx_Zq C n d A s s.heap := by
  refine ⟨va_Zqof hl hini h hA, ?_⟩
  obtain ⟨c, k, i, f, a, cell, h1, h2, h3, h4, h5, h6, h7, h8, h9⟩ := Cond.laysStatic_spec hl
  exact ⟨c, k, i, f, a, cell, h1, h2, h3, h4, h5, h6, h7, h8, h9, hA a (Array.getElem?_eq_some_iff.mp h5).1⟩
theorem vx_isRef {C n d : String} {v : Value} {A : Nat → Prop} {s : State} {args : Array Value} (h : va_Z C n d v A s s.heap) (hv : v.isRef = true) : (Cond.isRef (.static C n d)).before args s = true := by
  obtain ⟨cf, kf, fi, f, a, cell, h1, h2, h3, h4, h5, h6, h7, -⟩ := h
  have he : (Term.static C n d).eval args s none [] s = some v := by
    simp [Term.eval, State.fieldNamed?, h1, h2, h4, h5, h6, h7]
  simp only [Cond.before, Cond.holds, Cond.value, he]
  cases v <;> simp_all [Value.isRef]
theorem vx_isRefq {C n d : String} {A : Nat → Prop} {s : State} {args : Array Value} (h : va_Zq C n d A s s.heap) : (Cond.isRef (.static C n d)).before args s = true := by
  rcases h with h | ⟨t, h⟩
  · exact vx_isRef h rfl
  · exact vx_isRef h rfl
/-- the same frame, seen from here: as if the method were called anew in this heap -/
theorem vx_rebase {T : State} (X : Stand p l e R s m args below meth c T locs cells slots) {R' : Room} (hf : R'.frames ≤ R.frames) (hl : R'.locals ≤ R.locals) (hc : cells + R'.cells ≤ R.cells) (hs : slots + R'.slots ≤ R.slots) :
    Stand p l e R' ((T.setVm s.vm).setFrames (.invoking m args :: below)) m args below meth c T [] 0 0 := by
  have htop : (T.setVm s.vm).topJava?.isSome := X.here.top
  have hF : ((T.setVm s.vm).setFrames (.invoking m args :: below)).frames = .invoking m args :: below := State.frames_setFrames _ (State.cur_lt_of_top htop)
  obtain ⟨g₀, hg0⟩ := Option.isSome_iff_exists.mp htop
  obtain ⟨r, hr⟩ := State.topJava?_eq_some.mp hg0
  have hl9 : e.platform.stackLimits (T.setVm s.vm).me = e.platform.stackLimits s.me := X.limits
  have hb9 : (T.setVm s.vm).me.stackBytes = s.me.stackBytes := X.bytes
  refine ⟨X.admits, X.cas, X.clock, hF, ?_, X.hears, X.method, X.code, X.here, X.tail, X.warmed, ?_, ?_, ?_⟩
  · have h := X.room
    have hU : ((T.setVm s.vm).setFrames (.invoking m args :: below)).localsInUse = s.localsInUse := by
      rw [State.localsInUse_invoking hF (meth := meth) (c := c) X.method X.code, State.localsInUse_invoking X.frames X.method X.code]
    simp only [State.hasRoom, Bool.and_eq_true, decide_eq_true_eq] at h ⊢
    obtain ⟨⟨⟨⟨h1, h2, h3, h4, h5, h6⟩, h7⟩, h8⟩, h9⟩ := h
    rw [X.frames, List.length_cons] at h2 h3
    have q1 := X.heapSize
    have q2 := X.used
    simp only [hF, hU, List.length_cons, State.stackLimits_setFrames, State.stackBytes_setFrames, hl9, hb9]
    refine ⟨⟨⟨⟨by omega, by omega, by omega, by omega, by omega, h6⟩, ?_⟩, ?_⟩, X.book⟩
    · show T.heap.size + R'.cells ≤ e.platform.maxCells
      omega
    · show T.slotsUsed + R'.slots ≤ e.platform.maxSlots
      omega
  · rw [State.stackLimits_setFrames]; rfl
  · rw [State.stackBytes_setFrames]; rfl
  · refine ⟨?_, Nat.le_refl _, Nat.le_refl _, ?_, ?_, fun a c9 h9 => ⟨c9, h9, rfl, rfl, fun _ _ => rfl⟩⟩
    · obtain ⟨t, ht, -⟩ := State.frames_cons hr
      show T.setVm s.vm = { ((T.setVm s.vm).setFrames (.invoking m args :: below)).setFrames (T.setVm s.vm).frames with heap := T.heap, slotsUsed := T.slotsUsed }
      rw [State.setFrames_setFrames, State.setFrames_self ht]
      rfl
    · show T.slotsUsed = T.slotsUsed + ((T.heap.toList.drop T.heap.size).map (·.slots.size)).sum
      rw [List.drop_eq_nil_of_le (Nat.le_of_eq Array.length_toList)]
      rfl
    · show ((T.heap.toList.drop T.heap.size).map (·.slots.size)).sum ≤ 0
      rw [List.drop_eq_nil_of_le (Nat.le_of_eq Array.length_toList)]
      exact Nat.le_refl _
/-- 'throw new E()': new; dup; invokespecial; athrow -/
theorem vx_throw0 {cc : ByteArray} {pc : Nat} (hexec : p.tables.exec = Jvm.exec) (hb : c.code = cc) (hl : l.stackTraces = false) {own cls : String} {names : List String} {ik ic mc ms : Nat} {A : Nat → Prop}
    (hown : s.vm.findClass own = some m.cls) (hcls : Bundle.fit cls = true) (hnames : ∀ n ∈ names, Bundle.fit n = true)
    (hk : (Cond.classLink own ik cls).before args s = true) (hini : (Cond.initialized cls).before args s = true) (hat : ∀ w ∈ vx_at0 own ic cls names, w.before args s = true)
    (hgood : ∀ w ∈ Cond.classLink own ik cls :: Cond.initialized cls :: vx_at0 own ic cls names, vx_ot w = true)
    (hU : vx_Zq Bundle.tN "UNASSIGNED_STACK" Bundle.steD A s s.heap) (hN : vx_Zq Bundle.tN "SUPPRESSED_SENTINEL" Bundle.listD A s s.heap) (hS : va_S A s.heap H locs) (hsize : ls.size = c.maxLocals)
    (d0 : decode cc pc = .ok (.new ik, 3)) (d3 : decode cc (pc + 3) = .ok (.dup, 1)) (d4 : decode cc (pc + 4) = .ok (.invokespecial ic, 3)) (d7 : decode cc (pc + 7) = .ok (.athrow, 1))
    (hout : ∀ x ∈ c.exceptionTable.toList, covers x (pc + 7) = false)
    (hRframes : names.length + 3 < R.frames) (hRlocals : (rest.map fun v => v.category).sum + (13 * (names.length + 1) + 42) ≤ R.locals) (hRcells : cells + 1 ≤ R.cells) (hRslots : slots + 6 ≤ R.slots) (hlocks : meth.locks = false)
    (hx : ∀ t : State, s.vm.Alike t.vm → H.size ≤ t.heap.size → (∀ q : Nat, q < H.size → t.heap[q]? = H[q]?) → XC cls s t)
    (hf : ∀ z ∈ locs, free z.base) (hc : cells + 1 ≤ mc) (hs : slots + 6 ≤ ms) :
    W p l e R s m args below meth c H locs cells slots (vx_MQ below Qc XC args s mc ms free) (F0 m pc ls rest) := by
  intro T hT X
  have htr : e.platform.stackTraces = false := (show e.platform.stackTraces = l.stackTraces by rw [X.admits.platform]).trans hl
  have Y := vx_rebase X (R' := { frames := R.frames, locals := R.locals, cells := 1, slots := 6 }) (Nat.le_refl _) (Nat.le_refl _) hRcells hRslots
  obtain ⟨s', hA⟩ : ∃ z, z = (T.setVm s.vm).setFrames (.invoking m args :: below) := ⟨_, rfl⟩
  rw [← hA] at Y
  have hvm : s'.vm = s.vm := by rw [hA]; rfl
  have hhp : s'.heap = H := by rw [hA]; exact hT
  have hW0 : s.WarmedH s'.vm := by rw [hvm]; exact State.WarmedH.refl s
  have hat' : ∀ w ∈ vx_at0 own ic cls names, w.before args s' = true := fun w hw => vx_ot_at hW0 hvm.symm (hgood w (List.mem_cons_of_mem _ (List.mem_cons_of_mem _ hw))) (hat w hw)
  have hk' : (Cond.classLink own ik cls).before args s' = true := vx_ot_at hW0 hvm.symm (hgood _ List.mem_cons_self) hk
  have hini' : (Cond.initialized cls).before args s' = true := vx_ot_at hW0 hvm.symm (hgood _ (List.mem_cons_of_mem _ List.mem_cons_self)) hini
  have hU' : vx_Zq Bundle.tN "UNASSIGNED_STACK" Bundle.steD A s' s'.heap := by rw [hhp]; exact vx_Zq.moved hW0.alike (hU.kept hS.2.1)
  have hN' : vx_Zq Bundle.tN "SUPPRESSED_SENTINEL" Bundle.listD A s' s'.heap := by rw [hhp]; exact vx_Zq.moved hW0.alike (hN.kept hS.2.1)
  have h : ∀ w ∈ Bundle.ownAtoms0 own ic cls names, w.before args s' = true := vx_own hat' (vx_isRefq hU'.1) (vx_isRefq hN'.1) hU'.2.word hN'.2.word
  have hown' : s'.vm.findClass own = some m.cls := by rw [hvm]; exact hown
  have hins : (Cond.instantiable cls 6).before args s' = true := h _ (by simp [Bundle.ownAtoms0])
  obtain ⟨vm₁, cX, kX, hfX, hkX, -, -, X₁, st1⟩ := Y.newCold hexec (own := own) (C := cls) (index := ik) (n := 6) hown' hk' hins hini'
    (g := F0 m pc ls rest) rfl (by rw [hb]; exact d0) (Nat.le_refl _) (Nat.le_refl _)
  generalize hT1 : (T.setVm vm₁).pushCell { cls := cX, slots := kX.instanceTypes.map defaultValue, vm := .none } = T1 at X₁ st1
  have hcat : (Value.ref T.heap.size).category = 1 := rfl
  have hcellA : T1.heap[T.heap.size]? = some (freshCell cX kX) := by rw [← hT1]; exact State.heap_pushCell_size _ _
  have d3' : decode c.code (pc + 3) = .ok (.dup, 1) := by rw [hb]; exact d3
  obtain ⟨U, hsteps, hrun, hend, hW, hsame, ce, hce, hO⟩ := X₁.ctorThrow0 hexec htr (own := own) (cls := cls) (names := names) (ic := ic) hown' hcls hnames h (fun x hx => nomatch hx) hfX hkX hcellA (by rw [hhp, hT]; exact Nat.le_refl _)
    (g := { method := m, pc := pc + 4, locals := ls, stack := .ref T.heap.size :: .ref T.heap.size :: rest, locked := none }) rfl hsize rfl rfl (rest := rest) rfl
    (by rw [hb]; exact d4) (by rw [hb]; exact d7) hout hRframes (by simp only [List.map_cons, List.sum_cons, hcat]; omega) hlocks
  obtain ⟨f1, f2⟩ := vx_frame hsame
  rw [hhp] at f1 f2
  have hWs : s.WarmedH U.vm := State.WarmedH.trans hW0 hW
  have hcl : s.vm.findClass cls = some ce.cls := by
    have h9 := hO.cls
    rw [hvm] at h9
    exact h9
  have hall : s.sameButNew ({ U with vm := s.vm } : State) locs mc ms := by
    subst hA
    obtain ⟨e1, e2⟩ := hsame
    rw [State.setFrames_setFrames] at e1
    have h2 : (T.setVm s.vm).sameButNew ({ U with vm := s.vm } : State) [] (0 + 1) (0 + 6) := ⟨e1, e2⟩
    have h3 := X.same.trans h2
    rw [List.append_nil] at h3
    exact h3.mono hc hs
  refine ⟨U, ?_, .threw T.heap.size, hrun, hend, Or.inr ⟨T.heap.size, rfl, cls, ce, locs, hx U hWs.alike f1 (fun q hq => f2 q hq (fun z hz => nomatch hz)), hce, hO.vm, hcl, hWs, hall, hf⟩⟩
  refine st1 _ ?_
  show Steps p.tables e below (T1.setTop { method := m, pc := pc + 3, locals := ls, stack := .ref T.heap.size :: rest, locked := none }) _
  jvm_step X₁.here [X₁.here.top, hexec, d3', Value.category]
  exact hsteps
/-- 'throw new E("text")': new; dup; ldc; invokespecial; athrow -/
theorem vx_throwS {cc : ByteArray} {pc : Nat} (hexec : p.tables.exec = Jvm.exec) (hb : c.code = cc) (hl : l.stackTraces = false) {own cls text : String} {names : List String} {ik is ic mc ms sa : Nat} {A : Nat → Prop}
    (hown : s.vm.findClass own = some m.cls) (hcls : Bundle.fit cls = true) (hnames : ∀ n ∈ names, Bundle.fit n = true)
    (hk : (Cond.classLink own ik cls).before args s = true) (hini : (Cond.initialized cls).before args s = true) (hstr : vk_R own is text sa s) (hat : ∀ w ∈ vx_atS own ic cls names, w.before args s = true)
    (hgood : ∀ w ∈ Cond.classLink own ik cls :: Cond.initialized cls :: vx_atS own ic cls names, vx_ot w = true)
    (hU : vx_Zq Bundle.tN "UNASSIGNED_STACK" Bundle.steD A s s.heap) (hN : vx_Zq Bundle.tN "SUPPRESSED_SENTINEL" Bundle.listD A s s.heap) (hS : va_S A s.heap H locs) (hsize : ls.size = c.maxLocals)
    (d0 : decode cc pc = .ok (.new ik, 3)) (d3 : decode cc (pc + 3) = .ok (.dup, 1)) (d4 : decode cc (pc + 4) = .ok (.ldc is, 2)) (d6 : decode cc (pc + 6) = .ok (.invokespecial ic, 3)) (d9 : decode cc (pc + 9) = .ok (.athrow, 1))
    (hout : ∀ x ∈ c.exceptionTable.toList, covers x (pc + 9) = false)
    (hRframes : names.length + 3 < R.frames) (hRlocals : (rest.map fun v => v.category).sum + (13 * (names.length + 1) + 43) ≤ R.locals) (hRcells : cells + 1 ≤ R.cells) (hRslots : slots + 6 ≤ R.slots) (hlocks : meth.locks = false)
    (hx : ∀ t : State, s.vm.Alike t.vm → H.size ≤ t.heap.size → (∀ q : Nat, q < H.size → t.heap[q]? = H[q]?) → XC cls s t)
    (hf : ∀ z ∈ locs, free z.base) (hc : cells + 1 ≤ mc) (hs : slots + 6 ≤ ms) :
    W p l e R s m args below meth c H locs cells slots (vx_MQ below Qc XC args s mc ms free) (F0 m pc ls rest) := by
  intro T hT X
  have htr : e.platform.stackTraces = false := (show e.platform.stackTraces = l.stackTraces by rw [X.admits.platform]).trans hl
  have Y := vx_rebase X (R' := { frames := R.frames, locals := R.locals, cells := 1, slots := 6 }) (Nat.le_refl _) (Nat.le_refl _) hRcells hRslots
  obtain ⟨s', hA⟩ : ∃ z, z = (T.setVm s.vm).setFrames (.invoking m args :: below) := ⟨_, rfl⟩
  rw [← hA] at Y
  have hvm : s'.vm = s.vm := by rw [hA]; rfl
  have hhp : s'.heap = H := by rw [hA]; exact hT
  have hW0 : s.WarmedH s'.vm := by rw [hvm]; exact State.WarmedH.refl s
  have hat' : ∀ w ∈ vx_atS own ic cls names, w.before args s' = true := fun w hw => vx_ot_at hW0 hvm.symm (hgood w (List.mem_cons_of_mem _ (List.mem_cons_of_mem _ hw))) (hat w hw)
  have hk' : (Cond.classLink own ik cls).before args s' = true := vx_ot_at hW0 hvm.symm (hgood _ List.mem_cons_self) hk
  have hini' : (Cond.initialized cls).before args s' = true := vx_ot_at hW0 hvm.symm (hgood _ (List.mem_cons_of_mem _ List.mem_cons_self)) hini
  have hU' : vx_Zq Bundle.tN "UNASSIGNED_STACK" Bundle.steD A s' s'.heap := by rw [hhp]; exact vx_Zq.moved hW0.alike (hU.kept hS.2.1)
  have hN' : vx_Zq Bundle.tN "SUPPRESSED_SENTINEL" Bundle.listD A s' s'.heap := by rw [hhp]; exact vx_Zq.moved hW0.alike (hN.kept hS.2.1)
  have h : ∀ w ∈ Bundle.ownAtoms own ic cls names, w.before args s' = true := vx_own hat' (vx_isRefq hU'.1) (vx_isRefq hN'.1) hU'.2.word hN'.2.word
  have hown' : s'.vm.findClass own = some m.cls := by rw [hvm]; exact hown
  have hins : (Cond.instantiable cls 6).before args s' = true := h _ (by simp [Bundle.ownAtoms])
  obtain ⟨vm₁, cX, kX, hfX, hkX, -, -, X₁, st1⟩ := Y.newCold hexec (own := own) (C := cls) (index := ik) (n := 6) hown' hk' hins hini'
    (g := F0 m pc ls rest) rfl (by rw [hb]; exact d0) (Nat.le_refl _) (Nat.le_refl _)
  generalize hT1 : (T.setVm vm₁).pushCell { cls := cX, slots := kX.instanceTypes.map defaultValue, vm := .none } = T1 at X₁ st1
  have hcat : (Value.ref T.heap.size).category = 1 := rfl
  have hcellA : T1.heap[T.heap.size]? = some (freshCell cX kX) := by rw [← hT1]; exact State.heap_pushCell_size _ _
  have d3' : decode c.code (pc + 3) = .ok (.dup, 1) := by rw [hb]; exact d3
  have d4' : decode c.code (pc + 4) = .ok (.ldc is, 2) := by rw [hb]; exact d4
  have hstr' : vk_R own is text sa s' := vk_R.warm hW0 hstr
  obtain ⟨U, hsteps, hrun, hend, hW, hsame, ce, hce, hO⟩ := X₁.ctorThrowS hexec htr (own := own) (cls := cls) (names := names) (ic := ic) hown' hcls hnames h (fun x hx => nomatch hx) hfX hkX hcellA (by rw [hhp, hT]; exact Nat.le_refl _) (msg := .ref sa) rfl
    (g := { method := m, pc := pc + 6, locals := ls, stack := .ref sa :: .ref T.heap.size :: .ref T.heap.size :: rest, locked := none }) rfl hsize rfl rfl (rest := rest) rfl
    (by rw [hb]; exact d6) (by rw [hb]; exact d9) hout hRframes (by simp only [List.map_cons, List.sum_cons, hcat]; omega) hlocks
  obtain ⟨f1, f2⟩ := vx_frame hsame
  rw [hhp] at f1 f2
  have hWs : s.WarmedH U.vm := State.WarmedH.trans hW0 hW
  have hcl : s.vm.findClass cls = some ce.cls := by
    have h9 := hO.cls
    rw [hvm] at h9
    exact h9
  have hall : s.sameButNew ({ U with vm := s.vm } : State) locs mc ms := by
    subst hA
    obtain ⟨e1, e2⟩ := hsame
    rw [State.setFrames_setFrames] at e1
    have h2 : (T.setVm s.vm).sameButNew ({ U with vm := s.vm } : State) [] (0 + 1) (0 + 6) := ⟨e1, e2⟩
    have h3 := X.same.trans h2
    rw [List.append_nil] at h3
    exact h3.mono hc hs
  refine ⟨U, ?_, .threw T.heap.size, hrun, hend, Or.inr ⟨T.heap.size, rfl, cls, ce, locs, hx U hWs.alike f1 (fun q hq => f2 q hq (fun z hz => nomatch hz)), hce, hO.vm, hcl, hWs, hall, hf⟩⟩
  refine st1 _ ?_
  show Steps p.tables e below (T1.setTop { method := m, pc := pc + 3, locals := ls, stack := .ref T.heap.size :: rest, locked := none }) _
  jvm_step X₁.here [X₁.here.top, hexec, d3', Value.category]
  exact X₁.ldcString hexec (own := own) (text := text) (index := is) (a := sa) hown' hstr'.1 hstr'.2
    (g := { method := m, pc := pc + 4, locals := ls, stack := .ref T.heap.size :: .ref T.heap.size :: rest, locked := none }) rfl d4' _ hsteps
/-- 'throw new E("text")', the text by a wide index -/
theorem vx_throwSW {cc : ByteArray} {pc : Nat} (hexec : p.tables.exec = Jvm.exec) (hb : c.code = cc) (hl : l.stackTraces = false) {own cls text : String} {names : List String} {ik is ic mc ms sa : Nat} {A : Nat → Prop}
    (hown : s.vm.findClass own = some m.cls) (hcls : Bundle.fit cls = true) (hnames : ∀ n ∈ names, Bundle.fit n = true)
    (hk : (Cond.classLink own ik cls).before args s = true) (hini : (Cond.initialized cls).before args s = true) (hstr : vk_R own is text sa s) (hat : ∀ w ∈ vx_atS own ic cls names, w.before args s = true)
    (hgood : ∀ w ∈ Cond.classLink own ik cls :: Cond.initialized cls :: vx_atS own ic cls names, vx_ot w = true)
    (hU : vx_Zq Bundle.tN "UNASSIGNED_STACK" Bundle.steD A s s.heap) (hN : vx_Zq Bundle.tN "SUPPRESSED_SENTINEL" Bundle.listD A s s.heap) (hS : va_S A s.heap H locs) (hsize : ls.size = c.maxLocals)
    (d0 : decode cc pc = .ok (.new ik, 3)) (d3 : decode cc (pc + 3) = .ok (.dup, 1)) (d4 : decode cc (pc + 4) = .ok (.ldc_w is, 3)) (d7 : decode cc (pc + 7) = .ok (.invokespecial ic, 3)) (d10 : decode cc (pc + 10) = .ok (.athrow, 1))
    (hout : ∀ x ∈ c.exceptionTable.toList, covers x (pc + 10) = false)
    (hRframes : names.length + 3 < R.frames) (hRlocals : (rest.map fun v => v.category).sum + (13 * (names.length + 1) + 43) ≤ R.locals) (hRcells : cells + 1 ≤ R.cells) (hRslots : slots + 6 ≤ R.slots) (hlocks : meth.locks = false)
    (hx : ∀ t : State, s.vm.Alike t.vm → H.size ≤ t.heap.size → (∀ q : Nat, q < H.size → t.heap[q]? = H[q]?) → XC cls s t)
    (hf : ∀ z ∈ locs, free z.base) (hc : cells + 1 ≤ mc) (hs : slots + 6 ≤ ms) :
    W p l e R s m args below meth c H locs cells slots (vx_MQ below Qc XC args s mc ms free) (F0 m pc ls rest) := by
  intro T hT X
  have htr : e.platform.stackTraces = false := (show e.platform.stackTraces = l.stackTraces by rw [X.admits.platform]).trans hl
  have Y := vx_rebase X (R' := { frames := R.frames, locals := R.locals, cells := 1, slots := 6 }) (Nat.le_refl _) (Nat.le_refl _) hRcells hRslots
  obtain ⟨s', hA⟩ : ∃ z, z = (T.setVm s.vm).setFrames (.invoking m args :: below) := ⟨_, rfl⟩
  rw [← hA] at Y
  have hvm : s'.vm = s.vm := by rw [hA]; rfl
  have hhp : s'.heap = H := by rw [hA]; exact hT
  have hW0 : s.WarmedH s'.vm := by rw [hvm]; exact State.WarmedH.refl s
  have hat' : ∀ w ∈ vx_atS own ic cls names, w.before args s' = true := fun w hw => vx_ot_at hW0 hvm.symm (hgood w (List.mem_cons_of_mem _ (List.mem_cons_of_mem _ hw))) (hat w hw)
  have hk' : (Cond.classLink own ik cls).before args s' = true := vx_ot_at hW0 hvm.symm (hgood _ List.mem_cons_self) hk
  have hini' : (Cond.initialized cls).before args s' = true := vx_ot_at hW0 hvm.symm (hgood _ (List.mem_cons_of_mem _ List.mem_cons_self)) hini
  have hU' : vx_Zq Bundle.tN "UNASSIGNED_STACK" Bundle.steD A s' s'.heap := by rw [hhp]; exact vx_Zq.moved hW0.alike (hU.kept hS.2.1)
  have hN' : vx_Zq Bundle.tN "SUPPRESSED_SENTINEL" Bundle.listD A s' s'.heap := by rw [hhp]; exact vx_Zq.moved hW0.alike (hN.kept hS.2.1)
  have h : ∀ w ∈ Bundle.ownAtoms own ic cls names, w.before args s' = true := vx_own hat' (vx_isRefq hU'.1) (vx_isRefq hN'.1) hU'.2.word hN'.2.word
  have hown' : s'.vm.findClass own = some m.cls := by rw [hvm]; exact hown
  have hins : (Cond.instantiable cls 6).before args s' = true := h _ (by simp [Bundle.ownAtoms])
  obtain ⟨vm₁, cX, kX, hfX, hkX, -, -, X₁, st1⟩ := Y.newCold hexec (own := own) (C := cls) (index := ik) (n := 6) hown' hk' hins hini'
    (g := F0 m pc ls rest) rfl (by rw [hb]; exact d0) (Nat.le_refl _) (Nat.le_refl _)
  generalize hT1 : (T.setVm vm₁).pushCell { cls := cX, slots := kX.instanceTypes.map defaultValue, vm := .none } = T1 at X₁ st1
  have hcat : (Value.ref T.heap.size).category = 1 := rfl
  have hcellA : T1.heap[T.heap.size]? = some (freshCell cX kX) := by rw [← hT1]; exact State.heap_pushCell_size _ _
  have d3' : decode c.code (pc + 3) = .ok (.dup, 1) := by rw [hb]; exact d3
  have d4' : decode c.code (pc + 4) = .ok (.ldc_w is, 3) := by rw [hb]; exact d4
  have hstr' : vk_R own is text sa s' := vk_R.warm hW0 hstr
  obtain ⟨U, hsteps, hrun, hend, hW, hsame, ce, hce, hO⟩ := X₁.ctorThrowS hexec htr (own := own) (cls := cls) (names := names) (ic := ic) hown' hcls hnames h (fun x hx => nomatch hx) hfX hkX hcellA (by rw [hhp, hT]; exact Nat.le_refl _) (msg := .ref sa) rfl
    (g := { method := m, pc := pc + 7, locals := ls, stack := .ref sa :: .ref T.heap.size :: .ref T.heap.size :: rest, locked := none }) rfl hsize rfl rfl (rest := rest) rfl
    (by rw [hb]; exact d7) (by rw [hb]; exact d10) hout hRframes (by simp only [List.map_cons, List.sum_cons, hcat]; omega) hlocks
  obtain ⟨f1, f2⟩ := vx_frame hsame
  rw [hhp] at f1 f2
  have hWs : s.WarmedH U.vm := State.WarmedH.trans hW0 hW
  have hcl : s.vm.findClass cls = some ce.cls := by
    have h9 := hO.cls
    rw [hvm] at h9
    exact h9
  have hall : s.sameButNew ({ U with vm := s.vm } : State) locs mc ms := by
    subst hA
    obtain ⟨e1, e2⟩ := hsame
    rw [State.setFrames_setFrames] at e1
    have h2 : (T.setVm s.vm).sameButNew ({ U with vm := s.vm } : State) [] (0 + 1) (0 + 6) := ⟨e1, e2⟩
    have h3 := X.same.trans h2
    rw [List.append_nil] at h3
    exact h3.mono hc hs
  refine ⟨U, ?_, .threw T.heap.size, hrun, hend, Or.inr ⟨T.heap.size, rfl, cls, ce, locs, hx U hWs.alike f1 (fun q hq => f2 q hq (fun z hz => nomatch hz)), hce, hO.vm, hcl, hWs, hall, hf⟩⟩
  refine st1 _ ?_
  show Steps p.tables e below (T1.setTop { method := m, pc := pc + 3, locals := ls, stack := .ref T.heap.size :: rest, locked := none }) _
  jvm_step X₁.here [X₁.here.top, hexec, d3', Value.category]
  exact X₁.ldcStringW hexec (own := own) (text := text) (index := is) (a := sa) hown' hstr'.1 hstr'.2
    (g := { method := m, pc := pc + 4, locals := ls, stack := .ref T.heap.size :: .ref T.heap.size :: rest, locked := none }) rfl d4' _ hsteps
end Ends
section Bodies
variable {l : Launch}
theorem vx_ofW {y : MethodName} {ws ws' : List Cond} {rm : Room} {Pc : Array Value → State → Prop} {Qc : Array Value → State → Outcome → State → Prop} {XC : String → State → State → Prop} {mc ms : Nat} {free : Addr → Prop} {cc : ByteArray} {maxL : Nat} {ret : Option FieldType}
    (hy : plainName y.cls = true) (hw : ws = Cond.code y cc maxL ret :: ws')
    (body : ∀ p e s m args below meth c s₁, BodyLoose p l y (headSpec ws rm) cc maxL ret e s m args below meth c s₁ → c.maxLocals = maxL → (∀ x ∈ c.exceptionTable.toList, False) → Pc args s →
      W p l e (headSpec ws rm).room s m args below meth c s.heap [] 0 0 (vx_MQ below Qc XC args s mc ms free) (entryFrame m args maxL)) : vx_Met l y ws rm Pc Qc XC mc ms free := by
  refine MetFree.of_bodyS (code := cc) (maxLocals := maxL) (ret := ret) hy ?_ ?_
  · intro args s m h hn
    obtain ⟨meth, c, h1, h2, h3, h4, h5, h6, -, -⟩ := Cond.code_spec hn (atoms_spec (ws := ws) h _ (by rw [hw]; exact List.mem_cons_self))
    exact ⟨meth, c, h1, h2, h3, h4, h5, h6⟩
  · intro p e s m args below meth c s₁ B hml hP _
    have hh0 : s₁.heap = s.heap := by rw [B.state]; rfl
    have ht : ∀ x ∈ c.exceptionTable.toList, False := by
      obtain ⟨meth9, c9, h1, h2, -, -, -, -, h7, -⟩ := Cond.code_spec B.named (atoms_spec (ws := ws) B.pre _ (by rw [hw]; exact List.mem_cons_self))
      cases Option.some.inj (h1.symm.trans B.method)
      cases Option.some.inj (h2.symm.trans (Stand.of_body B).code)
      intro x hx
      rw [Array.isEmpty_iff.mp h7] at hx
      cases hx
    obtain ⟨t, a1, o, b1, b2, b3⟩ := body p e s m args below meth c s₁ B hml ht hP s₁ hh0 (Stand.of_body B)
    exact ⟨t, o, a1, b1, b2, b3⟩
/-- the table of a body with handlers -/
theorem vx_table {p : Program} {x y : MethodName} {S : Spec} {cc bytes : ByteArray} {maxL maxL' : Nat} {ret ret' : Option FieldType} {e : Env} {s s₁ : State} {m : MethodId} {args : Array Value} {below : List Frame} {meth : Method} {c : Code} {hh : List (Nat × Nat × Nat × Nat)}
    (B : BodyLoose p l y S cc maxL ret e s m args below meth c s₁) (h : (Cond.codeWith y bytes maxL' ret' hh).before args s = true) : c.exceptionTable.toList = tableOf hh := by
  obtain ⟨m9, meth9, c9, hn9, h1, h2, -, -, h6, -⟩ := Cond.codeWith_spec h
  cases Option.some.inj (hn9.symm.trans B.named)
  cases Option.some.inj (h1.symm.trans B.method)
  cases Option.some.inj (h2.symm.trans (Stand.of_body B).code)
  rw [← h6, table_eq]
end Bodies
end VXA
/-! ===== END ===== -/
/-! ===== BEGIN a static call of a method with an exception table ===== -/
section VXS
variable {p : Program} {l : Launch} {e : Env} {R : Room} {s : State} {m : MethodId} {args : Array Value} {below : List Frame} {meth : Method} {c : Code} {T : State} {H : Heap} {locs : List Loc} {cells slots : Nat}
abbrev vx_CSW (R : Room) (s : State) (args : Array Value) (own : String) (index : Nat) (y : MethodName) (bytes : ByteArray) (maxL : Nat) (ret : Option FieldType) (hh : List (Nat × Nat × Nat × Nat)) (ws : List Cond) (rm : Room) (mc ms n : Nat) : Prop :=
  (rm.cells = mc ∧ rm.slots = ms ∧ rm.frames + 1 ≤ R.frames ∧ 8 + (maxL + 11) + rm.locals ≤ R.locals ∧ (∀ w ∈ ws, ∀ (a' : Array Value) (U : State), s.WarmedH U.vm → w.before a' U = true) ∧ Cond.codeWith y bytes maxL ret hh ∈ ws) ∧
  (Cond.codeWith y bytes maxL ret hh).before args s = true ∧ (Cond.initialized y.cls).before args s = true ∧ (y.cls ≠ "java/lang/invoke/MethodHandle" ∧ y.cls ≠ "java/lang/invoke/VarHandle") ∧
  (∀ sig, parseMethodDescriptor y.desc = some sig → n = sig.parameters.length) ∧ (Cond.methodLink own index y).before args s = true ∧ (Cond.static y).before args s = true
theorem vx_cwSW {own : String} {index maxL mc ms : Nat} {y : MethodName} {bytes : ByteArray} {ret : Option FieldType} {hh : List (Nat × Nat × Nat × Nat)} {Ts ws ws' : List Cond} {rm : Room} (n : Nat) (ht : ∀ w ∈ Ts, w.before args s = true) (hT : GoodIn Ts (va_wsS own index y ws)) (hw : ws = Cond.codeWith y bytes maxL ret hh :: ws') (hrc : rm.cells = mc) (hrs : rm.slots = ms)
    (hd : y.cls ≠ "java/lang/invoke/MethodHandle" ∧ y.cls ≠ "java/lang/invoke/VarHandle" ∧ (parseMethodDescriptor y.desc).map (fun d => d.parameters.length) = some n) (hR : rm.frames + 1 ≤ R.frames ∧ 8 + (maxL + 11) + rm.locals ≤ R.locals) :
    vx_CSW R s args own index y bytes maxL ret hh ws rm mc ms n := by
  have ok : ∀ w ∈ va_wsS own index y ws, w.before args s = true := fun w h => ht w (hT w h).1
  have hG : GoodIn Ts ws := fun w h => hT w (by unfold va_wsS; exact List.mem_append_right _ h)
  have hc : Cond.codeWith y bytes maxL ret hh ∈ ws := by rw [hw]; exact List.mem_cons_self
  refine ⟨⟨hrc, hrs, hR.1, hR.2, pay_in ht hG, hc⟩, ht _ (hG _ hc).1, ok _ (by simp [va_wsS]), ⟨hd.1, hd.2.1⟩, fun sig h => ?_, ok _ (by simp [va_wsS]), ok _ (by simp [va_wsS])⟩
  have h2 := hd.2.2
  rw [h] at h2
  exact (Option.some.inj h2).symm
theorem vx_callSW (X : Stand p l e R s m args below meth c T locs cells slots) (hexec : p.tables.exec = Jvm.exec) {own : String} {index : Nat} {y : MethodName} {bytes : ByteArray} {maxL : Nat} {ret : Option FieldType} {hh : List (Nat × Nat × Nat × Nat)}
    (hown : s.vm.findClass own = some m.cls) (hlink : (Cond.methodLink own index y).before args s = true) (hstat : (Cond.static y).before args s = true) (hinit : (Cond.initialized y.cls).before args s = true)
    (hcode : (Cond.codeWith y bytes maxL ret hh).before args s = true) (hy : y.cls ≠ "java/lang/invoke/MethodHandle" ∧ y.cls ≠ "java/lang/invoke/VarHandle")
    {W9 : Nat} {Pre : Pt → Array Value → Prop} {Post : Pt → Array Value → Option Value → Pt → Prop} (hK : Back l R p e below s args y 3 W9 Pre Post)
    {g : JFrame} (hg : g.method = m) (hsize : g.locals.size = c.maxLocals) {argsL rest : List Value} (hlen : ∀ sig, parseMethodDescriptor y.desc = some sig → argsL.length = sig.parameters.length)
    (hstack : g.stack = argsL.reverse ++ rest) (hW : 2 * g.monitorRoom + (rest.map fun v => v.category).sum ≤ W9) (hdg : decode c.code g.pc = .ok (.invokestatic index, 3))
    (hpre : ∀ vm₁, s.WarmedH vm₁ → Pre ⟨T.setVm vm₁, locs, cells, slots⟩ argsL.toArray) :
    ∃ (v : Option Value) (vm₁ : Vm) (B : Pt), s.WarmedH vm₁ ∧ Stand p l e R s m args below meth c B.U B.locs B.cells B.slots ∧ Post ⟨T.setVm vm₁, locs, cells, slots⟩ argsL.toArray v B ∧
      ∀ target, Steps p.tables e below (B.U.setTop { g with pc := g.pc + 3, stack := v.toList ++ rest }) target → Steps p.tables e below (T.setTop g) target := by
  obtain ⟨mk, methM, cM, hnamed, hmethM, -, -, -, -, -, -, hsigM⟩ := Cond.codeWith_spec hcode
  have hstatic : methM.isStatic = true := Cond.static_spec hnamed hmethM hstat
  obtain ⟨kP, hkP, -⟩ := className_of_methodNamed hnamed
  have hinitP : kP.init = .initialized := Cond.initialized_spec (findClass_of_methodNamed hnamed) hkP hinit
  obtain ⟨vm₁, X₁, hstep₁⟩ := X.invokestatic hexec hown hlink hnamed hmethM hstatic hkP hinitP hy (g := g) hg (argsL := argsL) (rest := rest) (hlen _ hsigM) hstack hdg
  obtain ⟨v, B, X', hpost, hsteps⟩ := hK m meth c ⟨T.setVm vm₁, locs, cells, slots⟩ { g with stack := rest } (.invokestatic index) mk argsL.toArray X₁ hg hsize hdg hW (X₁.named hnamed) (hpre vm₁ X₁.warmed)
  exact ⟨v, vm₁, B, X₁.warmed, X', hpost, fun target h => hstep₁ _ fun acts => by rw [doInvoke_state]; exact hsteps.trans h⟩
theorem vx_runSW {y : MethodName} {bytes cc : ByteArray} {maxL nL mc ms n index : Nat} {ret : Option FieldType} {hh : List (Nat × Nat × Nat × Nat)} {ws : List Cond} {rm : Room} {Pc : Array Value → State → Prop} {Qc : Array Value → State → Outcome → State → Prop} {free : Addr → Prop} {Ts : List Cond} {own : String} {As rest : List Value} {g : JFrame}
    (S : CallFix p m c cc nL s args Ts own) (hM : Met l y ws rm Pc Qc mc ms free) (cw : vx_CSW R s args own index y bytes maxL ret hh ws rm mc ms n) (hp : PreS s H Pc As)
    (hg : g.method = m) (hn : As.length = n) (hsize : g.locals.size = nL) (hstack : g.stack = As.reverse ++ rest) (hW : 2 * g.monitorRoom + (rest.map fun v => v.category).sum ≤ 8) (hdg : decode cc g.pc = .ok (.invokestatic index, 3)) (hf : cells + mc ≤ R.cells ∧ slots + ms ≤ R.slots) :
    va_Run p l e R s m args below meth c H locs cells slots mc ms g rest (Qc As.toArray) (free) := by
  obtain ⟨⟨hrc, hrs, hfr, hlo, hws, hcw⟩, hcode, hini, hy, hlen, hl, hstt⟩ := cw
  have hK : Back l R p e below s args y 3 8 (PreOf R mc ms Pc) (PostOf Qc mc ms free) := va_backW (hh := hh) (bytes := bytes) (maxL := maxL) (ret := ret) hM hp.1 hrc hrs hfr hlo hws hcw (fun a' U hW => word_at hW (Or.inl (by first | rfl | simp [Cond.onTables, Cond.keeps, Cond.steady])) hini)
  obtain ⟨hx, hb, hml, ho, -⟩ := S
  intro T hT X
  obtain ⟨v, vm₁, ⟨U', l2, c2, s2⟩, hW₁, X', ⟨g', mk, t, L, e1, e2, hq, h1, hL, h2, h3⟩, st⟩ := vx_callSW X hx (hh := hh) (bytes := bytes) (maxL := maxL) (ret := ret) ho hl hstt hini hcode hy hK hg (hsize.trans hml.symm) (argsL := As) (rest := rest) (fun sig h => hn.trans (hlen sig h)) hstack hW (by rw [hb]; exact hdg)
    (fun vm₁ hW₁ => ⟨hf.1, hf.2, hp.2 (T.setVm vm₁) hT hW₁⟩)
  dsimp only [Pt.U, Pt.locs, Pt.cells, Pt.slots] at X' e1 e2 h1 h2 h3 st
  subst h1; subst h2; subst h3
  exact ⟨v, (T.setVm vm₁).calling g' mk As.toArray, t, U', L, hT, X', hL, e1, e2, hq, st⟩
/-- not caught here, past rows that name other classes: it goes on to the caller -/
theorem vx_outP {p : Program} {l : Launch} {e : Env} {R : Room} {s : State} {m : MethodId} {args : Array Value} {below : List Frame} {meth : Method} {c : Code} {H : Heap} {locs : List Loc} {cells slots : Nat} {free : Addr → Prop} {ls : Array Slot} {rest : List Value} {Qc : Array Value → State → Outcome → State → Prop} {XC : String → State → State → Prop}
    {pc : Nat} {own E : String} {ce : Cell} {q : Addr} {mc ms : Nat} (hown : s.vm.findClass own = some m.cls) (hlocks : meth.locks = false)
    (hpass : ∀ z ∈ c.exceptionTable.toList, covers z pc = false ∨ (z.catchType ≠ 0 ∧ ∃ nm : String, (Cond.classLink own z.catchType nm).before args s = true ∧ va_Nc E nm s)) (hcell : H[q]? = some ce) (hv : ce.vm = .none) (hcl : s.vm.findClass E = some ce.cls)
    (hx : ∀ t : State, t.heap = H → s.vm.Alike t.vm → XC E s t) (hf : ∀ z ∈ locs, free z.base) (hc : cells ≤ mc) (hs : slots ≤ ms) :
    vx_W p l e R s m args below meth c H locs cells slots (vx_MQ below Qc XC args s mc ms free) (F0 m pc ls rest) q := by
  intro T hT X
  have hpl : e.platform.magicAccessors = ({} : Platform).magicAccessors := by rw [X.admits.platform]
  obtain ⟨vm', hW', X', st⟩ := X.outThrough hlocks q (g := F0 m pc ls rest) rfl rfl rfl (cell := ce) (by rw [hT]; exact hcell) (by rw [hv]; rfl)
    (by obtain ⟨k9, h9, -⟩ := Vm.findClass_spec hcl; exact ⟨k9, h9⟩) (fun z hz => by
      rcases hpass z hz with h | ⟨hz0, nm, hl1, hn1⟩
      · exact Or.inl h
      · obtain ⟨c6, hc6, hcl6⟩ := Cond.classLink_spec hown hl1 e.platform hpl
        obtain ⟨a8, b8, h1, h2, h3⟩ := hn1
        cases Option.some.inj (h1.symm.trans hcl)
        cases Option.some.inj (h2.symm.trans hc6)
        exact Or.inr ⟨hz0, _, hcl6, h3⟩)
  obtain ⟨g₀, hfr⟩ := X'.frames_eq
  have hcell9 : ((T.setVm vm').setFrames (.throwing q :: below)).heap[q]? = some ce := by
    show T.heap[q]? = some ce
    rw [hT]; exact hcell
  have hend : Ended ((T.setVm vm').setFrames (.throwing q :: below)) below (.threw q) := State.frames_setFrames _ (State.cur_lt_of_frames hfr)
  refine ⟨(T.setVm vm').setFrames (.throwing q :: below), ?_, .threw q, X'.here.running, hend, Or.inr ⟨q, rfl, E, ce, locs, hx _ hT (X'.ends _).1.alike, hcell9, hv, hcl, (X'.ends _).1, (X'.ends _).2.mono hc hs, hf⟩⟩
  rw [X.pushThrowing_eq]
  exact st
/-- a thing of a world lies in the heap -/
theorem vx_lt {D : va_G} {cl : List vw_C} {ws : va_W} {H1 : Heap} (h : va_P D cl ws H1) {k : Nat} {q : Nat × va_E} (hk : ws[k]? = some q) : q.1 < H1.size := (h k q hk).lt
end VXS
/-! ===== END ===== -/
/-! ===== BEGIN methods with a table of their own: called by a name, returning or throwing ===== -/
section VXH
/-! vx_backW, vx_callVX, vx_callSX, vx_callVW, vx_runVW, vx_runVX, vx_runSX, vx_ofWH follow the same proofs as their sisters above (Free/Laws.lean, Shelf42/LK1.lean); vx_outP calls Shelf42/NT130.lean (outThrough). -/
section
variable {l : Launch} {R : Room} {p : Program} {e : Env} {below : List Frame} {s : State} {sargs : Array Value} {y : MethodName} {len W9 : Nat}
theorem vx_backW {ws : List Cond} {rm : Room} {Pc : Array Value → State → Prop} {Qc : Array Value → State → Outcome → State → Prop} {XC : String → State → State → Prop} {mc ms : Nat} {free : Addr → Prop} {bytes : ByteArray} {maxL : Nat} {ret : Option FieldType} {hh : List (Nat × Nat × Nat × Nat)}
    (hM : vx_Met l y ws rm Pc Qc XC mc ms free) (hblind : FrameBlind Pc) (hrc : rm.cells = mc) (hrs : rm.slots = ms)
    (hframes : rm.frames + 1 ≤ R.frames) (hlocals : W9 + (maxL + 11) + rm.locals ≤ R.locals)
    (hws : ∀ w ∈ ws, ∀ a' U, s.WarmedH U.vm → w.before a' U = true) (hcode : Cond.codeWith y bytes maxL ret hh ∈ ws) (hinit : ∀ a' U, s.WarmedH U.vm → (Cond.initialized y.cls).before a' U = true) :
    vx_Back l R p e below s sargs y len W9 (PreOf R mc ms Pc) (PostOf Qc mc ms free) (vx_Post XC mc ms free) := by
  intro m meth c A g ig mk a X hg hsize hdg hW hn hp
  have h1 : (headSpec ws rm).pre.before a A.U = true := atoms_intro fun w hw => hws w hw _ _ X.warmed
  have h2 : (Cond.codeWith y bytes maxL ret hh).before a A.U = true := hws _ hcode _ _ X.warmed
  have h3 : (Cond.initialized y.cls).before a A.U = true := hinit _ _ X.warmed
  have h4 : A.cells + (headSpec ws rm).room.cells ≤ R.cells := by rw [show (headSpec ws rm).room.cells = mc from hrc]; exact hp.1
  have h5 : A.slots + (headSpec ws rm).room.slots ≤ R.slots := by rw [show (headSpec ws rm).room.slots = ms from hrs]; exact hp.2.1
  have hPc : Pc a (A.U.calling g mk a) := hblind _ _ _ _ hp.2.2
  obtain ⟨U, Ls, c0, s0⟩ := A
  dsimp only [Pt.U, Pt.locs, Pt.cells, Pt.slots] at h1 h2 h3 h4 h5 X hn hPc ⊢
  obtain ⟨m9, methY, cY, hn9, hmY, hcY, -, hlY, -⟩ := Cond.codeWith_spec h2
  cases Option.some.inj (hn9.symm.trans hn)
  obtain ⟨kY, hkY, -⟩ := className_of_methodNamed hn
  have hinitY : kY.init = .initialized := Cond.initialized_spec (findClass_of_methodNamed hn) hkY h3
  have h : At U g.method c below := by rw [hg]; exact X.here
  have hlocals9 : W9 + (maxL + 11) + (headSpec ws rm).room.locals ≤ R.locals := hlocals
  have happ : (headSpec ws rm).appliesLoose y e.platform (U.calling g mk a) = true :=
    Spec.appliesLoose_calling (g := g) h hdg hn hkY hinitY
      (X.room_calling (g := g) (R' := (headSpec ws rm).room) hsize hmY hcY hframes (by rw [hlY]; omega) h4 h5) h1
  obtain ⟨mid, hmid⟩ := h.above
  have hfr : (U.setTop g).frames = (.java g :: mid) ++ below := by rw [State.frames_setTop' g h.top, hmid]; rfl
  obtain ⟨o, s₂, hsteps, -, hend, hq⟩ := Steps.callFree hM p X.admits X.cas X.clock (acts := []) hfr happ hPc trivial
  have hq' : vx_Q Qc XC mc ms free a (U.calling g mk a) o s₂ := hq
  rw [State.frames_setTop' g h.top] at hend
  obtain ⟨g₀, hg0⟩ := Option.isSome_iff_exists.mp h.top
  obtain ⟨r, hr⟩ := State.topJava?_eq_some.mp hg0
  have hr' : (({ U with heap := s₂.heap, slotsUsed := s₂.slotsUsed } : State).setVm s₂.vm).frames = .java g₀ :: r := hr
  rcases hq' with ⟨hqc, L, hfe, hL⟩ | ⟨q, rfl, E, ce, L, hx, hce, hcv, hcl, hW₂, hsm, hL⟩
  · obtain ⟨⟨v, rfl⟩, hW₂, e2, q2, q3, q4, q5, q6⟩ := id hfe
    have e3 : s₂ = ({ (U.calling g mk a).setFrames s₂.frames with heap := s₂.heap, slotsUsed := s₂.slotsUsed } : State).setVm s₂.vm := by
      have : s₂ = ({ s₂ with vm := (U.calling g mk a).vm } : State).setVm s₂.vm := rfl
      rw [e2] at this
      exact this
    obtain ⟨c₂, i₂, len₂, hc₂, hd₂, hf₂⟩ := hend
    have hW' : U.WarmedH s₂.vm := hW₂
    have hcc : c₂ = c := by
      have h1 : s₂.code? g.method = U.code? g.method := by
        rw [State.code?_eq, State.code?_eq, hW'.alike.method?]
      exact Option.some.inj (hc₂.symm.trans (h1.trans h.code))
    subst hcc
    have hlen : len₂ = len := by rw [hdg] at hd₂; cases hd₂; rfl
    subst hlen
    have hs₂ : s₂ = (({ U with heap := s₂.heap, slotsUsed := s₂.slotsUsed } : State).setVm s₂.vm).setTop { g with pc := g.pc + len₂, stack := v.toList ++ g.stack } := by
      refine e3.trans ?_
      rw [hf₂, State.calling_eq h.top, State.setFrames_setFrames, State.setTop_of_frames _ hr', hr]
      rfl
    have hsame : U.sameButNew ({ U with heap := s₂.heap, slotsUsed := s₂.slotsUsed } : State) L mc ms := by
      refine ⟨?_, q2, q3, q4, q5, q6⟩
      obtain ⟨t, ht, -⟩ := State.frames_cons hr
      show ({ U with heap := s₂.heap, slotsUsed := s₂.slotsUsed } : State) = { U.setFrames U.frames with heap := s₂.heap, slotsUsed := s₂.slotsUsed }
      rw [State.setFrames_self ht]
    subst hg
    refine Or.inl ⟨v, ⟨(({ U with heap := s₂.heap, slotsUsed := s₂.slotsUsed } : State).setVm s₂.vm), Ls ++ L, c0 + mc, s0 + ms⟩,
      ⟨X.admits, X.cas, X.clock, X.frames, X.room, X.hears, X.method, X.code, (X.here.setHeapUsed s₂.heap s₂.slotsUsed).setVm hW'.alike, X.tail, State.WarmedH.trans X.warmed hW', X.limits, X.bytes, X.same.trans (hsame.setVm s.vm)⟩,
      ⟨g, mk, s₂, L, rfl, rfl, hqc, rfl, hL, rfl, rfl⟩, ?_⟩
    show Steps p.tables e below _ ((({ U with heap := s₂.heap, slotsUsed := s₂.slotsUsed } : State).setVm s₂.vm).setTop { g with pc := g.pc + len₂, stack := v.toList ++ g.stack })
    rw [← hs₂]
    exact hsteps
  · obtain ⟨e2, q2, q3, q4, q5, q6⟩ := id hsm
    have e3 : s₂ = ({ (U.calling g mk a).setFrames s₂.frames with heap := s₂.heap, slotsUsed := s₂.slotsUsed } : State).setVm s₂.vm := by
      have : s₂ = ({ s₂ with vm := (U.calling g mk a).vm } : State).setVm s₂.vm := rfl
      rw [e2] at this
      exact this
    have hf₂ : s₂.frames = .throwing q :: .java g :: U.frames.tail := hend
    have hW' : U.WarmedH s₂.vm := hW₂
    have hs₂ : s₂ = ((({ U with heap := s₂.heap, slotsUsed := s₂.slotsUsed } : State).setVm s₂.vm).setTop g).pushFrame (.throwing q) := by
      refine e3.trans ?_
      rw [hf₂, State.calling_eq h.top, State.setFrames_setFrames, State.pushFrame, State.frames_setTop _ hr', State.setTop_of_frames _ hr', State.setFrames_setFrames, hr]
      rfl
    have hsame : U.sameButNew ({ U with heap := s₂.heap, slotsUsed := s₂.slotsUsed } : State) L mc ms := by
      refine ⟨?_, q2, q3, q4, q5, q6⟩
      obtain ⟨t, ht, -⟩ := State.frames_cons hr
      show ({ U with heap := s₂.heap, slotsUsed := s₂.slotsUsed } : State) = { U.setFrames U.frames with heap := s₂.heap, slotsUsed := s₂.slotsUsed }
      rw [State.setFrames_self ht]
    subst hg
    refine Or.inr ⟨q, ⟨(({ U with heap := s₂.heap, slotsUsed := s₂.slotsUsed } : State).setVm s₂.vm), Ls ++ L, c0 + mc, s0 + ms⟩,
      ⟨X.admits, X.cas, X.clock, X.frames, X.room, X.hears, X.method, X.code, (X.here.setHeapUsed s₂.heap s₂.slotsUsed).setVm hW'.alike, X.tail, State.WarmedH.trans X.warmed hW', X.limits, X.bytes, X.same.trans (hsame.setVm s.vm)⟩,
      ⟨g, mk, s₂, L, E, ce, rfl, rfl, hx, hce, hcv, hcl, rfl, hL, rfl, rfl⟩, ?_⟩
    show Steps p.tables e below _ (((({ U with heap := s₂.heap, slotsUsed := s₂.slotsUsed } : State).setVm s₂.vm).setTop g).pushFrame (.throwing q))
    rw [← hs₂]
    exact hsteps
end
variable {p : Program} {l : Launch} {e : Env} {R : Room} {s : State} {m : MethodId} {args : Array Value} {below : List Frame} {meth : Method} {c : Code} {T : State} {H : Heap} {locs : List Loc} {cells slots : Nat}
theorem vx_callVX (X : Stand p l e R s m args below meth c T locs cells slots) (hexec : p.tables.exec = Jvm.exec) {own C : String} {index : Nat} {y : MethodName} {bytes : ByteArray} {maxL : Nat} {ret : Option FieldType} {hh : List (Nat × Nat × Nat × Nat)}
    (hown : s.vm.findClass own = some m.cls) (hlink : (Cond.methodLink own index y).before args s = true) (hinst : (Cond.instanceMethod y).before args s = true) (hsel : (Cond.selects C y y).before args s = true)
    (hcode : (Cond.codeWith y bytes maxL ret hh).before args s = true) (hy : y.cls ≠ "java/lang/invoke/MethodHandle" ∧ y.cls ≠ "java/lang/invoke/VarHandle")
    {W9 : Nat} {Pre : Pt → Array Value → Prop} {Post : Pt → Array Value → Option Value → Pt → Prop} {PostX : Pt → Array Value → Addr → Pt → Prop} (hK : vx_Back l R p e below s args y 3 W9 Pre Post PostX)
    {b : Addr} {cellB : Cell} (hcell : T.heap[b]? = some cellB) (hobj : cellB.vm.isStatics = false) (hcls : s.vm.findClass C = some cellB.cls)
    {g : JFrame} (hg : g.method = m) (hsize : g.locals.size = c.maxLocals) {argsL rest : List Value} (hlen : ∀ sig, parseMethodDescriptor y.desc = some sig → argsL.length = sig.parameters.length)
    (hstack : g.stack = argsL.reverse ++ .ref b :: rest) (hW : 2 * g.monitorRoom + (rest.map fun v => v.category).sum ≤ W9) (hdg : decode c.code g.pc = .ok (.invokevirtual index, 3))
    (hpre : ∀ vm₁, s.WarmedH vm₁ → Pre ⟨T.setVm vm₁, locs, cells, slots⟩ (Value.ref b :: argsL).toArray) :
    (∃ (v : Option Value) (vm₁ : Vm) (B : Pt), s.WarmedH vm₁ ∧ Stand p l e R s m args below meth c B.U B.locs B.cells B.slots ∧ Post ⟨T.setVm vm₁, locs, cells, slots⟩ (Value.ref b :: argsL).toArray v B ∧
      ∀ target, Steps p.tables e below (B.U.setTop { g with pc := g.pc + 3, stack := v.toList ++ rest }) target → Steps p.tables e below (T.setTop g) target) ∨
    (∃ (q : Addr) (vm₁ : Vm) (B : Pt), s.WarmedH vm₁ ∧ Stand p l e R s m args below meth c B.U B.locs B.cells B.slots ∧ PostX ⟨T.setVm vm₁, locs, cells, slots⟩ (Value.ref b :: argsL).toArray q B ∧
      Steps p.tables e below (T.setTop g) ((B.U.setTop { g with stack := rest }).pushFrame (.throwing q))) := by
  obtain ⟨mk, methM, hnamed, hmethM, hstM, habM⟩ := Cond.instanceMethod_spec hinst
  obtain ⟨m8, methM', cM, hn8, hmethM', -, -, -, -, -, -, hsigM⟩ := Cond.codeWith_spec hcode
  cases Option.some.inj (hn8.symm.trans hnamed)
  cases hmethM.symm.trans hmethM'
  obtain ⟨c2, r2, m2, q1, q2, q3, q4, kP, hkP, hkPi⟩ := Cond.selects_spec hsel
  cases hcls.symm.trans q1
  cases (State.methodFound?_of_named hnamed hy).symm.trans q2
  cases hnamed.symm.trans q3
  have hselP : selectMethod e.platform s.vm cellB.cls mk = .method mk := by rw [Launch.admits_selectMethod X.admits]; exact q4
  obtain ⟨vm₁, X₁, hstep₁⟩ := X.invokevirtual hexec hown hlink hnamed hmethM hstM hkP hkPi hy (a := b) (cell := cellB) hcell
    (fun z h => by rw [h] at hobj; cases hobj) hselP hmethM habM hkP hkPi (g := g) hg (argsL := argsL) (rest := rest) (hlen _ hsigM) hstack hdg
  rcases hK m meth c ⟨T.setVm vm₁, locs, cells, slots⟩ { g with stack := rest } (.invokevirtual index) mk (Value.ref b :: argsL).toArray X₁ hg hsize hdg hW (X₁.named hnamed) (hpre vm₁ X₁.warmed) with ⟨v, B, X', hpost, hsteps⟩ | ⟨q, B, X', hpost, hsteps⟩
  · exact Or.inl ⟨v, vm₁, B, X₁.warmed, X', hpost, fun target h => hstep₁ _ fun acts => by rw [doInvoke_state]; exact hsteps.trans h⟩
  · exact Or.inr ⟨q, vm₁, B, X₁.warmed, X', hpost, hstep₁ _ fun acts => by rw [doInvoke_state]; exact hsteps⟩
theorem vx_callSX (X : Stand p l e R s m args below meth c T locs cells slots) (hexec : p.tables.exec = Jvm.exec) {own : String} {index : Nat} {y : MethodName} {bytes : ByteArray} {maxL : Nat} {ret : Option FieldType} {hh : List (Nat × Nat × Nat × Nat)}
    (hown : s.vm.findClass own = some m.cls) (hlink : (Cond.methodLink own index y).before args s = true) (hstat : (Cond.static y).before args s = true) (hinit : (Cond.initialized y.cls).before args s = true)
    (hcode : (Cond.codeWith y bytes maxL ret hh).before args s = true) (hy : y.cls ≠ "java/lang/invoke/MethodHandle" ∧ y.cls ≠ "java/lang/invoke/VarHandle")
    {W9 : Nat} {Pre : Pt → Array Value → Prop} {Post : Pt → Array Value → Option Value → Pt → Prop} {PostX : Pt → Array Value → Addr → Pt → Prop} (hK : vx_Back l R p e below s args y 3 W9 Pre Post PostX)
    {g : JFrame} (hg : g.method = m) (hsize : g.locals.size = c.maxLocals) {argsL rest : List Value} (hlen : ∀ sig, parseMethodDescriptor y.desc = some sig → argsL.length = sig.parameters.length)
    (hstack : g.stack = argsL.reverse ++ rest) (hW : 2 * g.monitorRoom + (rest.map fun v => v.category).sum ≤ W9) (hdg : decode c.code g.pc = .ok (.invokestatic index, 3))
    (hpre : ∀ vm₁, s.WarmedH vm₁ → Pre ⟨T.setVm vm₁, locs, cells, slots⟩ argsL.toArray) :
    (∃ (v : Option Value) (vm₁ : Vm) (B : Pt), s.WarmedH vm₁ ∧ Stand p l e R s m args below meth c B.U B.locs B.cells B.slots ∧ Post ⟨T.setVm vm₁, locs, cells, slots⟩ argsL.toArray v B ∧
      ∀ target, Steps p.tables e below (B.U.setTop { g with pc := g.pc + 3, stack := v.toList ++ rest }) target → Steps p.tables e below (T.setTop g) target) ∨
    (∃ (q : Addr) (vm₁ : Vm) (B : Pt), s.WarmedH vm₁ ∧ Stand p l e R s m args below meth c B.U B.locs B.cells B.slots ∧ PostX ⟨T.setVm vm₁, locs, cells, slots⟩ argsL.toArray q B ∧
      Steps p.tables e below (T.setTop g) ((B.U.setTop { g with stack := rest }).pushFrame (.throwing q))) := by
  obtain ⟨mk, methM, cM, hnamed, hmethM, -, -, -, -, -, -, hsigM⟩ := Cond.codeWith_spec hcode
  have hstatic : methM.isStatic = true := Cond.static_spec hnamed hmethM hstat
  obtain ⟨kP, hkP, -⟩ := className_of_methodNamed hnamed
  have hinitP : kP.init = .initialized := Cond.initialized_spec (findClass_of_methodNamed hnamed) hkP hinit
  obtain ⟨vm₁, X₁, hstep₁⟩ := X.invokestatic hexec hown hlink hnamed hmethM hstatic hkP hinitP hy (g := g) hg (argsL := argsL) (rest := rest) (hlen _ hsigM) hstack hdg
  rcases hK m meth c ⟨T.setVm vm₁, locs, cells, slots⟩ { g with stack := rest } (.invokestatic index) mk argsL.toArray X₁ hg hsize hdg hW (X₁.named hnamed) (hpre vm₁ X₁.warmed) with ⟨v, B, X', hpost, hsteps⟩ | ⟨q, B, X', hpost, hsteps⟩
  · exact Or.inl ⟨v, vm₁, B, X₁.warmed, X', hpost, fun target h => hstep₁ _ fun acts => by rw [doInvoke_state]; exact hsteps.trans h⟩
  · exact Or.inr ⟨q, vm₁, B, X₁.warmed, X', hpost, hstep₁ _ fun acts => by rw [doInvoke_state]; exact hsteps⟩
theorem vx_callVW (X : Stand p l e R s m args below meth c T locs cells slots) (hexec : p.tables.exec = Jvm.exec) {own C : String} {index : Nat} {y : MethodName} {bytes : ByteArray} {maxL : Nat} {ret : Option FieldType} {hh : List (Nat × Nat × Nat × Nat)}
    (hown : s.vm.findClass own = some m.cls) (hlink : (Cond.methodLink own index y).before args s = true) (hinst : (Cond.instanceMethod y).before args s = true) (hsel : (Cond.selects C y y).before args s = true)
    (hcode : (Cond.codeWith y bytes maxL ret hh).before args s = true) (hy : y.cls ≠ "java/lang/invoke/MethodHandle" ∧ y.cls ≠ "java/lang/invoke/VarHandle")
    {W9 : Nat} {Pre : Pt → Array Value → Prop} {Post : Pt → Array Value → Option Value → Pt → Prop} (hK : Back l R p e below s args y 3 W9 Pre Post)
    {b : Addr} {cellB : Cell} (hcell : T.heap[b]? = some cellB) (hobj : cellB.vm.isStatics = false) (hcls : s.vm.findClass C = some cellB.cls)
    {g : JFrame} (hg : g.method = m) (hsize : g.locals.size = c.maxLocals) {argsL rest : List Value} (hlen : ∀ sig, parseMethodDescriptor y.desc = some sig → argsL.length = sig.parameters.length)
    (hstack : g.stack = argsL.reverse ++ .ref b :: rest) (hW : 2 * g.monitorRoom + (rest.map fun v => v.category).sum ≤ W9) (hdg : decode c.code g.pc = .ok (.invokevirtual index, 3))
    (hpre : ∀ vm₁, s.WarmedH vm₁ → Pre ⟨T.setVm vm₁, locs, cells, slots⟩ (Value.ref b :: argsL).toArray) :
    ∃ (v : Option Value) (vm₁ : Vm) (B : Pt), s.WarmedH vm₁ ∧ Stand p l e R s m args below meth c B.U B.locs B.cells B.slots ∧ Post ⟨T.setVm vm₁, locs, cells, slots⟩ (Value.ref b :: argsL).toArray v B ∧
      ∀ target, Steps p.tables e below (B.U.setTop { g with pc := g.pc + 3, stack := v.toList ++ rest }) target → Steps p.tables e below (T.setTop g) target := by
  obtain ⟨mk, methM, hnamed, hmethM, hstM, habM⟩ := Cond.instanceMethod_spec hinst
  obtain ⟨m8, methM', cM, hn8, hmethM', -, -, -, -, -, -, hsigM⟩ := Cond.codeWith_spec hcode
  cases Option.some.inj (hn8.symm.trans hnamed)
  cases hmethM.symm.trans hmethM'
  obtain ⟨c2, r2, m2, q1, q2, q3, q4, kP, hkP, hkPi⟩ := Cond.selects_spec hsel
  cases hcls.symm.trans q1
  cases (State.methodFound?_of_named hnamed hy).symm.trans q2
  cases hnamed.symm.trans q3
  have hselP : selectMethod e.platform s.vm cellB.cls mk = .method mk := by rw [Launch.admits_selectMethod X.admits]; exact q4
  obtain ⟨vm₁, X₁, hstep₁⟩ := X.invokevirtual hexec hown hlink hnamed hmethM hstM hkP hkPi hy (a := b) (cell := cellB) hcell
    (fun z h => by rw [h] at hobj; cases hobj) hselP hmethM habM hkP hkPi (g := g) hg (argsL := argsL) (rest := rest) (hlen _ hsigM) hstack hdg
  obtain ⟨v, B, X', hpost, hsteps⟩ := hK m meth c ⟨T.setVm vm₁, locs, cells, slots⟩ { g with stack := rest } (.invokevirtual index) mk (Value.ref b :: argsL).toArray X₁ hg hsize hdg hW (X₁.named hnamed) (hpre vm₁ X₁.warmed)
  exact ⟨v, vm₁, B, X₁.warmed, X', hpost, fun target h => hstep₁ _ fun acts => by rw [doInvoke_state]; exact hsteps.trans h⟩
abbrev vx_CVW (R : Room) (s : State) (args : Array Value) (own C : String) (index : Nat) (y : MethodName) (bytes : ByteArray) (maxL : Nat) (ret : Option FieldType) (hh : List (Nat × Nat × Nat × Nat)) (ws : List Cond) (rm : Room) (mc ms n : Nat) : Prop :=
  (rm.cells = mc ∧ rm.slots = ms ∧ rm.frames + 1 ≤ R.frames ∧ 8 + (maxL + 11) + rm.locals ≤ R.locals ∧ (∀ w ∈ ws, ∀ (a' : Array Value) (U : State), s.WarmedH U.vm → w.before a' U = true) ∧ Cond.codeWith y bytes maxL ret hh ∈ ws) ∧
  (Cond.codeWith y bytes maxL ret hh).before args s = true ∧ (Cond.initialized y.cls).before args s = true ∧ (y.cls ≠ "java/lang/invoke/MethodHandle" ∧ y.cls ≠ "java/lang/invoke/VarHandle") ∧
  (∀ sig, parseMethodDescriptor y.desc = some sig → n = sig.parameters.length) ∧ (Cond.methodLink own index y).before args s = true ∧ (Cond.instanceMethod y).before args s = true ∧ (Cond.selects C y y).before args s = true
theorem vx_cwVW {own C : String} {index maxL mc ms : Nat} {y : MethodName} {bytes : ByteArray} {ret : Option FieldType} {hh : List (Nat × Nat × Nat × Nat)} {Ts ws ws' : List Cond} {rm : Room} (n : Nat) (ht : ∀ w ∈ Ts, w.before args s = true) (hT : GoodIn Ts (wsV own index C y ws)) (hw : ws = Cond.codeWith y bytes maxL ret hh :: ws') (hrc : rm.cells = mc) (hrs : rm.slots = ms)
    (hd : y.cls = C ∧ y.cls ≠ "java/lang/invoke/MethodHandle" ∧ y.cls ≠ "java/lang/invoke/VarHandle" ∧ (parseMethodDescriptor y.desc).map (fun d => d.parameters.length) = some n) (hR : rm.frames + 1 ≤ R.frames ∧ 8 + (maxL + 11) + rm.locals ≤ R.locals) :
    vx_CVW R s args own C index y bytes maxL ret hh ws rm mc ms n := by
  obtain ⟨hC, hd⟩ := hd
  subst hC
  have ok : ∀ w ∈ wsV own index y.cls y ws, w.before args s = true := fun w h => ht w (hT w h).1
  have hG : GoodIn Ts ws := fun w h => hT w (by unfold wsV; exact List.mem_append_right _ h)
  have hc : Cond.codeWith y bytes maxL ret hh ∈ ws := by rw [hw]; exact List.mem_cons_self
  refine ⟨⟨hrc, hrs, hR.1, hR.2, pay_in ht hG, hc⟩, ht _ (hG _ hc).1, ok _ (by simp [wsV]), ⟨hd.1, hd.2.1⟩, fun sig h => ?_, ok _ (by simp [wsV]), ok _ (by simp [wsV]), ok _ (by simp [wsV])⟩
  have h2 := hd.2.2
  rw [h] at h2
  exact (Option.some.inj h2).symm
theorem vx_runVW {y : MethodName} {bytes cc : ByteArray} {maxL nL mc ms n index : Nat} {ret : Option FieldType} {hh : List (Nat × Nat × Nat × Nat)} {ws : List Cond} {rm : Room} {Pc : Array Value → State → Prop} {Qc : Array Value → State → Outcome → State → Prop} {free : Addr → Prop} {Ts : List Cond} {own C : String} {b : Addr} {As rest : List Value} {g : JFrame}
    (S : CallFix p m c cc nL s args Ts own) (hM : Met l y ws rm Pc Qc mc ms free) (cw : vx_CVW R s args own C index y bytes maxL ret hh ws rm mc ms n) (hp : PreV s H C b Pc As)
    (hg : g.method = m) (hn : As.length = n) (hsize : g.locals.size = nL) (hstack : g.stack = As.reverse ++ .ref b :: rest) (hW : 2 * g.monitorRoom + (rest.map fun v => v.category).sum ≤ 8) (hdg : decode cc g.pc = .ok (.invokevirtual index, 3)) (hf : cells + mc ≤ R.cells ∧ slots + ms ≤ R.slots) :
    va_Run p l e R s m args below meth c H locs cells slots mc ms g rest (Qc (Value.ref b :: As).toArray) free := by
  obtain ⟨⟨hrc, hrs, hfr, hlo, hws, hcw⟩, hcode, hini, hy, hlen, hl, hin, hse⟩ := cw
  have hK : Back l R p e below s args y 3 8 (PreOf R mc ms Pc) (PostOf Qc mc ms free) := va_backW (hh := hh) (bytes := bytes) (maxL := maxL) (ret := ret) hM hp.1 hrc hrs hfr hlo hws hcw (fun a' U hW => word_at hW (Or.inl (by first | rfl | simp [Cond.onTables, Cond.keeps, Cond.steady])) hini)
  obtain ⟨hx, hb, hml, ho, -⟩ := S
  obtain ⟨-, ⟨cellB, hcB, hoB, hclB⟩, hPc⟩ := hp
  intro T hT X
  obtain ⟨v, vm₁, ⟨U', l2, c2, s2⟩, hW₁, X', ⟨g', mk, t, L, e1, e2, hq, h1, hL, h2, h3⟩, st⟩ := vx_callVW X hx (C := C) (hh := hh) (bytes := bytes) (maxL := maxL) (ret := ret) ho hl hin hse hcode hy hK (by rw [hT]; exact hcB) hoB hclB hg (hsize.trans hml.symm) (argsL := As) (rest := rest) (fun sig h => hn.trans (hlen sig h)) hstack hW (by rw [hb]; exact hdg)
    (fun vm₁ hW₁ => ⟨hf.1, hf.2, hPc (T.setVm vm₁) hT hW₁⟩)
  dsimp only [Pt.U, Pt.locs, Pt.cells, Pt.slots] at X' e1 e2 h1 h2 h3 st
  subst h1; subst h2; subst h3
  exact ⟨v, (T.setVm vm₁).calling g' mk (Value.ref b :: As).toArray, t, U', L, hT, X', hL, e1, e2, hq, st⟩
section
variable {y : MethodName} {bytes cc : ByteArray} {maxL nL mc ms n index : Nat} {ret : Option FieldType} {ws : List Cond} {rm : Room} {Pc : Array Value → State → Prop} {Qc : Array Value → State → Outcome → State → Prop} {XC : String → State → State → Prop} {free : Addr → Prop} {Ts : List Cond} {own C : String} {b : Addr} {As rest : List Value} {g : JFrame}
theorem vx_runVX {hh : List (Nat × Nat × Nat × Nat)} (S : CallFix p m c cc nL s args Ts own) (hM : vx_Met l y ws rm Pc Qc XC mc ms free) (cw : vx_CVW R s args own C index y bytes maxL ret hh ws rm mc ms n) (hp : PreV s H C b Pc As)
    (hg : g.method = m) (hn : As.length = n) (hsize : g.locals.size = nL) (hstack : g.stack = As.reverse ++ .ref b :: rest) (hW : 2 * g.monitorRoom + (rest.map fun v => v.category).sum ≤ 8) (hdg : decode cc g.pc = .ok (.invokevirtual index, 3)) (hf : cells + mc ≤ R.cells ∧ slots + ms ≤ R.slots) :
    vx_Run p l e R s m args below meth c H locs cells slots mc ms g rest (Qc (Value.ref b :: As).toArray) XC free := by
  obtain ⟨⟨hrc, hrs, hfr, hlo, hws, hcw⟩, hcode, hini, hy, hlen, hl, hin, hse⟩ := cw
  have hK : vx_Back l R p e below s args y 3 8 (PreOf R mc ms Pc) (PostOf Qc mc ms free) (vx_Post XC mc ms free) := vx_backW (hh := hh) (bytes := bytes) (maxL := maxL) (ret := ret) hM hp.1 hrc hrs hfr hlo hws hcw (fun a' U hW => word_at hW (Or.inl (by first | rfl | simp [Cond.onTables, Cond.keeps, Cond.steady])) hini)
  obtain ⟨hx, hb, hml, ho, -⟩ := S
  obtain ⟨-, ⟨cellB, hcB, hoB, hclB⟩, hPc⟩ := hp
  intro T hT X
  rcases vx_callVX X hx (C := C) (hh := hh) (bytes := bytes) (maxL := maxL) (ret := ret) ho hl hin hse hcode hy hK (by rw [hT]; exact hcB) hoB hclB hg (hsize.trans hml.symm) (argsL := As) (rest := rest) (fun sig h => hn.trans (hlen sig h)) hstack hW (by rw [hb]; exact hdg)
    (fun vm₁ hW₁ => ⟨hf.1, hf.2, hPc (T.setVm vm₁) hT hW₁⟩) with ⟨v, vm₁, ⟨U', l2, c2, s2⟩, hW₁, X', ⟨g', mk, t, L, e1, e2, hq, h1, hL, h2, h3⟩, st⟩ | ⟨q, vm₁, ⟨U', l2, c2, s2⟩, hW₁, X', ⟨g', mk, t, L, E, ce, e1, e2, hq, hce, hcv, hcl, h1, hL, h2, h3⟩, st⟩
  · dsimp only [Pt.U, Pt.locs, Pt.cells, Pt.slots] at X' e1 e2 h1 h2 h3 st
    subst h1; subst h2; subst h3
    exact Or.inl ⟨v, (T.setVm vm₁).calling g' mk (Value.ref b :: As).toArray, t, U', L, hT, X', hL, e1, e2, hq, st⟩
  · dsimp only [Pt.U, Pt.locs, Pt.cells, Pt.slots] at X' e1 e2 h1 h2 h3 st hcl
    subst h1; subst h2; subst h3
    exact Or.inr ⟨q, (T.setVm vm₁).calling g' mk (Value.ref b :: As).toArray, t, U', L, E, ce, hT, X', hL, e1, e2, hq, hce, hcv, vx_cls hW₁ hcl, st⟩
theorem vx_runSX {hh : List (Nat × Nat × Nat × Nat)} (S : CallFix p m c cc nL s args Ts own) (hM : vx_Met l y ws rm Pc Qc XC mc ms free) (cw : vx_CSW R s args own index y bytes maxL ret hh ws rm mc ms n) (hp : PreS s H Pc As)
    (hg : g.method = m) (hn : As.length = n) (hsize : g.locals.size = nL) (hstack : g.stack = As.reverse ++ rest) (hW : 2 * g.monitorRoom + (rest.map fun v => v.category).sum ≤ 8) (hdg : decode cc g.pc = .ok (.invokestatic index, 3)) (hf : cells + mc ≤ R.cells ∧ slots + ms ≤ R.slots) :
    vx_Run p l e R s m args below meth c H locs cells slots mc ms g rest (Qc As.toArray) XC free := by
  obtain ⟨⟨hrc, hrs, hfr, hlo, hws, hcw⟩, hcode, hini, hy, hlen, hl, hstt⟩ := cw
  have hK : vx_Back l R p e below s args y 3 8 (PreOf R mc ms Pc) (PostOf Qc mc ms free) (vx_Post XC mc ms free) := vx_backW (hh := hh) (bytes := bytes) (maxL := maxL) (ret := ret) hM hp.1 hrc hrs hfr hlo hws hcw (fun a' U hW => word_at hW (Or.inl (by first | rfl | simp [Cond.onTables, Cond.keeps, Cond.steady])) hini)
  obtain ⟨hx, hb, hml, ho, -⟩ := S
  intro T hT X
  rcases vx_callSX X hx (hh := hh) (bytes := bytes) (maxL := maxL) (ret := ret) ho hl hstt hini hcode hy hK hg (hsize.trans hml.symm) (argsL := As) (rest := rest) (fun sig h => hn.trans (hlen sig h)) hstack hW (by rw [hb]; exact hdg)
    (fun vm₁ hW₁ => ⟨hf.1, hf.2, hp.2 (T.setVm vm₁) hT hW₁⟩) with ⟨v, vm₁, ⟨U', l2, c2, s2⟩, hW₁, X', ⟨g', mk, t, L, e1, e2, hq, h1, hL, h2, h3⟩, st⟩ | ⟨q, vm₁, ⟨U', l2, c2, s2⟩, hW₁, X', ⟨g', mk, t, L, E, ce, e1, e2, hq, hce, hcv, hcl, h1, hL, h2, h3⟩, st⟩
  · dsimp only [Pt.U, Pt.locs, Pt.cells, Pt.slots] at X' e1 e2 h1 h2 h3 st
    subst h1; subst h2; subst h3
    exact Or.inl ⟨v, (T.setVm vm₁).calling g' mk As.toArray, t, U', L, hT, X', hL, e1, e2, hq, st⟩
  · dsimp only [Pt.U, Pt.locs, Pt.cells, Pt.slots] at X' e1 e2 h1 h2 h3 st hcl
    subst h1; subst h2; subst h3
    exact Or.inr ⟨q, (T.setVm vm₁).calling g' mk As.toArray, t, U', L, E, ce, hT, X', hL, e1, e2, hq, hce, hcv, vx_cls hW₁ hcl, st⟩
end
end VXH
theorem vx_ofWH {l : Launch} {y : MethodName} {ws ws' : List Cond} {rm : Room} {Pc : Array Value → State → Prop} {Qc : Array Value → State → Outcome → State → Prop} {XC : String → State → State → Prop} {mc ms : Nat} {free : Addr → Prop} {cc : ByteArray} {maxL : Nat} {ret : Option FieldType} {hh : List (Nat × Nat × Nat × Nat)}
    (hy : plainName y.cls = true) (hw : ws = Cond.codeWith y cc maxL ret hh :: ws')
    (body : ∀ p e s m args below meth c s₁, BodyLoose p l y (headSpec ws rm) cc maxL ret e s m args below meth c s₁ → c.maxLocals = maxL → Pc args s →
      W p l e (headSpec ws rm).room s m args below meth c s.heap [] 0 0 (vx_MQ below Qc XC args s mc ms free) (entryFrame m args maxL)) : vx_Met l y ws rm Pc Qc XC mc ms free := by
  refine MetFree.of_bodyS (code := cc) (maxLocals := maxL) (ret := ret) hy ?_ ?_
  · intro args s m h hn
    obtain ⟨m9, meth, c, hn9, h1, h2, h3, h4, -, h5, h6, -⟩ := Cond.codeWith_spec (atoms_spec (ws := ws) h _ (by rw [hw]; exact List.mem_cons_self))
    cases hn.symm.trans hn9
    exact ⟨meth, c, h1, h2, h3, h4, h5, h6⟩
  · intro p e s m args below meth c s₁ B hml hP _
    have hh0 : s₁.heap = s.heap := by rw [B.state]; rfl
    obtain ⟨t, a1, o, b1, b2, b3⟩ := body p e s m args below meth c s₁ B hml hP s₁ hh0 (Stand.of_body B)
    exact ⟨t, o, a1, b1, b2, b3⟩
/-! ===== END ===== -/
end
section
/-! Names (by tool/names2.py): classes, fields, methods, words. -/
def RX0 : String := "GameGraph"
def RX1 : String := "GameGraphModel"
def RL : String := "GameGraphLaw"
def TX0 : u_T := fun k => match k with
  | 0 => ("GameGraph", "count", "I", false)
  | 1 => ("GameGraph", "isOpen", "[Z", true)
  | 2 => ("GameGraph", "ofFirst", "[I", true)
  | 3 => ("GameGraph", "ofSecond", "[I", true)
  | 4 => ("GameGraph", "targets", "[I", true)
  | 5 => ("GameGraph", "surveyed", "Z", false)
  | 6 => ("GameGraph", "comesTo", "[J", true)
  | 7 => ("GameGraph", "reachedStates", "J", false)
  | 8 => ("GameGraph", "defectKind", "I", false)
  | 9 => ("GameGraph", "defectState", "I", false)
  | 10 => ("GameGraph", "lengths", "[I", true)
  | 11 => ("GameGraph", "low", "[I", true)
  | _ => ("GameGraph", "high", "[I", true)
def tyX0 : Nat → FieldType := fun k => match k with
  | 0 => .int
  | 1 => .array .boolean
  | 2 => .array .int
  | 3 => .array .int
  | 4 => .array .int
  | 5 => .boolean
  | 6 => .array .long
  | 7 => .long
  | 8 => .int
  | 9 => .int
  | 10 => .array .int
  | 11 => .array .int
  | _ => .array .int
abbrev wsX00 : List Cond := u_ws RX0 TX0 13
theorem nmX0 : ∀ a, a < 13 → ∀ b, b < 13 → a ≠ b → (TX0 a).2.1 ≠ (TX0 b).2.1 := by decide +kernel
theorem tyX0_ok : ∀ k, k < 13 → parseFieldDescriptor (TX0 k).2.2.1 = some (tyX0 k) := by decide +kernel
def TX1 : u_T := fun k => match k with
  | 0 => ("GameGraphModel", "states", "I", false)
  | 1 => ("GameGraphModel", "open", "[Z", true)
  | 2 => ("GameGraphModel", "goalOne", "[I", true)
  | 3 => ("GameGraphModel", "goalTwo", "[I", true)
  | 4 => ("GameGraphModel", "movesOne", "[I", true)
  | 5 => ("GameGraphModel", "movesTwo", "[I", true)
  | 6 => ("GameGraphModel", "goes", "[I", true)
  | 7 => ("GameGraphModel", "reached", "[Z", true)
  | 8 => ("GameGraphModel", "from", "[Z", true)
  | 9 => ("GameGraphModel", "known", "[Z", true)
  | 10 => ("GameGraphModel", "value", "[I", true)
  | 11 => ("GameGraphModel", "length", "[I", true)
  | _ => ("GameGraphModel", "thrown", "I", false)
def tyX1 : Nat → FieldType := fun k => match k with
  | 0 => .int
  | 1 => .array .boolean
  | 2 => .array .int
  | 3 => .array .int
  | 4 => .array .int
  | 5 => .array .int
  | 6 => .array .int
  | 7 => .array .boolean
  | 8 => .array .boolean
  | 9 => .array .boolean
  | 10 => .array .int
  | 11 => .array .int
  | _ => .int
abbrev wsX10 : List Cond := u_ws RX1 TX1 13
theorem nmX1 : ∀ a, a < 13 → ∀ b, b < 13 → a ≠ b → (TX1 a).2.1 ≠ (TX1 b).2.1 := by decide +kernel
theorem tyX1_ok : ∀ k, k < 13 → parseFieldDescriptor (TX1 k).2.2.1 = some (tyX1 k) := by decide +kernel
abbrev vwCl : List vw_C := [(RX0, TX0, 13), (RX1, TX1, 13)]
def yX0_init : MethodName := ⟨"GameGraph", "<init>", "()V"⟩
def yO_init : MethodName := ⟨"java/lang/Object", "<init>", "()V"⟩
def yX0_makeEvenEnds : MethodName := ⟨"GameGraph", "makeEvenEnds", "(I)V"⟩
def yX0_makeState : MethodName := ⟨"GameGraph", "makeState", "(IZII)V"⟩
def yX0_reached : MethodName := ⟨"GameGraph", "reached", "()I"⟩
def yX0_survey : MethodName := ⟨"GameGraph", "survey", "()V"⟩
def yX0_findWhatStatesComeTo : MethodName := ⟨"GameGraph", "findWhatStatesComeTo", "()V"⟩
def yX0_goesTo : MethodName := ⟨"GameGraph", "goesTo", "(I)J"⟩
def yX0_jointMoves : MethodName := ⟨"GameGraph", "jointMoves", "(I)I"⟩
def yX0_target : MethodName := ⟨"GameGraph", "target", "(II)I"⟩
def yX0_contains : MethodName := ⟨"GameGraph", "contains", "(JI)Z"⟩
def yX0_findDefect : MethodName := ⟨"GameGraph", "findDefect", "()V"⟩
def yX0_defectOfOpen : MethodName := ⟨"GameGraph", "defectOfOpen", "(I)I"⟩
def yX0_defectOfEnd : MethodName := ⟨"GameGraph", "defectOfEnd", "(I)I"⟩
def yX0_noteDefect : MethodName := ⟨"GameGraph", "noteDefect", "(II)V"⟩
def yX0_findLengths : MethodName := ⟨"GameGraph", "findLengths", "()V"⟩
def yX0_boundValues : MethodName := ⟨"GameGraph", "boundValues", "()V"⟩
def yJ_bitCount : MethodName := ⟨"java/lang/Long", "bitCount", "(J)I"⟩
def yL_states : MethodName := ⟨"GameGraphLaw", "states", "(LGameGraph;I)I"⟩
def yX0_states : MethodName := ⟨"GameGraph", "states", "(I)V"⟩
def yER_init : MethodName := ⟨"java/lang/RuntimeException", "<init>", "()V"⟩
def yER_initS : MethodName := ⟨"java/lang/RuntimeException", "<init>", "(Ljava/lang/String;)V"⟩
def yEE_init : MethodName := ⟨"java/lang/Exception", "<init>", "()V"⟩
def yEE_initS : MethodName := ⟨"java/lang/Exception", "<init>", "(Ljava/lang/String;)V"⟩
def yT_init : MethodName := ⟨"java/lang/Throwable", "<init>", "()V"⟩
def yT_initS : MethodName := ⟨"java/lang/Throwable", "<init>", "(Ljava/lang/String;)V"⟩
def yT_fillInStackTraceI : MethodName := ⟨"java/lang/Throwable", "fillInStackTrace", "(I)Ljava/lang/Throwable;"⟩
def yT_fillInStackTrace : MethodName := ⟨"java/lang/Throwable", "fillInStackTrace", "()Ljava/lang/Throwable;"⟩
def yEA_initS : MethodName := ⟨"java/lang/IllegalArgumentException", "<init>", "(Ljava/lang/String;)V"⟩
def yL_end : MethodName := ⟨"GameGraphLaw", "end", "(LGameGraph;III)I"⟩
def yX0_end : MethodName := ⟨"GameGraph", "end", "(III)V"⟩
def yX0_requireState : MethodName := ⟨"GameGraph", "requireState", "(I)V"⟩
def yX0_hasState : MethodName := ⟨"GameGraph", "hasState", "(I)Z"⟩
def yEI_initS : MethodName := ⟨"java/lang/IndexOutOfBoundsException", "<init>", "(Ljava/lang/String;)V"⟩
def yX0_isGoal : MethodName := ⟨"GameGraph", "isGoal", "(I)Z"⟩
def yL_open : MethodName := ⟨"GameGraphLaw", "open", "(LGameGraph;III)I"⟩
def yX0_open : MethodName := ⟨"GameGraph", "open", "(III)V"⟩
def yX0_isNumberOfMoves : MethodName := ⟨"GameGraph", "isNumberOfMoves", "(I)Z"⟩
def yL_link : MethodName := ⟨"GameGraphLaw", "link", "(LGameGraph;III)I"⟩
def yX0_link : MethodName := ⟨"GameGraph", "link", "(III)V"⟩
def yX0_requireJointMove : MethodName := ⟨"GameGraph", "requireJointMove", "(II)V"⟩
def yL_next : MethodName := ⟨"GameGraphLaw", "next", "(LGameGraph;II[J)I"⟩
def yX0_next : MethodName := ⟨"GameGraph", "next", "(II)I"⟩
def yL_defect : MethodName := ⟨"GameGraphLaw", "defect", "(LGameGraph;I[J)I"⟩
def yX0_defect : MethodName := ⟨"GameGraph", "defect", "(I)I"⟩
def yL_value : MethodName := ⟨"GameGraphLaw", "value", "(LGameGraph;I[J)I"⟩
def yX0_value : MethodName := ⟨"GameGraph", "value", "(I)I"⟩
def yX0_requireValued : MethodName := ⟨"GameGraph", "requireValued", "(I)V"⟩
def yES_initS : MethodName := ⟨"java/lang/IllegalStateException", "<init>", "(Ljava/lang/String;)V"⟩
def yX0_findValue : MethodName := ⟨"GameGraph", "findValue", "(I)I"⟩
def yX0_search : MethodName := ⟨"GameGraph", "search", "(IIII)I"⟩
def yX0_greatest : MethodName := ⟨"GameGraph", "greatest", "(IIII)I"⟩
def yM_max : MethodName := ⟨"java/lang/Math", "max", "(II)I"⟩
def yX0_least : MethodName := ⟨"GameGraph", "least", "(IIII)I"⟩
def yM_min : MethodName := ⟨"java/lang/Math", "min", "(II)I"⟩
def yL_best : MethodName := ⟨"GameGraphLaw", "best", "(LGameGraph;I[J)I"⟩
def yX0_best : MethodName := ⟨"GameGraph", "best", "(I)I"⟩
def yX0_findBest : MethodName := ⟨"GameGraph", "findBest", "(I)I"⟩
def yL_length : MethodName := ⟨"GameGraphLaw", "length", "(LGameGraph;I[J)I"⟩
def yX0_length : MethodName := ⟨"GameGraph", "length", "(I)I"⟩
def yX1_init : MethodName := ⟨"GameGraphModel", "<init>", "()V"⟩
def yX1_thrown : MethodName := ⟨"GameGraphModel", "thrown", "()I"⟩
def yX1_states : MethodName := ⟨"GameGraphModel", "states", "(I)V"⟩
def yX1_end : MethodName := ⟨"GameGraphModel", "end", "(III)V"⟩
def yX1_isState : MethodName := ⟨"GameGraphModel", "isState", "(I)Z"⟩
def yX1_open : MethodName := ⟨"GameGraphModel", "open", "(III)V"⟩
def yX1_isMany : MethodName := ⟨"GameGraphModel", "isMany", "(I)Z"⟩
def yX1_link : MethodName := ⟨"GameGraphModel", "link", "(III)V"⟩
def yX1_isJoint : MethodName := ⟨"GameGraphModel", "isJoint", "(II)Z"⟩
def yX1_joint : MethodName := ⟨"GameGraphModel", "joint", "(I)I"⟩
def yX1_next : MethodName := ⟨"GameGraphModel", "next", "(II)I"⟩
def yX1_reached : MethodName := ⟨"GameGraphModel", "reached", "()I"⟩
def yX1_reach : MethodName := ⟨"GameGraphModel", "reach", "()V"⟩
def yX1_spread : MethodName := ⟨"GameGraphModel", "spread", "([Z)V"⟩
def yX1_defect : MethodName := ⟨"GameGraphModel", "defect", "(I)I"⟩
def yX1_defective : MethodName := ⟨"GameGraphModel", "defective", "()I"⟩
def yX1_own : MethodName := ⟨"GameGraphModel", "own", "(I)I"⟩
def yX1_comesAgain : MethodName := ⟨"GameGraphModel", "comesAgain", "(I)Z"⟩
def yX1_value : MethodName := ⟨"GameGraphModel", "value", "(I)I"⟩
def yX1_asked : MethodName := ⟨"GameGraphModel", "asked", "(I)Z"⟩
def yX1_learn : MethodName := ⟨"GameGraphModel", "learn", "(I)V"⟩
def yX1_best : MethodName := ⟨"GameGraphModel", "best", "(I)I"⟩
def yX1_length : MethodName := ⟨"GameGraphModel", "length", "(I)I"⟩
abbrev cX0_init : ByteArray := prog_1_method_1_code
abbrev cO_init : ByteArray := object_method_1_code
abbrev cX0_makeEvenEnds : ByteArray := prog_1_method_21_code
abbrev cX0_makeState : ByteArray := prog_1_method_22_code
abbrev cX0_reached : ByteArray := prog_1_method_7_code
abbrev cX0_survey : ByteArray := prog_1_method_23_code
abbrev cX0_findWhatStatesComeTo : ByteArray := prog_1_method_24_code
abbrev cX0_goesTo : ByteArray := prog_1_method_25_code
abbrev cX0_jointMoves : ByteArray := prog_1_method_19_code
abbrev cX0_target : ByteArray := prog_1_method_20_code
abbrev cX0_contains : ByteArray := prog_1_method_18_code
abbrev cX0_findDefect : ByteArray := prog_1_method_26_code
abbrev cX0_defectOfOpen : ByteArray := prog_1_method_28_code
abbrev cX0_defectOfEnd : ByteArray := prog_1_method_29_code
abbrev cX0_noteDefect : ByteArray := prog_1_method_27_code
abbrev cX0_findLengths : ByteArray := prog_1_method_30_code
abbrev cX0_boundValues : ByteArray := prog_1_method_31_code
abbrev cJ_bitCount : ByteArray := prog_8_method_50_code
abbrev cL_states : ByteArray := method_3_code
abbrev cX0_states : ByteArray := prog_1_method_2_code
abbrev cT_init : ByteArray := prog_12_method_1_code
abbrev cT_fillInStackTrace : ByteArray := prog_12_method_18_code
abbrev cEA_initS : ByteArray := prog_5_method_2_code
abbrev cER_initS : ByteArray := prog_10_method_2_code
abbrev cEE_initS : ByteArray := prog_4_method_2_code
abbrev cT_initS : ByteArray := prog_12_method_2_code
abbrev cL_end : ByteArray := method_4_code
abbrev cX0_end : ByteArray := prog_1_method_3_code
abbrev cX0_requireState : ByteArray := prog_1_method_13_code
abbrev cX0_hasState : ByteArray := prog_1_method_12_code
abbrev cEI_initS : ByteArray := prog_7_method_2_code
abbrev cX0_isGoal : ByteArray := prog_1_method_16_code
abbrev cL_open : ByteArray := method_5_code
abbrev cX0_open : ByteArray := prog_1_method_4_code
abbrev cX0_isNumberOfMoves : ByteArray := prog_1_method_17_code
abbrev cL_link : ByteArray := method_6_code
abbrev cX0_link : ByteArray := prog_1_method_5_code
abbrev cX0_requireJointMove : ByteArray := prog_1_method_14_code
abbrev cL_next : ByteArray := method_7_code
abbrev cX0_next : ByteArray := prog_1_method_6_code
abbrev cL_defect : ByteArray := method_8_code
abbrev cX0_defect : ByteArray := prog_1_method_8_code
abbrev cL_value : ByteArray := method_9_code
abbrev cX0_value : ByteArray := prog_1_method_9_code
abbrev cX0_requireValued : ByteArray := prog_1_method_15_code
abbrev cES_initS : ByteArray := prog_6_method_2_code
abbrev cX0_findValue : ByteArray := prog_1_method_32_code
abbrev cX0_search : ByteArray := prog_1_method_34_code
abbrev cX0_greatest : ByteArray := prog_1_method_35_code
abbrev cM_max : ByteArray := prog_9_method_65_code
abbrev cX0_least : ByteArray := prog_1_method_36_code
abbrev cM_min : ByteArray := prog_9_method_69_code
abbrev cL_best : ByteArray := method_10_code
abbrev cX0_best : ByteArray := prog_1_method_10_code
abbrev cX0_findBest : ByteArray := prog_1_method_33_code
abbrev cL_length : ByteArray := method_11_code
abbrev cX0_length : ByteArray := prog_1_method_11_code
abbrev cX1_init : ByteArray := prog_3_method_1_code
abbrev cX1_thrown : ByteArray := prog_3_method_2_code
abbrev cX1_states : ByteArray := prog_3_method_3_code
abbrev cX1_end : ByteArray := prog_3_method_5_code
abbrev cX1_isState : ByteArray := prog_3_method_4_code
abbrev cX1_open : ByteArray := prog_3_method_7_code
abbrev cX1_isMany : ByteArray := prog_3_method_6_code
abbrev cX1_link : ByteArray := prog_3_method_10_code
abbrev cX1_isJoint : ByteArray := prog_3_method_9_code
abbrev cX1_joint : ByteArray := prog_3_method_8_code
abbrev cX1_next : ByteArray := prog_3_method_11_code
abbrev cX1_reached : ByteArray := prog_3_method_14_code
abbrev cX1_reach : ByteArray := prog_3_method_13_code
abbrev cX1_spread : ByteArray := prog_3_method_12_code
abbrev cX1_defect : ByteArray := prog_3_method_18_code
abbrev cX1_defective : ByteArray := prog_3_method_17_code
abbrev cX1_own : ByteArray := prog_3_method_15_code
abbrev cX1_comesAgain : ByteArray := prog_3_method_16_code
abbrev cX1_value : ByteArray := prog_3_method_21_code
abbrev cX1_asked : ByteArray := prog_3_method_20_code
abbrev cX1_learn : ByteArray := prog_3_method_19_code
abbrev cX1_best : ByteArray := prog_3_method_22_code
abbrev cX1_length : ByteArray := prog_3_method_23_code
def wA_0 : List Cond := [(Cond.selects "GameGraph" yX0_makeEvenEnds yX0_makeEvenEnds), (Cond.selects "GameGraph" yX0_makeState yX0_makeState), (Cond.selects "GameGraph" yX0_survey yX0_survey), (Cond.selects "GameGraph" yX0_findWhatStatesComeTo yX0_findWhatStatesComeTo), (Cond.selects "GameGraph" yX0_goesTo yX0_goesTo), (Cond.selects "GameGraph" yX0_jointMoves yX0_jointMoves), (Cond.selects "GameGraph" yX0_target yX0_target), (Cond.selects "GameGraph" yX0_findDefect yX0_findDefect), (Cond.selects "GameGraph" yX0_defectOfOpen yX0_defectOfOpen), (Cond.selects "GameGraph" yX0_defectOfEnd yX0_defectOfEnd), (Cond.selects "GameGraph" yX0_noteDefect yX0_noteDefect), (Cond.selects "GameGraph" yX0_findLengths yX0_findLengths), (Cond.selects "GameGraph" yX0_boundValues yX0_boundValues), (Cond.selects "java/lang/Throwable" yT_fillInStackTraceI yT_fillInStackTraceI), (Cond.selects "GameGraph" yX0_requireState yX0_requireState), (Cond.selects "GameGraph" yX0_hasState yX0_hasState), (Cond.selects "GameGraph" yX0_requireJointMove yX0_requireJointMove), (Cond.selects "GameGraph" yX0_requireValued yX0_requireValued), (Cond.selects "GameGraph" yX0_findValue yX0_findValue), (Cond.selects "GameGraph" yX0_search yX0_search), (Cond.selects "GameGraph" yX0_greatest yX0_greatest), (Cond.selects "GameGraph" yX0_least yX0_least), (Cond.selects "GameGraph" yX0_findBest yX0_findBest), (Cond.selects "GameGraphModel" yX1_isState yX1_isState), (Cond.selects "GameGraphModel" yX1_isJoint yX1_isJoint), (Cond.selects "GameGraphModel" yX1_joint yX1_joint), (Cond.selects "GameGraphModel" yX1_reach yX1_reach), (Cond.selects "GameGraphModel" yX1_spread yX1_spread), (Cond.selects "GameGraphModel" yX1_defective yX1_defective), (Cond.selects "GameGraphModel" yX1_own yX1_own), (Cond.selects "GameGraphModel" yX1_comesAgain yX1_comesAgain), (Cond.selects "GameGraphModel" yX1_asked yX1_asked), (Cond.selects "GameGraphModel" yX1_learn yX1_learn), (Cond.initialized "GameGraphLaw"), (Cond.initialized "GameGraph"), (Cond.initialized "GameGraphModel"), (Cond.initialized "java/lang/Throwable"), (Cond.initialized "java/lang/Exception"), (Cond.initialized "java/lang/RuntimeException"), (Cond.initialized "java/lang/IllegalArgumentException")]
def wA_1 : List Cond := [(Cond.initialized "java/lang/IndexOutOfBoundsException"), (Cond.initialized "java/lang/Long"), (Cond.initialized "java/lang/IllegalStateException"), (Cond.initialized "java/lang/Math"), (Cond.classLink "GameGraphLaw" 8 "GameGraph"), (Cond.instantiable "GameGraph" 13), (Cond.methodLink "GameGraphLaw" 46 yX0_init), (Cond.instanceMethod yX0_init), (Cond.code yX0_init prog_1_method_1_code 1 (Option.none : Option FieldType)), (Cond.methodLink "GameGraph" 1 yO_init), (Cond.instanceMethod yO_init), (Cond.code yO_init object_method_1_code 1 (Option.none : Option FieldType)), (Cond.methodLink "GameGraph" 36 yX0_makeEvenEnds), (Cond.instanceMethod yX0_makeEvenEnds), (Cond.code yX0_makeEvenEnds prog_1_method_21_code 3 (Option.none : Option FieldType)), (Cond.methodLink "GameGraph" 56 yX0_makeState), (Cond.instanceMethod yX0_makeState), (Cond.code yX0_makeState prog_1_method_22_code 6 (Option.none : Option FieldType)), (Cond.fieldLink "GameGraph" 109 "GameGraph" "count" "I"), (Cond.fieldLink "GameGraph" 9 "GameGraph" "isOpen" "[Z"), (Cond.fieldLink "GameGraph" 13 "GameGraph" "ofFirst" "[I"), (Cond.fieldLink "GameGraph" 17 "GameGraph" "ofSecond" "[I"), (Cond.fieldLink "GameGraph" 20 "GameGraph" "targets" "[I"), (Cond.fieldLink "GameGraph" 69 "GameGraph" "surveyed" "Z"), (Cond.fieldLink "GameGraph" 23 "GameGraph" "comesTo" "[J"), (Cond.fieldLink "GameGraph" 80 "GameGraph" "reachedStates" "J"), (Cond.fieldLink "GameGraph" 92 "GameGraph" "defectKind" "I"), (Cond.fieldLink "GameGraph" 96 "GameGraph" "defectState" "I"), (Cond.fieldLink "GameGraph" 27 "GameGraph" "lengths" "[I"), (Cond.fieldLink "GameGraph" 30 "GameGraph" "low" "[I"), (Cond.fieldLink "GameGraph" 33 "GameGraph" "high" "[I"), (Cond.lays "GameGraph" "GameGraph" "count" "I"), (Cond.soleField "GameGraph" "count"), (Cond.laysFinal "GameGraph" "GameGraph" "isOpen" "[Z"), (Cond.soleField "GameGraph" "isOpen"), (Cond.laysFinal "GameGraph" "GameGraph" "ofFirst" "[I"), (Cond.soleField "GameGraph" "ofFirst"), (Cond.laysFinal "GameGraph" "GameGraph" "ofSecond" "[I"), (Cond.soleField "GameGraph" "ofSecond"), (Cond.laysFinal "GameGraph" "GameGraph" "targets" "[I")]
def wA_2 : List Cond := [(Cond.soleField "GameGraph" "targets"), (Cond.lays "GameGraph" "GameGraph" "surveyed" "Z"), (Cond.soleField "GameGraph" "surveyed"), (Cond.laysFinal "GameGraph" "GameGraph" "comesTo" "[J"), (Cond.soleField "GameGraph" "comesTo"), (Cond.lays "GameGraph" "GameGraph" "reachedStates" "J"), (Cond.soleField "GameGraph" "reachedStates"), (Cond.lays "GameGraph" "GameGraph" "defectKind" "I"), (Cond.soleField "GameGraph" "defectKind"), (Cond.lays "GameGraph" "GameGraph" "defectState" "I"), (Cond.soleField "GameGraph" "defectState"), (Cond.laysFinal "GameGraph" "GameGraph" "lengths" "[I"), (Cond.soleField "GameGraph" "lengths"), (Cond.laysFinal "GameGraph" "GameGraph" "low" "[I"), (Cond.soleField "GameGraph" "low"), (Cond.laysFinal "GameGraph" "GameGraph" "high" "[I"), (Cond.soleField "GameGraph" "high"), (Cond.superclass "GameGraph" "java/lang/Object"), (Cond.arrayClass FieldType.boolean), (Cond.arrayClass FieldType.int), (Cond.arrayClass FieldType.long), (Cond.methodLink "GameGraphLaw" 74 yX0_reached), (Cond.instanceMethod yX0_reached), (Cond.selects "GameGraph" yX0_reached yX0_reached), (Cond.code yX0_reached prog_1_method_7_code 1 (Option.some FieldType.int)), (Cond.methodLink "GameGraph" 77 yX0_survey), (Cond.instanceMethod yX0_survey), (Cond.code yX0_survey prog_1_method_23_code 1 (Option.none : Option FieldType)), (Cond.methodLink "GameGraph" 136 yX0_findWhatStatesComeTo), (Cond.instanceMethod yX0_findWhatStatesComeTo), (Cond.code yX0_findWhatStatesComeTo prog_1_method_24_code 3 (Option.none : Option FieldType)), (Cond.methodLink "GameGraph" 148 yX0_goesTo), (Cond.instanceMethod yX0_goesTo), (Cond.code yX0_goesTo prog_1_method_25_code 6 (Option.some FieldType.long)), (Cond.methodLink "GameGraph" 120 yX0_jointMoves), (Cond.instanceMethod yX0_jointMoves), (Cond.code yX0_jointMoves prog_1_method_19_code 2 (Option.some FieldType.int)), (Cond.methodLink "GameGraph" 73 yX0_target), (Cond.instanceMethod yX0_target), (Cond.code yX0_target prog_1_method_20_code 3 (Option.some FieldType.int))]
def wA_3 : List Cond := [(Cond.methodLink "GameGraph" 130 yX0_contains), (Cond.static yX0_contains), (Cond.code yX0_contains prog_1_method_18_code 3 (Option.some FieldType.boolean)), (Cond.methodLink "GameGraph" 139 yX0_findDefect), (Cond.instanceMethod yX0_findDefect), (Cond.code yX0_findDefect prog_1_method_26_code 2 (Option.none : Option FieldType)), (Cond.methodLink "GameGraph" 152 yX0_defectOfOpen), (Cond.instanceMethod yX0_defectOfOpen), (Cond.code yX0_defectOfOpen prog_1_method_28_code 2 (Option.some FieldType.int)), (Cond.methodLink "GameGraph" 155 yX0_defectOfEnd), (Cond.instanceMethod yX0_defectOfEnd), (Cond.code yX0_defectOfEnd prog_1_method_29_code 2 (Option.some FieldType.int)), (Cond.methodLink "GameGraph" 158 yX0_noteDefect), (Cond.instanceMethod yX0_noteDefect), (Cond.code yX0_noteDefect prog_1_method_27_code 3 (Option.none : Option FieldType)), (Cond.methodLink "GameGraph" 142 yX0_findLengths), (Cond.instanceMethod yX0_findLengths), (Cond.code yX0_findLengths prog_1_method_30_code 8 (Option.none : Option FieldType)), (Cond.constantLong "GameGraph" 161 (-1 : Int64)), (Cond.methodLink "GameGraph" 145 yX0_boundValues), (Cond.instanceMethod yX0_boundValues), (Cond.code yX0_boundValues prog_1_method_31_code 2 (Option.none : Option FieldType)), (Cond.methodLink "GameGraph" 84 yJ_bitCount), (Cond.static yJ_bitCount), (Cond.code yJ_bitCount prog_8_method_50_code 2 (Option.some FieldType.int)), (Cond.constantLong "java/lang/Long" 314 (6148914691236517205 : Int64)), (Cond.constantLong "java/lang/Long" 316 (3689348814741910323 : Int64)), (Cond.constantLong "java/lang/Long" 318 (1085102592571150095 : Int64)), (Cond.methodLink "GameGraphLaw" 50 yL_states), (Cond.static yL_states), (Cond.codeWith yL_states method_3_code 3 (Option.some FieldType.int) [(0, 5, 8, 13)]), (Cond.classLink "GameGraphLaw" 13 "java/lang/IllegalArgumentException"), (Cond.methodLink "GameGraphLaw" 7 yX0_states), (Cond.instanceMethod yX0_states), (Cond.selects "GameGraph" yX0_states yX0_states), (Cond.code yX0_states prog_1_method_2_code 2 (Option.none : Option FieldType)), (Cond.classLink "GameGraph" 40 "java/lang/IllegalArgumentException"), (Cond.instantiable "java/lang/IllegalArgumentException" 6), (Cond.selects "java/lang/IllegalArgumentException" yT_fillInStackTraceI yT_fillInStackTraceI), (Cond.selects "java/lang/IllegalArgumentException" yT_fillInStackTrace yT_fillInStackTrace)]
def wA_4 : List Cond := [(Cond.lays "java/lang/IllegalArgumentException" "java/lang/Throwable" "cause" "Ljava/lang/Throwable;"), (Cond.lays "java/lang/Throwable" "java/lang/Throwable" "cause" "Ljava/lang/Throwable;"), (Cond.lays "java/lang/IllegalArgumentException" "java/lang/Throwable" "stackTrace" "[Ljava/lang/StackTraceElement;"), (Cond.lays "java/lang/Throwable" "java/lang/Throwable" "stackTrace" "[Ljava/lang/StackTraceElement;"), (Cond.lays "java/lang/IllegalArgumentException" "java/lang/Throwable" "suppressedExceptions" "Ljava/util/List;"), (Cond.lays "java/lang/Throwable" "java/lang/Throwable" "suppressedExceptions" "Ljava/util/List;"), (Cond.lays "java/lang/IllegalArgumentException" "java/lang/Throwable" "detailMessage" "Ljava/lang/String;"), (Cond.lays "java/lang/Throwable" "java/lang/Throwable" "detailMessage" "Ljava/lang/String;"), (Cond.lays "java/lang/IllegalArgumentException" "java/lang/Throwable" "backtrace" "Ljava/lang/Object;"), (Cond.lays "java/lang/Throwable" "java/lang/Throwable" "backtrace" "Ljava/lang/Object;"), (Cond.fieldLink "java/lang/Throwable" 198 "java/lang/Throwable" "backtrace" "Ljava/lang/Object;"), (Cond.superclass "java/lang/Throwable" "java/lang/Object"), (Cond.instanceMethod yT_init), (Cond.code yT_init prog_12_method_1_code 1 (Option.none : Option FieldType)), (Cond.methodLink "java/lang/Throwable" 1 yO_init), (Cond.fieldLink "java/lang/Throwable" 13 "java/lang/Throwable" "UNASSIGNED_STACK" "[Ljava/lang/StackTraceElement;"), (Cond.fieldLink "java/lang/Throwable" 20 "java/lang/Throwable" "SUPPRESSED_SENTINEL" "Ljava/util/List;"), (Cond.methodLink "java/lang/Throwable" 27 yT_fillInStackTrace), (Cond.instanceMethod yT_fillInStackTrace), (Cond.sameMethod "java/lang/Throwable" "java/lang/Throwable" "fillInStackTrace" "()Ljava/lang/Throwable;"), (Cond.selects "java/lang/IllegalStateException" yT_fillInStackTrace yT_fillInStackTrace), (Cond.selects "java/lang/IndexOutOfBoundsException" yT_fillInStackTrace yT_fillInStackTrace), (Cond.codeSync yT_fillInStackTrace prog_12_method_18_code 1 (Option.some (FieldType.object "java/lang/Throwable"))), (Cond.methodLink "java/lang/Throwable" 202 yT_fillInStackTraceI), (Cond.instanceMethod yT_fillInStackTraceI), (Cond.instantiable "java/lang/Throwable" 6), (Cond.native yT_fillInStackTraceI), (Cond.methodLink "GameGraph" 44 yEA_initS), (Cond.instanceMethod yEA_initS), (Cond.code yEA_initS prog_5_method_2_code 2 (Option.none : Option FieldType)), (Cond.methodLink "java/lang/IllegalArgumentException" 7 yER_initS), (Cond.instanceMethod yER_initS), (Cond.code yER_initS prog_10_method_2_code 2 (Option.none : Option FieldType)), (Cond.methodLink "java/lang/RuntimeException" 7 yEE_initS), (Cond.instanceMethod yEE_initS), (Cond.code yEE_initS prog_4_method_2_code 2 (Option.none : Option FieldType)), (Cond.methodLink "java/lang/Exception" 7 yT_initS), (Cond.instanceMethod yT_initS), (Cond.code yT_initS prog_12_method_2_code 2 (Option.none : Option FieldType)), (Cond.fieldLink "java/lang/Throwable" 198 "java/lang/Throwable" "backtrace" "Ljava/lang/Object;")]
def wA_5 : List Cond := [(Cond.fieldLink "java/lang/Throwable" 31 "java/lang/Throwable" "detailMessage" "Ljava/lang/String;"), (Cond.fieldLink "java/lang/Throwable" 7 "java/lang/Throwable" "cause" "Ljava/lang/Throwable;"), (Cond.fieldLink "java/lang/Throwable" 17 "java/lang/Throwable" "stackTrace" "[Ljava/lang/StackTraceElement;"), (Cond.fieldLink "java/lang/Throwable" 24 "java/lang/Throwable" "suppressedExceptions" "Ljava/util/List;"), (Cond.soleField "java/lang/Throwable" "backtrace"), (Cond.soleField "java/lang/Throwable" "detailMessage"), (Cond.soleField "java/lang/Throwable" "cause"), (Cond.soleField "java/lang/Throwable" "stackTrace"), (Cond.lays "java/lang/IllegalArgumentException" "java/lang/Throwable" "depth" "I"), (Cond.soleField "java/lang/Throwable" "depth"), (Cond.soleField "java/lang/Throwable" "suppressedExceptions"), (Cond.superclass "java/lang/IllegalArgumentException" "java/lang/RuntimeException"), (Cond.arrayClass FieldType.byte), (Cond.methodLink "GameGraphLaw" 60 yL_end), (Cond.static yL_end), (Cond.codeWith yL_end method_4_code 5 (Option.some FieldType.int) [(0, 7, 10, 19), (0, 7, 14, 13)]), (Cond.classLink "GameGraphLaw" 19 "java/lang/IndexOutOfBoundsException"), (Cond.methodLink "GameGraphLaw" 15 yX0_end), (Cond.instanceMethod yX0_end), (Cond.selects "GameGraph" yX0_end yX0_end), (Cond.code yX0_end prog_1_method_3_code 4 (Option.none : Option FieldType)), (Cond.methodLink "GameGraph" 47 yX0_requireState), (Cond.instanceMethod yX0_requireState), (Cond.code yX0_requireState prog_1_method_13_code 2 (Option.none : Option FieldType)), (Cond.methodLink "GameGraph" 112 yX0_hasState), (Cond.instanceMethod yX0_hasState), (Cond.code yX0_hasState prog_1_method_12_code 2 (Option.some FieldType.boolean)), (Cond.classLink "GameGraph" 115 "java/lang/IndexOutOfBoundsException"), (Cond.instantiable "java/lang/IndexOutOfBoundsException" 6), (Cond.selects "java/lang/IndexOutOfBoundsException" yT_fillInStackTraceI yT_fillInStackTraceI), (Cond.lays "java/lang/IndexOutOfBoundsException" "java/lang/Throwable" "cause" "Ljava/lang/Throwable;"), (Cond.lays "java/lang/IndexOutOfBoundsException" "java/lang/Throwable" "stackTrace" "[Ljava/lang/StackTraceElement;"), (Cond.lays "java/lang/IndexOutOfBoundsException" "java/lang/Throwable" "suppressedExceptions" "Ljava/util/List;"), (Cond.lays "java/lang/IndexOutOfBoundsException" "java/lang/Throwable" "detailMessage" "Ljava/lang/String;"), (Cond.lays "java/lang/IndexOutOfBoundsException" "java/lang/Throwable" "backtrace" "Ljava/lang/Object;"), (Cond.methodLink "GameGraph" 119 yEI_initS), (Cond.instanceMethod yEI_initS), (Cond.code yEI_initS prog_7_method_2_code 2 (Option.none : Option FieldType)), (Cond.methodLink "java/lang/IndexOutOfBoundsException" 7 yER_initS), (Cond.lays "java/lang/IndexOutOfBoundsException" "java/lang/Throwable" "depth" "I")]
def wA_6 : List Cond := [(Cond.superclass "java/lang/IndexOutOfBoundsException" "java/lang/RuntimeException"), (Cond.methodLink "GameGraph" 50 yX0_isGoal), (Cond.static yX0_isGoal), (Cond.code yX0_isGoal prog_1_method_16_code 1 (Option.some FieldType.boolean)), (Cond.methodLink "GameGraphLaw" 64 yL_open), (Cond.static yL_open), (Cond.codeWith yL_open method_5_code 5 (Option.some FieldType.int) [(0, 7, 10, 19), (0, 7, 14, 13)]), (Cond.methodLink "GameGraphLaw" 21 yX0_open), (Cond.instanceMethod yX0_open), (Cond.selects "GameGraph" yX0_open yX0_open), (Cond.code yX0_open prog_1_method_4_code 4 (Option.none : Option FieldType)), (Cond.methodLink "GameGraph" 60 yX0_isNumberOfMoves), (Cond.static yX0_isNumberOfMoves), (Cond.code yX0_isNumberOfMoves prog_1_method_17_code 1 (Option.some FieldType.boolean)), (Cond.methodLink "GameGraphLaw" 67 yL_link), (Cond.static yL_link), (Cond.codeWith yL_link method_6_code 5 (Option.some FieldType.int) [(0, 7, 10, 19)]), (Cond.methodLink "GameGraphLaw" 24 yX0_link), (Cond.instanceMethod yX0_link), (Cond.selects "GameGraph" yX0_link yX0_link), (Cond.code yX0_link prog_1_method_5_code 4 (Option.none : Option FieldType)), (Cond.methodLink "GameGraph" 65 yX0_requireJointMove), (Cond.instanceMethod yX0_requireJointMove), (Cond.code yX0_requireJointMove prog_1_method_14_code 3 (Option.none : Option FieldType)), (Cond.methodLink "GameGraphLaw" 70 yL_next), (Cond.static yL_next), (Cond.codeWith yL_next method_7_code 5 (Option.some FieldType.int) [(0, 10, 13, 19)]), (Cond.methodLink "GameGraphLaw" 27 yX0_next), (Cond.instanceMethod yX0_next), (Cond.selects "GameGraph" yX0_next yX0_next), (Cond.code yX0_next prog_1_method_6_code 3 (Option.some FieldType.int)), (Cond.methodLink "GameGraphLaw" 78 yL_defect), (Cond.static yL_defect), (Cond.codeWith yL_defect method_8_code 4 (Option.some FieldType.int) [(0, 9, 12, 13)]), (Cond.methodLink "GameGraphLaw" 31 yX0_defect), (Cond.instanceMethod yX0_defect), (Cond.selects "GameGraph" yX0_defect yX0_defect), (Cond.code yX0_defect prog_1_method_8_code 2 (Option.some FieldType.int)), (Cond.methodLink "GameGraphLaw" 82 yL_value), (Cond.static yL_value)]
def wA_7 : List Cond := [(Cond.codeWith yL_value method_9_code 4 (Option.some FieldType.int) [(0, 9, 12, 38), (0, 9, 15, 19)]), (Cond.classLink "GameGraphLaw" 38 "java/lang/IllegalStateException"), (Cond.methodLink "GameGraphLaw" 35 yX0_value), (Cond.instanceMethod yX0_value), (Cond.selects "GameGraph" yX0_value yX0_value), (Cond.code yX0_value prog_1_method_9_code 2 (Option.some FieldType.int)), (Cond.methodLink "GameGraph" 99 yX0_requireValued), (Cond.instanceMethod yX0_requireValued), (Cond.code yX0_requireValued prog_1_method_15_code 2 (Option.none : Option FieldType)), (Cond.classLink "GameGraph" 125 "java/lang/IllegalStateException"), (Cond.instantiable "java/lang/IllegalStateException" 6), (Cond.selects "java/lang/IllegalStateException" yT_fillInStackTraceI yT_fillInStackTraceI), (Cond.lays "java/lang/IllegalStateException" "java/lang/Throwable" "cause" "Ljava/lang/Throwable;"), (Cond.lays "java/lang/IllegalStateException" "java/lang/Throwable" "stackTrace" "[Ljava/lang/StackTraceElement;"), (Cond.lays "java/lang/IllegalStateException" "java/lang/Throwable" "suppressedExceptions" "Ljava/util/List;"), (Cond.lays "java/lang/IllegalStateException" "java/lang/Throwable" "detailMessage" "Ljava/lang/String;"), (Cond.lays "java/lang/IllegalStateException" "java/lang/Throwable" "backtrace" "Ljava/lang/Object;"), (Cond.methodLink "GameGraph" 129 yES_initS), (Cond.instanceMethod yES_initS), (Cond.code yES_initS prog_6_method_2_code 2 (Option.none : Option FieldType)), (Cond.methodLink "java/lang/IllegalStateException" 7 yER_initS), (Cond.lays "java/lang/IllegalStateException" "java/lang/Throwable" "depth" "I"), (Cond.superclass "java/lang/IllegalStateException" "java/lang/RuntimeException"), (Cond.methodLink "GameGraph" 102 yX0_findValue), (Cond.instanceMethod yX0_findValue), (Cond.code yX0_findValue prog_1_method_32_code 2 (Option.some FieldType.int)), (Cond.methodLink "GameGraph" 163 yX0_search), (Cond.instanceMethod yX0_search), (Cond.code yX0_search prog_1_method_34_code 6 (Option.some FieldType.int)), (Cond.methodLink "GameGraph" 167 yX0_greatest), (Cond.instanceMethod yX0_greatest), (Cond.code yX0_greatest prog_1_method_35_code 8 (Option.some FieldType.int)), (Cond.methodLink "GameGraph" 173 yM_max), (Cond.static yM_max), (Cond.code yM_max prog_9_method_65_code 2 (Option.some FieldType.int)), (Cond.methodLink "GameGraph" 170 yX0_least), (Cond.instanceMethod yX0_least), (Cond.code yX0_least prog_1_method_36_code 8 (Option.some FieldType.int)), (Cond.methodLink "GameGraph" 178 yM_min), (Cond.static yM_min)]
def wA_8 : List Cond := [(Cond.code yM_min prog_9_method_69_code 2 (Option.some FieldType.int)), (Cond.methodLink "GameGraphLaw" 85 yL_best), (Cond.static yL_best), (Cond.codeWith yL_best method_10_code 4 (Option.some FieldType.int) [(0, 9, 12, 38), (0, 9, 15, 19)]), (Cond.methodLink "GameGraphLaw" 40 yX0_best), (Cond.instanceMethod yX0_best), (Cond.selects "GameGraph" yX0_best yX0_best), (Cond.code yX0_best prog_1_method_10_code 2 (Option.some FieldType.int)), (Cond.methodLink "GameGraph" 106 yX0_findBest), (Cond.instanceMethod yX0_findBest), (Cond.code yX0_findBest prog_1_method_33_code 5 (Option.some FieldType.int)), (Cond.methodLink "GameGraphLaw" 88 yL_length), (Cond.static yL_length), (Cond.codeWith yL_length method_11_code 4 (Option.some FieldType.int) [(0, 9, 12, 38), (0, 9, 15, 19)]), (Cond.methodLink "GameGraphLaw" 43 yX0_length), (Cond.instanceMethod yX0_length), (Cond.selects "GameGraph" yX0_length yX0_length), (Cond.code yX0_length prog_1_method_11_code 2 (Option.some FieldType.int)), (Cond.classLink "GameGraphLaw" 47 "GameGraphModel"), (Cond.instantiable "GameGraphModel" 13), (Cond.methodLink "GameGraphLaw" 49 yX1_init), (Cond.instanceMethod yX1_init), (Cond.code yX1_init prog_3_method_1_code 1 (Option.none : Option FieldType)), (Cond.methodLink "GameGraphModel" 1 yO_init), (Cond.fieldLink "GameGraphModel" 7 "GameGraphModel" "states" "I"), (Cond.fieldLink "GameGraphModel" 13 "GameGraphModel" "open" "[Z"), (Cond.fieldLink "GameGraphModel" 17 "GameGraphModel" "goalOne" "[I"), (Cond.fieldLink "GameGraphModel" 21 "GameGraphModel" "goalTwo" "[I"), (Cond.fieldLink "GameGraphModel" 24 "GameGraphModel" "movesOne" "[I"), (Cond.fieldLink "GameGraphModel" 27 "GameGraphModel" "movesTwo" "[I"), (Cond.fieldLink "GameGraphModel" 30 "GameGraphModel" "goes" "[I"), (Cond.fieldLink "GameGraphModel" 33 "GameGraphModel" "reached" "[Z"), (Cond.fieldLink "GameGraphModel" 36 "GameGraphModel" "from" "[Z"), (Cond.fieldLink "GameGraphModel" 39 "GameGraphModel" "known" "[Z"), (Cond.fieldLink "GameGraphModel" 42 "GameGraphModel" "value" "[I"), (Cond.fieldLink "GameGraphModel" 45 "GameGraphModel" "length" "[I"), (Cond.fieldLink "GameGraphModel" 48 "GameGraphModel" "thrown" "I"), (Cond.lays "GameGraphModel" "GameGraphModel" "states" "I"), (Cond.soleField "GameGraphModel" "states"), (Cond.laysFinal "GameGraphModel" "GameGraphModel" "open" "[Z")]
def wA_9 : List Cond := [(Cond.soleField "GameGraphModel" "open"), (Cond.laysFinal "GameGraphModel" "GameGraphModel" "goalOne" "[I"), (Cond.soleField "GameGraphModel" "goalOne"), (Cond.laysFinal "GameGraphModel" "GameGraphModel" "goalTwo" "[I"), (Cond.soleField "GameGraphModel" "goalTwo"), (Cond.laysFinal "GameGraphModel" "GameGraphModel" "movesOne" "[I"), (Cond.soleField "GameGraphModel" "movesOne"), (Cond.laysFinal "GameGraphModel" "GameGraphModel" "movesTwo" "[I"), (Cond.soleField "GameGraphModel" "movesTwo"), (Cond.laysFinal "GameGraphModel" "GameGraphModel" "goes" "[I"), (Cond.soleField "GameGraphModel" "goes"), (Cond.laysFinal "GameGraphModel" "GameGraphModel" "reached" "[Z"), (Cond.soleField "GameGraphModel" "reached"), (Cond.laysFinal "GameGraphModel" "GameGraphModel" "from" "[Z"), (Cond.soleField "GameGraphModel" "from"), (Cond.laysFinal "GameGraphModel" "GameGraphModel" "known" "[Z"), (Cond.soleField "GameGraphModel" "known"), (Cond.laysFinal "GameGraphModel" "GameGraphModel" "value" "[I"), (Cond.soleField "GameGraphModel" "value"), (Cond.laysFinal "GameGraphModel" "GameGraphModel" "length" "[I"), (Cond.soleField "GameGraphModel" "length"), (Cond.lays "GameGraphModel" "GameGraphModel" "thrown" "I"), (Cond.soleField "GameGraphModel" "thrown"), (Cond.superclass "GameGraphModel" "java/lang/Object"), (Cond.methodLink "GameGraphLaw" 56 yX1_thrown), (Cond.instanceMethod yX1_thrown), (Cond.selects "GameGraphModel" yX1_thrown yX1_thrown), (Cond.code yX1_thrown prog_3_method_2_code 1 (Option.some FieldType.int)), (Cond.methodLink "GameGraphLaw" 55 yX1_states), (Cond.instanceMethod yX1_states), (Cond.selects "GameGraphModel" yX1_states yX1_states), (Cond.code yX1_states prog_3_method_3_code 3 (Option.none : Option FieldType)), (Cond.methodLink "GameGraphLaw" 63 yX1_end), (Cond.instanceMethod yX1_end), (Cond.selects "GameGraphModel" yX1_end yX1_end), (Cond.code yX1_end prog_3_method_5_code 4 (Option.none : Option FieldType)), (Cond.methodLink "GameGraphModel" 51 yX1_isState), (Cond.instanceMethod yX1_isState), (Cond.code yX1_isState prog_3_method_4_code 2 (Option.some FieldType.boolean)), (Cond.methodLink "GameGraphLaw" 66 yX1_open)]
def wA_10 : List Cond := [(Cond.instanceMethod yX1_open), (Cond.selects "GameGraphModel" yX1_open yX1_open), (Cond.code yX1_open prog_3_method_7_code 5 (Option.none : Option FieldType)), (Cond.methodLink "GameGraphModel" 55 yX1_isMany), (Cond.static yX1_isMany), (Cond.code yX1_isMany prog_3_method_6_code 1 (Option.some FieldType.boolean)), (Cond.methodLink "GameGraphLaw" 69 yX1_link), (Cond.instanceMethod yX1_link), (Cond.selects "GameGraphModel" yX1_link yX1_link), (Cond.code yX1_link prog_3_method_10_code 4 (Option.none : Option FieldType)), (Cond.methodLink "GameGraphModel" 62 yX1_isJoint), (Cond.instanceMethod yX1_isJoint), (Cond.code yX1_isJoint prog_3_method_9_code 3 (Option.some FieldType.boolean)), (Cond.methodLink "GameGraphModel" 58 yX1_joint), (Cond.instanceMethod yX1_joint), (Cond.code yX1_joint prog_3_method_8_code 2 (Option.some FieldType.int)), (Cond.methodLink "GameGraphLaw" 73 yX1_next), (Cond.instanceMethod yX1_next), (Cond.selects "GameGraphModel" yX1_next yX1_next), (Cond.code yX1_next prog_3_method_11_code 3 (Option.some FieldType.int)), (Cond.methodLink "GameGraphLaw" 77 yX1_reached), (Cond.instanceMethod yX1_reached), (Cond.selects "GameGraphModel" yX1_reached yX1_reached), (Cond.code yX1_reached prog_3_method_14_code 3 (Option.some FieldType.int)), (Cond.methodLink "GameGraphModel" 70 yX1_reach), (Cond.instanceMethod yX1_reach), (Cond.code yX1_reach prog_3_method_13_code 2 (Option.none : Option FieldType)), (Cond.methodLink "GameGraphModel" 66 yX1_spread), (Cond.instanceMethod yX1_spread), (Cond.code yX1_spread prog_3_method_12_code 5 (Option.none : Option FieldType)), (Cond.methodLink "GameGraphLaw" 81 yX1_defect), (Cond.instanceMethod yX1_defect), (Cond.selects "GameGraphModel" yX1_defect yX1_defect), (Cond.code yX1_defect prog_3_method_18_code 3 (Option.some FieldType.int)), (Cond.methodLink "GameGraphModel" 79 yX1_defective), (Cond.instanceMethod yX1_defective), (Cond.code yX1_defective prog_3_method_17_code 2 (Option.some FieldType.int)), (Cond.methodLink "GameGraphModel" 73 yX1_own), (Cond.instanceMethod yX1_own), (Cond.code yX1_own prog_3_method_15_code 2 (Option.some FieldType.int))]
def wA_11 : List Cond := [(Cond.methodLink "GameGraphModel" 76 yX1_comesAgain), (Cond.instanceMethod yX1_comesAgain), (Cond.code yX1_comesAgain prog_3_method_16_code 3 (Option.some FieldType.boolean)), (Cond.methodLink "GameGraphLaw" 84 yX1_value), (Cond.instanceMethod yX1_value), (Cond.selects "GameGraphModel" yX1_value yX1_value), (Cond.code yX1_value prog_3_method_21_code 2 (Option.some FieldType.int)), (Cond.methodLink "GameGraphModel" 87 yX1_asked), (Cond.instanceMethod yX1_asked), (Cond.code yX1_asked prog_3_method_20_code 4 (Option.some FieldType.boolean)), (Cond.methodLink "GameGraphModel" 83 yX1_learn), (Cond.instanceMethod yX1_learn), (Cond.code yX1_learn prog_3_method_19_code 5 (Option.none : Option FieldType)), (Cond.methodLink "GameGraphLaw" 87 yX1_best), (Cond.instanceMethod yX1_best), (Cond.selects "GameGraphModel" yX1_best yX1_best), (Cond.code yX1_best prog_3_method_22_code 3 (Option.some FieldType.int)), (Cond.methodLink "GameGraphLaw" 90 yX1_length), (Cond.instanceMethod yX1_length), (Cond.selects "GameGraphModel" yX1_length yX1_length), (Cond.code yX1_length prog_3_method_23_code 2 (Option.some FieldType.int)), (Cond.sameMethod "java/lang/Throwable" "java/lang/Throwable" "fillInStackTrace" "(I)Ljava/lang/Throwable;")]
theorem wA_0_g : wA_0.all goodWord = true := by decide +kernel
theorem wA_0_in : ∀ w ∈ wA_0, w ∈ lw_tbl := by decide +kernel
theorem wA_1_g : wA_1.all goodWord = true := by decide +kernel
theorem wA_1_in : ∀ w ∈ wA_1, w ∈ lw_tbl := by decide +kernel
theorem wA_2_g : wA_2.all goodWord = true := by decide +kernel
theorem wA_2_in : ∀ w ∈ wA_2, w ∈ lw_tbl := by decide +kernel
theorem wA_3_g : wA_3.all goodWord = true := by decide +kernel
theorem wA_3_in : ∀ w ∈ wA_3, w ∈ lw_tbl := by decide +kernel
theorem wA_4_g : wA_4.all goodWord = true := by decide +kernel
theorem wA_4_in : ∀ w ∈ wA_4, w ∈ lw_tbl := by decide +kernel
theorem wA_5_g : wA_5.all goodWord = true := by decide +kernel
theorem wA_5_in : ∀ w ∈ wA_5, w ∈ lw_tbl := by decide +kernel
theorem wA_6_g : wA_6.all goodWord = true := by decide +kernel
theorem wA_6_in : ∀ w ∈ wA_6, w ∈ lw_tbl := by decide +kernel
theorem wA_7_g : wA_7.all goodWord = true := by decide +kernel
theorem wA_7_in : ∀ w ∈ wA_7, w ∈ lw_tbl := by decide +kernel
theorem wA_8_g : wA_8.all goodWord = true := by decide +kernel
theorem wA_8_in : ∀ w ∈ wA_8, w ∈ lw_tbl := by decide +kernel
theorem wA_9_g : wA_9.all goodWord = true := by decide +kernel
theorem wA_9_in : ∀ w ∈ wA_9, w ∈ lw_tbl := by decide +kernel
theorem wA_10_g : wA_10.all goodWord = true := by decide +kernel
theorem wA_10_in : ∀ w ∈ wA_10, w ∈ lw_tbl := by decide +kernel
theorem wA_11_g : wA_11.all goodWord = true := by decide +kernel
theorem wA_11_in : ∀ w ∈ wA_11, w ∈ lw_tbl := by decide +kernel
def wAll : List Cond := wA_0 ++ (wA_1 ++ (wA_2 ++ (wA_3 ++ (wA_4 ++ (wA_5 ++ (wA_6 ++ (wA_7 ++ (wA_8 ++ (wA_9 ++ (wA_10 ++ (wA_11)))))))))))
theorem wAll_f {P : Cond → Prop} (h0 : ∀ w ∈ wA_0, P w) (h1 : ∀ w ∈ wA_1, P w) (h2 : ∀ w ∈ wA_2, P w) (h3 : ∀ w ∈ wA_3, P w) (h4 : ∀ w ∈ wA_4, P w) (h5 : ∀ w ∈ wA_5, P w) (h6 : ∀ w ∈ wA_6, P w) (h7 : ∀ w ∈ wA_7, P w) (h8 : ∀ w ∈ wA_8, P w) (h9 : ∀ w ∈ wA_9, P w) (h10 : ∀ w ∈ wA_10, P w) (h11 : ∀ w ∈ wA_11, P w) : ∀ w ∈ wAll, P w := List.forall_mem_append.mpr ⟨h0, List.forall_mem_append.mpr ⟨h1, List.forall_mem_append.mpr ⟨h2, List.forall_mem_append.mpr ⟨h3, List.forall_mem_append.mpr ⟨h4, List.forall_mem_append.mpr ⟨h5, List.forall_mem_append.mpr ⟨h6, List.forall_mem_append.mpr ⟨h7, List.forall_mem_append.mpr ⟨h8, List.forall_mem_append.mpr ⟨h9, List.forall_mem_append.mpr ⟨h10, h11⟩⟩⟩⟩⟩⟩⟩⟩⟩⟩⟩
theorem wAll_in : ∀ w ∈ wAll, w ∈ lw_tbl := wAll_f wA_0_in wA_1_in wA_2_in wA_3_in wA_4_in wA_5_in wA_6_in wA_7_in wA_8_in wA_9_in wA_10_in wA_11_in
theorem wAll_g : ∀ w ∈ wAll, goodWord w = true := wAll_f (List.all_eq_true.mp wA_0_g) (List.all_eq_true.mp wA_1_g) (List.all_eq_true.mp wA_2_g) (List.all_eq_true.mp wA_3_g) (List.all_eq_true.mp wA_4_g) (List.all_eq_true.mp wA_5_g) (List.all_eq_true.mp wA_6_g) (List.all_eq_true.mp wA_7_g) (List.all_eq_true.mp wA_8_g) (List.all_eq_true.mp wA_9_g) (List.all_eq_true.mp wA_10_g) (List.all_eq_true.mp wA_11_g)
theorem wAll_G {l : List Cond} (h : ∀ w ∈ l, w ∈ wAll) : GoodIn wAll l := fun w hw => ⟨h w hw, good_of_word (wAll_g w (h w hw))⟩
theorem m_0_0 : (Cond.selects "GameGraph" yX0_makeEvenEnds yX0_makeEvenEnds) ∈ wAll := List.mem_append_left _ (List.mem_of_getElem? (i := 0) rfl)
theorem m_0_1 : (Cond.selects "GameGraph" yX0_makeState yX0_makeState) ∈ wAll := List.mem_append_left _ (List.mem_of_getElem? (i := 1) rfl)
theorem m_0_2 : (Cond.selects "GameGraph" yX0_survey yX0_survey) ∈ wAll := List.mem_append_left _ (List.mem_of_getElem? (i := 2) rfl)
theorem m_0_3 : (Cond.selects "GameGraph" yX0_findWhatStatesComeTo yX0_findWhatStatesComeTo) ∈ wAll := List.mem_append_left _ (List.mem_of_getElem? (i := 3) rfl)
theorem m_0_4 : (Cond.selects "GameGraph" yX0_goesTo yX0_goesTo) ∈ wAll := List.mem_append_left _ (List.mem_of_getElem? (i := 4) rfl)
theorem m_0_5 : (Cond.selects "GameGraph" yX0_jointMoves yX0_jointMoves) ∈ wAll := List.mem_append_left _ (List.mem_of_getElem? (i := 5) rfl)
theorem m_0_6 : (Cond.selects "GameGraph" yX0_target yX0_target) ∈ wAll := List.mem_append_left _ (List.mem_of_getElem? (i := 6) rfl)
theorem m_0_7 : (Cond.selects "GameGraph" yX0_findDefect yX0_findDefect) ∈ wAll := List.mem_append_left _ (List.mem_of_getElem? (i := 7) rfl)
theorem m_0_8 : (Cond.selects "GameGraph" yX0_defectOfOpen yX0_defectOfOpen) ∈ wAll := List.mem_append_left _ (List.mem_of_getElem? (i := 8) rfl)
theorem m_0_9 : (Cond.selects "GameGraph" yX0_defectOfEnd yX0_defectOfEnd) ∈ wAll := List.mem_append_left _ (List.mem_of_getElem? (i := 9) rfl)
theorem m_0_10 : (Cond.selects "GameGraph" yX0_noteDefect yX0_noteDefect) ∈ wAll := List.mem_append_left _ (List.mem_of_getElem? (i := 10) rfl)
theorem m_0_11 : (Cond.selects "GameGraph" yX0_findLengths yX0_findLengths) ∈ wAll := List.mem_append_left _ (List.mem_of_getElem? (i := 11) rfl)
theorem m_0_12 : (Cond.selects "GameGraph" yX0_boundValues yX0_boundValues) ∈ wAll := List.mem_append_left _ (List.mem_of_getElem? (i := 12) rfl)
theorem m_0_13 : (Cond.selects "java/lang/Throwable" yT_fillInStackTraceI yT_fillInStackTraceI) ∈ wAll := List.mem_append_left _ (List.mem_of_getElem? (i := 13) rfl)
theorem m_0_14 : (Cond.selects "GameGraph" yX0_requireState yX0_requireState) ∈ wAll := List.mem_append_left _ (List.mem_of_getElem? (i := 14) rfl)
theorem m_0_15 : (Cond.selects "GameGraph" yX0_hasState yX0_hasState) ∈ wAll := List.mem_append_left _ (List.mem_of_getElem? (i := 15) rfl)
theorem m_0_16 : (Cond.selects "GameGraph" yX0_requireJointMove yX0_requireJointMove) ∈ wAll := List.mem_append_left _ (List.mem_of_getElem? (i := 16) rfl)
theorem m_0_17 : (Cond.selects "GameGraph" yX0_requireValued yX0_requireValued) ∈ wAll := List.mem_append_left _ (List.mem_of_getElem? (i := 17) rfl)
theorem m_0_18 : (Cond.selects "GameGraph" yX0_findValue yX0_findValue) ∈ wAll := List.mem_append_left _ (List.mem_of_getElem? (i := 18) rfl)
theorem m_0_19 : (Cond.selects "GameGraph" yX0_search yX0_search) ∈ wAll := List.mem_append_left _ (List.mem_of_getElem? (i := 19) rfl)
theorem m_0_20 : (Cond.selects "GameGraph" yX0_greatest yX0_greatest) ∈ wAll := List.mem_append_left _ (List.mem_of_getElem? (i := 20) rfl)
theorem m_0_21 : (Cond.selects "GameGraph" yX0_least yX0_least) ∈ wAll := List.mem_append_left _ (List.mem_of_getElem? (i := 21) rfl)
theorem m_0_22 : (Cond.selects "GameGraph" yX0_findBest yX0_findBest) ∈ wAll := List.mem_append_left _ (List.mem_of_getElem? (i := 22) rfl)
theorem m_0_23 : (Cond.selects "GameGraphModel" yX1_isState yX1_isState) ∈ wAll := List.mem_append_left _ (List.mem_of_getElem? (i := 23) rfl)
theorem m_0_24 : (Cond.selects "GameGraphModel" yX1_isJoint yX1_isJoint) ∈ wAll := List.mem_append_left _ (List.mem_of_getElem? (i := 24) rfl)
theorem m_0_25 : (Cond.selects "GameGraphModel" yX1_joint yX1_joint) ∈ wAll := List.mem_append_left _ (List.mem_of_getElem? (i := 25) rfl)
theorem m_0_26 : (Cond.selects "GameGraphModel" yX1_reach yX1_reach) ∈ wAll := List.mem_append_left _ (List.mem_of_getElem? (i := 26) rfl)
theorem m_0_27 : (Cond.selects "GameGraphModel" yX1_spread yX1_spread) ∈ wAll := List.mem_append_left _ (List.mem_of_getElem? (i := 27) rfl)
theorem m_0_28 : (Cond.selects "GameGraphModel" yX1_defective yX1_defective) ∈ wAll := List.mem_append_left _ (List.mem_of_getElem? (i := 28) rfl)
theorem m_0_29 : (Cond.selects "GameGraphModel" yX1_own yX1_own) ∈ wAll := List.mem_append_left _ (List.mem_of_getElem? (i := 29) rfl)
theorem m_0_30 : (Cond.selects "GameGraphModel" yX1_comesAgain yX1_comesAgain) ∈ wAll := List.mem_append_left _ (List.mem_of_getElem? (i := 30) rfl)
theorem m_0_31 : (Cond.selects "GameGraphModel" yX1_asked yX1_asked) ∈ wAll := List.mem_append_left _ (List.mem_of_getElem? (i := 31) rfl)
theorem m_0_32 : (Cond.selects "GameGraphModel" yX1_learn yX1_learn) ∈ wAll := List.mem_append_left _ (List.mem_of_getElem? (i := 32) rfl)
theorem m_0_33 : (Cond.initialized "GameGraphLaw") ∈ wAll := List.mem_append_left _ (List.mem_of_getElem? (i := 33) rfl)
theorem m_0_34 : (Cond.initialized "GameGraph") ∈ wAll := List.mem_append_left _ (List.mem_of_getElem? (i := 34) rfl)
theorem m_0_35 : (Cond.initialized "GameGraphModel") ∈ wAll := List.mem_append_left _ (List.mem_of_getElem? (i := 35) rfl)
theorem m_0_36 : (Cond.initialized "java/lang/Throwable") ∈ wAll := List.mem_append_left _ (List.mem_of_getElem? (i := 36) rfl)
theorem m_0_37 : (Cond.initialized "java/lang/Exception") ∈ wAll := List.mem_append_left _ (List.mem_of_getElem? (i := 37) rfl)
theorem m_0_38 : (Cond.initialized "java/lang/RuntimeException") ∈ wAll := List.mem_append_left _ (List.mem_of_getElem? (i := 38) rfl)
theorem m_0_39 : (Cond.initialized "java/lang/IllegalArgumentException") ∈ wAll := List.mem_append_left _ (List.mem_of_getElem? (i := 39) rfl)
theorem m_1_0 : (Cond.initialized "java/lang/IndexOutOfBoundsException") ∈ wAll := List.mem_append_right _ (List.mem_append_left _ (List.mem_of_getElem? (i := 0) rfl))
theorem m_1_1 : (Cond.initialized "java/lang/Long") ∈ wAll := List.mem_append_right _ (List.mem_append_left _ (List.mem_of_getElem? (i := 1) rfl))
theorem m_1_2 : (Cond.initialized "java/lang/IllegalStateException") ∈ wAll := List.mem_append_right _ (List.mem_append_left _ (List.mem_of_getElem? (i := 2) rfl))
theorem m_1_3 : (Cond.initialized "java/lang/Math") ∈ wAll := List.mem_append_right _ (List.mem_append_left _ (List.mem_of_getElem? (i := 3) rfl))
theorem m_1_4 : (Cond.classLink "GameGraphLaw" 8 "GameGraph") ∈ wAll := List.mem_append_right _ (List.mem_append_left _ (List.mem_of_getElem? (i := 4) rfl))
theorem m_1_5 : (Cond.instantiable "GameGraph" 13) ∈ wAll := List.mem_append_right _ (List.mem_append_left _ (List.mem_of_getElem? (i := 5) rfl))
theorem m_1_6 : (Cond.methodLink "GameGraphLaw" 46 yX0_init) ∈ wAll := List.mem_append_right _ (List.mem_append_left _ (List.mem_of_getElem? (i := 6) rfl))
theorem m_1_7 : (Cond.instanceMethod yX0_init) ∈ wAll := List.mem_append_right _ (List.mem_append_left _ (List.mem_of_getElem? (i := 7) rfl))
theorem m_1_8 : (Cond.code yX0_init prog_1_method_1_code 1 (Option.none : Option FieldType)) ∈ wAll := List.mem_append_right _ (List.mem_append_left _ (List.mem_of_getElem? (i := 8) rfl))
theorem m_1_9 : (Cond.methodLink "GameGraph" 1 yO_init) ∈ wAll := List.mem_append_right _ (List.mem_append_left _ (List.mem_of_getElem? (i := 9) rfl))
theorem m_1_10 : (Cond.instanceMethod yO_init) ∈ wAll := List.mem_append_right _ (List.mem_append_left _ (List.mem_of_getElem? (i := 10) rfl))
theorem m_1_11 : (Cond.code yO_init object_method_1_code 1 (Option.none : Option FieldType)) ∈ wAll := List.mem_append_right _ (List.mem_append_left _ (List.mem_of_getElem? (i := 11) rfl))
theorem m_1_12 : (Cond.methodLink "GameGraph" 36 yX0_makeEvenEnds) ∈ wAll := List.mem_append_right _ (List.mem_append_left _ (List.mem_of_getElem? (i := 12) rfl))
theorem m_1_13 : (Cond.instanceMethod yX0_makeEvenEnds) ∈ wAll := List.mem_append_right _ (List.mem_append_left _ (List.mem_of_getElem? (i := 13) rfl))
theorem m_1_14 : (Cond.code yX0_makeEvenEnds prog_1_method_21_code 3 (Option.none : Option FieldType)) ∈ wAll := List.mem_append_right _ (List.mem_append_left _ (List.mem_of_getElem? (i := 14) rfl))
theorem m_1_15 : (Cond.methodLink "GameGraph" 56 yX0_makeState) ∈ wAll := List.mem_append_right _ (List.mem_append_left _ (List.mem_of_getElem? (i := 15) rfl))
theorem m_1_16 : (Cond.instanceMethod yX0_makeState) ∈ wAll := List.mem_append_right _ (List.mem_append_left _ (List.mem_of_getElem? (i := 16) rfl))
theorem m_1_17 : (Cond.code yX0_makeState prog_1_method_22_code 6 (Option.none : Option FieldType)) ∈ wAll := List.mem_append_right _ (List.mem_append_left _ (List.mem_of_getElem? (i := 17) rfl))
theorem m_1_18 : (Cond.fieldLink "GameGraph" 109 "GameGraph" "count" "I") ∈ wAll := List.mem_append_right _ (List.mem_append_left _ (List.mem_of_getElem? (i := 18) rfl))
theorem m_1_19 : (Cond.fieldLink "GameGraph" 9 "GameGraph" "isOpen" "[Z") ∈ wAll := List.mem_append_right _ (List.mem_append_left _ (List.mem_of_getElem? (i := 19) rfl))
theorem m_1_20 : (Cond.fieldLink "GameGraph" 13 "GameGraph" "ofFirst" "[I") ∈ wAll := List.mem_append_right _ (List.mem_append_left _ (List.mem_of_getElem? (i := 20) rfl))
theorem m_1_21 : (Cond.fieldLink "GameGraph" 17 "GameGraph" "ofSecond" "[I") ∈ wAll := List.mem_append_right _ (List.mem_append_left _ (List.mem_of_getElem? (i := 21) rfl))
theorem m_1_22 : (Cond.fieldLink "GameGraph" 20 "GameGraph" "targets" "[I") ∈ wAll := List.mem_append_right _ (List.mem_append_left _ (List.mem_of_getElem? (i := 22) rfl))
theorem m_1_23 : (Cond.fieldLink "GameGraph" 69 "GameGraph" "surveyed" "Z") ∈ wAll := List.mem_append_right _ (List.mem_append_left _ (List.mem_of_getElem? (i := 23) rfl))
theorem m_1_24 : (Cond.fieldLink "GameGraph" 23 "GameGraph" "comesTo" "[J") ∈ wAll := List.mem_append_right _ (List.mem_append_left _ (List.mem_of_getElem? (i := 24) rfl))
theorem m_1_25 : (Cond.fieldLink "GameGraph" 80 "GameGraph" "reachedStates" "J") ∈ wAll := List.mem_append_right _ (List.mem_append_left _ (List.mem_of_getElem? (i := 25) rfl))
theorem m_1_26 : (Cond.fieldLink "GameGraph" 92 "GameGraph" "defectKind" "I") ∈ wAll := List.mem_append_right _ (List.mem_append_left _ (List.mem_of_getElem? (i := 26) rfl))
theorem m_1_27 : (Cond.fieldLink "GameGraph" 96 "GameGraph" "defectState" "I") ∈ wAll := List.mem_append_right _ (List.mem_append_left _ (List.mem_of_getElem? (i := 27) rfl))
theorem m_1_28 : (Cond.fieldLink "GameGraph" 27 "GameGraph" "lengths" "[I") ∈ wAll := List.mem_append_right _ (List.mem_append_left _ (List.mem_of_getElem? (i := 28) rfl))
theorem m_1_29 : (Cond.fieldLink "GameGraph" 30 "GameGraph" "low" "[I") ∈ wAll := List.mem_append_right _ (List.mem_append_left _ (List.mem_of_getElem? (i := 29) rfl))
theorem m_1_30 : (Cond.fieldLink "GameGraph" 33 "GameGraph" "high" "[I") ∈ wAll := List.mem_append_right _ (List.mem_append_left _ (List.mem_of_getElem? (i := 30) rfl))
theorem m_1_31 : (Cond.lays "GameGraph" "GameGraph" "count" "I") ∈ wAll := List.mem_append_right _ (List.mem_append_left _ (List.mem_of_getElem? (i := 31) rfl))
theorem m_1_32 : (Cond.soleField "GameGraph" "count") ∈ wAll := List.mem_append_right _ (List.mem_append_left _ (List.mem_of_getElem? (i := 32) rfl))
theorem m_1_33 : (Cond.laysFinal "GameGraph" "GameGraph" "isOpen" "[Z") ∈ wAll := List.mem_append_right _ (List.mem_append_left _ (List.mem_of_getElem? (i := 33) rfl))
theorem m_1_34 : (Cond.soleField "GameGraph" "isOpen") ∈ wAll := List.mem_append_right _ (List.mem_append_left _ (List.mem_of_getElem? (i := 34) rfl))
theorem m_1_35 : (Cond.laysFinal "GameGraph" "GameGraph" "ofFirst" "[I") ∈ wAll := List.mem_append_right _ (List.mem_append_left _ (List.mem_of_getElem? (i := 35) rfl))
theorem m_1_36 : (Cond.soleField "GameGraph" "ofFirst") ∈ wAll := List.mem_append_right _ (List.mem_append_left _ (List.mem_of_getElem? (i := 36) rfl))
theorem m_1_37 : (Cond.laysFinal "GameGraph" "GameGraph" "ofSecond" "[I") ∈ wAll := List.mem_append_right _ (List.mem_append_left _ (List.mem_of_getElem? (i := 37) rfl))
theorem m_1_38 : (Cond.soleField "GameGraph" "ofSecond") ∈ wAll := List.mem_append_right _ (List.mem_append_left _ (List.mem_of_getElem? (i := 38) rfl))
theorem m_1_39 : (Cond.laysFinal "GameGraph" "GameGraph" "targets" "[I") ∈ wAll := List.mem_append_right _ (List.mem_append_left _ (List.mem_of_getElem? (i := 39) rfl))
theorem m_2_0 : (Cond.soleField "GameGraph" "targets") ∈ wAll := List.mem_append_right _ (List.mem_append_right _ (List.mem_append_left _ (List.mem_of_getElem? (i := 0) rfl)))
theorem m_2_1 : (Cond.lays "GameGraph" "GameGraph" "surveyed" "Z") ∈ wAll := List.mem_append_right _ (List.mem_append_right _ (List.mem_append_left _ (List.mem_of_getElem? (i := 1) rfl)))
theorem m_2_2 : (Cond.soleField "GameGraph" "surveyed") ∈ wAll := List.mem_append_right _ (List.mem_append_right _ (List.mem_append_left _ (List.mem_of_getElem? (i := 2) rfl)))
theorem m_2_3 : (Cond.laysFinal "GameGraph" "GameGraph" "comesTo" "[J") ∈ wAll := List.mem_append_right _ (List.mem_append_right _ (List.mem_append_left _ (List.mem_of_getElem? (i := 3) rfl)))
theorem m_2_4 : (Cond.soleField "GameGraph" "comesTo") ∈ wAll := List.mem_append_right _ (List.mem_append_right _ (List.mem_append_left _ (List.mem_of_getElem? (i := 4) rfl)))
theorem m_2_5 : (Cond.lays "GameGraph" "GameGraph" "reachedStates" "J") ∈ wAll := List.mem_append_right _ (List.mem_append_right _ (List.mem_append_left _ (List.mem_of_getElem? (i := 5) rfl)))
theorem m_2_6 : (Cond.soleField "GameGraph" "reachedStates") ∈ wAll := List.mem_append_right _ (List.mem_append_right _ (List.mem_append_left _ (List.mem_of_getElem? (i := 6) rfl)))
theorem m_2_7 : (Cond.lays "GameGraph" "GameGraph" "defectKind" "I") ∈ wAll := List.mem_append_right _ (List.mem_append_right _ (List.mem_append_left _ (List.mem_of_getElem? (i := 7) rfl)))
theorem m_2_8 : (Cond.soleField "GameGraph" "defectKind") ∈ wAll := List.mem_append_right _ (List.mem_append_right _ (List.mem_append_left _ (List.mem_of_getElem? (i := 8) rfl)))
theorem m_2_9 : (Cond.lays "GameGraph" "GameGraph" "defectState" "I") ∈ wAll := List.mem_append_right _ (List.mem_append_right _ (List.mem_append_left _ (List.mem_of_getElem? (i := 9) rfl)))
theorem m_2_10 : (Cond.soleField "GameGraph" "defectState") ∈ wAll := List.mem_append_right _ (List.mem_append_right _ (List.mem_append_left _ (List.mem_of_getElem? (i := 10) rfl)))
theorem m_2_11 : (Cond.laysFinal "GameGraph" "GameGraph" "lengths" "[I") ∈ wAll := List.mem_append_right _ (List.mem_append_right _ (List.mem_append_left _ (List.mem_of_getElem? (i := 11) rfl)))
theorem m_2_12 : (Cond.soleField "GameGraph" "lengths") ∈ wAll := List.mem_append_right _ (List.mem_append_right _ (List.mem_append_left _ (List.mem_of_getElem? (i := 12) rfl)))
theorem m_2_13 : (Cond.laysFinal "GameGraph" "GameGraph" "low" "[I") ∈ wAll := List.mem_append_right _ (List.mem_append_right _ (List.mem_append_left _ (List.mem_of_getElem? (i := 13) rfl)))
theorem m_2_14 : (Cond.soleField "GameGraph" "low") ∈ wAll := List.mem_append_right _ (List.mem_append_right _ (List.mem_append_left _ (List.mem_of_getElem? (i := 14) rfl)))
theorem m_2_15 : (Cond.laysFinal "GameGraph" "GameGraph" "high" "[I") ∈ wAll := List.mem_append_right _ (List.mem_append_right _ (List.mem_append_left _ (List.mem_of_getElem? (i := 15) rfl)))
theorem m_2_16 : (Cond.soleField "GameGraph" "high") ∈ wAll := List.mem_append_right _ (List.mem_append_right _ (List.mem_append_left _ (List.mem_of_getElem? (i := 16) rfl)))
theorem m_2_17 : (Cond.superclass "GameGraph" "java/lang/Object") ∈ wAll := List.mem_append_right _ (List.mem_append_right _ (List.mem_append_left _ (List.mem_of_getElem? (i := 17) rfl)))
theorem m_2_18 : (Cond.arrayClass FieldType.boolean) ∈ wAll := List.mem_append_right _ (List.mem_append_right _ (List.mem_append_left _ (List.mem_of_getElem? (i := 18) rfl)))
theorem m_2_19 : (Cond.arrayClass FieldType.int) ∈ wAll := List.mem_append_right _ (List.mem_append_right _ (List.mem_append_left _ (List.mem_of_getElem? (i := 19) rfl)))
theorem m_2_20 : (Cond.arrayClass FieldType.long) ∈ wAll := List.mem_append_right _ (List.mem_append_right _ (List.mem_append_left _ (List.mem_of_getElem? (i := 20) rfl)))
theorem m_2_21 : (Cond.methodLink "GameGraphLaw" 74 yX0_reached) ∈ wAll := List.mem_append_right _ (List.mem_append_right _ (List.mem_append_left _ (List.mem_of_getElem? (i := 21) rfl)))
theorem m_2_22 : (Cond.instanceMethod yX0_reached) ∈ wAll := List.mem_append_right _ (List.mem_append_right _ (List.mem_append_left _ (List.mem_of_getElem? (i := 22) rfl)))
theorem m_2_23 : (Cond.selects "GameGraph" yX0_reached yX0_reached) ∈ wAll := List.mem_append_right _ (List.mem_append_right _ (List.mem_append_left _ (List.mem_of_getElem? (i := 23) rfl)))
theorem m_2_24 : (Cond.code yX0_reached prog_1_method_7_code 1 (Option.some FieldType.int)) ∈ wAll := List.mem_append_right _ (List.mem_append_right _ (List.mem_append_left _ (List.mem_of_getElem? (i := 24) rfl)))
theorem m_2_25 : (Cond.methodLink "GameGraph" 77 yX0_survey) ∈ wAll := List.mem_append_right _ (List.mem_append_right _ (List.mem_append_left _ (List.mem_of_getElem? (i := 25) rfl)))
theorem m_2_26 : (Cond.instanceMethod yX0_survey) ∈ wAll := List.mem_append_right _ (List.mem_append_right _ (List.mem_append_left _ (List.mem_of_getElem? (i := 26) rfl)))
theorem m_2_27 : (Cond.code yX0_survey prog_1_method_23_code 1 (Option.none : Option FieldType)) ∈ wAll := List.mem_append_right _ (List.mem_append_right _ (List.mem_append_left _ (List.mem_of_getElem? (i := 27) rfl)))
theorem m_2_28 : (Cond.methodLink "GameGraph" 136 yX0_findWhatStatesComeTo) ∈ wAll := List.mem_append_right _ (List.mem_append_right _ (List.mem_append_left _ (List.mem_of_getElem? (i := 28) rfl)))
theorem m_2_29 : (Cond.instanceMethod yX0_findWhatStatesComeTo) ∈ wAll := List.mem_append_right _ (List.mem_append_right _ (List.mem_append_left _ (List.mem_of_getElem? (i := 29) rfl)))
theorem m_2_30 : (Cond.code yX0_findWhatStatesComeTo prog_1_method_24_code 3 (Option.none : Option FieldType)) ∈ wAll := List.mem_append_right _ (List.mem_append_right _ (List.mem_append_left _ (List.mem_of_getElem? (i := 30) rfl)))
theorem m_2_31 : (Cond.methodLink "GameGraph" 148 yX0_goesTo) ∈ wAll := List.mem_append_right _ (List.mem_append_right _ (List.mem_append_left _ (List.mem_of_getElem? (i := 31) rfl)))
theorem m_2_32 : (Cond.instanceMethod yX0_goesTo) ∈ wAll := List.mem_append_right _ (List.mem_append_right _ (List.mem_append_left _ (List.mem_of_getElem? (i := 32) rfl)))
theorem m_2_33 : (Cond.code yX0_goesTo prog_1_method_25_code 6 (Option.some FieldType.long)) ∈ wAll := List.mem_append_right _ (List.mem_append_right _ (List.mem_append_left _ (List.mem_of_getElem? (i := 33) rfl)))
theorem m_2_34 : (Cond.methodLink "GameGraph" 120 yX0_jointMoves) ∈ wAll := List.mem_append_right _ (List.mem_append_right _ (List.mem_append_left _ (List.mem_of_getElem? (i := 34) rfl)))
theorem m_2_35 : (Cond.instanceMethod yX0_jointMoves) ∈ wAll := List.mem_append_right _ (List.mem_append_right _ (List.mem_append_left _ (List.mem_of_getElem? (i := 35) rfl)))
theorem m_2_36 : (Cond.code yX0_jointMoves prog_1_method_19_code 2 (Option.some FieldType.int)) ∈ wAll := List.mem_append_right _ (List.mem_append_right _ (List.mem_append_left _ (List.mem_of_getElem? (i := 36) rfl)))
theorem m_2_37 : (Cond.methodLink "GameGraph" 73 yX0_target) ∈ wAll := List.mem_append_right _ (List.mem_append_right _ (List.mem_append_left _ (List.mem_of_getElem? (i := 37) rfl)))
theorem m_2_38 : (Cond.instanceMethod yX0_target) ∈ wAll := List.mem_append_right _ (List.mem_append_right _ (List.mem_append_left _ (List.mem_of_getElem? (i := 38) rfl)))
theorem m_2_39 : (Cond.code yX0_target prog_1_method_20_code 3 (Option.some FieldType.int)) ∈ wAll := List.mem_append_right _ (List.mem_append_right _ (List.mem_append_left _ (List.mem_of_getElem? (i := 39) rfl)))
theorem m_3_0 : (Cond.methodLink "GameGraph" 130 yX0_contains) ∈ wAll := List.mem_append_right _ (List.mem_append_right _ (List.mem_append_right _ (List.mem_append_left _ (List.mem_of_getElem? (i := 0) rfl))))
theorem m_3_1 : (Cond.static yX0_contains) ∈ wAll := List.mem_append_right _ (List.mem_append_right _ (List.mem_append_right _ (List.mem_append_left _ (List.mem_of_getElem? (i := 1) rfl))))
theorem m_3_2 : (Cond.code yX0_contains prog_1_method_18_code 3 (Option.some FieldType.boolean)) ∈ wAll := List.mem_append_right _ (List.mem_append_right _ (List.mem_append_right _ (List.mem_append_left _ (List.mem_of_getElem? (i := 2) rfl))))
theorem m_3_3 : (Cond.methodLink "GameGraph" 139 yX0_findDefect) ∈ wAll := List.mem_append_right _ (List.mem_append_right _ (List.mem_append_right _ (List.mem_append_left _ (List.mem_of_getElem? (i := 3) rfl))))
theorem m_3_4 : (Cond.instanceMethod yX0_findDefect) ∈ wAll := List.mem_append_right _ (List.mem_append_right _ (List.mem_append_right _ (List.mem_append_left _ (List.mem_of_getElem? (i := 4) rfl))))
theorem m_3_5 : (Cond.code yX0_findDefect prog_1_method_26_code 2 (Option.none : Option FieldType)) ∈ wAll := List.mem_append_right _ (List.mem_append_right _ (List.mem_append_right _ (List.mem_append_left _ (List.mem_of_getElem? (i := 5) rfl))))
theorem m_3_6 : (Cond.methodLink "GameGraph" 152 yX0_defectOfOpen) ∈ wAll := List.mem_append_right _ (List.mem_append_right _ (List.mem_append_right _ (List.mem_append_left _ (List.mem_of_getElem? (i := 6) rfl))))
theorem m_3_7 : (Cond.instanceMethod yX0_defectOfOpen) ∈ wAll := List.mem_append_right _ (List.mem_append_right _ (List.mem_append_right _ (List.mem_append_left _ (List.mem_of_getElem? (i := 7) rfl))))
theorem m_3_8 : (Cond.code yX0_defectOfOpen prog_1_method_28_code 2 (Option.some FieldType.int)) ∈ wAll := List.mem_append_right _ (List.mem_append_right _ (List.mem_append_right _ (List.mem_append_left _ (List.mem_of_getElem? (i := 8) rfl))))
theorem m_3_9 : (Cond.methodLink "GameGraph" 155 yX0_defectOfEnd) ∈ wAll := List.mem_append_right _ (List.mem_append_right _ (List.mem_append_right _ (List.mem_append_left _ (List.mem_of_getElem? (i := 9) rfl))))
theorem m_3_10 : (Cond.instanceMethod yX0_defectOfEnd) ∈ wAll := List.mem_append_right _ (List.mem_append_right _ (List.mem_append_right _ (List.mem_append_left _ (List.mem_of_getElem? (i := 10) rfl))))
theorem m_3_11 : (Cond.code yX0_defectOfEnd prog_1_method_29_code 2 (Option.some FieldType.int)) ∈ wAll := List.mem_append_right _ (List.mem_append_right _ (List.mem_append_right _ (List.mem_append_left _ (List.mem_of_getElem? (i := 11) rfl))))
theorem m_3_12 : (Cond.methodLink "GameGraph" 158 yX0_noteDefect) ∈ wAll := List.mem_append_right _ (List.mem_append_right _ (List.mem_append_right _ (List.mem_append_left _ (List.mem_of_getElem? (i := 12) rfl))))
theorem m_3_13 : (Cond.instanceMethod yX0_noteDefect) ∈ wAll := List.mem_append_right _ (List.mem_append_right _ (List.mem_append_right _ (List.mem_append_left _ (List.mem_of_getElem? (i := 13) rfl))))
theorem m_3_14 : (Cond.code yX0_noteDefect prog_1_method_27_code 3 (Option.none : Option FieldType)) ∈ wAll := List.mem_append_right _ (List.mem_append_right _ (List.mem_append_right _ (List.mem_append_left _ (List.mem_of_getElem? (i := 14) rfl))))
theorem m_3_15 : (Cond.methodLink "GameGraph" 142 yX0_findLengths) ∈ wAll := List.mem_append_right _ (List.mem_append_right _ (List.mem_append_right _ (List.mem_append_left _ (List.mem_of_getElem? (i := 15) rfl))))
theorem m_3_16 : (Cond.instanceMethod yX0_findLengths) ∈ wAll := List.mem_append_right _ (List.mem_append_right _ (List.mem_append_right _ (List.mem_append_left _ (List.mem_of_getElem? (i := 16) rfl))))
theorem m_3_17 : (Cond.code yX0_findLengths prog_1_method_30_code 8 (Option.none : Option FieldType)) ∈ wAll := List.mem_append_right _ (List.mem_append_right _ (List.mem_append_right _ (List.mem_append_left _ (List.mem_of_getElem? (i := 17) rfl))))
theorem m_3_18 : (Cond.constantLong "GameGraph" 161 (-1 : Int64)) ∈ wAll := List.mem_append_right _ (List.mem_append_right _ (List.mem_append_right _ (List.mem_append_left _ (List.mem_of_getElem? (i := 18) rfl))))
theorem m_3_19 : (Cond.methodLink "GameGraph" 145 yX0_boundValues) ∈ wAll := List.mem_append_right _ (List.mem_append_right _ (List.mem_append_right _ (List.mem_append_left _ (List.mem_of_getElem? (i := 19) rfl))))
theorem m_3_20 : (Cond.instanceMethod yX0_boundValues) ∈ wAll := List.mem_append_right _ (List.mem_append_right _ (List.mem_append_right _ (List.mem_append_left _ (List.mem_of_getElem? (i := 20) rfl))))
theorem m_3_21 : (Cond.code yX0_boundValues prog_1_method_31_code 2 (Option.none : Option FieldType)) ∈ wAll := List.mem_append_right _ (List.mem_append_right _ (List.mem_append_right _ (List.mem_append_left _ (List.mem_of_getElem? (i := 21) rfl))))
theorem m_3_22 : (Cond.methodLink "GameGraph" 84 yJ_bitCount) ∈ wAll := List.mem_append_right _ (List.mem_append_right _ (List.mem_append_right _ (List.mem_append_left _ (List.mem_of_getElem? (i := 22) rfl))))
theorem m_3_23 : (Cond.static yJ_bitCount) ∈ wAll := List.mem_append_right _ (List.mem_append_right _ (List.mem_append_right _ (List.mem_append_left _ (List.mem_of_getElem? (i := 23) rfl))))
theorem m_3_24 : (Cond.code yJ_bitCount prog_8_method_50_code 2 (Option.some FieldType.int)) ∈ wAll := List.mem_append_right _ (List.mem_append_right _ (List.mem_append_right _ (List.mem_append_left _ (List.mem_of_getElem? (i := 24) rfl))))
theorem m_3_25 : (Cond.constantLong "java/lang/Long" 314 (6148914691236517205 : Int64)) ∈ wAll := List.mem_append_right _ (List.mem_append_right _ (List.mem_append_right _ (List.mem_append_left _ (List.mem_of_getElem? (i := 25) rfl))))
theorem m_3_26 : (Cond.constantLong "java/lang/Long" 316 (3689348814741910323 : Int64)) ∈ wAll := List.mem_append_right _ (List.mem_append_right _ (List.mem_append_right _ (List.mem_append_left _ (List.mem_of_getElem? (i := 26) rfl))))
theorem m_3_27 : (Cond.constantLong "java/lang/Long" 318 (1085102592571150095 : Int64)) ∈ wAll := List.mem_append_right _ (List.mem_append_right _ (List.mem_append_right _ (List.mem_append_left _ (List.mem_of_getElem? (i := 27) rfl))))
theorem m_3_28 : (Cond.methodLink "GameGraphLaw" 50 yL_states) ∈ wAll := List.mem_append_right _ (List.mem_append_right _ (List.mem_append_right _ (List.mem_append_left _ (List.mem_of_getElem? (i := 28) rfl))))
theorem m_3_29 : (Cond.static yL_states) ∈ wAll := List.mem_append_right _ (List.mem_append_right _ (List.mem_append_right _ (List.mem_append_left _ (List.mem_of_getElem? (i := 29) rfl))))
theorem m_3_30 : (Cond.codeWith yL_states method_3_code 3 (Option.some FieldType.int) [(0, 5, 8, 13)]) ∈ wAll := List.mem_append_right _ (List.mem_append_right _ (List.mem_append_right _ (List.mem_append_left _ (List.mem_of_getElem? (i := 30) rfl))))
theorem m_3_31 : (Cond.classLink "GameGraphLaw" 13 "java/lang/IllegalArgumentException") ∈ wAll := List.mem_append_right _ (List.mem_append_right _ (List.mem_append_right _ (List.mem_append_left _ (List.mem_of_getElem? (i := 31) rfl))))
theorem m_3_32 : (Cond.methodLink "GameGraphLaw" 7 yX0_states) ∈ wAll := List.mem_append_right _ (List.mem_append_right _ (List.mem_append_right _ (List.mem_append_left _ (List.mem_of_getElem? (i := 32) rfl))))
theorem m_3_33 : (Cond.instanceMethod yX0_states) ∈ wAll := List.mem_append_right _ (List.mem_append_right _ (List.mem_append_right _ (List.mem_append_left _ (List.mem_of_getElem? (i := 33) rfl))))
theorem m_3_34 : (Cond.selects "GameGraph" yX0_states yX0_states) ∈ wAll := List.mem_append_right _ (List.mem_append_right _ (List.mem_append_right _ (List.mem_append_left _ (List.mem_of_getElem? (i := 34) rfl))))
theorem m_3_35 : (Cond.code yX0_states prog_1_method_2_code 2 (Option.none : Option FieldType)) ∈ wAll := List.mem_append_right _ (List.mem_append_right _ (List.mem_append_right _ (List.mem_append_left _ (List.mem_of_getElem? (i := 35) rfl))))
theorem m_3_36 : (Cond.classLink "GameGraph" 40 "java/lang/IllegalArgumentException") ∈ wAll := List.mem_append_right _ (List.mem_append_right _ (List.mem_append_right _ (List.mem_append_left _ (List.mem_of_getElem? (i := 36) rfl))))
theorem m_3_37 : (Cond.instantiable "java/lang/IllegalArgumentException" 6) ∈ wAll := List.mem_append_right _ (List.mem_append_right _ (List.mem_append_right _ (List.mem_append_left _ (List.mem_of_getElem? (i := 37) rfl))))
theorem m_3_38 : (Cond.selects "java/lang/IllegalArgumentException" yT_fillInStackTraceI yT_fillInStackTraceI) ∈ wAll := List.mem_append_right _ (List.mem_append_right _ (List.mem_append_right _ (List.mem_append_left _ (List.mem_of_getElem? (i := 38) rfl))))
theorem m_3_39 : (Cond.selects "java/lang/IllegalArgumentException" yT_fillInStackTrace yT_fillInStackTrace) ∈ wAll := List.mem_append_right _ (List.mem_append_right _ (List.mem_append_right _ (List.mem_append_left _ (List.mem_of_getElem? (i := 39) rfl))))
theorem m_4_0 : (Cond.lays "java/lang/IllegalArgumentException" "java/lang/Throwable" "cause" "Ljava/lang/Throwable;") ∈ wAll := List.mem_append_right _ (List.mem_append_right _ (List.mem_append_right _ (List.mem_append_right _ (List.mem_append_left _ (List.mem_of_getElem? (i := 0) rfl)))))
theorem m_4_1 : (Cond.lays "java/lang/Throwable" "java/lang/Throwable" "cause" "Ljava/lang/Throwable;") ∈ wAll := List.mem_append_right _ (List.mem_append_right _ (List.mem_append_right _ (List.mem_append_right _ (List.mem_append_left _ (List.mem_of_getElem? (i := 1) rfl)))))
theorem m_4_2 : (Cond.lays "java/lang/IllegalArgumentException" "java/lang/Throwable" "stackTrace" "[Ljava/lang/StackTraceElement;") ∈ wAll := List.mem_append_right _ (List.mem_append_right _ (List.mem_append_right _ (List.mem_append_right _ (List.mem_append_left _ (List.mem_of_getElem? (i := 2) rfl)))))
theorem m_4_3 : (Cond.lays "java/lang/Throwable" "java/lang/Throwable" "stackTrace" "[Ljava/lang/StackTraceElement;") ∈ wAll := List.mem_append_right _ (List.mem_append_right _ (List.mem_append_right _ (List.mem_append_right _ (List.mem_append_left _ (List.mem_of_getElem? (i := 3) rfl)))))
theorem m_4_4 : (Cond.lays "java/lang/IllegalArgumentException" "java/lang/Throwable" "suppressedExceptions" "Ljava/util/List;") ∈ wAll := List.mem_append_right _ (List.mem_append_right _ (List.mem_append_right _ (List.mem_append_right _ (List.mem_append_left _ (List.mem_of_getElem? (i := 4) rfl)))))
theorem m_4_5 : (Cond.lays "java/lang/Throwable" "java/lang/Throwable" "suppressedExceptions" "Ljava/util/List;") ∈ wAll := List.mem_append_right _ (List.mem_append_right _ (List.mem_append_right _ (List.mem_append_right _ (List.mem_append_left _ (List.mem_of_getElem? (i := 5) rfl)))))
theorem m_4_6 : (Cond.lays "java/lang/IllegalArgumentException" "java/lang/Throwable" "detailMessage" "Ljava/lang/String;") ∈ wAll := List.mem_append_right _ (List.mem_append_right _ (List.mem_append_right _ (List.mem_append_right _ (List.mem_append_left _ (List.mem_of_getElem? (i := 6) rfl)))))
theorem m_4_7 : (Cond.lays "java/lang/Throwable" "java/lang/Throwable" "detailMessage" "Ljava/lang/String;") ∈ wAll := List.mem_append_right _ (List.mem_append_right _ (List.mem_append_right _ (List.mem_append_right _ (List.mem_append_left _ (List.mem_of_getElem? (i := 7) rfl)))))
theorem m_4_8 : (Cond.lays "java/lang/IllegalArgumentException" "java/lang/Throwable" "backtrace" "Ljava/lang/Object;") ∈ wAll := List.mem_append_right _ (List.mem_append_right _ (List.mem_append_right _ (List.mem_append_right _ (List.mem_append_left _ (List.mem_of_getElem? (i := 8) rfl)))))
theorem m_4_9 : (Cond.lays "java/lang/Throwable" "java/lang/Throwable" "backtrace" "Ljava/lang/Object;") ∈ wAll := List.mem_append_right _ (List.mem_append_right _ (List.mem_append_right _ (List.mem_append_right _ (List.mem_append_left _ (List.mem_of_getElem? (i := 9) rfl)))))
theorem m_4_10 : (Cond.fieldLink "java/lang/Throwable" 198 "java/lang/Throwable" "backtrace" "Ljava/lang/Object;") ∈ wAll := List.mem_append_right _ (List.mem_append_right _ (List.mem_append_right _ (List.mem_append_right _ (List.mem_append_left _ (List.mem_of_getElem? (i := 10) rfl)))))
theorem m_4_11 : (Cond.superclass "java/lang/Throwable" "java/lang/Object") ∈ wAll := List.mem_append_right _ (List.mem_append_right _ (List.mem_append_right _ (List.mem_append_right _ (List.mem_append_left _ (List.mem_of_getElem? (i := 11) rfl)))))
theorem m_4_12 : (Cond.instanceMethod yT_init) ∈ wAll := List.mem_append_right _ (List.mem_append_right _ (List.mem_append_right _ (List.mem_append_right _ (List.mem_append_left _ (List.mem_of_getElem? (i := 12) rfl)))))
theorem m_4_13 : (Cond.code yT_init prog_12_method_1_code 1 (Option.none : Option FieldType)) ∈ wAll := List.mem_append_right _ (List.mem_append_right _ (List.mem_append_right _ (List.mem_append_right _ (List.mem_append_left _ (List.mem_of_getElem? (i := 13) rfl)))))
theorem m_4_14 : (Cond.methodLink "java/lang/Throwable" 1 yO_init) ∈ wAll := List.mem_append_right _ (List.mem_append_right _ (List.mem_append_right _ (List.mem_append_right _ (List.mem_append_left _ (List.mem_of_getElem? (i := 14) rfl)))))
theorem m_4_15 : (Cond.fieldLink "java/lang/Throwable" 13 "java/lang/Throwable" "UNASSIGNED_STACK" "[Ljava/lang/StackTraceElement;") ∈ wAll := List.mem_append_right _ (List.mem_append_right _ (List.mem_append_right _ (List.mem_append_right _ (List.mem_append_left _ (List.mem_of_getElem? (i := 15) rfl)))))
theorem m_4_16 : (Cond.fieldLink "java/lang/Throwable" 20 "java/lang/Throwable" "SUPPRESSED_SENTINEL" "Ljava/util/List;") ∈ wAll := List.mem_append_right _ (List.mem_append_right _ (List.mem_append_right _ (List.mem_append_right _ (List.mem_append_left _ (List.mem_of_getElem? (i := 16) rfl)))))
theorem m_4_17 : (Cond.methodLink "java/lang/Throwable" 27 yT_fillInStackTrace) ∈ wAll := List.mem_append_right _ (List.mem_append_right _ (List.mem_append_right _ (List.mem_append_right _ (List.mem_append_left _ (List.mem_of_getElem? (i := 17) rfl)))))
theorem m_4_18 : (Cond.instanceMethod yT_fillInStackTrace) ∈ wAll := List.mem_append_right _ (List.mem_append_right _ (List.mem_append_right _ (List.mem_append_right _ (List.mem_append_left _ (List.mem_of_getElem? (i := 18) rfl)))))
theorem m_4_19 : (Cond.sameMethod "java/lang/Throwable" "java/lang/Throwable" "fillInStackTrace" "()Ljava/lang/Throwable;") ∈ wAll := List.mem_append_right _ (List.mem_append_right _ (List.mem_append_right _ (List.mem_append_right _ (List.mem_append_left _ (List.mem_of_getElem? (i := 19) rfl)))))
theorem m_4_20 : (Cond.selects "java/lang/IllegalStateException" yT_fillInStackTrace yT_fillInStackTrace) ∈ wAll := List.mem_append_right _ (List.mem_append_right _ (List.mem_append_right _ (List.mem_append_right _ (List.mem_append_left _ (List.mem_of_getElem? (i := 20) rfl)))))
theorem m_4_21 : (Cond.selects "java/lang/IndexOutOfBoundsException" yT_fillInStackTrace yT_fillInStackTrace) ∈ wAll := List.mem_append_right _ (List.mem_append_right _ (List.mem_append_right _ (List.mem_append_right _ (List.mem_append_left _ (List.mem_of_getElem? (i := 21) rfl)))))
theorem m_4_22 : (Cond.codeSync yT_fillInStackTrace prog_12_method_18_code 1 (Option.some (FieldType.object "java/lang/Throwable"))) ∈ wAll := List.mem_append_right _ (List.mem_append_right _ (List.mem_append_right _ (List.mem_append_right _ (List.mem_append_left _ (List.mem_of_getElem? (i := 22) rfl)))))
theorem m_4_23 : (Cond.methodLink "java/lang/Throwable" 202 yT_fillInStackTraceI) ∈ wAll := List.mem_append_right _ (List.mem_append_right _ (List.mem_append_right _ (List.mem_append_right _ (List.mem_append_left _ (List.mem_of_getElem? (i := 23) rfl)))))
theorem m_4_24 : (Cond.instanceMethod yT_fillInStackTraceI) ∈ wAll := List.mem_append_right _ (List.mem_append_right _ (List.mem_append_right _ (List.mem_append_right _ (List.mem_append_left _ (List.mem_of_getElem? (i := 24) rfl)))))
theorem m_4_25 : (Cond.instantiable "java/lang/Throwable" 6) ∈ wAll := List.mem_append_right _ (List.mem_append_right _ (List.mem_append_right _ (List.mem_append_right _ (List.mem_append_left _ (List.mem_of_getElem? (i := 25) rfl)))))
theorem m_4_26 : (Cond.native yT_fillInStackTraceI) ∈ wAll := List.mem_append_right _ (List.mem_append_right _ (List.mem_append_right _ (List.mem_append_right _ (List.mem_append_left _ (List.mem_of_getElem? (i := 26) rfl)))))
theorem m_4_27 : (Cond.methodLink "GameGraph" 44 yEA_initS) ∈ wAll := List.mem_append_right _ (List.mem_append_right _ (List.mem_append_right _ (List.mem_append_right _ (List.mem_append_left _ (List.mem_of_getElem? (i := 27) rfl)))))
theorem m_4_28 : (Cond.instanceMethod yEA_initS) ∈ wAll := List.mem_append_right _ (List.mem_append_right _ (List.mem_append_right _ (List.mem_append_right _ (List.mem_append_left _ (List.mem_of_getElem? (i := 28) rfl)))))
theorem m_4_29 : (Cond.code yEA_initS prog_5_method_2_code 2 (Option.none : Option FieldType)) ∈ wAll := List.mem_append_right _ (List.mem_append_right _ (List.mem_append_right _ (List.mem_append_right _ (List.mem_append_left _ (List.mem_of_getElem? (i := 29) rfl)))))
theorem m_4_30 : (Cond.methodLink "java/lang/IllegalArgumentException" 7 yER_initS) ∈ wAll := List.mem_append_right _ (List.mem_append_right _ (List.mem_append_right _ (List.mem_append_right _ (List.mem_append_left _ (List.mem_of_getElem? (i := 30) rfl)))))
theorem m_4_31 : (Cond.instanceMethod yER_initS) ∈ wAll := List.mem_append_right _ (List.mem_append_right _ (List.mem_append_right _ (List.mem_append_right _ (List.mem_append_left _ (List.mem_of_getElem? (i := 31) rfl)))))
theorem m_4_32 : (Cond.code yER_initS prog_10_method_2_code 2 (Option.none : Option FieldType)) ∈ wAll := List.mem_append_right _ (List.mem_append_right _ (List.mem_append_right _ (List.mem_append_right _ (List.mem_append_left _ (List.mem_of_getElem? (i := 32) rfl)))))
theorem m_4_33 : (Cond.methodLink "java/lang/RuntimeException" 7 yEE_initS) ∈ wAll := List.mem_append_right _ (List.mem_append_right _ (List.mem_append_right _ (List.mem_append_right _ (List.mem_append_left _ (List.mem_of_getElem? (i := 33) rfl)))))
theorem m_4_34 : (Cond.instanceMethod yEE_initS) ∈ wAll := List.mem_append_right _ (List.mem_append_right _ (List.mem_append_right _ (List.mem_append_right _ (List.mem_append_left _ (List.mem_of_getElem? (i := 34) rfl)))))
theorem m_4_35 : (Cond.code yEE_initS prog_4_method_2_code 2 (Option.none : Option FieldType)) ∈ wAll := List.mem_append_right _ (List.mem_append_right _ (List.mem_append_right _ (List.mem_append_right _ (List.mem_append_left _ (List.mem_of_getElem? (i := 35) rfl)))))
theorem m_4_36 : (Cond.methodLink "java/lang/Exception" 7 yT_initS) ∈ wAll := List.mem_append_right _ (List.mem_append_right _ (List.mem_append_right _ (List.mem_append_right _ (List.mem_append_left _ (List.mem_of_getElem? (i := 36) rfl)))))
theorem m_4_37 : (Cond.instanceMethod yT_initS) ∈ wAll := List.mem_append_right _ (List.mem_append_right _ (List.mem_append_right _ (List.mem_append_right _ (List.mem_append_left _ (List.mem_of_getElem? (i := 37) rfl)))))
theorem m_4_38 : (Cond.code yT_initS prog_12_method_2_code 2 (Option.none : Option FieldType)) ∈ wAll := List.mem_append_right _ (List.mem_append_right _ (List.mem_append_right _ (List.mem_append_right _ (List.mem_append_left _ (List.mem_of_getElem? (i := 38) rfl)))))
theorem m_5_0 : (Cond.fieldLink "java/lang/Throwable" 31 "java/lang/Throwable" "detailMessage" "Ljava/lang/String;") ∈ wAll := List.mem_append_right _ (List.mem_append_right _ (List.mem_append_right _ (List.mem_append_right _ (List.mem_append_right _ (List.mem_append_left _ (List.mem_of_getElem? (i := 0) rfl))))))
theorem m_5_1 : (Cond.fieldLink "java/lang/Throwable" 7 "java/lang/Throwable" "cause" "Ljava/lang/Throwable;") ∈ wAll := List.mem_append_right _ (List.mem_append_right _ (List.mem_append_right _ (List.mem_append_right _ (List.mem_append_right _ (List.mem_append_left _ (List.mem_of_getElem? (i := 1) rfl))))))
theorem m_5_2 : (Cond.fieldLink "java/lang/Throwable" 17 "java/lang/Throwable" "stackTrace" "[Ljava/lang/StackTraceElement;") ∈ wAll := List.mem_append_right _ (List.mem_append_right _ (List.mem_append_right _ (List.mem_append_right _ (List.mem_append_right _ (List.mem_append_left _ (List.mem_of_getElem? (i := 2) rfl))))))
theorem m_5_3 : (Cond.fieldLink "java/lang/Throwable" 24 "java/lang/Throwable" "suppressedExceptions" "Ljava/util/List;") ∈ wAll := List.mem_append_right _ (List.mem_append_right _ (List.mem_append_right _ (List.mem_append_right _ (List.mem_append_right _ (List.mem_append_left _ (List.mem_of_getElem? (i := 3) rfl))))))
theorem m_5_4 : (Cond.soleField "java/lang/Throwable" "backtrace") ∈ wAll := List.mem_append_right _ (List.mem_append_right _ (List.mem_append_right _ (List.mem_append_right _ (List.mem_append_right _ (List.mem_append_left _ (List.mem_of_getElem? (i := 4) rfl))))))
theorem m_5_5 : (Cond.soleField "java/lang/Throwable" "detailMessage") ∈ wAll := List.mem_append_right _ (List.mem_append_right _ (List.mem_append_right _ (List.mem_append_right _ (List.mem_append_right _ (List.mem_append_left _ (List.mem_of_getElem? (i := 5) rfl))))))
theorem m_5_6 : (Cond.soleField "java/lang/Throwable" "cause") ∈ wAll := List.mem_append_right _ (List.mem_append_right _ (List.mem_append_right _ (List.mem_append_right _ (List.mem_append_right _ (List.mem_append_left _ (List.mem_of_getElem? (i := 6) rfl))))))
theorem m_5_7 : (Cond.soleField "java/lang/Throwable" "stackTrace") ∈ wAll := List.mem_append_right _ (List.mem_append_right _ (List.mem_append_right _ (List.mem_append_right _ (List.mem_append_right _ (List.mem_append_left _ (List.mem_of_getElem? (i := 7) rfl))))))
theorem m_5_8 : (Cond.lays "java/lang/IllegalArgumentException" "java/lang/Throwable" "depth" "I") ∈ wAll := List.mem_append_right _ (List.mem_append_right _ (List.mem_append_right _ (List.mem_append_right _ (List.mem_append_right _ (List.mem_append_left _ (List.mem_of_getElem? (i := 8) rfl))))))
theorem m_5_9 : (Cond.soleField "java/lang/Throwable" "depth") ∈ wAll := List.mem_append_right _ (List.mem_append_right _ (List.mem_append_right _ (List.mem_append_right _ (List.mem_append_right _ (List.mem_append_left _ (List.mem_of_getElem? (i := 9) rfl))))))
theorem m_5_10 : (Cond.soleField "java/lang/Throwable" "suppressedExceptions") ∈ wAll := List.mem_append_right _ (List.mem_append_right _ (List.mem_append_right _ (List.mem_append_right _ (List.mem_append_right _ (List.mem_append_left _ (List.mem_of_getElem? (i := 10) rfl))))))
theorem m_5_11 : (Cond.superclass "java/lang/IllegalArgumentException" "java/lang/RuntimeException") ∈ wAll := List.mem_append_right _ (List.mem_append_right _ (List.mem_append_right _ (List.mem_append_right _ (List.mem_append_right _ (List.mem_append_left _ (List.mem_of_getElem? (i := 11) rfl))))))
theorem m_5_12 : (Cond.arrayClass FieldType.byte) ∈ wAll := List.mem_append_right _ (List.mem_append_right _ (List.mem_append_right _ (List.mem_append_right _ (List.mem_append_right _ (List.mem_append_left _ (List.mem_of_getElem? (i := 12) rfl))))))
theorem m_5_13 : (Cond.methodLink "GameGraphLaw" 60 yL_end) ∈ wAll := List.mem_append_right _ (List.mem_append_right _ (List.mem_append_right _ (List.mem_append_right _ (List.mem_append_right _ (List.mem_append_left _ (List.mem_of_getElem? (i := 13) rfl))))))
theorem m_5_14 : (Cond.static yL_end) ∈ wAll := List.mem_append_right _ (List.mem_append_right _ (List.mem_append_right _ (List.mem_append_right _ (List.mem_append_right _ (List.mem_append_left _ (List.mem_of_getElem? (i := 14) rfl))))))
theorem m_5_15 : (Cond.codeWith yL_end method_4_code 5 (Option.some FieldType.int) [(0, 7, 10, 19), (0, 7, 14, 13)]) ∈ wAll := List.mem_append_right _ (List.mem_append_right _ (List.mem_append_right _ (List.mem_append_right _ (List.mem_append_right _ (List.mem_append_left _ (List.mem_of_getElem? (i := 15) rfl))))))
theorem m_5_16 : (Cond.classLink "GameGraphLaw" 19 "java/lang/IndexOutOfBoundsException") ∈ wAll := List.mem_append_right _ (List.mem_append_right _ (List.mem_append_right _ (List.mem_append_right _ (List.mem_append_right _ (List.mem_append_left _ (List.mem_of_getElem? (i := 16) rfl))))))
theorem m_5_17 : (Cond.methodLink "GameGraphLaw" 15 yX0_end) ∈ wAll := List.mem_append_right _ (List.mem_append_right _ (List.mem_append_right _ (List.mem_append_right _ (List.mem_append_right _ (List.mem_append_left _ (List.mem_of_getElem? (i := 17) rfl))))))
theorem m_5_18 : (Cond.instanceMethod yX0_end) ∈ wAll := List.mem_append_right _ (List.mem_append_right _ (List.mem_append_right _ (List.mem_append_right _ (List.mem_append_right _ (List.mem_append_left _ (List.mem_of_getElem? (i := 18) rfl))))))
theorem m_5_19 : (Cond.selects "GameGraph" yX0_end yX0_end) ∈ wAll := List.mem_append_right _ (List.mem_append_right _ (List.mem_append_right _ (List.mem_append_right _ (List.mem_append_right _ (List.mem_append_left _ (List.mem_of_getElem? (i := 19) rfl))))))
theorem m_5_20 : (Cond.code yX0_end prog_1_method_3_code 4 (Option.none : Option FieldType)) ∈ wAll := List.mem_append_right _ (List.mem_append_right _ (List.mem_append_right _ (List.mem_append_right _ (List.mem_append_right _ (List.mem_append_left _ (List.mem_of_getElem? (i := 20) rfl))))))
theorem m_5_21 : (Cond.methodLink "GameGraph" 47 yX0_requireState) ∈ wAll := List.mem_append_right _ (List.mem_append_right _ (List.mem_append_right _ (List.mem_append_right _ (List.mem_append_right _ (List.mem_append_left _ (List.mem_of_getElem? (i := 21) rfl))))))
theorem m_5_22 : (Cond.instanceMethod yX0_requireState) ∈ wAll := List.mem_append_right _ (List.mem_append_right _ (List.mem_append_right _ (List.mem_append_right _ (List.mem_append_right _ (List.mem_append_left _ (List.mem_of_getElem? (i := 22) rfl))))))
theorem m_5_23 : (Cond.code yX0_requireState prog_1_method_13_code 2 (Option.none : Option FieldType)) ∈ wAll := List.mem_append_right _ (List.mem_append_right _ (List.mem_append_right _ (List.mem_append_right _ (List.mem_append_right _ (List.mem_append_left _ (List.mem_of_getElem? (i := 23) rfl))))))
theorem m_5_24 : (Cond.methodLink "GameGraph" 112 yX0_hasState) ∈ wAll := List.mem_append_right _ (List.mem_append_right _ (List.mem_append_right _ (List.mem_append_right _ (List.mem_append_right _ (List.mem_append_left _ (List.mem_of_getElem? (i := 24) rfl))))))
theorem m_5_25 : (Cond.instanceMethod yX0_hasState) ∈ wAll := List.mem_append_right _ (List.mem_append_right _ (List.mem_append_right _ (List.mem_append_right _ (List.mem_append_right _ (List.mem_append_left _ (List.mem_of_getElem? (i := 25) rfl))))))
theorem m_5_26 : (Cond.code yX0_hasState prog_1_method_12_code 2 (Option.some FieldType.boolean)) ∈ wAll := List.mem_append_right _ (List.mem_append_right _ (List.mem_append_right _ (List.mem_append_right _ (List.mem_append_right _ (List.mem_append_left _ (List.mem_of_getElem? (i := 26) rfl))))))
theorem m_5_27 : (Cond.classLink "GameGraph" 115 "java/lang/IndexOutOfBoundsException") ∈ wAll := List.mem_append_right _ (List.mem_append_right _ (List.mem_append_right _ (List.mem_append_right _ (List.mem_append_right _ (List.mem_append_left _ (List.mem_of_getElem? (i := 27) rfl))))))
theorem m_5_28 : (Cond.instantiable "java/lang/IndexOutOfBoundsException" 6) ∈ wAll := List.mem_append_right _ (List.mem_append_right _ (List.mem_append_right _ (List.mem_append_right _ (List.mem_append_right _ (List.mem_append_left _ (List.mem_of_getElem? (i := 28) rfl))))))
theorem m_5_29 : (Cond.selects "java/lang/IndexOutOfBoundsException" yT_fillInStackTraceI yT_fillInStackTraceI) ∈ wAll := List.mem_append_right _ (List.mem_append_right _ (List.mem_append_right _ (List.mem_append_right _ (List.mem_append_right _ (List.mem_append_left _ (List.mem_of_getElem? (i := 29) rfl))))))
theorem m_5_30 : (Cond.lays "java/lang/IndexOutOfBoundsException" "java/lang/Throwable" "cause" "Ljava/lang/Throwable;") ∈ wAll := List.mem_append_right _ (List.mem_append_right _ (List.mem_append_right _ (List.mem_append_right _ (List.mem_append_right _ (List.mem_append_left _ (List.mem_of_getElem? (i := 30) rfl))))))
theorem m_5_31 : (Cond.lays "java/lang/IndexOutOfBoundsException" "java/lang/Throwable" "stackTrace" "[Ljava/lang/StackTraceElement;") ∈ wAll := List.mem_append_right _ (List.mem_append_right _ (List.mem_append_right _ (List.mem_append_right _ (List.mem_append_right _ (List.mem_append_left _ (List.mem_of_getElem? (i := 31) rfl))))))
theorem m_5_32 : (Cond.lays "java/lang/IndexOutOfBoundsException" "java/lang/Throwable" "suppressedExceptions" "Ljava/util/List;") ∈ wAll := List.mem_append_right _ (List.mem_append_right _ (List.mem_append_right _ (List.mem_append_right _ (List.mem_append_right _ (List.mem_append_left _ (List.mem_of_getElem? (i := 32) rfl))))))
theorem m_5_33 : (Cond.lays "java/lang/IndexOutOfBoundsException" "java/lang/Throwable" "detailMessage" "Ljava/lang/String;") ∈ wAll := List.mem_append_right _ (List.mem_append_right _ (List.mem_append_right _ (List.mem_append_right _ (List.mem_append_right _ (List.mem_append_left _ (List.mem_of_getElem? (i := 33) rfl))))))
theorem m_5_34 : (Cond.lays "java/lang/IndexOutOfBoundsException" "java/lang/Throwable" "backtrace" "Ljava/lang/Object;") ∈ wAll := List.mem_append_right _ (List.mem_append_right _ (List.mem_append_right _ (List.mem_append_right _ (List.mem_append_right _ (List.mem_append_left _ (List.mem_of_getElem? (i := 34) rfl))))))
theorem m_5_35 : (Cond.methodLink "GameGraph" 119 yEI_initS) ∈ wAll := List.mem_append_right _ (List.mem_append_right _ (List.mem_append_right _ (List.mem_append_right _ (List.mem_append_right _ (List.mem_append_left _ (List.mem_of_getElem? (i := 35) rfl))))))
theorem m_5_36 : (Cond.instanceMethod yEI_initS) ∈ wAll := List.mem_append_right _ (List.mem_append_right _ (List.mem_append_right _ (List.mem_append_right _ (List.mem_append_right _ (List.mem_append_left _ (List.mem_of_getElem? (i := 36) rfl))))))
theorem m_5_37 : (Cond.code yEI_initS prog_7_method_2_code 2 (Option.none : Option FieldType)) ∈ wAll := List.mem_append_right _ (List.mem_append_right _ (List.mem_append_right _ (List.mem_append_right _ (List.mem_append_right _ (List.mem_append_left _ (List.mem_of_getElem? (i := 37) rfl))))))
theorem m_5_38 : (Cond.methodLink "java/lang/IndexOutOfBoundsException" 7 yER_initS) ∈ wAll := List.mem_append_right _ (List.mem_append_right _ (List.mem_append_right _ (List.mem_append_right _ (List.mem_append_right _ (List.mem_append_left _ (List.mem_of_getElem? (i := 38) rfl))))))
theorem m_5_39 : (Cond.lays "java/lang/IndexOutOfBoundsException" "java/lang/Throwable" "depth" "I") ∈ wAll := List.mem_append_right _ (List.mem_append_right _ (List.mem_append_right _ (List.mem_append_right _ (List.mem_append_right _ (List.mem_append_left _ (List.mem_of_getElem? (i := 39) rfl))))))
theorem m_6_0 : (Cond.superclass "java/lang/IndexOutOfBoundsException" "java/lang/RuntimeException") ∈ wAll := List.mem_append_right _ (List.mem_append_right _ (List.mem_append_right _ (List.mem_append_right _ (List.mem_append_right _ (List.mem_append_right _ (List.mem_append_left _ (List.mem_of_getElem? (i := 0) rfl)))))))
theorem m_6_1 : (Cond.methodLink "GameGraph" 50 yX0_isGoal) ∈ wAll := List.mem_append_right _ (List.mem_append_right _ (List.mem_append_right _ (List.mem_append_right _ (List.mem_append_right _ (List.mem_append_right _ (List.mem_append_left _ (List.mem_of_getElem? (i := 1) rfl)))))))
theorem m_6_2 : (Cond.static yX0_isGoal) ∈ wAll := List.mem_append_right _ (List.mem_append_right _ (List.mem_append_right _ (List.mem_append_right _ (List.mem_append_right _ (List.mem_append_right _ (List.mem_append_left _ (List.mem_of_getElem? (i := 2) rfl)))))))
theorem m_6_3 : (Cond.code yX0_isGoal prog_1_method_16_code 1 (Option.some FieldType.boolean)) ∈ wAll := List.mem_append_right _ (List.mem_append_right _ (List.mem_append_right _ (List.mem_append_right _ (List.mem_append_right _ (List.mem_append_right _ (List.mem_append_left _ (List.mem_of_getElem? (i := 3) rfl)))))))
theorem m_6_4 : (Cond.methodLink "GameGraphLaw" 64 yL_open) ∈ wAll := List.mem_append_right _ (List.mem_append_right _ (List.mem_append_right _ (List.mem_append_right _ (List.mem_append_right _ (List.mem_append_right _ (List.mem_append_left _ (List.mem_of_getElem? (i := 4) rfl)))))))
theorem m_6_5 : (Cond.static yL_open) ∈ wAll := List.mem_append_right _ (List.mem_append_right _ (List.mem_append_right _ (List.mem_append_right _ (List.mem_append_right _ (List.mem_append_right _ (List.mem_append_left _ (List.mem_of_getElem? (i := 5) rfl)))))))
theorem m_6_6 : (Cond.codeWith yL_open method_5_code 5 (Option.some FieldType.int) [(0, 7, 10, 19), (0, 7, 14, 13)]) ∈ wAll := List.mem_append_right _ (List.mem_append_right _ (List.mem_append_right _ (List.mem_append_right _ (List.mem_append_right _ (List.mem_append_right _ (List.mem_append_left _ (List.mem_of_getElem? (i := 6) rfl)))))))
theorem m_6_7 : (Cond.methodLink "GameGraphLaw" 21 yX0_open) ∈ wAll := List.mem_append_right _ (List.mem_append_right _ (List.mem_append_right _ (List.mem_append_right _ (List.mem_append_right _ (List.mem_append_right _ (List.mem_append_left _ (List.mem_of_getElem? (i := 7) rfl)))))))
theorem m_6_8 : (Cond.instanceMethod yX0_open) ∈ wAll := List.mem_append_right _ (List.mem_append_right _ (List.mem_append_right _ (List.mem_append_right _ (List.mem_append_right _ (List.mem_append_right _ (List.mem_append_left _ (List.mem_of_getElem? (i := 8) rfl)))))))
theorem m_6_9 : (Cond.selects "GameGraph" yX0_open yX0_open) ∈ wAll := List.mem_append_right _ (List.mem_append_right _ (List.mem_append_right _ (List.mem_append_right _ (List.mem_append_right _ (List.mem_append_right _ (List.mem_append_left _ (List.mem_of_getElem? (i := 9) rfl)))))))
theorem m_6_10 : (Cond.code yX0_open prog_1_method_4_code 4 (Option.none : Option FieldType)) ∈ wAll := List.mem_append_right _ (List.mem_append_right _ (List.mem_append_right _ (List.mem_append_right _ (List.mem_append_right _ (List.mem_append_right _ (List.mem_append_left _ (List.mem_of_getElem? (i := 10) rfl)))))))
theorem m_6_11 : (Cond.methodLink "GameGraph" 60 yX0_isNumberOfMoves) ∈ wAll := List.mem_append_right _ (List.mem_append_right _ (List.mem_append_right _ (List.mem_append_right _ (List.mem_append_right _ (List.mem_append_right _ (List.mem_append_left _ (List.mem_of_getElem? (i := 11) rfl)))))))
theorem m_6_12 : (Cond.static yX0_isNumberOfMoves) ∈ wAll := List.mem_append_right _ (List.mem_append_right _ (List.mem_append_right _ (List.mem_append_right _ (List.mem_append_right _ (List.mem_append_right _ (List.mem_append_left _ (List.mem_of_getElem? (i := 12) rfl)))))))
theorem m_6_13 : (Cond.code yX0_isNumberOfMoves prog_1_method_17_code 1 (Option.some FieldType.boolean)) ∈ wAll := List.mem_append_right _ (List.mem_append_right _ (List.mem_append_right _ (List.mem_append_right _ (List.mem_append_right _ (List.mem_append_right _ (List.mem_append_left _ (List.mem_of_getElem? (i := 13) rfl)))))))
theorem m_6_14 : (Cond.methodLink "GameGraphLaw" 67 yL_link) ∈ wAll := List.mem_append_right _ (List.mem_append_right _ (List.mem_append_right _ (List.mem_append_right _ (List.mem_append_right _ (List.mem_append_right _ (List.mem_append_left _ (List.mem_of_getElem? (i := 14) rfl)))))))
theorem m_6_15 : (Cond.static yL_link) ∈ wAll := List.mem_append_right _ (List.mem_append_right _ (List.mem_append_right _ (List.mem_append_right _ (List.mem_append_right _ (List.mem_append_right _ (List.mem_append_left _ (List.mem_of_getElem? (i := 15) rfl)))))))
theorem m_6_16 : (Cond.codeWith yL_link method_6_code 5 (Option.some FieldType.int) [(0, 7, 10, 19)]) ∈ wAll := List.mem_append_right _ (List.mem_append_right _ (List.mem_append_right _ (List.mem_append_right _ (List.mem_append_right _ (List.mem_append_right _ (List.mem_append_left _ (List.mem_of_getElem? (i := 16) rfl)))))))
theorem m_6_17 : (Cond.methodLink "GameGraphLaw" 24 yX0_link) ∈ wAll := List.mem_append_right _ (List.mem_append_right _ (List.mem_append_right _ (List.mem_append_right _ (List.mem_append_right _ (List.mem_append_right _ (List.mem_append_left _ (List.mem_of_getElem? (i := 17) rfl)))))))
theorem m_6_18 : (Cond.instanceMethod yX0_link) ∈ wAll := List.mem_append_right _ (List.mem_append_right _ (List.mem_append_right _ (List.mem_append_right _ (List.mem_append_right _ (List.mem_append_right _ (List.mem_append_left _ (List.mem_of_getElem? (i := 18) rfl)))))))
theorem m_6_19 : (Cond.selects "GameGraph" yX0_link yX0_link) ∈ wAll := List.mem_append_right _ (List.mem_append_right _ (List.mem_append_right _ (List.mem_append_right _ (List.mem_append_right _ (List.mem_append_right _ (List.mem_append_left _ (List.mem_of_getElem? (i := 19) rfl)))))))
theorem m_6_20 : (Cond.code yX0_link prog_1_method_5_code 4 (Option.none : Option FieldType)) ∈ wAll := List.mem_append_right _ (List.mem_append_right _ (List.mem_append_right _ (List.mem_append_right _ (List.mem_append_right _ (List.mem_append_right _ (List.mem_append_left _ (List.mem_of_getElem? (i := 20) rfl)))))))
theorem m_6_21 : (Cond.methodLink "GameGraph" 65 yX0_requireJointMove) ∈ wAll := List.mem_append_right _ (List.mem_append_right _ (List.mem_append_right _ (List.mem_append_right _ (List.mem_append_right _ (List.mem_append_right _ (List.mem_append_left _ (List.mem_of_getElem? (i := 21) rfl)))))))
theorem m_6_22 : (Cond.instanceMethod yX0_requireJointMove) ∈ wAll := List.mem_append_right _ (List.mem_append_right _ (List.mem_append_right _ (List.mem_append_right _ (List.mem_append_right _ (List.mem_append_right _ (List.mem_append_left _ (List.mem_of_getElem? (i := 22) rfl)))))))
theorem m_6_23 : (Cond.code yX0_requireJointMove prog_1_method_14_code 3 (Option.none : Option FieldType)) ∈ wAll := List.mem_append_right _ (List.mem_append_right _ (List.mem_append_right _ (List.mem_append_right _ (List.mem_append_right _ (List.mem_append_right _ (List.mem_append_left _ (List.mem_of_getElem? (i := 23) rfl)))))))
theorem m_6_24 : (Cond.methodLink "GameGraphLaw" 70 yL_next) ∈ wAll := List.mem_append_right _ (List.mem_append_right _ (List.mem_append_right _ (List.mem_append_right _ (List.mem_append_right _ (List.mem_append_right _ (List.mem_append_left _ (List.mem_of_getElem? (i := 24) rfl)))))))
theorem m_6_25 : (Cond.static yL_next) ∈ wAll := List.mem_append_right _ (List.mem_append_right _ (List.mem_append_right _ (List.mem_append_right _ (List.mem_append_right _ (List.mem_append_right _ (List.mem_append_left _ (List.mem_of_getElem? (i := 25) rfl)))))))
theorem m_6_26 : (Cond.codeWith yL_next method_7_code 5 (Option.some FieldType.int) [(0, 10, 13, 19)]) ∈ wAll := List.mem_append_right _ (List.mem_append_right _ (List.mem_append_right _ (List.mem_append_right _ (List.mem_append_right _ (List.mem_append_right _ (List.mem_append_left _ (List.mem_of_getElem? (i := 26) rfl)))))))
theorem m_6_27 : (Cond.methodLink "GameGraphLaw" 27 yX0_next) ∈ wAll := List.mem_append_right _ (List.mem_append_right _ (List.mem_append_right _ (List.mem_append_right _ (List.mem_append_right _ (List.mem_append_right _ (List.mem_append_left _ (List.mem_of_getElem? (i := 27) rfl)))))))
theorem m_6_28 : (Cond.instanceMethod yX0_next) ∈ wAll := List.mem_append_right _ (List.mem_append_right _ (List.mem_append_right _ (List.mem_append_right _ (List.mem_append_right _ (List.mem_append_right _ (List.mem_append_left _ (List.mem_of_getElem? (i := 28) rfl)))))))
theorem m_6_29 : (Cond.selects "GameGraph" yX0_next yX0_next) ∈ wAll := List.mem_append_right _ (List.mem_append_right _ (List.mem_append_right _ (List.mem_append_right _ (List.mem_append_right _ (List.mem_append_right _ (List.mem_append_left _ (List.mem_of_getElem? (i := 29) rfl)))))))
theorem m_6_30 : (Cond.code yX0_next prog_1_method_6_code 3 (Option.some FieldType.int)) ∈ wAll := List.mem_append_right _ (List.mem_append_right _ (List.mem_append_right _ (List.mem_append_right _ (List.mem_append_right _ (List.mem_append_right _ (List.mem_append_left _ (List.mem_of_getElem? (i := 30) rfl)))))))
theorem m_6_31 : (Cond.methodLink "GameGraphLaw" 78 yL_defect) ∈ wAll := List.mem_append_right _ (List.mem_append_right _ (List.mem_append_right _ (List.mem_append_right _ (List.mem_append_right _ (List.mem_append_right _ (List.mem_append_left _ (List.mem_of_getElem? (i := 31) rfl)))))))
theorem m_6_32 : (Cond.static yL_defect) ∈ wAll := List.mem_append_right _ (List.mem_append_right _ (List.mem_append_right _ (List.mem_append_right _ (List.mem_append_right _ (List.mem_append_right _ (List.mem_append_left _ (List.mem_of_getElem? (i := 32) rfl)))))))
theorem m_6_33 : (Cond.codeWith yL_defect method_8_code 4 (Option.some FieldType.int) [(0, 9, 12, 13)]) ∈ wAll := List.mem_append_right _ (List.mem_append_right _ (List.mem_append_right _ (List.mem_append_right _ (List.mem_append_right _ (List.mem_append_right _ (List.mem_append_left _ (List.mem_of_getElem? (i := 33) rfl)))))))
theorem m_6_34 : (Cond.methodLink "GameGraphLaw" 31 yX0_defect) ∈ wAll := List.mem_append_right _ (List.mem_append_right _ (List.mem_append_right _ (List.mem_append_right _ (List.mem_append_right _ (List.mem_append_right _ (List.mem_append_left _ (List.mem_of_getElem? (i := 34) rfl)))))))
theorem m_6_35 : (Cond.instanceMethod yX0_defect) ∈ wAll := List.mem_append_right _ (List.mem_append_right _ (List.mem_append_right _ (List.mem_append_right _ (List.mem_append_right _ (List.mem_append_right _ (List.mem_append_left _ (List.mem_of_getElem? (i := 35) rfl)))))))
theorem m_6_36 : (Cond.selects "GameGraph" yX0_defect yX0_defect) ∈ wAll := List.mem_append_right _ (List.mem_append_right _ (List.mem_append_right _ (List.mem_append_right _ (List.mem_append_right _ (List.mem_append_right _ (List.mem_append_left _ (List.mem_of_getElem? (i := 36) rfl)))))))
theorem m_6_37 : (Cond.code yX0_defect prog_1_method_8_code 2 (Option.some FieldType.int)) ∈ wAll := List.mem_append_right _ (List.mem_append_right _ (List.mem_append_right _ (List.mem_append_right _ (List.mem_append_right _ (List.mem_append_right _ (List.mem_append_left _ (List.mem_of_getElem? (i := 37) rfl)))))))
theorem m_6_38 : (Cond.methodLink "GameGraphLaw" 82 yL_value) ∈ wAll := List.mem_append_right _ (List.mem_append_right _ (List.mem_append_right _ (List.mem_append_right _ (List.mem_append_right _ (List.mem_append_right _ (List.mem_append_left _ (List.mem_of_getElem? (i := 38) rfl)))))))
theorem m_6_39 : (Cond.static yL_value) ∈ wAll := List.mem_append_right _ (List.mem_append_right _ (List.mem_append_right _ (List.mem_append_right _ (List.mem_append_right _ (List.mem_append_right _ (List.mem_append_left _ (List.mem_of_getElem? (i := 39) rfl)))))))
theorem m_7_0 : (Cond.codeWith yL_value method_9_code 4 (Option.some FieldType.int) [(0, 9, 12, 38), (0, 9, 15, 19)]) ∈ wAll := List.mem_append_right _ (List.mem_append_right _ (List.mem_append_right _ (List.mem_append_right _ (List.mem_append_right _ (List.mem_append_right _ (List.mem_append_right _ (List.mem_append_left _ (List.mem_of_getElem? (i := 0) rfl))))))))
theorem m_7_1 : (Cond.classLink "GameGraphLaw" 38 "java/lang/IllegalStateException") ∈ wAll := List.mem_append_right _ (List.mem_append_right _ (List.mem_append_right _ (List.mem_append_right _ (List.mem_append_right _ (List.mem_append_right _ (List.mem_append_right _ (List.mem_append_left _ (List.mem_of_getElem? (i := 1) rfl))))))))
theorem m_7_2 : (Cond.methodLink "GameGraphLaw" 35 yX0_value) ∈ wAll := List.mem_append_right _ (List.mem_append_right _ (List.mem_append_right _ (List.mem_append_right _ (List.mem_append_right _ (List.mem_append_right _ (List.mem_append_right _ (List.mem_append_left _ (List.mem_of_getElem? (i := 2) rfl))))))))
theorem m_7_3 : (Cond.instanceMethod yX0_value) ∈ wAll := List.mem_append_right _ (List.mem_append_right _ (List.mem_append_right _ (List.mem_append_right _ (List.mem_append_right _ (List.mem_append_right _ (List.mem_append_right _ (List.mem_append_left _ (List.mem_of_getElem? (i := 3) rfl))))))))
theorem m_7_4 : (Cond.selects "GameGraph" yX0_value yX0_value) ∈ wAll := List.mem_append_right _ (List.mem_append_right _ (List.mem_append_right _ (List.mem_append_right _ (List.mem_append_right _ (List.mem_append_right _ (List.mem_append_right _ (List.mem_append_left _ (List.mem_of_getElem? (i := 4) rfl))))))))
theorem m_7_5 : (Cond.code yX0_value prog_1_method_9_code 2 (Option.some FieldType.int)) ∈ wAll := List.mem_append_right _ (List.mem_append_right _ (List.mem_append_right _ (List.mem_append_right _ (List.mem_append_right _ (List.mem_append_right _ (List.mem_append_right _ (List.mem_append_left _ (List.mem_of_getElem? (i := 5) rfl))))))))
theorem m_7_6 : (Cond.methodLink "GameGraph" 99 yX0_requireValued) ∈ wAll := List.mem_append_right _ (List.mem_append_right _ (List.mem_append_right _ (List.mem_append_right _ (List.mem_append_right _ (List.mem_append_right _ (List.mem_append_right _ (List.mem_append_left _ (List.mem_of_getElem? (i := 6) rfl))))))))
theorem m_7_7 : (Cond.instanceMethod yX0_requireValued) ∈ wAll := List.mem_append_right _ (List.mem_append_right _ (List.mem_append_right _ (List.mem_append_right _ (List.mem_append_right _ (List.mem_append_right _ (List.mem_append_right _ (List.mem_append_left _ (List.mem_of_getElem? (i := 7) rfl))))))))
theorem m_7_8 : (Cond.code yX0_requireValued prog_1_method_15_code 2 (Option.none : Option FieldType)) ∈ wAll := List.mem_append_right _ (List.mem_append_right _ (List.mem_append_right _ (List.mem_append_right _ (List.mem_append_right _ (List.mem_append_right _ (List.mem_append_right _ (List.mem_append_left _ (List.mem_of_getElem? (i := 8) rfl))))))))
theorem m_7_9 : (Cond.classLink "GameGraph" 125 "java/lang/IllegalStateException") ∈ wAll := List.mem_append_right _ (List.mem_append_right _ (List.mem_append_right _ (List.mem_append_right _ (List.mem_append_right _ (List.mem_append_right _ (List.mem_append_right _ (List.mem_append_left _ (List.mem_of_getElem? (i := 9) rfl))))))))
theorem m_7_10 : (Cond.instantiable "java/lang/IllegalStateException" 6) ∈ wAll := List.mem_append_right _ (List.mem_append_right _ (List.mem_append_right _ (List.mem_append_right _ (List.mem_append_right _ (List.mem_append_right _ (List.mem_append_right _ (List.mem_append_left _ (List.mem_of_getElem? (i := 10) rfl))))))))
theorem m_7_11 : (Cond.selects "java/lang/IllegalStateException" yT_fillInStackTraceI yT_fillInStackTraceI) ∈ wAll := List.mem_append_right _ (List.mem_append_right _ (List.mem_append_right _ (List.mem_append_right _ (List.mem_append_right _ (List.mem_append_right _ (List.mem_append_right _ (List.mem_append_left _ (List.mem_of_getElem? (i := 11) rfl))))))))
theorem m_7_12 : (Cond.lays "java/lang/IllegalStateException" "java/lang/Throwable" "cause" "Ljava/lang/Throwable;") ∈ wAll := List.mem_append_right _ (List.mem_append_right _ (List.mem_append_right _ (List.mem_append_right _ (List.mem_append_right _ (List.mem_append_right _ (List.mem_append_right _ (List.mem_append_left _ (List.mem_of_getElem? (i := 12) rfl))))))))
theorem m_7_13 : (Cond.lays "java/lang/IllegalStateException" "java/lang/Throwable" "stackTrace" "[Ljava/lang/StackTraceElement;") ∈ wAll := List.mem_append_right _ (List.mem_append_right _ (List.mem_append_right _ (List.mem_append_right _ (List.mem_append_right _ (List.mem_append_right _ (List.mem_append_right _ (List.mem_append_left _ (List.mem_of_getElem? (i := 13) rfl))))))))
theorem m_7_14 : (Cond.lays "java/lang/IllegalStateException" "java/lang/Throwable" "suppressedExceptions" "Ljava/util/List;") ∈ wAll := List.mem_append_right _ (List.mem_append_right _ (List.mem_append_right _ (List.mem_append_right _ (List.mem_append_right _ (List.mem_append_right _ (List.mem_append_right _ (List.mem_append_left _ (List.mem_of_getElem? (i := 14) rfl))))))))
theorem m_7_15 : (Cond.lays "java/lang/IllegalStateException" "java/lang/Throwable" "detailMessage" "Ljava/lang/String;") ∈ wAll := List.mem_append_right _ (List.mem_append_right _ (List.mem_append_right _ (List.mem_append_right _ (List.mem_append_right _ (List.mem_append_right _ (List.mem_append_right _ (List.mem_append_left _ (List.mem_of_getElem? (i := 15) rfl))))))))
theorem m_7_16 : (Cond.lays "java/lang/IllegalStateException" "java/lang/Throwable" "backtrace" "Ljava/lang/Object;") ∈ wAll := List.mem_append_right _ (List.mem_append_right _ (List.mem_append_right _ (List.mem_append_right _ (List.mem_append_right _ (List.mem_append_right _ (List.mem_append_right _ (List.mem_append_left _ (List.mem_of_getElem? (i := 16) rfl))))))))
theorem m_7_17 : (Cond.methodLink "GameGraph" 129 yES_initS) ∈ wAll := List.mem_append_right _ (List.mem_append_right _ (List.mem_append_right _ (List.mem_append_right _ (List.mem_append_right _ (List.mem_append_right _ (List.mem_append_right _ (List.mem_append_left _ (List.mem_of_getElem? (i := 17) rfl))))))))
theorem m_7_18 : (Cond.instanceMethod yES_initS) ∈ wAll := List.mem_append_right _ (List.mem_append_right _ (List.mem_append_right _ (List.mem_append_right _ (List.mem_append_right _ (List.mem_append_right _ (List.mem_append_right _ (List.mem_append_left _ (List.mem_of_getElem? (i := 18) rfl))))))))
theorem m_7_19 : (Cond.code yES_initS prog_6_method_2_code 2 (Option.none : Option FieldType)) ∈ wAll := List.mem_append_right _ (List.mem_append_right _ (List.mem_append_right _ (List.mem_append_right _ (List.mem_append_right _ (List.mem_append_right _ (List.mem_append_right _ (List.mem_append_left _ (List.mem_of_getElem? (i := 19) rfl))))))))
theorem m_7_20 : (Cond.methodLink "java/lang/IllegalStateException" 7 yER_initS) ∈ wAll := List.mem_append_right _ (List.mem_append_right _ (List.mem_append_right _ (List.mem_append_right _ (List.mem_append_right _ (List.mem_append_right _ (List.mem_append_right _ (List.mem_append_left _ (List.mem_of_getElem? (i := 20) rfl))))))))
theorem m_7_21 : (Cond.lays "java/lang/IllegalStateException" "java/lang/Throwable" "depth" "I") ∈ wAll := List.mem_append_right _ (List.mem_append_right _ (List.mem_append_right _ (List.mem_append_right _ (List.mem_append_right _ (List.mem_append_right _ (List.mem_append_right _ (List.mem_append_left _ (List.mem_of_getElem? (i := 21) rfl))))))))
theorem m_7_22 : (Cond.superclass "java/lang/IllegalStateException" "java/lang/RuntimeException") ∈ wAll := List.mem_append_right _ (List.mem_append_right _ (List.mem_append_right _ (List.mem_append_right _ (List.mem_append_right _ (List.mem_append_right _ (List.mem_append_right _ (List.mem_append_left _ (List.mem_of_getElem? (i := 22) rfl))))))))
theorem m_7_23 : (Cond.methodLink "GameGraph" 102 yX0_findValue) ∈ wAll := List.mem_append_right _ (List.mem_append_right _ (List.mem_append_right _ (List.mem_append_right _ (List.mem_append_right _ (List.mem_append_right _ (List.mem_append_right _ (List.mem_append_left _ (List.mem_of_getElem? (i := 23) rfl))))))))
theorem m_7_24 : (Cond.instanceMethod yX0_findValue) ∈ wAll := List.mem_append_right _ (List.mem_append_right _ (List.mem_append_right _ (List.mem_append_right _ (List.mem_append_right _ (List.mem_append_right _ (List.mem_append_right _ (List.mem_append_left _ (List.mem_of_getElem? (i := 24) rfl))))))))
theorem m_7_25 : (Cond.code yX0_findValue prog_1_method_32_code 2 (Option.some FieldType.int)) ∈ wAll := List.mem_append_right _ (List.mem_append_right _ (List.mem_append_right _ (List.mem_append_right _ (List.mem_append_right _ (List.mem_append_right _ (List.mem_append_right _ (List.mem_append_left _ (List.mem_of_getElem? (i := 25) rfl))))))))
theorem m_7_26 : (Cond.methodLink "GameGraph" 163 yX0_search) ∈ wAll := List.mem_append_right _ (List.mem_append_right _ (List.mem_append_right _ (List.mem_append_right _ (List.mem_append_right _ (List.mem_append_right _ (List.mem_append_right _ (List.mem_append_left _ (List.mem_of_getElem? (i := 26) rfl))))))))
theorem m_7_27 : (Cond.instanceMethod yX0_search) ∈ wAll := List.mem_append_right _ (List.mem_append_right _ (List.mem_append_right _ (List.mem_append_right _ (List.mem_append_right _ (List.mem_append_right _ (List.mem_append_right _ (List.mem_append_left _ (List.mem_of_getElem? (i := 27) rfl))))))))
theorem m_7_28 : (Cond.code yX0_search prog_1_method_34_code 6 (Option.some FieldType.int)) ∈ wAll := List.mem_append_right _ (List.mem_append_right _ (List.mem_append_right _ (List.mem_append_right _ (List.mem_append_right _ (List.mem_append_right _ (List.mem_append_right _ (List.mem_append_left _ (List.mem_of_getElem? (i := 28) rfl))))))))
theorem m_7_29 : (Cond.methodLink "GameGraph" 167 yX0_greatest) ∈ wAll := List.mem_append_right _ (List.mem_append_right _ (List.mem_append_right _ (List.mem_append_right _ (List.mem_append_right _ (List.mem_append_right _ (List.mem_append_right _ (List.mem_append_left _ (List.mem_of_getElem? (i := 29) rfl))))))))
theorem m_7_30 : (Cond.instanceMethod yX0_greatest) ∈ wAll := List.mem_append_right _ (List.mem_append_right _ (List.mem_append_right _ (List.mem_append_right _ (List.mem_append_right _ (List.mem_append_right _ (List.mem_append_right _ (List.mem_append_left _ (List.mem_of_getElem? (i := 30) rfl))))))))
theorem m_7_31 : (Cond.code yX0_greatest prog_1_method_35_code 8 (Option.some FieldType.int)) ∈ wAll := List.mem_append_right _ (List.mem_append_right _ (List.mem_append_right _ (List.mem_append_right _ (List.mem_append_right _ (List.mem_append_right _ (List.mem_append_right _ (List.mem_append_left _ (List.mem_of_getElem? (i := 31) rfl))))))))
theorem m_7_32 : (Cond.methodLink "GameGraph" 173 yM_max) ∈ wAll := List.mem_append_right _ (List.mem_append_right _ (List.mem_append_right _ (List.mem_append_right _ (List.mem_append_right _ (List.mem_append_right _ (List.mem_append_right _ (List.mem_append_left _ (List.mem_of_getElem? (i := 32) rfl))))))))
theorem m_7_33 : (Cond.static yM_max) ∈ wAll := List.mem_append_right _ (List.mem_append_right _ (List.mem_append_right _ (List.mem_append_right _ (List.mem_append_right _ (List.mem_append_right _ (List.mem_append_right _ (List.mem_append_left _ (List.mem_of_getElem? (i := 33) rfl))))))))
theorem m_7_34 : (Cond.code yM_max prog_9_method_65_code 2 (Option.some FieldType.int)) ∈ wAll := List.mem_append_right _ (List.mem_append_right _ (List.mem_append_right _ (List.mem_append_right _ (List.mem_append_right _ (List.mem_append_right _ (List.mem_append_right _ (List.mem_append_left _ (List.mem_of_getElem? (i := 34) rfl))))))))
theorem m_7_35 : (Cond.methodLink "GameGraph" 170 yX0_least) ∈ wAll := List.mem_append_right _ (List.mem_append_right _ (List.mem_append_right _ (List.mem_append_right _ (List.mem_append_right _ (List.mem_append_right _ (List.mem_append_right _ (List.mem_append_left _ (List.mem_of_getElem? (i := 35) rfl))))))))
theorem m_7_36 : (Cond.instanceMethod yX0_least) ∈ wAll := List.mem_append_right _ (List.mem_append_right _ (List.mem_append_right _ (List.mem_append_right _ (List.mem_append_right _ (List.mem_append_right _ (List.mem_append_right _ (List.mem_append_left _ (List.mem_of_getElem? (i := 36) rfl))))))))
theorem m_7_37 : (Cond.code yX0_least prog_1_method_36_code 8 (Option.some FieldType.int)) ∈ wAll := List.mem_append_right _ (List.mem_append_right _ (List.mem_append_right _ (List.mem_append_right _ (List.mem_append_right _ (List.mem_append_right _ (List.mem_append_right _ (List.mem_append_left _ (List.mem_of_getElem? (i := 37) rfl))))))))
theorem m_7_38 : (Cond.methodLink "GameGraph" 178 yM_min) ∈ wAll := List.mem_append_right _ (List.mem_append_right _ (List.mem_append_right _ (List.mem_append_right _ (List.mem_append_right _ (List.mem_append_right _ (List.mem_append_right _ (List.mem_append_left _ (List.mem_of_getElem? (i := 38) rfl))))))))
theorem m_7_39 : (Cond.static yM_min) ∈ wAll := List.mem_append_right _ (List.mem_append_right _ (List.mem_append_right _ (List.mem_append_right _ (List.mem_append_right _ (List.mem_append_right _ (List.mem_append_right _ (List.mem_append_left _ (List.mem_of_getElem? (i := 39) rfl))))))))
theorem m_8_0 : (Cond.code yM_min prog_9_method_69_code 2 (Option.some FieldType.int)) ∈ wAll := List.mem_append_right _ (List.mem_append_right _ (List.mem_append_right _ (List.mem_append_right _ (List.mem_append_right _ (List.mem_append_right _ (List.mem_append_right _ (List.mem_append_right _ (List.mem_append_left _ (List.mem_of_getElem? (i := 0) rfl)))))))))
theorem m_8_1 : (Cond.methodLink "GameGraphLaw" 85 yL_best) ∈ wAll := List.mem_append_right _ (List.mem_append_right _ (List.mem_append_right _ (List.mem_append_right _ (List.mem_append_right _ (List.mem_append_right _ (List.mem_append_right _ (List.mem_append_right _ (List.mem_append_left _ (List.mem_of_getElem? (i := 1) rfl)))))))))
theorem m_8_2 : (Cond.static yL_best) ∈ wAll := List.mem_append_right _ (List.mem_append_right _ (List.mem_append_right _ (List.mem_append_right _ (List.mem_append_right _ (List.mem_append_right _ (List.mem_append_right _ (List.mem_append_right _ (List.mem_append_left _ (List.mem_of_getElem? (i := 2) rfl)))))))))
theorem m_8_3 : (Cond.codeWith yL_best method_10_code 4 (Option.some FieldType.int) [(0, 9, 12, 38), (0, 9, 15, 19)]) ∈ wAll := List.mem_append_right _ (List.mem_append_right _ (List.mem_append_right _ (List.mem_append_right _ (List.mem_append_right _ (List.mem_append_right _ (List.mem_append_right _ (List.mem_append_right _ (List.mem_append_left _ (List.mem_of_getElem? (i := 3) rfl)))))))))
theorem m_8_4 : (Cond.methodLink "GameGraphLaw" 40 yX0_best) ∈ wAll := List.mem_append_right _ (List.mem_append_right _ (List.mem_append_right _ (List.mem_append_right _ (List.mem_append_right _ (List.mem_append_right _ (List.mem_append_right _ (List.mem_append_right _ (List.mem_append_left _ (List.mem_of_getElem? (i := 4) rfl)))))))))
theorem m_8_5 : (Cond.instanceMethod yX0_best) ∈ wAll := List.mem_append_right _ (List.mem_append_right _ (List.mem_append_right _ (List.mem_append_right _ (List.mem_append_right _ (List.mem_append_right _ (List.mem_append_right _ (List.mem_append_right _ (List.mem_append_left _ (List.mem_of_getElem? (i := 5) rfl)))))))))
theorem m_8_6 : (Cond.selects "GameGraph" yX0_best yX0_best) ∈ wAll := List.mem_append_right _ (List.mem_append_right _ (List.mem_append_right _ (List.mem_append_right _ (List.mem_append_right _ (List.mem_append_right _ (List.mem_append_right _ (List.mem_append_right _ (List.mem_append_left _ (List.mem_of_getElem? (i := 6) rfl)))))))))
theorem m_8_7 : (Cond.code yX0_best prog_1_method_10_code 2 (Option.some FieldType.int)) ∈ wAll := List.mem_append_right _ (List.mem_append_right _ (List.mem_append_right _ (List.mem_append_right _ (List.mem_append_right _ (List.mem_append_right _ (List.mem_append_right _ (List.mem_append_right _ (List.mem_append_left _ (List.mem_of_getElem? (i := 7) rfl)))))))))
theorem m_8_8 : (Cond.methodLink "GameGraph" 106 yX0_findBest) ∈ wAll := List.mem_append_right _ (List.mem_append_right _ (List.mem_append_right _ (List.mem_append_right _ (List.mem_append_right _ (List.mem_append_right _ (List.mem_append_right _ (List.mem_append_right _ (List.mem_append_left _ (List.mem_of_getElem? (i := 8) rfl)))))))))
theorem m_8_9 : (Cond.instanceMethod yX0_findBest) ∈ wAll := List.mem_append_right _ (List.mem_append_right _ (List.mem_append_right _ (List.mem_append_right _ (List.mem_append_right _ (List.mem_append_right _ (List.mem_append_right _ (List.mem_append_right _ (List.mem_append_left _ (List.mem_of_getElem? (i := 9) rfl)))))))))
theorem m_8_10 : (Cond.code yX0_findBest prog_1_method_33_code 5 (Option.some FieldType.int)) ∈ wAll := List.mem_append_right _ (List.mem_append_right _ (List.mem_append_right _ (List.mem_append_right _ (List.mem_append_right _ (List.mem_append_right _ (List.mem_append_right _ (List.mem_append_right _ (List.mem_append_left _ (List.mem_of_getElem? (i := 10) rfl)))))))))
theorem m_8_11 : (Cond.methodLink "GameGraphLaw" 88 yL_length) ∈ wAll := List.mem_append_right _ (List.mem_append_right _ (List.mem_append_right _ (List.mem_append_right _ (List.mem_append_right _ (List.mem_append_right _ (List.mem_append_right _ (List.mem_append_right _ (List.mem_append_left _ (List.mem_of_getElem? (i := 11) rfl)))))))))
theorem m_8_12 : (Cond.static yL_length) ∈ wAll := List.mem_append_right _ (List.mem_append_right _ (List.mem_append_right _ (List.mem_append_right _ (List.mem_append_right _ (List.mem_append_right _ (List.mem_append_right _ (List.mem_append_right _ (List.mem_append_left _ (List.mem_of_getElem? (i := 12) rfl)))))))))
theorem m_8_13 : (Cond.codeWith yL_length method_11_code 4 (Option.some FieldType.int) [(0, 9, 12, 38), (0, 9, 15, 19)]) ∈ wAll := List.mem_append_right _ (List.mem_append_right _ (List.mem_append_right _ (List.mem_append_right _ (List.mem_append_right _ (List.mem_append_right _ (List.mem_append_right _ (List.mem_append_right _ (List.mem_append_left _ (List.mem_of_getElem? (i := 13) rfl)))))))))
theorem m_8_14 : (Cond.methodLink "GameGraphLaw" 43 yX0_length) ∈ wAll := List.mem_append_right _ (List.mem_append_right _ (List.mem_append_right _ (List.mem_append_right _ (List.mem_append_right _ (List.mem_append_right _ (List.mem_append_right _ (List.mem_append_right _ (List.mem_append_left _ (List.mem_of_getElem? (i := 14) rfl)))))))))
theorem m_8_15 : (Cond.instanceMethod yX0_length) ∈ wAll := List.mem_append_right _ (List.mem_append_right _ (List.mem_append_right _ (List.mem_append_right _ (List.mem_append_right _ (List.mem_append_right _ (List.mem_append_right _ (List.mem_append_right _ (List.mem_append_left _ (List.mem_of_getElem? (i := 15) rfl)))))))))
theorem m_8_16 : (Cond.selects "GameGraph" yX0_length yX0_length) ∈ wAll := List.mem_append_right _ (List.mem_append_right _ (List.mem_append_right _ (List.mem_append_right _ (List.mem_append_right _ (List.mem_append_right _ (List.mem_append_right _ (List.mem_append_right _ (List.mem_append_left _ (List.mem_of_getElem? (i := 16) rfl)))))))))
theorem m_8_17 : (Cond.code yX0_length prog_1_method_11_code 2 (Option.some FieldType.int)) ∈ wAll := List.mem_append_right _ (List.mem_append_right _ (List.mem_append_right _ (List.mem_append_right _ (List.mem_append_right _ (List.mem_append_right _ (List.mem_append_right _ (List.mem_append_right _ (List.mem_append_left _ (List.mem_of_getElem? (i := 17) rfl)))))))))
theorem m_8_18 : (Cond.classLink "GameGraphLaw" 47 "GameGraphModel") ∈ wAll := List.mem_append_right _ (List.mem_append_right _ (List.mem_append_right _ (List.mem_append_right _ (List.mem_append_right _ (List.mem_append_right _ (List.mem_append_right _ (List.mem_append_right _ (List.mem_append_left _ (List.mem_of_getElem? (i := 18) rfl)))))))))
theorem m_8_19 : (Cond.instantiable "GameGraphModel" 13) ∈ wAll := List.mem_append_right _ (List.mem_append_right _ (List.mem_append_right _ (List.mem_append_right _ (List.mem_append_right _ (List.mem_append_right _ (List.mem_append_right _ (List.mem_append_right _ (List.mem_append_left _ (List.mem_of_getElem? (i := 19) rfl)))))))))
theorem m_8_20 : (Cond.methodLink "GameGraphLaw" 49 yX1_init) ∈ wAll := List.mem_append_right _ (List.mem_append_right _ (List.mem_append_right _ (List.mem_append_right _ (List.mem_append_right _ (List.mem_append_right _ (List.mem_append_right _ (List.mem_append_right _ (List.mem_append_left _ (List.mem_of_getElem? (i := 20) rfl)))))))))
theorem m_8_21 : (Cond.instanceMethod yX1_init) ∈ wAll := List.mem_append_right _ (List.mem_append_right _ (List.mem_append_right _ (List.mem_append_right _ (List.mem_append_right _ (List.mem_append_right _ (List.mem_append_right _ (List.mem_append_right _ (List.mem_append_left _ (List.mem_of_getElem? (i := 21) rfl)))))))))
theorem m_8_22 : (Cond.code yX1_init prog_3_method_1_code 1 (Option.none : Option FieldType)) ∈ wAll := List.mem_append_right _ (List.mem_append_right _ (List.mem_append_right _ (List.mem_append_right _ (List.mem_append_right _ (List.mem_append_right _ (List.mem_append_right _ (List.mem_append_right _ (List.mem_append_left _ (List.mem_of_getElem? (i := 22) rfl)))))))))
theorem m_8_23 : (Cond.methodLink "GameGraphModel" 1 yO_init) ∈ wAll := List.mem_append_right _ (List.mem_append_right _ (List.mem_append_right _ (List.mem_append_right _ (List.mem_append_right _ (List.mem_append_right _ (List.mem_append_right _ (List.mem_append_right _ (List.mem_append_left _ (List.mem_of_getElem? (i := 23) rfl)))))))))
theorem m_8_24 : (Cond.fieldLink "GameGraphModel" 7 "GameGraphModel" "states" "I") ∈ wAll := List.mem_append_right _ (List.mem_append_right _ (List.mem_append_right _ (List.mem_append_right _ (List.mem_append_right _ (List.mem_append_right _ (List.mem_append_right _ (List.mem_append_right _ (List.mem_append_left _ (List.mem_of_getElem? (i := 24) rfl)))))))))
theorem m_8_25 : (Cond.fieldLink "GameGraphModel" 13 "GameGraphModel" "open" "[Z") ∈ wAll := List.mem_append_right _ (List.mem_append_right _ (List.mem_append_right _ (List.mem_append_right _ (List.mem_append_right _ (List.mem_append_right _ (List.mem_append_right _ (List.mem_append_right _ (List.mem_append_left _ (List.mem_of_getElem? (i := 25) rfl)))))))))
theorem m_8_26 : (Cond.fieldLink "GameGraphModel" 17 "GameGraphModel" "goalOne" "[I") ∈ wAll := List.mem_append_right _ (List.mem_append_right _ (List.mem_append_right _ (List.mem_append_right _ (List.mem_append_right _ (List.mem_append_right _ (List.mem_append_right _ (List.mem_append_right _ (List.mem_append_left _ (List.mem_of_getElem? (i := 26) rfl)))))))))
theorem m_8_27 : (Cond.fieldLink "GameGraphModel" 21 "GameGraphModel" "goalTwo" "[I") ∈ wAll := List.mem_append_right _ (List.mem_append_right _ (List.mem_append_right _ (List.mem_append_right _ (List.mem_append_right _ (List.mem_append_right _ (List.mem_append_right _ (List.mem_append_right _ (List.mem_append_left _ (List.mem_of_getElem? (i := 27) rfl)))))))))
theorem m_8_28 : (Cond.fieldLink "GameGraphModel" 24 "GameGraphModel" "movesOne" "[I") ∈ wAll := List.mem_append_right _ (List.mem_append_right _ (List.mem_append_right _ (List.mem_append_right _ (List.mem_append_right _ (List.mem_append_right _ (List.mem_append_right _ (List.mem_append_right _ (List.mem_append_left _ (List.mem_of_getElem? (i := 28) rfl)))))))))
theorem m_8_29 : (Cond.fieldLink "GameGraphModel" 27 "GameGraphModel" "movesTwo" "[I") ∈ wAll := List.mem_append_right _ (List.mem_append_right _ (List.mem_append_right _ (List.mem_append_right _ (List.mem_append_right _ (List.mem_append_right _ (List.mem_append_right _ (List.mem_append_right _ (List.mem_append_left _ (List.mem_of_getElem? (i := 29) rfl)))))))))
theorem m_8_30 : (Cond.fieldLink "GameGraphModel" 30 "GameGraphModel" "goes" "[I") ∈ wAll := List.mem_append_right _ (List.mem_append_right _ (List.mem_append_right _ (List.mem_append_right _ (List.mem_append_right _ (List.mem_append_right _ (List.mem_append_right _ (List.mem_append_right _ (List.mem_append_left _ (List.mem_of_getElem? (i := 30) rfl)))))))))
theorem m_8_31 : (Cond.fieldLink "GameGraphModel" 33 "GameGraphModel" "reached" "[Z") ∈ wAll := List.mem_append_right _ (List.mem_append_right _ (List.mem_append_right _ (List.mem_append_right _ (List.mem_append_right _ (List.mem_append_right _ (List.mem_append_right _ (List.mem_append_right _ (List.mem_append_left _ (List.mem_of_getElem? (i := 31) rfl)))))))))
theorem m_8_32 : (Cond.fieldLink "GameGraphModel" 36 "GameGraphModel" "from" "[Z") ∈ wAll := List.mem_append_right _ (List.mem_append_right _ (List.mem_append_right _ (List.mem_append_right _ (List.mem_append_right _ (List.mem_append_right _ (List.mem_append_right _ (List.mem_append_right _ (List.mem_append_left _ (List.mem_of_getElem? (i := 32) rfl)))))))))
theorem m_8_33 : (Cond.fieldLink "GameGraphModel" 39 "GameGraphModel" "known" "[Z") ∈ wAll := List.mem_append_right _ (List.mem_append_right _ (List.mem_append_right _ (List.mem_append_right _ (List.mem_append_right _ (List.mem_append_right _ (List.mem_append_right _ (List.mem_append_right _ (List.mem_append_left _ (List.mem_of_getElem? (i := 33) rfl)))))))))
theorem m_8_34 : (Cond.fieldLink "GameGraphModel" 42 "GameGraphModel" "value" "[I") ∈ wAll := List.mem_append_right _ (List.mem_append_right _ (List.mem_append_right _ (List.mem_append_right _ (List.mem_append_right _ (List.mem_append_right _ (List.mem_append_right _ (List.mem_append_right _ (List.mem_append_left _ (List.mem_of_getElem? (i := 34) rfl)))))))))
theorem m_8_35 : (Cond.fieldLink "GameGraphModel" 45 "GameGraphModel" "length" "[I") ∈ wAll := List.mem_append_right _ (List.mem_append_right _ (List.mem_append_right _ (List.mem_append_right _ (List.mem_append_right _ (List.mem_append_right _ (List.mem_append_right _ (List.mem_append_right _ (List.mem_append_left _ (List.mem_of_getElem? (i := 35) rfl)))))))))
theorem m_8_36 : (Cond.fieldLink "GameGraphModel" 48 "GameGraphModel" "thrown" "I") ∈ wAll := List.mem_append_right _ (List.mem_append_right _ (List.mem_append_right _ (List.mem_append_right _ (List.mem_append_right _ (List.mem_append_right _ (List.mem_append_right _ (List.mem_append_right _ (List.mem_append_left _ (List.mem_of_getElem? (i := 36) rfl)))))))))
theorem m_8_37 : (Cond.lays "GameGraphModel" "GameGraphModel" "states" "I") ∈ wAll := List.mem_append_right _ (List.mem_append_right _ (List.mem_append_right _ (List.mem_append_right _ (List.mem_append_right _ (List.mem_append_right _ (List.mem_append_right _ (List.mem_append_right _ (List.mem_append_left _ (List.mem_of_getElem? (i := 37) rfl)))))))))
theorem m_8_38 : (Cond.soleField "GameGraphModel" "states") ∈ wAll := List.mem_append_right _ (List.mem_append_right _ (List.mem_append_right _ (List.mem_append_right _ (List.mem_append_right _ (List.mem_append_right _ (List.mem_append_right _ (List.mem_append_right _ (List.mem_append_left _ (List.mem_of_getElem? (i := 38) rfl)))))))))
theorem m_8_39 : (Cond.laysFinal "GameGraphModel" "GameGraphModel" "open" "[Z") ∈ wAll := List.mem_append_right _ (List.mem_append_right _ (List.mem_append_right _ (List.mem_append_right _ (List.mem_append_right _ (List.mem_append_right _ (List.mem_append_right _ (List.mem_append_right _ (List.mem_append_left _ (List.mem_of_getElem? (i := 39) rfl)))))))))
theorem m_9_0 : (Cond.soleField "GameGraphModel" "open") ∈ wAll := List.mem_append_right _ (List.mem_append_right _ (List.mem_append_right _ (List.mem_append_right _ (List.mem_append_right _ (List.mem_append_right _ (List.mem_append_right _ (List.mem_append_right _ (List.mem_append_right _ (List.mem_append_left _ (List.mem_of_getElem? (i := 0) rfl))))))))))
theorem m_9_1 : (Cond.laysFinal "GameGraphModel" "GameGraphModel" "goalOne" "[I") ∈ wAll := List.mem_append_right _ (List.mem_append_right _ (List.mem_append_right _ (List.mem_append_right _ (List.mem_append_right _ (List.mem_append_right _ (List.mem_append_right _ (List.mem_append_right _ (List.mem_append_right _ (List.mem_append_left _ (List.mem_of_getElem? (i := 1) rfl))))))))))
theorem m_9_2 : (Cond.soleField "GameGraphModel" "goalOne") ∈ wAll := List.mem_append_right _ (List.mem_append_right _ (List.mem_append_right _ (List.mem_append_right _ (List.mem_append_right _ (List.mem_append_right _ (List.mem_append_right _ (List.mem_append_right _ (List.mem_append_right _ (List.mem_append_left _ (List.mem_of_getElem? (i := 2) rfl))))))))))
theorem m_9_3 : (Cond.laysFinal "GameGraphModel" "GameGraphModel" "goalTwo" "[I") ∈ wAll := List.mem_append_right _ (List.mem_append_right _ (List.mem_append_right _ (List.mem_append_right _ (List.mem_append_right _ (List.mem_append_right _ (List.mem_append_right _ (List.mem_append_right _ (List.mem_append_right _ (List.mem_append_left _ (List.mem_of_getElem? (i := 3) rfl))))))))))
theorem m_9_4 : (Cond.soleField "GameGraphModel" "goalTwo") ∈ wAll := List.mem_append_right _ (List.mem_append_right _ (List.mem_append_right _ (List.mem_append_right _ (List.mem_append_right _ (List.mem_append_right _ (List.mem_append_right _ (List.mem_append_right _ (List.mem_append_right _ (List.mem_append_left _ (List.mem_of_getElem? (i := 4) rfl))))))))))
theorem m_9_5 : (Cond.laysFinal "GameGraphModel" "GameGraphModel" "movesOne" "[I") ∈ wAll := List.mem_append_right _ (List.mem_append_right _ (List.mem_append_right _ (List.mem_append_right _ (List.mem_append_right _ (List.mem_append_right _ (List.mem_append_right _ (List.mem_append_right _ (List.mem_append_right _ (List.mem_append_left _ (List.mem_of_getElem? (i := 5) rfl))))))))))
theorem m_9_6 : (Cond.soleField "GameGraphModel" "movesOne") ∈ wAll := List.mem_append_right _ (List.mem_append_right _ (List.mem_append_right _ (List.mem_append_right _ (List.mem_append_right _ (List.mem_append_right _ (List.mem_append_right _ (List.mem_append_right _ (List.mem_append_right _ (List.mem_append_left _ (List.mem_of_getElem? (i := 6) rfl))))))))))
theorem m_9_7 : (Cond.laysFinal "GameGraphModel" "GameGraphModel" "movesTwo" "[I") ∈ wAll := List.mem_append_right _ (List.mem_append_right _ (List.mem_append_right _ (List.mem_append_right _ (List.mem_append_right _ (List.mem_append_right _ (List.mem_append_right _ (List.mem_append_right _ (List.mem_append_right _ (List.mem_append_left _ (List.mem_of_getElem? (i := 7) rfl))))))))))
theorem m_9_8 : (Cond.soleField "GameGraphModel" "movesTwo") ∈ wAll := List.mem_append_right _ (List.mem_append_right _ (List.mem_append_right _ (List.mem_append_right _ (List.mem_append_right _ (List.mem_append_right _ (List.mem_append_right _ (List.mem_append_right _ (List.mem_append_right _ (List.mem_append_left _ (List.mem_of_getElem? (i := 8) rfl))))))))))
theorem m_9_9 : (Cond.laysFinal "GameGraphModel" "GameGraphModel" "goes" "[I") ∈ wAll := List.mem_append_right _ (List.mem_append_right _ (List.mem_append_right _ (List.mem_append_right _ (List.mem_append_right _ (List.mem_append_right _ (List.mem_append_right _ (List.mem_append_right _ (List.mem_append_right _ (List.mem_append_left _ (List.mem_of_getElem? (i := 9) rfl))))))))))
theorem m_9_10 : (Cond.soleField "GameGraphModel" "goes") ∈ wAll := List.mem_append_right _ (List.mem_append_right _ (List.mem_append_right _ (List.mem_append_right _ (List.mem_append_right _ (List.mem_append_right _ (List.mem_append_right _ (List.mem_append_right _ (List.mem_append_right _ (List.mem_append_left _ (List.mem_of_getElem? (i := 10) rfl))))))))))
theorem m_9_11 : (Cond.laysFinal "GameGraphModel" "GameGraphModel" "reached" "[Z") ∈ wAll := List.mem_append_right _ (List.mem_append_right _ (List.mem_append_right _ (List.mem_append_right _ (List.mem_append_right _ (List.mem_append_right _ (List.mem_append_right _ (List.mem_append_right _ (List.mem_append_right _ (List.mem_append_left _ (List.mem_of_getElem? (i := 11) rfl))))))))))
theorem m_9_12 : (Cond.soleField "GameGraphModel" "reached") ∈ wAll := List.mem_append_right _ (List.mem_append_right _ (List.mem_append_right _ (List.mem_append_right _ (List.mem_append_right _ (List.mem_append_right _ (List.mem_append_right _ (List.mem_append_right _ (List.mem_append_right _ (List.mem_append_left _ (List.mem_of_getElem? (i := 12) rfl))))))))))
theorem m_9_13 : (Cond.laysFinal "GameGraphModel" "GameGraphModel" "from" "[Z") ∈ wAll := List.mem_append_right _ (List.mem_append_right _ (List.mem_append_right _ (List.mem_append_right _ (List.mem_append_right _ (List.mem_append_right _ (List.mem_append_right _ (List.mem_append_right _ (List.mem_append_right _ (List.mem_append_left _ (List.mem_of_getElem? (i := 13) rfl))))))))))
theorem m_9_14 : (Cond.soleField "GameGraphModel" "from") ∈ wAll := List.mem_append_right _ (List.mem_append_right _ (List.mem_append_right _ (List.mem_append_right _ (List.mem_append_right _ (List.mem_append_right _ (List.mem_append_right _ (List.mem_append_right _ (List.mem_append_right _ (List.mem_append_left _ (List.mem_of_getElem? (i := 14) rfl))))))))))
theorem m_9_15 : (Cond.laysFinal "GameGraphModel" "GameGraphModel" "known" "[Z") ∈ wAll := List.mem_append_right _ (List.mem_append_right _ (List.mem_append_right _ (List.mem_append_right _ (List.mem_append_right _ (List.mem_append_right _ (List.mem_append_right _ (List.mem_append_right _ (List.mem_append_right _ (List.mem_append_left _ (List.mem_of_getElem? (i := 15) rfl))))))))))
theorem m_9_16 : (Cond.soleField "GameGraphModel" "known") ∈ wAll := List.mem_append_right _ (List.mem_append_right _ (List.mem_append_right _ (List.mem_append_right _ (List.mem_append_right _ (List.mem_append_right _ (List.mem_append_right _ (List.mem_append_right _ (List.mem_append_right _ (List.mem_append_left _ (List.mem_of_getElem? (i := 16) rfl))))))))))
theorem m_9_17 : (Cond.laysFinal "GameGraphModel" "GameGraphModel" "value" "[I") ∈ wAll := List.mem_append_right _ (List.mem_append_right _ (List.mem_append_right _ (List.mem_append_right _ (List.mem_append_right _ (List.mem_append_right _ (List.mem_append_right _ (List.mem_append_right _ (List.mem_append_right _ (List.mem_append_left _ (List.mem_of_getElem? (i := 17) rfl))))))))))
theorem m_9_18 : (Cond.soleField "GameGraphModel" "value") ∈ wAll := List.mem_append_right _ (List.mem_append_right _ (List.mem_append_right _ (List.mem_append_right _ (List.mem_append_right _ (List.mem_append_right _ (List.mem_append_right _ (List.mem_append_right _ (List.mem_append_right _ (List.mem_append_left _ (List.mem_of_getElem? (i := 18) rfl))))))))))
theorem m_9_19 : (Cond.laysFinal "GameGraphModel" "GameGraphModel" "length" "[I") ∈ wAll := List.mem_append_right _ (List.mem_append_right _ (List.mem_append_right _ (List.mem_append_right _ (List.mem_append_right _ (List.mem_append_right _ (List.mem_append_right _ (List.mem_append_right _ (List.mem_append_right _ (List.mem_append_left _ (List.mem_of_getElem? (i := 19) rfl))))))))))
theorem m_9_20 : (Cond.soleField "GameGraphModel" "length") ∈ wAll := List.mem_append_right _ (List.mem_append_right _ (List.mem_append_right _ (List.mem_append_right _ (List.mem_append_right _ (List.mem_append_right _ (List.mem_append_right _ (List.mem_append_right _ (List.mem_append_right _ (List.mem_append_left _ (List.mem_of_getElem? (i := 20) rfl))))))))))
theorem m_9_21 : (Cond.lays "GameGraphModel" "GameGraphModel" "thrown" "I") ∈ wAll := List.mem_append_right _ (List.mem_append_right _ (List.mem_append_right _ (List.mem_append_right _ (List.mem_append_right _ (List.mem_append_right _ (List.mem_append_right _ (List.mem_append_right _ (List.mem_append_right _ (List.mem_append_left _ (List.mem_of_getElem? (i := 21) rfl))))))))))
theorem m_9_22 : (Cond.soleField "GameGraphModel" "thrown") ∈ wAll := List.mem_append_right _ (List.mem_append_right _ (List.mem_append_right _ (List.mem_append_right _ (List.mem_append_right _ (List.mem_append_right _ (List.mem_append_right _ (List.mem_append_right _ (List.mem_append_right _ (List.mem_append_left _ (List.mem_of_getElem? (i := 22) rfl))))))))))
theorem m_9_23 : (Cond.superclass "GameGraphModel" "java/lang/Object") ∈ wAll := List.mem_append_right _ (List.mem_append_right _ (List.mem_append_right _ (List.mem_append_right _ (List.mem_append_right _ (List.mem_append_right _ (List.mem_append_right _ (List.mem_append_right _ (List.mem_append_right _ (List.mem_append_left _ (List.mem_of_getElem? (i := 23) rfl))))))))))
theorem m_9_24 : (Cond.methodLink "GameGraphLaw" 56 yX1_thrown) ∈ wAll := List.mem_append_right _ (List.mem_append_right _ (List.mem_append_right _ (List.mem_append_right _ (List.mem_append_right _ (List.mem_append_right _ (List.mem_append_right _ (List.mem_append_right _ (List.mem_append_right _ (List.mem_append_left _ (List.mem_of_getElem? (i := 24) rfl))))))))))
theorem m_9_25 : (Cond.instanceMethod yX1_thrown) ∈ wAll := List.mem_append_right _ (List.mem_append_right _ (List.mem_append_right _ (List.mem_append_right _ (List.mem_append_right _ (List.mem_append_right _ (List.mem_append_right _ (List.mem_append_right _ (List.mem_append_right _ (List.mem_append_left _ (List.mem_of_getElem? (i := 25) rfl))))))))))
theorem m_9_26 : (Cond.selects "GameGraphModel" yX1_thrown yX1_thrown) ∈ wAll := List.mem_append_right _ (List.mem_append_right _ (List.mem_append_right _ (List.mem_append_right _ (List.mem_append_right _ (List.mem_append_right _ (List.mem_append_right _ (List.mem_append_right _ (List.mem_append_right _ (List.mem_append_left _ (List.mem_of_getElem? (i := 26) rfl))))))))))
theorem m_9_27 : (Cond.code yX1_thrown prog_3_method_2_code 1 (Option.some FieldType.int)) ∈ wAll := List.mem_append_right _ (List.mem_append_right _ (List.mem_append_right _ (List.mem_append_right _ (List.mem_append_right _ (List.mem_append_right _ (List.mem_append_right _ (List.mem_append_right _ (List.mem_append_right _ (List.mem_append_left _ (List.mem_of_getElem? (i := 27) rfl))))))))))
theorem m_9_28 : (Cond.methodLink "GameGraphLaw" 55 yX1_states) ∈ wAll := List.mem_append_right _ (List.mem_append_right _ (List.mem_append_right _ (List.mem_append_right _ (List.mem_append_right _ (List.mem_append_right _ (List.mem_append_right _ (List.mem_append_right _ (List.mem_append_right _ (List.mem_append_left _ (List.mem_of_getElem? (i := 28) rfl))))))))))
theorem m_9_29 : (Cond.instanceMethod yX1_states) ∈ wAll := List.mem_append_right _ (List.mem_append_right _ (List.mem_append_right _ (List.mem_append_right _ (List.mem_append_right _ (List.mem_append_right _ (List.mem_append_right _ (List.mem_append_right _ (List.mem_append_right _ (List.mem_append_left _ (List.mem_of_getElem? (i := 29) rfl))))))))))
theorem m_9_30 : (Cond.selects "GameGraphModel" yX1_states yX1_states) ∈ wAll := List.mem_append_right _ (List.mem_append_right _ (List.mem_append_right _ (List.mem_append_right _ (List.mem_append_right _ (List.mem_append_right _ (List.mem_append_right _ (List.mem_append_right _ (List.mem_append_right _ (List.mem_append_left _ (List.mem_of_getElem? (i := 30) rfl))))))))))
theorem m_9_31 : (Cond.code yX1_states prog_3_method_3_code 3 (Option.none : Option FieldType)) ∈ wAll := List.mem_append_right _ (List.mem_append_right _ (List.mem_append_right _ (List.mem_append_right _ (List.mem_append_right _ (List.mem_append_right _ (List.mem_append_right _ (List.mem_append_right _ (List.mem_append_right _ (List.mem_append_left _ (List.mem_of_getElem? (i := 31) rfl))))))))))
theorem m_9_32 : (Cond.methodLink "GameGraphLaw" 63 yX1_end) ∈ wAll := List.mem_append_right _ (List.mem_append_right _ (List.mem_append_right _ (List.mem_append_right _ (List.mem_append_right _ (List.mem_append_right _ (List.mem_append_right _ (List.mem_append_right _ (List.mem_append_right _ (List.mem_append_left _ (List.mem_of_getElem? (i := 32) rfl))))))))))
theorem m_9_33 : (Cond.instanceMethod yX1_end) ∈ wAll := List.mem_append_right _ (List.mem_append_right _ (List.mem_append_right _ (List.mem_append_right _ (List.mem_append_right _ (List.mem_append_right _ (List.mem_append_right _ (List.mem_append_right _ (List.mem_append_right _ (List.mem_append_left _ (List.mem_of_getElem? (i := 33) rfl))))))))))
theorem m_9_34 : (Cond.selects "GameGraphModel" yX1_end yX1_end) ∈ wAll := List.mem_append_right _ (List.mem_append_right _ (List.mem_append_right _ (List.mem_append_right _ (List.mem_append_right _ (List.mem_append_right _ (List.mem_append_right _ (List.mem_append_right _ (List.mem_append_right _ (List.mem_append_left _ (List.mem_of_getElem? (i := 34) rfl))))))))))
theorem m_9_35 : (Cond.code yX1_end prog_3_method_5_code 4 (Option.none : Option FieldType)) ∈ wAll := List.mem_append_right _ (List.mem_append_right _ (List.mem_append_right _ (List.mem_append_right _ (List.mem_append_right _ (List.mem_append_right _ (List.mem_append_right _ (List.mem_append_right _ (List.mem_append_right _ (List.mem_append_left _ (List.mem_of_getElem? (i := 35) rfl))))))))))
theorem m_9_36 : (Cond.methodLink "GameGraphModel" 51 yX1_isState) ∈ wAll := List.mem_append_right _ (List.mem_append_right _ (List.mem_append_right _ (List.mem_append_right _ (List.mem_append_right _ (List.mem_append_right _ (List.mem_append_right _ (List.mem_append_right _ (List.mem_append_right _ (List.mem_append_left _ (List.mem_of_getElem? (i := 36) rfl))))))))))
theorem m_9_37 : (Cond.instanceMethod yX1_isState) ∈ wAll := List.mem_append_right _ (List.mem_append_right _ (List.mem_append_right _ (List.mem_append_right _ (List.mem_append_right _ (List.mem_append_right _ (List.mem_append_right _ (List.mem_append_right _ (List.mem_append_right _ (List.mem_append_left _ (List.mem_of_getElem? (i := 37) rfl))))))))))
theorem m_9_38 : (Cond.code yX1_isState prog_3_method_4_code 2 (Option.some FieldType.boolean)) ∈ wAll := List.mem_append_right _ (List.mem_append_right _ (List.mem_append_right _ (List.mem_append_right _ (List.mem_append_right _ (List.mem_append_right _ (List.mem_append_right _ (List.mem_append_right _ (List.mem_append_right _ (List.mem_append_left _ (List.mem_of_getElem? (i := 38) rfl))))))))))
theorem m_9_39 : (Cond.methodLink "GameGraphLaw" 66 yX1_open) ∈ wAll := List.mem_append_right _ (List.mem_append_right _ (List.mem_append_right _ (List.mem_append_right _ (List.mem_append_right _ (List.mem_append_right _ (List.mem_append_right _ (List.mem_append_right _ (List.mem_append_right _ (List.mem_append_left _ (List.mem_of_getElem? (i := 39) rfl))))))))))
theorem m_10_0 : (Cond.instanceMethod yX1_open) ∈ wAll := List.mem_append_right _ (List.mem_append_right _ (List.mem_append_right _ (List.mem_append_right _ (List.mem_append_right _ (List.mem_append_right _ (List.mem_append_right _ (List.mem_append_right _ (List.mem_append_right _ (List.mem_append_right _ (List.mem_append_left _ (List.mem_of_getElem? (i := 0) rfl)))))))))))
theorem m_10_1 : (Cond.selects "GameGraphModel" yX1_open yX1_open) ∈ wAll := List.mem_append_right _ (List.mem_append_right _ (List.mem_append_right _ (List.mem_append_right _ (List.mem_append_right _ (List.mem_append_right _ (List.mem_append_right _ (List.mem_append_right _ (List.mem_append_right _ (List.mem_append_right _ (List.mem_append_left _ (List.mem_of_getElem? (i := 1) rfl)))))))))))
theorem m_10_2 : (Cond.code yX1_open prog_3_method_7_code 5 (Option.none : Option FieldType)) ∈ wAll := List.mem_append_right _ (List.mem_append_right _ (List.mem_append_right _ (List.mem_append_right _ (List.mem_append_right _ (List.mem_append_right _ (List.mem_append_right _ (List.mem_append_right _ (List.mem_append_right _ (List.mem_append_right _ (List.mem_append_left _ (List.mem_of_getElem? (i := 2) rfl)))))))))))
theorem m_10_3 : (Cond.methodLink "GameGraphModel" 55 yX1_isMany) ∈ wAll := List.mem_append_right _ (List.mem_append_right _ (List.mem_append_right _ (List.mem_append_right _ (List.mem_append_right _ (List.mem_append_right _ (List.mem_append_right _ (List.mem_append_right _ (List.mem_append_right _ (List.mem_append_right _ (List.mem_append_left _ (List.mem_of_getElem? (i := 3) rfl)))))))))))
theorem m_10_4 : (Cond.static yX1_isMany) ∈ wAll := List.mem_append_right _ (List.mem_append_right _ (List.mem_append_right _ (List.mem_append_right _ (List.mem_append_right _ (List.mem_append_right _ (List.mem_append_right _ (List.mem_append_right _ (List.mem_append_right _ (List.mem_append_right _ (List.mem_append_left _ (List.mem_of_getElem? (i := 4) rfl)))))))))))
theorem m_10_5 : (Cond.code yX1_isMany prog_3_method_6_code 1 (Option.some FieldType.boolean)) ∈ wAll := List.mem_append_right _ (List.mem_append_right _ (List.mem_append_right _ (List.mem_append_right _ (List.mem_append_right _ (List.mem_append_right _ (List.mem_append_right _ (List.mem_append_right _ (List.mem_append_right _ (List.mem_append_right _ (List.mem_append_left _ (List.mem_of_getElem? (i := 5) rfl)))))))))))
theorem m_10_6 : (Cond.methodLink "GameGraphLaw" 69 yX1_link) ∈ wAll := List.mem_append_right _ (List.mem_append_right _ (List.mem_append_right _ (List.mem_append_right _ (List.mem_append_right _ (List.mem_append_right _ (List.mem_append_right _ (List.mem_append_right _ (List.mem_append_right _ (List.mem_append_right _ (List.mem_append_left _ (List.mem_of_getElem? (i := 6) rfl)))))))))))
theorem m_10_7 : (Cond.instanceMethod yX1_link) ∈ wAll := List.mem_append_right _ (List.mem_append_right _ (List.mem_append_right _ (List.mem_append_right _ (List.mem_append_right _ (List.mem_append_right _ (List.mem_append_right _ (List.mem_append_right _ (List.mem_append_right _ (List.mem_append_right _ (List.mem_append_left _ (List.mem_of_getElem? (i := 7) rfl)))))))))))
theorem m_10_8 : (Cond.selects "GameGraphModel" yX1_link yX1_link) ∈ wAll := List.mem_append_right _ (List.mem_append_right _ (List.mem_append_right _ (List.mem_append_right _ (List.mem_append_right _ (List.mem_append_right _ (List.mem_append_right _ (List.mem_append_right _ (List.mem_append_right _ (List.mem_append_right _ (List.mem_append_left _ (List.mem_of_getElem? (i := 8) rfl)))))))))))
theorem m_10_9 : (Cond.code yX1_link prog_3_method_10_code 4 (Option.none : Option FieldType)) ∈ wAll := List.mem_append_right _ (List.mem_append_right _ (List.mem_append_right _ (List.mem_append_right _ (List.mem_append_right _ (List.mem_append_right _ (List.mem_append_right _ (List.mem_append_right _ (List.mem_append_right _ (List.mem_append_right _ (List.mem_append_left _ (List.mem_of_getElem? (i := 9) rfl)))))))))))
theorem m_10_10 : (Cond.methodLink "GameGraphModel" 62 yX1_isJoint) ∈ wAll := List.mem_append_right _ (List.mem_append_right _ (List.mem_append_right _ (List.mem_append_right _ (List.mem_append_right _ (List.mem_append_right _ (List.mem_append_right _ (List.mem_append_right _ (List.mem_append_right _ (List.mem_append_right _ (List.mem_append_left _ (List.mem_of_getElem? (i := 10) rfl)))))))))))
theorem m_10_11 : (Cond.instanceMethod yX1_isJoint) ∈ wAll := List.mem_append_right _ (List.mem_append_right _ (List.mem_append_right _ (List.mem_append_right _ (List.mem_append_right _ (List.mem_append_right _ (List.mem_append_right _ (List.mem_append_right _ (List.mem_append_right _ (List.mem_append_right _ (List.mem_append_left _ (List.mem_of_getElem? (i := 11) rfl)))))))))))
theorem m_10_12 : (Cond.code yX1_isJoint prog_3_method_9_code 3 (Option.some FieldType.boolean)) ∈ wAll := List.mem_append_right _ (List.mem_append_right _ (List.mem_append_right _ (List.mem_append_right _ (List.mem_append_right _ (List.mem_append_right _ (List.mem_append_right _ (List.mem_append_right _ (List.mem_append_right _ (List.mem_append_right _ (List.mem_append_left _ (List.mem_of_getElem? (i := 12) rfl)))))))))))
theorem m_10_13 : (Cond.methodLink "GameGraphModel" 58 yX1_joint) ∈ wAll := List.mem_append_right _ (List.mem_append_right _ (List.mem_append_right _ (List.mem_append_right _ (List.mem_append_right _ (List.mem_append_right _ (List.mem_append_right _ (List.mem_append_right _ (List.mem_append_right _ (List.mem_append_right _ (List.mem_append_left _ (List.mem_of_getElem? (i := 13) rfl)))))))))))
theorem m_10_14 : (Cond.instanceMethod yX1_joint) ∈ wAll := List.mem_append_right _ (List.mem_append_right _ (List.mem_append_right _ (List.mem_append_right _ (List.mem_append_right _ (List.mem_append_right _ (List.mem_append_right _ (List.mem_append_right _ (List.mem_append_right _ (List.mem_append_right _ (List.mem_append_left _ (List.mem_of_getElem? (i := 14) rfl)))))))))))
theorem m_10_15 : (Cond.code yX1_joint prog_3_method_8_code 2 (Option.some FieldType.int)) ∈ wAll := List.mem_append_right _ (List.mem_append_right _ (List.mem_append_right _ (List.mem_append_right _ (List.mem_append_right _ (List.mem_append_right _ (List.mem_append_right _ (List.mem_append_right _ (List.mem_append_right _ (List.mem_append_right _ (List.mem_append_left _ (List.mem_of_getElem? (i := 15) rfl)))))))))))
theorem m_10_16 : (Cond.methodLink "GameGraphLaw" 73 yX1_next) ∈ wAll := List.mem_append_right _ (List.mem_append_right _ (List.mem_append_right _ (List.mem_append_right _ (List.mem_append_right _ (List.mem_append_right _ (List.mem_append_right _ (List.mem_append_right _ (List.mem_append_right _ (List.mem_append_right _ (List.mem_append_left _ (List.mem_of_getElem? (i := 16) rfl)))))))))))
theorem m_10_17 : (Cond.instanceMethod yX1_next) ∈ wAll := List.mem_append_right _ (List.mem_append_right _ (List.mem_append_right _ (List.mem_append_right _ (List.mem_append_right _ (List.mem_append_right _ (List.mem_append_right _ (List.mem_append_right _ (List.mem_append_right _ (List.mem_append_right _ (List.mem_append_left _ (List.mem_of_getElem? (i := 17) rfl)))))))))))
theorem m_10_18 : (Cond.selects "GameGraphModel" yX1_next yX1_next) ∈ wAll := List.mem_append_right _ (List.mem_append_right _ (List.mem_append_right _ (List.mem_append_right _ (List.mem_append_right _ (List.mem_append_right _ (List.mem_append_right _ (List.mem_append_right _ (List.mem_append_right _ (List.mem_append_right _ (List.mem_append_left _ (List.mem_of_getElem? (i := 18) rfl)))))))))))
theorem m_10_19 : (Cond.code yX1_next prog_3_method_11_code 3 (Option.some FieldType.int)) ∈ wAll := List.mem_append_right _ (List.mem_append_right _ (List.mem_append_right _ (List.mem_append_right _ (List.mem_append_right _ (List.mem_append_right _ (List.mem_append_right _ (List.mem_append_right _ (List.mem_append_right _ (List.mem_append_right _ (List.mem_append_left _ (List.mem_of_getElem? (i := 19) rfl)))))))))))
theorem m_10_20 : (Cond.methodLink "GameGraphLaw" 77 yX1_reached) ∈ wAll := List.mem_append_right _ (List.mem_append_right _ (List.mem_append_right _ (List.mem_append_right _ (List.mem_append_right _ (List.mem_append_right _ (List.mem_append_right _ (List.mem_append_right _ (List.mem_append_right _ (List.mem_append_right _ (List.mem_append_left _ (List.mem_of_getElem? (i := 20) rfl)))))))))))
theorem m_10_21 : (Cond.instanceMethod yX1_reached) ∈ wAll := List.mem_append_right _ (List.mem_append_right _ (List.mem_append_right _ (List.mem_append_right _ (List.mem_append_right _ (List.mem_append_right _ (List.mem_append_right _ (List.mem_append_right _ (List.mem_append_right _ (List.mem_append_right _ (List.mem_append_left _ (List.mem_of_getElem? (i := 21) rfl)))))))))))
theorem m_10_22 : (Cond.selects "GameGraphModel" yX1_reached yX1_reached) ∈ wAll := List.mem_append_right _ (List.mem_append_right _ (List.mem_append_right _ (List.mem_append_right _ (List.mem_append_right _ (List.mem_append_right _ (List.mem_append_right _ (List.mem_append_right _ (List.mem_append_right _ (List.mem_append_right _ (List.mem_append_left _ (List.mem_of_getElem? (i := 22) rfl)))))))))))
theorem m_10_23 : (Cond.code yX1_reached prog_3_method_14_code 3 (Option.some FieldType.int)) ∈ wAll := List.mem_append_right _ (List.mem_append_right _ (List.mem_append_right _ (List.mem_append_right _ (List.mem_append_right _ (List.mem_append_right _ (List.mem_append_right _ (List.mem_append_right _ (List.mem_append_right _ (List.mem_append_right _ (List.mem_append_left _ (List.mem_of_getElem? (i := 23) rfl)))))))))))
theorem m_10_24 : (Cond.methodLink "GameGraphModel" 70 yX1_reach) ∈ wAll := List.mem_append_right _ (List.mem_append_right _ (List.mem_append_right _ (List.mem_append_right _ (List.mem_append_right _ (List.mem_append_right _ (List.mem_append_right _ (List.mem_append_right _ (List.mem_append_right _ (List.mem_append_right _ (List.mem_append_left _ (List.mem_of_getElem? (i := 24) rfl)))))))))))
theorem m_10_25 : (Cond.instanceMethod yX1_reach) ∈ wAll := List.mem_append_right _ (List.mem_append_right _ (List.mem_append_right _ (List.mem_append_right _ (List.mem_append_right _ (List.mem_append_right _ (List.mem_append_right _ (List.mem_append_right _ (List.mem_append_right _ (List.mem_append_right _ (List.mem_append_left _ (List.mem_of_getElem? (i := 25) rfl)))))))))))
theorem m_10_26 : (Cond.code yX1_reach prog_3_method_13_code 2 (Option.none : Option FieldType)) ∈ wAll := List.mem_append_right _ (List.mem_append_right _ (List.mem_append_right _ (List.mem_append_right _ (List.mem_append_right _ (List.mem_append_right _ (List.mem_append_right _ (List.mem_append_right _ (List.mem_append_right _ (List.mem_append_right _ (List.mem_append_left _ (List.mem_of_getElem? (i := 26) rfl)))))))))))
theorem m_10_27 : (Cond.methodLink "GameGraphModel" 66 yX1_spread) ∈ wAll := List.mem_append_right _ (List.mem_append_right _ (List.mem_append_right _ (List.mem_append_right _ (List.mem_append_right _ (List.mem_append_right _ (List.mem_append_right _ (List.mem_append_right _ (List.mem_append_right _ (List.mem_append_right _ (List.mem_append_left _ (List.mem_of_getElem? (i := 27) rfl)))))))))))
theorem m_10_28 : (Cond.instanceMethod yX1_spread) ∈ wAll := List.mem_append_right _ (List.mem_append_right _ (List.mem_append_right _ (List.mem_append_right _ (List.mem_append_right _ (List.mem_append_right _ (List.mem_append_right _ (List.mem_append_right _ (List.mem_append_right _ (List.mem_append_right _ (List.mem_append_left _ (List.mem_of_getElem? (i := 28) rfl)))))))))))
theorem m_10_29 : (Cond.code yX1_spread prog_3_method_12_code 5 (Option.none : Option FieldType)) ∈ wAll := List.mem_append_right _ (List.mem_append_right _ (List.mem_append_right _ (List.mem_append_right _ (List.mem_append_right _ (List.mem_append_right _ (List.mem_append_right _ (List.mem_append_right _ (List.mem_append_right _ (List.mem_append_right _ (List.mem_append_left _ (List.mem_of_getElem? (i := 29) rfl)))))))))))
theorem m_10_30 : (Cond.methodLink "GameGraphLaw" 81 yX1_defect) ∈ wAll := List.mem_append_right _ (List.mem_append_right _ (List.mem_append_right _ (List.mem_append_right _ (List.mem_append_right _ (List.mem_append_right _ (List.mem_append_right _ (List.mem_append_right _ (List.mem_append_right _ (List.mem_append_right _ (List.mem_append_left _ (List.mem_of_getElem? (i := 30) rfl)))))))))))
theorem m_10_31 : (Cond.instanceMethod yX1_defect) ∈ wAll := List.mem_append_right _ (List.mem_append_right _ (List.mem_append_right _ (List.mem_append_right _ (List.mem_append_right _ (List.mem_append_right _ (List.mem_append_right _ (List.mem_append_right _ (List.mem_append_right _ (List.mem_append_right _ (List.mem_append_left _ (List.mem_of_getElem? (i := 31) rfl)))))))))))
theorem m_10_32 : (Cond.selects "GameGraphModel" yX1_defect yX1_defect) ∈ wAll := List.mem_append_right _ (List.mem_append_right _ (List.mem_append_right _ (List.mem_append_right _ (List.mem_append_right _ (List.mem_append_right _ (List.mem_append_right _ (List.mem_append_right _ (List.mem_append_right _ (List.mem_append_right _ (List.mem_append_left _ (List.mem_of_getElem? (i := 32) rfl)))))))))))
theorem m_10_33 : (Cond.code yX1_defect prog_3_method_18_code 3 (Option.some FieldType.int)) ∈ wAll := List.mem_append_right _ (List.mem_append_right _ (List.mem_append_right _ (List.mem_append_right _ (List.mem_append_right _ (List.mem_append_right _ (List.mem_append_right _ (List.mem_append_right _ (List.mem_append_right _ (List.mem_append_right _ (List.mem_append_left _ (List.mem_of_getElem? (i := 33) rfl)))))))))))
theorem m_10_34 : (Cond.methodLink "GameGraphModel" 79 yX1_defective) ∈ wAll := List.mem_append_right _ (List.mem_append_right _ (List.mem_append_right _ (List.mem_append_right _ (List.mem_append_right _ (List.mem_append_right _ (List.mem_append_right _ (List.mem_append_right _ (List.mem_append_right _ (List.mem_append_right _ (List.mem_append_left _ (List.mem_of_getElem? (i := 34) rfl)))))))))))
theorem m_10_35 : (Cond.instanceMethod yX1_defective) ∈ wAll := List.mem_append_right _ (List.mem_append_right _ (List.mem_append_right _ (List.mem_append_right _ (List.mem_append_right _ (List.mem_append_right _ (List.mem_append_right _ (List.mem_append_right _ (List.mem_append_right _ (List.mem_append_right _ (List.mem_append_left _ (List.mem_of_getElem? (i := 35) rfl)))))))))))
theorem m_10_36 : (Cond.code yX1_defective prog_3_method_17_code 2 (Option.some FieldType.int)) ∈ wAll := List.mem_append_right _ (List.mem_append_right _ (List.mem_append_right _ (List.mem_append_right _ (List.mem_append_right _ (List.mem_append_right _ (List.mem_append_right _ (List.mem_append_right _ (List.mem_append_right _ (List.mem_append_right _ (List.mem_append_left _ (List.mem_of_getElem? (i := 36) rfl)))))))))))
theorem m_10_37 : (Cond.methodLink "GameGraphModel" 73 yX1_own) ∈ wAll := List.mem_append_right _ (List.mem_append_right _ (List.mem_append_right _ (List.mem_append_right _ (List.mem_append_right _ (List.mem_append_right _ (List.mem_append_right _ (List.mem_append_right _ (List.mem_append_right _ (List.mem_append_right _ (List.mem_append_left _ (List.mem_of_getElem? (i := 37) rfl)))))))))))
theorem m_10_38 : (Cond.instanceMethod yX1_own) ∈ wAll := List.mem_append_right _ (List.mem_append_right _ (List.mem_append_right _ (List.mem_append_right _ (List.mem_append_right _ (List.mem_append_right _ (List.mem_append_right _ (List.mem_append_right _ (List.mem_append_right _ (List.mem_append_right _ (List.mem_append_left _ (List.mem_of_getElem? (i := 38) rfl)))))))))))
theorem m_10_39 : (Cond.code yX1_own prog_3_method_15_code 2 (Option.some FieldType.int)) ∈ wAll := List.mem_append_right _ (List.mem_append_right _ (List.mem_append_right _ (List.mem_append_right _ (List.mem_append_right _ (List.mem_append_right _ (List.mem_append_right _ (List.mem_append_right _ (List.mem_append_right _ (List.mem_append_right _ (List.mem_append_left _ (List.mem_of_getElem? (i := 39) rfl)))))))))))
theorem m_11_0 : (Cond.methodLink "GameGraphModel" 76 yX1_comesAgain) ∈ wAll := List.mem_append_right _ (List.mem_append_right _ (List.mem_append_right _ (List.mem_append_right _ (List.mem_append_right _ (List.mem_append_right _ (List.mem_append_right _ (List.mem_append_right _ (List.mem_append_right _ (List.mem_append_right _ (List.mem_append_right _ (List.mem_of_getElem? (i := 0) rfl)))))))))))
theorem m_11_1 : (Cond.instanceMethod yX1_comesAgain) ∈ wAll := List.mem_append_right _ (List.mem_append_right _ (List.mem_append_right _ (List.mem_append_right _ (List.mem_append_right _ (List.mem_append_right _ (List.mem_append_right _ (List.mem_append_right _ (List.mem_append_right _ (List.mem_append_right _ (List.mem_append_right _ (List.mem_of_getElem? (i := 1) rfl)))))))))))
theorem m_11_2 : (Cond.code yX1_comesAgain prog_3_method_16_code 3 (Option.some FieldType.boolean)) ∈ wAll := List.mem_append_right _ (List.mem_append_right _ (List.mem_append_right _ (List.mem_append_right _ (List.mem_append_right _ (List.mem_append_right _ (List.mem_append_right _ (List.mem_append_right _ (List.mem_append_right _ (List.mem_append_right _ (List.mem_append_right _ (List.mem_of_getElem? (i := 2) rfl)))))))))))
theorem m_11_3 : (Cond.methodLink "GameGraphLaw" 84 yX1_value) ∈ wAll := List.mem_append_right _ (List.mem_append_right _ (List.mem_append_right _ (List.mem_append_right _ (List.mem_append_right _ (List.mem_append_right _ (List.mem_append_right _ (List.mem_append_right _ (List.mem_append_right _ (List.mem_append_right _ (List.mem_append_right _ (List.mem_of_getElem? (i := 3) rfl)))))))))))
theorem m_11_4 : (Cond.instanceMethod yX1_value) ∈ wAll := List.mem_append_right _ (List.mem_append_right _ (List.mem_append_right _ (List.mem_append_right _ (List.mem_append_right _ (List.mem_append_right _ (List.mem_append_right _ (List.mem_append_right _ (List.mem_append_right _ (List.mem_append_right _ (List.mem_append_right _ (List.mem_of_getElem? (i := 4) rfl)))))))))))
theorem m_11_5 : (Cond.selects "GameGraphModel" yX1_value yX1_value) ∈ wAll := List.mem_append_right _ (List.mem_append_right _ (List.mem_append_right _ (List.mem_append_right _ (List.mem_append_right _ (List.mem_append_right _ (List.mem_append_right _ (List.mem_append_right _ (List.mem_append_right _ (List.mem_append_right _ (List.mem_append_right _ (List.mem_of_getElem? (i := 5) rfl)))))))))))
theorem m_11_6 : (Cond.code yX1_value prog_3_method_21_code 2 (Option.some FieldType.int)) ∈ wAll := List.mem_append_right _ (List.mem_append_right _ (List.mem_append_right _ (List.mem_append_right _ (List.mem_append_right _ (List.mem_append_right _ (List.mem_append_right _ (List.mem_append_right _ (List.mem_append_right _ (List.mem_append_right _ (List.mem_append_right _ (List.mem_of_getElem? (i := 6) rfl)))))))))))
theorem m_11_7 : (Cond.methodLink "GameGraphModel" 87 yX1_asked) ∈ wAll := List.mem_append_right _ (List.mem_append_right _ (List.mem_append_right _ (List.mem_append_right _ (List.mem_append_right _ (List.mem_append_right _ (List.mem_append_right _ (List.mem_append_right _ (List.mem_append_right _ (List.mem_append_right _ (List.mem_append_right _ (List.mem_of_getElem? (i := 7) rfl)))))))))))
theorem m_11_8 : (Cond.instanceMethod yX1_asked) ∈ wAll := List.mem_append_right _ (List.mem_append_right _ (List.mem_append_right _ (List.mem_append_right _ (List.mem_append_right _ (List.mem_append_right _ (List.mem_append_right _ (List.mem_append_right _ (List.mem_append_right _ (List.mem_append_right _ (List.mem_append_right _ (List.mem_of_getElem? (i := 8) rfl)))))))))))
theorem m_11_9 : (Cond.code yX1_asked prog_3_method_20_code 4 (Option.some FieldType.boolean)) ∈ wAll := List.mem_append_right _ (List.mem_append_right _ (List.mem_append_right _ (List.mem_append_right _ (List.mem_append_right _ (List.mem_append_right _ (List.mem_append_right _ (List.mem_append_right _ (List.mem_append_right _ (List.mem_append_right _ (List.mem_append_right _ (List.mem_of_getElem? (i := 9) rfl)))))))))))
theorem m_11_10 : (Cond.methodLink "GameGraphModel" 83 yX1_learn) ∈ wAll := List.mem_append_right _ (List.mem_append_right _ (List.mem_append_right _ (List.mem_append_right _ (List.mem_append_right _ (List.mem_append_right _ (List.mem_append_right _ (List.mem_append_right _ (List.mem_append_right _ (List.mem_append_right _ (List.mem_append_right _ (List.mem_of_getElem? (i := 10) rfl)))))))))))
theorem m_11_11 : (Cond.instanceMethod yX1_learn) ∈ wAll := List.mem_append_right _ (List.mem_append_right _ (List.mem_append_right _ (List.mem_append_right _ (List.mem_append_right _ (List.mem_append_right _ (List.mem_append_right _ (List.mem_append_right _ (List.mem_append_right _ (List.mem_append_right _ (List.mem_append_right _ (List.mem_of_getElem? (i := 11) rfl)))))))))))
theorem m_11_12 : (Cond.code yX1_learn prog_3_method_19_code 5 (Option.none : Option FieldType)) ∈ wAll := List.mem_append_right _ (List.mem_append_right _ (List.mem_append_right _ (List.mem_append_right _ (List.mem_append_right _ (List.mem_append_right _ (List.mem_append_right _ (List.mem_append_right _ (List.mem_append_right _ (List.mem_append_right _ (List.mem_append_right _ (List.mem_of_getElem? (i := 12) rfl)))))))))))
theorem m_11_13 : (Cond.methodLink "GameGraphLaw" 87 yX1_best) ∈ wAll := List.mem_append_right _ (List.mem_append_right _ (List.mem_append_right _ (List.mem_append_right _ (List.mem_append_right _ (List.mem_append_right _ (List.mem_append_right _ (List.mem_append_right _ (List.mem_append_right _ (List.mem_append_right _ (List.mem_append_right _ (List.mem_of_getElem? (i := 13) rfl)))))))))))
theorem m_11_14 : (Cond.instanceMethod yX1_best) ∈ wAll := List.mem_append_right _ (List.mem_append_right _ (List.mem_append_right _ (List.mem_append_right _ (List.mem_append_right _ (List.mem_append_right _ (List.mem_append_right _ (List.mem_append_right _ (List.mem_append_right _ (List.mem_append_right _ (List.mem_append_right _ (List.mem_of_getElem? (i := 14) rfl)))))))))))
theorem m_11_15 : (Cond.selects "GameGraphModel" yX1_best yX1_best) ∈ wAll := List.mem_append_right _ (List.mem_append_right _ (List.mem_append_right _ (List.mem_append_right _ (List.mem_append_right _ (List.mem_append_right _ (List.mem_append_right _ (List.mem_append_right _ (List.mem_append_right _ (List.mem_append_right _ (List.mem_append_right _ (List.mem_of_getElem? (i := 15) rfl)))))))))))
theorem m_11_16 : (Cond.code yX1_best prog_3_method_22_code 3 (Option.some FieldType.int)) ∈ wAll := List.mem_append_right _ (List.mem_append_right _ (List.mem_append_right _ (List.mem_append_right _ (List.mem_append_right _ (List.mem_append_right _ (List.mem_append_right _ (List.mem_append_right _ (List.mem_append_right _ (List.mem_append_right _ (List.mem_append_right _ (List.mem_of_getElem? (i := 16) rfl)))))))))))
theorem m_11_17 : (Cond.methodLink "GameGraphLaw" 90 yX1_length) ∈ wAll := List.mem_append_right _ (List.mem_append_right _ (List.mem_append_right _ (List.mem_append_right _ (List.mem_append_right _ (List.mem_append_right _ (List.mem_append_right _ (List.mem_append_right _ (List.mem_append_right _ (List.mem_append_right _ (List.mem_append_right _ (List.mem_of_getElem? (i := 17) rfl)))))))))))
theorem m_11_18 : (Cond.instanceMethod yX1_length) ∈ wAll := List.mem_append_right _ (List.mem_append_right _ (List.mem_append_right _ (List.mem_append_right _ (List.mem_append_right _ (List.mem_append_right _ (List.mem_append_right _ (List.mem_append_right _ (List.mem_append_right _ (List.mem_append_right _ (List.mem_append_right _ (List.mem_of_getElem? (i := 18) rfl)))))))))))
theorem m_11_19 : (Cond.selects "GameGraphModel" yX1_length yX1_length) ∈ wAll := List.mem_append_right _ (List.mem_append_right _ (List.mem_append_right _ (List.mem_append_right _ (List.mem_append_right _ (List.mem_append_right _ (List.mem_append_right _ (List.mem_append_right _ (List.mem_append_right _ (List.mem_append_right _ (List.mem_append_right _ (List.mem_of_getElem? (i := 19) rfl)))))))))))
theorem m_11_20 : (Cond.code yX1_length prog_3_method_23_code 2 (Option.some FieldType.int)) ∈ wAll := List.mem_append_right _ (List.mem_append_right _ (List.mem_append_right _ (List.mem_append_right _ (List.mem_append_right _ (List.mem_append_right _ (List.mem_append_right _ (List.mem_append_right _ (List.mem_append_right _ (List.mem_append_right _ (List.mem_append_right _ (List.mem_of_getElem? (i := 20) rfl)))))))))))
theorem m_11_21 : (Cond.sameMethod "java/lang/Throwable" "java/lang/Throwable" "fillInStackTrace" "(I)Ljava/lang/Throwable;") ∈ wAll := List.mem_append_right _ (List.mem_append_right _ (List.mem_append_right _ (List.mem_append_right _ (List.mem_append_right _ (List.mem_append_right _ (List.mem_append_right _ (List.mem_append_right _ (List.mem_append_right _ (List.mem_append_right _ (List.mem_append_right _ (List.mem_of_getElem? (i := 21) rfl)))))))))))
theorem in_X0 : ∀ w ∈ wsX00, w ∈ wAll := by decide +kernel
theorem in_X1 : ∀ w ∈ wsX10, w ∈ wAll := by decide +kernel
def wX0_init : List Cond := Cond.code yX0_init cX0_init 1 (Option.none : Option FieldType) :: wAll
theorem in_X0_init : ∀ w ∈ wX0_init, w ∈ wAll := List.forall_mem_cons.mpr ⟨m_1_8, fun _ h => h⟩
def wX0_makeEvenEnds : List Cond := Cond.code yX0_makeEvenEnds cX0_makeEvenEnds 3 (Option.none : Option FieldType) :: wAll
theorem in_X0_makeEvenEnds : ∀ w ∈ wX0_makeEvenEnds, w ∈ wAll := List.forall_mem_cons.mpr ⟨m_1_14, fun _ h => h⟩
def wX0_makeState : List Cond := Cond.code yX0_makeState cX0_makeState 6 (Option.none : Option FieldType) :: wAll
theorem in_X0_makeState : ∀ w ∈ wX0_makeState, w ∈ wAll := List.forall_mem_cons.mpr ⟨m_1_17, fun _ h => h⟩
def wX0_reached : List Cond := Cond.code yX0_reached cX0_reached 1 (Option.some FieldType.int) :: wAll
theorem in_X0_reached : ∀ w ∈ wX0_reached, w ∈ wAll := List.forall_mem_cons.mpr ⟨m_2_24, fun _ h => h⟩
def wX0_survey : List Cond := Cond.code yX0_survey cX0_survey 1 (Option.none : Option FieldType) :: wAll
theorem in_X0_survey : ∀ w ∈ wX0_survey, w ∈ wAll := List.forall_mem_cons.mpr ⟨m_2_27, fun _ h => h⟩
def wX0_findWhatStatesComeTo : List Cond := Cond.code yX0_findWhatStatesComeTo cX0_findWhatStatesComeTo 3 (Option.none : Option FieldType) :: wAll
theorem in_X0_findWhatStatesComeTo : ∀ w ∈ wX0_findWhatStatesComeTo, w ∈ wAll := List.forall_mem_cons.mpr ⟨m_2_30, fun _ h => h⟩
def wX0_goesTo : List Cond := Cond.code yX0_goesTo cX0_goesTo 6 (Option.some FieldType.long) :: wAll
theorem in_X0_goesTo : ∀ w ∈ wX0_goesTo, w ∈ wAll := List.forall_mem_cons.mpr ⟨m_2_33, fun _ h => h⟩
def wX0_jointMoves : List Cond := Cond.code yX0_jointMoves cX0_jointMoves 2 (Option.some FieldType.int) :: wAll
theorem in_X0_jointMoves : ∀ w ∈ wX0_jointMoves, w ∈ wAll := List.forall_mem_cons.mpr ⟨m_2_36, fun _ h => h⟩
def wX0_target : List Cond := Cond.code yX0_target cX0_target 3 (Option.some FieldType.int) :: wAll
theorem in_X0_target : ∀ w ∈ wX0_target, w ∈ wAll := List.forall_mem_cons.mpr ⟨m_2_39, fun _ h => h⟩
def wX0_contains : List Cond := Cond.code yX0_contains cX0_contains 3 (Option.some FieldType.boolean) :: wAll
theorem in_X0_contains : ∀ w ∈ wX0_contains, w ∈ wAll := List.forall_mem_cons.mpr ⟨m_3_2, fun _ h => h⟩
def wX0_findDefect : List Cond := Cond.code yX0_findDefect cX0_findDefect 2 (Option.none : Option FieldType) :: wAll
theorem in_X0_findDefect : ∀ w ∈ wX0_findDefect, w ∈ wAll := List.forall_mem_cons.mpr ⟨m_3_5, fun _ h => h⟩
def wX0_defectOfOpen : List Cond := Cond.code yX0_defectOfOpen cX0_defectOfOpen 2 (Option.some FieldType.int) :: wAll
theorem in_X0_defectOfOpen : ∀ w ∈ wX0_defectOfOpen, w ∈ wAll := List.forall_mem_cons.mpr ⟨m_3_8, fun _ h => h⟩
def wX0_defectOfEnd : List Cond := Cond.code yX0_defectOfEnd cX0_defectOfEnd 2 (Option.some FieldType.int) :: wAll
theorem in_X0_defectOfEnd : ∀ w ∈ wX0_defectOfEnd, w ∈ wAll := List.forall_mem_cons.mpr ⟨m_3_11, fun _ h => h⟩
def wX0_noteDefect : List Cond := Cond.code yX0_noteDefect cX0_noteDefect 3 (Option.none : Option FieldType) :: wAll
theorem in_X0_noteDefect : ∀ w ∈ wX0_noteDefect, w ∈ wAll := List.forall_mem_cons.mpr ⟨m_3_14, fun _ h => h⟩
def wX0_findLengths : List Cond := Cond.code yX0_findLengths cX0_findLengths 8 (Option.none : Option FieldType) :: wAll
theorem in_X0_findLengths : ∀ w ∈ wX0_findLengths, w ∈ wAll := List.forall_mem_cons.mpr ⟨m_3_17, fun _ h => h⟩
def wX0_boundValues : List Cond := Cond.code yX0_boundValues cX0_boundValues 2 (Option.none : Option FieldType) :: wAll
theorem in_X0_boundValues : ∀ w ∈ wX0_boundValues, w ∈ wAll := List.forall_mem_cons.mpr ⟨m_3_21, fun _ h => h⟩
def wJ_bitCount : List Cond := Cond.code yJ_bitCount cJ_bitCount 2 (Option.some FieldType.int) :: wAll
theorem in_J_bitCount : ∀ w ∈ wJ_bitCount, w ∈ wAll := List.forall_mem_cons.mpr ⟨m_3_24, fun _ h => h⟩
def wL_states : List Cond := Cond.codeWith yL_states cL_states 3 (Option.some FieldType.int) [(0, 5, 8, 13)] :: wAll
theorem in_L_states : ∀ w ∈ wL_states, w ∈ wAll := List.forall_mem_cons.mpr ⟨m_3_30, fun _ h => h⟩
def wX0_states : List Cond := Cond.code yX0_states cX0_states 2 (Option.none : Option FieldType) :: wAll
theorem in_X0_states : ∀ w ∈ wX0_states, w ∈ wAll := List.forall_mem_cons.mpr ⟨m_3_35, fun _ h => h⟩
def wL_end : List Cond := Cond.codeWith yL_end cL_end 5 (Option.some FieldType.int) [(0, 7, 10, 19), (0, 7, 14, 13)] :: wAll
theorem in_L_end : ∀ w ∈ wL_end, w ∈ wAll := List.forall_mem_cons.mpr ⟨m_5_15, fun _ h => h⟩
def wX0_end : List Cond := Cond.code yX0_end cX0_end 4 (Option.none : Option FieldType) :: wAll
theorem in_X0_end : ∀ w ∈ wX0_end, w ∈ wAll := List.forall_mem_cons.mpr ⟨m_5_20, fun _ h => h⟩
def wX0_requireState : List Cond := Cond.code yX0_requireState cX0_requireState 2 (Option.none : Option FieldType) :: wAll
theorem in_X0_requireState : ∀ w ∈ wX0_requireState, w ∈ wAll := List.forall_mem_cons.mpr ⟨m_5_23, fun _ h => h⟩
def wX0_hasState : List Cond := Cond.code yX0_hasState cX0_hasState 2 (Option.some FieldType.boolean) :: wAll
theorem in_X0_hasState : ∀ w ∈ wX0_hasState, w ∈ wAll := List.forall_mem_cons.mpr ⟨m_5_26, fun _ h => h⟩
def wX0_isGoal : List Cond := Cond.code yX0_isGoal cX0_isGoal 1 (Option.some FieldType.boolean) :: wAll
theorem in_X0_isGoal : ∀ w ∈ wX0_isGoal, w ∈ wAll := List.forall_mem_cons.mpr ⟨m_6_3, fun _ h => h⟩
def wL_open : List Cond := Cond.codeWith yL_open cL_open 5 (Option.some FieldType.int) [(0, 7, 10, 19), (0, 7, 14, 13)] :: wAll
theorem in_L_open : ∀ w ∈ wL_open, w ∈ wAll := List.forall_mem_cons.mpr ⟨m_6_6, fun _ h => h⟩
def wX0_open : List Cond := Cond.code yX0_open cX0_open 4 (Option.none : Option FieldType) :: wAll
theorem in_X0_open : ∀ w ∈ wX0_open, w ∈ wAll := List.forall_mem_cons.mpr ⟨m_6_10, fun _ h => h⟩
def wX0_isNumberOfMoves : List Cond := Cond.code yX0_isNumberOfMoves cX0_isNumberOfMoves 1 (Option.some FieldType.boolean) :: wAll
theorem in_X0_isNumberOfMoves : ∀ w ∈ wX0_isNumberOfMoves, w ∈ wAll := List.forall_mem_cons.mpr ⟨m_6_13, fun _ h => h⟩
def wL_link : List Cond := Cond.codeWith yL_link cL_link 5 (Option.some FieldType.int) [(0, 7, 10, 19)] :: wAll
theorem in_L_link : ∀ w ∈ wL_link, w ∈ wAll := List.forall_mem_cons.mpr ⟨m_6_16, fun _ h => h⟩
def wX0_link : List Cond := Cond.code yX0_link cX0_link 4 (Option.none : Option FieldType) :: wAll
theorem in_X0_link : ∀ w ∈ wX0_link, w ∈ wAll := List.forall_mem_cons.mpr ⟨m_6_20, fun _ h => h⟩
def wX0_requireJointMove : List Cond := Cond.code yX0_requireJointMove cX0_requireJointMove 3 (Option.none : Option FieldType) :: wAll
theorem in_X0_requireJointMove : ∀ w ∈ wX0_requireJointMove, w ∈ wAll := List.forall_mem_cons.mpr ⟨m_6_23, fun _ h => h⟩
def wL_next : List Cond := Cond.codeWith yL_next cL_next 5 (Option.some FieldType.int) [(0, 10, 13, 19)] :: wAll
theorem in_L_next : ∀ w ∈ wL_next, w ∈ wAll := List.forall_mem_cons.mpr ⟨m_6_26, fun _ h => h⟩
def wX0_next : List Cond := Cond.code yX0_next cX0_next 3 (Option.some FieldType.int) :: wAll
theorem in_X0_next : ∀ w ∈ wX0_next, w ∈ wAll := List.forall_mem_cons.mpr ⟨m_6_30, fun _ h => h⟩
def wL_defect : List Cond := Cond.codeWith yL_defect cL_defect 4 (Option.some FieldType.int) [(0, 9, 12, 13)] :: wAll
theorem in_L_defect : ∀ w ∈ wL_defect, w ∈ wAll := List.forall_mem_cons.mpr ⟨m_6_33, fun _ h => h⟩
def wX0_defect : List Cond := Cond.code yX0_defect cX0_defect 2 (Option.some FieldType.int) :: wAll
theorem in_X0_defect : ∀ w ∈ wX0_defect, w ∈ wAll := List.forall_mem_cons.mpr ⟨m_6_37, fun _ h => h⟩
def wL_value : List Cond := Cond.codeWith yL_value cL_value 4 (Option.some FieldType.int) [(0, 9, 12, 38), (0, 9, 15, 19)] :: wAll
theorem in_L_value : ∀ w ∈ wL_value, w ∈ wAll := List.forall_mem_cons.mpr ⟨m_7_0, fun _ h => h⟩
def wX0_value : List Cond := Cond.code yX0_value cX0_value 2 (Option.some FieldType.int) :: wAll
theorem in_X0_value : ∀ w ∈ wX0_value, w ∈ wAll := List.forall_mem_cons.mpr ⟨m_7_5, fun _ h => h⟩
def wX0_requireValued : List Cond := Cond.code yX0_requireValued cX0_requireValued 2 (Option.none : Option FieldType) :: wAll
theorem in_X0_requireValued : ∀ w ∈ wX0_requireValued, w ∈ wAll := List.forall_mem_cons.mpr ⟨m_7_8, fun _ h => h⟩
def wX0_findValue : List Cond := Cond.code yX0_findValue cX0_findValue 2 (Option.some FieldType.int) :: wAll
theorem in_X0_findValue : ∀ w ∈ wX0_findValue, w ∈ wAll := List.forall_mem_cons.mpr ⟨m_7_25, fun _ h => h⟩
def wX0_search : List Cond := Cond.code yX0_search cX0_search 6 (Option.some FieldType.int) :: wAll
theorem in_X0_search : ∀ w ∈ wX0_search, w ∈ wAll := List.forall_mem_cons.mpr ⟨m_7_28, fun _ h => h⟩
def wX0_greatest : List Cond := Cond.code yX0_greatest cX0_greatest 8 (Option.some FieldType.int) :: wAll
theorem in_X0_greatest : ∀ w ∈ wX0_greatest, w ∈ wAll := List.forall_mem_cons.mpr ⟨m_7_31, fun _ h => h⟩
def wX0_least : List Cond := Cond.code yX0_least cX0_least 8 (Option.some FieldType.int) :: wAll
theorem in_X0_least : ∀ w ∈ wX0_least, w ∈ wAll := List.forall_mem_cons.mpr ⟨m_7_37, fun _ h => h⟩
def wL_best : List Cond := Cond.codeWith yL_best cL_best 4 (Option.some FieldType.int) [(0, 9, 12, 38), (0, 9, 15, 19)] :: wAll
theorem in_L_best : ∀ w ∈ wL_best, w ∈ wAll := List.forall_mem_cons.mpr ⟨m_8_3, fun _ h => h⟩
def wX0_best : List Cond := Cond.code yX0_best cX0_best 2 (Option.some FieldType.int) :: wAll
theorem in_X0_best : ∀ w ∈ wX0_best, w ∈ wAll := List.forall_mem_cons.mpr ⟨m_8_7, fun _ h => h⟩
def wX0_findBest : List Cond := Cond.code yX0_findBest cX0_findBest 5 (Option.some FieldType.int) :: wAll
theorem in_X0_findBest : ∀ w ∈ wX0_findBest, w ∈ wAll := List.forall_mem_cons.mpr ⟨m_8_10, fun _ h => h⟩
def wL_length : List Cond := Cond.codeWith yL_length cL_length 4 (Option.some FieldType.int) [(0, 9, 12, 38), (0, 9, 15, 19)] :: wAll
theorem in_L_length : ∀ w ∈ wL_length, w ∈ wAll := List.forall_mem_cons.mpr ⟨m_8_13, fun _ h => h⟩
def wX0_length : List Cond := Cond.code yX0_length cX0_length 2 (Option.some FieldType.int) :: wAll
theorem in_X0_length : ∀ w ∈ wX0_length, w ∈ wAll := List.forall_mem_cons.mpr ⟨m_8_17, fun _ h => h⟩
def wX1_init : List Cond := Cond.code yX1_init cX1_init 1 (Option.none : Option FieldType) :: wAll
theorem in_X1_init : ∀ w ∈ wX1_init, w ∈ wAll := List.forall_mem_cons.mpr ⟨m_8_22, fun _ h => h⟩
def wX1_thrown : List Cond := Cond.code yX1_thrown cX1_thrown 1 (Option.some FieldType.int) :: wAll
theorem in_X1_thrown : ∀ w ∈ wX1_thrown, w ∈ wAll := List.forall_mem_cons.mpr ⟨m_9_27, fun _ h => h⟩
def wX1_states : List Cond := Cond.code yX1_states cX1_states 3 (Option.none : Option FieldType) :: wAll
theorem in_X1_states : ∀ w ∈ wX1_states, w ∈ wAll := List.forall_mem_cons.mpr ⟨m_9_31, fun _ h => h⟩
def wX1_end : List Cond := Cond.code yX1_end cX1_end 4 (Option.none : Option FieldType) :: wAll
theorem in_X1_end : ∀ w ∈ wX1_end, w ∈ wAll := List.forall_mem_cons.mpr ⟨m_9_35, fun _ h => h⟩
def wX1_isState : List Cond := Cond.code yX1_isState cX1_isState 2 (Option.some FieldType.boolean) :: wAll
theorem in_X1_isState : ∀ w ∈ wX1_isState, w ∈ wAll := List.forall_mem_cons.mpr ⟨m_9_38, fun _ h => h⟩
def wX1_open : List Cond := Cond.code yX1_open cX1_open 5 (Option.none : Option FieldType) :: wAll
theorem in_X1_open : ∀ w ∈ wX1_open, w ∈ wAll := List.forall_mem_cons.mpr ⟨m_10_2, fun _ h => h⟩
def wX1_isMany : List Cond := Cond.code yX1_isMany cX1_isMany 1 (Option.some FieldType.boolean) :: wAll
theorem in_X1_isMany : ∀ w ∈ wX1_isMany, w ∈ wAll := List.forall_mem_cons.mpr ⟨m_10_5, fun _ h => h⟩
def wX1_link : List Cond := Cond.code yX1_link cX1_link 4 (Option.none : Option FieldType) :: wAll
theorem in_X1_link : ∀ w ∈ wX1_link, w ∈ wAll := List.forall_mem_cons.mpr ⟨m_10_9, fun _ h => h⟩
def wX1_isJoint : List Cond := Cond.code yX1_isJoint cX1_isJoint 3 (Option.some FieldType.boolean) :: wAll
theorem in_X1_isJoint : ∀ w ∈ wX1_isJoint, w ∈ wAll := List.forall_mem_cons.mpr ⟨m_10_12, fun _ h => h⟩
def wX1_joint : List Cond := Cond.code yX1_joint cX1_joint 2 (Option.some FieldType.int) :: wAll
theorem in_X1_joint : ∀ w ∈ wX1_joint, w ∈ wAll := List.forall_mem_cons.mpr ⟨m_10_15, fun _ h => h⟩
def wX1_next : List Cond := Cond.code yX1_next cX1_next 3 (Option.some FieldType.int) :: wAll
theorem in_X1_next : ∀ w ∈ wX1_next, w ∈ wAll := List.forall_mem_cons.mpr ⟨m_10_19, fun _ h => h⟩
def wX1_reached : List Cond := Cond.code yX1_reached cX1_reached 3 (Option.some FieldType.int) :: wAll
theorem in_X1_reached : ∀ w ∈ wX1_reached, w ∈ wAll := List.forall_mem_cons.mpr ⟨m_10_23, fun _ h => h⟩
def wX1_reach : List Cond := Cond.code yX1_reach cX1_reach 2 (Option.none : Option FieldType) :: wAll
theorem in_X1_reach : ∀ w ∈ wX1_reach, w ∈ wAll := List.forall_mem_cons.mpr ⟨m_10_26, fun _ h => h⟩
def wX1_spread : List Cond := Cond.code yX1_spread cX1_spread 5 (Option.none : Option FieldType) :: wAll
theorem in_X1_spread : ∀ w ∈ wX1_spread, w ∈ wAll := List.forall_mem_cons.mpr ⟨m_10_29, fun _ h => h⟩
def wX1_defect : List Cond := Cond.code yX1_defect cX1_defect 3 (Option.some FieldType.int) :: wAll
theorem in_X1_defect : ∀ w ∈ wX1_defect, w ∈ wAll := List.forall_mem_cons.mpr ⟨m_10_33, fun _ h => h⟩
def wX1_defective : List Cond := Cond.code yX1_defective cX1_defective 2 (Option.some FieldType.int) :: wAll
theorem in_X1_defective : ∀ w ∈ wX1_defective, w ∈ wAll := List.forall_mem_cons.mpr ⟨m_10_36, fun _ h => h⟩
def wX1_own : List Cond := Cond.code yX1_own cX1_own 2 (Option.some FieldType.int) :: wAll
theorem in_X1_own : ∀ w ∈ wX1_own, w ∈ wAll := List.forall_mem_cons.mpr ⟨m_10_39, fun _ h => h⟩
def wX1_comesAgain : List Cond := Cond.code yX1_comesAgain cX1_comesAgain 3 (Option.some FieldType.boolean) :: wAll
theorem in_X1_comesAgain : ∀ w ∈ wX1_comesAgain, w ∈ wAll := List.forall_mem_cons.mpr ⟨m_11_2, fun _ h => h⟩
def wX1_value : List Cond := Cond.code yX1_value cX1_value 2 (Option.some FieldType.int) :: wAll
theorem in_X1_value : ∀ w ∈ wX1_value, w ∈ wAll := List.forall_mem_cons.mpr ⟨m_11_6, fun _ h => h⟩
def wX1_asked : List Cond := Cond.code yX1_asked cX1_asked 4 (Option.some FieldType.boolean) :: wAll
theorem in_X1_asked : ∀ w ∈ wX1_asked, w ∈ wAll := List.forall_mem_cons.mpr ⟨m_11_9, fun _ h => h⟩
def wX1_learn : List Cond := Cond.code yX1_learn cX1_learn 5 (Option.none : Option FieldType) :: wAll
theorem in_X1_learn : ∀ w ∈ wX1_learn, w ∈ wAll := List.forall_mem_cons.mpr ⟨m_11_12, fun _ h => h⟩
def wX1_best : List Cond := Cond.code yX1_best cX1_best 3 (Option.some FieldType.int) :: wAll
theorem in_X1_best : ∀ w ∈ wX1_best, w ∈ wAll := List.forall_mem_cons.mpr ⟨m_11_16, fun _ h => h⟩
def wX1_length : List Cond := Cond.code yX1_length cX1_length 2 (Option.some FieldType.int) :: wAll
theorem in_X1_length : ∀ w ∈ wX1_length, w ∈ wAll := List.forall_mem_cons.mpr ⟨m_11_20, fun _ h => h⟩
end
section
theorem dX0_init_0 : decode cX0_init 0 = .ok (.aload_n 0, 1) := by decide +kernel
theorem dX0_init_1 : decode cX0_init 1 = .ok (.invokespecial 1, 3) := by decide +kernel
theorem dX0_init_4 : decode cX0_init 4 = .ok (.aload_n 0, 1) := by decide +kernel
theorem dX0_init_5 : decode cX0_init 5 = .ok (.bipush 60, 2) := by decide +kernel
theorem dX0_init_7 : decode cX0_init 7 = .ok (.newarray .boolean, 2) := by decide +kernel
theorem dX0_init_9 : decode cX0_init 9 = .ok (.putfield 9, 3) := by decide +kernel
theorem dX0_init_12 : decode cX0_init 12 = .ok (.aload_n 0, 1) := by decide +kernel
theorem dX0_init_13 : decode cX0_init 13 = .ok (.bipush 60, 2) := by decide +kernel
theorem dX0_init_15 : decode cX0_init 15 = .ok (.newarray .int, 2) := by decide +kernel
theorem dX0_init_17 : decode cX0_init 17 = .ok (.putfield 13, 3) := by decide +kernel
theorem dX0_init_20 : decode cX0_init 20 = .ok (.aload_n 0, 1) := by decide +kernel
theorem dX0_init_21 : decode cX0_init 21 = .ok (.bipush 60, 2) := by decide +kernel
theorem dX0_init_23 : decode cX0_init 23 = .ok (.newarray .int, 2) := by decide +kernel
theorem dX0_init_25 : decode cX0_init 25 = .ok (.putfield 17, 3) := by decide +kernel
theorem dX0_init_28 : decode cX0_init 28 = .ok (.aload_n 0, 1) := by decide +kernel
theorem dX0_init_29 : decode cX0_init 29 = .ok (.sipush 720, 3) := by decide +kernel
theorem dX0_init_32 : decode cX0_init 32 = .ok (.newarray .int, 2) := by decide +kernel
theorem dX0_init_34 : decode cX0_init 34 = .ok (.putfield 20, 3) := by decide +kernel
theorem dX0_init_37 : decode cX0_init 37 = .ok (.aload_n 0, 1) := by decide +kernel
theorem dX0_init_38 : decode cX0_init 38 = .ok (.bipush 60, 2) := by decide +kernel
theorem dX0_init_40 : decode cX0_init 40 = .ok (.newarray .long, 2) := by decide +kernel
theorem dX0_init_42 : decode cX0_init 42 = .ok (.putfield 23, 3) := by decide +kernel
theorem dX0_init_45 : decode cX0_init 45 = .ok (.aload_n 0, 1) := by decide +kernel
theorem dX0_init_46 : decode cX0_init 46 = .ok (.bipush 60, 2) := by decide +kernel
theorem dX0_init_48 : decode cX0_init 48 = .ok (.newarray .int, 2) := by decide +kernel
theorem dX0_init_50 : decode cX0_init 50 = .ok (.putfield 27, 3) := by decide +kernel
theorem dX0_init_53 : decode cX0_init 53 = .ok (.aload_n 0, 1) := by decide +kernel
theorem dX0_init_54 : decode cX0_init 54 = .ok (.bipush 60, 2) := by decide +kernel
theorem dX0_init_56 : decode cX0_init 56 = .ok (.newarray .int, 2) := by decide +kernel
theorem dX0_init_58 : decode cX0_init 58 = .ok (.putfield 30, 3) := by decide +kernel
theorem dX0_init_61 : decode cX0_init 61 = .ok (.aload_n 0, 1) := by decide +kernel
theorem dX0_init_62 : decode cX0_init 62 = .ok (.bipush 60, 2) := by decide +kernel
theorem dX0_init_64 : decode cX0_init 64 = .ok (.newarray .int, 2) := by decide +kernel
theorem dX0_init_66 : decode cX0_init 66 = .ok (.putfield 33, 3) := by decide +kernel
theorem dX0_init_69 : decode cX0_init 69 = .ok (.aload_n 0, 1) := by decide +kernel
theorem dX0_init_70 : decode cX0_init 70 = .ok (.iconst 1, 1) := by decide +kernel
theorem dX0_init_71 : decode cX0_init 71 = .ok (.invokevirtual 36, 3) := by decide +kernel
theorem dX0_init_74 : decode cX0_init 74 = .ok (.return_, 1) := by decide +kernel
theorem dX0_states_0 : decode cX0_states 0 = .ok (.iload_n 1, 1) := by decide +kernel
theorem dX0_states_1 : decode cX0_states 1 = .ok (.iconst 1, 1) := by decide +kernel
theorem dX0_states_2 : decode cX0_states 2 = .ok (.if_icmp .lt 9, 3) := by decide +kernel
theorem dX0_states_5 : decode cX0_states 5 = .ok (.iload_n 1, 1) := by decide +kernel
theorem dX0_states_6 : decode cX0_states 6 = .ok (.bipush 60, 2) := by decide +kernel
theorem dX0_states_8 : decode cX0_states 8 = .ok (.if_icmp .le 13, 3) := by decide +kernel
theorem dX0_states_11 : decode cX0_states 11 = .ok (.new 40, 3) := by decide +kernel
theorem dX0_states_14 : decode cX0_states 14 = .ok (.dup, 1) := by decide +kernel
theorem dX0_states_15 : decode cX0_states 15 = .ok (.ldc 42, 2) := by decide +kernel
theorem dX0_states_17 : decode cX0_states 17 = .ok (.invokespecial 44, 3) := by decide +kernel
theorem dX0_states_20 : decode cX0_states 20 = .ok (.athrow, 1) := by decide +kernel
theorem dX0_states_21 : decode cX0_states 21 = .ok (.aload_n 0, 1) := by decide +kernel
theorem dX0_states_22 : decode cX0_states 22 = .ok (.iload_n 1, 1) := by decide +kernel
theorem dX0_states_23 : decode cX0_states 23 = .ok (.invokevirtual 36, 3) := by decide +kernel
theorem dX0_states_26 : decode cX0_states 26 = .ok (.return_, 1) := by decide +kernel
theorem dX0_end_0 : decode cX0_end 0 = .ok (.aload_n 0, 1) := by decide +kernel
theorem dX0_end_1 : decode cX0_end 1 = .ok (.iload_n 1, 1) := by decide +kernel
theorem dX0_end_2 : decode cX0_end 2 = .ok (.invokevirtual 47, 3) := by decide +kernel
theorem dX0_end_5 : decode cX0_end 5 = .ok (.iload_n 2, 1) := by decide +kernel
theorem dX0_end_6 : decode cX0_end 6 = .ok (.invokestatic 50, 3) := by decide +kernel
theorem dX0_end_9 : decode cX0_end 9 = .ok (.ifCond .eq 10, 3) := by decide +kernel
theorem dX0_end_12 : decode cX0_end 12 = .ok (.iload_n 3, 1) := by decide +kernel
theorem dX0_end_13 : decode cX0_end 13 = .ok (.invokestatic 50, 3) := by decide +kernel
theorem dX0_end_16 : decode cX0_end 16 = .ok (.ifCond .ne 13, 3) := by decide +kernel
theorem dX0_end_19 : decode cX0_end 19 = .ok (.new 40, 3) := by decide +kernel
theorem dX0_end_22 : decode cX0_end 22 = .ok (.dup, 1) := by decide +kernel
theorem dX0_end_23 : decode cX0_end 23 = .ok (.ldc 54, 2) := by decide +kernel
theorem dX0_end_25 : decode cX0_end 25 = .ok (.invokespecial 44, 3) := by decide +kernel
theorem dX0_end_28 : decode cX0_end 28 = .ok (.athrow, 1) := by decide +kernel
theorem dX0_end_29 : decode cX0_end 29 = .ok (.aload_n 0, 1) := by decide +kernel
theorem dX0_end_30 : decode cX0_end 30 = .ok (.iload_n 1, 1) := by decide +kernel
theorem dX0_end_31 : decode cX0_end 31 = .ok (.iconst 0, 1) := by decide +kernel
theorem dX0_end_32 : decode cX0_end 32 = .ok (.iload_n 2, 1) := by decide +kernel
theorem dX0_end_33 : decode cX0_end 33 = .ok (.iload_n 3, 1) := by decide +kernel
theorem dX0_end_34 : decode cX0_end 34 = .ok (.invokevirtual 56, 3) := by decide +kernel
theorem dX0_end_37 : decode cX0_end 37 = .ok (.return_, 1) := by decide +kernel
theorem dX0_open_0 : decode cX0_open 0 = .ok (.aload_n 0, 1) := by decide +kernel
theorem dX0_open_1 : decode cX0_open 1 = .ok (.iload_n 1, 1) := by decide +kernel
theorem dX0_open_2 : decode cX0_open 2 = .ok (.invokevirtual 47, 3) := by decide +kernel
theorem dX0_open_5 : decode cX0_open 5 = .ok (.iload_n 2, 1) := by decide +kernel
theorem dX0_open_6 : decode cX0_open 6 = .ok (.invokestatic 60, 3) := by decide +kernel
theorem dX0_open_9 : decode cX0_open 9 = .ok (.ifCond .eq 18, 3) := by decide +kernel
theorem dX0_open_12 : decode cX0_open 12 = .ok (.iload_n 3, 1) := by decide +kernel
theorem dX0_open_13 : decode cX0_open 13 = .ok (.invokestatic 60, 3) := by decide +kernel
theorem dX0_open_16 : decode cX0_open 16 = .ok (.ifCond .eq 11, 3) := by decide +kernel
theorem dX0_open_19 : decode cX0_open 19 = .ok (.iload_n 2, 1) := by decide +kernel
theorem dX0_open_20 : decode cX0_open 20 = .ok (.iload_n 3, 1) := by decide +kernel
theorem dX0_open_21 : decode cX0_open 21 = .ok (.imul, 1) := by decide +kernel
theorem dX0_open_22 : decode cX0_open 22 = .ok (.bipush 12, 2) := by decide +kernel
theorem dX0_open_24 : decode cX0_open 24 = .ok (.if_icmp .le 13, 3) := by decide +kernel
theorem dX0_open_27 : decode cX0_open 27 = .ok (.new 40, 3) := by decide +kernel
theorem dX0_open_30 : decode cX0_open 30 = .ok (.dup, 1) := by decide +kernel
theorem dX0_open_31 : decode cX0_open 31 = .ok (.ldc 63, 2) := by decide +kernel
theorem dX0_open_33 : decode cX0_open 33 = .ok (.invokespecial 44, 3) := by decide +kernel
theorem dX0_open_36 : decode cX0_open 36 = .ok (.athrow, 1) := by decide +kernel
theorem dX0_open_37 : decode cX0_open 37 = .ok (.aload_n 0, 1) := by decide +kernel
theorem dX0_open_38 : decode cX0_open 38 = .ok (.iload_n 1, 1) := by decide +kernel
theorem dX0_open_39 : decode cX0_open 39 = .ok (.iconst 1, 1) := by decide +kernel
theorem dX0_open_40 : decode cX0_open 40 = .ok (.iload_n 2, 1) := by decide +kernel
theorem dX0_open_41 : decode cX0_open 41 = .ok (.iload_n 3, 1) := by decide +kernel
theorem dX0_open_42 : decode cX0_open 42 = .ok (.invokevirtual 56, 3) := by decide +kernel
theorem dX0_open_45 : decode cX0_open 45 = .ok (.return_, 1) := by decide +kernel
theorem dX0_link_0 : decode cX0_link 0 = .ok (.aload_n 0, 1) := by decide +kernel
theorem dX0_link_1 : decode cX0_link 1 = .ok (.iload_n 1, 1) := by decide +kernel
theorem dX0_link_2 : decode cX0_link 2 = .ok (.iload_n 2, 1) := by decide +kernel
theorem dX0_link_3 : decode cX0_link 3 = .ok (.invokevirtual 65, 3) := by decide +kernel
theorem dX0_link_6 : decode cX0_link 6 = .ok (.aload_n 0, 1) := by decide +kernel
theorem dX0_link_7 : decode cX0_link 7 = .ok (.iload_n 3, 1) := by decide +kernel
theorem dX0_link_8 : decode cX0_link 8 = .ok (.invokevirtual 47, 3) := by decide +kernel
theorem dX0_link_11 : decode cX0_link 11 = .ok (.aload_n 0, 1) := by decide +kernel
theorem dX0_link_12 : decode cX0_link 12 = .ok (.getfield 20, 3) := by decide +kernel
theorem dX0_link_15 : decode cX0_link 15 = .ok (.iload_n 1, 1) := by decide +kernel
theorem dX0_link_16 : decode cX0_link 16 = .ok (.bipush 12, 2) := by decide +kernel
theorem dX0_link_18 : decode cX0_link 18 = .ok (.imul, 1) := by decide +kernel
theorem dX0_link_19 : decode cX0_link 19 = .ok (.iload_n 2, 1) := by decide +kernel
theorem dX0_link_20 : decode cX0_link 20 = .ok (.iadd, 1) := by decide +kernel
theorem dX0_link_21 : decode cX0_link 21 = .ok (.iload_n 3, 1) := by decide +kernel
theorem dX0_link_22 : decode cX0_link 22 = .ok (.iastore, 1) := by decide +kernel
theorem dX0_link_23 : decode cX0_link 23 = .ok (.aload_n 0, 1) := by decide +kernel
theorem dX0_link_24 : decode cX0_link 24 = .ok (.iconst 0, 1) := by decide +kernel
theorem dX0_link_25 : decode cX0_link 25 = .ok (.putfield 69, 3) := by decide +kernel
theorem dX0_link_28 : decode cX0_link 28 = .ok (.return_, 1) := by decide +kernel
theorem dX0_next_0 : decode cX0_next 0 = .ok (.aload_n 0, 1) := by decide +kernel
theorem dX0_next_1 : decode cX0_next 1 = .ok (.iload_n 1, 1) := by decide +kernel
theorem dX0_next_2 : decode cX0_next 2 = .ok (.iload_n 2, 1) := by decide +kernel
theorem dX0_next_3 : decode cX0_next 3 = .ok (.invokevirtual 65, 3) := by decide +kernel
theorem dX0_next_6 : decode cX0_next 6 = .ok (.aload_n 0, 1) := by decide +kernel
theorem dX0_next_7 : decode cX0_next 7 = .ok (.iload_n 1, 1) := by decide +kernel
theorem dX0_next_8 : decode cX0_next 8 = .ok (.iload_n 2, 1) := by decide +kernel
theorem dX0_next_9 : decode cX0_next 9 = .ok (.invokevirtual 73, 3) := by decide +kernel
theorem dX0_next_12 : decode cX0_next 12 = .ok (.ireturn, 1) := by decide +kernel
theorem dX0_reached_0 : decode cX0_reached 0 = .ok (.aload_n 0, 1) := by decide +kernel
theorem dX0_reached_1 : decode cX0_reached 1 = .ok (.invokevirtual 77, 3) := by decide +kernel
theorem dX0_reached_4 : decode cX0_reached 4 = .ok (.aload_n 0, 1) := by decide +kernel
theorem dX0_reached_5 : decode cX0_reached 5 = .ok (.getfield 80, 3) := by decide +kernel
theorem dX0_reached_8 : decode cX0_reached 8 = .ok (.invokestatic 84, 3) := by decide +kernel
theorem dX0_reached_11 : decode cX0_reached 11 = .ok (.ireturn, 1) := by decide +kernel
theorem dX0_defect_0 : decode cX0_defect 0 = .ok (.iload_n 1, 1) := by decide +kernel
theorem dX0_defect_1 : decode cX0_defect 1 = .ok (.ifCond .eq 18, 3) := by decide +kernel
theorem dX0_defect_4 : decode cX0_defect 4 = .ok (.iload_n 1, 1) := by decide +kernel
theorem dX0_defect_5 : decode cX0_defect 5 = .ok (.iconst 1, 1) := by decide +kernel
theorem dX0_defect_6 : decode cX0_defect 6 = .ok (.if_icmp .eq 13, 3) := by decide +kernel
theorem dX0_defect_9 : decode cX0_defect 9 = .ok (.new 40, 3) := by decide +kernel
theorem dX0_defect_12 : decode cX0_defect 12 = .ok (.dup, 1) := by decide +kernel
theorem dX0_defect_13 : decode cX0_defect 13 = .ok (.ldc 90, 2) := by decide +kernel
theorem dX0_defect_15 : decode cX0_defect 15 = .ok (.invokespecial 44, 3) := by decide +kernel
theorem dX0_defect_18 : decode cX0_defect 18 = .ok (.athrow, 1) := by decide +kernel
theorem dX0_defect_19 : decode cX0_defect 19 = .ok (.aload_n 0, 1) := by decide +kernel
theorem dX0_defect_20 : decode cX0_defect 20 = .ok (.invokevirtual 77, 3) := by decide +kernel
theorem dX0_defect_23 : decode cX0_defect 23 = .ok (.iload_n 1, 1) := by decide +kernel
theorem dX0_defect_24 : decode cX0_defect 24 = .ok (.ifCond .ne 10, 3) := by decide +kernel
theorem dX0_defect_27 : decode cX0_defect 27 = .ok (.aload_n 0, 1) := by decide +kernel
theorem dX0_defect_28 : decode cX0_defect 28 = .ok (.getfield 92, 3) := by decide +kernel
theorem dX0_defect_31 : decode cX0_defect 31 = .ok (.goto 7, 3) := by decide +kernel
theorem dX0_defect_34 : decode cX0_defect 34 = .ok (.aload_n 0, 1) := by decide +kernel
theorem dX0_defect_35 : decode cX0_defect 35 = .ok (.getfield 96, 3) := by decide +kernel
theorem dX0_defect_38 : decode cX0_defect 38 = .ok (.ireturn, 1) := by decide +kernel
theorem dX0_value_0 : decode cX0_value 0 = .ok (.aload_n 0, 1) := by decide +kernel
theorem dX0_value_1 : decode cX0_value 1 = .ok (.iload_n 1, 1) := by decide +kernel
theorem dX0_value_2 : decode cX0_value 2 = .ok (.invokevirtual 99, 3) := by decide +kernel
theorem dX0_value_5 : decode cX0_value 5 = .ok (.aload_n 0, 1) := by decide +kernel
theorem dX0_value_6 : decode cX0_value 6 = .ok (.iload_n 1, 1) := by decide +kernel
theorem dX0_value_7 : decode cX0_value 7 = .ok (.invokevirtual 102, 3) := by decide +kernel
theorem dX0_value_10 : decode cX0_value 10 = .ok (.ireturn, 1) := by decide +kernel
theorem dX0_best_0 : decode cX0_best 0 = .ok (.aload_n 0, 1) := by decide +kernel
theorem dX0_best_1 : decode cX0_best 1 = .ok (.iload_n 1, 1) := by decide +kernel
theorem dX0_best_2 : decode cX0_best 2 = .ok (.invokevirtual 99, 3) := by decide +kernel
theorem dX0_best_5 : decode cX0_best 5 = .ok (.aload_n 0, 1) := by decide +kernel
theorem dX0_best_6 : decode cX0_best 6 = .ok (.iload_n 1, 1) := by decide +kernel
theorem dX0_best_7 : decode cX0_best 7 = .ok (.invokevirtual 106, 3) := by decide +kernel
theorem dX0_best_10 : decode cX0_best 10 = .ok (.ireturn, 1) := by decide +kernel
theorem dX0_length_0 : decode cX0_length 0 = .ok (.aload_n 0, 1) := by decide +kernel
theorem dX0_length_1 : decode cX0_length 1 = .ok (.iload_n 1, 1) := by decide +kernel
theorem dX0_length_2 : decode cX0_length 2 = .ok (.invokevirtual 99, 3) := by decide +kernel
theorem dX0_length_5 : decode cX0_length 5 = .ok (.aload_n 0, 1) := by decide +kernel
theorem dX0_length_6 : decode cX0_length 6 = .ok (.getfield 27, 3) := by decide +kernel
theorem dX0_length_9 : decode cX0_length 9 = .ok (.iload_n 1, 1) := by decide +kernel
theorem dX0_length_10 : decode cX0_length 10 = .ok (.iaload, 1) := by decide +kernel
theorem dX0_length_11 : decode cX0_length 11 = .ok (.ireturn, 1) := by decide +kernel
theorem dX0_hasState_0 : decode cX0_hasState 0 = .ok (.iload_n 1, 1) := by decide +kernel
theorem dX0_hasState_1 : decode cX0_hasState 1 = .ok (.ifCond .lt 15, 3) := by decide +kernel
theorem dX0_hasState_4 : decode cX0_hasState 4 = .ok (.iload_n 1, 1) := by decide +kernel
theorem dX0_hasState_5 : decode cX0_hasState 5 = .ok (.aload_n 0, 1) := by decide +kernel
theorem dX0_hasState_6 : decode cX0_hasState 6 = .ok (.getfield 109, 3) := by decide +kernel
theorem dX0_hasState_9 : decode cX0_hasState 9 = .ok (.if_icmp .ge 7, 3) := by decide +kernel
theorem dX0_hasState_12 : decode cX0_hasState 12 = .ok (.iconst 1, 1) := by decide +kernel
theorem dX0_hasState_13 : decode cX0_hasState 13 = .ok (.goto 4, 3) := by decide +kernel
theorem dX0_hasState_16 : decode cX0_hasState 16 = .ok (.iconst 0, 1) := by decide +kernel
theorem dX0_hasState_17 : decode cX0_hasState 17 = .ok (.ireturn, 1) := by decide +kernel
theorem dX0_requireState_0 : decode cX0_requireState 0 = .ok (.aload_n 0, 1) := by decide +kernel
theorem dX0_requireState_1 : decode cX0_requireState 1 = .ok (.iload_n 1, 1) := by decide +kernel
theorem dX0_requireState_2 : decode cX0_requireState 2 = .ok (.invokevirtual 112, 3) := by decide +kernel
theorem dX0_requireState_5 : decode cX0_requireState 5 = .ok (.ifCond .ne 13, 3) := by decide +kernel
theorem dX0_requireState_8 : decode cX0_requireState 8 = .ok (.new 115, 3) := by decide +kernel
theorem dX0_requireState_11 : decode cX0_requireState 11 = .ok (.dup, 1) := by decide +kernel
theorem dX0_requireState_12 : decode cX0_requireState 12 = .ok (.ldc 117, 2) := by decide +kernel
theorem dX0_requireState_14 : decode cX0_requireState 14 = .ok (.invokespecial 119, 3) := by decide +kernel
theorem dX0_requireState_17 : decode cX0_requireState 17 = .ok (.athrow, 1) := by decide +kernel
theorem dX0_requireState_18 : decode cX0_requireState 18 = .ok (.return_, 1) := by decide +kernel
theorem dX0_requireJointMove_0 : decode cX0_requireJointMove 0 = .ok (.aload_n 0, 1) := by decide +kernel
theorem dX0_requireJointMove_1 : decode cX0_requireJointMove 1 = .ok (.iload_n 1, 1) := by decide +kernel
theorem dX0_requireJointMove_2 : decode cX0_requireJointMove 2 = .ok (.invokevirtual 47, 3) := by decide +kernel
theorem dX0_requireJointMove_5 : decode cX0_requireJointMove 5 = .ok (.iload_n 2, 1) := by decide +kernel
theorem dX0_requireJointMove_6 : decode cX0_requireJointMove 6 = .ok (.ifCond .lt 12, 3) := by decide +kernel
theorem dX0_requireJointMove_9 : decode cX0_requireJointMove 9 = .ok (.iload_n 2, 1) := by decide +kernel
theorem dX0_requireJointMove_10 : decode cX0_requireJointMove 10 = .ok (.aload_n 0, 1) := by decide +kernel
theorem dX0_requireJointMove_11 : decode cX0_requireJointMove 11 = .ok (.iload_n 1, 1) := by decide +kernel
theorem dX0_requireJointMove_12 : decode cX0_requireJointMove 12 = .ok (.invokevirtual 120, 3) := by decide +kernel
theorem dX0_requireJointMove_15 : decode cX0_requireJointMove 15 = .ok (.if_icmp .lt 13, 3) := by decide +kernel
theorem dX0_requireJointMove_18 : decode cX0_requireJointMove 18 = .ok (.new 115, 3) := by decide +kernel
theorem dX0_requireJointMove_21 : decode cX0_requireJointMove 21 = .ok (.dup, 1) := by decide +kernel
theorem dX0_requireJointMove_22 : decode cX0_requireJointMove 22 = .ok (.ldc 123, 2) := by decide +kernel
theorem dX0_requireJointMove_24 : decode cX0_requireJointMove 24 = .ok (.invokespecial 119, 3) := by decide +kernel
theorem dX0_requireJointMove_27 : decode cX0_requireJointMove 27 = .ok (.athrow, 1) := by decide +kernel
theorem dX0_requireJointMove_28 : decode cX0_requireJointMove 28 = .ok (.return_, 1) := by decide +kernel
theorem dX0_requireValued_0 : decode cX0_requireValued 0 = .ok (.aload_n 0, 1) := by decide +kernel
theorem dX0_requireValued_1 : decode cX0_requireValued 1 = .ok (.invokevirtual 77, 3) := by decide +kernel
theorem dX0_requireValued_4 : decode cX0_requireValued 4 = .ok (.aload_n 0, 1) := by decide +kernel
theorem dX0_requireValued_5 : decode cX0_requireValued 5 = .ok (.getfield 92, 3) := by decide +kernel
theorem dX0_requireValued_8 : decode cX0_requireValued 8 = .ok (.ifCond .eq 13, 3) := by decide +kernel
theorem dX0_requireValued_11 : decode cX0_requireValued 11 = .ok (.new 125, 3) := by decide +kernel
theorem dX0_requireValued_14 : decode cX0_requireValued 14 = .ok (.dup, 1) := by decide +kernel
theorem dX0_requireValued_15 : decode cX0_requireValued 15 = .ok (.ldc 127, 2) := by decide +kernel
theorem dX0_requireValued_17 : decode cX0_requireValued 17 = .ok (.invokespecial 129, 3) := by decide +kernel
theorem dX0_requireValued_20 : decode cX0_requireValued 20 = .ok (.athrow, 1) := by decide +kernel
theorem dX0_requireValued_21 : decode cX0_requireValued 21 = .ok (.aload_n 0, 1) := by decide +kernel
theorem dX0_requireValued_22 : decode cX0_requireValued 22 = .ok (.iload_n 1, 1) := by decide +kernel
theorem dX0_requireValued_23 : decode cX0_requireValued 23 = .ok (.invokevirtual 112, 3) := by decide +kernel
theorem dX0_requireValued_26 : decode cX0_requireValued 26 = .ok (.ifCond .eq 14, 3) := by decide +kernel
theorem dX0_requireValued_29 : decode cX0_requireValued 29 = .ok (.aload_n 0, 1) := by decide +kernel
theorem dX0_requireValued_30 : decode cX0_requireValued 30 = .ok (.getfield 80, 3) := by decide +kernel
theorem dX0_requireValued_33 : decode cX0_requireValued 33 = .ok (.iload_n 1, 1) := by decide +kernel
theorem dX0_requireValued_34 : decode cX0_requireValued 34 = .ok (.invokestatic 130, 3) := by decide +kernel
theorem dX0_requireValued_37 : decode cX0_requireValued 37 = .ok (.ifCond .ne 13, 3) := by decide +kernel
theorem dX0_requireValued_40 : decode cX0_requireValued 40 = .ok (.new 115, 3) := by decide +kernel
theorem dX0_requireValued_43 : decode cX0_requireValued 43 = .ok (.dup, 1) := by decide +kernel
theorem dX0_requireValued_44 : decode cX0_requireValued 44 = .ok (.ldc 134, 2) := by decide +kernel
theorem dX0_requireValued_46 : decode cX0_requireValued 46 = .ok (.invokespecial 119, 3) := by decide +kernel
theorem dX0_requireValued_49 : decode cX0_requireValued 49 = .ok (.athrow, 1) := by decide +kernel
theorem dX0_requireValued_50 : decode cX0_requireValued 50 = .ok (.return_, 1) := by decide +kernel
theorem dX0_isGoal_0 : decode cX0_isGoal 0 = .ok (.iload_n 0, 1) := by decide +kernel
theorem dX0_isGoal_1 : decode cX0_isGoal 1 = .ok (.bipush (-2), 2) := by decide +kernel
theorem dX0_isGoal_3 : decode cX0_isGoal 3 = .ok (.if_icmp .lt 13, 3) := by decide +kernel
theorem dX0_isGoal_6 : decode cX0_isGoal 6 = .ok (.iload_n 0, 1) := by decide +kernel
theorem dX0_isGoal_7 : decode cX0_isGoal 7 = .ok (.bipush 100, 2) := by decide +kernel
theorem dX0_isGoal_9 : decode cX0_isGoal 9 = .ok (.if_icmp .gt 7, 3) := by decide +kernel
theorem dX0_isGoal_12 : decode cX0_isGoal 12 = .ok (.iconst 1, 1) := by decide +kernel
theorem dX0_isGoal_13 : decode cX0_isGoal 13 = .ok (.goto 4, 3) := by decide +kernel
theorem dX0_isGoal_16 : decode cX0_isGoal 16 = .ok (.iconst 0, 1) := by decide +kernel
theorem dX0_isGoal_17 : decode cX0_isGoal 17 = .ok (.ireturn, 1) := by decide +kernel
theorem dX0_isNumberOfMoves_0 : decode cX0_isNumberOfMoves 0 = .ok (.iload_n 0, 1) := by decide +kernel
theorem dX0_isNumberOfMoves_1 : decode cX0_isNumberOfMoves 1 = .ok (.ifCond .lt 13, 3) := by decide +kernel
theorem dX0_isNumberOfMoves_4 : decode cX0_isNumberOfMoves 4 = .ok (.iload_n 0, 1) := by decide +kernel
theorem dX0_isNumberOfMoves_5 : decode cX0_isNumberOfMoves 5 = .ok (.bipush 12, 2) := by decide +kernel
theorem dX0_isNumberOfMoves_7 : decode cX0_isNumberOfMoves 7 = .ok (.if_icmp .gt 7, 3) := by decide +kernel
theorem dX0_isNumberOfMoves_10 : decode cX0_isNumberOfMoves 10 = .ok (.iconst 1, 1) := by decide +kernel
theorem dX0_isNumberOfMoves_11 : decode cX0_isNumberOfMoves 11 = .ok (.goto 4, 3) := by decide +kernel
theorem dX0_isNumberOfMoves_14 : decode cX0_isNumberOfMoves 14 = .ok (.iconst 0, 1) := by decide +kernel
theorem dX0_isNumberOfMoves_15 : decode cX0_isNumberOfMoves 15 = .ok (.ireturn, 1) := by decide +kernel
theorem dX0_contains_0 : decode cX0_contains 0 = .ok (.lload_n 0, 1) := by decide +kernel
theorem dX0_contains_1 : decode cX0_contains 1 = .ok (.iload_n 2, 1) := by decide +kernel
theorem dX0_contains_2 : decode cX0_contains 2 = .ok (.lushr, 1) := by decide +kernel
theorem dX0_contains_3 : decode cX0_contains 3 = .ok (.lconst 1, 1) := by decide +kernel
theorem dX0_contains_4 : decode cX0_contains 4 = .ok (.land, 1) := by decide +kernel
theorem dX0_contains_5 : decode cX0_contains 5 = .ok (.lconst 0, 1) := by decide +kernel
theorem dX0_contains_6 : decode cX0_contains 6 = .ok (.lcmp, 1) := by decide +kernel
theorem dX0_contains_7 : decode cX0_contains 7 = .ok (.ifCond .eq 7, 3) := by decide +kernel
theorem dX0_contains_10 : decode cX0_contains 10 = .ok (.iconst 1, 1) := by decide +kernel
theorem dX0_contains_11 : decode cX0_contains 11 = .ok (.goto 4, 3) := by decide +kernel
theorem dX0_contains_14 : decode cX0_contains 14 = .ok (.iconst 0, 1) := by decide +kernel
theorem dX0_contains_15 : decode cX0_contains 15 = .ok (.ireturn, 1) := by decide +kernel
theorem dX0_jointMoves_0 : decode cX0_jointMoves 0 = .ok (.aload_n 0, 1) := by decide +kernel
theorem dX0_jointMoves_1 : decode cX0_jointMoves 1 = .ok (.getfield 9, 3) := by decide +kernel
theorem dX0_jointMoves_4 : decode cX0_jointMoves 4 = .ok (.iload_n 1, 1) := by decide +kernel
theorem dX0_jointMoves_5 : decode cX0_jointMoves 5 = .ok (.baload, 1) := by decide +kernel
theorem dX0_jointMoves_6 : decode cX0_jointMoves 6 = .ok (.ifCond .eq 19, 3) := by decide +kernel
theorem dX0_jointMoves_9 : decode cX0_jointMoves 9 = .ok (.aload_n 0, 1) := by decide +kernel
theorem dX0_jointMoves_10 : decode cX0_jointMoves 10 = .ok (.getfield 13, 3) := by decide +kernel
theorem dX0_jointMoves_13 : decode cX0_jointMoves 13 = .ok (.iload_n 1, 1) := by decide +kernel
theorem dX0_jointMoves_14 : decode cX0_jointMoves 14 = .ok (.iaload, 1) := by decide +kernel
theorem dX0_jointMoves_15 : decode cX0_jointMoves 15 = .ok (.aload_n 0, 1) := by decide +kernel
theorem dX0_jointMoves_16 : decode cX0_jointMoves 16 = .ok (.getfield 17, 3) := by decide +kernel
theorem dX0_jointMoves_19 : decode cX0_jointMoves 19 = .ok (.iload_n 1, 1) := by decide +kernel
theorem dX0_jointMoves_20 : decode cX0_jointMoves 20 = .ok (.iaload, 1) := by decide +kernel
theorem dX0_jointMoves_21 : decode cX0_jointMoves 21 = .ok (.imul, 1) := by decide +kernel
theorem dX0_jointMoves_22 : decode cX0_jointMoves 22 = .ok (.goto 4, 3) := by decide +kernel
theorem dX0_jointMoves_25 : decode cX0_jointMoves 25 = .ok (.iconst 0, 1) := by decide +kernel
theorem dX0_jointMoves_26 : decode cX0_jointMoves 26 = .ok (.ireturn, 1) := by decide +kernel
theorem dX0_target_0 : decode cX0_target 0 = .ok (.aload_n 0, 1) := by decide +kernel
theorem dX0_target_1 : decode cX0_target 1 = .ok (.getfield 20, 3) := by decide +kernel
theorem dX0_target_4 : decode cX0_target 4 = .ok (.iload_n 1, 1) := by decide +kernel
theorem dX0_target_5 : decode cX0_target 5 = .ok (.bipush 12, 2) := by decide +kernel
theorem dX0_target_7 : decode cX0_target 7 = .ok (.imul, 1) := by decide +kernel
theorem dX0_target_8 : decode cX0_target 8 = .ok (.iload_n 2, 1) := by decide +kernel
theorem dX0_target_9 : decode cX0_target 9 = .ok (.iadd, 1) := by decide +kernel
theorem dX0_target_10 : decode cX0_target 10 = .ok (.iaload, 1) := by decide +kernel
theorem dX0_target_11 : decode cX0_target 11 = .ok (.ireturn, 1) := by decide +kernel
theorem dX0_makeEvenEnds_0 : decode cX0_makeEvenEnds 0 = .ok (.aload_n 0, 1) := by decide +kernel
theorem dX0_makeEvenEnds_1 : decode cX0_makeEvenEnds 1 = .ok (.iload_n 1, 1) := by decide +kernel
theorem dX0_makeEvenEnds_2 : decode cX0_makeEvenEnds 2 = .ok (.putfield 109, 3) := by decide +kernel
theorem dX0_makeEvenEnds_5 : decode cX0_makeEvenEnds 5 = .ok (.iconst 0, 1) := by decide +kernel
theorem dX0_makeEvenEnds_6 : decode cX0_makeEvenEnds 6 = .ok (.istore_n 2, 1) := by decide +kernel
theorem dX0_makeEvenEnds_7 : decode cX0_makeEvenEnds 7 = .ok (.iload_n 2, 1) := by decide +kernel
theorem dX0_makeEvenEnds_8 : decode cX0_makeEvenEnds 8 = .ok (.iload_n 1, 1) := by decide +kernel
theorem dX0_makeEvenEnds_9 : decode cX0_makeEvenEnds 9 = .ok (.if_icmp .ge 19, 3) := by decide +kernel
theorem dX0_makeEvenEnds_12 : decode cX0_makeEvenEnds 12 = .ok (.aload_n 0, 1) := by decide +kernel
theorem dX0_makeEvenEnds_13 : decode cX0_makeEvenEnds 13 = .ok (.iload_n 2, 1) := by decide +kernel
theorem dX0_makeEvenEnds_14 : decode cX0_makeEvenEnds 14 = .ok (.iconst 0, 1) := by decide +kernel
theorem dX0_makeEvenEnds_15 : decode cX0_makeEvenEnds 15 = .ok (.bipush 50, 2) := by decide +kernel
theorem dX0_makeEvenEnds_17 : decode cX0_makeEvenEnds 17 = .ok (.bipush 50, 2) := by decide +kernel
theorem dX0_makeEvenEnds_19 : decode cX0_makeEvenEnds 19 = .ok (.invokevirtual 56, 3) := by decide +kernel
theorem dX0_makeEvenEnds_22 : decode cX0_makeEvenEnds 22 = .ok (.iinc 2 1, 3) := by decide +kernel
theorem dX0_makeEvenEnds_25 : decode cX0_makeEvenEnds 25 = .ok (.goto (-18), 3) := by decide +kernel
theorem dX0_makeEvenEnds_28 : decode cX0_makeEvenEnds 28 = .ok (.return_, 1) := by decide +kernel
theorem dX0_makeState_0 : decode cX0_makeState 0 = .ok (.aload_n 0, 1) := by decide +kernel
theorem dX0_makeState_1 : decode cX0_makeState 1 = .ok (.getfield 9, 3) := by decide +kernel
theorem dX0_makeState_4 : decode cX0_makeState 4 = .ok (.iload_n 1, 1) := by decide +kernel
theorem dX0_makeState_5 : decode cX0_makeState 5 = .ok (.iload_n 2, 1) := by decide +kernel
theorem dX0_makeState_6 : decode cX0_makeState 6 = .ok (.bastore, 1) := by decide +kernel
theorem dX0_makeState_7 : decode cX0_makeState 7 = .ok (.aload_n 0, 1) := by decide +kernel
theorem dX0_makeState_8 : decode cX0_makeState 8 = .ok (.getfield 13, 3) := by decide +kernel
theorem dX0_makeState_11 : decode cX0_makeState 11 = .ok (.iload_n 1, 1) := by decide +kernel
theorem dX0_makeState_12 : decode cX0_makeState 12 = .ok (.iload_n 3, 1) := by decide +kernel
theorem dX0_makeState_13 : decode cX0_makeState 13 = .ok (.iastore, 1) := by decide +kernel
theorem dX0_makeState_14 : decode cX0_makeState 14 = .ok (.aload_n 0, 1) := by decide +kernel
theorem dX0_makeState_15 : decode cX0_makeState 15 = .ok (.getfield 17, 3) := by decide +kernel
theorem dX0_makeState_18 : decode cX0_makeState 18 = .ok (.iload_n 1, 1) := by decide +kernel
theorem dX0_makeState_19 : decode cX0_makeState 19 = .ok (.iload 4, 2) := by decide +kernel
theorem dX0_makeState_21 : decode cX0_makeState 21 = .ok (.iastore, 1) := by decide +kernel
theorem dX0_makeState_22 : decode cX0_makeState 22 = .ok (.iconst 0, 1) := by decide +kernel
theorem dX0_makeState_23 : decode cX0_makeState 23 = .ok (.istore 5, 2) := by decide +kernel
theorem dX0_makeState_25 : decode cX0_makeState 25 = .ok (.iload 5, 2) := by decide +kernel
theorem dX0_makeState_27 : decode cX0_makeState 27 = .ok (.bipush 12, 2) := by decide +kernel
theorem dX0_makeState_29 : decode cX0_makeState 29 = .ok (.if_icmp .ge 22, 3) := by decide +kernel
theorem dX0_makeState_32 : decode cX0_makeState 32 = .ok (.aload_n 0, 1) := by decide +kernel
theorem dX0_makeState_33 : decode cX0_makeState 33 = .ok (.getfield 20, 3) := by decide +kernel
theorem dX0_makeState_36 : decode cX0_makeState 36 = .ok (.iload_n 1, 1) := by decide +kernel
theorem dX0_makeState_37 : decode cX0_makeState 37 = .ok (.bipush 12, 2) := by decide +kernel
theorem dX0_makeState_39 : decode cX0_makeState 39 = .ok (.imul, 1) := by decide +kernel
theorem dX0_makeState_40 : decode cX0_makeState 40 = .ok (.iload 5, 2) := by decide +kernel
theorem dX0_makeState_42 : decode cX0_makeState 42 = .ok (.iadd, 1) := by decide +kernel
theorem dX0_makeState_43 : decode cX0_makeState 43 = .ok (.iconst 0, 1) := by decide +kernel
theorem dX0_makeState_44 : decode cX0_makeState 44 = .ok (.iastore, 1) := by decide +kernel
theorem dX0_makeState_45 : decode cX0_makeState 45 = .ok (.iinc 5 1, 3) := by decide +kernel
theorem dX0_makeState_48 : decode cX0_makeState 48 = .ok (.goto (-23), 3) := by decide +kernel
theorem dX0_makeState_51 : decode cX0_makeState 51 = .ok (.aload_n 0, 1) := by decide +kernel
theorem dX0_makeState_52 : decode cX0_makeState 52 = .ok (.iconst 0, 1) := by decide +kernel
theorem dX0_makeState_53 : decode cX0_makeState 53 = .ok (.putfield 69, 3) := by decide +kernel
theorem dX0_makeState_56 : decode cX0_makeState 56 = .ok (.return_, 1) := by decide +kernel
theorem dX0_survey_0 : decode cX0_survey 0 = .ok (.aload_n 0, 1) := by decide +kernel
theorem dX0_survey_1 : decode cX0_survey 1 = .ok (.getfield 69, 3) := by decide +kernel
theorem dX0_survey_4 : decode cX0_survey 4 = .ok (.ifCond .eq 4, 3) := by decide +kernel
theorem dX0_survey_7 : decode cX0_survey 7 = .ok (.return_, 1) := by decide +kernel
theorem dX0_survey_8 : decode cX0_survey 8 = .ok (.aload_n 0, 1) := by decide +kernel
theorem dX0_survey_9 : decode cX0_survey 9 = .ok (.invokevirtual 136, 3) := by decide +kernel
theorem dX0_survey_12 : decode cX0_survey 12 = .ok (.aload_n 0, 1) := by decide +kernel
theorem dX0_survey_13 : decode cX0_survey 13 = .ok (.aload_n 0, 1) := by decide +kernel
theorem dX0_survey_14 : decode cX0_survey 14 = .ok (.getfield 23, 3) := by decide +kernel
theorem dX0_survey_17 : decode cX0_survey 17 = .ok (.iconst 0, 1) := by decide +kernel
theorem dX0_survey_18 : decode cX0_survey 18 = .ok (.laload, 1) := by decide +kernel
theorem dX0_survey_19 : decode cX0_survey 19 = .ok (.lconst 1, 1) := by decide +kernel
theorem dX0_survey_20 : decode cX0_survey 20 = .ok (.lor, 1) := by decide +kernel
theorem dX0_survey_21 : decode cX0_survey 21 = .ok (.putfield 80, 3) := by decide +kernel
theorem dX0_survey_24 : decode cX0_survey 24 = .ok (.aload_n 0, 1) := by decide +kernel
theorem dX0_survey_25 : decode cX0_survey 25 = .ok (.invokevirtual 139, 3) := by decide +kernel
theorem dX0_survey_28 : decode cX0_survey 28 = .ok (.aload_n 0, 1) := by decide +kernel
theorem dX0_survey_29 : decode cX0_survey 29 = .ok (.getfield 92, 3) := by decide +kernel
theorem dX0_survey_32 : decode cX0_survey 32 = .ok (.ifCond .ne 11, 3) := by decide +kernel
theorem dX0_survey_35 : decode cX0_survey 35 = .ok (.aload_n 0, 1) := by decide +kernel
theorem dX0_survey_36 : decode cX0_survey 36 = .ok (.invokevirtual 142, 3) := by decide +kernel
theorem dX0_survey_39 : decode cX0_survey 39 = .ok (.aload_n 0, 1) := by decide +kernel
theorem dX0_survey_40 : decode cX0_survey 40 = .ok (.invokevirtual 145, 3) := by decide +kernel
theorem dX0_survey_43 : decode cX0_survey 43 = .ok (.aload_n 0, 1) := by decide +kernel
theorem dX0_survey_44 : decode cX0_survey 44 = .ok (.iconst 1, 1) := by decide +kernel
theorem dX0_survey_45 : decode cX0_survey 45 = .ok (.putfield 69, 3) := by decide +kernel
theorem dX0_survey_48 : decode cX0_survey 48 = .ok (.return_, 1) := by decide +kernel
theorem dX0_findWhatStatesComeTo_0 : decode cX0_findWhatStatesComeTo 0 = .ok (.iconst 0, 1) := by decide +kernel
theorem dX0_findWhatStatesComeTo_1 : decode cX0_findWhatStatesComeTo 1 = .ok (.istore_n 1, 1) := by decide +kernel
theorem dX0_findWhatStatesComeTo_2 : decode cX0_findWhatStatesComeTo 2 = .ok (.iload_n 1, 1) := by decide +kernel
theorem dX0_findWhatStatesComeTo_3 : decode cX0_findWhatStatesComeTo 3 = .ok (.aload_n 0, 1) := by decide +kernel
theorem dX0_findWhatStatesComeTo_4 : decode cX0_findWhatStatesComeTo 4 = .ok (.getfield 109, 3) := by decide +kernel
theorem dX0_findWhatStatesComeTo_7 : decode cX0_findWhatStatesComeTo 7 = .ok (.if_icmp .ge 20, 3) := by decide +kernel
theorem dX0_findWhatStatesComeTo_10 : decode cX0_findWhatStatesComeTo 10 = .ok (.aload_n 0, 1) := by decide +kernel
theorem dX0_findWhatStatesComeTo_11 : decode cX0_findWhatStatesComeTo 11 = .ok (.getfield 23, 3) := by decide +kernel
theorem dX0_findWhatStatesComeTo_14 : decode cX0_findWhatStatesComeTo 14 = .ok (.iload_n 1, 1) := by decide +kernel
theorem dX0_findWhatStatesComeTo_15 : decode cX0_findWhatStatesComeTo 15 = .ok (.aload_n 0, 1) := by decide +kernel
theorem dX0_findWhatStatesComeTo_16 : decode cX0_findWhatStatesComeTo 16 = .ok (.iload_n 1, 1) := by decide +kernel
theorem dX0_findWhatStatesComeTo_17 : decode cX0_findWhatStatesComeTo 17 = .ok (.invokevirtual 148, 3) := by decide +kernel
theorem dX0_findWhatStatesComeTo_20 : decode cX0_findWhatStatesComeTo 20 = .ok (.lastore, 1) := by decide +kernel
theorem dX0_findWhatStatesComeTo_21 : decode cX0_findWhatStatesComeTo 21 = .ok (.iinc 1 1, 3) := by decide +kernel
theorem dX0_findWhatStatesComeTo_24 : decode cX0_findWhatStatesComeTo 24 = .ok (.goto (-22), 3) := by decide +kernel
theorem dX0_findWhatStatesComeTo_27 : decode cX0_findWhatStatesComeTo 27 = .ok (.iconst 0, 1) := by decide +kernel
theorem dX0_findWhatStatesComeTo_28 : decode cX0_findWhatStatesComeTo 28 = .ok (.istore_n 1, 1) := by decide +kernel
theorem dX0_findWhatStatesComeTo_29 : decode cX0_findWhatStatesComeTo 29 = .ok (.iload_n 1, 1) := by decide +kernel
theorem dX0_findWhatStatesComeTo_30 : decode cX0_findWhatStatesComeTo 30 = .ok (.aload_n 0, 1) := by decide +kernel
theorem dX0_findWhatStatesComeTo_31 : decode cX0_findWhatStatesComeTo 31 = .ok (.getfield 109, 3) := by decide +kernel
theorem dX0_findWhatStatesComeTo_34 : decode cX0_findWhatStatesComeTo 34 = .ok (.if_icmp .ge 53, 3) := by decide +kernel
theorem dX0_findWhatStatesComeTo_37 : decode cX0_findWhatStatesComeTo 37 = .ok (.iconst 0, 1) := by decide +kernel
theorem dX0_findWhatStatesComeTo_38 : decode cX0_findWhatStatesComeTo 38 = .ok (.istore_n 2, 1) := by decide +kernel
theorem dX0_findWhatStatesComeTo_39 : decode cX0_findWhatStatesComeTo 39 = .ok (.iload_n 2, 1) := by decide +kernel
theorem dX0_findWhatStatesComeTo_40 : decode cX0_findWhatStatesComeTo 40 = .ok (.aload_n 0, 1) := by decide +kernel
theorem dX0_findWhatStatesComeTo_41 : decode cX0_findWhatStatesComeTo 41 = .ok (.getfield 109, 3) := by decide +kernel
theorem dX0_findWhatStatesComeTo_44 : decode cX0_findWhatStatesComeTo 44 = .ok (.if_icmp .ge 37, 3) := by decide +kernel
theorem dX0_findWhatStatesComeTo_47 : decode cX0_findWhatStatesComeTo 47 = .ok (.aload_n 0, 1) := by decide +kernel
theorem dX0_findWhatStatesComeTo_48 : decode cX0_findWhatStatesComeTo 48 = .ok (.getfield 23, 3) := by decide +kernel
theorem dX0_findWhatStatesComeTo_51 : decode cX0_findWhatStatesComeTo 51 = .ok (.iload_n 2, 1) := by decide +kernel
theorem dX0_findWhatStatesComeTo_52 : decode cX0_findWhatStatesComeTo 52 = .ok (.laload, 1) := by decide +kernel
theorem dX0_findWhatStatesComeTo_53 : decode cX0_findWhatStatesComeTo 53 = .ok (.iload_n 1, 1) := by decide +kernel
theorem dX0_findWhatStatesComeTo_54 : decode cX0_findWhatStatesComeTo 54 = .ok (.invokestatic 130, 3) := by decide +kernel
theorem dX0_findWhatStatesComeTo_57 : decode cX0_findWhatStatesComeTo 57 = .ok (.ifCond .eq 18, 3) := by decide +kernel
theorem dX0_findWhatStatesComeTo_60 : decode cX0_findWhatStatesComeTo 60 = .ok (.aload_n 0, 1) := by decide +kernel
theorem dX0_findWhatStatesComeTo_61 : decode cX0_findWhatStatesComeTo 61 = .ok (.getfield 23, 3) := by decide +kernel
theorem dX0_findWhatStatesComeTo_64 : decode cX0_findWhatStatesComeTo 64 = .ok (.iload_n 2, 1) := by decide +kernel
theorem dX0_findWhatStatesComeTo_65 : decode cX0_findWhatStatesComeTo 65 = .ok (.dup2, 1) := by decide +kernel
theorem dX0_findWhatStatesComeTo_66 : decode cX0_findWhatStatesComeTo 66 = .ok (.laload, 1) := by decide +kernel
theorem dX0_findWhatStatesComeTo_67 : decode cX0_findWhatStatesComeTo 67 = .ok (.aload_n 0, 1) := by decide +kernel
theorem dX0_findWhatStatesComeTo_68 : decode cX0_findWhatStatesComeTo 68 = .ok (.getfield 23, 3) := by decide +kernel
theorem dX0_findWhatStatesComeTo_71 : decode cX0_findWhatStatesComeTo 71 = .ok (.iload_n 1, 1) := by decide +kernel
theorem dX0_findWhatStatesComeTo_72 : decode cX0_findWhatStatesComeTo 72 = .ok (.laload, 1) := by decide +kernel
theorem dX0_findWhatStatesComeTo_73 : decode cX0_findWhatStatesComeTo 73 = .ok (.lor, 1) := by decide +kernel
theorem dX0_findWhatStatesComeTo_74 : decode cX0_findWhatStatesComeTo 74 = .ok (.lastore, 1) := by decide +kernel
theorem dX0_findWhatStatesComeTo_75 : decode cX0_findWhatStatesComeTo 75 = .ok (.iinc 2 1, 3) := by decide +kernel
theorem dX0_findWhatStatesComeTo_78 : decode cX0_findWhatStatesComeTo 78 = .ok (.goto (-39), 3) := by decide +kernel
theorem dX0_findWhatStatesComeTo_81 : decode cX0_findWhatStatesComeTo 81 = .ok (.iinc 1 1, 3) := by decide +kernel
theorem dX0_findWhatStatesComeTo_84 : decode cX0_findWhatStatesComeTo 84 = .ok (.goto (-55), 3) := by decide +kernel
theorem dX0_findWhatStatesComeTo_87 : decode cX0_findWhatStatesComeTo 87 = .ok (.return_, 1) := by decide +kernel
theorem dX0_goesTo_0 : decode cX0_goesTo 0 = .ok (.lconst 0, 1) := by decide +kernel
theorem dX0_goesTo_1 : decode cX0_goesTo 1 = .ok (.lstore_n 2, 1) := by decide +kernel
theorem dX0_goesTo_2 : decode cX0_goesTo 2 = .ok (.aload_n 0, 1) := by decide +kernel
theorem dX0_goesTo_3 : decode cX0_goesTo 3 = .ok (.iload_n 1, 1) := by decide +kernel
theorem dX0_goesTo_4 : decode cX0_goesTo 4 = .ok (.invokevirtual 120, 3) := by decide +kernel
theorem dX0_goesTo_7 : decode cX0_goesTo 7 = .ok (.istore 4, 2) := by decide +kernel
theorem dX0_goesTo_9 : decode cX0_goesTo 9 = .ok (.iconst 0, 1) := by decide +kernel
theorem dX0_goesTo_10 : decode cX0_goesTo 10 = .ok (.istore 5, 2) := by decide +kernel
theorem dX0_goesTo_12 : decode cX0_goesTo 12 = .ok (.iload 5, 2) := by decide +kernel
theorem dX0_goesTo_14 : decode cX0_goesTo 14 = .ok (.iload 4, 2) := by decide +kernel
theorem dX0_goesTo_16 : decode cX0_goesTo 16 = .ok (.if_icmp .ge 21, 3) := by decide +kernel
theorem dX0_goesTo_19 : decode cX0_goesTo 19 = .ok (.lload_n 2, 1) := by decide +kernel
theorem dX0_goesTo_20 : decode cX0_goesTo 20 = .ok (.lconst 1, 1) := by decide +kernel
theorem dX0_goesTo_21 : decode cX0_goesTo 21 = .ok (.aload_n 0, 1) := by decide +kernel
theorem dX0_goesTo_22 : decode cX0_goesTo 22 = .ok (.iload_n 1, 1) := by decide +kernel
theorem dX0_goesTo_23 : decode cX0_goesTo 23 = .ok (.iload 5, 2) := by decide +kernel
theorem dX0_goesTo_25 : decode cX0_goesTo 25 = .ok (.invokevirtual 73, 3) := by decide +kernel
theorem dX0_goesTo_28 : decode cX0_goesTo 28 = .ok (.lshl, 1) := by decide +kernel
theorem dX0_goesTo_29 : decode cX0_goesTo 29 = .ok (.lor, 1) := by decide +kernel
theorem dX0_goesTo_30 : decode cX0_goesTo 30 = .ok (.lstore_n 2, 1) := by decide +kernel
theorem dX0_goesTo_31 : decode cX0_goesTo 31 = .ok (.iinc 5 1, 3) := by decide +kernel
theorem dX0_goesTo_34 : decode cX0_goesTo 34 = .ok (.goto (-22), 3) := by decide +kernel
theorem dX0_goesTo_37 : decode cX0_goesTo 37 = .ok (.lload_n 2, 1) := by decide +kernel
theorem dX0_goesTo_38 : decode cX0_goesTo 38 = .ok (.lreturn, 1) := by decide +kernel
theorem dX0_findDefect_0 : decode cX0_findDefect 0 = .ok (.aload_n 0, 1) := by decide +kernel
theorem dX0_findDefect_1 : decode cX0_findDefect 1 = .ok (.iconst 0, 1) := by decide +kernel
theorem dX0_findDefect_2 : decode cX0_findDefect 2 = .ok (.putfield 92, 3) := by decide +kernel
theorem dX0_findDefect_5 : decode cX0_findDefect 5 = .ok (.aload_n 0, 1) := by decide +kernel
theorem dX0_findDefect_6 : decode cX0_findDefect 6 = .ok (.iconst (-1), 1) := by decide +kernel
theorem dX0_findDefect_7 : decode cX0_findDefect 7 = .ok (.putfield 96, 3) := by decide +kernel
theorem dX0_findDefect_10 : decode cX0_findDefect 10 = .ok (.iconst 0, 1) := by decide +kernel
theorem dX0_findDefect_11 : decode cX0_findDefect 11 = .ok (.istore_n 1, 1) := by decide +kernel
theorem dX0_findDefect_12 : decode cX0_findDefect 12 = .ok (.iload_n 1, 1) := by decide +kernel
theorem dX0_findDefect_13 : decode cX0_findDefect 13 = .ok (.aload_n 0, 1) := by decide +kernel
theorem dX0_findDefect_14 : decode cX0_findDefect 14 = .ok (.getfield 109, 3) := by decide +kernel
theorem dX0_findDefect_17 : decode cX0_findDefect 17 = .ok (.if_icmp .ge 54, 3) := by decide +kernel
theorem dX0_findDefect_20 : decode cX0_findDefect 20 = .ok (.aload_n 0, 1) := by decide +kernel
theorem dX0_findDefect_21 : decode cX0_findDefect 21 = .ok (.getfield 92, 3) := by decide +kernel
theorem dX0_findDefect_24 : decode cX0_findDefect 24 = .ok (.ifCond .ne 47, 3) := by decide +kernel
theorem dX0_findDefect_27 : decode cX0_findDefect 27 = .ok (.aload_n 0, 1) := by decide +kernel
theorem dX0_findDefect_28 : decode cX0_findDefect 28 = .ok (.getfield 80, 3) := by decide +kernel
theorem dX0_findDefect_31 : decode cX0_findDefect 31 = .ok (.iload_n 1, 1) := by decide +kernel
theorem dX0_findDefect_32 : decode cX0_findDefect 32 = .ok (.invokestatic 130, 3) := by decide +kernel
theorem dX0_findDefect_35 : decode cX0_findDefect 35 = .ok (.ifCond .eq 30, 3) := by decide +kernel
theorem dX0_findDefect_38 : decode cX0_findDefect 38 = .ok (.aload_n 0, 1) := by decide +kernel
theorem dX0_findDefect_39 : decode cX0_findDefect 39 = .ok (.iload_n 1, 1) := by decide +kernel
theorem dX0_findDefect_40 : decode cX0_findDefect 40 = .ok (.aload_n 0, 1) := by decide +kernel
theorem dX0_findDefect_41 : decode cX0_findDefect 41 = .ok (.getfield 9, 3) := by decide +kernel
theorem dX0_findDefect_44 : decode cX0_findDefect 44 = .ok (.iload_n 1, 1) := by decide +kernel
theorem dX0_findDefect_45 : decode cX0_findDefect 45 = .ok (.baload, 1) := by decide +kernel
theorem dX0_findDefect_46 : decode cX0_findDefect 46 = .ok (.ifCond .eq 11, 3) := by decide +kernel
theorem dX0_findDefect_49 : decode cX0_findDefect 49 = .ok (.aload_n 0, 1) := by decide +kernel
theorem dX0_findDefect_50 : decode cX0_findDefect 50 = .ok (.iload_n 1, 1) := by decide +kernel
theorem dX0_findDefect_51 : decode cX0_findDefect 51 = .ok (.invokevirtual 152, 3) := by decide +kernel
theorem dX0_findDefect_54 : decode cX0_findDefect 54 = .ok (.goto 8, 3) := by decide +kernel
theorem dX0_findDefect_57 : decode cX0_findDefect 57 = .ok (.aload_n 0, 1) := by decide +kernel
theorem dX0_findDefect_58 : decode cX0_findDefect 58 = .ok (.iload_n 1, 1) := by decide +kernel
theorem dX0_findDefect_59 : decode cX0_findDefect 59 = .ok (.invokevirtual 155, 3) := by decide +kernel
theorem dX0_findDefect_62 : decode cX0_findDefect 62 = .ok (.invokevirtual 158, 3) := by decide +kernel
theorem dX0_findDefect_65 : decode cX0_findDefect 65 = .ok (.iinc 1 1, 3) := by decide +kernel
theorem dX0_findDefect_68 : decode cX0_findDefect 68 = .ok (.goto (-56), 3) := by decide +kernel
theorem dX0_findDefect_71 : decode cX0_findDefect 71 = .ok (.iconst 0, 1) := by decide +kernel
theorem dX0_findDefect_72 : decode cX0_findDefect 72 = .ok (.istore_n 1, 1) := by decide +kernel
theorem dX0_findDefect_73 : decode cX0_findDefect 73 = .ok (.iload_n 1, 1) := by decide +kernel
theorem dX0_findDefect_74 : decode cX0_findDefect 74 = .ok (.aload_n 0, 1) := by decide +kernel
theorem dX0_findDefect_75 : decode cX0_findDefect 75 = .ok (.getfield 109, 3) := by decide +kernel
theorem dX0_findDefect_78 : decode cX0_findDefect 78 = .ok (.if_icmp .ge 51, 3) := by decide +kernel
theorem dX0_findDefect_81 : decode cX0_findDefect 81 = .ok (.aload_n 0, 1) := by decide +kernel
theorem dX0_findDefect_82 : decode cX0_findDefect 82 = .ok (.getfield 92, 3) := by decide +kernel
theorem dX0_findDefect_85 : decode cX0_findDefect 85 = .ok (.ifCond .ne 44, 3) := by decide +kernel
theorem dX0_findDefect_88 : decode cX0_findDefect 88 = .ok (.aload_n 0, 1) := by decide +kernel
theorem dX0_findDefect_89 : decode cX0_findDefect 89 = .ok (.getfield 80, 3) := by decide +kernel
theorem dX0_findDefect_92 : decode cX0_findDefect 92 = .ok (.iload_n 1, 1) := by decide +kernel
theorem dX0_findDefect_93 : decode cX0_findDefect 93 = .ok (.invokestatic 130, 3) := by decide +kernel
theorem dX0_findDefect_96 : decode cX0_findDefect 96 = .ok (.ifCond .eq 27, 3) := by decide +kernel
theorem dX0_findDefect_99 : decode cX0_findDefect 99 = .ok (.aload_n 0, 1) := by decide +kernel
theorem dX0_findDefect_100 : decode cX0_findDefect 100 = .ok (.iload_n 1, 1) := by decide +kernel
theorem dX0_findDefect_101 : decode cX0_findDefect 101 = .ok (.aload_n 0, 1) := by decide +kernel
theorem dX0_findDefect_102 : decode cX0_findDefect 102 = .ok (.getfield 23, 3) := by decide +kernel
theorem dX0_findDefect_105 : decode cX0_findDefect 105 = .ok (.iload_n 1, 1) := by decide +kernel
theorem dX0_findDefect_106 : decode cX0_findDefect 106 = .ok (.laload, 1) := by decide +kernel
theorem dX0_findDefect_107 : decode cX0_findDefect 107 = .ok (.iload_n 1, 1) := by decide +kernel
theorem dX0_findDefect_108 : decode cX0_findDefect 108 = .ok (.invokestatic 130, 3) := by decide +kernel
theorem dX0_findDefect_111 : decode cX0_findDefect 111 = .ok (.ifCond .eq 8, 3) := by decide +kernel
theorem dX0_findDefect_114 : decode cX0_findDefect 114 = .ok (.bipush 6, 2) := by decide +kernel
theorem dX0_findDefect_116 : decode cX0_findDefect 116 = .ok (.goto 4, 3) := by decide +kernel
theorem dX0_findDefect_119 : decode cX0_findDefect 119 = .ok (.iconst 0, 1) := by decide +kernel
theorem dX0_findDefect_120 : decode cX0_findDefect 120 = .ok (.invokevirtual 158, 3) := by decide +kernel
theorem dX0_findDefect_123 : decode cX0_findDefect 123 = .ok (.iinc 1 1, 3) := by decide +kernel
theorem dX0_findDefect_126 : decode cX0_findDefect 126 = .ok (.goto (-53), 3) := by decide +kernel
theorem dX0_findDefect_129 : decode cX0_findDefect 129 = .ok (.return_, 1) := by decide +kernel
theorem dX0_noteDefect_0 : decode cX0_noteDefect 0 = .ok (.iload_n 2, 1) := by decide +kernel
theorem dX0_noteDefect_1 : decode cX0_noteDefect 1 = .ok (.ifCond .eq 13, 3) := by decide +kernel
theorem dX0_noteDefect_4 : decode cX0_noteDefect 4 = .ok (.aload_n 0, 1) := by decide +kernel
theorem dX0_noteDefect_5 : decode cX0_noteDefect 5 = .ok (.iload_n 2, 1) := by decide +kernel
theorem dX0_noteDefect_6 : decode cX0_noteDefect 6 = .ok (.putfield 92, 3) := by decide +kernel
theorem dX0_noteDefect_9 : decode cX0_noteDefect 9 = .ok (.aload_n 0, 1) := by decide +kernel
theorem dX0_noteDefect_10 : decode cX0_noteDefect 10 = .ok (.iload_n 1, 1) := by decide +kernel
theorem dX0_noteDefect_11 : decode cX0_noteDefect 11 = .ok (.putfield 96, 3) := by decide +kernel
theorem dX0_noteDefect_14 : decode cX0_noteDefect 14 = .ok (.return_, 1) := by decide +kernel
theorem dX0_defectOfOpen_0 : decode cX0_defectOfOpen 0 = .ok (.aload_n 0, 1) := by decide +kernel
theorem dX0_defectOfOpen_1 : decode cX0_defectOfOpen 1 = .ok (.iload_n 1, 1) := by decide +kernel
theorem dX0_defectOfOpen_2 : decode cX0_defectOfOpen 2 = .ok (.invokevirtual 120, 3) := by decide +kernel
theorem dX0_defectOfOpen_5 : decode cX0_defectOfOpen 5 = .ok (.ifCond .ne 5, 3) := by decide +kernel
theorem dX0_defectOfOpen_8 : decode cX0_defectOfOpen 8 = .ok (.iconst 2, 1) := by decide +kernel
theorem dX0_defectOfOpen_9 : decode cX0_defectOfOpen 9 = .ok (.ireturn, 1) := by decide +kernel
theorem dX0_defectOfOpen_10 : decode cX0_defectOfOpen 10 = .ok (.aload_n 0, 1) := by decide +kernel
theorem dX0_defectOfOpen_11 : decode cX0_defectOfOpen 11 = .ok (.getfield 13, 3) := by decide +kernel
theorem dX0_defectOfOpen_14 : decode cX0_defectOfOpen 14 = .ok (.iload_n 1, 1) := by decide +kernel
theorem dX0_defectOfOpen_15 : decode cX0_defectOfOpen 15 = .ok (.iaload, 1) := by decide +kernel
theorem dX0_defectOfOpen_16 : decode cX0_defectOfOpen 16 = .ok (.iconst 1, 1) := by decide +kernel
theorem dX0_defectOfOpen_17 : decode cX0_defectOfOpen 17 = .ok (.if_icmp .le 17, 3) := by decide +kernel
theorem dX0_defectOfOpen_20 : decode cX0_defectOfOpen 20 = .ok (.aload_n 0, 1) := by decide +kernel
theorem dX0_defectOfOpen_21 : decode cX0_defectOfOpen 21 = .ok (.getfield 17, 3) := by decide +kernel
theorem dX0_defectOfOpen_24 : decode cX0_defectOfOpen 24 = .ok (.iload_n 1, 1) := by decide +kernel
theorem dX0_defectOfOpen_25 : decode cX0_defectOfOpen 25 = .ok (.iaload, 1) := by decide +kernel
theorem dX0_defectOfOpen_26 : decode cX0_defectOfOpen 26 = .ok (.iconst 1, 1) := by decide +kernel
theorem dX0_defectOfOpen_27 : decode cX0_defectOfOpen 27 = .ok (.if_icmp .le 7, 3) := by decide +kernel
theorem dX0_defectOfOpen_30 : decode cX0_defectOfOpen 30 = .ok (.iconst 3, 1) := by decide +kernel
theorem dX0_defectOfOpen_31 : decode cX0_defectOfOpen 31 = .ok (.goto 4, 3) := by decide +kernel
theorem dX0_defectOfOpen_34 : decode cX0_defectOfOpen 34 = .ok (.iconst 0, 1) := by decide +kernel
theorem dX0_defectOfOpen_35 : decode cX0_defectOfOpen 35 = .ok (.ireturn, 1) := by decide +kernel
theorem dX0_defectOfEnd_0 : decode cX0_defectOfEnd 0 = .ok (.aload_n 0, 1) := by decide +kernel
theorem dX0_defectOfEnd_1 : decode cX0_defectOfEnd 1 = .ok (.getfield 13, 3) := by decide +kernel
theorem dX0_defectOfEnd_4 : decode cX0_defectOfEnd 4 = .ok (.iload_n 1, 1) := by decide +kernel
theorem dX0_defectOfEnd_5 : decode cX0_defectOfEnd 5 = .ok (.iaload, 1) := by decide +kernel
theorem dX0_defectOfEnd_6 : decode cX0_defectOfEnd 6 = .ok (.ifCond .lt 12, 3) := by decide +kernel
theorem dX0_defectOfEnd_9 : decode cX0_defectOfEnd 9 = .ok (.aload_n 0, 1) := by decide +kernel
theorem dX0_defectOfEnd_10 : decode cX0_defectOfEnd 10 = .ok (.getfield 17, 3) := by decide +kernel
theorem dX0_defectOfEnd_13 : decode cX0_defectOfEnd 13 = .ok (.iload_n 1, 1) := by decide +kernel
theorem dX0_defectOfEnd_14 : decode cX0_defectOfEnd 14 = .ok (.iaload, 1) := by decide +kernel
theorem dX0_defectOfEnd_15 : decode cX0_defectOfEnd 15 = .ok (.ifCond .ge 5, 3) := by decide +kernel
theorem dX0_defectOfEnd_18 : decode cX0_defectOfEnd 18 = .ok (.iconst 4, 1) := by decide +kernel
theorem dX0_defectOfEnd_19 : decode cX0_defectOfEnd 19 = .ok (.ireturn, 1) := by decide +kernel
theorem dX0_defectOfEnd_20 : decode cX0_defectOfEnd 20 = .ok (.aload_n 0, 1) := by decide +kernel
theorem dX0_defectOfEnd_21 : decode cX0_defectOfEnd 21 = .ok (.getfield 13, 3) := by decide +kernel
theorem dX0_defectOfEnd_24 : decode cX0_defectOfEnd 24 = .ok (.iload_n 1, 1) := by decide +kernel
theorem dX0_defectOfEnd_25 : decode cX0_defectOfEnd 25 = .ok (.iaload, 1) := by decide +kernel
theorem dX0_defectOfEnd_26 : decode cX0_defectOfEnd 26 = .ok (.aload_n 0, 1) := by decide +kernel
theorem dX0_defectOfEnd_27 : decode cX0_defectOfEnd 27 = .ok (.getfield 17, 3) := by decide +kernel
theorem dX0_defectOfEnd_30 : decode cX0_defectOfEnd 30 = .ok (.iload_n 1, 1) := by decide +kernel
theorem dX0_defectOfEnd_31 : decode cX0_defectOfEnd 31 = .ok (.iaload, 1) := by decide +kernel
theorem dX0_defectOfEnd_32 : decode cX0_defectOfEnd 32 = .ok (.iadd, 1) := by decide +kernel
theorem dX0_defectOfEnd_33 : decode cX0_defectOfEnd 33 = .ok (.bipush 100, 2) := by decide +kernel
theorem dX0_defectOfEnd_35 : decode cX0_defectOfEnd 35 = .ok (.if_icmp .eq 7, 3) := by decide +kernel
theorem dX0_defectOfEnd_38 : decode cX0_defectOfEnd 38 = .ok (.iconst 5, 1) := by decide +kernel
theorem dX0_defectOfEnd_39 : decode cX0_defectOfEnd 39 = .ok (.goto 4, 3) := by decide +kernel
theorem dX0_defectOfEnd_42 : decode cX0_defectOfEnd 42 = .ok (.iconst 0, 1) := by decide +kernel
theorem dX0_defectOfEnd_43 : decode cX0_defectOfEnd 43 = .ok (.ireturn, 1) := by decide +kernel
theorem dX0_findLengths_0 : decode cX0_findLengths 0 = .ok (.lconst 0, 1) := by decide +kernel
theorem dX0_findLengths_1 : decode cX0_findLengths 1 = .ok (.lstore_n 1, 1) := by decide +kernel
theorem dX0_findLengths_2 : decode cX0_findLengths 2 = .ok (.iconst 0, 1) := by decide +kernel
theorem dX0_findLengths_3 : decode cX0_findLengths 3 = .ok (.istore_n 3, 1) := by decide +kernel
theorem dX0_findLengths_4 : decode cX0_findLengths 4 = .ok (.iload_n 3, 1) := by decide +kernel
theorem dX0_findLengths_5 : decode cX0_findLengths 5 = .ok (.aload_n 0, 1) := by decide +kernel
theorem dX0_findLengths_6 : decode cX0_findLengths 6 = .ok (.getfield 109, 3) := by decide +kernel
theorem dX0_findLengths_9 : decode cX0_findLengths 9 = .ok (.if_icmp .ge 98, 3) := by decide +kernel
theorem dX0_findLengths_12 : decode cX0_findLengths 12 = .ok (.lload_n 1, 1) := by decide +kernel
theorem dX0_findLengths_13 : decode cX0_findLengths 13 = .ok (.lstore 4, 2) := by decide +kernel
theorem dX0_findLengths_15 : decode cX0_findLengths 15 = .ok (.iconst 0, 1) := by decide +kernel
theorem dX0_findLengths_16 : decode cX0_findLengths 16 = .ok (.istore 6, 2) := by decide +kernel
theorem dX0_findLengths_18 : decode cX0_findLengths 18 = .ok (.iload 6, 2) := by decide +kernel
theorem dX0_findLengths_20 : decode cX0_findLengths 20 = .ok (.aload_n 0, 1) := by decide +kernel
theorem dX0_findLengths_21 : decode cX0_findLengths 21 = .ok (.getfield 109, 3) := by decide +kernel
theorem dX0_findLengths_24 : decode cX0_findLengths 24 = .ok (.if_icmp .ge 77, 3) := by decide +kernel
theorem dX0_findLengths_27 : decode cX0_findLengths 27 = .ok (.aload_n 0, 1) := by decide +kernel
theorem dX0_findLengths_28 : decode cX0_findLengths 28 = .ok (.getfield 80, 3) := by decide +kernel
theorem dX0_findLengths_31 : decode cX0_findLengths 31 = .ok (.iload 6, 2) := by decide +kernel
theorem dX0_findLengths_33 : decode cX0_findLengths 33 = .ok (.invokestatic 130, 3) := by decide +kernel
theorem dX0_findLengths_36 : decode cX0_findLengths 36 = .ok (.ifCond .eq 17, 3) := by decide +kernel
theorem dX0_findLengths_39 : decode cX0_findLengths 39 = .ok (.lload 4, 2) := by decide +kernel
theorem dX0_findLengths_41 : decode cX0_findLengths 41 = .ok (.iload 6, 2) := by decide +kernel
theorem dX0_findLengths_43 : decode cX0_findLengths 43 = .ok (.invokestatic 130, 3) := by decide +kernel
theorem dX0_findLengths_46 : decode cX0_findLengths 46 = .ok (.ifCond .ne 7, 3) := by decide +kernel
theorem dX0_findLengths_49 : decode cX0_findLengths 49 = .ok (.iconst 1, 1) := by decide +kernel
theorem dX0_findLengths_50 : decode cX0_findLengths 50 = .ok (.goto 4, 3) := by decide +kernel
theorem dX0_findLengths_53 : decode cX0_findLengths 53 = .ok (.iconst 0, 1) := by decide +kernel
theorem dX0_findLengths_54 : decode cX0_findLengths 54 = .ok (.istore 7, 2) := by decide +kernel
theorem dX0_findLengths_56 : decode cX0_findLengths 56 = .ok (.iload 7, 2) := by decide +kernel
theorem dX0_findLengths_58 : decode cX0_findLengths 58 = .ok (.ifCond .eq 37, 3) := by decide +kernel
theorem dX0_findLengths_61 : decode cX0_findLengths 61 = .ok (.aload_n 0, 1) := by decide +kernel
theorem dX0_findLengths_62 : decode cX0_findLengths 62 = .ok (.getfield 23, 3) := by decide +kernel
theorem dX0_findLengths_65 : decode cX0_findLengths 65 = .ok (.iload 6, 2) := by decide +kernel
theorem dX0_findLengths_67 : decode cX0_findLengths 67 = .ok (.laload, 1) := by decide +kernel
theorem dX0_findLengths_68 : decode cX0_findLengths 68 = .ok (.lload 4, 2) := by decide +kernel
theorem dX0_findLengths_70 : decode cX0_findLengths 70 = .ok (.ldc2_w 161, 3) := by decide +kernel
theorem dX0_findLengths_73 : decode cX0_findLengths 73 = .ok (.lxor, 1) := by decide +kernel
theorem dX0_findLengths_74 : decode cX0_findLengths 74 = .ok (.land, 1) := by decide +kernel
theorem dX0_findLengths_75 : decode cX0_findLengths 75 = .ok (.lconst 0, 1) := by decide +kernel
theorem dX0_findLengths_76 : decode cX0_findLengths 76 = .ok (.lcmp, 1) := by decide +kernel
theorem dX0_findLengths_77 : decode cX0_findLengths 77 = .ok (.ifCond .ne 18, 3) := by decide +kernel
theorem dX0_findLengths_80 : decode cX0_findLengths 80 = .ok (.aload_n 0, 1) := by decide +kernel
theorem dX0_findLengths_81 : decode cX0_findLengths 81 = .ok (.getfield 27, 3) := by decide +kernel
theorem dX0_findLengths_84 : decode cX0_findLengths 84 = .ok (.iload 6, 2) := by decide +kernel
theorem dX0_findLengths_86 : decode cX0_findLengths 86 = .ok (.iload_n 3, 1) := by decide +kernel
theorem dX0_findLengths_87 : decode cX0_findLengths 87 = .ok (.iastore, 1) := by decide +kernel
theorem dX0_findLengths_88 : decode cX0_findLengths 88 = .ok (.lload_n 1, 1) := by decide +kernel
theorem dX0_findLengths_89 : decode cX0_findLengths 89 = .ok (.lconst 1, 1) := by decide +kernel
theorem dX0_findLengths_90 : decode cX0_findLengths 90 = .ok (.iload 6, 2) := by decide +kernel
theorem dX0_findLengths_92 : decode cX0_findLengths 92 = .ok (.lshl, 1) := by decide +kernel
theorem dX0_findLengths_93 : decode cX0_findLengths 93 = .ok (.lor, 1) := by decide +kernel
theorem dX0_findLengths_94 : decode cX0_findLengths 94 = .ok (.lstore_n 1, 1) := by decide +kernel
theorem dX0_findLengths_95 : decode cX0_findLengths 95 = .ok (.iinc 6 1, 3) := by decide +kernel
theorem dX0_findLengths_98 : decode cX0_findLengths 98 = .ok (.goto (-80), 3) := by decide +kernel
theorem dX0_findLengths_101 : decode cX0_findLengths 101 = .ok (.iinc 3 1, 3) := by decide +kernel
theorem dX0_findLengths_104 : decode cX0_findLengths 104 = .ok (.goto (-100), 3) := by decide +kernel
theorem dX0_findLengths_107 : decode cX0_findLengths 107 = .ok (.return_, 1) := by decide +kernel
theorem dX0_boundValues_0 : decode cX0_boundValues 0 = .ok (.iconst 0, 1) := by decide +kernel
theorem dX0_boundValues_1 : decode cX0_boundValues 1 = .ok (.istore_n 1, 1) := by decide +kernel
theorem dX0_boundValues_2 : decode cX0_boundValues 2 = .ok (.iload_n 1, 1) := by decide +kernel
theorem dX0_boundValues_3 : decode cX0_boundValues 3 = .ok (.aload_n 0, 1) := by decide +kernel
theorem dX0_boundValues_4 : decode cX0_boundValues 4 = .ok (.getfield 109, 3) := by decide +kernel
theorem dX0_boundValues_7 : decode cX0_boundValues 7 = .ok (.if_icmp .ge 60, 3) := by decide +kernel
theorem dX0_boundValues_10 : decode cX0_boundValues 10 = .ok (.aload_n 0, 1) := by decide +kernel
theorem dX0_boundValues_11 : decode cX0_boundValues 11 = .ok (.getfield 30, 3) := by decide +kernel
theorem dX0_boundValues_14 : decode cX0_boundValues 14 = .ok (.iload_n 1, 1) := by decide +kernel
theorem dX0_boundValues_15 : decode cX0_boundValues 15 = .ok (.aload_n 0, 1) := by decide +kernel
theorem dX0_boundValues_16 : decode cX0_boundValues 16 = .ok (.getfield 9, 3) := by decide +kernel
theorem dX0_boundValues_19 : decode cX0_boundValues 19 = .ok (.iload_n 1, 1) := by decide +kernel
theorem dX0_boundValues_20 : decode cX0_boundValues 20 = .ok (.baload, 1) := by decide +kernel
theorem dX0_boundValues_21 : decode cX0_boundValues 21 = .ok (.ifCond .eq 7, 3) := by decide +kernel
theorem dX0_boundValues_24 : decode cX0_boundValues 24 = .ok (.iconst 0, 1) := by decide +kernel
theorem dX0_boundValues_25 : decode cX0_boundValues 25 = .ok (.goto 9, 3) := by decide +kernel
theorem dX0_boundValues_28 : decode cX0_boundValues 28 = .ok (.aload_n 0, 1) := by decide +kernel
theorem dX0_boundValues_29 : decode cX0_boundValues 29 = .ok (.getfield 13, 3) := by decide +kernel
theorem dX0_boundValues_32 : decode cX0_boundValues 32 = .ok (.iload_n 1, 1) := by decide +kernel
theorem dX0_boundValues_33 : decode cX0_boundValues 33 = .ok (.iaload, 1) := by decide +kernel
theorem dX0_boundValues_34 : decode cX0_boundValues 34 = .ok (.iastore, 1) := by decide +kernel
theorem dX0_boundValues_35 : decode cX0_boundValues 35 = .ok (.aload_n 0, 1) := by decide +kernel
theorem dX0_boundValues_36 : decode cX0_boundValues 36 = .ok (.getfield 33, 3) := by decide +kernel
theorem dX0_boundValues_39 : decode cX0_boundValues 39 = .ok (.iload_n 1, 1) := by decide +kernel
theorem dX0_boundValues_40 : decode cX0_boundValues 40 = .ok (.aload_n 0, 1) := by decide +kernel
theorem dX0_boundValues_41 : decode cX0_boundValues 41 = .ok (.getfield 9, 3) := by decide +kernel
theorem dX0_boundValues_44 : decode cX0_boundValues 44 = .ok (.iload_n 1, 1) := by decide +kernel
theorem dX0_boundValues_45 : decode cX0_boundValues 45 = .ok (.baload, 1) := by decide +kernel
theorem dX0_boundValues_46 : decode cX0_boundValues 46 = .ok (.ifCond .eq 8, 3) := by decide +kernel
theorem dX0_boundValues_49 : decode cX0_boundValues 49 = .ok (.bipush 100, 2) := by decide +kernel
theorem dX0_boundValues_51 : decode cX0_boundValues 51 = .ok (.goto 9, 3) := by decide +kernel
theorem dX0_boundValues_54 : decode cX0_boundValues 54 = .ok (.aload_n 0, 1) := by decide +kernel
theorem dX0_boundValues_55 : decode cX0_boundValues 55 = .ok (.getfield 13, 3) := by decide +kernel
theorem dX0_boundValues_58 : decode cX0_boundValues 58 = .ok (.iload_n 1, 1) := by decide +kernel
theorem dX0_boundValues_59 : decode cX0_boundValues 59 = .ok (.iaload, 1) := by decide +kernel
theorem dX0_boundValues_60 : decode cX0_boundValues 60 = .ok (.iastore, 1) := by decide +kernel
theorem dX0_boundValues_61 : decode cX0_boundValues 61 = .ok (.iinc 1 1, 3) := by decide +kernel
theorem dX0_boundValues_64 : decode cX0_boundValues 64 = .ok (.goto (-62), 3) := by decide +kernel
theorem dX0_boundValues_67 : decode cX0_boundValues 67 = .ok (.return_, 1) := by decide +kernel
theorem dX0_findValue_0 : decode cX0_findValue 0 = .ok (.aload_n 0, 1) := by decide +kernel
theorem dX0_findValue_1 : decode cX0_findValue 1 = .ok (.iload_n 1, 1) := by decide +kernel
theorem dX0_findValue_2 : decode cX0_findValue 2 = .ok (.iconst 0, 1) := by decide +kernel
theorem dX0_findValue_3 : decode cX0_findValue 3 = .ok (.bipush 100, 2) := by decide +kernel
theorem dX0_findValue_5 : decode cX0_findValue 5 = .ok (.iconst 0, 1) := by decide +kernel
theorem dX0_findValue_6 : decode cX0_findValue 6 = .ok (.invokevirtual 163, 3) := by decide +kernel
theorem dX0_findValue_9 : decode cX0_findValue 9 = .ok (.ireturn, 1) := by decide +kernel
theorem dX0_findBest_0 : decode cX0_findBest 0 = .ok (.aload_n 0, 1) := by decide +kernel
theorem dX0_findBest_1 : decode cX0_findBest 1 = .ok (.iload_n 1, 1) := by decide +kernel
theorem dX0_findBest_2 : decode cX0_findBest 2 = .ok (.invokevirtual 102, 3) := by decide +kernel
theorem dX0_findBest_5 : decode cX0_findBest 5 = .ok (.istore_n 2, 1) := by decide +kernel
theorem dX0_findBest_6 : decode cX0_findBest 6 = .ok (.aload_n 0, 1) := by decide +kernel
theorem dX0_findBest_7 : decode cX0_findBest 7 = .ok (.iload_n 1, 1) := by decide +kernel
theorem dX0_findBest_8 : decode cX0_findBest 8 = .ok (.invokevirtual 120, 3) := by decide +kernel
theorem dX0_findBest_11 : decode cX0_findBest 11 = .ok (.istore_n 3, 1) := by decide +kernel
theorem dX0_findBest_12 : decode cX0_findBest 12 = .ok (.iconst 0, 1) := by decide +kernel
theorem dX0_findBest_13 : decode cX0_findBest 13 = .ok (.istore 4, 2) := by decide +kernel
theorem dX0_findBest_15 : decode cX0_findBest 15 = .ok (.iload 4, 2) := by decide +kernel
theorem dX0_findBest_17 : decode cX0_findBest 17 = .ok (.iload_n 3, 1) := by decide +kernel
theorem dX0_findBest_18 : decode cX0_findBest 18 = .ok (.if_icmp .ge 34, 3) := by decide +kernel
theorem dX0_findBest_21 : decode cX0_findBest 21 = .ok (.aload_n 0, 1) := by decide +kernel
theorem dX0_findBest_22 : decode cX0_findBest 22 = .ok (.aload_n 0, 1) := by decide +kernel
theorem dX0_findBest_23 : decode cX0_findBest 23 = .ok (.iload_n 1, 1) := by decide +kernel
theorem dX0_findBest_24 : decode cX0_findBest 24 = .ok (.iload 4, 2) := by decide +kernel
theorem dX0_findBest_26 : decode cX0_findBest 26 = .ok (.invokevirtual 73, 3) := by decide +kernel
theorem dX0_findBest_29 : decode cX0_findBest 29 = .ok (.iload_n 2, 1) := by decide +kernel
theorem dX0_findBest_30 : decode cX0_findBest 30 = .ok (.iconst 1, 1) := by decide +kernel
theorem dX0_findBest_31 : decode cX0_findBest 31 = .ok (.isub, 1) := by decide +kernel
theorem dX0_findBest_32 : decode cX0_findBest 32 = .ok (.iload_n 2, 1) := by decide +kernel
theorem dX0_findBest_33 : decode cX0_findBest 33 = .ok (.iconst 1, 1) := by decide +kernel
theorem dX0_findBest_34 : decode cX0_findBest 34 = .ok (.iadd, 1) := by decide +kernel
theorem dX0_findBest_35 : decode cX0_findBest 35 = .ok (.iconst 0, 1) := by decide +kernel
theorem dX0_findBest_36 : decode cX0_findBest 36 = .ok (.invokevirtual 163, 3) := by decide +kernel
theorem dX0_findBest_39 : decode cX0_findBest 39 = .ok (.iload_n 2, 1) := by decide +kernel
theorem dX0_findBest_40 : decode cX0_findBest 40 = .ok (.if_icmp .ne 6, 3) := by decide +kernel
theorem dX0_findBest_43 : decode cX0_findBest 43 = .ok (.iload 4, 2) := by decide +kernel
theorem dX0_findBest_45 : decode cX0_findBest 45 = .ok (.ireturn, 1) := by decide +kernel
theorem dX0_findBest_46 : decode cX0_findBest 46 = .ok (.iinc 4 1, 3) := by decide +kernel
theorem dX0_findBest_49 : decode cX0_findBest 49 = .ok (.goto (-34), 3) := by decide +kernel
theorem dX0_findBest_52 : decode cX0_findBest 52 = .ok (.iconst (-1), 1) := by decide +kernel
theorem dX0_findBest_53 : decode cX0_findBest 53 = .ok (.ireturn, 1) := by decide +kernel
theorem dX0_search_0 : decode cX0_search 0 = .ok (.aload_n 0, 1) := by decide +kernel
theorem dX0_search_1 : decode cX0_search 1 = .ok (.getfield 30, 3) := by decide +kernel
theorem dX0_search_4 : decode cX0_search 4 = .ok (.iload_n 1, 1) := by decide +kernel
theorem dX0_search_5 : decode cX0_search 5 = .ok (.iaload, 1) := by decide +kernel
theorem dX0_search_6 : decode cX0_search 6 = .ok (.aload_n 0, 1) := by decide +kernel
theorem dX0_search_7 : decode cX0_search 7 = .ok (.getfield 33, 3) := by decide +kernel
theorem dX0_search_10 : decode cX0_search 10 = .ok (.iload_n 1, 1) := by decide +kernel
theorem dX0_search_11 : decode cX0_search 11 = .ok (.iaload, 1) := by decide +kernel
theorem dX0_search_12 : decode cX0_search 12 = .ok (.if_icmp .eq 13, 3) := by decide +kernel
theorem dX0_search_15 : decode cX0_search 15 = .ok (.aload_n 0, 1) := by decide +kernel
theorem dX0_search_16 : decode cX0_search 16 = .ok (.getfield 30, 3) := by decide +kernel
theorem dX0_search_19 : decode cX0_search 19 = .ok (.iload_n 1, 1) := by decide +kernel
theorem dX0_search_20 : decode cX0_search 20 = .ok (.iaload, 1) := by decide +kernel
theorem dX0_search_21 : decode cX0_search 21 = .ok (.iload_n 3, 1) := by decide +kernel
theorem dX0_search_22 : decode cX0_search 22 = .ok (.if_icmp .lt 10, 3) := by decide +kernel
theorem dX0_search_25 : decode cX0_search 25 = .ok (.aload_n 0, 1) := by decide +kernel
theorem dX0_search_26 : decode cX0_search 26 = .ok (.getfield 30, 3) := by decide +kernel
theorem dX0_search_29 : decode cX0_search 29 = .ok (.iload_n 1, 1) := by decide +kernel
theorem dX0_search_30 : decode cX0_search 30 = .ok (.iaload, 1) := by decide +kernel
theorem dX0_search_31 : decode cX0_search 31 = .ok (.ireturn, 1) := by decide +kernel
theorem dX0_search_32 : decode cX0_search 32 = .ok (.aload_n 0, 1) := by decide +kernel
theorem dX0_search_33 : decode cX0_search 33 = .ok (.getfield 33, 3) := by decide +kernel
theorem dX0_search_36 : decode cX0_search 36 = .ok (.iload_n 1, 1) := by decide +kernel
theorem dX0_search_37 : decode cX0_search 37 = .ok (.iaload, 1) := by decide +kernel
theorem dX0_search_38 : decode cX0_search 38 = .ok (.iload_n 2, 1) := by decide +kernel
theorem dX0_search_39 : decode cX0_search 39 = .ok (.if_icmp .le 12, 3) := by decide +kernel
theorem dX0_search_42 : decode cX0_search 42 = .ok (.iload 4, 2) := by decide +kernel
theorem dX0_search_44 : decode cX0_search 44 = .ok (.aload_n 0, 1) := by decide +kernel
theorem dX0_search_45 : decode cX0_search 45 = .ok (.getfield 109, 3) := by decide +kernel
theorem dX0_search_48 : decode cX0_search 48 = .ok (.if_icmp .lt 10, 3) := by decide +kernel
theorem dX0_search_51 : decode cX0_search 51 = .ok (.aload_n 0, 1) := by decide +kernel
theorem dX0_search_52 : decode cX0_search 52 = .ok (.getfield 33, 3) := by decide +kernel
theorem dX0_search_55 : decode cX0_search 55 = .ok (.iload_n 1, 1) := by decide +kernel
theorem dX0_search_56 : decode cX0_search 56 = .ok (.iaload, 1) := by decide +kernel
theorem dX0_search_57 : decode cX0_search 57 = .ok (.ireturn, 1) := by decide +kernel
theorem dX0_search_58 : decode cX0_search 58 = .ok (.aload_n 0, 1) := by decide +kernel
theorem dX0_search_59 : decode cX0_search 59 = .ok (.getfield 13, 3) := by decide +kernel
theorem dX0_search_62 : decode cX0_search 62 = .ok (.iload_n 1, 1) := by decide +kernel
theorem dX0_search_63 : decode cX0_search 63 = .ok (.iaload, 1) := by decide +kernel
theorem dX0_search_64 : decode cX0_search 64 = .ok (.iconst 1, 1) := by decide +kernel
theorem dX0_search_65 : decode cX0_search 65 = .ok (.if_icmp .le 15, 3) := by decide +kernel
theorem dX0_search_68 : decode cX0_search 68 = .ok (.aload_n 0, 1) := by decide +kernel
theorem dX0_search_69 : decode cX0_search 69 = .ok (.iload_n 1, 1) := by decide +kernel
theorem dX0_search_70 : decode cX0_search 70 = .ok (.iload_n 2, 1) := by decide +kernel
theorem dX0_search_71 : decode cX0_search 71 = .ok (.iload_n 3, 1) := by decide +kernel
theorem dX0_search_72 : decode cX0_search 72 = .ok (.iload 4, 2) := by decide +kernel
theorem dX0_search_74 : decode cX0_search 74 = .ok (.invokevirtual 167, 3) := by decide +kernel
theorem dX0_search_77 : decode cX0_search 77 = .ok (.goto 12, 3) := by decide +kernel
theorem dX0_search_80 : decode cX0_search 80 = .ok (.aload_n 0, 1) := by decide +kernel
theorem dX0_search_81 : decode cX0_search 81 = .ok (.iload_n 1, 1) := by decide +kernel
theorem dX0_search_82 : decode cX0_search 82 = .ok (.iload_n 2, 1) := by decide +kernel
theorem dX0_search_83 : decode cX0_search 83 = .ok (.iload_n 3, 1) := by decide +kernel
theorem dX0_search_84 : decode cX0_search 84 = .ok (.iload 4, 2) := by decide +kernel
theorem dX0_search_86 : decode cX0_search 86 = .ok (.invokevirtual 170, 3) := by decide +kernel
theorem dX0_search_89 : decode cX0_search 89 = .ok (.istore 5, 2) := by decide +kernel
theorem dX0_search_91 : decode cX0_search 91 = .ok (.iload 5, 2) := by decide +kernel
theorem dX0_search_93 : decode cX0_search 93 = .ok (.iload_n 2, 1) := by decide +kernel
theorem dX0_search_94 : decode cX0_search 94 = .ok (.if_icmp .le 11, 3) := by decide +kernel
theorem dX0_search_97 : decode cX0_search 97 = .ok (.aload_n 0, 1) := by decide +kernel
theorem dX0_search_98 : decode cX0_search 98 = .ok (.getfield 30, 3) := by decide +kernel
theorem dX0_search_101 : decode cX0_search 101 = .ok (.iload_n 1, 1) := by decide +kernel
theorem dX0_search_102 : decode cX0_search 102 = .ok (.iload 5, 2) := by decide +kernel
theorem dX0_search_104 : decode cX0_search 104 = .ok (.iastore, 1) := by decide +kernel
theorem dX0_search_105 : decode cX0_search 105 = .ok (.iload 5, 2) := by decide +kernel
theorem dX0_search_107 : decode cX0_search 107 = .ok (.iload_n 3, 1) := by decide +kernel
theorem dX0_search_108 : decode cX0_search 108 = .ok (.if_icmp .ge 11, 3) := by decide +kernel
theorem dX0_search_111 : decode cX0_search 111 = .ok (.aload_n 0, 1) := by decide +kernel
theorem dX0_search_112 : decode cX0_search 112 = .ok (.getfield 33, 3) := by decide +kernel
theorem dX0_search_115 : decode cX0_search 115 = .ok (.iload_n 1, 1) := by decide +kernel
theorem dX0_search_116 : decode cX0_search 116 = .ok (.iload 5, 2) := by decide +kernel
theorem dX0_search_118 : decode cX0_search 118 = .ok (.iastore, 1) := by decide +kernel
theorem dX0_search_119 : decode cX0_search 119 = .ok (.iload 5, 2) := by decide +kernel
theorem dX0_search_121 : decode cX0_search 121 = .ok (.ireturn, 1) := by decide +kernel
theorem dX0_greatest_0 : decode cX0_greatest 0 = .ok (.iconst 0, 1) := by decide +kernel
theorem dX0_greatest_1 : decode cX0_greatest 1 = .ok (.istore 5, 2) := by decide +kernel
theorem dX0_greatest_3 : decode cX0_greatest 3 = .ok (.aload_n 0, 1) := by decide +kernel
theorem dX0_greatest_4 : decode cX0_greatest 4 = .ok (.iload_n 1, 1) := by decide +kernel
theorem dX0_greatest_5 : decode cX0_greatest 5 = .ok (.invokevirtual 120, 3) := by decide +kernel
theorem dX0_greatest_8 : decode cX0_greatest 8 = .ok (.istore 6, 2) := by decide +kernel
theorem dX0_greatest_10 : decode cX0_greatest 10 = .ok (.iconst 0, 1) := by decide +kernel
theorem dX0_greatest_11 : decode cX0_greatest 11 = .ok (.istore 7, 2) := by decide +kernel
theorem dX0_greatest_13 : decode cX0_greatest 13 = .ok (.iload 7, 2) := by decide +kernel
theorem dX0_greatest_15 : decode cX0_greatest 15 = .ok (.iload 6, 2) := by decide +kernel
theorem dX0_greatest_17 : decode cX0_greatest 17 = .ok (.if_icmp .ge 44, 3) := by decide +kernel
theorem dX0_greatest_20 : decode cX0_greatest 20 = .ok (.iload 5, 2) := by decide +kernel
theorem dX0_greatest_22 : decode cX0_greatest 22 = .ok (.iload_n 3, 1) := by decide +kernel
theorem dX0_greatest_23 : decode cX0_greatest 23 = .ok (.if_icmp .ge 38, 3) := by decide +kernel
theorem dX0_greatest_26 : decode cX0_greatest 26 = .ok (.iload 5, 2) := by decide +kernel
theorem dX0_greatest_28 : decode cX0_greatest 28 = .ok (.aload_n 0, 1) := by decide +kernel
theorem dX0_greatest_29 : decode cX0_greatest 29 = .ok (.aload_n 0, 1) := by decide +kernel
theorem dX0_greatest_30 : decode cX0_greatest 30 = .ok (.iload_n 1, 1) := by decide +kernel
theorem dX0_greatest_31 : decode cX0_greatest 31 = .ok (.iload 7, 2) := by decide +kernel
theorem dX0_greatest_33 : decode cX0_greatest 33 = .ok (.invokevirtual 73, 3) := by decide +kernel
theorem dX0_greatest_36 : decode cX0_greatest 36 = .ok (.iload_n 2, 1) := by decide +kernel
theorem dX0_greatest_37 : decode cX0_greatest 37 = .ok (.iload 5, 2) := by decide +kernel
theorem dX0_greatest_39 : decode cX0_greatest 39 = .ok (.invokestatic 173, 3) := by decide +kernel
theorem dX0_greatest_42 : decode cX0_greatest 42 = .ok (.iload_n 3, 1) := by decide +kernel
theorem dX0_greatest_43 : decode cX0_greatest 43 = .ok (.iload 4, 2) := by decide +kernel
theorem dX0_greatest_45 : decode cX0_greatest 45 = .ok (.iconst 1, 1) := by decide +kernel
theorem dX0_greatest_46 : decode cX0_greatest 46 = .ok (.iadd, 1) := by decide +kernel
theorem dX0_greatest_47 : decode cX0_greatest 47 = .ok (.invokevirtual 163, 3) := by decide +kernel
theorem dX0_greatest_50 : decode cX0_greatest 50 = .ok (.invokestatic 173, 3) := by decide +kernel
theorem dX0_greatest_53 : decode cX0_greatest 53 = .ok (.istore 5, 2) := by decide +kernel
theorem dX0_greatest_55 : decode cX0_greatest 55 = .ok (.iinc 7 1, 3) := by decide +kernel
theorem dX0_greatest_58 : decode cX0_greatest 58 = .ok (.goto (-45), 3) := by decide +kernel
theorem dX0_greatest_61 : decode cX0_greatest 61 = .ok (.iload 5, 2) := by decide +kernel
theorem dX0_greatest_63 : decode cX0_greatest 63 = .ok (.ireturn, 1) := by decide +kernel
theorem dX0_least_0 : decode cX0_least 0 = .ok (.bipush 100, 2) := by decide +kernel
theorem dX0_least_2 : decode cX0_least 2 = .ok (.istore 5, 2) := by decide +kernel
theorem dX0_least_4 : decode cX0_least 4 = .ok (.aload_n 0, 1) := by decide +kernel
theorem dX0_least_5 : decode cX0_least 5 = .ok (.iload_n 1, 1) := by decide +kernel
theorem dX0_least_6 : decode cX0_least 6 = .ok (.invokevirtual 120, 3) := by decide +kernel
theorem dX0_least_9 : decode cX0_least 9 = .ok (.istore 6, 2) := by decide +kernel
theorem dX0_least_11 : decode cX0_least 11 = .ok (.iconst 0, 1) := by decide +kernel
theorem dX0_least_12 : decode cX0_least 12 = .ok (.istore 7, 2) := by decide +kernel
theorem dX0_least_14 : decode cX0_least 14 = .ok (.iload 7, 2) := by decide +kernel
theorem dX0_least_16 : decode cX0_least 16 = .ok (.iload 6, 2) := by decide +kernel
theorem dX0_least_18 : decode cX0_least 18 = .ok (.if_icmp .ge 44, 3) := by decide +kernel
theorem dX0_least_21 : decode cX0_least 21 = .ok (.iload 5, 2) := by decide +kernel
theorem dX0_least_23 : decode cX0_least 23 = .ok (.iload_n 2, 1) := by decide +kernel
theorem dX0_least_24 : decode cX0_least 24 = .ok (.if_icmp .le 38, 3) := by decide +kernel
theorem dX0_least_27 : decode cX0_least 27 = .ok (.iload 5, 2) := by decide +kernel
theorem dX0_least_29 : decode cX0_least 29 = .ok (.aload_n 0, 1) := by decide +kernel
theorem dX0_least_30 : decode cX0_least 30 = .ok (.aload_n 0, 1) := by decide +kernel
theorem dX0_least_31 : decode cX0_least 31 = .ok (.iload_n 1, 1) := by decide +kernel
theorem dX0_least_32 : decode cX0_least 32 = .ok (.iload 7, 2) := by decide +kernel
theorem dX0_least_34 : decode cX0_least 34 = .ok (.invokevirtual 73, 3) := by decide +kernel
theorem dX0_least_37 : decode cX0_least 37 = .ok (.iload_n 2, 1) := by decide +kernel
theorem dX0_least_38 : decode cX0_least 38 = .ok (.iload_n 3, 1) := by decide +kernel
theorem dX0_least_39 : decode cX0_least 39 = .ok (.iload 5, 2) := by decide +kernel
theorem dX0_least_41 : decode cX0_least 41 = .ok (.invokestatic 178, 3) := by decide +kernel
theorem dX0_least_44 : decode cX0_least 44 = .ok (.iload 4, 2) := by decide +kernel
theorem dX0_least_46 : decode cX0_least 46 = .ok (.iconst 1, 1) := by decide +kernel
theorem dX0_least_47 : decode cX0_least 47 = .ok (.iadd, 1) := by decide +kernel
theorem dX0_least_48 : decode cX0_least 48 = .ok (.invokevirtual 163, 3) := by decide +kernel
theorem dX0_least_51 : decode cX0_least 51 = .ok (.invokestatic 178, 3) := by decide +kernel
theorem dX0_least_54 : decode cX0_least 54 = .ok (.istore 5, 2) := by decide +kernel
theorem dX0_least_56 : decode cX0_least 56 = .ok (.iinc 7 1, 3) := by decide +kernel
theorem dX0_least_59 : decode cX0_least 59 = .ok (.goto (-45), 3) := by decide +kernel
theorem dX0_least_62 : decode cX0_least 62 = .ok (.iload 5, 2) := by decide +kernel
theorem dX0_least_64 : decode cX0_least 64 = .ok (.ireturn, 1) := by decide +kernel
theorem dJ_bitCount_0 : decode cJ_bitCount 0 = .ok (.lload_n 0, 1) := by decide +kernel
theorem dJ_bitCount_1 : decode cJ_bitCount 1 = .ok (.lload_n 0, 1) := by decide +kernel
theorem dJ_bitCount_2 : decode cJ_bitCount 2 = .ok (.iconst 1, 1) := by decide +kernel
theorem dJ_bitCount_3 : decode cJ_bitCount 3 = .ok (.lushr, 1) := by decide +kernel
theorem dJ_bitCount_4 : decode cJ_bitCount 4 = .ok (.ldc2_w 314, 3) := by decide +kernel
theorem dJ_bitCount_7 : decode cJ_bitCount 7 = .ok (.land, 1) := by decide +kernel
theorem dJ_bitCount_8 : decode cJ_bitCount 8 = .ok (.lsub, 1) := by decide +kernel
theorem dJ_bitCount_9 : decode cJ_bitCount 9 = .ok (.lstore_n 0, 1) := by decide +kernel
theorem dJ_bitCount_10 : decode cJ_bitCount 10 = .ok (.lload_n 0, 1) := by decide +kernel
theorem dJ_bitCount_11 : decode cJ_bitCount 11 = .ok (.ldc2_w 316, 3) := by decide +kernel
theorem dJ_bitCount_14 : decode cJ_bitCount 14 = .ok (.land, 1) := by decide +kernel
theorem dJ_bitCount_15 : decode cJ_bitCount 15 = .ok (.lload_n 0, 1) := by decide +kernel
theorem dJ_bitCount_16 : decode cJ_bitCount 16 = .ok (.iconst 2, 1) := by decide +kernel
theorem dJ_bitCount_17 : decode cJ_bitCount 17 = .ok (.lushr, 1) := by decide +kernel
theorem dJ_bitCount_18 : decode cJ_bitCount 18 = .ok (.ldc2_w 316, 3) := by decide +kernel
theorem dJ_bitCount_21 : decode cJ_bitCount 21 = .ok (.land, 1) := by decide +kernel
theorem dJ_bitCount_22 : decode cJ_bitCount 22 = .ok (.ladd, 1) := by decide +kernel
theorem dJ_bitCount_23 : decode cJ_bitCount 23 = .ok (.lstore_n 0, 1) := by decide +kernel
theorem dJ_bitCount_24 : decode cJ_bitCount 24 = .ok (.lload_n 0, 1) := by decide +kernel
theorem dJ_bitCount_25 : decode cJ_bitCount 25 = .ok (.lload_n 0, 1) := by decide +kernel
theorem dJ_bitCount_26 : decode cJ_bitCount 26 = .ok (.iconst 4, 1) := by decide +kernel
theorem dJ_bitCount_27 : decode cJ_bitCount 27 = .ok (.lushr, 1) := by decide +kernel
theorem dJ_bitCount_28 : decode cJ_bitCount 28 = .ok (.ladd, 1) := by decide +kernel
theorem dJ_bitCount_29 : decode cJ_bitCount 29 = .ok (.ldc2_w 318, 3) := by decide +kernel
theorem dJ_bitCount_32 : decode cJ_bitCount 32 = .ok (.land, 1) := by decide +kernel
theorem dJ_bitCount_33 : decode cJ_bitCount 33 = .ok (.lstore_n 0, 1) := by decide +kernel
theorem dJ_bitCount_34 : decode cJ_bitCount 34 = .ok (.lload_n 0, 1) := by decide +kernel
theorem dJ_bitCount_35 : decode cJ_bitCount 35 = .ok (.lload_n 0, 1) := by decide +kernel
theorem dJ_bitCount_36 : decode cJ_bitCount 36 = .ok (.bipush 8, 2) := by decide +kernel
theorem dJ_bitCount_38 : decode cJ_bitCount 38 = .ok (.lushr, 1) := by decide +kernel
theorem dJ_bitCount_39 : decode cJ_bitCount 39 = .ok (.ladd, 1) := by decide +kernel
theorem dJ_bitCount_40 : decode cJ_bitCount 40 = .ok (.lstore_n 0, 1) := by decide +kernel
theorem dJ_bitCount_41 : decode cJ_bitCount 41 = .ok (.lload_n 0, 1) := by decide +kernel
theorem dJ_bitCount_42 : decode cJ_bitCount 42 = .ok (.lload_n 0, 1) := by decide +kernel
theorem dJ_bitCount_43 : decode cJ_bitCount 43 = .ok (.bipush 16, 2) := by decide +kernel
theorem dJ_bitCount_45 : decode cJ_bitCount 45 = .ok (.lushr, 1) := by decide +kernel
theorem dJ_bitCount_46 : decode cJ_bitCount 46 = .ok (.ladd, 1) := by decide +kernel
theorem dJ_bitCount_47 : decode cJ_bitCount 47 = .ok (.lstore_n 0, 1) := by decide +kernel
theorem dJ_bitCount_48 : decode cJ_bitCount 48 = .ok (.lload_n 0, 1) := by decide +kernel
theorem dJ_bitCount_49 : decode cJ_bitCount 49 = .ok (.lload_n 0, 1) := by decide +kernel
theorem dJ_bitCount_50 : decode cJ_bitCount 50 = .ok (.bipush 32, 2) := by decide +kernel
theorem dJ_bitCount_52 : decode cJ_bitCount 52 = .ok (.lushr, 1) := by decide +kernel
theorem dJ_bitCount_53 : decode cJ_bitCount 53 = .ok (.ladd, 1) := by decide +kernel
theorem dJ_bitCount_54 : decode cJ_bitCount 54 = .ok (.lstore_n 0, 1) := by decide +kernel
theorem dJ_bitCount_55 : decode cJ_bitCount 55 = .ok (.lload_n 0, 1) := by decide +kernel
theorem dJ_bitCount_56 : decode cJ_bitCount 56 = .ok (.l2i, 1) := by decide +kernel
theorem dJ_bitCount_57 : decode cJ_bitCount 57 = .ok (.bipush 127, 2) := by decide +kernel
theorem dJ_bitCount_59 : decode cJ_bitCount 59 = .ok (.iand, 1) := by decide +kernel
theorem dJ_bitCount_60 : decode cJ_bitCount 60 = .ok (.ireturn, 1) := by decide +kernel
end
section
theorem dX1_init_0 : decode cX1_init 0 = .ok (.aload_n 0, 1) := by decide +kernel
theorem dX1_init_1 : decode cX1_init 1 = .ok (.invokespecial 1, 3) := by decide +kernel
theorem dX1_init_4 : decode cX1_init 4 = .ok (.aload_n 0, 1) := by decide +kernel
theorem dX1_init_5 : decode cX1_init 5 = .ok (.iconst 1, 1) := by decide +kernel
theorem dX1_init_6 : decode cX1_init 6 = .ok (.putfield 7, 3) := by decide +kernel
theorem dX1_init_9 : decode cX1_init 9 = .ok (.aload_n 0, 1) := by decide +kernel
theorem dX1_init_10 : decode cX1_init 10 = .ok (.bipush 60, 2) := by decide +kernel
theorem dX1_init_12 : decode cX1_init 12 = .ok (.newarray .boolean, 2) := by decide +kernel
theorem dX1_init_14 : decode cX1_init 14 = .ok (.putfield 13, 3) := by decide +kernel
theorem dX1_init_17 : decode cX1_init 17 = .ok (.aload_n 0, 1) := by decide +kernel
theorem dX1_init_18 : decode cX1_init 18 = .ok (.bipush 60, 2) := by decide +kernel
theorem dX1_init_20 : decode cX1_init 20 = .ok (.newarray .int, 2) := by decide +kernel
theorem dX1_init_22 : decode cX1_init 22 = .ok (.putfield 17, 3) := by decide +kernel
theorem dX1_init_25 : decode cX1_init 25 = .ok (.aload_n 0, 1) := by decide +kernel
theorem dX1_init_26 : decode cX1_init 26 = .ok (.bipush 60, 2) := by decide +kernel
theorem dX1_init_28 : decode cX1_init 28 = .ok (.newarray .int, 2) := by decide +kernel
theorem dX1_init_30 : decode cX1_init 30 = .ok (.putfield 21, 3) := by decide +kernel
theorem dX1_init_33 : decode cX1_init 33 = .ok (.aload_n 0, 1) := by decide +kernel
theorem dX1_init_34 : decode cX1_init 34 = .ok (.bipush 60, 2) := by decide +kernel
theorem dX1_init_36 : decode cX1_init 36 = .ok (.newarray .int, 2) := by decide +kernel
theorem dX1_init_38 : decode cX1_init 38 = .ok (.putfield 24, 3) := by decide +kernel
theorem dX1_init_41 : decode cX1_init 41 = .ok (.aload_n 0, 1) := by decide +kernel
theorem dX1_init_42 : decode cX1_init 42 = .ok (.bipush 60, 2) := by decide +kernel
theorem dX1_init_44 : decode cX1_init 44 = .ok (.newarray .int, 2) := by decide +kernel
theorem dX1_init_46 : decode cX1_init 46 = .ok (.putfield 27, 3) := by decide +kernel
theorem dX1_init_49 : decode cX1_init 49 = .ok (.aload_n 0, 1) := by decide +kernel
theorem dX1_init_50 : decode cX1_init 50 = .ok (.sipush 720, 3) := by decide +kernel
theorem dX1_init_53 : decode cX1_init 53 = .ok (.newarray .int, 2) := by decide +kernel
theorem dX1_init_55 : decode cX1_init 55 = .ok (.putfield 30, 3) := by decide +kernel
theorem dX1_init_58 : decode cX1_init 58 = .ok (.aload_n 0, 1) := by decide +kernel
theorem dX1_init_59 : decode cX1_init 59 = .ok (.bipush 60, 2) := by decide +kernel
theorem dX1_init_61 : decode cX1_init 61 = .ok (.newarray .boolean, 2) := by decide +kernel
theorem dX1_init_63 : decode cX1_init 63 = .ok (.putfield 33, 3) := by decide +kernel
theorem dX1_init_66 : decode cX1_init 66 = .ok (.aload_n 0, 1) := by decide +kernel
theorem dX1_init_67 : decode cX1_init 67 = .ok (.bipush 60, 2) := by decide +kernel
theorem dX1_init_69 : decode cX1_init 69 = .ok (.newarray .boolean, 2) := by decide +kernel
theorem dX1_init_71 : decode cX1_init 71 = .ok (.putfield 36, 3) := by decide +kernel
theorem dX1_init_74 : decode cX1_init 74 = .ok (.aload_n 0, 1) := by decide +kernel
theorem dX1_init_75 : decode cX1_init 75 = .ok (.bipush 60, 2) := by decide +kernel
theorem dX1_init_77 : decode cX1_init 77 = .ok (.newarray .boolean, 2) := by decide +kernel
theorem dX1_init_79 : decode cX1_init 79 = .ok (.putfield 39, 3) := by decide +kernel
theorem dX1_init_82 : decode cX1_init 82 = .ok (.aload_n 0, 1) := by decide +kernel
theorem dX1_init_83 : decode cX1_init 83 = .ok (.bipush 60, 2) := by decide +kernel
theorem dX1_init_85 : decode cX1_init 85 = .ok (.newarray .int, 2) := by decide +kernel
theorem dX1_init_87 : decode cX1_init 87 = .ok (.putfield 42, 3) := by decide +kernel
theorem dX1_init_90 : decode cX1_init 90 = .ok (.aload_n 0, 1) := by decide +kernel
theorem dX1_init_91 : decode cX1_init 91 = .ok (.bipush 60, 2) := by decide +kernel
theorem dX1_init_93 : decode cX1_init 93 = .ok (.newarray .int, 2) := by decide +kernel
theorem dX1_init_95 : decode cX1_init 95 = .ok (.putfield 45, 3) := by decide +kernel
theorem dX1_init_98 : decode cX1_init 98 = .ok (.aload_n 0, 1) := by decide +kernel
theorem dX1_init_99 : decode cX1_init 99 = .ok (.getfield 17, 3) := by decide +kernel
theorem dX1_init_102 : decode cX1_init 102 = .ok (.iconst 0, 1) := by decide +kernel
theorem dX1_init_103 : decode cX1_init 103 = .ok (.bipush 50, 2) := by decide +kernel
theorem dX1_init_105 : decode cX1_init 105 = .ok (.iastore, 1) := by decide +kernel
theorem dX1_init_106 : decode cX1_init 106 = .ok (.aload_n 0, 1) := by decide +kernel
theorem dX1_init_107 : decode cX1_init 107 = .ok (.getfield 21, 3) := by decide +kernel
theorem dX1_init_110 : decode cX1_init 110 = .ok (.iconst 0, 1) := by decide +kernel
theorem dX1_init_111 : decode cX1_init 111 = .ok (.bipush 50, 2) := by decide +kernel
theorem dX1_init_113 : decode cX1_init 113 = .ok (.iastore, 1) := by decide +kernel
theorem dX1_init_114 : decode cX1_init 114 = .ok (.return_, 1) := by decide +kernel
theorem dX1_thrown_0 : decode cX1_thrown 0 = .ok (.aload_n 0, 1) := by decide +kernel
theorem dX1_thrown_1 : decode cX1_thrown 1 = .ok (.getfield 48, 3) := by decide +kernel
theorem dX1_thrown_4 : decode cX1_thrown 4 = .ok (.ireturn, 1) := by decide +kernel
theorem dX1_states_0 : decode cX1_states 0 = .ok (.aload_n 0, 1) := by decide +kernel
theorem dX1_states_1 : decode cX1_states 1 = .ok (.iload_n 1, 1) := by decide +kernel
theorem dX1_states_2 : decode cX1_states 2 = .ok (.iconst 1, 1) := by decide +kernel
theorem dX1_states_3 : decode cX1_states 3 = .ok (.if_icmp .lt 9, 3) := by decide +kernel
theorem dX1_states_6 : decode cX1_states 6 = .ok (.iload_n 1, 1) := by decide +kernel
theorem dX1_states_7 : decode cX1_states 7 = .ok (.bipush 60, 2) := by decide +kernel
theorem dX1_states_9 : decode cX1_states 9 = .ok (.if_icmp .le 7, 3) := by decide +kernel
theorem dX1_states_12 : decode cX1_states 12 = .ok (.iconst 1, 1) := by decide +kernel
theorem dX1_states_13 : decode cX1_states 13 = .ok (.goto 4, 3) := by decide +kernel
theorem dX1_states_16 : decode cX1_states 16 = .ok (.iconst 0, 1) := by decide +kernel
theorem dX1_states_17 : decode cX1_states 17 = .ok (.putfield 48, 3) := by decide +kernel
theorem dX1_states_20 : decode cX1_states 20 = .ok (.aload_n 0, 1) := by decide +kernel
theorem dX1_states_21 : decode cX1_states 21 = .ok (.getfield 48, 3) := by decide +kernel
theorem dX1_states_24 : decode cX1_states 24 = .ok (.ifCond .eq 4, 3) := by decide +kernel
theorem dX1_states_27 : decode cX1_states 27 = .ok (.return_, 1) := by decide +kernel
theorem dX1_states_28 : decode cX1_states 28 = .ok (.aload_n 0, 1) := by decide +kernel
theorem dX1_states_29 : decode cX1_states 29 = .ok (.iload_n 1, 1) := by decide +kernel
theorem dX1_states_30 : decode cX1_states 30 = .ok (.putfield 7, 3) := by decide +kernel
theorem dX1_states_33 : decode cX1_states 33 = .ok (.iconst 0, 1) := by decide +kernel
theorem dX1_states_34 : decode cX1_states 34 = .ok (.istore_n 2, 1) := by decide +kernel
theorem dX1_states_35 : decode cX1_states 35 = .ok (.iload_n 2, 1) := by decide +kernel
theorem dX1_states_36 : decode cX1_states 36 = .ok (.iload_n 1, 1) := by decide +kernel
theorem dX1_states_37 : decode cX1_states 37 = .ok (.if_icmp .ge 32, 3) := by decide +kernel
theorem dX1_states_40 : decode cX1_states 40 = .ok (.aload_n 0, 1) := by decide +kernel
theorem dX1_states_41 : decode cX1_states 41 = .ok (.getfield 13, 3) := by decide +kernel
theorem dX1_states_44 : decode cX1_states 44 = .ok (.iload_n 2, 1) := by decide +kernel
theorem dX1_states_45 : decode cX1_states 45 = .ok (.iconst 0, 1) := by decide +kernel
theorem dX1_states_46 : decode cX1_states 46 = .ok (.bastore, 1) := by decide +kernel
theorem dX1_states_47 : decode cX1_states 47 = .ok (.aload_n 0, 1) := by decide +kernel
theorem dX1_states_48 : decode cX1_states 48 = .ok (.getfield 17, 3) := by decide +kernel
theorem dX1_states_51 : decode cX1_states 51 = .ok (.iload_n 2, 1) := by decide +kernel
theorem dX1_states_52 : decode cX1_states 52 = .ok (.bipush 50, 2) := by decide +kernel
theorem dX1_states_54 : decode cX1_states 54 = .ok (.iastore, 1) := by decide +kernel
theorem dX1_states_55 : decode cX1_states 55 = .ok (.aload_n 0, 1) := by decide +kernel
theorem dX1_states_56 : decode cX1_states 56 = .ok (.getfield 21, 3) := by decide +kernel
theorem dX1_states_59 : decode cX1_states 59 = .ok (.iload_n 2, 1) := by decide +kernel
theorem dX1_states_60 : decode cX1_states 60 = .ok (.bipush 50, 2) := by decide +kernel
theorem dX1_states_62 : decode cX1_states 62 = .ok (.iastore, 1) := by decide +kernel
theorem dX1_states_63 : decode cX1_states 63 = .ok (.iinc 2 1, 3) := by decide +kernel
theorem dX1_states_66 : decode cX1_states 66 = .ok (.goto (-31), 3) := by decide +kernel
theorem dX1_states_69 : decode cX1_states 69 = .ok (.return_, 1) := by decide +kernel
theorem dX1_isState_0 : decode cX1_isState 0 = .ok (.iload_n 1, 1) := by decide +kernel
theorem dX1_isState_1 : decode cX1_isState 1 = .ok (.ifCond .lt 15, 3) := by decide +kernel
theorem dX1_isState_4 : decode cX1_isState 4 = .ok (.iload_n 1, 1) := by decide +kernel
theorem dX1_isState_5 : decode cX1_isState 5 = .ok (.aload_n 0, 1) := by decide +kernel
theorem dX1_isState_6 : decode cX1_isState 6 = .ok (.getfield 7, 3) := by decide +kernel
theorem dX1_isState_9 : decode cX1_isState 9 = .ok (.if_icmp .ge 7, 3) := by decide +kernel
theorem dX1_isState_12 : decode cX1_isState 12 = .ok (.iconst 1, 1) := by decide +kernel
theorem dX1_isState_13 : decode cX1_isState 13 = .ok (.goto 4, 3) := by decide +kernel
theorem dX1_isState_16 : decode cX1_isState 16 = .ok (.iconst 0, 1) := by decide +kernel
theorem dX1_isState_17 : decode cX1_isState 17 = .ok (.ireturn, 1) := by decide +kernel
theorem dX1_end_0 : decode cX1_end 0 = .ok (.aload_n 0, 1) := by decide +kernel
theorem dX1_end_1 : decode cX1_end 1 = .ok (.aload_n 0, 1) := by decide +kernel
theorem dX1_end_2 : decode cX1_end 2 = .ok (.iload_n 1, 1) := by decide +kernel
theorem dX1_end_3 : decode cX1_end 3 = .ok (.invokevirtual 51, 3) := by decide +kernel
theorem dX1_end_6 : decode cX1_end 6 = .ok (.ifCond .ne 7, 3) := by decide +kernel
theorem dX1_end_9 : decode cX1_end 9 = .ok (.iconst 1, 1) := by decide +kernel
theorem dX1_end_10 : decode cX1_end 10 = .ok (.goto 32, 3) := by decide +kernel
theorem dX1_end_13 : decode cX1_end 13 = .ok (.iload_n 2, 1) := by decide +kernel
theorem dX1_end_14 : decode cX1_end 14 = .ok (.bipush (-2), 2) := by decide +kernel
theorem dX1_end_16 : decode cX1_end 16 = .ok (.if_icmp .lt 21, 3) := by decide +kernel
theorem dX1_end_19 : decode cX1_end 19 = .ok (.iload_n 2, 1) := by decide +kernel
theorem dX1_end_20 : decode cX1_end 20 = .ok (.bipush 100, 2) := by decide +kernel
theorem dX1_end_22 : decode cX1_end 22 = .ok (.if_icmp .gt 15, 3) := by decide +kernel
theorem dX1_end_25 : decode cX1_end 25 = .ok (.iload_n 3, 1) := by decide +kernel
theorem dX1_end_26 : decode cX1_end 26 = .ok (.bipush (-2), 2) := by decide +kernel
theorem dX1_end_28 : decode cX1_end 28 = .ok (.if_icmp .lt 9, 3) := by decide +kernel
theorem dX1_end_31 : decode cX1_end 31 = .ok (.iload_n 3, 1) := by decide +kernel
theorem dX1_end_32 : decode cX1_end 32 = .ok (.bipush 100, 2) := by decide +kernel
theorem dX1_end_34 : decode cX1_end 34 = .ok (.if_icmp .le 7, 3) := by decide +kernel
theorem dX1_end_37 : decode cX1_end 37 = .ok (.iconst 2, 1) := by decide +kernel
theorem dX1_end_38 : decode cX1_end 38 = .ok (.goto 4, 3) := by decide +kernel
theorem dX1_end_41 : decode cX1_end 41 = .ok (.iconst 0, 1) := by decide +kernel
theorem dX1_end_42 : decode cX1_end 42 = .ok (.putfield 48, 3) := by decide +kernel
theorem dX1_end_45 : decode cX1_end 45 = .ok (.aload_n 0, 1) := by decide +kernel
theorem dX1_end_46 : decode cX1_end 46 = .ok (.getfield 48, 3) := by decide +kernel
theorem dX1_end_49 : decode cX1_end 49 = .ok (.ifCond .eq 4, 3) := by decide +kernel
theorem dX1_end_52 : decode cX1_end 52 = .ok (.return_, 1) := by decide +kernel
theorem dX1_end_53 : decode cX1_end 53 = .ok (.aload_n 0, 1) := by decide +kernel
theorem dX1_end_54 : decode cX1_end 54 = .ok (.getfield 13, 3) := by decide +kernel
theorem dX1_end_57 : decode cX1_end 57 = .ok (.iload_n 1, 1) := by decide +kernel
theorem dX1_end_58 : decode cX1_end 58 = .ok (.iconst 0, 1) := by decide +kernel
theorem dX1_end_59 : decode cX1_end 59 = .ok (.bastore, 1) := by decide +kernel
theorem dX1_end_60 : decode cX1_end 60 = .ok (.aload_n 0, 1) := by decide +kernel
theorem dX1_end_61 : decode cX1_end 61 = .ok (.getfield 17, 3) := by decide +kernel
theorem dX1_end_64 : decode cX1_end 64 = .ok (.iload_n 1, 1) := by decide +kernel
theorem dX1_end_65 : decode cX1_end 65 = .ok (.iload_n 2, 1) := by decide +kernel
theorem dX1_end_66 : decode cX1_end 66 = .ok (.iastore, 1) := by decide +kernel
theorem dX1_end_67 : decode cX1_end 67 = .ok (.aload_n 0, 1) := by decide +kernel
theorem dX1_end_68 : decode cX1_end 68 = .ok (.getfield 21, 3) := by decide +kernel
theorem dX1_end_71 : decode cX1_end 71 = .ok (.iload_n 1, 1) := by decide +kernel
theorem dX1_end_72 : decode cX1_end 72 = .ok (.iload_n 3, 1) := by decide +kernel
theorem dX1_end_73 : decode cX1_end 73 = .ok (.iastore, 1) := by decide +kernel
theorem dX1_end_74 : decode cX1_end 74 = .ok (.return_, 1) := by decide +kernel
theorem dX1_isMany_0 : decode cX1_isMany 0 = .ok (.iload_n 0, 1) := by decide +kernel
theorem dX1_isMany_1 : decode cX1_isMany 1 = .ok (.ifCond .lt 13, 3) := by decide +kernel
theorem dX1_isMany_4 : decode cX1_isMany 4 = .ok (.iload_n 0, 1) := by decide +kernel
theorem dX1_isMany_5 : decode cX1_isMany 5 = .ok (.bipush 12, 2) := by decide +kernel
theorem dX1_isMany_7 : decode cX1_isMany 7 = .ok (.if_icmp .gt 7, 3) := by decide +kernel
theorem dX1_isMany_10 : decode cX1_isMany 10 = .ok (.iconst 1, 1) := by decide +kernel
theorem dX1_isMany_11 : decode cX1_isMany 11 = .ok (.goto 4, 3) := by decide +kernel
theorem dX1_isMany_14 : decode cX1_isMany 14 = .ok (.iconst 0, 1) := by decide +kernel
theorem dX1_isMany_15 : decode cX1_isMany 15 = .ok (.ireturn, 1) := by decide +kernel
theorem dX1_open_0 : decode cX1_open 0 = .ok (.aload_n 0, 1) := by decide +kernel
theorem dX1_open_1 : decode cX1_open 1 = .ok (.aload_n 0, 1) := by decide +kernel
theorem dX1_open_2 : decode cX1_open 2 = .ok (.iload_n 1, 1) := by decide +kernel
theorem dX1_open_3 : decode cX1_open 3 = .ok (.invokevirtual 51, 3) := by decide +kernel
theorem dX1_open_6 : decode cX1_open 6 = .ok (.ifCond .ne 7, 3) := by decide +kernel
theorem dX1_open_9 : decode cX1_open 9 = .ok (.iconst 1, 1) := by decide +kernel
theorem dX1_open_10 : decode cX1_open 10 = .ok (.goto 30, 3) := by decide +kernel
theorem dX1_open_13 : decode cX1_open 13 = .ok (.iload_n 2, 1) := by decide +kernel
theorem dX1_open_14 : decode cX1_open 14 = .ok (.invokestatic 55, 3) := by decide +kernel
theorem dX1_open_17 : decode cX1_open 17 = .ok (.ifCond .eq 18, 3) := by decide +kernel
theorem dX1_open_20 : decode cX1_open 20 = .ok (.iload_n 3, 1) := by decide +kernel
theorem dX1_open_21 : decode cX1_open 21 = .ok (.invokestatic 55, 3) := by decide +kernel
theorem dX1_open_24 : decode cX1_open 24 = .ok (.ifCond .eq 11, 3) := by decide +kernel
theorem dX1_open_27 : decode cX1_open 27 = .ok (.iload_n 2, 1) := by decide +kernel
theorem dX1_open_28 : decode cX1_open 28 = .ok (.iload_n 3, 1) := by decide +kernel
theorem dX1_open_29 : decode cX1_open 29 = .ok (.imul, 1) := by decide +kernel
theorem dX1_open_30 : decode cX1_open 30 = .ok (.bipush 12, 2) := by decide +kernel
theorem dX1_open_32 : decode cX1_open 32 = .ok (.if_icmp .le 7, 3) := by decide +kernel
theorem dX1_open_35 : decode cX1_open 35 = .ok (.iconst 2, 1) := by decide +kernel
theorem dX1_open_36 : decode cX1_open 36 = .ok (.goto 4, 3) := by decide +kernel
theorem dX1_open_39 : decode cX1_open 39 = .ok (.iconst 0, 1) := by decide +kernel
theorem dX1_open_40 : decode cX1_open 40 = .ok (.putfield 48, 3) := by decide +kernel
theorem dX1_open_43 : decode cX1_open 43 = .ok (.aload_n 0, 1) := by decide +kernel
theorem dX1_open_44 : decode cX1_open 44 = .ok (.getfield 48, 3) := by decide +kernel
theorem dX1_open_47 : decode cX1_open 47 = .ok (.ifCond .eq 4, 3) := by decide +kernel
theorem dX1_open_50 : decode cX1_open 50 = .ok (.return_, 1) := by decide +kernel
theorem dX1_open_51 : decode cX1_open 51 = .ok (.aload_n 0, 1) := by decide +kernel
theorem dX1_open_52 : decode cX1_open 52 = .ok (.getfield 13, 3) := by decide +kernel
theorem dX1_open_55 : decode cX1_open 55 = .ok (.iload_n 1, 1) := by decide +kernel
theorem dX1_open_56 : decode cX1_open 56 = .ok (.iconst 1, 1) := by decide +kernel
theorem dX1_open_57 : decode cX1_open 57 = .ok (.bastore, 1) := by decide +kernel
theorem dX1_open_58 : decode cX1_open 58 = .ok (.aload_n 0, 1) := by decide +kernel
theorem dX1_open_59 : decode cX1_open 59 = .ok (.getfield 24, 3) := by decide +kernel
theorem dX1_open_62 : decode cX1_open 62 = .ok (.iload_n 1, 1) := by decide +kernel
theorem dX1_open_63 : decode cX1_open 63 = .ok (.iload_n 2, 1) := by decide +kernel
theorem dX1_open_64 : decode cX1_open 64 = .ok (.iastore, 1) := by decide +kernel
theorem dX1_open_65 : decode cX1_open 65 = .ok (.aload_n 0, 1) := by decide +kernel
theorem dX1_open_66 : decode cX1_open 66 = .ok (.getfield 27, 3) := by decide +kernel
theorem dX1_open_69 : decode cX1_open 69 = .ok (.iload_n 1, 1) := by decide +kernel
theorem dX1_open_70 : decode cX1_open 70 = .ok (.iload_n 3, 1) := by decide +kernel
theorem dX1_open_71 : decode cX1_open 71 = .ok (.iastore, 1) := by decide +kernel
theorem dX1_open_72 : decode cX1_open 72 = .ok (.iconst 0, 1) := by decide +kernel
theorem dX1_open_73 : decode cX1_open 73 = .ok (.istore 4, 2) := by decide +kernel
theorem dX1_open_75 : decode cX1_open 75 = .ok (.iload 4, 2) := by decide +kernel
theorem dX1_open_77 : decode cX1_open 77 = .ok (.bipush 12, 2) := by decide +kernel
theorem dX1_open_79 : decode cX1_open 79 = .ok (.if_icmp .ge 22, 3) := by decide +kernel
theorem dX1_open_82 : decode cX1_open 82 = .ok (.aload_n 0, 1) := by decide +kernel
theorem dX1_open_83 : decode cX1_open 83 = .ok (.getfield 30, 3) := by decide +kernel
theorem dX1_open_86 : decode cX1_open 86 = .ok (.bipush 12, 2) := by decide +kernel
theorem dX1_open_88 : decode cX1_open 88 = .ok (.iload_n 1, 1) := by decide +kernel
theorem dX1_open_89 : decode cX1_open 89 = .ok (.imul, 1) := by decide +kernel
theorem dX1_open_90 : decode cX1_open 90 = .ok (.iload 4, 2) := by decide +kernel
theorem dX1_open_92 : decode cX1_open 92 = .ok (.iadd, 1) := by decide +kernel
theorem dX1_open_93 : decode cX1_open 93 = .ok (.iconst 0, 1) := by decide +kernel
theorem dX1_open_94 : decode cX1_open 94 = .ok (.iastore, 1) := by decide +kernel
theorem dX1_open_95 : decode cX1_open 95 = .ok (.iinc 4 1, 3) := by decide +kernel
theorem dX1_open_98 : decode cX1_open 98 = .ok (.goto (-23), 3) := by decide +kernel
theorem dX1_open_101 : decode cX1_open 101 = .ok (.return_, 1) := by decide +kernel
theorem dX1_joint_0 : decode cX1_joint 0 = .ok (.aload_n 0, 1) := by decide +kernel
theorem dX1_joint_1 : decode cX1_joint 1 = .ok (.getfield 13, 3) := by decide +kernel
theorem dX1_joint_4 : decode cX1_joint 4 = .ok (.iload_n 1, 1) := by decide +kernel
theorem dX1_joint_5 : decode cX1_joint 5 = .ok (.baload, 1) := by decide +kernel
theorem dX1_joint_6 : decode cX1_joint 6 = .ok (.ifCond .eq 19, 3) := by decide +kernel
theorem dX1_joint_9 : decode cX1_joint 9 = .ok (.aload_n 0, 1) := by decide +kernel
theorem dX1_joint_10 : decode cX1_joint 10 = .ok (.getfield 24, 3) := by decide +kernel
theorem dX1_joint_13 : decode cX1_joint 13 = .ok (.iload_n 1, 1) := by decide +kernel
theorem dX1_joint_14 : decode cX1_joint 14 = .ok (.iaload, 1) := by decide +kernel
theorem dX1_joint_15 : decode cX1_joint 15 = .ok (.aload_n 0, 1) := by decide +kernel
theorem dX1_joint_16 : decode cX1_joint 16 = .ok (.getfield 27, 3) := by decide +kernel
theorem dX1_joint_19 : decode cX1_joint 19 = .ok (.iload_n 1, 1) := by decide +kernel
theorem dX1_joint_20 : decode cX1_joint 20 = .ok (.iaload, 1) := by decide +kernel
theorem dX1_joint_21 : decode cX1_joint 21 = .ok (.imul, 1) := by decide +kernel
theorem dX1_joint_22 : decode cX1_joint 22 = .ok (.goto 4, 3) := by decide +kernel
theorem dX1_joint_25 : decode cX1_joint 25 = .ok (.iconst 0, 1) := by decide +kernel
theorem dX1_joint_26 : decode cX1_joint 26 = .ok (.ireturn, 1) := by decide +kernel
theorem dX1_isJoint_0 : decode cX1_isJoint 0 = .ok (.aload_n 0, 1) := by decide +kernel
theorem dX1_isJoint_1 : decode cX1_isJoint 1 = .ok (.iload_n 1, 1) := by decide +kernel
theorem dX1_isJoint_2 : decode cX1_isJoint 2 = .ok (.invokevirtual 51, 3) := by decide +kernel
theorem dX1_isJoint_5 : decode cX1_isJoint 5 = .ok (.ifCond .eq 20, 3) := by decide +kernel
theorem dX1_isJoint_8 : decode cX1_isJoint 8 = .ok (.iload_n 2, 1) := by decide +kernel
theorem dX1_isJoint_9 : decode cX1_isJoint 9 = .ok (.ifCond .lt 16, 3) := by decide +kernel
theorem dX1_isJoint_12 : decode cX1_isJoint 12 = .ok (.iload_n 2, 1) := by decide +kernel
theorem dX1_isJoint_13 : decode cX1_isJoint 13 = .ok (.aload_n 0, 1) := by decide +kernel
theorem dX1_isJoint_14 : decode cX1_isJoint 14 = .ok (.iload_n 1, 1) := by decide +kernel
theorem dX1_isJoint_15 : decode cX1_isJoint 15 = .ok (.invokevirtual 58, 3) := by decide +kernel
theorem dX1_isJoint_18 : decode cX1_isJoint 18 = .ok (.if_icmp .ge 7, 3) := by decide +kernel
theorem dX1_isJoint_21 : decode cX1_isJoint 21 = .ok (.iconst 1, 1) := by decide +kernel
theorem dX1_isJoint_22 : decode cX1_isJoint 22 = .ok (.goto 4, 3) := by decide +kernel
theorem dX1_isJoint_25 : decode cX1_isJoint 25 = .ok (.iconst 0, 1) := by decide +kernel
theorem dX1_isJoint_26 : decode cX1_isJoint 26 = .ok (.ireturn, 1) := by decide +kernel
theorem dX1_link_0 : decode cX1_link 0 = .ok (.aload_n 0, 1) := by decide +kernel
theorem dX1_link_1 : decode cX1_link 1 = .ok (.aload_n 0, 1) := by decide +kernel
theorem dX1_link_2 : decode cX1_link 2 = .ok (.iload_n 1, 1) := by decide +kernel
theorem dX1_link_3 : decode cX1_link 3 = .ok (.iload_n 2, 1) := by decide +kernel
theorem dX1_link_4 : decode cX1_link 4 = .ok (.invokevirtual 62, 3) := by decide +kernel
theorem dX1_link_7 : decode cX1_link 7 = .ok (.ifCond .eq 15, 3) := by decide +kernel
theorem dX1_link_10 : decode cX1_link 10 = .ok (.aload_n 0, 1) := by decide +kernel
theorem dX1_link_11 : decode cX1_link 11 = .ok (.iload_n 3, 1) := by decide +kernel
theorem dX1_link_12 : decode cX1_link 12 = .ok (.invokevirtual 51, 3) := by decide +kernel
theorem dX1_link_15 : decode cX1_link 15 = .ok (.ifCond .eq 7, 3) := by decide +kernel
theorem dX1_link_18 : decode cX1_link 18 = .ok (.iconst 0, 1) := by decide +kernel
theorem dX1_link_19 : decode cX1_link 19 = .ok (.goto 4, 3) := by decide +kernel
theorem dX1_link_22 : decode cX1_link 22 = .ok (.iconst 1, 1) := by decide +kernel
theorem dX1_link_23 : decode cX1_link 23 = .ok (.putfield 48, 3) := by decide +kernel
theorem dX1_link_26 : decode cX1_link 26 = .ok (.aload_n 0, 1) := by decide +kernel
theorem dX1_link_27 : decode cX1_link 27 = .ok (.getfield 48, 3) := by decide +kernel
theorem dX1_link_30 : decode cX1_link 30 = .ok (.ifCond .ne 15, 3) := by decide +kernel
theorem dX1_link_33 : decode cX1_link 33 = .ok (.aload_n 0, 1) := by decide +kernel
theorem dX1_link_34 : decode cX1_link 34 = .ok (.getfield 30, 3) := by decide +kernel
theorem dX1_link_37 : decode cX1_link 37 = .ok (.bipush 12, 2) := by decide +kernel
theorem dX1_link_39 : decode cX1_link 39 = .ok (.iload_n 1, 1) := by decide +kernel
theorem dX1_link_40 : decode cX1_link 40 = .ok (.imul, 1) := by decide +kernel
theorem dX1_link_41 : decode cX1_link 41 = .ok (.iload_n 2, 1) := by decide +kernel
theorem dX1_link_42 : decode cX1_link 42 = .ok (.iadd, 1) := by decide +kernel
theorem dX1_link_43 : decode cX1_link 43 = .ok (.iload_n 3, 1) := by decide +kernel
theorem dX1_link_44 : decode cX1_link 44 = .ok (.iastore, 1) := by decide +kernel
theorem dX1_link_45 : decode cX1_link 45 = .ok (.return_, 1) := by decide +kernel
theorem dX1_next_0 : decode cX1_next 0 = .ok (.aload_n 0, 1) := by decide +kernel
theorem dX1_next_1 : decode cX1_next 1 = .ok (.aload_n 0, 1) := by decide +kernel
theorem dX1_next_2 : decode cX1_next 2 = .ok (.iload_n 1, 1) := by decide +kernel
theorem dX1_next_3 : decode cX1_next 3 = .ok (.iload_n 2, 1) := by decide +kernel
theorem dX1_next_4 : decode cX1_next 4 = .ok (.invokevirtual 62, 3) := by decide +kernel
theorem dX1_next_7 : decode cX1_next 7 = .ok (.ifCond .eq 7, 3) := by decide +kernel
theorem dX1_next_10 : decode cX1_next 10 = .ok (.iconst 0, 1) := by decide +kernel
theorem dX1_next_11 : decode cX1_next 11 = .ok (.goto 4, 3) := by decide +kernel
theorem dX1_next_14 : decode cX1_next 14 = .ok (.iconst 1, 1) := by decide +kernel
theorem dX1_next_15 : decode cX1_next 15 = .ok (.putfield 48, 3) := by decide +kernel
theorem dX1_next_18 : decode cX1_next 18 = .ok (.aload_n 0, 1) := by decide +kernel
theorem dX1_next_19 : decode cX1_next 19 = .ok (.getfield 48, 3) := by decide +kernel
theorem dX1_next_22 : decode cX1_next 22 = .ok (.ifCond .eq 7, 3) := by decide +kernel
theorem dX1_next_25 : decode cX1_next 25 = .ok (.iconst 0, 1) := by decide +kernel
theorem dX1_next_26 : decode cX1_next 26 = .ok (.goto 14, 3) := by decide +kernel
theorem dX1_next_29 : decode cX1_next 29 = .ok (.aload_n 0, 1) := by decide +kernel
theorem dX1_next_30 : decode cX1_next 30 = .ok (.getfield 30, 3) := by decide +kernel
theorem dX1_next_33 : decode cX1_next 33 = .ok (.bipush 12, 2) := by decide +kernel
theorem dX1_next_35 : decode cX1_next 35 = .ok (.iload_n 1, 1) := by decide +kernel
theorem dX1_next_36 : decode cX1_next 36 = .ok (.imul, 1) := by decide +kernel
theorem dX1_next_37 : decode cX1_next 37 = .ok (.iload_n 2, 1) := by decide +kernel
theorem dX1_next_38 : decode cX1_next 38 = .ok (.iadd, 1) := by decide +kernel
theorem dX1_next_39 : decode cX1_next 39 = .ok (.iaload, 1) := by decide +kernel
theorem dX1_next_40 : decode cX1_next 40 = .ok (.ireturn, 1) := by decide +kernel
theorem dX1_spread_0 : decode cX1_spread 0 = .ok (.iconst 0, 1) := by decide +kernel
theorem dX1_spread_1 : decode cX1_spread 1 = .ok (.istore_n 2, 1) := by decide +kernel
theorem dX1_spread_2 : decode cX1_spread 2 = .ok (.iload_n 2, 1) := by decide +kernel
theorem dX1_spread_3 : decode cX1_spread 3 = .ok (.aload_n 0, 1) := by decide +kernel
theorem dX1_spread_4 : decode cX1_spread 4 = .ok (.getfield 7, 3) := by decide +kernel
theorem dX1_spread_7 : decode cX1_spread 7 = .ok (.if_icmp .ge 65, 3) := by decide +kernel
theorem dX1_spread_10 : decode cX1_spread 10 = .ok (.iconst 0, 1) := by decide +kernel
theorem dX1_spread_11 : decode cX1_spread 11 = .ok (.istore_n 3, 1) := by decide +kernel
theorem dX1_spread_12 : decode cX1_spread 12 = .ok (.iload_n 3, 1) := by decide +kernel
theorem dX1_spread_13 : decode cX1_spread 13 = .ok (.aload_n 0, 1) := by decide +kernel
theorem dX1_spread_14 : decode cX1_spread 14 = .ok (.getfield 7, 3) := by decide +kernel
theorem dX1_spread_17 : decode cX1_spread 17 = .ok (.if_icmp .ge 49, 3) := by decide +kernel
theorem dX1_spread_20 : decode cX1_spread 20 = .ok (.iconst 0, 1) := by decide +kernel
theorem dX1_spread_21 : decode cX1_spread 21 = .ok (.istore 4, 2) := by decide +kernel
theorem dX1_spread_23 : decode cX1_spread 23 = .ok (.iload 4, 2) := by decide +kernel
theorem dX1_spread_25 : decode cX1_spread 25 = .ok (.aload_n 0, 1) := by decide +kernel
theorem dX1_spread_26 : decode cX1_spread 26 = .ok (.iload_n 3, 1) := by decide +kernel
theorem dX1_spread_27 : decode cX1_spread 27 = .ok (.invokevirtual 58, 3) := by decide +kernel
theorem dX1_spread_30 : decode cX1_spread 30 = .ok (.if_icmp .ge 30, 3) := by decide +kernel
theorem dX1_spread_33 : decode cX1_spread 33 = .ok (.aload_n 1, 1) := by decide +kernel
theorem dX1_spread_34 : decode cX1_spread 34 = .ok (.iload_n 3, 1) := by decide +kernel
theorem dX1_spread_35 : decode cX1_spread 35 = .ok (.baload, 1) := by decide +kernel
theorem dX1_spread_36 : decode cX1_spread 36 = .ok (.ifCond .eq 24, 3) := by decide +kernel
theorem dX1_spread_39 : decode cX1_spread 39 = .ok (.aload_n 1, 1) := by decide +kernel
theorem dX1_spread_40 : decode cX1_spread 40 = .ok (.aload_n 0, 1) := by decide +kernel
theorem dX1_spread_41 : decode cX1_spread 41 = .ok (.getfield 30, 3) := by decide +kernel
theorem dX1_spread_44 : decode cX1_spread 44 = .ok (.bipush 12, 2) := by decide +kernel
theorem dX1_spread_46 : decode cX1_spread 46 = .ok (.iload_n 3, 1) := by decide +kernel
theorem dX1_spread_47 : decode cX1_spread 47 = .ok (.imul, 1) := by decide +kernel
theorem dX1_spread_48 : decode cX1_spread 48 = .ok (.iload 4, 2) := by decide +kernel
theorem dX1_spread_50 : decode cX1_spread 50 = .ok (.iadd, 1) := by decide +kernel
theorem dX1_spread_51 : decode cX1_spread 51 = .ok (.iaload, 1) := by decide +kernel
theorem dX1_spread_52 : decode cX1_spread 52 = .ok (.iconst 1, 1) := by decide +kernel
theorem dX1_spread_53 : decode cX1_spread 53 = .ok (.bastore, 1) := by decide +kernel
theorem dX1_spread_54 : decode cX1_spread 54 = .ok (.iinc 4 1, 3) := by decide +kernel
theorem dX1_spread_57 : decode cX1_spread 57 = .ok (.goto (-34), 3) := by decide +kernel
theorem dX1_spread_60 : decode cX1_spread 60 = .ok (.iinc 3 1, 3) := by decide +kernel
theorem dX1_spread_63 : decode cX1_spread 63 = .ok (.goto (-51), 3) := by decide +kernel
theorem dX1_spread_66 : decode cX1_spread 66 = .ok (.iinc 2 1, 3) := by decide +kernel
theorem dX1_spread_69 : decode cX1_spread 69 = .ok (.goto (-67), 3) := by decide +kernel
theorem dX1_spread_72 : decode cX1_spread 72 = .ok (.return_, 1) := by decide +kernel
theorem dX1_reach_0 : decode cX1_reach 0 = .ok (.iconst 0, 1) := by decide +kernel
theorem dX1_reach_1 : decode cX1_reach 1 = .ok (.istore_n 1, 1) := by decide +kernel
theorem dX1_reach_2 : decode cX1_reach 2 = .ok (.iload_n 1, 1) := by decide +kernel
theorem dX1_reach_3 : decode cX1_reach 3 = .ok (.bipush 60, 2) := by decide +kernel
theorem dX1_reach_5 : decode cX1_reach 5 = .ok (.if_icmp .ge 24, 3) := by decide +kernel
theorem dX1_reach_8 : decode cX1_reach 8 = .ok (.aload_n 0, 1) := by decide +kernel
theorem dX1_reach_9 : decode cX1_reach 9 = .ok (.getfield 33, 3) := by decide +kernel
theorem dX1_reach_12 : decode cX1_reach 12 = .ok (.iload_n 1, 1) := by decide +kernel
theorem dX1_reach_13 : decode cX1_reach 13 = .ok (.iload_n 1, 1) := by decide +kernel
theorem dX1_reach_14 : decode cX1_reach 14 = .ok (.ifCond .ne 7, 3) := by decide +kernel
theorem dX1_reach_17 : decode cX1_reach 17 = .ok (.iconst 1, 1) := by decide +kernel
theorem dX1_reach_18 : decode cX1_reach 18 = .ok (.goto 4, 3) := by decide +kernel
theorem dX1_reach_21 : decode cX1_reach 21 = .ok (.iconst 0, 1) := by decide +kernel
theorem dX1_reach_22 : decode cX1_reach 22 = .ok (.bastore, 1) := by decide +kernel
theorem dX1_reach_23 : decode cX1_reach 23 = .ok (.iinc 1 1, 3) := by decide +kernel
theorem dX1_reach_26 : decode cX1_reach 26 = .ok (.goto (-24), 3) := by decide +kernel
theorem dX1_reach_29 : decode cX1_reach 29 = .ok (.aload_n 0, 1) := by decide +kernel
theorem dX1_reach_30 : decode cX1_reach 30 = .ok (.aload_n 0, 1) := by decide +kernel
theorem dX1_reach_31 : decode cX1_reach 31 = .ok (.getfield 33, 3) := by decide +kernel
theorem dX1_reach_34 : decode cX1_reach 34 = .ok (.invokevirtual 66, 3) := by decide +kernel
theorem dX1_reach_37 : decode cX1_reach 37 = .ok (.return_, 1) := by decide +kernel
theorem dX1_reached_0 : decode cX1_reached 0 = .ok (.aload_n 0, 1) := by decide +kernel
theorem dX1_reached_1 : decode cX1_reached 1 = .ok (.iconst 0, 1) := by decide +kernel
theorem dX1_reached_2 : decode cX1_reached 2 = .ok (.putfield 48, 3) := by decide +kernel
theorem dX1_reached_5 : decode cX1_reached 5 = .ok (.aload_n 0, 1) := by decide +kernel
theorem dX1_reached_6 : decode cX1_reached 6 = .ok (.invokevirtual 70, 3) := by decide +kernel
theorem dX1_reached_9 : decode cX1_reached 9 = .ok (.iconst 0, 1) := by decide +kernel
theorem dX1_reached_10 : decode cX1_reached 10 = .ok (.istore_n 1, 1) := by decide +kernel
theorem dX1_reached_11 : decode cX1_reached 11 = .ok (.iconst 0, 1) := by decide +kernel
theorem dX1_reached_12 : decode cX1_reached 12 = .ok (.istore_n 2, 1) := by decide +kernel
theorem dX1_reached_13 : decode cX1_reached 13 = .ok (.iload_n 2, 1) := by decide +kernel
theorem dX1_reached_14 : decode cX1_reached 14 = .ok (.aload_n 0, 1) := by decide +kernel
theorem dX1_reached_15 : decode cX1_reached 15 = .ok (.getfield 7, 3) := by decide +kernel
theorem dX1_reached_18 : decode cX1_reached 18 = .ok (.if_icmp .ge 21, 3) := by decide +kernel
theorem dX1_reached_21 : decode cX1_reached 21 = .ok (.aload_n 0, 1) := by decide +kernel
theorem dX1_reached_22 : decode cX1_reached 22 = .ok (.getfield 33, 3) := by decide +kernel
theorem dX1_reached_25 : decode cX1_reached 25 = .ok (.iload_n 2, 1) := by decide +kernel
theorem dX1_reached_26 : decode cX1_reached 26 = .ok (.baload, 1) := by decide +kernel
theorem dX1_reached_27 : decode cX1_reached 27 = .ok (.ifCond .eq 6, 3) := by decide +kernel
theorem dX1_reached_30 : decode cX1_reached 30 = .ok (.iinc 1 1, 3) := by decide +kernel
theorem dX1_reached_33 : decode cX1_reached 33 = .ok (.iinc 2 1, 3) := by decide +kernel
theorem dX1_reached_36 : decode cX1_reached 36 = .ok (.goto (-23), 3) := by decide +kernel
theorem dX1_reached_39 : decode cX1_reached 39 = .ok (.iload_n 1, 1) := by decide +kernel
theorem dX1_reached_40 : decode cX1_reached 40 = .ok (.ireturn, 1) := by decide +kernel
theorem dX1_own_0 : decode cX1_own 0 = .ok (.aload_n 0, 1) := by decide +kernel
theorem dX1_own_1 : decode cX1_own 1 = .ok (.getfield 13, 3) := by decide +kernel
theorem dX1_own_4 : decode cX1_own 4 = .ok (.iload_n 1, 1) := by decide +kernel
theorem dX1_own_5 : decode cX1_own 5 = .ok (.baload, 1) := by decide +kernel
theorem dX1_own_6 : decode cX1_own 6 = .ok (.ifCond .eq 51, 3) := by decide +kernel
theorem dX1_own_9 : decode cX1_own 9 = .ok (.aload_n 0, 1) := by decide +kernel
theorem dX1_own_10 : decode cX1_own 10 = .ok (.getfield 24, 3) := by decide +kernel
theorem dX1_own_13 : decode cX1_own 13 = .ok (.iload_n 1, 1) := by decide +kernel
theorem dX1_own_14 : decode cX1_own 14 = .ok (.iaload, 1) := by decide +kernel
theorem dX1_own_15 : decode cX1_own 15 = .ok (.ifCond .eq 12, 3) := by decide +kernel
theorem dX1_own_18 : decode cX1_own 18 = .ok (.aload_n 0, 1) := by decide +kernel
theorem dX1_own_19 : decode cX1_own 19 = .ok (.getfield 27, 3) := by decide +kernel
theorem dX1_own_22 : decode cX1_own 22 = .ok (.iload_n 1, 1) := by decide +kernel
theorem dX1_own_23 : decode cX1_own 23 = .ok (.iaload, 1) := by decide +kernel
theorem dX1_own_24 : decode cX1_own 24 = .ok (.ifCond .ne 7, 3) := by decide +kernel
theorem dX1_own_27 : decode cX1_own 27 = .ok (.iconst 2, 1) := by decide +kernel
theorem dX1_own_28 : decode cX1_own 28 = .ok (.goto 28, 3) := by decide +kernel
theorem dX1_own_31 : decode cX1_own 31 = .ok (.aload_n 0, 1) := by decide +kernel
theorem dX1_own_32 : decode cX1_own 32 = .ok (.getfield 24, 3) := by decide +kernel
theorem dX1_own_35 : decode cX1_own 35 = .ok (.iload_n 1, 1) := by decide +kernel
theorem dX1_own_36 : decode cX1_own 36 = .ok (.iaload, 1) := by decide +kernel
theorem dX1_own_37 : decode cX1_own 37 = .ok (.iconst 1, 1) := by decide +kernel
theorem dX1_own_38 : decode cX1_own 38 = .ok (.if_icmp .le 17, 3) := by decide +kernel
theorem dX1_own_41 : decode cX1_own 41 = .ok (.aload_n 0, 1) := by decide +kernel
theorem dX1_own_42 : decode cX1_own 42 = .ok (.getfield 27, 3) := by decide +kernel
theorem dX1_own_45 : decode cX1_own 45 = .ok (.iload_n 1, 1) := by decide +kernel
theorem dX1_own_46 : decode cX1_own 46 = .ok (.iaload, 1) := by decide +kernel
theorem dX1_own_47 : decode cX1_own 47 = .ok (.iconst 1, 1) := by decide +kernel
theorem dX1_own_48 : decode cX1_own 48 = .ok (.if_icmp .le 7, 3) := by decide +kernel
theorem dX1_own_51 : decode cX1_own 51 = .ok (.iconst 3, 1) := by decide +kernel
theorem dX1_own_52 : decode cX1_own 52 = .ok (.goto 4, 3) := by decide +kernel
theorem dX1_own_55 : decode cX1_own 55 = .ok (.iconst 0, 1) := by decide +kernel
theorem dX1_own_56 : decode cX1_own 56 = .ok (.ireturn, 1) := by decide +kernel
theorem dX1_own_57 : decode cX1_own 57 = .ok (.aload_n 0, 1) := by decide +kernel
theorem dX1_own_58 : decode cX1_own 58 = .ok (.getfield 17, 3) := by decide +kernel
theorem dX1_own_61 : decode cX1_own 61 = .ok (.iload_n 1, 1) := by decide +kernel
theorem dX1_own_62 : decode cX1_own 62 = .ok (.iaload, 1) := by decide +kernel
theorem dX1_own_63 : decode cX1_own 63 = .ok (.ifCond .lt 12, 3) := by decide +kernel
theorem dX1_own_66 : decode cX1_own 66 = .ok (.aload_n 0, 1) := by decide +kernel
theorem dX1_own_67 : decode cX1_own 67 = .ok (.getfield 21, 3) := by decide +kernel
theorem dX1_own_70 : decode cX1_own 70 = .ok (.iload_n 1, 1) := by decide +kernel
theorem dX1_own_71 : decode cX1_own 71 = .ok (.iaload, 1) := by decide +kernel
theorem dX1_own_72 : decode cX1_own 72 = .ok (.ifCond .ge 7, 3) := by decide +kernel
theorem dX1_own_75 : decode cX1_own 75 = .ok (.iconst 4, 1) := by decide +kernel
theorem dX1_own_76 : decode cX1_own 76 = .ok (.goto 26, 3) := by decide +kernel
theorem dX1_own_79 : decode cX1_own 79 = .ok (.aload_n 0, 1) := by decide +kernel
theorem dX1_own_80 : decode cX1_own 80 = .ok (.getfield 17, 3) := by decide +kernel
theorem dX1_own_83 : decode cX1_own 83 = .ok (.iload_n 1, 1) := by decide +kernel
theorem dX1_own_84 : decode cX1_own 84 = .ok (.iaload, 1) := by decide +kernel
theorem dX1_own_85 : decode cX1_own 85 = .ok (.aload_n 0, 1) := by decide +kernel
theorem dX1_own_86 : decode cX1_own 86 = .ok (.getfield 21, 3) := by decide +kernel
theorem dX1_own_89 : decode cX1_own 89 = .ok (.iload_n 1, 1) := by decide +kernel
theorem dX1_own_90 : decode cX1_own 90 = .ok (.iaload, 1) := by decide +kernel
theorem dX1_own_91 : decode cX1_own 91 = .ok (.iadd, 1) := by decide +kernel
theorem dX1_own_92 : decode cX1_own 92 = .ok (.bipush 100, 2) := by decide +kernel
theorem dX1_own_94 : decode cX1_own 94 = .ok (.if_icmp .eq 7, 3) := by decide +kernel
theorem dX1_own_97 : decode cX1_own 97 = .ok (.iconst 5, 1) := by decide +kernel
theorem dX1_own_98 : decode cX1_own 98 = .ok (.goto 4, 3) := by decide +kernel
theorem dX1_own_101 : decode cX1_own 101 = .ok (.iconst 0, 1) := by decide +kernel
theorem dX1_own_102 : decode cX1_own 102 = .ok (.ireturn, 1) := by decide +kernel
theorem dX1_comesAgain_0 : decode cX1_comesAgain 0 = .ok (.iconst 0, 1) := by decide +kernel
theorem dX1_comesAgain_1 : decode cX1_comesAgain 1 = .ok (.istore_n 2, 1) := by decide +kernel
theorem dX1_comesAgain_2 : decode cX1_comesAgain 2 = .ok (.iload_n 2, 1) := by decide +kernel
theorem dX1_comesAgain_3 : decode cX1_comesAgain 3 = .ok (.bipush 60, 2) := by decide +kernel
theorem dX1_comesAgain_5 : decode cX1_comesAgain 5 = .ok (.if_icmp .ge 16, 3) := by decide +kernel
theorem dX1_comesAgain_8 : decode cX1_comesAgain 8 = .ok (.aload_n 0, 1) := by decide +kernel
theorem dX1_comesAgain_9 : decode cX1_comesAgain 9 = .ok (.getfield 36, 3) := by decide +kernel
theorem dX1_comesAgain_12 : decode cX1_comesAgain 12 = .ok (.iload_n 2, 1) := by decide +kernel
theorem dX1_comesAgain_13 : decode cX1_comesAgain 13 = .ok (.iconst 0, 1) := by decide +kernel
theorem dX1_comesAgain_14 : decode cX1_comesAgain 14 = .ok (.bastore, 1) := by decide +kernel
theorem dX1_comesAgain_15 : decode cX1_comesAgain 15 = .ok (.iinc 2 1, 3) := by decide +kernel
theorem dX1_comesAgain_18 : decode cX1_comesAgain 18 = .ok (.goto (-16), 3) := by decide +kernel
theorem dX1_comesAgain_21 : decode cX1_comesAgain 21 = .ok (.iconst 0, 1) := by decide +kernel
theorem dX1_comesAgain_22 : decode cX1_comesAgain 22 = .ok (.istore_n 2, 1) := by decide +kernel
theorem dX1_comesAgain_23 : decode cX1_comesAgain 23 = .ok (.iload_n 2, 1) := by decide +kernel
theorem dX1_comesAgain_24 : decode cX1_comesAgain 24 = .ok (.aload_n 0, 1) := by decide +kernel
theorem dX1_comesAgain_25 : decode cX1_comesAgain 25 = .ok (.iload_n 1, 1) := by decide +kernel
theorem dX1_comesAgain_26 : decode cX1_comesAgain 26 = .ok (.invokevirtual 58, 3) := by decide +kernel
theorem dX1_comesAgain_29 : decode cX1_comesAgain 29 = .ok (.if_icmp .ge 26, 3) := by decide +kernel
theorem dX1_comesAgain_32 : decode cX1_comesAgain 32 = .ok (.aload_n 0, 1) := by decide +kernel
theorem dX1_comesAgain_33 : decode cX1_comesAgain 33 = .ok (.getfield 36, 3) := by decide +kernel
theorem dX1_comesAgain_36 : decode cX1_comesAgain 36 = .ok (.aload_n 0, 1) := by decide +kernel
theorem dX1_comesAgain_37 : decode cX1_comesAgain 37 = .ok (.getfield 30, 3) := by decide +kernel
theorem dX1_comesAgain_40 : decode cX1_comesAgain 40 = .ok (.bipush 12, 2) := by decide +kernel
theorem dX1_comesAgain_42 : decode cX1_comesAgain 42 = .ok (.iload_n 1, 1) := by decide +kernel
theorem dX1_comesAgain_43 : decode cX1_comesAgain 43 = .ok (.imul, 1) := by decide +kernel
theorem dX1_comesAgain_44 : decode cX1_comesAgain 44 = .ok (.iload_n 2, 1) := by decide +kernel
theorem dX1_comesAgain_45 : decode cX1_comesAgain 45 = .ok (.iadd, 1) := by decide +kernel
theorem dX1_comesAgain_46 : decode cX1_comesAgain 46 = .ok (.iaload, 1) := by decide +kernel
theorem dX1_comesAgain_47 : decode cX1_comesAgain 47 = .ok (.iconst 1, 1) := by decide +kernel
theorem dX1_comesAgain_48 : decode cX1_comesAgain 48 = .ok (.bastore, 1) := by decide +kernel
theorem dX1_comesAgain_49 : decode cX1_comesAgain 49 = .ok (.iinc 2 1, 3) := by decide +kernel
theorem dX1_comesAgain_52 : decode cX1_comesAgain 52 = .ok (.goto (-29), 3) := by decide +kernel
theorem dX1_comesAgain_55 : decode cX1_comesAgain 55 = .ok (.aload_n 0, 1) := by decide +kernel
theorem dX1_comesAgain_56 : decode cX1_comesAgain 56 = .ok (.aload_n 0, 1) := by decide +kernel
theorem dX1_comesAgain_57 : decode cX1_comesAgain 57 = .ok (.getfield 36, 3) := by decide +kernel
theorem dX1_comesAgain_60 : decode cX1_comesAgain 60 = .ok (.invokevirtual 66, 3) := by decide +kernel
theorem dX1_comesAgain_63 : decode cX1_comesAgain 63 = .ok (.aload_n 0, 1) := by decide +kernel
theorem dX1_comesAgain_64 : decode cX1_comesAgain 64 = .ok (.getfield 36, 3) := by decide +kernel
theorem dX1_comesAgain_67 : decode cX1_comesAgain 67 = .ok (.iload_n 1, 1) := by decide +kernel
theorem dX1_comesAgain_68 : decode cX1_comesAgain 68 = .ok (.baload, 1) := by decide +kernel
theorem dX1_comesAgain_69 : decode cX1_comesAgain 69 = .ok (.ireturn, 1) := by decide +kernel
theorem dX1_defective_0 : decode cX1_defective 0 = .ok (.aload_n 0, 1) := by decide +kernel
theorem dX1_defective_1 : decode cX1_defective 1 = .ok (.invokevirtual 70, 3) := by decide +kernel
theorem dX1_defective_4 : decode cX1_defective 4 = .ok (.iconst 0, 1) := by decide +kernel
theorem dX1_defective_5 : decode cX1_defective 5 = .ok (.istore_n 1, 1) := by decide +kernel
theorem dX1_defective_6 : decode cX1_defective 6 = .ok (.iload_n 1, 1) := by decide +kernel
theorem dX1_defective_7 : decode cX1_defective 7 = .ok (.aload_n 0, 1) := by decide +kernel
theorem dX1_defective_8 : decode cX1_defective 8 = .ok (.getfield 7, 3) := by decide +kernel
theorem dX1_defective_11 : decode cX1_defective 11 = .ok (.if_icmp .ge 28, 3) := by decide +kernel
theorem dX1_defective_14 : decode cX1_defective 14 = .ok (.aload_n 0, 1) := by decide +kernel
theorem dX1_defective_15 : decode cX1_defective 15 = .ok (.getfield 33, 3) := by decide +kernel
theorem dX1_defective_18 : decode cX1_defective 18 = .ok (.iload_n 1, 1) := by decide +kernel
theorem dX1_defective_19 : decode cX1_defective 19 = .ok (.baload, 1) := by decide +kernel
theorem dX1_defective_20 : decode cX1_defective 20 = .ok (.ifCond .eq 13, 3) := by decide +kernel
theorem dX1_defective_23 : decode cX1_defective 23 = .ok (.aload_n 0, 1) := by decide +kernel
theorem dX1_defective_24 : decode cX1_defective 24 = .ok (.iload_n 1, 1) := by decide +kernel
theorem dX1_defective_25 : decode cX1_defective 25 = .ok (.invokevirtual 73, 3) := by decide +kernel
theorem dX1_defective_28 : decode cX1_defective 28 = .ok (.ifCond .eq 5, 3) := by decide +kernel
theorem dX1_defective_31 : decode cX1_defective 31 = .ok (.iload_n 1, 1) := by decide +kernel
theorem dX1_defective_32 : decode cX1_defective 32 = .ok (.ireturn, 1) := by decide +kernel
theorem dX1_defective_33 : decode cX1_defective 33 = .ok (.iinc 1 1, 3) := by decide +kernel
theorem dX1_defective_36 : decode cX1_defective 36 = .ok (.goto (-30), 3) := by decide +kernel
theorem dX1_defective_39 : decode cX1_defective 39 = .ok (.iconst 0, 1) := by decide +kernel
theorem dX1_defective_40 : decode cX1_defective 40 = .ok (.istore_n 1, 1) := by decide +kernel
theorem dX1_defective_41 : decode cX1_defective 41 = .ok (.iload_n 1, 1) := by decide +kernel
theorem dX1_defective_42 : decode cX1_defective 42 = .ok (.aload_n 0, 1) := by decide +kernel
theorem dX1_defective_43 : decode cX1_defective 43 = .ok (.getfield 7, 3) := by decide +kernel
theorem dX1_defective_46 : decode cX1_defective 46 = .ok (.if_icmp .ge 28, 3) := by decide +kernel
theorem dX1_defective_49 : decode cX1_defective 49 = .ok (.aload_n 0, 1) := by decide +kernel
theorem dX1_defective_50 : decode cX1_defective 50 = .ok (.getfield 33, 3) := by decide +kernel
theorem dX1_defective_53 : decode cX1_defective 53 = .ok (.iload_n 1, 1) := by decide +kernel
theorem dX1_defective_54 : decode cX1_defective 54 = .ok (.baload, 1) := by decide +kernel
theorem dX1_defective_55 : decode cX1_defective 55 = .ok (.ifCond .eq 13, 3) := by decide +kernel
theorem dX1_defective_58 : decode cX1_defective 58 = .ok (.aload_n 0, 1) := by decide +kernel
theorem dX1_defective_59 : decode cX1_defective 59 = .ok (.iload_n 1, 1) := by decide +kernel
theorem dX1_defective_60 : decode cX1_defective 60 = .ok (.invokevirtual 76, 3) := by decide +kernel
theorem dX1_defective_63 : decode cX1_defective 63 = .ok (.ifCond .eq 5, 3) := by decide +kernel
theorem dX1_defective_66 : decode cX1_defective 66 = .ok (.iload_n 1, 1) := by decide +kernel
theorem dX1_defective_67 : decode cX1_defective 67 = .ok (.ireturn, 1) := by decide +kernel
theorem dX1_defective_68 : decode cX1_defective 68 = .ok (.iinc 1 1, 3) := by decide +kernel
theorem dX1_defective_71 : decode cX1_defective 71 = .ok (.goto (-30), 3) := by decide +kernel
theorem dX1_defective_74 : decode cX1_defective 74 = .ok (.iconst (-1), 1) := by decide +kernel
theorem dX1_defective_75 : decode cX1_defective 75 = .ok (.ireturn, 1) := by decide +kernel
theorem dX1_defect_0 : decode cX1_defect 0 = .ok (.aload_n 0, 1) := by decide +kernel
theorem dX1_defect_1 : decode cX1_defect 1 = .ok (.iload_n 1, 1) := by decide +kernel
theorem dX1_defect_2 : decode cX1_defect 2 = .ok (.ifCond .eq 8, 3) := by decide +kernel
theorem dX1_defect_5 : decode cX1_defect 5 = .ok (.iload_n 1, 1) := by decide +kernel
theorem dX1_defect_6 : decode cX1_defect 6 = .ok (.iconst 1, 1) := by decide +kernel
theorem dX1_defect_7 : decode cX1_defect 7 = .ok (.if_icmp .ne 7, 3) := by decide +kernel
theorem dX1_defect_10 : decode cX1_defect 10 = .ok (.iconst 0, 1) := by decide +kernel
theorem dX1_defect_11 : decode cX1_defect 11 = .ok (.goto 4, 3) := by decide +kernel
theorem dX1_defect_14 : decode cX1_defect 14 = .ok (.iconst 1, 1) := by decide +kernel
theorem dX1_defect_15 : decode cX1_defect 15 = .ok (.putfield 48, 3) := by decide +kernel
theorem dX1_defect_18 : decode cX1_defect 18 = .ok (.aload_n 0, 1) := by decide +kernel
theorem dX1_defect_19 : decode cX1_defect 19 = .ok (.getfield 48, 3) := by decide +kernel
theorem dX1_defect_22 : decode cX1_defect 22 = .ok (.ifCond .eq 5, 3) := by decide +kernel
theorem dX1_defect_25 : decode cX1_defect 25 = .ok (.iconst 0, 1) := by decide +kernel
theorem dX1_defect_26 : decode cX1_defect 26 = .ok (.ireturn, 1) := by decide +kernel
theorem dX1_defect_27 : decode cX1_defect 27 = .ok (.aload_n 0, 1) := by decide +kernel
theorem dX1_defect_28 : decode cX1_defect 28 = .ok (.invokevirtual 79, 3) := by decide +kernel
theorem dX1_defect_31 : decode cX1_defect 31 = .ok (.istore_n 2, 1) := by decide +kernel
theorem dX1_defect_32 : decode cX1_defect 32 = .ok (.iload_n 1, 1) := by decide +kernel
theorem dX1_defect_33 : decode cX1_defect 33 = .ok (.iconst 1, 1) := by decide +kernel
theorem dX1_defect_34 : decode cX1_defect 34 = .ok (.if_icmp .ne 7, 3) := by decide +kernel
theorem dX1_defect_37 : decode cX1_defect 37 = .ok (.iload_n 2, 1) := by decide +kernel
theorem dX1_defect_38 : decode cX1_defect 38 = .ok (.goto 30, 3) := by decide +kernel
theorem dX1_defect_41 : decode cX1_defect 41 = .ok (.iload_n 2, 1) := by decide +kernel
theorem dX1_defect_42 : decode cX1_defect 42 = .ok (.iconst (-1), 1) := by decide +kernel
theorem dX1_defect_43 : decode cX1_defect 43 = .ok (.if_icmp .ne 7, 3) := by decide +kernel
theorem dX1_defect_46 : decode cX1_defect 46 = .ok (.iconst 0, 1) := by decide +kernel
theorem dX1_defect_47 : decode cX1_defect 47 = .ok (.goto 21, 3) := by decide +kernel
theorem dX1_defect_50 : decode cX1_defect 50 = .ok (.aload_n 0, 1) := by decide +kernel
theorem dX1_defect_51 : decode cX1_defect 51 = .ok (.iload_n 2, 1) := by decide +kernel
theorem dX1_defect_52 : decode cX1_defect 52 = .ok (.invokevirtual 73, 3) := by decide +kernel
theorem dX1_defect_55 : decode cX1_defect 55 = .ok (.ifCond .eq 11, 3) := by decide +kernel
theorem dX1_defect_58 : decode cX1_defect 58 = .ok (.aload_n 0, 1) := by decide +kernel
theorem dX1_defect_59 : decode cX1_defect 59 = .ok (.iload_n 2, 1) := by decide +kernel
theorem dX1_defect_60 : decode cX1_defect 60 = .ok (.invokevirtual 73, 3) := by decide +kernel
theorem dX1_defect_63 : decode cX1_defect 63 = .ok (.goto 5, 3) := by decide +kernel
theorem dX1_defect_66 : decode cX1_defect 66 = .ok (.bipush 6, 2) := by decide +kernel
theorem dX1_defect_68 : decode cX1_defect 68 = .ok (.ireturn, 1) := by decide +kernel
theorem dX1_learn_0 : decode cX1_learn 0 = .ok (.aload_n 0, 1) := by decide +kernel
theorem dX1_learn_1 : decode cX1_learn 1 = .ok (.getfield 42, 3) := by decide +kernel
theorem dX1_learn_4 : decode cX1_learn 4 = .ok (.iload_n 1, 1) := by decide +kernel
theorem dX1_learn_5 : decode cX1_learn 5 = .ok (.aload_n 0, 1) := by decide +kernel
theorem dX1_learn_6 : decode cX1_learn 6 = .ok (.getfield 17, 3) := by decide +kernel
theorem dX1_learn_9 : decode cX1_learn 9 = .ok (.iload_n 1, 1) := by decide +kernel
theorem dX1_learn_10 : decode cX1_learn 10 = .ok (.iaload, 1) := by decide +kernel
theorem dX1_learn_11 : decode cX1_learn 11 = .ok (.iastore, 1) := by decide +kernel
theorem dX1_learn_12 : decode cX1_learn 12 = .ok (.aload_n 0, 1) := by decide +kernel
theorem dX1_learn_13 : decode cX1_learn 13 = .ok (.getfield 45, 3) := by decide +kernel
theorem dX1_learn_16 : decode cX1_learn 16 = .ok (.iload_n 1, 1) := by decide +kernel
theorem dX1_learn_17 : decode cX1_learn 17 = .ok (.iconst 0, 1) := by decide +kernel
theorem dX1_learn_18 : decode cX1_learn 18 = .ok (.iastore, 1) := by decide +kernel
theorem dX1_learn_19 : decode cX1_learn 19 = .ok (.aload_n 0, 1) := by decide +kernel
theorem dX1_learn_20 : decode cX1_learn 20 = .ok (.getfield 39, 3) := by decide +kernel
theorem dX1_learn_23 : decode cX1_learn 23 = .ok (.iload_n 1, 1) := by decide +kernel
theorem dX1_learn_24 : decode cX1_learn 24 = .ok (.iconst 1, 1) := by decide +kernel
theorem dX1_learn_25 : decode cX1_learn 25 = .ok (.bastore, 1) := by decide +kernel
theorem dX1_learn_26 : decode cX1_learn 26 = .ok (.iconst 0, 1) := by decide +kernel
theorem dX1_learn_27 : decode cX1_learn 27 = .ok (.istore_n 2, 1) := by decide +kernel
theorem dX1_learn_28 : decode cX1_learn 28 = .ok (.iload_n 2, 1) := by decide +kernel
theorem dX1_learn_29 : decode cX1_learn 29 = .ok (.aload_n 0, 1) := by decide +kernel
theorem dX1_learn_30 : decode cX1_learn 30 = .ok (.iload_n 1, 1) := by decide +kernel
theorem dX1_learn_31 : decode cX1_learn 31 = .ok (.invokevirtual 58, 3) := by decide +kernel
theorem dX1_learn_34 : decode cX1_learn 34 = .ok (.if_icmp .ge 35, 3) := by decide +kernel
theorem dX1_learn_37 : decode cX1_learn 37 = .ok (.aload_n 0, 1) := by decide +kernel
theorem dX1_learn_38 : decode cX1_learn 38 = .ok (.getfield 39, 3) := by decide +kernel
theorem dX1_learn_41 : decode cX1_learn 41 = .ok (.aload_n 0, 1) := by decide +kernel
theorem dX1_learn_42 : decode cX1_learn 42 = .ok (.getfield 30, 3) := by decide +kernel
theorem dX1_learn_45 : decode cX1_learn 45 = .ok (.bipush 12, 2) := by decide +kernel
theorem dX1_learn_47 : decode cX1_learn 47 = .ok (.iload_n 1, 1) := by decide +kernel
theorem dX1_learn_48 : decode cX1_learn 48 = .ok (.imul, 1) := by decide +kernel
theorem dX1_learn_49 : decode cX1_learn 49 = .ok (.iload_n 2, 1) := by decide +kernel
theorem dX1_learn_50 : decode cX1_learn 50 = .ok (.iadd, 1) := by decide +kernel
theorem dX1_learn_51 : decode cX1_learn 51 = .ok (.iaload, 1) := by decide +kernel
theorem dX1_learn_52 : decode cX1_learn 52 = .ok (.baload, 1) := by decide +kernel
theorem dX1_learn_53 : decode cX1_learn 53 = .ok (.ifCond .ne 10, 3) := by decide +kernel
theorem dX1_learn_56 : decode cX1_learn 56 = .ok (.aload_n 0, 1) := by decide +kernel
theorem dX1_learn_57 : decode cX1_learn 57 = .ok (.getfield 39, 3) := by decide +kernel
theorem dX1_learn_60 : decode cX1_learn 60 = .ok (.iload_n 1, 1) := by decide +kernel
theorem dX1_learn_61 : decode cX1_learn 61 = .ok (.iconst 0, 1) := by decide +kernel
theorem dX1_learn_62 : decode cX1_learn 62 = .ok (.bastore, 1) := by decide +kernel
theorem dX1_learn_63 : decode cX1_learn 63 = .ok (.iinc 2 1, 3) := by decide +kernel
theorem dX1_learn_66 : decode cX1_learn 66 = .ok (.goto (-38), 3) := by decide +kernel
theorem dX1_learn_69 : decode cX1_learn 69 = .ok (.iconst 0, 1) := by decide +kernel
theorem dX1_learn_70 : decode cX1_learn 70 = .ok (.istore_n 2, 1) := by decide +kernel
theorem dX1_learn_71 : decode cX1_learn 71 = .ok (.iload_n 2, 1) := by decide +kernel
theorem dX1_learn_72 : decode cX1_learn 72 = .ok (.aload_n 0, 1) := by decide +kernel
theorem dX1_learn_73 : decode cX1_learn 73 = .ok (.iload_n 1, 1) := by decide +kernel
theorem dX1_learn_74 : decode cX1_learn 74 = .ok (.invokevirtual 58, 3) := by decide +kernel
theorem dX1_learn_77 : decode cX1_learn 77 = .ok (.if_icmp .ge 137, 3) := by decide +kernel
theorem dX1_learn_80 : decode cX1_learn 80 = .ok (.aload_n 0, 1) := by decide +kernel
theorem dX1_learn_81 : decode cX1_learn 81 = .ok (.getfield 39, 3) := by decide +kernel
theorem dX1_learn_84 : decode cX1_learn 84 = .ok (.iload_n 1, 1) := by decide +kernel
theorem dX1_learn_85 : decode cX1_learn 85 = .ok (.baload, 1) := by decide +kernel
theorem dX1_learn_86 : decode cX1_learn 86 = .ok (.ifCond .eq 128, 3) := by decide +kernel
theorem dX1_learn_89 : decode cX1_learn 89 = .ok (.aload_n 0, 1) := by decide +kernel
theorem dX1_learn_90 : decode cX1_learn 90 = .ok (.getfield 30, 3) := by decide +kernel
theorem dX1_learn_93 : decode cX1_learn 93 = .ok (.bipush 12, 2) := by decide +kernel
theorem dX1_learn_95 : decode cX1_learn 95 = .ok (.iload_n 1, 1) := by decide +kernel
theorem dX1_learn_96 : decode cX1_learn 96 = .ok (.imul, 1) := by decide +kernel
theorem dX1_learn_97 : decode cX1_learn 97 = .ok (.iload_n 2, 1) := by decide +kernel
theorem dX1_learn_98 : decode cX1_learn 98 = .ok (.iadd, 1) := by decide +kernel
theorem dX1_learn_99 : decode cX1_learn 99 = .ok (.iaload, 1) := by decide +kernel
theorem dX1_learn_100 : decode cX1_learn 100 = .ok (.istore_n 3, 1) := by decide +kernel
theorem dX1_learn_101 : decode cX1_learn 101 = .ok (.aload_n 0, 1) := by decide +kernel
theorem dX1_learn_102 : decode cX1_learn 102 = .ok (.getfield 24, 3) := by decide +kernel
theorem dX1_learn_105 : decode cX1_learn 105 = .ok (.iload_n 1, 1) := by decide +kernel
theorem dX1_learn_106 : decode cX1_learn 106 = .ok (.iaload, 1) := by decide +kernel
theorem dX1_learn_107 : decode cX1_learn 107 = .ok (.iconst 1, 1) := by decide +kernel
theorem dX1_learn_108 : decode cX1_learn 108 = .ok (.if_icmp .le 26, 3) := by decide +kernel
theorem dX1_learn_111 : decode cX1_learn 111 = .ok (.aload_n 0, 1) := by decide +kernel
theorem dX1_learn_112 : decode cX1_learn 112 = .ok (.getfield 42, 3) := by decide +kernel
theorem dX1_learn_115 : decode cX1_learn 115 = .ok (.iload_n 3, 1) := by decide +kernel
theorem dX1_learn_116 : decode cX1_learn 116 = .ok (.iaload, 1) := by decide +kernel
theorem dX1_learn_117 : decode cX1_learn 117 = .ok (.aload_n 0, 1) := by decide +kernel
theorem dX1_learn_118 : decode cX1_learn 118 = .ok (.getfield 42, 3) := by decide +kernel
theorem dX1_learn_121 : decode cX1_learn 121 = .ok (.iload_n 1, 1) := by decide +kernel
theorem dX1_learn_122 : decode cX1_learn 122 = .ok (.iaload, 1) := by decide +kernel
theorem dX1_learn_123 : decode cX1_learn 123 = .ok (.if_icmp .le 7, 3) := by decide +kernel
theorem dX1_learn_126 : decode cX1_learn 126 = .ok (.iconst 1, 1) := by decide +kernel
theorem dX1_learn_127 : decode cX1_learn 127 = .ok (.goto 27, 3) := by decide +kernel
theorem dX1_learn_130 : decode cX1_learn 130 = .ok (.iconst 0, 1) := by decide +kernel
theorem dX1_learn_131 : decode cX1_learn 131 = .ok (.goto 23, 3) := by decide +kernel
theorem dX1_learn_134 : decode cX1_learn 134 = .ok (.aload_n 0, 1) := by decide +kernel
theorem dX1_learn_135 : decode cX1_learn 135 = .ok (.getfield 42, 3) := by decide +kernel
theorem dX1_learn_138 : decode cX1_learn 138 = .ok (.iload_n 3, 1) := by decide +kernel
theorem dX1_learn_139 : decode cX1_learn 139 = .ok (.iaload, 1) := by decide +kernel
theorem dX1_learn_140 : decode cX1_learn 140 = .ok (.aload_n 0, 1) := by decide +kernel
theorem dX1_learn_141 : decode cX1_learn 141 = .ok (.getfield 42, 3) := by decide +kernel
theorem dX1_learn_144 : decode cX1_learn 144 = .ok (.iload_n 1, 1) := by decide +kernel
theorem dX1_learn_145 : decode cX1_learn 145 = .ok (.iaload, 1) := by decide +kernel
theorem dX1_learn_146 : decode cX1_learn 146 = .ok (.if_icmp .ge 7, 3) := by decide +kernel
theorem dX1_learn_149 : decode cX1_learn 149 = .ok (.iconst 1, 1) := by decide +kernel
theorem dX1_learn_150 : decode cX1_learn 150 = .ok (.goto 4, 3) := by decide +kernel
theorem dX1_learn_153 : decode cX1_learn 153 = .ok (.iconst 0, 1) := by decide +kernel
theorem dX1_learn_154 : decode cX1_learn 154 = .ok (.istore 4, 2) := by decide +kernel
theorem dX1_learn_156 : decode cX1_learn 156 = .ok (.iload_n 2, 1) := by decide +kernel
theorem dX1_learn_157 : decode cX1_learn 157 = .ok (.ifCond .eq 8, 3) := by decide +kernel
theorem dX1_learn_160 : decode cX1_learn 160 = .ok (.iload 4, 2) := by decide +kernel
theorem dX1_learn_162 : decode cX1_learn 162 = .ok (.ifCond .eq 15, 3) := by decide +kernel
theorem dX1_learn_165 : decode cX1_learn 165 = .ok (.aload_n 0, 1) := by decide +kernel
theorem dX1_learn_166 : decode cX1_learn 166 = .ok (.getfield 42, 3) := by decide +kernel
theorem dX1_learn_169 : decode cX1_learn 169 = .ok (.iload_n 1, 1) := by decide +kernel
theorem dX1_learn_170 : decode cX1_learn 170 = .ok (.aload_n 0, 1) := by decide +kernel
theorem dX1_learn_171 : decode cX1_learn 171 = .ok (.getfield 42, 3) := by decide +kernel
theorem dX1_learn_174 : decode cX1_learn 174 = .ok (.iload_n 3, 1) := by decide +kernel
theorem dX1_learn_175 : decode cX1_learn 175 = .ok (.iaload, 1) := by decide +kernel
theorem dX1_learn_176 : decode cX1_learn 176 = .ok (.iastore, 1) := by decide +kernel
theorem dX1_learn_177 : decode cX1_learn 177 = .ok (.aload_n 0, 1) := by decide +kernel
theorem dX1_learn_178 : decode cX1_learn 178 = .ok (.getfield 45, 3) := by decide +kernel
theorem dX1_learn_181 : decode cX1_learn 181 = .ok (.iload_n 3, 1) := by decide +kernel
theorem dX1_learn_182 : decode cX1_learn 182 = .ok (.iaload, 1) := by decide +kernel
theorem dX1_learn_183 : decode cX1_learn 183 = .ok (.iconst 1, 1) := by decide +kernel
theorem dX1_learn_184 : decode cX1_learn 184 = .ok (.iadd, 1) := by decide +kernel
theorem dX1_learn_185 : decode cX1_learn 185 = .ok (.aload_n 0, 1) := by decide +kernel
theorem dX1_learn_186 : decode cX1_learn 186 = .ok (.getfield 45, 3) := by decide +kernel
theorem dX1_learn_189 : decode cX1_learn 189 = .ok (.iload_n 1, 1) := by decide +kernel
theorem dX1_learn_190 : decode cX1_learn 190 = .ok (.iaload, 1) := by decide +kernel
theorem dX1_learn_191 : decode cX1_learn 191 = .ok (.if_icmp .le 17, 3) := by decide +kernel
theorem dX1_learn_194 : decode cX1_learn 194 = .ok (.aload_n 0, 1) := by decide +kernel
theorem dX1_learn_195 : decode cX1_learn 195 = .ok (.getfield 45, 3) := by decide +kernel
theorem dX1_learn_198 : decode cX1_learn 198 = .ok (.iload_n 1, 1) := by decide +kernel
theorem dX1_learn_199 : decode cX1_learn 199 = .ok (.aload_n 0, 1) := by decide +kernel
theorem dX1_learn_200 : decode cX1_learn 200 = .ok (.getfield 45, 3) := by decide +kernel
theorem dX1_learn_203 : decode cX1_learn 203 = .ok (.iload_n 3, 1) := by decide +kernel
theorem dX1_learn_204 : decode cX1_learn 204 = .ok (.iaload, 1) := by decide +kernel
theorem dX1_learn_205 : decode cX1_learn 205 = .ok (.iconst 1, 1) := by decide +kernel
theorem dX1_learn_206 : decode cX1_learn 206 = .ok (.iadd, 1) := by decide +kernel
theorem dX1_learn_207 : decode cX1_learn 207 = .ok (.iastore, 1) := by decide +kernel
theorem dX1_learn_208 : decode cX1_learn 208 = .ok (.iinc 2 1, 3) := by decide +kernel
theorem dX1_learn_211 : decode cX1_learn 211 = .ok (.goto (-140), 3) := by decide +kernel
theorem dX1_learn_214 : decode cX1_learn 214 = .ok (.return_, 1) := by decide +kernel
theorem dX1_asked_0 : decode cX1_asked 0 = .ok (.aload_n 0, 1) := by decide +kernel
theorem dX1_asked_1 : decode cX1_asked 1 = .ok (.aload_n 0, 1) := by decide +kernel
theorem dX1_asked_2 : decode cX1_asked 2 = .ok (.invokevirtual 79, 3) := by decide +kernel
theorem dX1_asked_5 : decode cX1_asked 5 = .ok (.iconst (-1), 1) := by decide +kernel
theorem dX1_asked_6 : decode cX1_asked 6 = .ok (.if_icmp .eq 7, 3) := by decide +kernel
theorem dX1_asked_9 : decode cX1_asked 9 = .ok (.iconst 1, 1) := by decide +kernel
theorem dX1_asked_10 : decode cX1_asked 10 = .ok (.goto 25, 3) := by decide +kernel
theorem dX1_asked_13 : decode cX1_asked 13 = .ok (.aload_n 0, 1) := by decide +kernel
theorem dX1_asked_14 : decode cX1_asked 14 = .ok (.iload_n 1, 1) := by decide +kernel
theorem dX1_asked_15 : decode cX1_asked 15 = .ok (.invokevirtual 51, 3) := by decide +kernel
theorem dX1_asked_18 : decode cX1_asked 18 = .ok (.ifCond .eq 12, 3) := by decide +kernel
theorem dX1_asked_21 : decode cX1_asked 21 = .ok (.aload_n 0, 1) := by decide +kernel
theorem dX1_asked_22 : decode cX1_asked 22 = .ok (.getfield 33, 3) := by decide +kernel
theorem dX1_asked_25 : decode cX1_asked 25 = .ok (.iload_n 1, 1) := by decide +kernel
theorem dX1_asked_26 : decode cX1_asked 26 = .ok (.baload, 1) := by decide +kernel
theorem dX1_asked_27 : decode cX1_asked 27 = .ok (.ifCond .ne 7, 3) := by decide +kernel
theorem dX1_asked_30 : decode cX1_asked 30 = .ok (.iconst 2, 1) := by decide +kernel
theorem dX1_asked_31 : decode cX1_asked 31 = .ok (.goto 4, 3) := by decide +kernel
theorem dX1_asked_34 : decode cX1_asked 34 = .ok (.iconst 0, 1) := by decide +kernel
theorem dX1_asked_35 : decode cX1_asked 35 = .ok (.putfield 48, 3) := by decide +kernel
theorem dX1_asked_38 : decode cX1_asked 38 = .ok (.aload_n 0, 1) := by decide +kernel
theorem dX1_asked_39 : decode cX1_asked 39 = .ok (.getfield 48, 3) := by decide +kernel
theorem dX1_asked_42 : decode cX1_asked 42 = .ok (.ifCond .eq 5, 3) := by decide +kernel
theorem dX1_asked_45 : decode cX1_asked 45 = .ok (.iconst 0, 1) := by decide +kernel
theorem dX1_asked_46 : decode cX1_asked 46 = .ok (.ireturn, 1) := by decide +kernel
theorem dX1_asked_47 : decode cX1_asked 47 = .ok (.iconst 0, 1) := by decide +kernel
theorem dX1_asked_48 : decode cX1_asked 48 = .ok (.istore_n 2, 1) := by decide +kernel
theorem dX1_asked_49 : decode cX1_asked 49 = .ok (.iload_n 2, 1) := by decide +kernel
theorem dX1_asked_50 : decode cX1_asked 50 = .ok (.aload_n 0, 1) := by decide +kernel
theorem dX1_asked_51 : decode cX1_asked 51 = .ok (.getfield 7, 3) := by decide +kernel
theorem dX1_asked_54 : decode cX1_asked 54 = .ok (.if_icmp .ge 16, 3) := by decide +kernel
theorem dX1_asked_57 : decode cX1_asked 57 = .ok (.aload_n 0, 1) := by decide +kernel
theorem dX1_asked_58 : decode cX1_asked 58 = .ok (.getfield 39, 3) := by decide +kernel
theorem dX1_asked_61 : decode cX1_asked 61 = .ok (.iload_n 2, 1) := by decide +kernel
theorem dX1_asked_62 : decode cX1_asked 62 = .ok (.iconst 0, 1) := by decide +kernel
theorem dX1_asked_63 : decode cX1_asked 63 = .ok (.bastore, 1) := by decide +kernel
theorem dX1_asked_64 : decode cX1_asked 64 = .ok (.iinc 2 1, 3) := by decide +kernel
theorem dX1_asked_67 : decode cX1_asked 67 = .ok (.goto (-18), 3) := by decide +kernel
theorem dX1_asked_70 : decode cX1_asked 70 = .ok (.iconst 0, 1) := by decide +kernel
theorem dX1_asked_71 : decode cX1_asked 71 = .ok (.istore_n 2, 1) := by decide +kernel
theorem dX1_asked_72 : decode cX1_asked 72 = .ok (.iload_n 2, 1) := by decide +kernel
theorem dX1_asked_73 : decode cX1_asked 73 = .ok (.aload_n 0, 1) := by decide +kernel
theorem dX1_asked_74 : decode cX1_asked 74 = .ok (.getfield 7, 3) := by decide +kernel
theorem dX1_asked_77 : decode cX1_asked 77 = .ok (.if_icmp .ge 48, 3) := by decide +kernel
theorem dX1_asked_80 : decode cX1_asked 80 = .ok (.iconst 0, 1) := by decide +kernel
theorem dX1_asked_81 : decode cX1_asked 81 = .ok (.istore_n 3, 1) := by decide +kernel
theorem dX1_asked_82 : decode cX1_asked 82 = .ok (.iload_n 3, 1) := by decide +kernel
theorem dX1_asked_83 : decode cX1_asked 83 = .ok (.aload_n 0, 1) := by decide +kernel
theorem dX1_asked_84 : decode cX1_asked 84 = .ok (.getfield 7, 3) := by decide +kernel
theorem dX1_asked_87 : decode cX1_asked 87 = .ok (.if_icmp .ge 32, 3) := by decide +kernel
theorem dX1_asked_90 : decode cX1_asked 90 = .ok (.aload_n 0, 1) := by decide +kernel
theorem dX1_asked_91 : decode cX1_asked 91 = .ok (.getfield 33, 3) := by decide +kernel
theorem dX1_asked_94 : decode cX1_asked 94 = .ok (.iload_n 3, 1) := by decide +kernel
theorem dX1_asked_95 : decode cX1_asked 95 = .ok (.baload, 1) := by decide +kernel
theorem dX1_asked_96 : decode cX1_asked 96 = .ok (.ifCond .eq 17, 3) := by decide +kernel
theorem dX1_asked_99 : decode cX1_asked 99 = .ok (.aload_n 0, 1) := by decide +kernel
theorem dX1_asked_100 : decode cX1_asked 100 = .ok (.getfield 39, 3) := by decide +kernel
theorem dX1_asked_103 : decode cX1_asked 103 = .ok (.iload_n 3, 1) := by decide +kernel
theorem dX1_asked_104 : decode cX1_asked 104 = .ok (.baload, 1) := by decide +kernel
theorem dX1_asked_105 : decode cX1_asked 105 = .ok (.ifCond .ne 8, 3) := by decide +kernel
theorem dX1_asked_108 : decode cX1_asked 108 = .ok (.aload_n 0, 1) := by decide +kernel
theorem dX1_asked_109 : decode cX1_asked 109 = .ok (.iload_n 3, 1) := by decide +kernel
theorem dX1_asked_110 : decode cX1_asked 110 = .ok (.invokevirtual 83, 3) := by decide +kernel
theorem dX1_asked_113 : decode cX1_asked 113 = .ok (.iinc 3 1, 3) := by decide +kernel
theorem dX1_asked_116 : decode cX1_asked 116 = .ok (.goto (-34), 3) := by decide +kernel
theorem dX1_asked_119 : decode cX1_asked 119 = .ok (.iinc 2 1, 3) := by decide +kernel
theorem dX1_asked_122 : decode cX1_asked 122 = .ok (.goto (-50), 3) := by decide +kernel
theorem dX1_asked_125 : decode cX1_asked 125 = .ok (.iconst 1, 1) := by decide +kernel
theorem dX1_asked_126 : decode cX1_asked 126 = .ok (.ireturn, 1) := by decide +kernel
theorem dX1_value_0 : decode cX1_value 0 = .ok (.aload_n 0, 1) := by decide +kernel
theorem dX1_value_1 : decode cX1_value 1 = .ok (.iload_n 1, 1) := by decide +kernel
theorem dX1_value_2 : decode cX1_value 2 = .ok (.invokevirtual 87, 3) := by decide +kernel
theorem dX1_value_5 : decode cX1_value 5 = .ok (.ifCond .eq 12, 3) := by decide +kernel
theorem dX1_value_8 : decode cX1_value 8 = .ok (.aload_n 0, 1) := by decide +kernel
theorem dX1_value_9 : decode cX1_value 9 = .ok (.getfield 42, 3) := by decide +kernel
theorem dX1_value_12 : decode cX1_value 12 = .ok (.iload_n 1, 1) := by decide +kernel
theorem dX1_value_13 : decode cX1_value 13 = .ok (.iaload, 1) := by decide +kernel
theorem dX1_value_14 : decode cX1_value 14 = .ok (.goto 4, 3) := by decide +kernel
theorem dX1_value_17 : decode cX1_value 17 = .ok (.iconst 0, 1) := by decide +kernel
theorem dX1_value_18 : decode cX1_value 18 = .ok (.ireturn, 1) := by decide +kernel
theorem dX1_best_0 : decode cX1_best 0 = .ok (.aload_n 0, 1) := by decide +kernel
theorem dX1_best_1 : decode cX1_best 1 = .ok (.iload_n 1, 1) := by decide +kernel
theorem dX1_best_2 : decode cX1_best 2 = .ok (.invokevirtual 87, 3) := by decide +kernel
theorem dX1_best_5 : decode cX1_best 5 = .ok (.ifCond .ne 5, 3) := by decide +kernel
theorem dX1_best_8 : decode cX1_best 8 = .ok (.iconst 0, 1) := by decide +kernel
theorem dX1_best_9 : decode cX1_best 9 = .ok (.ireturn, 1) := by decide +kernel
theorem dX1_best_10 : decode cX1_best 10 = .ok (.iconst 0, 1) := by decide +kernel
theorem dX1_best_11 : decode cX1_best 11 = .ok (.istore_n 2, 1) := by decide +kernel
theorem dX1_best_12 : decode cX1_best 12 = .ok (.iload_n 2, 1) := by decide +kernel
theorem dX1_best_13 : decode cX1_best 13 = .ok (.aload_n 0, 1) := by decide +kernel
theorem dX1_best_14 : decode cX1_best 14 = .ok (.iload_n 1, 1) := by decide +kernel
theorem dX1_best_15 : decode cX1_best 15 = .ok (.invokevirtual 58, 3) := by decide +kernel
theorem dX1_best_18 : decode cX1_best 18 = .ok (.if_icmp .ge 36, 3) := by decide +kernel
theorem dX1_best_21 : decode cX1_best 21 = .ok (.aload_n 0, 1) := by decide +kernel
theorem dX1_best_22 : decode cX1_best 22 = .ok (.getfield 42, 3) := by decide +kernel
theorem dX1_best_25 : decode cX1_best 25 = .ok (.aload_n 0, 1) := by decide +kernel
theorem dX1_best_26 : decode cX1_best 26 = .ok (.getfield 30, 3) := by decide +kernel
theorem dX1_best_29 : decode cX1_best 29 = .ok (.bipush 12, 2) := by decide +kernel
theorem dX1_best_31 : decode cX1_best 31 = .ok (.iload_n 1, 1) := by decide +kernel
theorem dX1_best_32 : decode cX1_best 32 = .ok (.imul, 1) := by decide +kernel
theorem dX1_best_33 : decode cX1_best 33 = .ok (.iload_n 2, 1) := by decide +kernel
theorem dX1_best_34 : decode cX1_best 34 = .ok (.iadd, 1) := by decide +kernel
theorem dX1_best_35 : decode cX1_best 35 = .ok (.iaload, 1) := by decide +kernel
theorem dX1_best_36 : decode cX1_best 36 = .ok (.iaload, 1) := by decide +kernel
theorem dX1_best_37 : decode cX1_best 37 = .ok (.aload_n 0, 1) := by decide +kernel
theorem dX1_best_38 : decode cX1_best 38 = .ok (.getfield 42, 3) := by decide +kernel
theorem dX1_best_41 : decode cX1_best 41 = .ok (.iload_n 1, 1) := by decide +kernel
theorem dX1_best_42 : decode cX1_best 42 = .ok (.iaload, 1) := by decide +kernel
theorem dX1_best_43 : decode cX1_best 43 = .ok (.if_icmp .ne 5, 3) := by decide +kernel
theorem dX1_best_46 : decode cX1_best 46 = .ok (.iload_n 2, 1) := by decide +kernel
theorem dX1_best_47 : decode cX1_best 47 = .ok (.ireturn, 1) := by decide +kernel
theorem dX1_best_48 : decode cX1_best 48 = .ok (.iinc 2 1, 3) := by decide +kernel
theorem dX1_best_51 : decode cX1_best 51 = .ok (.goto (-39), 3) := by decide +kernel
theorem dX1_best_54 : decode cX1_best 54 = .ok (.iconst (-1), 1) := by decide +kernel
theorem dX1_best_55 : decode cX1_best 55 = .ok (.ireturn, 1) := by decide +kernel
theorem dX1_length_0 : decode cX1_length 0 = .ok (.aload_n 0, 1) := by decide +kernel
theorem dX1_length_1 : decode cX1_length 1 = .ok (.iload_n 1, 1) := by decide +kernel
theorem dX1_length_2 : decode cX1_length 2 = .ok (.invokevirtual 87, 3) := by decide +kernel
theorem dX1_length_5 : decode cX1_length 5 = .ok (.ifCond .eq 12, 3) := by decide +kernel
theorem dX1_length_8 : decode cX1_length 8 = .ok (.aload_n 0, 1) := by decide +kernel
theorem dX1_length_9 : decode cX1_length 9 = .ok (.getfield 45, 3) := by decide +kernel
theorem dX1_length_12 : decode cX1_length 12 = .ok (.iload_n 1, 1) := by decide +kernel
theorem dX1_length_13 : decode cX1_length 13 = .ok (.iaload, 1) := by decide +kernel
theorem dX1_length_14 : decode cX1_length 14 = .ok (.goto 4, 3) := by decide +kernel
theorem dX1_length_17 : decode cX1_length 17 = .ok (.iconst 0, 1) := by decide +kernel
theorem dX1_length_18 : decode cX1_length 18 = .ok (.ireturn, 1) := by decide +kernel
end
section
theorem dL_states_0 : decode cL_states 0 = .ok (.aload_n 0, 1) := by decide +kernel
theorem dL_states_1 : decode cL_states 1 = .ok (.iload_n 1, 1) := by decide +kernel
theorem dL_states_2 : decode cL_states 2 = .ok (.invokevirtual 7, 3) := by decide +kernel
theorem dL_states_5 : decode cL_states 5 = .ok (.goto 6, 3) := by decide +kernel
theorem dL_states_8 : decode cL_states 8 = .ok (.astore_n 2, 1) := by decide +kernel
theorem dL_states_9 : decode cL_states 9 = .ok (.iconst 1, 1) := by decide +kernel
theorem dL_states_10 : decode cL_states 10 = .ok (.ireturn, 1) := by decide +kernel
theorem dL_states_11 : decode cL_states 11 = .ok (.iconst 0, 1) := by decide +kernel
theorem dL_states_12 : decode cL_states 12 = .ok (.ireturn, 1) := by decide +kernel
theorem dL_end_0 : decode cL_end 0 = .ok (.aload_n 0, 1) := by decide +kernel
theorem dL_end_1 : decode cL_end 1 = .ok (.iload_n 1, 1) := by decide +kernel
theorem dL_end_2 : decode cL_end 2 = .ok (.iload_n 2, 1) := by decide +kernel
theorem dL_end_3 : decode cL_end 3 = .ok (.iload_n 3, 1) := by decide +kernel
theorem dL_end_4 : decode cL_end 4 = .ok (.invokevirtual 15, 3) := by decide +kernel
theorem dL_end_7 : decode cL_end 7 = .ok (.goto 11, 3) := by decide +kernel
theorem dL_end_10 : decode cL_end 10 = .ok (.astore 4, 2) := by decide +kernel
theorem dL_end_12 : decode cL_end 12 = .ok (.iconst 1, 1) := by decide +kernel
theorem dL_end_13 : decode cL_end 13 = .ok (.ireturn, 1) := by decide +kernel
theorem dL_end_14 : decode cL_end 14 = .ok (.astore 4, 2) := by decide +kernel
theorem dL_end_16 : decode cL_end 16 = .ok (.iconst 2, 1) := by decide +kernel
theorem dL_end_17 : decode cL_end 17 = .ok (.ireturn, 1) := by decide +kernel
theorem dL_end_18 : decode cL_end 18 = .ok (.iconst 0, 1) := by decide +kernel
theorem dL_end_19 : decode cL_end 19 = .ok (.ireturn, 1) := by decide +kernel
theorem dL_open_0 : decode cL_open 0 = .ok (.aload_n 0, 1) := by decide +kernel
theorem dL_open_1 : decode cL_open 1 = .ok (.iload_n 1, 1) := by decide +kernel
theorem dL_open_2 : decode cL_open 2 = .ok (.iload_n 2, 1) := by decide +kernel
theorem dL_open_3 : decode cL_open 3 = .ok (.iload_n 3, 1) := by decide +kernel
theorem dL_open_4 : decode cL_open 4 = .ok (.invokevirtual 21, 3) := by decide +kernel
theorem dL_open_7 : decode cL_open 7 = .ok (.goto 11, 3) := by decide +kernel
theorem dL_open_10 : decode cL_open 10 = .ok (.astore 4, 2) := by decide +kernel
theorem dL_open_12 : decode cL_open 12 = .ok (.iconst 1, 1) := by decide +kernel
theorem dL_open_13 : decode cL_open 13 = .ok (.ireturn, 1) := by decide +kernel
theorem dL_open_14 : decode cL_open 14 = .ok (.astore 4, 2) := by decide +kernel
theorem dL_open_16 : decode cL_open 16 = .ok (.iconst 2, 1) := by decide +kernel
theorem dL_open_17 : decode cL_open 17 = .ok (.ireturn, 1) := by decide +kernel
theorem dL_open_18 : decode cL_open 18 = .ok (.iconst 0, 1) := by decide +kernel
theorem dL_open_19 : decode cL_open 19 = .ok (.ireturn, 1) := by decide +kernel
theorem dL_link_0 : decode cL_link 0 = .ok (.aload_n 0, 1) := by decide +kernel
theorem dL_link_1 : decode cL_link 1 = .ok (.iload_n 1, 1) := by decide +kernel
theorem dL_link_2 : decode cL_link 2 = .ok (.iload_n 2, 1) := by decide +kernel
theorem dL_link_3 : decode cL_link 3 = .ok (.iload_n 3, 1) := by decide +kernel
theorem dL_link_4 : decode cL_link 4 = .ok (.invokevirtual 24, 3) := by decide +kernel
theorem dL_link_7 : decode cL_link 7 = .ok (.goto 7, 3) := by decide +kernel
theorem dL_link_10 : decode cL_link 10 = .ok (.astore 4, 2) := by decide +kernel
theorem dL_link_12 : decode cL_link 12 = .ok (.iconst 1, 1) := by decide +kernel
theorem dL_link_13 : decode cL_link 13 = .ok (.ireturn, 1) := by decide +kernel
theorem dL_link_14 : decode cL_link 14 = .ok (.iconst 0, 1) := by decide +kernel
theorem dL_link_15 : decode cL_link 15 = .ok (.ireturn, 1) := by decide +kernel
theorem dL_next_0 : decode cL_next 0 = .ok (.aload_n 3, 1) := by decide +kernel
theorem dL_next_1 : decode cL_next 1 = .ok (.iconst 0, 1) := by decide +kernel
theorem dL_next_2 : decode cL_next 2 = .ok (.aload_n 0, 1) := by decide +kernel
theorem dL_next_3 : decode cL_next 3 = .ok (.iload_n 1, 1) := by decide +kernel
theorem dL_next_4 : decode cL_next 4 = .ok (.iload_n 2, 1) := by decide +kernel
theorem dL_next_5 : decode cL_next 5 = .ok (.invokevirtual 27, 3) := by decide +kernel
theorem dL_next_8 : decode cL_next 8 = .ok (.i2l, 1) := by decide +kernel
theorem dL_next_9 : decode cL_next 9 = .ok (.lastore, 1) := by decide +kernel
theorem dL_next_10 : decode cL_next 10 = .ok (.goto 7, 3) := by decide +kernel
theorem dL_next_13 : decode cL_next 13 = .ok (.astore 4, 2) := by decide +kernel
theorem dL_next_15 : decode cL_next 15 = .ok (.iconst 1, 1) := by decide +kernel
theorem dL_next_16 : decode cL_next 16 = .ok (.ireturn, 1) := by decide +kernel
theorem dL_next_17 : decode cL_next 17 = .ok (.iconst 0, 1) := by decide +kernel
theorem dL_next_18 : decode cL_next 18 = .ok (.ireturn, 1) := by decide +kernel
theorem dL_defect_0 : decode cL_defect 0 = .ok (.aload_n 2, 1) := by decide +kernel
theorem dL_defect_1 : decode cL_defect 1 = .ok (.iconst 0, 1) := by decide +kernel
theorem dL_defect_2 : decode cL_defect 2 = .ok (.aload_n 0, 1) := by decide +kernel
theorem dL_defect_3 : decode cL_defect 3 = .ok (.iload_n 1, 1) := by decide +kernel
theorem dL_defect_4 : decode cL_defect 4 = .ok (.invokevirtual 31, 3) := by decide +kernel
theorem dL_defect_7 : decode cL_defect 7 = .ok (.i2l, 1) := by decide +kernel
theorem dL_defect_8 : decode cL_defect 8 = .ok (.lastore, 1) := by decide +kernel
theorem dL_defect_9 : decode cL_defect 9 = .ok (.goto 6, 3) := by decide +kernel
theorem dL_defect_12 : decode cL_defect 12 = .ok (.astore_n 3, 1) := by decide +kernel
theorem dL_defect_13 : decode cL_defect 13 = .ok (.iconst 1, 1) := by decide +kernel
theorem dL_defect_14 : decode cL_defect 14 = .ok (.ireturn, 1) := by decide +kernel
theorem dL_defect_15 : decode cL_defect 15 = .ok (.iconst 0, 1) := by decide +kernel
theorem dL_defect_16 : decode cL_defect 16 = .ok (.ireturn, 1) := by decide +kernel
theorem dL_value_0 : decode cL_value 0 = .ok (.aload_n 2, 1) := by decide +kernel
theorem dL_value_1 : decode cL_value 1 = .ok (.iconst 0, 1) := by decide +kernel
theorem dL_value_2 : decode cL_value 2 = .ok (.aload_n 0, 1) := by decide +kernel
theorem dL_value_3 : decode cL_value 3 = .ok (.iload_n 1, 1) := by decide +kernel
theorem dL_value_4 : decode cL_value 4 = .ok (.invokevirtual 35, 3) := by decide +kernel
theorem dL_value_7 : decode cL_value 7 = .ok (.i2l, 1) := by decide +kernel
theorem dL_value_8 : decode cL_value 8 = .ok (.lastore, 1) := by decide +kernel
theorem dL_value_9 : decode cL_value 9 = .ok (.goto 9, 3) := by decide +kernel
theorem dL_value_12 : decode cL_value 12 = .ok (.astore_n 3, 1) := by decide +kernel
theorem dL_value_13 : decode cL_value 13 = .ok (.iconst 1, 1) := by decide +kernel
theorem dL_value_14 : decode cL_value 14 = .ok (.ireturn, 1) := by decide +kernel
theorem dL_value_15 : decode cL_value 15 = .ok (.astore_n 3, 1) := by decide +kernel
theorem dL_value_16 : decode cL_value 16 = .ok (.iconst 2, 1) := by decide +kernel
theorem dL_value_17 : decode cL_value 17 = .ok (.ireturn, 1) := by decide +kernel
theorem dL_value_18 : decode cL_value 18 = .ok (.iconst 0, 1) := by decide +kernel
theorem dL_value_19 : decode cL_value 19 = .ok (.ireturn, 1) := by decide +kernel
theorem dL_best_0 : decode cL_best 0 = .ok (.aload_n 2, 1) := by decide +kernel
theorem dL_best_1 : decode cL_best 1 = .ok (.iconst 0, 1) := by decide +kernel
theorem dL_best_2 : decode cL_best 2 = .ok (.aload_n 0, 1) := by decide +kernel
theorem dL_best_3 : decode cL_best 3 = .ok (.iload_n 1, 1) := by decide +kernel
theorem dL_best_4 : decode cL_best 4 = .ok (.invokevirtual 40, 3) := by decide +kernel
theorem dL_best_7 : decode cL_best 7 = .ok (.i2l, 1) := by decide +kernel
theorem dL_best_8 : decode cL_best 8 = .ok (.lastore, 1) := by decide +kernel
theorem dL_best_9 : decode cL_best 9 = .ok (.goto 9, 3) := by decide +kernel
theorem dL_best_12 : decode cL_best 12 = .ok (.astore_n 3, 1) := by decide +kernel
theorem dL_best_13 : decode cL_best 13 = .ok (.iconst 1, 1) := by decide +kernel
theorem dL_best_14 : decode cL_best 14 = .ok (.ireturn, 1) := by decide +kernel
theorem dL_best_15 : decode cL_best 15 = .ok (.astore_n 3, 1) := by decide +kernel
theorem dL_best_16 : decode cL_best 16 = .ok (.iconst 2, 1) := by decide +kernel
theorem dL_best_17 : decode cL_best 17 = .ok (.ireturn, 1) := by decide +kernel
theorem dL_best_18 : decode cL_best 18 = .ok (.iconst 0, 1) := by decide +kernel
theorem dL_best_19 : decode cL_best 19 = .ok (.ireturn, 1) := by decide +kernel
theorem dL_length_0 : decode cL_length 0 = .ok (.aload_n 2, 1) := by decide +kernel
theorem dL_length_1 : decode cL_length 1 = .ok (.iconst 0, 1) := by decide +kernel
theorem dL_length_2 : decode cL_length 2 = .ok (.aload_n 0, 1) := by decide +kernel
theorem dL_length_3 : decode cL_length 3 = .ok (.iload_n 1, 1) := by decide +kernel
theorem dL_length_4 : decode cL_length 4 = .ok (.invokevirtual 43, 3) := by decide +kernel
theorem dL_length_7 : decode cL_length 7 = .ok (.i2l, 1) := by decide +kernel
theorem dL_length_8 : decode cL_length 8 = .ok (.lastore, 1) := by decide +kernel
theorem dL_length_9 : decode cL_length 9 = .ok (.goto 9, 3) := by decide +kernel
theorem dL_length_12 : decode cL_length 12 = .ok (.astore_n 3, 1) := by decide +kernel
theorem dL_length_13 : decode cL_length 13 = .ok (.iconst 1, 1) := by decide +kernel
theorem dL_length_14 : decode cL_length 14 = .ok (.ireturn, 1) := by decide +kernel
theorem dL_length_15 : decode cL_length 15 = .ok (.astore_n 3, 1) := by decide +kernel
theorem dL_length_16 : decode cL_length 16 = .ok (.iconst 2, 1) := by decide +kernel
theorem dL_length_17 : decode cL_length 17 = .ok (.ireturn, 1) := by decide +kernel
theorem dL_length_18 : decode cL_length 18 = .ok (.iconst 0, 1) := by decide +kernel
theorem dL_length_19 : decode cL_length 19 = .ok (.ireturn, 1) := by decide +kernel
theorem dL_law_0 : decode code 0 = .ok (.new 8, 3) := by decide +kernel
theorem dL_law_3 : decode code 3 = .ok (.dup, 1) := by decide +kernel
theorem dL_law_4 : decode code 4 = .ok (.invokespecial 46, 3) := by decide +kernel
theorem dL_law_7 : decode code 7 = .ok (.astore_n 1, 1) := by decide +kernel
theorem dL_law_8 : decode code 8 = .ok (.new 47, 3) := by decide +kernel
theorem dL_law_11 : decode code 11 = .ok (.dup, 1) := by decide +kernel
theorem dL_law_12 : decode code 12 = .ok (.invokespecial 49, 3) := by decide +kernel
theorem dL_law_15 : decode code 15 = .ok (.astore_n 2, 1) := by decide +kernel
theorem dL_law_16 : decode code 16 = .ok (.iconst 1, 1) := by decide +kernel
theorem dL_law_17 : decode code 17 = .ok (.newarray .long, 2) := by decide +kernel
theorem dL_law_19 : decode code 19 = .ok (.astore_n 3, 1) := by decide +kernel
theorem dL_law_20 : decode code 20 = .ok (.iconst 0, 1) := by decide +kernel
theorem dL_law_21 : decode code 21 = .ok (.istore 4, 2) := by decide +kernel
theorem dL_law_23 : decode code 23 = .ok (.iload 4, 2) := by decide +kernel
theorem dL_law_25 : decode code 25 = .ok (.aload_n 0, 1) := by decide +kernel
theorem dL_law_26 : decode code 26 = .ok (.arraylength, 1) := by decide +kernel
theorem dL_law_27 : decode code 27 = .ok (.iconst 4, 1) := by decide +kernel
theorem dL_law_28 : decode code 28 = .ok (.isub, 1) := by decide +kernel
theorem dL_law_29 : decode code 29 = .ok (.if_icmp .gt 590, 3) := by decide +kernel
theorem dL_law_32 : decode code 32 = .ok (.aload_n 0, 1) := by decide +kernel
theorem dL_law_33 : decode code 33 = .ok (.iload 4, 2) := by decide +kernel
theorem dL_law_35 : decode code 35 = .ok (.iaload, 1) := by decide +kernel
theorem dL_law_36 : decode code 36 = .ok (.bipush 15, 2) := by decide +kernel
theorem dL_law_38 : decode code 38 = .ok (.iand, 1) := by decide +kernel
theorem dL_law_39 : decode code 39 = .ok (.tableswitch 574 0 9 #[53, 89, 149, 209, 269, 337, 350, 406, 462, 518], 53) := by decide +kernel
theorem dL_law_92 : decode code 92 = .ok (.aload_n 1, 1) := by decide +kernel
theorem dL_law_93 : decode code 93 = .ok (.aload_n 0, 1) := by decide +kernel
theorem dL_law_94 : decode code 94 = .ok (.iload 4, 2) := by decide +kernel
theorem dL_law_96 : decode code 96 = .ok (.iconst 1, 1) := by decide +kernel
theorem dL_law_97 : decode code 97 = .ok (.iadd, 1) := by decide +kernel
theorem dL_law_98 : decode code 98 = .ok (.iaload, 1) := by decide +kernel
theorem dL_law_99 : decode code 99 = .ok (.invokestatic 50, 3) := by decide +kernel
theorem dL_law_102 : decode code 102 = .ok (.istore 5, 2) := by decide +kernel
theorem dL_law_104 : decode code 104 = .ok (.aload_n 2, 1) := by decide +kernel
theorem dL_law_105 : decode code 105 = .ok (.aload_n 0, 1) := by decide +kernel
theorem dL_law_106 : decode code 106 = .ok (.iload 4, 2) := by decide +kernel
theorem dL_law_108 : decode code 108 = .ok (.iconst 1, 1) := by decide +kernel
theorem dL_law_109 : decode code 109 = .ok (.iadd, 1) := by decide +kernel
theorem dL_law_110 : decode code 110 = .ok (.iaload, 1) := by decide +kernel
theorem dL_law_111 : decode code 111 = .ok (.invokevirtual 55, 3) := by decide +kernel
theorem dL_law_114 : decode code 114 = .ok (.aload_n 2, 1) := by decide +kernel
theorem dL_law_115 : decode code 115 = .ok (.invokevirtual 56, 3) := by decide +kernel
theorem dL_law_118 : decode code 118 = .ok (.iload 5, 2) := by decide +kernel
theorem dL_law_120 : decode code 120 = .ok (.if_icmp .eq 5, 3) := by decide +kernel
theorem dL_law_123 : decode code 123 = .ok (.iconst 0, 1) := by decide +kernel
theorem dL_law_124 : decode code 124 = .ok (.ireturn, 1) := by decide +kernel
theorem dL_law_125 : decode code 125 = .ok (.goto 488, 3) := by decide +kernel
theorem dL_law_128 : decode code 128 = .ok (.aload_n 1, 1) := by decide +kernel
theorem dL_law_129 : decode code 129 = .ok (.aload_n 0, 1) := by decide +kernel
theorem dL_law_130 : decode code 130 = .ok (.iload 4, 2) := by decide +kernel
theorem dL_law_132 : decode code 132 = .ok (.iconst 1, 1) := by decide +kernel
theorem dL_law_133 : decode code 133 = .ok (.iadd, 1) := by decide +kernel
theorem dL_law_134 : decode code 134 = .ok (.iaload, 1) := by decide +kernel
theorem dL_law_135 : decode code 135 = .ok (.aload_n 0, 1) := by decide +kernel
theorem dL_law_136 : decode code 136 = .ok (.iload 4, 2) := by decide +kernel
theorem dL_law_138 : decode code 138 = .ok (.iconst 2, 1) := by decide +kernel
theorem dL_law_139 : decode code 139 = .ok (.iadd, 1) := by decide +kernel
theorem dL_law_140 : decode code 140 = .ok (.iaload, 1) := by decide +kernel
theorem dL_law_141 : decode code 141 = .ok (.aload_n 0, 1) := by decide +kernel
theorem dL_law_142 : decode code 142 = .ok (.iload 4, 2) := by decide +kernel
theorem dL_law_144 : decode code 144 = .ok (.iconst 3, 1) := by decide +kernel
theorem dL_law_145 : decode code 145 = .ok (.iadd, 1) := by decide +kernel
theorem dL_law_146 : decode code 146 = .ok (.iaload, 1) := by decide +kernel
theorem dL_law_147 : decode code 147 = .ok (.invokestatic 60, 3) := by decide +kernel
theorem dL_law_150 : decode code 150 = .ok (.istore 5, 2) := by decide +kernel
theorem dL_law_152 : decode code 152 = .ok (.aload_n 2, 1) := by decide +kernel
theorem dL_law_153 : decode code 153 = .ok (.aload_n 0, 1) := by decide +kernel
theorem dL_law_154 : decode code 154 = .ok (.iload 4, 2) := by decide +kernel
theorem dL_law_156 : decode code 156 = .ok (.iconst 1, 1) := by decide +kernel
theorem dL_law_157 : decode code 157 = .ok (.iadd, 1) := by decide +kernel
theorem dL_law_158 : decode code 158 = .ok (.iaload, 1) := by decide +kernel
theorem dL_law_159 : decode code 159 = .ok (.aload_n 0, 1) := by decide +kernel
theorem dL_law_160 : decode code 160 = .ok (.iload 4, 2) := by decide +kernel
theorem dL_law_162 : decode code 162 = .ok (.iconst 2, 1) := by decide +kernel
theorem dL_law_163 : decode code 163 = .ok (.iadd, 1) := by decide +kernel
theorem dL_law_164 : decode code 164 = .ok (.iaload, 1) := by decide +kernel
theorem dL_law_165 : decode code 165 = .ok (.aload_n 0, 1) := by decide +kernel
theorem dL_law_166 : decode code 166 = .ok (.iload 4, 2) := by decide +kernel
theorem dL_law_168 : decode code 168 = .ok (.iconst 3, 1) := by decide +kernel
theorem dL_law_169 : decode code 169 = .ok (.iadd, 1) := by decide +kernel
theorem dL_law_170 : decode code 170 = .ok (.iaload, 1) := by decide +kernel
theorem dL_law_171 : decode code 171 = .ok (.invokevirtual 63, 3) := by decide +kernel
theorem dL_law_174 : decode code 174 = .ok (.aload_n 2, 1) := by decide +kernel
theorem dL_law_175 : decode code 175 = .ok (.invokevirtual 56, 3) := by decide +kernel
theorem dL_law_178 : decode code 178 = .ok (.iload 5, 2) := by decide +kernel
theorem dL_law_180 : decode code 180 = .ok (.if_icmp .eq 5, 3) := by decide +kernel
theorem dL_law_183 : decode code 183 = .ok (.iconst 0, 1) := by decide +kernel
theorem dL_law_184 : decode code 184 = .ok (.ireturn, 1) := by decide +kernel
theorem dL_law_185 : decode code 185 = .ok (.goto 428, 3) := by decide +kernel
theorem dL_law_188 : decode code 188 = .ok (.aload_n 1, 1) := by decide +kernel
theorem dL_law_189 : decode code 189 = .ok (.aload_n 0, 1) := by decide +kernel
theorem dL_law_190 : decode code 190 = .ok (.iload 4, 2) := by decide +kernel
theorem dL_law_192 : decode code 192 = .ok (.iconst 1, 1) := by decide +kernel
theorem dL_law_193 : decode code 193 = .ok (.iadd, 1) := by decide +kernel
theorem dL_law_194 : decode code 194 = .ok (.iaload, 1) := by decide +kernel
theorem dL_law_195 : decode code 195 = .ok (.aload_n 0, 1) := by decide +kernel
theorem dL_law_196 : decode code 196 = .ok (.iload 4, 2) := by decide +kernel
theorem dL_law_198 : decode code 198 = .ok (.iconst 2, 1) := by decide +kernel
theorem dL_law_199 : decode code 199 = .ok (.iadd, 1) := by decide +kernel
theorem dL_law_200 : decode code 200 = .ok (.iaload, 1) := by decide +kernel
theorem dL_law_201 : decode code 201 = .ok (.aload_n 0, 1) := by decide +kernel
theorem dL_law_202 : decode code 202 = .ok (.iload 4, 2) := by decide +kernel
theorem dL_law_204 : decode code 204 = .ok (.iconst 3, 1) := by decide +kernel
theorem dL_law_205 : decode code 205 = .ok (.iadd, 1) := by decide +kernel
theorem dL_law_206 : decode code 206 = .ok (.iaload, 1) := by decide +kernel
theorem dL_law_207 : decode code 207 = .ok (.invokestatic 64, 3) := by decide +kernel
theorem dL_law_210 : decode code 210 = .ok (.istore 5, 2) := by decide +kernel
theorem dL_law_212 : decode code 212 = .ok (.aload_n 2, 1) := by decide +kernel
theorem dL_law_213 : decode code 213 = .ok (.aload_n 0, 1) := by decide +kernel
theorem dL_law_214 : decode code 214 = .ok (.iload 4, 2) := by decide +kernel
theorem dL_law_216 : decode code 216 = .ok (.iconst 1, 1) := by decide +kernel
theorem dL_law_217 : decode code 217 = .ok (.iadd, 1) := by decide +kernel
theorem dL_law_218 : decode code 218 = .ok (.iaload, 1) := by decide +kernel
theorem dL_law_219 : decode code 219 = .ok (.aload_n 0, 1) := by decide +kernel
theorem dL_law_220 : decode code 220 = .ok (.iload 4, 2) := by decide +kernel
theorem dL_law_222 : decode code 222 = .ok (.iconst 2, 1) := by decide +kernel
theorem dL_law_223 : decode code 223 = .ok (.iadd, 1) := by decide +kernel
theorem dL_law_224 : decode code 224 = .ok (.iaload, 1) := by decide +kernel
theorem dL_law_225 : decode code 225 = .ok (.aload_n 0, 1) := by decide +kernel
theorem dL_law_226 : decode code 226 = .ok (.iload 4, 2) := by decide +kernel
theorem dL_law_228 : decode code 228 = .ok (.iconst 3, 1) := by decide +kernel
theorem dL_law_229 : decode code 229 = .ok (.iadd, 1) := by decide +kernel
theorem dL_law_230 : decode code 230 = .ok (.iaload, 1) := by decide +kernel
theorem dL_law_231 : decode code 231 = .ok (.invokevirtual 66, 3) := by decide +kernel
theorem dL_law_234 : decode code 234 = .ok (.aload_n 2, 1) := by decide +kernel
theorem dL_law_235 : decode code 235 = .ok (.invokevirtual 56, 3) := by decide +kernel
theorem dL_law_238 : decode code 238 = .ok (.iload 5, 2) := by decide +kernel
theorem dL_law_240 : decode code 240 = .ok (.if_icmp .eq 5, 3) := by decide +kernel
theorem dL_law_243 : decode code 243 = .ok (.iconst 0, 1) := by decide +kernel
theorem dL_law_244 : decode code 244 = .ok (.ireturn, 1) := by decide +kernel
theorem dL_law_245 : decode code 245 = .ok (.goto 368, 3) := by decide +kernel
theorem dL_law_248 : decode code 248 = .ok (.aload_n 1, 1) := by decide +kernel
theorem dL_law_249 : decode code 249 = .ok (.aload_n 0, 1) := by decide +kernel
theorem dL_law_250 : decode code 250 = .ok (.iload 4, 2) := by decide +kernel
theorem dL_law_252 : decode code 252 = .ok (.iconst 1, 1) := by decide +kernel
theorem dL_law_253 : decode code 253 = .ok (.iadd, 1) := by decide +kernel
theorem dL_law_254 : decode code 254 = .ok (.iaload, 1) := by decide +kernel
theorem dL_law_255 : decode code 255 = .ok (.aload_n 0, 1) := by decide +kernel
theorem dL_law_256 : decode code 256 = .ok (.iload 4, 2) := by decide +kernel
theorem dL_law_258 : decode code 258 = .ok (.iconst 2, 1) := by decide +kernel
theorem dL_law_259 : decode code 259 = .ok (.iadd, 1) := by decide +kernel
theorem dL_law_260 : decode code 260 = .ok (.iaload, 1) := by decide +kernel
theorem dL_law_261 : decode code 261 = .ok (.aload_n 0, 1) := by decide +kernel
theorem dL_law_262 : decode code 262 = .ok (.iload 4, 2) := by decide +kernel
theorem dL_law_264 : decode code 264 = .ok (.iconst 3, 1) := by decide +kernel
theorem dL_law_265 : decode code 265 = .ok (.iadd, 1) := by decide +kernel
theorem dL_law_266 : decode code 266 = .ok (.iaload, 1) := by decide +kernel
theorem dL_law_267 : decode code 267 = .ok (.invokestatic 67, 3) := by decide +kernel
theorem dL_law_270 : decode code 270 = .ok (.istore 5, 2) := by decide +kernel
theorem dL_law_272 : decode code 272 = .ok (.aload_n 2, 1) := by decide +kernel
theorem dL_law_273 : decode code 273 = .ok (.aload_n 0, 1) := by decide +kernel
theorem dL_law_274 : decode code 274 = .ok (.iload 4, 2) := by decide +kernel
theorem dL_law_276 : decode code 276 = .ok (.iconst 1, 1) := by decide +kernel
theorem dL_law_277 : decode code 277 = .ok (.iadd, 1) := by decide +kernel
theorem dL_law_278 : decode code 278 = .ok (.iaload, 1) := by decide +kernel
theorem dL_law_279 : decode code 279 = .ok (.aload_n 0, 1) := by decide +kernel
theorem dL_law_280 : decode code 280 = .ok (.iload 4, 2) := by decide +kernel
theorem dL_law_282 : decode code 282 = .ok (.iconst 2, 1) := by decide +kernel
theorem dL_law_283 : decode code 283 = .ok (.iadd, 1) := by decide +kernel
theorem dL_law_284 : decode code 284 = .ok (.iaload, 1) := by decide +kernel
theorem dL_law_285 : decode code 285 = .ok (.aload_n 0, 1) := by decide +kernel
theorem dL_law_286 : decode code 286 = .ok (.iload 4, 2) := by decide +kernel
theorem dL_law_288 : decode code 288 = .ok (.iconst 3, 1) := by decide +kernel
theorem dL_law_289 : decode code 289 = .ok (.iadd, 1) := by decide +kernel
theorem dL_law_290 : decode code 290 = .ok (.iaload, 1) := by decide +kernel
theorem dL_law_291 : decode code 291 = .ok (.invokevirtual 69, 3) := by decide +kernel
theorem dL_law_294 : decode code 294 = .ok (.aload_n 2, 1) := by decide +kernel
theorem dL_law_295 : decode code 295 = .ok (.invokevirtual 56, 3) := by decide +kernel
theorem dL_law_298 : decode code 298 = .ok (.iload 5, 2) := by decide +kernel
theorem dL_law_300 : decode code 300 = .ok (.if_icmp .eq 5, 3) := by decide +kernel
theorem dL_law_303 : decode code 303 = .ok (.iconst 0, 1) := by decide +kernel
theorem dL_law_304 : decode code 304 = .ok (.ireturn, 1) := by decide +kernel
theorem dL_law_305 : decode code 305 = .ok (.goto 308, 3) := by decide +kernel
theorem dL_law_308 : decode code 308 = .ok (.aload_n 1, 1) := by decide +kernel
theorem dL_law_309 : decode code 309 = .ok (.aload_n 0, 1) := by decide +kernel
theorem dL_law_310 : decode code 310 = .ok (.iload 4, 2) := by decide +kernel
theorem dL_law_312 : decode code 312 = .ok (.iconst 1, 1) := by decide +kernel
theorem dL_law_313 : decode code 313 = .ok (.iadd, 1) := by decide +kernel
theorem dL_law_314 : decode code 314 = .ok (.iaload, 1) := by decide +kernel
theorem dL_law_315 : decode code 315 = .ok (.aload_n 0, 1) := by decide +kernel
theorem dL_law_316 : decode code 316 = .ok (.iload 4, 2) := by decide +kernel
theorem dL_law_318 : decode code 318 = .ok (.iconst 2, 1) := by decide +kernel
theorem dL_law_319 : decode code 319 = .ok (.iadd, 1) := by decide +kernel
theorem dL_law_320 : decode code 320 = .ok (.iaload, 1) := by decide +kernel
theorem dL_law_321 : decode code 321 = .ok (.aload_n 3, 1) := by decide +kernel
theorem dL_law_322 : decode code 322 = .ok (.invokestatic 70, 3) := by decide +kernel
theorem dL_law_325 : decode code 325 = .ok (.istore 5, 2) := by decide +kernel
theorem dL_law_327 : decode code 327 = .ok (.aload_n 2, 1) := by decide +kernel
theorem dL_law_328 : decode code 328 = .ok (.aload_n 0, 1) := by decide +kernel
theorem dL_law_329 : decode code 329 = .ok (.iload 4, 2) := by decide +kernel
theorem dL_law_331 : decode code 331 = .ok (.iconst 1, 1) := by decide +kernel
theorem dL_law_332 : decode code 332 = .ok (.iadd, 1) := by decide +kernel
theorem dL_law_333 : decode code 333 = .ok (.iaload, 1) := by decide +kernel
theorem dL_law_334 : decode code 334 = .ok (.aload_n 0, 1) := by decide +kernel
theorem dL_law_335 : decode code 335 = .ok (.iload 4, 2) := by decide +kernel
theorem dL_law_337 : decode code 337 = .ok (.iconst 2, 1) := by decide +kernel
theorem dL_law_338 : decode code 338 = .ok (.iadd, 1) := by decide +kernel
theorem dL_law_339 : decode code 339 = .ok (.iaload, 1) := by decide +kernel
theorem dL_law_340 : decode code 340 = .ok (.invokevirtual 73, 3) := by decide +kernel
theorem dL_law_343 : decode code 343 = .ok (.istore 6, 2) := by decide +kernel
theorem dL_law_345 : decode code 345 = .ok (.aload_n 2, 1) := by decide +kernel
theorem dL_law_346 : decode code 346 = .ok (.invokevirtual 56, 3) := by decide +kernel
theorem dL_law_349 : decode code 349 = .ok (.iload 5, 2) := by decide +kernel
theorem dL_law_351 : decode code 351 = .ok (.if_icmp .eq 5, 3) := by decide +kernel
theorem dL_law_354 : decode code 354 = .ok (.iconst 0, 1) := by decide +kernel
theorem dL_law_355 : decode code 355 = .ok (.ireturn, 1) := by decide +kernel
theorem dL_law_356 : decode code 356 = .ok (.iload 5, 2) := by decide +kernel
theorem dL_law_358 : decode code 358 = .ok (.ifCond .ne 15, 3) := by decide +kernel
theorem dL_law_361 : decode code 361 = .ok (.aload_n 3, 1) := by decide +kernel
theorem dL_law_362 : decode code 362 = .ok (.iconst 0, 1) := by decide +kernel
theorem dL_law_363 : decode code 363 = .ok (.laload, 1) := by decide +kernel
theorem dL_law_364 : decode code 364 = .ok (.iload 6, 2) := by decide +kernel
theorem dL_law_366 : decode code 366 = .ok (.i2l, 1) := by decide +kernel
theorem dL_law_367 : decode code 367 = .ok (.lcmp, 1) := by decide +kernel
theorem dL_law_368 : decode code 368 = .ok (.ifCond .eq 5, 3) := by decide +kernel
theorem dL_law_371 : decode code 371 = .ok (.iconst 0, 1) := by decide +kernel
theorem dL_law_372 : decode code 372 = .ok (.ireturn, 1) := by decide +kernel
theorem dL_law_373 : decode code 373 = .ok (.goto 240, 3) := by decide +kernel
theorem dL_law_376 : decode code 376 = .ok (.aload_n 1, 1) := by decide +kernel
theorem dL_law_377 : decode code 377 = .ok (.invokevirtual 74, 3) := by decide +kernel
theorem dL_law_380 : decode code 380 = .ok (.aload_n 2, 1) := by decide +kernel
theorem dL_law_381 : decode code 381 = .ok (.invokevirtual 77, 3) := by decide +kernel
theorem dL_law_384 : decode code 384 = .ok (.if_icmp .eq 229, 3) := by decide +kernel
theorem dL_law_387 : decode code 387 = .ok (.iconst 0, 1) := by decide +kernel
theorem dL_law_388 : decode code 388 = .ok (.ireturn, 1) := by decide +kernel
theorem dL_law_389 : decode code 389 = .ok (.aload_n 1, 1) := by decide +kernel
theorem dL_law_390 : decode code 390 = .ok (.aload_n 0, 1) := by decide +kernel
theorem dL_law_391 : decode code 391 = .ok (.iload 4, 2) := by decide +kernel
theorem dL_law_393 : decode code 393 = .ok (.iconst 1, 1) := by decide +kernel
theorem dL_law_394 : decode code 394 = .ok (.iadd, 1) := by decide +kernel
theorem dL_law_395 : decode code 395 = .ok (.iaload, 1) := by decide +kernel
theorem dL_law_396 : decode code 396 = .ok (.aload_n 3, 1) := by decide +kernel
theorem dL_law_397 : decode code 397 = .ok (.invokestatic 78, 3) := by decide +kernel
theorem dL_law_400 : decode code 400 = .ok (.istore 5, 2) := by decide +kernel
theorem dL_law_402 : decode code 402 = .ok (.aload_n 2, 1) := by decide +kernel
theorem dL_law_403 : decode code 403 = .ok (.aload_n 0, 1) := by decide +kernel
theorem dL_law_404 : decode code 404 = .ok (.iload 4, 2) := by decide +kernel
theorem dL_law_406 : decode code 406 = .ok (.iconst 1, 1) := by decide +kernel
theorem dL_law_407 : decode code 407 = .ok (.iadd, 1) := by decide +kernel
theorem dL_law_408 : decode code 408 = .ok (.iaload, 1) := by decide +kernel
theorem dL_law_409 : decode code 409 = .ok (.invokevirtual 81, 3) := by decide +kernel
theorem dL_law_412 : decode code 412 = .ok (.istore 6, 2) := by decide +kernel
theorem dL_law_414 : decode code 414 = .ok (.aload_n 2, 1) := by decide +kernel
theorem dL_law_415 : decode code 415 = .ok (.invokevirtual 56, 3) := by decide +kernel
theorem dL_law_418 : decode code 418 = .ok (.iload 5, 2) := by decide +kernel
theorem dL_law_420 : decode code 420 = .ok (.if_icmp .eq 5, 3) := by decide +kernel
theorem dL_law_423 : decode code 423 = .ok (.iconst 0, 1) := by decide +kernel
theorem dL_law_424 : decode code 424 = .ok (.ireturn, 1) := by decide +kernel
theorem dL_law_425 : decode code 425 = .ok (.iload 5, 2) := by decide +kernel
theorem dL_law_427 : decode code 427 = .ok (.ifCond .ne 15, 3) := by decide +kernel
theorem dL_law_430 : decode code 430 = .ok (.aload_n 3, 1) := by decide +kernel
theorem dL_law_431 : decode code 431 = .ok (.iconst 0, 1) := by decide +kernel
theorem dL_law_432 : decode code 432 = .ok (.laload, 1) := by decide +kernel
theorem dL_law_433 : decode code 433 = .ok (.iload 6, 2) := by decide +kernel
theorem dL_law_435 : decode code 435 = .ok (.i2l, 1) := by decide +kernel
theorem dL_law_436 : decode code 436 = .ok (.lcmp, 1) := by decide +kernel
theorem dL_law_437 : decode code 437 = .ok (.ifCond .eq 5, 3) := by decide +kernel
theorem dL_law_440 : decode code 440 = .ok (.iconst 0, 1) := by decide +kernel
theorem dL_law_441 : decode code 441 = .ok (.ireturn, 1) := by decide +kernel
theorem dL_law_442 : decode code 442 = .ok (.goto 171, 3) := by decide +kernel
theorem dL_law_445 : decode code 445 = .ok (.aload_n 1, 1) := by decide +kernel
theorem dL_law_446 : decode code 446 = .ok (.aload_n 0, 1) := by decide +kernel
theorem dL_law_447 : decode code 447 = .ok (.iload 4, 2) := by decide +kernel
theorem dL_law_449 : decode code 449 = .ok (.iconst 1, 1) := by decide +kernel
theorem dL_law_450 : decode code 450 = .ok (.iadd, 1) := by decide +kernel
theorem dL_law_451 : decode code 451 = .ok (.iaload, 1) := by decide +kernel
theorem dL_law_452 : decode code 452 = .ok (.aload_n 3, 1) := by decide +kernel
theorem dL_law_453 : decode code 453 = .ok (.invokestatic 82, 3) := by decide +kernel
theorem dL_law_456 : decode code 456 = .ok (.istore 5, 2) := by decide +kernel
theorem dL_law_458 : decode code 458 = .ok (.aload_n 2, 1) := by decide +kernel
theorem dL_law_459 : decode code 459 = .ok (.aload_n 0, 1) := by decide +kernel
theorem dL_law_460 : decode code 460 = .ok (.iload 4, 2) := by decide +kernel
theorem dL_law_462 : decode code 462 = .ok (.iconst 1, 1) := by decide +kernel
theorem dL_law_463 : decode code 463 = .ok (.iadd, 1) := by decide +kernel
theorem dL_law_464 : decode code 464 = .ok (.iaload, 1) := by decide +kernel
theorem dL_law_465 : decode code 465 = .ok (.invokevirtual 84, 3) := by decide +kernel
theorem dL_law_468 : decode code 468 = .ok (.istore 6, 2) := by decide +kernel
theorem dL_law_470 : decode code 470 = .ok (.aload_n 2, 1) := by decide +kernel
theorem dL_law_471 : decode code 471 = .ok (.invokevirtual 56, 3) := by decide +kernel
theorem dL_law_474 : decode code 474 = .ok (.iload 5, 2) := by decide +kernel
theorem dL_law_476 : decode code 476 = .ok (.if_icmp .eq 5, 3) := by decide +kernel
theorem dL_law_479 : decode code 479 = .ok (.iconst 0, 1) := by decide +kernel
theorem dL_law_480 : decode code 480 = .ok (.ireturn, 1) := by decide +kernel
theorem dL_law_481 : decode code 481 = .ok (.iload 5, 2) := by decide +kernel
theorem dL_law_483 : decode code 483 = .ok (.ifCond .ne 15, 3) := by decide +kernel
theorem dL_law_486 : decode code 486 = .ok (.aload_n 3, 1) := by decide +kernel
theorem dL_law_487 : decode code 487 = .ok (.iconst 0, 1) := by decide +kernel
theorem dL_law_488 : decode code 488 = .ok (.laload, 1) := by decide +kernel
theorem dL_law_489 : decode code 489 = .ok (.iload 6, 2) := by decide +kernel
theorem dL_law_491 : decode code 491 = .ok (.i2l, 1) := by decide +kernel
theorem dL_law_492 : decode code 492 = .ok (.lcmp, 1) := by decide +kernel
theorem dL_law_493 : decode code 493 = .ok (.ifCond .eq 5, 3) := by decide +kernel
theorem dL_law_496 : decode code 496 = .ok (.iconst 0, 1) := by decide +kernel
theorem dL_law_497 : decode code 497 = .ok (.ireturn, 1) := by decide +kernel
theorem dL_law_498 : decode code 498 = .ok (.goto 115, 3) := by decide +kernel
theorem dL_law_501 : decode code 501 = .ok (.aload_n 1, 1) := by decide +kernel
theorem dL_law_502 : decode code 502 = .ok (.aload_n 0, 1) := by decide +kernel
theorem dL_law_503 : decode code 503 = .ok (.iload 4, 2) := by decide +kernel
theorem dL_law_505 : decode code 505 = .ok (.iconst 1, 1) := by decide +kernel
theorem dL_law_506 : decode code 506 = .ok (.iadd, 1) := by decide +kernel
theorem dL_law_507 : decode code 507 = .ok (.iaload, 1) := by decide +kernel
theorem dL_law_508 : decode code 508 = .ok (.aload_n 3, 1) := by decide +kernel
theorem dL_law_509 : decode code 509 = .ok (.invokestatic 85, 3) := by decide +kernel
theorem dL_law_512 : decode code 512 = .ok (.istore 5, 2) := by decide +kernel
theorem dL_law_514 : decode code 514 = .ok (.aload_n 2, 1) := by decide +kernel
theorem dL_law_515 : decode code 515 = .ok (.aload_n 0, 1) := by decide +kernel
theorem dL_law_516 : decode code 516 = .ok (.iload 4, 2) := by decide +kernel
theorem dL_law_518 : decode code 518 = .ok (.iconst 1, 1) := by decide +kernel
theorem dL_law_519 : decode code 519 = .ok (.iadd, 1) := by decide +kernel
theorem dL_law_520 : decode code 520 = .ok (.iaload, 1) := by decide +kernel
theorem dL_law_521 : decode code 521 = .ok (.invokevirtual 87, 3) := by decide +kernel
theorem dL_law_524 : decode code 524 = .ok (.istore 6, 2) := by decide +kernel
theorem dL_law_526 : decode code 526 = .ok (.aload_n 2, 1) := by decide +kernel
theorem dL_law_527 : decode code 527 = .ok (.invokevirtual 56, 3) := by decide +kernel
theorem dL_law_530 : decode code 530 = .ok (.iload 5, 2) := by decide +kernel
theorem dL_law_532 : decode code 532 = .ok (.if_icmp .eq 5, 3) := by decide +kernel
theorem dL_law_535 : decode code 535 = .ok (.iconst 0, 1) := by decide +kernel
theorem dL_law_536 : decode code 536 = .ok (.ireturn, 1) := by decide +kernel
theorem dL_law_537 : decode code 537 = .ok (.iload 5, 2) := by decide +kernel
theorem dL_law_539 : decode code 539 = .ok (.ifCond .ne 15, 3) := by decide +kernel
theorem dL_law_542 : decode code 542 = .ok (.aload_n 3, 1) := by decide +kernel
theorem dL_law_543 : decode code 543 = .ok (.iconst 0, 1) := by decide +kernel
theorem dL_law_544 : decode code 544 = .ok (.laload, 1) := by decide +kernel
theorem dL_law_545 : decode code 545 = .ok (.iload 6, 2) := by decide +kernel
theorem dL_law_547 : decode code 547 = .ok (.i2l, 1) := by decide +kernel
theorem dL_law_548 : decode code 548 = .ok (.lcmp, 1) := by decide +kernel
theorem dL_law_549 : decode code 549 = .ok (.ifCond .eq 5, 3) := by decide +kernel
theorem dL_law_552 : decode code 552 = .ok (.iconst 0, 1) := by decide +kernel
theorem dL_law_553 : decode code 553 = .ok (.ireturn, 1) := by decide +kernel
theorem dL_law_554 : decode code 554 = .ok (.goto 59, 3) := by decide +kernel
theorem dL_law_557 : decode code 557 = .ok (.aload_n 1, 1) := by decide +kernel
theorem dL_law_558 : decode code 558 = .ok (.aload_n 0, 1) := by decide +kernel
theorem dL_law_559 : decode code 559 = .ok (.iload 4, 2) := by decide +kernel
theorem dL_law_561 : decode code 561 = .ok (.iconst 1, 1) := by decide +kernel
theorem dL_law_562 : decode code 562 = .ok (.iadd, 1) := by decide +kernel
theorem dL_law_563 : decode code 563 = .ok (.iaload, 1) := by decide +kernel
theorem dL_law_564 : decode code 564 = .ok (.aload_n 3, 1) := by decide +kernel
theorem dL_law_565 : decode code 565 = .ok (.invokestatic 88, 3) := by decide +kernel
theorem dL_law_568 : decode code 568 = .ok (.istore 5, 2) := by decide +kernel
theorem dL_law_570 : decode code 570 = .ok (.aload_n 2, 1) := by decide +kernel
theorem dL_law_571 : decode code 571 = .ok (.aload_n 0, 1) := by decide +kernel
theorem dL_law_572 : decode code 572 = .ok (.iload 4, 2) := by decide +kernel
theorem dL_law_574 : decode code 574 = .ok (.iconst 1, 1) := by decide +kernel
theorem dL_law_575 : decode code 575 = .ok (.iadd, 1) := by decide +kernel
theorem dL_law_576 : decode code 576 = .ok (.iaload, 1) := by decide +kernel
theorem dL_law_577 : decode code 577 = .ok (.invokevirtual 90, 3) := by decide +kernel
theorem dL_law_580 : decode code 580 = .ok (.istore 6, 2) := by decide +kernel
theorem dL_law_582 : decode code 582 = .ok (.aload_n 2, 1) := by decide +kernel
theorem dL_law_583 : decode code 583 = .ok (.invokevirtual 56, 3) := by decide +kernel
theorem dL_law_586 : decode code 586 = .ok (.iload 5, 2) := by decide +kernel
theorem dL_law_588 : decode code 588 = .ok (.if_icmp .eq 5, 3) := by decide +kernel
theorem dL_law_591 : decode code 591 = .ok (.iconst 0, 1) := by decide +kernel
theorem dL_law_592 : decode code 592 = .ok (.ireturn, 1) := by decide +kernel
theorem dL_law_593 : decode code 593 = .ok (.iload 5, 2) := by decide +kernel
theorem dL_law_595 : decode code 595 = .ok (.ifCond .ne 15, 3) := by decide +kernel
theorem dL_law_598 : decode code 598 = .ok (.aload_n 3, 1) := by decide +kernel
theorem dL_law_599 : decode code 599 = .ok (.iconst 0, 1) := by decide +kernel
theorem dL_law_600 : decode code 600 = .ok (.laload, 1) := by decide +kernel
theorem dL_law_601 : decode code 601 = .ok (.iload 6, 2) := by decide +kernel
theorem dL_law_603 : decode code 603 = .ok (.i2l, 1) := by decide +kernel
theorem dL_law_604 : decode code 604 = .ok (.lcmp, 1) := by decide +kernel
theorem dL_law_605 : decode code 605 = .ok (.ifCond .eq 5, 3) := by decide +kernel
theorem dL_law_608 : decode code 608 = .ok (.iconst 0, 1) := by decide +kernel
theorem dL_law_609 : decode code 609 = .ok (.ireturn, 1) := by decide +kernel
theorem dL_law_610 : decode code 610 = .ok (.goto 3, 3) := by decide +kernel
theorem dL_law_613 : decode code 613 = .ok (.iinc 4 4, 3) := by decide +kernel
theorem dL_law_616 : decode code 616 = .ok (.goto (-593), 3) := by decide +kernel
theorem dL_law_619 : decode code 619 = .ok (.iconst 1, 1) := by decide +kernel
theorem dL_law_620 : decode code 620 = .ok (.ireturn, 1) := by decide +kernel
end
section
/-! Pure rows: ways in a graph (Warshall), counting, lengths, values. Nothing of the machine. -/
/-- ways from n to m whose states between lie below k -/
def w_pt (E : Nat → Nat → Prop) : Nat → Nat → Nat → Prop
  | 0, n, m => E n m
  | k + 1, n, m => w_pt E k n m ∨ (w_pt E k n k ∧ w_pt E k k m)
theorem w_up {E : Nat → Nat → Prop} {n m : Nat} : ∀ k, E n m → w_pt E k n m
  | 0, h => h
  | k + 1, h => Or.inl (w_up k h)
theorem w_tr {E : Nat → Nat → Prop} : ∀ (k j n m : Nat), j < k → w_pt E k n j → w_pt E k j m → w_pt E k n m := by
  intro k
  induction k with
  | zero => intro j n m h; exact absurd h (Nat.not_lt_zero _)
  | succ k ih =>
    intro j n m hj h1 h2
    rcases Nat.lt_or_ge j k with hl | hg
    · rcases h1 with a | ⟨a, b⟩
      · rcases h2 with c | ⟨c, d⟩
        · exact Or.inl (ih j n m hl a c)
        · exact Or.inr ⟨ih j n k hl a c, d⟩
      · rcases h2 with c | ⟨c, d⟩
        · exact Or.inr ⟨a, ih j k m hl b c⟩
        · exact Or.inr ⟨a, d⟩
    · have e : j = k := by omega
      subst e
      have a : w_pt E j n j := by
        rcases h1 with a | ⟨a, _⟩
        · exact a
        · exact a
      have b : w_pt E j j m := by
        rcases h2 with b | ⟨_, b⟩
        · exact b
        · exact b
      exact Or.inr ⟨a, b⟩
theorem w_in {E X : Nat → Nat → Prop} (hE : ∀ n m, E n m → X n m) (hT : ∀ a b c, X a b → X b c → X a c) : ∀ k n m, w_pt E k n m → X n m := by
  intro k
  induction k with
  | zero => intro n m h; exact hE n m h
  | succ k ih =>
    intro n m h
    rcases h with a | ⟨a, b⟩
    · exact ih n m a
    · exact hT n k m (ih n k a) (ih k m b)
/-- the first step of a way -/
theorem w_fst {E : Nat → Nat → Prop} {k n m : Nat} (h : w_pt E k n m) : ∃ j, E n j ∧ (j = m ∨ ∃ k', k' ≤ k ∧ w_pt E k' j m) := by
  induction k generalizing n m with
  | zero => exact ⟨m, h, Or.inl rfl⟩
  | succ k ih =>
    rcases h with a | ⟨a, b⟩
    · obtain ⟨j, h1, h2⟩ := ih a
      refine ⟨j, h1, ?_⟩
      rcases h2 with h2 | ⟨k', h2, h3⟩
      · exact Or.inl h2
      · exact Or.inr ⟨k', by omega, h3⟩
    · obtain ⟨j, h1, h2⟩ := ih a
      refine ⟨j, h1, ?_⟩
      rcases h2 with h2 | ⟨k', h2, h3⟩
      · subst h2
        exact Or.inr ⟨j, by omega, b⟩
      · refine Or.inr ⟨k + 1, Nat.le_refl _, ?_⟩
        have up : ∀ d a b c, w_pt E d a b → d ≤ c → w_pt E c a b := by
          intro d a b c hd
          intro hc
          induction c with
          | zero => have : d = 0 := by omega
                    subst this; exact hd
          | succ c ihc =>
            rcases Nat.lt_or_ge c d with q | q
            · have : d = c + 1 := by omega
              subst this; exact hd
            · exact Or.inl (ihc q)
        exact Or.inr ⟨up _ _ _ _ h3 h2, b⟩
theorem w_le {E : Nat → Nat → Prop} {d a b c : Nat} (hd : w_pt E d a b) (hc : d ≤ c) : w_pt E c a b := by
  induction c with
  | zero =>
    have : d = 0 := by omega
    subst this; exact hd
  | succ c ihc =>
    rcases Nat.lt_or_ge c d with q | q
    · have : d = c + 1 := by omega
      subst this; exact hd
    · exact Or.inl (ihc q)
/-- how many below k -/
noncomputable def w_ct (P : Nat → Prop) : Nat → Nat
  | 0 => 0
  | k + 1 => w_ct P k + @ite Nat (P k) (Classical.propDecidable _) 1 0
theorem w_ct_mono {P Q : Nat → Prop} : ∀ k, (∀ i, i < k → P i → Q i) → w_ct P k ≤ w_ct Q k := by
  intro k
  induction k with
  | zero => intro _; exact Nat.le_refl _
  | succ k ih =>
    intro h
    have h1 := ih (fun i hi => h i (by omega))
    have h2 := h k (by omega)
    unfold w_ct
    by_cases hp : P k
    · rw [if_pos hp, if_pos (h2 hp)]; omega
    · rw [if_neg hp]; omega
theorem w_ct_lt {P Q : Nat → Prop} : ∀ k, (∀ i, i < k → P i → Q i) → ∀ j, j < k → Q j → ¬ P j → w_ct P k < w_ct Q k := by
  intro k
  induction k with
  | zero => intro _ j hj; exact absurd hj (Nat.not_lt_zero _)
  | succ k ih =>
    intro h j hj hq hp
    unfold w_ct
    rcases Nat.lt_or_ge j k with hl | hg
    · have h1 := ih (fun i hi => h i (by omega)) j hl hq hp
      have h2 := h k (by omega)
      by_cases hk : P k
      · rw [if_pos hk, if_pos (h2 hk)]; omega
      · rw [if_neg hk]; omega
    · have e : j = k := by omega
      subst e
      have h1 := w_ct_mono j (fun i hi => h i (by omega))
      rw [if_pos hq, if_neg hp]; omega
theorem w_ct_all (k : Nat) : w_ct (fun _ => True) k = k := by
  induction k with
  | zero => rfl
  | succ k ih => unfold w_ct; rw [ih, if_pos trivial]
/-- the rank of a state: how many it comes to -/
noncomputable def w_rk (E : Nat → Nat → Prop) (c n : Nat) : Nat := w_ct (fun m => w_pt E c n m) c
theorem w_rk_lt {E : Nat → Nat → Prop} {c n m : Nat} (he : E n m) (hm : m < c) (ha : ¬ w_pt E c m m) : w_rk E c m < w_rk E c n :=
  w_ct_lt c (fun i _ h => w_tr c m n i hm (w_up c he) h) m hm (w_up c he) ha
theorem w_rk_c {E : Nat → Nat → Prop} {c n : Nat} (hn : n < c) (ha : ¬ w_pt E c n n) : w_rk E c n < c := by
  have h := w_ct_lt (P := fun m => w_pt E c n m) (Q := fun _ => True) c (fun _ _ _ => trivial) n hn trivial ha
  rw [w_ct_all] at h
  exact h
/-- greatest of g below k, at least 0; least, at most 100 -/
def w_mx (g : Nat → Int) : Nat → Int
  | 0 => 0
  | k + 1 => max (w_mx g k) (g k)
def w_mn (g : Nat → Int) : Nat → Int
  | 0 => 100
  | k + 1 => min (w_mn g k) (g k)
theorem w_mx_c {g h : Nat → Int} : ∀ k, (∀ j, j < k → g j = h j) → w_mx g k = w_mx h k
  | 0, _ => rfl
  | k + 1, q => by unfold w_mx; rw [w_mx_c k (fun j hj => q j (by omega)), q k (by omega)]
theorem w_mn_c {g h : Nat → Int} : ∀ k, (∀ j, j < k → g j = h j) → w_mn g k = w_mn h k
  | 0, _ => rfl
  | k + 1, q => by unfold w_mn; rw [w_mn_c k (fun j hj => q j (by omega)), q k (by omega)]
theorem w_mx_0 (g : Nat → Int) : ∀ k, 0 ≤ w_mx g k
  | 0 => Int.le_refl _
  | k + 1 => by have := w_mx_0 g k; unfold w_mx; omega
theorem w_mx_le {g : Nat → Int} {b : Int} (hb : 0 ≤ b) : ∀ k, (∀ j, j < k → g j ≤ b) → w_mx g k ≤ b
  | 0, _ => hb
  | k + 1, q => by have h1 := w_mx_le hb k (fun j hj => q j (by omega)); have h2 := q k (by omega); unfold w_mx; omega
theorem w_mx_ge {g : Nat → Int} : ∀ k j, j < k → g j ≤ w_mx g k
  | 0, j, h => absurd h (Nat.not_lt_zero _)
  | k + 1, j, h => by
    unfold w_mx
    rcases Nat.lt_or_ge j k with q | q
    · have := w_mx_ge (g := g) k j q; omega
    · have e : j = k := by omega
      subst e; omega
theorem w_mx_mono {g : Nat → Int} : ∀ k j, j ≤ k → w_mx g j ≤ w_mx g k
  | 0, j, h => by have e : j = 0 := by omega
                  subst e; exact Int.le_refl _
  | k + 1, j, h => by
    rcases Nat.lt_or_ge k j with q | q
    · have e : j = k + 1 := by omega
      subst e; exact Int.le_refl _
    · have := w_mx_mono (g := g) k j q
      show w_mx g j ≤ max (w_mx g k) (g k)
      omega
theorem w_mx_at {g : Nat → Int} : ∀ k, 0 < k → (∀ j, j < k → 0 ≤ g j) → ∃ j, j < k ∧ w_mx g k = g j
  | 0, h, _ => absurd h (Nat.lt_irrefl _)
  | k + 1, _, q => by
    rcases Nat.eq_zero_or_pos k with e | e
    · subst e
      have := q 0 (by omega)
      exact ⟨0, by omega, by show max 0 (g 0) = g 0; omega⟩
    · obtain ⟨j, h1, h2⟩ := w_mx_at k e (fun j hj => q j (by omega))
      by_cases hc : g k ≤ w_mx g k
      · exact ⟨j, by omega, by show max (w_mx g k) (g k) = g j; omega⟩
      · exact ⟨k, by omega, by show max (w_mx g k) (g k) = g k; omega⟩
theorem w_mn_100 (g : Nat → Int) : ∀ k, w_mn g k ≤ 100
  | 0 => Int.le_refl _
  | k + 1 => by have := w_mn_100 g k; unfold w_mn; omega
theorem w_mn_ge {g : Nat → Int} {b : Int} (hb : b ≤ 100) : ∀ k, (∀ j, j < k → b ≤ g j) → b ≤ w_mn g k
  | 0, _ => hb
  | k + 1, q => by have h1 := w_mn_ge hb k (fun j hj => q j (by omega)); have h2 := q k (by omega); unfold w_mn; omega
theorem w_mn_le {g : Nat → Int} : ∀ k j, j < k → w_mn g k ≤ g j
  | 0, j, h => absurd h (Nat.not_lt_zero _)
  | k + 1, j, h => by
    unfold w_mn
    rcases Nat.lt_or_ge j k with q | q
    · have := w_mn_le (g := g) k j q; omega
    · have e : j = k := by omega
      subst e; omega
theorem w_mn_mono {g : Nat → Int} : ∀ k j, j ≤ k → w_mn g k ≤ w_mn g j
  | 0, j, h => by have e : j = 0 := by omega
                  subst e; exact Int.le_refl _
  | k + 1, j, h => by
    rcases Nat.lt_or_ge k j with q | q
    · have e : j = k + 1 := by omega
      subst e; exact Int.le_refl _
    · have := w_mn_mono (g := g) k j q
      show min (w_mn g k) (g k) ≤ w_mn g j
      omega
theorem w_mn_at {g : Nat → Int} : ∀ k, 0 < k → (∀ j, j < k → g j ≤ 100) → ∃ j, j < k ∧ w_mn g k = g j
  | 0, h, _ => absurd h (Nat.lt_irrefl _)
  | k + 1, _, q => by
    rcases Nat.eq_zero_or_pos k with e | e
    · subst e
      have := q 0 (by omega)
      exact ⟨0, by omega, by show min 100 (g 0) = g 0; omega⟩
    · obtain ⟨j, h1, h2⟩ := w_mn_at k e (fun j hj => q j (by omega))
      by_cases hc : w_mn g k ≤ g k
      · exact ⟨j, by omega, by show min (w_mn g k) (g k) = g j; omega⟩
      · exact ⟨k, by omega, by show min (w_mn g k) (g k) = g k; omega⟩
/-- what a search with the window (al, be) may answer for a value v -/
def w_ok (r v al be : Int) : Prop := (v ≤ al → v ≤ r ∧ r ≤ al) ∧ (al < v → v < be → r = v) ∧ (be ≤ v → be ≤ r ∧ r ≤ v)
theorem w_ok_rf (v al be : Int) : w_ok v v al be := ⟨fun h => ⟨Int.le_refl _, h⟩, fun _ _ => rfl, fun h => ⟨h, Int.le_refl _⟩⟩
theorem w_ok_mx {f M r v al be : Int} (h : w_ok f M al be) (hw : al < be) (hf : f < be) (hr : w_ok r v (max al f) be) : w_ok (max f r) (max M v) al be := by
  obtain ⟨a1, a2, a3⟩ := h
  obtain ⟨b1, b2, b3⟩ := hr
  refine ⟨?_, ?_, ?_⟩ <;> omega
theorem w_ok_mn {f M r v al be : Int} (h : w_ok f M al be) (hw : al < be) (hf : al < f) (hr : w_ok r v al (min be f)) : w_ok (min f r) (min M v) al be := by
  obtain ⟨a1, a2, a3⟩ := h
  obtain ⟨b1, b2, b3⟩ := hr
  refine ⟨?_, ?_, ?_⟩ <;> omega
theorem w_ok_cutx {f M v al be : Int} (h : w_ok f M al be) (hw : al < be) (hf : be ≤ f) (hv : M ≤ v) : w_ok f v al be := by
  obtain ⟨a1, a2, a3⟩ := h
  refine ⟨?_, ?_, ?_⟩ <;> omega
theorem w_ok_cutn {f M v al be : Int} (h : w_ok f M al be) (hw : al < be) (hf : f ≤ al) (hv : v ≤ M) : w_ok f v al be := by
  obtain ⟨a1, a2, a3⟩ := h
  refine ⟨?_, ?_, ?_⟩ <;> omega
theorem w_ok_lo {r v al be : Int} (h : w_ok r v al be) (hw : al < be) (hr : al < r) : r ≤ v := by
  obtain ⟨a1, a2, a3⟩ := h
  omega
theorem w_ok_hi {r v al be : Int} (h : w_ok r v al be) (hw : al < be) (hr : r < be) : v ≤ r := by
  obtain ⟨a1, a2, a3⟩ := h
  omega
end
section
/-! The graph of a game: states below c, mv n joint moves of state n, tg n j where move j goes to. -/
def s_ed (mv : Nat → Nat) (tg : Nat → Nat → Nat) (n m : Nat) : Prop := ∃ j, j < mv n ∧ tg n j = m
/-- state n comes to m -/
def s_to (c : Nat) (mv : Nat → Nat) (tg : Nat → Nat → Nat) (n m : Nat) : Prop := w_pt (s_ed mv tg) c n m
def s_re (c : Nat) (mv : Nat → Nat) (tg : Nat → Nat → Nat) (n : Nat) : Prop := n = 0 ∨ s_to c mv tg 0 n
/-- every move of a state goes to a state -/
def s_ok (c : Nat) (mv : Nat → Nat) (tg : Nat → Nat → Nat) : Prop := 0 < c ∧ ∀ n, n < c → ∀ j, j < mv n → tg n j < c
/-- no reached state comes to itself again -/
def s_ac (c : Nat) (mv : Nat → Nat) (tg : Nat → Nat → Nat) : Prop := ∀ n, s_re c mv tg n → ¬ s_to c mv tg n n
theorem s_to_lt {c : Nat} {mv : Nat → Nat} {tg : Nat → Nat → Nat} (h : s_ok c mv tg) {n m : Nat} (hn : n < c) (ht : s_to c mv tg n m) : m < c :=
  w_in (X := fun a b => a < c → b < c) (fun a b ⟨j, hj, e⟩ ha => e ▸ h.2 a ha j hj) (fun _ _ _ p q ha => q (p ha)) c n m ht hn
theorem s_re_lt {c : Nat} {mv : Nat → Nat} {tg : Nat → Nat → Nat} (h : s_ok c mv tg) {n : Nat} (hn : s_re c mv tg n) : n < c := by
  rcases hn with e | ht
  · rw [e]; exact h.1
  · exact s_to_lt h h.1 ht
theorem s_to_ed {c : Nat} {mv : Nat → Nat} {tg : Nat → Nat → Nat} {n j : Nat} (hj : j < mv n) : s_to c mv tg n (tg n j) := w_up c ⟨j, hj, rfl⟩
theorem s_re_to {c : Nat} {mv : Nat → Nat} {tg : Nat → Nat → Nat} (h : s_ok c mv tg) {n m : Nat} (hn : s_re c mv tg n) (ht : s_to c mv tg n m) : s_re c mv tg m := by
  have hl := s_re_lt h hn
  rcases hn with e | h0
  · subst e; exact Or.inr ht
  · exact Or.inr (w_tr c n 0 m hl h0 ht)
theorem s_re_ed {c : Nat} {mv : Nat → Nat} {tg : Nat → Nat → Nat} (h : s_ok c mv tg) {n j : Nat} (hn : s_re c mv tg n) (hj : j < mv n) : s_re c mv tg (tg n j) := s_re_to h hn (s_to_ed hj)
noncomputable def s_rk (c : Nat) (mv : Nat → Nat) (tg : Nat → Nat → Nat) (n : Nat) : Nat := w_rk (s_ed mv tg) c n
theorem s_rk_c {c : Nat} {mv : Nat → Nat} {tg : Nat → Nat → Nat} (h : s_ok c mv tg) (ha : s_ac c mv tg) {n : Nat} (hn : s_re c mv tg n) : s_rk c mv tg n < c := w_rk_c (s_re_lt h hn) (ha n hn)
theorem s_rk_lt {c : Nat} {mv : Nat → Nat} {tg : Nat → Nat → Nat} (h : s_ok c mv tg) (ha : s_ac c mv tg) {n j : Nat} (hn : s_re c mv tg n) (hj : j < mv n) : s_rk c mv tg (tg n j) < s_rk c mv tg n :=
  w_rk_lt ⟨j, hj, rfl⟩ (s_re_lt h (s_re_ed h hn hj)) (ha _ (s_re_ed h hn hj))
/-- lengths -/
def w_nx (g : Nat → Nat) : Nat → Nat
  | 0 => 0
  | k + 1 => max (w_nx g k) (g k)
theorem w_nx_c {g h : Nat → Nat} : ∀ k, (∀ j, j < k → g j = h j) → w_nx g k = w_nx h k
  | 0, _ => rfl
  | k + 1, q => by unfold w_nx; rw [w_nx_c k (fun j hj => q j (by omega)), q k (by omega)]
theorem w_nx_le {g : Nat → Nat} {b : Nat} : ∀ k, (∀ j, j < k → g j ≤ b) → w_nx g k ≤ b
  | 0, _ => Nat.zero_le _
  | k + 1, q => by have h1 := w_nx_le k (fun j hj => q j (by omega)); have h2 := q k (by omega); unfold w_nx; omega
theorem w_nx_ge {g : Nat → Nat} : ∀ k j, j < k → g j ≤ w_nx g k
  | 0, j, h => absurd h (Nat.not_lt_zero _)
  | k + 1, j, h => by
    unfold w_nx
    rcases Nat.lt_or_ge j k with q | q
    · have := w_nx_ge (g := g) k j q; omega
    · have e : j = k := by omega
      subst e; omega
def s_len (mv : Nat → Nat) (tg : Nat → Nat → Nat) : Nat → Nat → Nat
  | 0, _ => 0
  | f + 1, n => w_nx (fun j => s_len mv tg f (tg n j) + 1) (mv n)
theorem s_len_st {c : Nat} {mv : Nat → Nat} {tg : Nat → Nat → Nat} (h : s_ok c mv tg) (ha : s_ac c mv tg) : ∀ f n, s_re c mv tg n → s_rk c mv tg n < f → ∀ f', s_rk c mv tg n < f' → s_len mv tg f n = s_len mv tg f' n := by
  intro f
  induction f with
  | zero => intro n _ h0; exact absurd h0 (Nat.not_lt_zero _)
  | succ f ih =>
    intro n hn hf f' hf'
    cases f' with
    | zero => exact absurd hf' (Nat.not_lt_zero _)
    | succ g =>
      unfold s_len
      refine w_nx_c _ (fun j hj => ?_)
      have hr := s_rk_lt h ha hn hj
      show s_len mv tg f (tg n j) + 1 = s_len mv tg g (tg n j) + 1
      rw [ih (tg n j) (s_re_ed h hn hj) (by omega) g (by omega)]
theorem s_len_eq {c : Nat} {mv : Nat → Nat} {tg : Nat → Nat → Nat} (h : s_ok c mv tg) (ha : s_ac c mv tg) {n : Nat} (hn : s_re c mv tg n) : s_len mv tg c n = w_nx (fun j => s_len mv tg c (tg n j) + 1) (mv n) := by
  have hr := s_rk_c h ha hn
  rw [s_len_st h ha c n hn hr (c + 1) (by omega)]
  rfl
theorem s_len_rk {c : Nat} {mv : Nat → Nat} {tg : Nat → Nat → Nat} (h : s_ok c mv tg) (ha : s_ac c mv tg) : ∀ r n, s_re c mv tg n → s_rk c mv tg n ≤ r → s_len mv tg c n ≤ s_rk c mv tg n := by
  intro r
  induction r with
  | zero =>
    intro n hn h0
    rw [s_len_eq h ha hn]
    refine w_nx_le _ (fun j hj => ?_)
    have := s_rk_lt h ha hn hj
    omega
  | succ r ih =>
    intro n hn h0
    rw [s_len_eq h ha hn]
    refine w_nx_le _ (fun j hj => ?_)
    have h1 := s_rk_lt h ha hn hj
    have h2 := ih (tg n j) (s_re_ed h hn hj) (by omega)
    omega
theorem s_len_c {c : Nat} {mv : Nat → Nat} {tg : Nat → Nat → Nat} (h : s_ok c mv tg) (ha : s_ac c mv tg) {n : Nat} (hn : s_re c mv tg n) : s_len mv tg c n < c :=
  Nat.lt_of_le_of_lt (s_len_rk h ha _ n hn (Nat.le_refl _)) (s_rk_c h ha hn)
theorem s_len_ed {c : Nat} {mv : Nat → Nat} {tg : Nat → Nat → Nat} (h : s_ok c mv tg) (ha : s_ac c mv tg) {n j : Nat} (hn : s_re c mv tg n) (hj : j < mv n) : s_len mv tg c (tg n j) < s_len mv tg c n := by
  rw [s_len_eq h ha hn]
  exact w_nx_ge (g := fun j => s_len mv tg c (tg n j) + 1) _ j hj
theorem s_len_to {c : Nat} {mv : Nat → Nat} {tg : Nat → Nat → Nat} (h : s_ok c mv tg) (ha : s_ac c mv tg) {n m : Nat} (hn : s_re c mv tg n) (ht : s_to c mv tg n m) : s_len mv tg c m < s_len mv tg c n :=
  (w_in (X := fun a b => s_re c mv tg a → s_re c mv tg b ∧ s_len mv tg c b < s_len mv tg c a)
    (fun a b ⟨j, hj, e⟩ ha' => by subst e; exact ⟨s_re_ed h ha' hj, s_len_ed h ha ha' hj⟩)
    (fun x y z p q hx => ⟨(q (p hx).1).1, Nat.lt_trans (q (p hx).1).2 (p hx).2⟩) c n m ht hn).2
/-- a state's length is at most r just when all that it comes to has a lesser one than r -/
theorem s_len_iff {c : Nat} {mv : Nat → Nat} {tg : Nat → Nat → Nat} (h : s_ok c mv tg) (ha : s_ac c mv tg) {n r : Nat} (hn : s_re c mv tg n) : (∀ m, s_to c mv tg n m → s_len mv tg c m < r) ↔ s_len mv tg c n ≤ r := by
  constructor
  · intro q
    rw [s_len_eq h ha hn]
    exact w_nx_le _ (fun j hj => q _ (s_to_ed hj))
  · intro q m hm
    exact Nat.lt_of_lt_of_le (s_len_to h ha hn hm) q
/-- values: fi n: the first player has more than one move there; go n: an end's first goal -/
def s_val (mv : Nat → Nat) (tg : Nat → Nat → Nat) (fi : Nat → Bool) (go : Nat → Int) : Nat → Nat → Int
  | 0, _ => 0
  | f + 1, n => if mv n = 0 then go n else if fi n then w_mx (fun j => s_val mv tg fi go f (tg n j)) (mv n) else w_mn (fun j => s_val mv tg fi go f (tg n j)) (mv n)
theorem s_val_st {c : Nat} {mv : Nat → Nat} {tg : Nat → Nat → Nat} {fi : Nat → Bool} {go : Nat → Int} (h : s_ok c mv tg) (ha : s_ac c mv tg) : ∀ f n, s_re c mv tg n → s_rk c mv tg n < f → ∀ f', s_rk c mv tg n < f' → s_val mv tg fi go f n = s_val mv tg fi go f' n := by
  intro f
  induction f with
  | zero => intro n _ h0; exact absurd h0 (Nat.not_lt_zero _)
  | succ f ih =>
    intro n hn hf f' hf'
    cases f' with
    | zero => exact absurd hf' (Nat.not_lt_zero _)
    | succ g =>
      have q : ∀ j, j < mv n → s_val mv tg fi go f (tg n j) = s_val mv tg fi go g (tg n j) := fun j hj => by
        have hr := s_rk_lt h ha hn hj
        exact ih (tg n j) (s_re_ed h hn hj) (by omega) g (by omega)
      unfold s_val
      rw [w_mx_c _ q, w_mn_c _ q]
theorem s_val_eq {c : Nat} {mv : Nat → Nat} {tg : Nat → Nat → Nat} {fi : Nat → Bool} {go : Nat → Int} (h : s_ok c mv tg) (ha : s_ac c mv tg) {n : Nat} (hn : s_re c mv tg n) :
    s_val mv tg fi go c n = if mv n = 0 then go n else if fi n then w_mx (fun j => s_val mv tg fi go c (tg n j)) (mv n) else w_mn (fun j => s_val mv tg fi go c (tg n j)) (mv n) := by
  have hr := s_rk_c h ha hn
  rw [s_val_st h ha c n hn hr (c + 1) (by omega)]
  rfl
/-- goals of reached ends are 0 .. 100 -/
def s_go (c : Nat) (mv : Nat → Nat) (tg : Nat → Nat → Nat) (go : Nat → Int) : Prop := ∀ n, s_re c mv tg n → mv n = 0 → 0 ≤ go n ∧ go n ≤ 100
theorem s_val_b {c : Nat} {mv : Nat → Nat} {tg : Nat → Nat → Nat} {fi : Nat → Bool} {go : Nat → Int} (h : s_ok c mv tg) (hg : s_go c mv tg go) : ∀ f n, s_re c mv tg n → 0 ≤ s_val mv tg fi go f n ∧ s_val mv tg fi go f n ≤ 100 := by
  intro f
  induction f with
  | zero => intro n _; unfold s_val; omega
  | succ f ih =>
    intro n hn
    unfold s_val
    by_cases h0 : mv n = 0
    · rw [if_pos h0]; exact hg n hn h0
    · rw [if_neg h0]
      have q : ∀ j, j < mv n → 0 ≤ s_val mv tg fi go f (tg n j) ∧ s_val mv tg fi go f (tg n j) ≤ 100 := fun j hj => ih _ (s_re_ed h hn hj)
      by_cases hf : fi n = true
      · rw [if_pos hf]
        exact ⟨w_mx_0 _ _, w_mx_le (by omega) _ (fun j hj => (q j hj).2)⟩
      · rw [if_neg hf]
        exact ⟨w_mn_ge (by omega) _ (fun j hj => (q j hj).1), w_mn_100 _ _⟩
end
section
/-! Bits of a long: b_t w j. (ts_bit: after the kit's BITS.to-paste.) -/
def b_t (w : Int64) (j : Nat) : Bool := w.toBitVec.getLsbD j
theorem b_t_or (x y : Int64) (j : Nat) : b_t (x ||| y) j = (b_t x j || b_t y j) := by
  unfold b_t
  rw [Int64.toBitVec_or, BitVec.getLsbD_or]
theorem b_t_0 (j : Nat) : b_t 0 j = false := by
  show (0#64).getLsbD j = false
  exact BitVec.getLsbD_zero
theorem b_t_big {w : Int64} {j : Nat} (h : 64 ≤ j) : b_t w j = false := BitVec.getLsbD_of_ge w.toBitVec j h
theorem b_t_ext {x y : Int64} (h : ∀ j, j < 64 → b_t x j = b_t y j) : x = y := Int64.toBitVec_inj.mp (BitVec.eq_of_getLsbD_eq (fun i hi => h i hi))
theorem b_t_sh : ∀ t, t < 64 → ((1 : Int64) <<< ((nI t).toInt64 &&& 63)).toBitVec = BitVec.twoPow 64 t := by decide +kernel
theorem b_t_1 {t : Nat} (ht : t < 64) (j : Nat) : b_t ((1 : Int64) <<< ((nI t).toInt64 &&& 63)) j = decide (j = t) := by
  unfold b_t
  rw [b_t_sh t ht, BitVec.getLsbD_twoPow]
  by_cases h : t = j
  · subst h; simp [ht]
  · have h' : ¬ j = t := fun e => h e.symm
    simp [h, h']
theorem b_t_one (j : Nat) : b_t 1 j = decide (j = 0) := by
  have h := b_t_1 (t := 0) (by omega) j
  have e : (1 : Int64) <<< ((nI 0).toInt64 &&& 63) = 1 := by decide +kernel
  rw [e] at h
  exact h
theorem b_t_cu : ∀ k, k < 64 → ((nI k).toInt64.toUInt64 &&& Int64.toUInt64 63).toNat = k := by decide +kernel
theorem b_t_has {w : Int64} {k : Nat} (hk : k < 64) : ((w.toUInt64 >>> ((nI k).toInt64.toUInt64 &&& Int64.toUInt64 63)).toInt64 &&& 1) = 0 ↔ b_t w k = false := by
  have hs := b_t_cu k hk
  generalize (nI k).toInt64.toUInt64 &&& Int64.toUInt64 63 = s at hs
  have e : (w.toUInt64 >>> s).toInt64.toBitVec = w.toBitVec >>> k := by
    apply BitVec.eq_of_toNat_eq
    show (w.toUInt64 >>> s).toNat = _
    rw [UInt64.toNat_shiftRight, hs, Nat.mod_eq_of_lt hk, BitVec.toNat_ushiftRight]
    rfl
  rw [← Int64.toBitVec_inj, Int64.toBitVec_and, e]
  show w.toBitVec >>> k &&& 1#64 = 0#64 ↔ w.toBitVec.getLsbD k = false
  constructor
  · intro h
    have t := congrArg (fun x => x.getLsbD 0) h
    simpa using t
  · intro h
    apply BitVec.eq_of_getLsbD_eq
    intro i hi
    rcases Nat.eq_zero_or_pos i with z | z
    · subst z
      simpa using h
    · simp only [BitVec.getLsbD_and, BitVec.getLsbD_zero]
      have : (1#64).getLsbD i = false := by
        have q : i ≠ 0 := by omega
        simp [q]
      rw [this, Bool.and_false]
theorem b_t_sub (x y : Int64) : (x &&& (y ^^^ (-1))) = 0 ↔ ∀ j, j < 64 → b_t x j = true → b_t y j = true := by
  have e1 : ∀ j, j < 64 → b_t (x &&& (y ^^^ (-1))) j = (b_t x j && !b_t y j) := by
    intro j hj
    unfold b_t
    rw [Int64.toBitVec_and, Int64.toBitVec_xor, BitVec.getLsbD_and, BitVec.getLsbD_xor]
    have : (-1 : Int64).toBitVec = BitVec.allOnes 64 := by decide
    rw [this, BitVec.getLsbD_allOnes]
    simp [hj]
  constructor
  · intro h j hj hx
    have := e1 j hj
    rw [h, b_t_0, hx] at this
    cases hy : b_t y j with
    | true => rfl
    | false => rw [hy] at this; cases this
  · intro h
    apply b_t_ext
    intro j hj
    rw [e1 j hj, b_t_0]
    cases hx : b_t x j with
    | false => rfl
    | true => rw [h j hj hx]; rfl
theorem b_cmp0 (x : Int64) : lg_cmp x 0 = 0 ↔ x = 0 := by
  unfold lg_cmp
  constructor
  · intro h
    by_cases h1 : x > 0
    · rw [if_pos h1] at h; exact absurd h (by decide)
    · rw [if_neg h1] at h
      by_cases h2 : x = 0
      · exact h2
      · rw [if_neg h2] at h; exact absurd h (by decide)
  · intro h
    subst h
    decide
end
section
/-! How many bits: Long.bitCount's sums, byte by byte. -/
def b_ct (g : Nat → Bool) : Nat → Nat
  | 0 => 0
  | k + 1 => b_ct g k + (g k).toNat
theorem b_ct_c {g h : Nat → Bool} : ∀ k, (∀ j, j < k → g j = h j) → b_ct g k = b_ct h k
  | 0, _ => rfl
  | k + 1, q => by unfold b_ct; rw [b_ct_c k (fun j hj => q j (by omega)), q k (by omega)]
theorem b_ct_add (g : Nat → Bool) (k : Nat) : ∀ m, b_ct g (k + m) = b_ct g k + b_ct (fun j => g (k + j)) m
  | 0 => rfl
  | m + 1 => by
    show b_ct g (k + m) + (g (k + m)).toNat = b_ct g k + (b_ct (fun j => g (k + j)) m + (g (k + m)).toNat)
    rw [b_ct_add g k m]; omega
theorem b_ct_0 {g : Nat → Bool} : ∀ k, (∀ j, j < k → g j = false) → b_ct g k = 0
  | 0, _ => rfl
  | k + 1, q => by unfold b_ct; rw [b_ct_0 k (fun j hj => q j (by omega)), q k (by omega)]; rfl
theorem b_ct_le (g : Nat → Bool) : ∀ k, b_ct g k ≤ k
  | 0 => Nat.le_refl _
  | k + 1 => by
    have := b_ct_le g k
    unfold b_ct
    cases g k <;> simp <;> omega
theorem p_tb (q : Nat) {b : Nat} (hb : b < 256) (j : Nat) : (256 * q + b).testBit j = if j < 8 then b.testBit j else q.testBit (j - 8) := Nat.testBit_two_pow_mul_add (i := 8) q hb j
theorem p_and {a p c r : Nat} (ha : a < 256) (hc : c < 256) : (256 * p + a) &&& (256 * r + c) = 256 * (p &&& r) + (a &&& c) := by
  have hac : a &&& c < 256 := Nat.and_lt_two_pow (n := 8) a hc
  apply Nat.eq_of_testBit_eq
  intro j
  rw [Nat.testBit_and, p_tb p ha, p_tb r hc, p_tb (p &&& r) hac]
  by_cases h : j < 8
  · rw [if_pos h, if_pos h, if_pos h, Nat.testBit_and]
  · rw [if_neg h, if_neg h, if_neg h, Nat.testBit_and]
theorem p_t1 : ∀ b, b < 256 → ∀ t, t < 2 → (b / 2 + 128 * t) &&& 85 = (b / 2) &&& 85 := by decide +kernel
theorem p_t2 : ∀ b, b < 256 → ∀ t, t < 4 → (b / 4 + 64 * t) &&& 51 = (b / 4) &&& 51 := by decide +kernel
def p_1 (b : Nat) : Nat := b - (b / 2 &&& 85)
def p_2 (b : Nat) : Nat := (p_1 b &&& 51) + (p_1 b / 4 &&& 51)
def p_3 (b : Nat) : Nat := (p_2 b + p_2 b / 16) &&& 15
theorem p_b1 : ∀ b, b < 256 → p_1 b < 256 ∧ (b / 2 &&& 85) ≤ b := by decide +kernel
theorem p_b2 : ∀ b, b < 256 → p_2 b < 256 ∧ p_2 b / 16 ≤ 4 ∧ p_2 b % 16 ≤ 4 := by decide +kernel
theorem p_b3 : ∀ b, b < 256 → p_3 b = b_ct b.testBit 8 ∧ p_3 b ≤ 8 := by decide +kernel
theorem p_m4 : ∀ x, x < 256 → ∀ t, t < 5 → x % 16 ≤ 4 → x / 16 ≤ 4 → (x + x / 16 + 16 * t) &&& 15 = (x + x / 16) &&& 15 := by decide +kernel
theorem p_s1 {b q M : Nat} (hb : b < 256) : (256 * q + b) / 2 &&& (256 * M + 85) = 256 * (q / 2 &&& M) + (b / 2 &&& 85) := by
  have e : (256 * q + b) / 2 = 256 * (q / 2) + (b / 2 + 128 * (q % 2)) := by omega
  rw [e, p_and (by omega) (by decide), p_t1 b hb _ (Nat.mod_lt _ (by decide))]
theorem p_s2 {b q M : Nat} (hb : b < 256) : (256 * q + b) / 4 &&& (256 * M + 51) = 256 * (q / 4 &&& M) + (b / 4 &&& 51) := by
  have e : (256 * q + b) / 4 = 256 * (q / 4) + (b / 4 + 64 * (q % 4)) := by omega
  rw [e, p_and (by omega) (by decide), p_t2 b hb _ (Nat.mod_lt _ (by decide))]
/-- masks of k bytes -/
def p_M (c : Nat) : Nat → Nat
  | 0 => 0
  | k + 1 => 256 * p_M c k + c
def p_F1 (k n : Nat) : Nat := n - (n / 2 &&& p_M 85 k)
def p_F2 (k n : Nat) : Nat := (n &&& p_M 51 k) + (n / 4 &&& p_M 51 k)
def p_F3 (k n : Nat) : Nat := (n + n / 16) &&& p_M 15 k
/-- a number of k bytes, each by f -/
def p_by (f : Nat → Nat) : Nat → Nat → Nat
  | 0, _ => 0
  | k + 1, n => 256 * p_by f k (n / 256) + f (n % 256)
theorem p_F1_by : ∀ k n, n < 256 ^ k → p_F1 k n = p_by p_1 k n ∧ (n / 2 &&& p_M 85 k) ≤ n
  | 0, n, h => by
    have : n = 0 := by simpa using h
    subst this; decide
  | k + 1, n, h => by
    have hq : n / 256 < 256 ^ k := by rw [Nat.div_lt_iff_lt_mul (by decide)]; rw [Nat.pow_succ] at h; exact h
    obtain ⟨i1, i2⟩ := p_F1_by k (n / 256) hq
    have hb : n % 256 < 256 := Nat.mod_lt _ (by decide)
    have e : n = 256 * (n / 256) + n % 256 := by omega
    have s : n / 2 &&& p_M 85 (k + 1) = 256 * (n / 256 / 2 &&& p_M 85 k) + (n % 256 / 2 &&& 85) := by
      conv => lhs; rw [e]
      exact p_s1 hb
    obtain ⟨b1, b2⟩ := p_b1 _ hb
    unfold p_F1 at i1 ⊢
    unfold p_by
    rw [s]
    unfold p_1 at i1 ⊢
    generalize n / 256 / 2 &&& p_M 85 k = X at *
    generalize n % 256 / 2 &&& 85 = Y at *
    refine ⟨?_, by omega⟩
    rw [← i1]
    omega
theorem p_F2_by : ∀ k n, n < 256 ^ k → p_F2 k (p_by p_1 k n) = p_by p_2 k n
  | 0, n, h => by simp [p_F2, p_by, p_M]
  | k + 1, n, h => by
    have hq : n / 256 < 256 ^ k := by rw [Nat.div_lt_iff_lt_mul (by decide)]; rw [Nat.pow_succ] at h; exact h
    have i1 := p_F2_by k (n / 256) hq
    have hb : n % 256 < 256 := Nat.mod_lt _ (by decide)
    obtain ⟨b1, -⟩ := p_b1 _ hb
    unfold p_F2 at i1 ⊢
    show (256 * p_by p_1 k (n / 256) + p_1 (n % 256) &&& (256 * p_M 51 k + 51)) + ((256 * p_by p_1 k (n / 256) + p_1 (n % 256)) / 4 &&& (256 * p_M 51 k + 51)) = 256 * p_by p_2 k (n / 256) + p_2 (n % 256)
    rw [p_s2 b1, p_and b1 (by decide), ← i1]
    unfold p_2
    omega
theorem p_F3_by : ∀ k n, n < 256 ^ k → p_F3 k (p_by p_2 k n) = p_by p_3 k n ∧ p_by p_2 k n % 16 ≤ 4
  | 0, n, h => by simp [p_F3, p_by, p_M]
  | k + 1, n, h => by
    have hq : n / 256 < 256 ^ k := by rw [Nat.div_lt_iff_lt_mul (by decide)]; rw [Nat.pow_succ] at h; exact h
    obtain ⟨i1, i2⟩ := p_F3_by k (n / 256) hq
    have hb : n % 256 < 256 := Nat.mod_lt _ (by decide)
    obtain ⟨b1, b2, b3⟩ := p_b2 _ hb
    unfold p_F3 at i1 ⊢
    show (256 * p_by p_2 k (n / 256) + p_2 (n % 256) + (256 * p_by p_2 k (n / 256) + p_2 (n % 256)) / 16 &&& (256 * p_M 15 k + 15)) = 256 * p_by p_3 k (n / 256) + p_3 (n % 256) ∧ (256 * p_by p_2 k (n / 256) + p_2 (n % 256)) % 16 ≤ 4
    refine ⟨?_, by omega⟩
    have e : 256 * p_by p_2 k (n / 256) + p_2 (n % 256) + (256 * p_by p_2 k (n / 256) + p_2 (n % 256)) / 16 = 256 * (p_by p_2 k (n / 256) + p_by p_2 k (n / 256) / 16) + (p_2 (n % 256) + p_2 (n % 256) / 16 + 16 * (p_by p_2 k (n / 256) % 16)) := by omega
    rw [e, p_and (by omega) (by decide), p_m4 _ b1 _ (by omega) b3 b2, i1]
    rfl
theorem p_ct : ∀ k n, n < 256 ^ k → ∃ l : List Nat, l.length = k ∧ (∀ x ∈ l, x ≤ 8) ∧ p_by p_3 k n = l.foldr (fun x a => 256 * a + x) 0 ∧ l.foldr (fun x a => a + x) 0 = b_ct n.testBit (8 * k)
  | 0, n, h => ⟨[], rfl, (fun x hx => absurd hx List.not_mem_nil), rfl, rfl⟩
  | k + 1, n, h => by
    have hq : n / 256 < 256 ^ k := by rw [Nat.div_lt_iff_lt_mul (by decide)]; rw [Nat.pow_succ] at h; exact h
    obtain ⟨l, l1, l2, l3, l4⟩ := p_ct k (n / 256) hq
    have hb : n % 256 < 256 := Nat.mod_lt _ (by decide)
    obtain ⟨b1, b2⟩ := p_b3 _ hb
    refine ⟨p_3 (n % 256) :: l, by simp [l1], ?_, ?_, ?_⟩
    · intro x hx
      rcases List.mem_cons.mp hx with e | e
      · rw [e]; exact b2
      · exact l2 x e
    · show 256 * p_by p_3 k (n / 256) + p_3 (n % 256) = _
      rw [l3]; rfl
    · show l.foldr (fun x a => a + x) 0 + p_3 (n % 256) = _
      rw [l4, b1, show 8 * (k + 1) = 8 + 8 * k by omega, b_ct_add]
      have e : n = 256 * (n / 256) + n % 256 := by omega
      have c1 : b_ct (n % 256).testBit 8 = b_ct n.testBit 8 := b_ct_c 8 (fun j hj => by
        conv => rhs; rw [e]
        rw [p_tb _ hb, if_pos hj])
      have c2 : b_ct (n / 256).testBit (8 * k) = b_ct (fun j => n.testBit (8 + j)) (8 * k) := b_ct_c _ (fun j hj => by
        show _ = n.testBit (8 + j)
        conv => rhs; rw [e]
        rw [p_tb _ hb, if_neg (by omega)]
        congr 1; omega)
      rw [c1, c2]; omega
theorem p_8 {l : List Nat} (h : l.length = 8) : ∃ a b c d e f g k, l = [a, b, c, d, e, f, g, k] := by
  rcases l with _ | ⟨a, l⟩
  · simp at h
  rcases l with _ | ⟨b, l⟩
  · simp at h
  rcases l with _ | ⟨c, l⟩
  · simp at h
  rcases l with _ | ⟨d, l⟩
  · simp at h
  rcases l with _ | ⟨e, l⟩
  · simp at h
  rcases l with _ | ⟨f, l⟩
  · simp at h
  rcases l with _ | ⟨g, l⟩
  · simp at h
  rcases l with _ | ⟨k, l⟩
  · simp at h
  cases l with
  | nil => exact ⟨a, b, c, d, e, f, g, k, rfl⟩
  | cons x l => simp at h
theorem p_d1 {y q r : Nat} (h : y = 256 * q + r) (hr : r < 256) : y / 256 = q := by omega
theorem p_d2 {y q r : Nat} (h : y = 65536 * q + r) (hr : r < 65536) : y / 65536 = q := by omega
theorem p_d4 {y q r : Nat} (h : y = 4294967296 * q + r) (hr : r < 4294967296) : y / 4294967296 = q := by omega
theorem p_d7 {y q r : Nat} (h : y = 256 * q + r) (hr : r < 128) : y % 128 = r := by omega
theorem p_fin (l : List Nat) (hl : l.length = 8) (hx : ∀ x ∈ l, x ≤ 8) (y : Nat) (ey : y = l.foldr (fun x a => 256 * a + x) 0) : y < 2 ^ 60 ∧ (∀ y4, y4 = y + y / 256 → ∀ y5, y5 = y4 + y4 / 65536 → y4 < 2 ^ 61 ∧ y5 < 2 ^ 62 ∧ ∀ y6, y6 = y5 + y5 / 4294967296 → y6 < 2 ^ 63 ∧ y6 % 128 = l.foldr (fun x a => a + x) 0) := by
  obtain ⟨a, b, c, d, e, f, g, h, rfl⟩ := p_8 hl
  have h1 := hx a (by simp)
  have h2 := hx b (by simp)
  have h3 := hx c (by simp)
  have h4 := hx d (by simp)
  have h5 := hx e (by simp)
  have h6 := hx f (by simp)
  have h7 := hx g (by simp)
  have h8 := hx h (by simp)
  clear hx hl
  simp only [List.foldr] at ey ⊢
  have ey : y = a + 256 * b + 65536 * c + 16777216 * d + 4294967296 * e + 1099511627776 * f + 281474976710656 * g + 72057594037927936 * h := by omega
  have d1 : y / 256 = b + 256 * c + 65536 * d + 16777216 * e + 4294967296 * f + 1099511627776 * g + 281474976710656 * h := p_d1 (r := a) (by omega) (by omega)
  refine ⟨by omega, fun y4 e4 y5 e5 => ?_⟩
  rw [d1] at e4
  have d2 : y4 / 65536 = (c + d) + 256 * (d + e) + 65536 * (e + f) + 16777216 * (f + g) + 4294967296 * (g + h) + 1099511627776 * h := p_d2 (r := (a + b) + 256 * (b + c)) (by omega) (by omega)
  rw [d2] at e5
  refine ⟨by omega, by omega, fun y6 e6 => ?_⟩
  have d4 : y5 / 4294967296 = (e + f + g + h) + 256 * (f + g + h) + 65536 * (g + h) + 16777216 * h := p_d4 (r := (a + b + c + d) + 256 * (b + c + d + e) + 65536 * (c + d + e + f) + 16777216 * (d + e + f + g)) (by omega) (by omega)
  rw [d4] at e6
  refine ⟨by omega, ?_⟩
  have s : (((((((0 + h) + g) + f) + e) + d) + c) + b) + a = a + b + c + d + e + f + g + h := by omega
  rw [s]
  exact p_d7 (q := (b + c + d + e) + 256 * (c + d + e + f) + 65536 * (d + e + f + g) + 16777216 * (e + f + g + h) + 4294967296 * (f + g + h) + 1099511627776 * (g + h) + 281474976710656 * h + (f + g + h) + 256 * (g + h) + 65536 * h) (by omega) (by omega)
end
section
/-! Calls where the callee gets the whole world, or none; a value renamed. -/
abbrev g_Pre (D : va_G) (cl : List vw_C) (tys : List (ClassId × FieldType)) (w : va_W) (sz : Nat) : State → Prop := fun U => U.heap.size = sz ∧ va_P D cl w U.heap ∧ va_K D cl tys U ∧ va_D (fun _ => True) w
abbrev g_At (D : va_G) (cl : List vw_C) (tys : List (ClassId × FieldType)) (A : Nat → Prop) {S : Type} (wu : S → va_W) (u : S) (t : State) : Prop := va_P D cl (wu u) t.heap ∧ va_K D cl tys t ∧ va_D A (wu u)
theorem g_blind {av : List Value} {D : va_G} {cl : List vw_C} {tys : List (ClassId × FieldType)} {w : va_W} {sz : Nat} : FrameBlind (va_Pc av (g_Pre D cl tys w sz)) := fun a U g mk q => by
  obtain ⟨q0, q1, qP, qK, qD⟩ := q
  exact ⟨q0, q1, qP, va_K.moved (u := U) (U := U.calling g mk a) (Vm.Alike.refl U.vm) qK, qD⟩
theorem g_free {A : Nat → Prop} {w : va_W} {H0 H : Heap} {locs : List Loc} (hD : va_D A w) (hS : va_S A H0 H locs) (hA : ∀ q, H0.size ≤ q → A q) : ∀ q, va_A w H.size q → A q := fun q h => by
  rcases h with ⟨k, e, h⟩ | h
  · exact hD.2 k _ h
  · exact hA q (Nat.le_trans hS.1 h)
section GC
variable {p : Program} {l : Launch} {e : Env} {R : Room} {s : State} {m : MethodId} {args : Array Value} {below : List Frame} {meth : Method} {c : Code} {H : Heap} {locs : List Loc} {cells slots : Nat} {Q : State → Prop}
variable {cc bytes : ByteArray} {pc nL n index maxL mc ms : Nat} {ret : Option FieldType} {ls : Array Slot} {rest st0 As : List Value} {A : Nat → Prop} {H0 : Heap} {D : va_G} {cl : List vw_C} {tys : List (ClassId × FieldType)} {S : Type} {wu : S → va_W} {w : va_W} {ws Ts : List Cond} {rm : Room} {y : MethodName} {own C : String} {T : u_T} {b ci q0 N : Nat} {fs : List Value}
theorem x_topi {x y : Int32} (h : x = y) (k : W p l e R s m args below meth c H locs cells slots Q (F0 m pc ls (.int y :: rest))) : W p l e R s m args below meth c H locs cells slots Q (F0 m pc ls (.int x :: rest)) := h ▸ k
theorem x_topl {x y : Int64} (h : x = y) (k : W p l e R s m args below meth c H locs cells slots Q (F0 m pc ls (.long y :: rest))) : W p l e R s m args below meth c H locs cells slots Q (F0 m pc ls (.long x :: rest)) := h ▸ k
theorem g_calli {post : Int32 → S → Prop} (S0 : CallFix p m c cc nL s args Ts own) (hM : Met l y ws rm (va_Pc (.ref b :: As) (g_Pre D cl tys w H.size)) (va_Qi post (g_At D cl tys (va_A w H.size) wu) (va_A w H.size)) mc ms (va_A w H.size))
    (cw : CallW R s args own C index y bytes maxL ret ws rm mc ms n) (hK : va_K D cl tys s) (hP : va_P D cl w H) (hD : va_D A w) (hS : va_S A H0 H locs) (hA : ∀ q, H0.size ≤ q → A q) (hc : cl[ci]? = some (C, T, N)) (he : w[q0]? = some (b, .inr (ci, fs)))
    (hn : As.length = n) (hsize : ls.size = nL) (hstack : st0 = As.reverse ++ .ref b :: rest) (hW : (rest.map fun v => v.category).sum ≤ 8) (hdg : decode cc pc = .ok (.invokevirtual index, 3)) (hf : cells + mc ≤ R.cells ∧ slots + ms ≤ R.slots)
    (kk : ∀ (r : Int32) (u : S) (H1 : Heap) (locs1 : List Loc), post r u → va_P D cl (wu u) H1 → va_D A (wu u) → va_S A H0 H1 locs1 → W p l e R s m args below meth c H1 locs1 (cells + mc) (slots + ms) Q (F0 m (pc + 3) ls (.int r :: rest))) : W p l e R s m args below meth c H locs cells slots Q (F0 m pc ls st0) := by
  have hF := g_free hD hS hA
  refine va_calli (va_runV S0 hM cw ⟨g_blind, va_recv hK hP hc he, fun U hU hW => ⟨rfl, by rw [hU], by rw [hU]; exact hP, va_K.moved hW.alike hK, hD.weaken (fun _ _ _ _ => trivial)⟩⟩ rfl hn hsize hstack (lv_room hW) hdg hf) hS (fun q _ h => hF q h) hF (fun r u t H1 locs1 ht hvm hw hB hz hk hS => ?_)
  obtain ⟨hP1, hK1, hD1⟩ := hB
  rw [ht] at hP1
  exact kk r u H1 locs1 hw hP1 (hD1.weaken (fun _ _ _ h => hF _ h)) hS
theorem g_calll {post : Int64 → S → Prop} (S0 : CallFix p m c cc nL s args Ts own) (hM : Met l y ws rm (va_Pc (.ref b :: As) (g_Pre D cl tys w H.size)) (va_Ql post (g_At D cl tys (va_A w H.size) wu) (va_A w H.size)) mc ms (va_A w H.size))
    (cw : CallW R s args own C index y bytes maxL ret ws rm mc ms n) (hK : va_K D cl tys s) (hP : va_P D cl w H) (hD : va_D A w) (hS : va_S A H0 H locs) (hA : ∀ q, H0.size ≤ q → A q) (hc : cl[ci]? = some (C, T, N)) (he : w[q0]? = some (b, .inr (ci, fs)))
    (hn : As.length = n) (hsize : ls.size = nL) (hstack : st0 = As.reverse ++ .ref b :: rest) (hW : (rest.map fun v => v.category).sum ≤ 8) (hdg : decode cc pc = .ok (.invokevirtual index, 3)) (hf : cells + mc ≤ R.cells ∧ slots + ms ≤ R.slots)
    (kk : ∀ (r : Int64) (u : S) (H1 : Heap) (locs1 : List Loc), post r u → va_P D cl (wu u) H1 → va_D A (wu u) → va_S A H0 H1 locs1 → W p l e R s m args below meth c H1 locs1 (cells + mc) (slots + ms) Q (F0 m (pc + 3) ls (.long r :: rest))) : W p l e R s m args below meth c H locs cells slots Q (F0 m pc ls st0) := by
  have hF := g_free hD hS hA
  refine va_calll (va_runV S0 hM cw ⟨g_blind, va_recv hK hP hc he, fun U hU hW => ⟨rfl, by rw [hU], by rw [hU]; exact hP, va_K.moved hW.alike hK, hD.weaken (fun _ _ _ _ => trivial)⟩⟩ rfl hn hsize hstack (lv_room hW) hdg hf) hS (fun q _ h => hF q h) hF (fun r u t H1 locs1 ht hvm hw hB hz hk hS => ?_)
  obtain ⟨hP1, hK1, hD1⟩ := hB
  rw [ht] at hP1
  exact kk r u H1 locs1 hw hP1 (hD1.weaken (fun _ _ _ h => hF _ h)) hS
theorem g_callv {post : S → Prop} (S0 : CallFix p m c cc nL s args Ts own) (hM : Met l y ws rm (va_Pc (.ref b :: As) (g_Pre D cl tys w H.size)) (va_Qv post (g_At D cl tys (va_A w H.size) wu) (va_A w H.size)) mc ms (va_A w H.size))
    (cw : CallW R s args own C index y bytes maxL ret ws rm mc ms n) (hK : va_K D cl tys s) (hP : va_P D cl w H) (hD : va_D A w) (hS : va_S A H0 H locs) (hA : ∀ q, H0.size ≤ q → A q) (hc : cl[ci]? = some (C, T, N)) (he : w[q0]? = some (b, .inr (ci, fs)))
    (hn : As.length = n) (hsize : ls.size = nL) (hstack : st0 = As.reverse ++ .ref b :: rest) (hW : (rest.map fun v => v.category).sum ≤ 8) (hdg : decode cc pc = .ok (.invokevirtual index, 3)) (hf : cells + mc ≤ R.cells ∧ slots + ms ≤ R.slots)
    (kk : ∀ (u : S) (H1 : Heap) (locs1 : List Loc), post u → va_P D cl (wu u) H1 → va_D A (wu u) → va_S A H0 H1 locs1 → W p l e R s m args below meth c H1 locs1 (cells + mc) (slots + ms) Q (F0 m (pc + 3) ls rest)) : W p l e R s m args below meth c H locs cells slots Q (F0 m pc ls st0) := by
  have hF := g_free hD hS hA
  refine va_callv (va_runV S0 hM cw ⟨g_blind, va_recv hK hP hc he, fun U hU hW => ⟨rfl, by rw [hU], by rw [hU]; exact hP, va_K.moved hW.alike hK, hD.weaken (fun _ _ _ _ => trivial)⟩⟩ rfl hn hsize hstack (lv_room hW) hdg hf) hS (fun q _ h => hF q h) hF (fun u t H1 locs1 ht hvm hw hB hz hk hS => ?_)
  obtain ⟨hP1, hK1, hD1⟩ := hB
  rw [ht] at hP1
  exact kk u H1 locs1 hw hP1 (hD1.weaken (fun _ _ _ h => hF _ h)) hS
/-- a static method that touches no cell -/
def g_No : Nat → Prop := fun _ => False
theorem g_cells {H H1 : Heap} {w : va_W} (hP : va_P D cl w H) (hk : ∀ q : Nat, q < H.size → ¬ g_No q → H1[q]? = H[q]?) : va_P D cl w H1 :=
  hP.kept (fun k q hq => hk q.1 (va_at.lt (hP k q hq)) id)
theorem g_calls {post : Int32 → Unit → Prop} (S0 : CallFix p m c cc nL s args Ts own) (hM : Met l y ws rm (va_Pc As (fun _ => True)) (va_Qi post (fun _ _ => True) g_No) mc ms g_No)
    (cw : CallB R s args own index y bytes maxL ret ws rm mc ms n ∧ (Cond.static y).before args s = true) (hP : va_P D cl w H) (hS : va_S A H0 H locs)
    (hn : As.length = n) (hsize : ls.size = nL) (hstack : st0 = As.reverse ++ rest) (hW : (rest.map fun v => v.category).sum ≤ 8) (hdg : decode cc pc = .ok (.invokestatic index, 3)) (hf : cells + mc ≤ R.cells ∧ slots + ms ≤ R.slots)
    (kk : ∀ (r : Int32) (H1 : Heap) (locs1 : List Loc), post r () → va_P D cl w H1 → va_S A H0 H1 locs1 → W p l e R s m args below meth c H1 locs1 (cells + mc) (slots + ms) Q (F0 m (pc + 3) ls (.int r :: rest))) : W p l e R s m args below meth c H locs cells slots Q (F0 m pc ls st0) := by
  refine va_calli (va_runS S0 hM cw ⟨fun a U g mk q => q, fun U hU hW => ⟨rfl, trivial⟩⟩ rfl hn hsize hstack (lv_room hW) hdg hf) hS (fun q _ h => absurd h id) (fun q h => absurd h id) (fun r u t H1 locs1 ht hvm hw hB hz hk hS => ?_)
  exact kk r H1 locs1 hw (g_cells hP hk) hS
end GC
end
section
/-! What an object of the class is: count, isOpen, ofFirst, ofSecond, targets, surveyed, comesTo, reachedStates, defectKind, defectState, lengths, low, high. -/
abbrev GS : Type := Int32 × (Nat → Int32) × (Nat → Int32) × (Nat → Int32) × (Nat → Int32) × Int32 × (Nat → Int64) × Int64 × Int32 × Int32 × (Nat → Int32) × (Nat → Int32) × (Nat → Int32)
abbrev gw (ad : Nat → Nat) (cz ci cj : ClassId) (u : GS) : va_W := [(ad 0, .inr (0, [.int u.1, .ref (ad 1), .ref (ad 2), .ref (ad 3), .ref (ad 4), .int u.2.2.2.2.2.1, .ref (ad 5), .long u.2.2.2.2.2.2.2.1, .int u.2.2.2.2.2.2.2.2.1, .int u.2.2.2.2.2.2.2.2.2.1, .ref (ad 6), .ref (ad 7), .ref (ad 8)])), (ad 1, .inl (cz, 60, .inl u.2.1)), (ad 2, .inl (ci, 60, .inl u.2.2.1)), (ad 3, .inl (ci, 60, .inl u.2.2.2.1)), (ad 4, .inl (ci, 720, .inl u.2.2.2.2.1)), (ad 5, .inl (cj, 60, .inr (.inl u.2.2.2.2.2.2.1))), (ad 6, .inl (ci, 60, .inl u.2.2.2.2.2.2.2.2.2.2.1)), (ad 7, .inl (ci, 60, .inl u.2.2.2.2.2.2.2.2.2.2.2.1)), (ad 8, .inl (ci, 60, .inl u.2.2.2.2.2.2.2.2.2.2.2.2))]
abbrev gty (cz ci cj : ClassId) : List (ClassId × FieldType) := [(cz, .boolean), (ci, .int), (cj, .long)]
end
section
/-! The words of each call (by tool/calls.py). -/
theorem gi_L_X0_init : GoodIn wAll wX0_init := wAll_G in_X0_init
theorem gv_X0_X0_makeEvenEnds : GoodIn wAll (wsV "GameGraph" 36 "GameGraph" yX0_makeEvenEnds wX0_makeEvenEnds) := wAll_G (List.forall_mem_append.mpr ⟨List.forall_mem_cons.mpr ⟨m_1_12, List.forall_mem_cons.mpr ⟨m_1_13, List.forall_mem_cons.mpr ⟨m_0_0, List.forall_mem_cons.mpr ⟨m_0_34, fun _ h => absurd h List.not_mem_nil⟩⟩⟩⟩, in_X0_makeEvenEnds⟩)
theorem gv_X0_X0_makeState : GoodIn wAll (wsV "GameGraph" 56 "GameGraph" yX0_makeState wX0_makeState) := wAll_G (List.forall_mem_append.mpr ⟨List.forall_mem_cons.mpr ⟨m_1_15, List.forall_mem_cons.mpr ⟨m_1_16, List.forall_mem_cons.mpr ⟨m_0_1, List.forall_mem_cons.mpr ⟨m_0_34, fun _ h => absurd h List.not_mem_nil⟩⟩⟩⟩, in_X0_makeState⟩)
theorem gv_L_X0_reached : GoodIn wAll (wsV "GameGraphLaw" 74 "GameGraph" yX0_reached wX0_reached) := wAll_G (List.forall_mem_append.mpr ⟨List.forall_mem_cons.mpr ⟨m_2_21, List.forall_mem_cons.mpr ⟨m_2_22, List.forall_mem_cons.mpr ⟨m_2_23, List.forall_mem_cons.mpr ⟨m_0_34, fun _ h => absurd h List.not_mem_nil⟩⟩⟩⟩, in_X0_reached⟩)
theorem gv_X0_X0_survey : GoodIn wAll (wsV "GameGraph" 77 "GameGraph" yX0_survey wX0_survey) := wAll_G (List.forall_mem_append.mpr ⟨List.forall_mem_cons.mpr ⟨m_2_25, List.forall_mem_cons.mpr ⟨m_2_26, List.forall_mem_cons.mpr ⟨m_0_2, List.forall_mem_cons.mpr ⟨m_0_34, fun _ h => absurd h List.not_mem_nil⟩⟩⟩⟩, in_X0_survey⟩)
theorem gv_X0_X0_findWhatStatesComeTo : GoodIn wAll (wsV "GameGraph" 136 "GameGraph" yX0_findWhatStatesComeTo wX0_findWhatStatesComeTo) := wAll_G (List.forall_mem_append.mpr ⟨List.forall_mem_cons.mpr ⟨m_2_28, List.forall_mem_cons.mpr ⟨m_2_29, List.forall_mem_cons.mpr ⟨m_0_3, List.forall_mem_cons.mpr ⟨m_0_34, fun _ h => absurd h List.not_mem_nil⟩⟩⟩⟩, in_X0_findWhatStatesComeTo⟩)
theorem gv_X0_X0_goesTo : GoodIn wAll (wsV "GameGraph" 148 "GameGraph" yX0_goesTo wX0_goesTo) := wAll_G (List.forall_mem_append.mpr ⟨List.forall_mem_cons.mpr ⟨m_2_31, List.forall_mem_cons.mpr ⟨m_2_32, List.forall_mem_cons.mpr ⟨m_0_4, List.forall_mem_cons.mpr ⟨m_0_34, fun _ h => absurd h List.not_mem_nil⟩⟩⟩⟩, in_X0_goesTo⟩)
theorem gv_X0_X0_jointMoves : GoodIn wAll (wsV "GameGraph" 120 "GameGraph" yX0_jointMoves wX0_jointMoves) := wAll_G (List.forall_mem_append.mpr ⟨List.forall_mem_cons.mpr ⟨m_2_34, List.forall_mem_cons.mpr ⟨m_2_35, List.forall_mem_cons.mpr ⟨m_0_5, List.forall_mem_cons.mpr ⟨m_0_34, fun _ h => absurd h List.not_mem_nil⟩⟩⟩⟩, in_X0_jointMoves⟩)
theorem gv_X0_X0_target : GoodIn wAll (wsV "GameGraph" 73 "GameGraph" yX0_target wX0_target) := wAll_G (List.forall_mem_append.mpr ⟨List.forall_mem_cons.mpr ⟨m_2_37, List.forall_mem_cons.mpr ⟨m_2_38, List.forall_mem_cons.mpr ⟨m_0_6, List.forall_mem_cons.mpr ⟨m_0_34, fun _ h => absurd h List.not_mem_nil⟩⟩⟩⟩, in_X0_target⟩)
theorem gs_X0_X0_contains : GoodIn wAll (va_wsS "GameGraph" 130 yX0_contains wX0_contains) := wAll_G (List.forall_mem_append.mpr ⟨List.forall_mem_cons.mpr ⟨m_3_0, List.forall_mem_cons.mpr ⟨m_3_1, List.forall_mem_cons.mpr ⟨m_0_34, fun _ h => absurd h List.not_mem_nil⟩⟩⟩, in_X0_contains⟩)
theorem gv_X0_X0_findDefect : GoodIn wAll (wsV "GameGraph" 139 "GameGraph" yX0_findDefect wX0_findDefect) := wAll_G (List.forall_mem_append.mpr ⟨List.forall_mem_cons.mpr ⟨m_3_3, List.forall_mem_cons.mpr ⟨m_3_4, List.forall_mem_cons.mpr ⟨m_0_7, List.forall_mem_cons.mpr ⟨m_0_34, fun _ h => absurd h List.not_mem_nil⟩⟩⟩⟩, in_X0_findDefect⟩)
theorem gv_X0_X0_defectOfOpen : GoodIn wAll (wsV "GameGraph" 152 "GameGraph" yX0_defectOfOpen wX0_defectOfOpen) := wAll_G (List.forall_mem_append.mpr ⟨List.forall_mem_cons.mpr ⟨m_3_6, List.forall_mem_cons.mpr ⟨m_3_7, List.forall_mem_cons.mpr ⟨m_0_8, List.forall_mem_cons.mpr ⟨m_0_34, fun _ h => absurd h List.not_mem_nil⟩⟩⟩⟩, in_X0_defectOfOpen⟩)
theorem gv_X0_X0_defectOfEnd : GoodIn wAll (wsV "GameGraph" 155 "GameGraph" yX0_defectOfEnd wX0_defectOfEnd) := wAll_G (List.forall_mem_append.mpr ⟨List.forall_mem_cons.mpr ⟨m_3_9, List.forall_mem_cons.mpr ⟨m_3_10, List.forall_mem_cons.mpr ⟨m_0_9, List.forall_mem_cons.mpr ⟨m_0_34, fun _ h => absurd h List.not_mem_nil⟩⟩⟩⟩, in_X0_defectOfEnd⟩)
theorem gv_X0_X0_noteDefect : GoodIn wAll (wsV "GameGraph" 158 "GameGraph" yX0_noteDefect wX0_noteDefect) := wAll_G (List.forall_mem_append.mpr ⟨List.forall_mem_cons.mpr ⟨m_3_12, List.forall_mem_cons.mpr ⟨m_3_13, List.forall_mem_cons.mpr ⟨m_0_10, List.forall_mem_cons.mpr ⟨m_0_34, fun _ h => absurd h List.not_mem_nil⟩⟩⟩⟩, in_X0_noteDefect⟩)
theorem gv_X0_X0_findLengths : GoodIn wAll (wsV "GameGraph" 142 "GameGraph" yX0_findLengths wX0_findLengths) := wAll_G (List.forall_mem_append.mpr ⟨List.forall_mem_cons.mpr ⟨m_3_15, List.forall_mem_cons.mpr ⟨m_3_16, List.forall_mem_cons.mpr ⟨m_0_11, List.forall_mem_cons.mpr ⟨m_0_34, fun _ h => absurd h List.not_mem_nil⟩⟩⟩⟩, in_X0_findLengths⟩)
theorem gv_X0_X0_boundValues : GoodIn wAll (wsV "GameGraph" 145 "GameGraph" yX0_boundValues wX0_boundValues) := wAll_G (List.forall_mem_append.mpr ⟨List.forall_mem_cons.mpr ⟨m_3_19, List.forall_mem_cons.mpr ⟨m_3_20, List.forall_mem_cons.mpr ⟨m_0_12, List.forall_mem_cons.mpr ⟨m_0_34, fun _ h => absurd h List.not_mem_nil⟩⟩⟩⟩, in_X0_boundValues⟩)
theorem gs_X0_J_bitCount : GoodIn wAll (va_wsS "GameGraph" 84 yJ_bitCount wJ_bitCount) := wAll_G (List.forall_mem_append.mpr ⟨List.forall_mem_cons.mpr ⟨m_3_22, List.forall_mem_cons.mpr ⟨m_3_23, List.forall_mem_cons.mpr ⟨m_1_1, fun _ h => absurd h List.not_mem_nil⟩⟩⟩, in_J_bitCount⟩)
theorem gs_L_L_states : GoodIn wAll (va_wsS "GameGraphLaw" 50 yL_states wL_states) := wAll_G (List.forall_mem_append.mpr ⟨List.forall_mem_cons.mpr ⟨m_3_28, List.forall_mem_cons.mpr ⟨m_3_29, List.forall_mem_cons.mpr ⟨m_0_33, fun _ h => absurd h List.not_mem_nil⟩⟩⟩, in_L_states⟩)
theorem gv_L_X0_states : GoodIn wAll (wsV "GameGraphLaw" 7 "GameGraph" yX0_states wX0_states) := wAll_G (List.forall_mem_append.mpr ⟨List.forall_mem_cons.mpr ⟨m_3_32, List.forall_mem_cons.mpr ⟨m_3_33, List.forall_mem_cons.mpr ⟨m_3_34, List.forall_mem_cons.mpr ⟨m_0_34, fun _ h => absurd h List.not_mem_nil⟩⟩⟩⟩, in_X0_states⟩)
theorem gs_L_L_end : GoodIn wAll (va_wsS "GameGraphLaw" 60 yL_end wL_end) := wAll_G (List.forall_mem_append.mpr ⟨List.forall_mem_cons.mpr ⟨m_5_13, List.forall_mem_cons.mpr ⟨m_5_14, List.forall_mem_cons.mpr ⟨m_0_33, fun _ h => absurd h List.not_mem_nil⟩⟩⟩, in_L_end⟩)
theorem gv_L_X0_end : GoodIn wAll (wsV "GameGraphLaw" 15 "GameGraph" yX0_end wX0_end) := wAll_G (List.forall_mem_append.mpr ⟨List.forall_mem_cons.mpr ⟨m_5_17, List.forall_mem_cons.mpr ⟨m_5_18, List.forall_mem_cons.mpr ⟨m_5_19, List.forall_mem_cons.mpr ⟨m_0_34, fun _ h => absurd h List.not_mem_nil⟩⟩⟩⟩, in_X0_end⟩)
theorem gv_X0_X0_requireState : GoodIn wAll (wsV "GameGraph" 47 "GameGraph" yX0_requireState wX0_requireState) := wAll_G (List.forall_mem_append.mpr ⟨List.forall_mem_cons.mpr ⟨m_5_21, List.forall_mem_cons.mpr ⟨m_5_22, List.forall_mem_cons.mpr ⟨m_0_14, List.forall_mem_cons.mpr ⟨m_0_34, fun _ h => absurd h List.not_mem_nil⟩⟩⟩⟩, in_X0_requireState⟩)
theorem gv_X0_X0_hasState : GoodIn wAll (wsV "GameGraph" 112 "GameGraph" yX0_hasState wX0_hasState) := wAll_G (List.forall_mem_append.mpr ⟨List.forall_mem_cons.mpr ⟨m_5_24, List.forall_mem_cons.mpr ⟨m_5_25, List.forall_mem_cons.mpr ⟨m_0_15, List.forall_mem_cons.mpr ⟨m_0_34, fun _ h => absurd h List.not_mem_nil⟩⟩⟩⟩, in_X0_hasState⟩)
theorem gs_X0_X0_isGoal : GoodIn wAll (va_wsS "GameGraph" 50 yX0_isGoal wX0_isGoal) := wAll_G (List.forall_mem_append.mpr ⟨List.forall_mem_cons.mpr ⟨m_6_1, List.forall_mem_cons.mpr ⟨m_6_2, List.forall_mem_cons.mpr ⟨m_0_34, fun _ h => absurd h List.not_mem_nil⟩⟩⟩, in_X0_isGoal⟩)
theorem gs_L_L_open : GoodIn wAll (va_wsS "GameGraphLaw" 64 yL_open wL_open) := wAll_G (List.forall_mem_append.mpr ⟨List.forall_mem_cons.mpr ⟨m_6_4, List.forall_mem_cons.mpr ⟨m_6_5, List.forall_mem_cons.mpr ⟨m_0_33, fun _ h => absurd h List.not_mem_nil⟩⟩⟩, in_L_open⟩)
theorem gv_L_X0_open : GoodIn wAll (wsV "GameGraphLaw" 21 "GameGraph" yX0_open wX0_open) := wAll_G (List.forall_mem_append.mpr ⟨List.forall_mem_cons.mpr ⟨m_6_7, List.forall_mem_cons.mpr ⟨m_6_8, List.forall_mem_cons.mpr ⟨m_6_9, List.forall_mem_cons.mpr ⟨m_0_34, fun _ h => absurd h List.not_mem_nil⟩⟩⟩⟩, in_X0_open⟩)
theorem gs_X0_X0_isNumberOfMoves : GoodIn wAll (va_wsS "GameGraph" 60 yX0_isNumberOfMoves wX0_isNumberOfMoves) := wAll_G (List.forall_mem_append.mpr ⟨List.forall_mem_cons.mpr ⟨m_6_11, List.forall_mem_cons.mpr ⟨m_6_12, List.forall_mem_cons.mpr ⟨m_0_34, fun _ h => absurd h List.not_mem_nil⟩⟩⟩, in_X0_isNumberOfMoves⟩)
theorem gs_L_L_link : GoodIn wAll (va_wsS "GameGraphLaw" 67 yL_link wL_link) := wAll_G (List.forall_mem_append.mpr ⟨List.forall_mem_cons.mpr ⟨m_6_14, List.forall_mem_cons.mpr ⟨m_6_15, List.forall_mem_cons.mpr ⟨m_0_33, fun _ h => absurd h List.not_mem_nil⟩⟩⟩, in_L_link⟩)
theorem gv_L_X0_link : GoodIn wAll (wsV "GameGraphLaw" 24 "GameGraph" yX0_link wX0_link) := wAll_G (List.forall_mem_append.mpr ⟨List.forall_mem_cons.mpr ⟨m_6_17, List.forall_mem_cons.mpr ⟨m_6_18, List.forall_mem_cons.mpr ⟨m_6_19, List.forall_mem_cons.mpr ⟨m_0_34, fun _ h => absurd h List.not_mem_nil⟩⟩⟩⟩, in_X0_link⟩)
theorem gv_X0_X0_requireJointMove : GoodIn wAll (wsV "GameGraph" 65 "GameGraph" yX0_requireJointMove wX0_requireJointMove) := wAll_G (List.forall_mem_append.mpr ⟨List.forall_mem_cons.mpr ⟨m_6_21, List.forall_mem_cons.mpr ⟨m_6_22, List.forall_mem_cons.mpr ⟨m_0_16, List.forall_mem_cons.mpr ⟨m_0_34, fun _ h => absurd h List.not_mem_nil⟩⟩⟩⟩, in_X0_requireJointMove⟩)
theorem gs_L_L_next : GoodIn wAll (va_wsS "GameGraphLaw" 70 yL_next wL_next) := wAll_G (List.forall_mem_append.mpr ⟨List.forall_mem_cons.mpr ⟨m_6_24, List.forall_mem_cons.mpr ⟨m_6_25, List.forall_mem_cons.mpr ⟨m_0_33, fun _ h => absurd h List.not_mem_nil⟩⟩⟩, in_L_next⟩)
theorem gv_L_X0_next : GoodIn wAll (wsV "GameGraphLaw" 27 "GameGraph" yX0_next wX0_next) := wAll_G (List.forall_mem_append.mpr ⟨List.forall_mem_cons.mpr ⟨m_6_27, List.forall_mem_cons.mpr ⟨m_6_28, List.forall_mem_cons.mpr ⟨m_6_29, List.forall_mem_cons.mpr ⟨m_0_34, fun _ h => absurd h List.not_mem_nil⟩⟩⟩⟩, in_X0_next⟩)
theorem gs_L_L_defect : GoodIn wAll (va_wsS "GameGraphLaw" 78 yL_defect wL_defect) := wAll_G (List.forall_mem_append.mpr ⟨List.forall_mem_cons.mpr ⟨m_6_31, List.forall_mem_cons.mpr ⟨m_6_32, List.forall_mem_cons.mpr ⟨m_0_33, fun _ h => absurd h List.not_mem_nil⟩⟩⟩, in_L_defect⟩)
theorem gv_L_X0_defect : GoodIn wAll (wsV "GameGraphLaw" 31 "GameGraph" yX0_defect wX0_defect) := wAll_G (List.forall_mem_append.mpr ⟨List.forall_mem_cons.mpr ⟨m_6_34, List.forall_mem_cons.mpr ⟨m_6_35, List.forall_mem_cons.mpr ⟨m_6_36, List.forall_mem_cons.mpr ⟨m_0_34, fun _ h => absurd h List.not_mem_nil⟩⟩⟩⟩, in_X0_defect⟩)
theorem gs_L_L_value : GoodIn wAll (va_wsS "GameGraphLaw" 82 yL_value wL_value) := wAll_G (List.forall_mem_append.mpr ⟨List.forall_mem_cons.mpr ⟨m_6_38, List.forall_mem_cons.mpr ⟨m_6_39, List.forall_mem_cons.mpr ⟨m_0_33, fun _ h => absurd h List.not_mem_nil⟩⟩⟩, in_L_value⟩)
theorem gv_L_X0_value : GoodIn wAll (wsV "GameGraphLaw" 35 "GameGraph" yX0_value wX0_value) := wAll_G (List.forall_mem_append.mpr ⟨List.forall_mem_cons.mpr ⟨m_7_2, List.forall_mem_cons.mpr ⟨m_7_3, List.forall_mem_cons.mpr ⟨m_7_4, List.forall_mem_cons.mpr ⟨m_0_34, fun _ h => absurd h List.not_mem_nil⟩⟩⟩⟩, in_X0_value⟩)
theorem gv_X0_X0_requireValued : GoodIn wAll (wsV "GameGraph" 99 "GameGraph" yX0_requireValued wX0_requireValued) := wAll_G (List.forall_mem_append.mpr ⟨List.forall_mem_cons.mpr ⟨m_7_6, List.forall_mem_cons.mpr ⟨m_7_7, List.forall_mem_cons.mpr ⟨m_0_17, List.forall_mem_cons.mpr ⟨m_0_34, fun _ h => absurd h List.not_mem_nil⟩⟩⟩⟩, in_X0_requireValued⟩)
theorem gv_X0_X0_findValue : GoodIn wAll (wsV "GameGraph" 102 "GameGraph" yX0_findValue wX0_findValue) := wAll_G (List.forall_mem_append.mpr ⟨List.forall_mem_cons.mpr ⟨m_7_23, List.forall_mem_cons.mpr ⟨m_7_24, List.forall_mem_cons.mpr ⟨m_0_18, List.forall_mem_cons.mpr ⟨m_0_34, fun _ h => absurd h List.not_mem_nil⟩⟩⟩⟩, in_X0_findValue⟩)
theorem gv_X0_X0_search : GoodIn wAll (wsV "GameGraph" 163 "GameGraph" yX0_search wX0_search) := wAll_G (List.forall_mem_append.mpr ⟨List.forall_mem_cons.mpr ⟨m_7_26, List.forall_mem_cons.mpr ⟨m_7_27, List.forall_mem_cons.mpr ⟨m_0_19, List.forall_mem_cons.mpr ⟨m_0_34, fun _ h => absurd h List.not_mem_nil⟩⟩⟩⟩, in_X0_search⟩)
theorem gv_X0_X0_greatest : GoodIn wAll (wsV "GameGraph" 167 "GameGraph" yX0_greatest wX0_greatest) := wAll_G (List.forall_mem_append.mpr ⟨List.forall_mem_cons.mpr ⟨m_7_29, List.forall_mem_cons.mpr ⟨m_7_30, List.forall_mem_cons.mpr ⟨m_0_20, List.forall_mem_cons.mpr ⟨m_0_34, fun _ h => absurd h List.not_mem_nil⟩⟩⟩⟩, in_X0_greatest⟩)
theorem gv_X0_X0_least : GoodIn wAll (wsV "GameGraph" 170 "GameGraph" yX0_least wX0_least) := wAll_G (List.forall_mem_append.mpr ⟨List.forall_mem_cons.mpr ⟨m_7_35, List.forall_mem_cons.mpr ⟨m_7_36, List.forall_mem_cons.mpr ⟨m_0_21, List.forall_mem_cons.mpr ⟨m_0_34, fun _ h => absurd h List.not_mem_nil⟩⟩⟩⟩, in_X0_least⟩)
theorem gs_L_L_best : GoodIn wAll (va_wsS "GameGraphLaw" 85 yL_best wL_best) := wAll_G (List.forall_mem_append.mpr ⟨List.forall_mem_cons.mpr ⟨m_8_1, List.forall_mem_cons.mpr ⟨m_8_2, List.forall_mem_cons.mpr ⟨m_0_33, fun _ h => absurd h List.not_mem_nil⟩⟩⟩, in_L_best⟩)
theorem gv_L_X0_best : GoodIn wAll (wsV "GameGraphLaw" 40 "GameGraph" yX0_best wX0_best) := wAll_G (List.forall_mem_append.mpr ⟨List.forall_mem_cons.mpr ⟨m_8_4, List.forall_mem_cons.mpr ⟨m_8_5, List.forall_mem_cons.mpr ⟨m_8_6, List.forall_mem_cons.mpr ⟨m_0_34, fun _ h => absurd h List.not_mem_nil⟩⟩⟩⟩, in_X0_best⟩)
theorem gv_X0_X0_findBest : GoodIn wAll (wsV "GameGraph" 106 "GameGraph" yX0_findBest wX0_findBest) := wAll_G (List.forall_mem_append.mpr ⟨List.forall_mem_cons.mpr ⟨m_8_8, List.forall_mem_cons.mpr ⟨m_8_9, List.forall_mem_cons.mpr ⟨m_0_22, List.forall_mem_cons.mpr ⟨m_0_34, fun _ h => absurd h List.not_mem_nil⟩⟩⟩⟩, in_X0_findBest⟩)
theorem gs_L_L_length : GoodIn wAll (va_wsS "GameGraphLaw" 88 yL_length wL_length) := wAll_G (List.forall_mem_append.mpr ⟨List.forall_mem_cons.mpr ⟨m_8_11, List.forall_mem_cons.mpr ⟨m_8_12, List.forall_mem_cons.mpr ⟨m_0_33, fun _ h => absurd h List.not_mem_nil⟩⟩⟩, in_L_length⟩)
theorem gv_L_X0_length : GoodIn wAll (wsV "GameGraphLaw" 43 "GameGraph" yX0_length wX0_length) := wAll_G (List.forall_mem_append.mpr ⟨List.forall_mem_cons.mpr ⟨m_8_14, List.forall_mem_cons.mpr ⟨m_8_15, List.forall_mem_cons.mpr ⟨m_8_16, List.forall_mem_cons.mpr ⟨m_0_34, fun _ h => absurd h List.not_mem_nil⟩⟩⟩⟩, in_X0_length⟩)
theorem gi_L_X1_init : GoodIn wAll wX1_init := wAll_G in_X1_init
theorem gv_L_X1_thrown : GoodIn wAll (wsV "GameGraphLaw" 56 "GameGraphModel" yX1_thrown wX1_thrown) := wAll_G (List.forall_mem_append.mpr ⟨List.forall_mem_cons.mpr ⟨m_9_24, List.forall_mem_cons.mpr ⟨m_9_25, List.forall_mem_cons.mpr ⟨m_9_26, List.forall_mem_cons.mpr ⟨m_0_35, fun _ h => absurd h List.not_mem_nil⟩⟩⟩⟩, in_X1_thrown⟩)
theorem gv_L_X1_states : GoodIn wAll (wsV "GameGraphLaw" 55 "GameGraphModel" yX1_states wX1_states) := wAll_G (List.forall_mem_append.mpr ⟨List.forall_mem_cons.mpr ⟨m_9_28, List.forall_mem_cons.mpr ⟨m_9_29, List.forall_mem_cons.mpr ⟨m_9_30, List.forall_mem_cons.mpr ⟨m_0_35, fun _ h => absurd h List.not_mem_nil⟩⟩⟩⟩, in_X1_states⟩)
theorem gv_L_X1_end : GoodIn wAll (wsV "GameGraphLaw" 63 "GameGraphModel" yX1_end wX1_end) := wAll_G (List.forall_mem_append.mpr ⟨List.forall_mem_cons.mpr ⟨m_9_32, List.forall_mem_cons.mpr ⟨m_9_33, List.forall_mem_cons.mpr ⟨m_9_34, List.forall_mem_cons.mpr ⟨m_0_35, fun _ h => absurd h List.not_mem_nil⟩⟩⟩⟩, in_X1_end⟩)
theorem gv_X1_X1_isState : GoodIn wAll (wsV "GameGraphModel" 51 "GameGraphModel" yX1_isState wX1_isState) := wAll_G (List.forall_mem_append.mpr ⟨List.forall_mem_cons.mpr ⟨m_9_36, List.forall_mem_cons.mpr ⟨m_9_37, List.forall_mem_cons.mpr ⟨m_0_23, List.forall_mem_cons.mpr ⟨m_0_35, fun _ h => absurd h List.not_mem_nil⟩⟩⟩⟩, in_X1_isState⟩)
theorem gv_L_X1_open : GoodIn wAll (wsV "GameGraphLaw" 66 "GameGraphModel" yX1_open wX1_open) := wAll_G (List.forall_mem_append.mpr ⟨List.forall_mem_cons.mpr ⟨m_9_39, List.forall_mem_cons.mpr ⟨m_10_0, List.forall_mem_cons.mpr ⟨m_10_1, List.forall_mem_cons.mpr ⟨m_0_35, fun _ h => absurd h List.not_mem_nil⟩⟩⟩⟩, in_X1_open⟩)
theorem gs_X1_X1_isMany : GoodIn wAll (va_wsS "GameGraphModel" 55 yX1_isMany wX1_isMany) := wAll_G (List.forall_mem_append.mpr ⟨List.forall_mem_cons.mpr ⟨m_10_3, List.forall_mem_cons.mpr ⟨m_10_4, List.forall_mem_cons.mpr ⟨m_0_35, fun _ h => absurd h List.not_mem_nil⟩⟩⟩, in_X1_isMany⟩)
theorem gv_L_X1_link : GoodIn wAll (wsV "GameGraphLaw" 69 "GameGraphModel" yX1_link wX1_link) := wAll_G (List.forall_mem_append.mpr ⟨List.forall_mem_cons.mpr ⟨m_10_6, List.forall_mem_cons.mpr ⟨m_10_7, List.forall_mem_cons.mpr ⟨m_10_8, List.forall_mem_cons.mpr ⟨m_0_35, fun _ h => absurd h List.not_mem_nil⟩⟩⟩⟩, in_X1_link⟩)
theorem gv_X1_X1_isJoint : GoodIn wAll (wsV "GameGraphModel" 62 "GameGraphModel" yX1_isJoint wX1_isJoint) := wAll_G (List.forall_mem_append.mpr ⟨List.forall_mem_cons.mpr ⟨m_10_10, List.forall_mem_cons.mpr ⟨m_10_11, List.forall_mem_cons.mpr ⟨m_0_24, List.forall_mem_cons.mpr ⟨m_0_35, fun _ h => absurd h List.not_mem_nil⟩⟩⟩⟩, in_X1_isJoint⟩)
theorem gv_X1_X1_joint : GoodIn wAll (wsV "GameGraphModel" 58 "GameGraphModel" yX1_joint wX1_joint) := wAll_G (List.forall_mem_append.mpr ⟨List.forall_mem_cons.mpr ⟨m_10_13, List.forall_mem_cons.mpr ⟨m_10_14, List.forall_mem_cons.mpr ⟨m_0_25, List.forall_mem_cons.mpr ⟨m_0_35, fun _ h => absurd h List.not_mem_nil⟩⟩⟩⟩, in_X1_joint⟩)
theorem gv_L_X1_next : GoodIn wAll (wsV "GameGraphLaw" 73 "GameGraphModel" yX1_next wX1_next) := wAll_G (List.forall_mem_append.mpr ⟨List.forall_mem_cons.mpr ⟨m_10_16, List.forall_mem_cons.mpr ⟨m_10_17, List.forall_mem_cons.mpr ⟨m_10_18, List.forall_mem_cons.mpr ⟨m_0_35, fun _ h => absurd h List.not_mem_nil⟩⟩⟩⟩, in_X1_next⟩)
theorem gv_L_X1_reached : GoodIn wAll (wsV "GameGraphLaw" 77 "GameGraphModel" yX1_reached wX1_reached) := wAll_G (List.forall_mem_append.mpr ⟨List.forall_mem_cons.mpr ⟨m_10_20, List.forall_mem_cons.mpr ⟨m_10_21, List.forall_mem_cons.mpr ⟨m_10_22, List.forall_mem_cons.mpr ⟨m_0_35, fun _ h => absurd h List.not_mem_nil⟩⟩⟩⟩, in_X1_reached⟩)
theorem gv_X1_X1_reach : GoodIn wAll (wsV "GameGraphModel" 70 "GameGraphModel" yX1_reach wX1_reach) := wAll_G (List.forall_mem_append.mpr ⟨List.forall_mem_cons.mpr ⟨m_10_24, List.forall_mem_cons.mpr ⟨m_10_25, List.forall_mem_cons.mpr ⟨m_0_26, List.forall_mem_cons.mpr ⟨m_0_35, fun _ h => absurd h List.not_mem_nil⟩⟩⟩⟩, in_X1_reach⟩)
theorem gv_X1_X1_spread : GoodIn wAll (wsV "GameGraphModel" 66 "GameGraphModel" yX1_spread wX1_spread) := wAll_G (List.forall_mem_append.mpr ⟨List.forall_mem_cons.mpr ⟨m_10_27, List.forall_mem_cons.mpr ⟨m_10_28, List.forall_mem_cons.mpr ⟨m_0_27, List.forall_mem_cons.mpr ⟨m_0_35, fun _ h => absurd h List.not_mem_nil⟩⟩⟩⟩, in_X1_spread⟩)
theorem gv_L_X1_defect : GoodIn wAll (wsV "GameGraphLaw" 81 "GameGraphModel" yX1_defect wX1_defect) := wAll_G (List.forall_mem_append.mpr ⟨List.forall_mem_cons.mpr ⟨m_10_30, List.forall_mem_cons.mpr ⟨m_10_31, List.forall_mem_cons.mpr ⟨m_10_32, List.forall_mem_cons.mpr ⟨m_0_35, fun _ h => absurd h List.not_mem_nil⟩⟩⟩⟩, in_X1_defect⟩)
theorem gv_X1_X1_defective : GoodIn wAll (wsV "GameGraphModel" 79 "GameGraphModel" yX1_defective wX1_defective) := wAll_G (List.forall_mem_append.mpr ⟨List.forall_mem_cons.mpr ⟨m_10_34, List.forall_mem_cons.mpr ⟨m_10_35, List.forall_mem_cons.mpr ⟨m_0_28, List.forall_mem_cons.mpr ⟨m_0_35, fun _ h => absurd h List.not_mem_nil⟩⟩⟩⟩, in_X1_defective⟩)
theorem gv_X1_X1_own : GoodIn wAll (wsV "GameGraphModel" 73 "GameGraphModel" yX1_own wX1_own) := wAll_G (List.forall_mem_append.mpr ⟨List.forall_mem_cons.mpr ⟨m_10_37, List.forall_mem_cons.mpr ⟨m_10_38, List.forall_mem_cons.mpr ⟨m_0_29, List.forall_mem_cons.mpr ⟨m_0_35, fun _ h => absurd h List.not_mem_nil⟩⟩⟩⟩, in_X1_own⟩)
theorem gv_X1_X1_comesAgain : GoodIn wAll (wsV "GameGraphModel" 76 "GameGraphModel" yX1_comesAgain wX1_comesAgain) := wAll_G (List.forall_mem_append.mpr ⟨List.forall_mem_cons.mpr ⟨m_11_0, List.forall_mem_cons.mpr ⟨m_11_1, List.forall_mem_cons.mpr ⟨m_0_30, List.forall_mem_cons.mpr ⟨m_0_35, fun _ h => absurd h List.not_mem_nil⟩⟩⟩⟩, in_X1_comesAgain⟩)
theorem gv_L_X1_value : GoodIn wAll (wsV "GameGraphLaw" 84 "GameGraphModel" yX1_value wX1_value) := wAll_G (List.forall_mem_append.mpr ⟨List.forall_mem_cons.mpr ⟨m_11_3, List.forall_mem_cons.mpr ⟨m_11_4, List.forall_mem_cons.mpr ⟨m_11_5, List.forall_mem_cons.mpr ⟨m_0_35, fun _ h => absurd h List.not_mem_nil⟩⟩⟩⟩, in_X1_value⟩)
theorem gv_X1_X1_asked : GoodIn wAll (wsV "GameGraphModel" 87 "GameGraphModel" yX1_asked wX1_asked) := wAll_G (List.forall_mem_append.mpr ⟨List.forall_mem_cons.mpr ⟨m_11_7, List.forall_mem_cons.mpr ⟨m_11_8, List.forall_mem_cons.mpr ⟨m_0_31, List.forall_mem_cons.mpr ⟨m_0_35, fun _ h => absurd h List.not_mem_nil⟩⟩⟩⟩, in_X1_asked⟩)
theorem gv_X1_X1_learn : GoodIn wAll (wsV "GameGraphModel" 83 "GameGraphModel" yX1_learn wX1_learn) := wAll_G (List.forall_mem_append.mpr ⟨List.forall_mem_cons.mpr ⟨m_11_10, List.forall_mem_cons.mpr ⟨m_11_11, List.forall_mem_cons.mpr ⟨m_0_32, List.forall_mem_cons.mpr ⟨m_0_35, fun _ h => absurd h List.not_mem_nil⟩⟩⟩⟩, in_X1_learn⟩)
theorem gv_L_X1_best : GoodIn wAll (wsV "GameGraphLaw" 87 "GameGraphModel" yX1_best wX1_best) := wAll_G (List.forall_mem_append.mpr ⟨List.forall_mem_cons.mpr ⟨m_11_13, List.forall_mem_cons.mpr ⟨m_11_14, List.forall_mem_cons.mpr ⟨m_11_15, List.forall_mem_cons.mpr ⟨m_0_35, fun _ h => absurd h List.not_mem_nil⟩⟩⟩⟩, in_X1_best⟩)
theorem gv_L_X1_length : GoodIn wAll (wsV "GameGraphLaw" 90 "GameGraphModel" yX1_length wX1_length) := wAll_G (List.forall_mem_append.mpr ⟨List.forall_mem_cons.mpr ⟨m_11_17, List.forall_mem_cons.mpr ⟨m_11_18, List.forall_mem_cons.mpr ⟨m_11_19, List.forall_mem_cons.mpr ⟨m_0_35, fun _ h => absurd h List.not_mem_nil⟩⟩⟩⟩, in_X1_length⟩)
end
section
/-! Leaves of the class (by tool/leaves.py). -/
theorem k_has {n cnt : Int32} {k0 : Nat} (hc : cnt = nI k0) (hk0 : k0 ≤ 60) (h1 : ¬ n < 0) (h2 : ¬ cnt ≤ n) : ∃ k, k < k0 ∧ n = nI k := by
  obtain ⟨j, hj, e⟩ := nI_of h1
  refine ⟨j, ?_, e⟩
  rcases Nat.lt_or_ge j k0 with q | q
  · exact q
  · exact absurd (by rw [hc, e]; exact nI_le q hj) h2
set_option maxHeartbeats 4000000 in
set_option maxRecDepth 100000 in
/-- hasState(n): is it a state -/
theorem c_X0_hasState (l : Launch) (dC : Nat → ClassId) (dI : Nat → Nat → Nat) (ad : Nat → Nat) (cz ci cj : ClassId) (sz : Nat) (cnt : Int32) (fO : Nat → Int32) (fA : Nat → Int32) (fB : Nat → Int32) (fT : Nat → Int32) (sv : Int32) (fC : Nat → Int64) (rs : Int64) (dk : Int32) (ds : Int32) (fL : Nat → Int32) (fl : Nat → Int32) (fh : Nat → Int32) (n : Int32) (k0 : Nat) (hc : cnt = nI k0) (hk0 : k0 ≤ 60) : Met l yX0_hasState wX0_hasState ({ frames := 0, cells := 0, slots := 0, locals := 0 }) (va_Pc [.ref (ad 0), .int n] (g_Pre (dC, dI) vwCl (gty cz ci cj) (gw ad cz ci cj (cnt, fO, fA, fB, fT, sv, fC, rs, dk, ds, fL, fl, fh)) sz)) (va_Qi (fun (r : Int32) (u : GS) => u = (cnt, fO, fA, fB, fT, sv, fC, rs, dk, ds, fL, fl, fh) ∧ ((∃ k, k < k0 ∧ n = nI k) ∧ r = 1 ∨ (∀ k, k < k0 → n ≠ nI k) ∧ r = 0)) (g_At (dC, dI) vwCl (gty cz ci cj) (va_A (gw ad cz ci cj (cnt, fO, fA, fB, fT, sv, fC, rs, dk, ds, fL, fl, fh)) sz) (gw ad cz ci cj)) (va_A (gw ad cz ci cj (cnt, fO, fA, fB, fT, sv, fC, rs, dk, ds, fL, fl, fh)) sz)) 0 0 (va_A (gw ad cz ci cj (cnt, fO, fA, fB, fT, sv, fC, rs, dk, ds, fL, fl, fh)) sz) := by
  refine Met.ofW (cc := cX0_hasState) (maxL := 2) (ret := some .boolean) (by decide) rfl ?_
  intro p e s m args below meth c s₁ Bd hml hv
  obtain ⟨rfl, hsz, hP, hK, hD0⟩ := hv
  have hx := Bd.exec
  have hb := Bd.bytes
  have hr := Bd.returns
  have hts := atoms_spec (ws := wX0_hasState) Bd.pre
  have hw : ∀ w ∈ wAll, w.before _ s = true := fun w h => hts w (List.mem_cons_of_mem _ h)
  have hown : s.vm.findClass "GameGraph" = some m.cls := findClass_of_methodNamed Bd.named
  have hlocks := Bd.notSynchronized
  subst hsz
  have hD := hD0.self (sz := s.heap.size)
  generalize hAe : va_A (gw ad cz ci cj (cnt, fO, fA, fB, fT, sv, fC, rs, dk, ds, fL, fl, fh)) s.heap.size = Ar at hD ⊢
  have hA : ∀ q : Nat, s.heap.size ≤ q → Ar q := fun q h => by rw [← hAe]; exact Or.inr h
  obtain ⟨H, hH⟩ : ∃ H : Heap, H = s.heap := ⟨_, rfl⟩
  have hS : va_S Ar s.heap H [] := by rw [hH]; exact va_S.rf
  have hP : va_P (dC, dI) vwCl (gw ad cz ci cj (cnt, fO, fA, fB, fT, sv, fC, rs, dk, ds, fL, fl, fh)) H := by rw [hH]; exact hP
  rw [← hH]
  have hl := lv_entry ([.ref (ad 0), .int n]) (n := 2) (Nat.le_of_ble_eq_true rfl)
  rw [lg_entry_eq]
  generalize (lg_sl ([.ref (ad 0), .int n]) ++ List.replicate (2 - (lg_sl ([.ref (ad 0), .int n])).length) Slot.unset).toArray = ls at hl ⊢
  have hl : lv_has ls 2 [(0, .ref (ad 0)), (1, .int n)] := hl
  refine lv_iload_n hx hb dX0_hasState_0 rfl (lv_at hl 1 rfl) ?_
  refine lv_if_lt (tgt := 16) hx hb dX0_hasState_1 (by decide) (fun c_1 => ?_) (fun c_1 => ?_)
  · refine lv_iconst (v := 0) hx hb dX0_hasState_16 (by decide) ?_
    exact W.zret (v := 0) hx hb hr (by decide) (fun t ht hW => ⟨⟨0, (cnt, fO, fA, fB, fT, sv, fC, rs, dk, ds, fL, fl, fh), rfl, (⟨rfl, Or.inr ⟨fun k hk e => absurd c_1 (by rw [e]; exact nI_pos (by omega)), rfl⟩⟩), (by rw [ht]; exact hP), va_K.moved hW.alike hK, hD⟩, hS.F ht⟩) hS.2.2 dX0_hasState_17
  · refine lv_iload_n hx hb dX0_hasState_4 rfl (lv_at hl 1 rfl) ?_
    refine lv_aload_n hx hb dX0_hasState_5 rfl (lv_at hl 0 rfl) ?_
    refine va_get (D := (dC, dI)) (ci := 0) (v := .int cnt) (C := RX0) (T := TX0) (N := 13) hx hb hw in_X0 hown hK hP 0 rfl rfl 0 (by decide) (hw _ m_1_18) (fun _ h9 => h9) rfl dX0_hasState_6 ?_
    refine lv_icmp_ge (tgt := 16) hx hb dX0_hasState_9 (by decide) (fun cb_2 => ?_) (fun cb_2 => ?_)
    · refine lv_iconst (v := 0) hx hb dX0_hasState_16 (by decide) ?_
      exact W.zret (v := 0) hx hb hr (by decide) (fun t ht hW => ⟨⟨0, (cnt, fO, fA, fB, fT, sv, fC, rs, dk, ds, fL, fl, fh), rfl, (⟨rfl, Or.inr ⟨fun k hk e => absurd cb_2 (by rw [hc, e]; exact nI_ge hk (by omega)), rfl⟩⟩), (by rw [ht]; exact hP), va_K.moved hW.alike hK, hD⟩, hS.F ht⟩) hS.2.2 dX0_hasState_17
    · refine lv_iconst (v := 1) hx hb dX0_hasState_12 (by decide) ?_
      refine lv_goto (tgt := 17) hx hb dX0_hasState_13 (by decide) ?_
      exact W.zret (v := 1) hx hb hr (by decide) (fun t ht hW => ⟨⟨1, (cnt, fO, fA, fB, fT, sv, fC, rs, dk, ds, fL, fl, fh), rfl, (⟨rfl, Or.inl ⟨k_has hc hk0 c_1 cb_2, rfl⟩⟩), (by rw [ht]; exact hP), va_K.moved hW.alike hK, hD⟩, hS.F ht⟩) hS.2.2 dX0_hasState_17
set_option maxHeartbeats 4000000 in
set_option maxRecDepth 100000 in
/-- contains(set, k): bit k of set -/
theorem c_X0_contains (l : Launch) (set : Int64) (k : Nat) (hk : k < 64) : Met l yX0_contains wX0_contains ({ frames := 0, cells := 0, slots := 0, locals := 0 }) (va_Pc [.long set, .int (nI k)] (fun _ => True)) (va_Qi (fun (r : Int32) (_ : Unit) => r = if b_t set k = true then 1 else 0) (fun _ _ => True) g_No) 0 0 g_No := by
  refine Met.ofW (cc := cX0_contains) (maxL := 3) (ret := some .boolean) (by decide) rfl ?_
  intro p e s m args below meth c s₁ Bd hml hv
  obtain ⟨rfl, -⟩ := hv
  have hx := Bd.exec
  have hb := Bd.bytes
  have hr := Bd.returns
  have hts := atoms_spec (ws := wX0_contains) Bd.pre
  have hw : ∀ w ∈ wAll, w.before _ s = true := fun w h => hts w (List.mem_cons_of_mem _ h)
  have hown : s.vm.findClass "GameGraph" = some m.cls := findClass_of_methodNamed Bd.named
  have hlocks := Bd.notSynchronized
  have hS : va_S g_No s.heap s.heap [] := va_S.rf
  have hl := lv_entry ([.long set, .int (nI k)]) (n := 3) (Nat.le_of_ble_eq_true rfl)
  rw [lg_entry_eq]
  generalize (lg_sl ([.long set, .int (nI k)]) ++ List.replicate (3 - (lg_sl ([.long set, .int (nI k)])).length) Slot.unset).toArray = ls at hl ⊢
  have hl : lv_has ls 3 [(0, .long set), (2, .int (nI k))] := hl
  refine lv_lload_n hx hb dX0_contains_0 rfl (lv_at hl 0 rfl) ?_
  refine lv_iload_n hx hb dX0_contains_1 rfl (lv_at hl 1 rfl) ?_
  refine lv_lushr hx hb dX0_contains_2 rfl ?_
  refine lv_lconst (v := 1) hx hb dX0_contains_3 (by decide) ?_
  refine lv_land hx hb dX0_contains_4 ?_
  refine lv_lconst (v := 0) hx hb dX0_contains_5 (by decide) ?_
  refine W.lcmp hx hb dX0_contains_6 ?_
  refine lv_if_eq (tgt := 14) hx hb dX0_contains_7 (by decide) (fun c_1 => ?_) (fun c_1 => ?_)
  · refine lv_iconst (v := 0) hx hb dX0_contains_14 (by decide) ?_
    exact W.zret (v := 0) hx hb hr (by decide) (fun t ht hW => ⟨⟨0, (), rfl, (by rw [if_neg]; intro q; have := (b_t_has hk).mp ((b_cmp0 _).mp c_1); rw [this] at q; cases q), trivial⟩, hS.F ht⟩) hS.2.2 dX0_contains_15
  · refine lv_iconst (v := 1) hx hb dX0_contains_10 (by decide) ?_
    refine lv_goto (tgt := 15) hx hb dX0_contains_11 (by decide) ?_
    exact W.zret (v := 1) hx hb hr (by decide) (fun t ht hW => ⟨⟨1, (), rfl, (by rw [if_pos]; cases q : b_t set k with | true => rfl | false => exact absurd ((b_cmp0 _).mpr ((b_t_has hk).mpr q)) c_1), trivial⟩, hS.F ht⟩) hS.2.2 dX0_contains_15
set_option maxHeartbeats 4000000 in
set_option maxRecDepth 100000 in
/-- isGoal(x) -/
theorem c_X0_isGoal (l : Launch) (x : Int32)  : Met l yX0_isGoal wX0_isGoal ({ frames := 0, cells := 0, slots := 0, locals := 0 }) (va_Pc [.int x] (fun _ => True)) (va_Qi (fun (r : Int32) (_ : Unit) => r = if -2 ≤ x.toInt ∧ x.toInt ≤ 100 then 1 else 0) (fun _ _ => True) g_No) 0 0 g_No := by
  refine Met.ofW (cc := cX0_isGoal) (maxL := 1) (ret := some .boolean) (by decide) rfl ?_
  intro p e s m args below meth c s₁ Bd hml hv
  obtain ⟨rfl, -⟩ := hv
  have hx := Bd.exec
  have hb := Bd.bytes
  have hr := Bd.returns
  have hts := atoms_spec (ws := wX0_isGoal) Bd.pre
  have hw : ∀ w ∈ wAll, w.before _ s = true := fun w h => hts w (List.mem_cons_of_mem _ h)
  have hown : s.vm.findClass "GameGraph" = some m.cls := findClass_of_methodNamed Bd.named
  have hlocks := Bd.notSynchronized
  have hS : va_S g_No s.heap s.heap [] := va_S.rf
  have hl := lv_entry ([.int x]) (n := 1) (Nat.le_of_ble_eq_true rfl)
  rw [lg_entry_eq]
  generalize (lg_sl ([.int x]) ++ List.replicate (1 - (lg_sl ([.int x])).length) Slot.unset).toArray = ls at hl ⊢
  have hl : lv_has ls 1 [(0, .int x)] := hl
  have e2 : (100 : Int32).toInt = 100 := by decide
  have e1 : (-2 : Int32).toInt = -2 := by decide
  refine lv_iload_n hx hb dX0_isGoal_0 rfl (lv_at hl 0 rfl) ?_
  refine lv_bipush (v := -2) hx hb dX0_isGoal_1 (by decide) ?_
  refine lv_icmp_lt (tgt := 16) hx hb dX0_isGoal_3 (by decide) (fun c_1 => ?_) (fun c_1 => ?_)
  · rw [Int32.lt_iff_toInt_lt, e1] at c_1
    refine lv_iconst (v := 0) hx hb dX0_isGoal_16 (by decide) ?_
    exact W.zret (v := 0) hx hb hr (by decide) (fun t ht hW => ⟨⟨0, (), rfl, (by rw [if_neg]; omega), trivial⟩, hS.F ht⟩) hS.2.2 dX0_isGoal_17
  · rw [Int32.lt_iff_toInt_lt, e1] at c_1
    refine lv_iload_n hx hb dX0_isGoal_6 rfl (lv_at hl 0 rfl) ?_
    refine lv_bipush (v := 100) hx hb dX0_isGoal_7 (by decide) ?_
    refine lv_icmp_gt (tgt := 16) hx hb dX0_isGoal_9 (by decide) (fun cb_2 => ?_) (fun cb_2 => ?_)
    · rw [Int32.lt_iff_toInt_lt, e2] at cb_2
      refine lv_iconst (v := 0) hx hb dX0_isGoal_16 (by decide) ?_
      exact W.zret (v := 0) hx hb hr (by decide) (fun t ht hW => ⟨⟨0, (), rfl, (by rw [if_neg]; omega), trivial⟩, hS.F ht⟩) hS.2.2 dX0_isGoal_17
    · rw [Int32.lt_iff_toInt_lt, e2] at cb_2
      refine lv_iconst (v := 1) hx hb dX0_isGoal_12 (by decide) ?_
      refine lv_goto (tgt := 17) hx hb dX0_isGoal_13 (by decide) ?_
      exact W.zret (v := 1) hx hb hr (by decide) (fun t ht hW => ⟨⟨1, (), rfl, (by rw [if_pos]; omega), trivial⟩, hS.F ht⟩) hS.2.2 dX0_isGoal_17
set_option maxHeartbeats 4000000 in
set_option maxRecDepth 100000 in
/-- jointMoves(n) -/
theorem c_X0_jointMoves (l : Launch) (dC : Nat → ClassId) (dI : Nat → Nat → Nat) (ad : Nat → Nat) (cz ci cj : ClassId) (sz : Nat) (cnt : Int32) (fO : Nat → Int32) (fA : Nat → Int32) (fB : Nat → Int32) (fT : Nat → Int32) (sv : Int32) (fC : Nat → Int64) (rs : Int64) (dk : Int32) (ds : Int32) (fL : Nat → Int32) (fl : Nat → Int32) (fh : Nat → Int32) (n : Nat) (hn : n < 60) : Met l yX0_jointMoves wX0_jointMoves ({ frames := 0, cells := 0, slots := 0, locals := 0 }) (va_Pc [.ref (ad 0), .int (nI n)] (g_Pre (dC, dI) vwCl (gty cz ci cj) (gw ad cz ci cj (cnt, fO, fA, fB, fT, sv, fC, rs, dk, ds, fL, fl, fh)) sz)) (va_Qi (fun (r : Int32) (u : GS) => u = (cnt, fO, fA, fB, fT, sv, fC, rs, dk, ds, fL, fl, fh) ∧ r = if fO n = 0 then 0 else fA n * fB n) (g_At (dC, dI) vwCl (gty cz ci cj) (va_A (gw ad cz ci cj (cnt, fO, fA, fB, fT, sv, fC, rs, dk, ds, fL, fl, fh)) sz) (gw ad cz ci cj)) (va_A (gw ad cz ci cj (cnt, fO, fA, fB, fT, sv, fC, rs, dk, ds, fL, fl, fh)) sz)) 0 0 (va_A (gw ad cz ci cj (cnt, fO, fA, fB, fT, sv, fC, rs, dk, ds, fL, fl, fh)) sz) := by
  refine Met.ofW (cc := cX0_jointMoves) (maxL := 2) (ret := some .int) (by decide) rfl ?_
  intro p e s m args below meth c s₁ Bd hml hv
  obtain ⟨rfl, hsz, hP, hK, hD0⟩ := hv
  have hx := Bd.exec
  have hb := Bd.bytes
  have hr := Bd.returns
  have hts := atoms_spec (ws := wX0_jointMoves) Bd.pre
  have hw : ∀ w ∈ wAll, w.before _ s = true := fun w h => hts w (List.mem_cons_of_mem _ h)
  have hown : s.vm.findClass "GameGraph" = some m.cls := findClass_of_methodNamed Bd.named
  have hlocks := Bd.notSynchronized
  subst hsz
  have hD := hD0.self (sz := s.heap.size)
  generalize hAe : va_A (gw ad cz ci cj (cnt, fO, fA, fB, fT, sv, fC, rs, dk, ds, fL, fl, fh)) s.heap.size = Ar at hD ⊢
  have hA : ∀ q : Nat, s.heap.size ≤ q → Ar q := fun q h => by rw [← hAe]; exact Or.inr h
  obtain ⟨H, hH⟩ : ∃ H : Heap, H = s.heap := ⟨_, rfl⟩
  have hS : va_S Ar s.heap H [] := by rw [hH]; exact va_S.rf
  have hP : va_P (dC, dI) vwCl (gw ad cz ci cj (cnt, fO, fA, fB, fT, sv, fC, rs, dk, ds, fL, fl, fh)) H := by rw [hH]; exact hP
  rw [← hH]
  have hl := lv_entry ([.ref (ad 0), .int (nI n)]) (n := 2) (Nat.le_of_ble_eq_true rfl)
  rw [lg_entry_eq]
  generalize (lg_sl ([.ref (ad 0), .int (nI n)]) ++ List.replicate (2 - (lg_sl ([.ref (ad 0), .int (nI n)])).length) Slot.unset).toArray = ls at hl ⊢
  have hl : lv_has ls 2 [(0, .ref (ad 0)), (1, .int (nI n))] := hl
  refine lv_aload_n hx hb dX0_jointMoves_0 rfl (lv_at hl 0 rfl) ?_
  refine va_get (D := (dC, dI)) (ci := 0) (v := .ref (ad 1)) (C := RX0) (T := TX0) (N := 13) hx hb hw in_X0 hown hK hP 0 rfl rfl 1 (by decide) (hw _ m_1_19) (fun _ h9 => h9) rfl dX0_jointMoves_1 ?_
  refine lv_iload_n hx hb dX0_jointMoves_4 rfl (lv_at hl 1 rfl) ?_
  refine va_zald hx hb hK hP 1 0 rfl rfl (vp_in_nI (by omega) (by decide)) dX0_jointMoves_5 ?_
  refine x_topi (y := fO n) (by rw [nI_clamp (by omega)]) ?_
  refine lv_if_eq (tgt := 25) hx hb dX0_jointMoves_6 (by decide) (fun c_1 => ?_) (fun c_1 => ?_)
  · refine lv_iconst (v := 0) hx hb dX0_jointMoves_25 (by decide) ?_
    exact W.iret (v := 0) hx hb hr (fun t ht hW => ⟨⟨0, (cnt, fO, fA, fB, fT, sv, fC, rs, dk, ds, fL, fl, fh), rfl, (⟨rfl, by rw [if_pos c_1]⟩), (by rw [ht]; exact hP), va_K.moved hW.alike hK, hD⟩, hS.F ht⟩) hS.2.2 dX0_jointMoves_26
  · refine lv_aload_n hx hb dX0_jointMoves_9 rfl (lv_at hl 0 rfl) ?_
    refine va_get (D := (dC, dI)) (ci := 0) (v := .ref (ad 2)) (C := RX0) (T := TX0) (N := 13) hx hb hw in_X0 hown hK hP 0 rfl rfl 2 (by decide) (hw _ m_1_20) (fun _ h9 => h9) rfl dX0_jointMoves_10 ?_
    refine lv_iload_n hx hb dX0_jointMoves_13 rfl (lv_at hl 1 rfl) ?_
    refine va_iald hx hb hK hP 2 1 rfl rfl (vp_in_nI (by omega) (by decide)) dX0_jointMoves_14 ?_
    refine x_topi (y := fA n) (by rw [nI_clamp (by omega)]) ?_
    refine lv_aload_n hx hb dX0_jointMoves_15 rfl (lv_at hl 0 rfl) ?_
    refine va_get (D := (dC, dI)) (ci := 0) (v := .ref (ad 3)) (C := RX0) (T := TX0) (N := 13) hx hb hw in_X0 hown hK hP 0 rfl rfl 3 (by decide) (hw _ m_1_21) (fun _ h9 => h9) rfl dX0_jointMoves_16 ?_
    refine lv_iload_n hx hb dX0_jointMoves_19 rfl (lv_at hl 1 rfl) ?_
    refine va_iald hx hb hK hP 3 1 rfl rfl (vp_in_nI (by omega) (by decide)) dX0_jointMoves_20 ?_
    refine x_topi (y := fB n) (by rw [nI_clamp (by omega)]) ?_
    refine lv_imul hx hb dX0_jointMoves_21 ?_
    refine lv_goto (tgt := 26) hx hb dX0_jointMoves_22 (by decide) ?_
    exact W.iret (v := ((fA n) * (fB n))) hx hb hr (fun t ht hW => ⟨⟨((fA n) * (fB n)), (cnt, fO, fA, fB, fT, sv, fC, rs, dk, ds, fL, fl, fh), rfl, (⟨rfl, by rw [if_neg c_1]⟩), (by rw [ht]; exact hP), va_K.moved hW.alike hK, hD⟩, hS.F ht⟩) hS.2.2 dX0_jointMoves_26
set_option maxHeartbeats 4000000 in
set_option maxRecDepth 100000 in
/-- target(n, j) -/
theorem c_X0_target (l : Launch) (dC : Nat → ClassId) (dI : Nat → Nat → Nat) (ad : Nat → Nat) (cz ci cj : ClassId) (sz : Nat) (cnt : Int32) (fO : Nat → Int32) (fA : Nat → Int32) (fB : Nat → Int32) (fT : Nat → Int32) (sv : Int32) (fC : Nat → Int64) (rs : Int64) (dk : Int32) (ds : Int32) (fL : Nat → Int32) (fl : Nat → Int32) (fh : Nat → Int32) (n : Nat) (j : Nat) (hn : n < 60) (hj : j < 12) : Met l yX0_target wX0_target ({ frames := 0, cells := 0, slots := 0, locals := 0 }) (va_Pc [.ref (ad 0), .int (nI n), .int (nI j)] (g_Pre (dC, dI) vwCl (gty cz ci cj) (gw ad cz ci cj (cnt, fO, fA, fB, fT, sv, fC, rs, dk, ds, fL, fl, fh)) sz)) (va_Qi (fun (r : Int32) (u : GS) => u = (cnt, fO, fA, fB, fT, sv, fC, rs, dk, ds, fL, fl, fh) ∧ r = fT (n * 12 + j)) (g_At (dC, dI) vwCl (gty cz ci cj) (va_A (gw ad cz ci cj (cnt, fO, fA, fB, fT, sv, fC, rs, dk, ds, fL, fl, fh)) sz) (gw ad cz ci cj)) (va_A (gw ad cz ci cj (cnt, fO, fA, fB, fT, sv, fC, rs, dk, ds, fL, fl, fh)) sz)) 0 0 (va_A (gw ad cz ci cj (cnt, fO, fA, fB, fT, sv, fC, rs, dk, ds, fL, fl, fh)) sz) := by
  refine Met.ofW (cc := cX0_target) (maxL := 3) (ret := some .int) (by decide) rfl ?_
  intro p e s m args below meth c s₁ Bd hml hv
  obtain ⟨rfl, hsz, hP, hK, hD0⟩ := hv
  have hx := Bd.exec
  have hb := Bd.bytes
  have hr := Bd.returns
  have hts := atoms_spec (ws := wX0_target) Bd.pre
  have hw : ∀ w ∈ wAll, w.before _ s = true := fun w h => hts w (List.mem_cons_of_mem _ h)
  have hown : s.vm.findClass "GameGraph" = some m.cls := findClass_of_methodNamed Bd.named
  have hlocks := Bd.notSynchronized
  subst hsz
  have hD := hD0.self (sz := s.heap.size)
  generalize hAe : va_A (gw ad cz ci cj (cnt, fO, fA, fB, fT, sv, fC, rs, dk, ds, fL, fl, fh)) s.heap.size = Ar at hD ⊢
  have hA : ∀ q : Nat, s.heap.size ≤ q → Ar q := fun q h => by rw [← hAe]; exact Or.inr h
  obtain ⟨H, hH⟩ : ∃ H : Heap, H = s.heap := ⟨_, rfl⟩
  have hS : va_S Ar s.heap H [] := by rw [hH]; exact va_S.rf
  have hP : va_P (dC, dI) vwCl (gw ad cz ci cj (cnt, fO, fA, fB, fT, sv, fC, rs, dk, ds, fL, fl, fh)) H := by rw [hH]; exact hP
  rw [← hH]
  have hl := lv_entry ([.ref (ad 0), .int (nI n), .int (nI j)]) (n := 3) (Nat.le_of_ble_eq_true rfl)
  rw [lg_entry_eq]
  generalize (lg_sl ([.ref (ad 0), .int (nI n), .int (nI j)]) ++ List.replicate (3 - (lg_sl ([.ref (ad 0), .int (nI n), .int (nI j)])).length) Slot.unset).toArray = ls at hl ⊢
  have hl : lv_has ls 3 [(0, .ref (ad 0)), (1, .int (nI n)), (2, .int (nI j))] := hl
  refine lv_aload_n hx hb dX0_target_0 rfl (lv_at hl 0 rfl) ?_
  refine va_get (D := (dC, dI)) (ci := 0) (v := .ref (ad 4)) (C := RX0) (T := TX0) (N := 13) hx hb hw in_X0 hown hK hP 0 rfl rfl 4 (by decide) (hw _ m_1_22) (fun _ h9 => h9) rfl dX0_target_1 ?_
  refine lv_iload_n hx hb dX0_target_4 rfl (lv_at hl 1 rfl) ?_
  refine lv_bipush (v := 12) hx hb dX0_target_5 (by decide) ?_
  refine lv_imul hx hb dX0_target_7 ?_
  refine x_topi (y := nI (n * 12)) (pk_mul n 12) ?_
  refine lv_iload_n hx hb dX0_target_8 rfl (lv_at hl 2 rfl) ?_
  refine lv_iadd hx hb dX0_target_9 ?_
  refine x_topi (y := nI (n * 12 + j)) (nI_add _ _) ?_
  refine va_iald hx hb hK hP 4 1 rfl rfl (vp_in_nI (by omega) (by decide)) dX0_target_10 ?_
  refine x_topi (y := fT (n * 12 + j)) (by rw [nI_clamp (by omega)]) ?_
  exact W.iret (v := (fT (n * 12 + j))) hx hb hr (fun t ht hW => ⟨⟨(fT (n * 12 + j)), (cnt, fO, fA, fB, fT, sv, fC, rs, dk, ds, fL, fl, fh), rfl, (⟨rfl, rfl⟩), (by rw [ht]; exact hP), va_K.moved hW.alike hK, hD⟩, hS.F ht⟩) hS.2.2 dX0_target_11
set_option maxHeartbeats 4000000 in
set_option maxRecDepth 100000 in
/-- noteDefect(n, kind) -/
theorem c_X0_noteDefect (l : Launch) (dC : Nat → ClassId) (dI : Nat → Nat → Nat) (ad : Nat → Nat) (cz ci cj : ClassId) (sz : Nat) (cnt : Int32) (fO : Nat → Int32) (fA : Nat → Int32) (fB : Nat → Int32) (fT : Nat → Int32) (sv : Int32) (fC : Nat → Int64) (rs : Int64) (dk : Int32) (ds : Int32) (fL : Nat → Int32) (fl : Nat → Int32) (fh : Nat → Int32) (n : Int32) (kd : Int32)  : Met l yX0_noteDefect wX0_noteDefect ({ frames := 0, cells := 0, slots := 0, locals := 0 }) (va_Pc [.ref (ad 0), .int n, .int kd] (g_Pre (dC, dI) vwCl (gty cz ci cj) (gw ad cz ci cj (cnt, fO, fA, fB, fT, sv, fC, rs, dk, ds, fL, fl, fh)) sz)) (va_Qv (fun (u : GS) => u = if kd = 0 then (cnt, fO, fA, fB, fT, sv, fC, rs, dk, ds, fL, fl, fh) else (cnt, fO, fA, fB, fT, sv, fC, rs, kd, n, fL, fl, fh)) (g_At (dC, dI) vwCl (gty cz ci cj) (va_A (gw ad cz ci cj (cnt, fO, fA, fB, fT, sv, fC, rs, dk, ds, fL, fl, fh)) sz) (gw ad cz ci cj)) (va_A (gw ad cz ci cj (cnt, fO, fA, fB, fT, sv, fC, rs, dk, ds, fL, fl, fh)) sz)) 0 0 (va_A (gw ad cz ci cj (cnt, fO, fA, fB, fT, sv, fC, rs, dk, ds, fL, fl, fh)) sz) := by
  refine Met.ofW (cc := cX0_noteDefect) (maxL := 3) (ret := none) (by decide) rfl ?_
  intro p e s m args below meth c s₁ Bd hml hv
  obtain ⟨rfl, hsz, hP, hK, hD0⟩ := hv
  have hx := Bd.exec
  have hb := Bd.bytes
  have hr := Bd.returns
  have hts := atoms_spec (ws := wX0_noteDefect) Bd.pre
  have hw : ∀ w ∈ wAll, w.before _ s = true := fun w h => hts w (List.mem_cons_of_mem _ h)
  have hown : s.vm.findClass "GameGraph" = some m.cls := findClass_of_methodNamed Bd.named
  have hlocks := Bd.notSynchronized
  subst hsz
  have hD := hD0.self (sz := s.heap.size)
  generalize hAe : va_A (gw ad cz ci cj (cnt, fO, fA, fB, fT, sv, fC, rs, dk, ds, fL, fl, fh)) s.heap.size = Ar at hD ⊢
  have hA : ∀ q : Nat, s.heap.size ≤ q → Ar q := fun q h => by rw [← hAe]; exact Or.inr h
  obtain ⟨H, hH⟩ : ∃ H : Heap, H = s.heap := ⟨_, rfl⟩
  have hS : va_S Ar s.heap H [] := by rw [hH]; exact va_S.rf
  have hP : va_P (dC, dI) vwCl (gw ad cz ci cj (cnt, fO, fA, fB, fT, sv, fC, rs, dk, ds, fL, fl, fh)) H := by rw [hH]; exact hP
  rw [← hH]
  have hl := lv_entry ([.ref (ad 0), .int n, .int kd]) (n := 3) (Nat.le_of_ble_eq_true rfl)
  rw [lg_entry_eq]
  generalize (lg_sl ([.ref (ad 0), .int n, .int kd]) ++ List.replicate (3 - (lg_sl ([.ref (ad 0), .int n, .int kd])).length) Slot.unset).toArray = ls at hl ⊢
  have hl : lv_has ls 3 [(0, .ref (ad 0)), (1, .int n), (2, .int kd)] := hl
  refine lv_iload_n hx hb dX0_noteDefect_0 rfl (lv_at hl 2 rfl) ?_
  refine lv_if_eq (tgt := 14) hx hb dX0_noteDefect_1 (by decide) (fun c_1 => ?_) (fun c_1 => ?_)
  · exact W.vret hx hb hr (fun t ht hW => ⟨⟨(cnt, fO, fA, fB, fT, sv, fC, rs, dk, ds, fL, fl, fh), rfl, (by rw [if_pos c_1]), (by rw [ht]; exact hP), va_K.moved hW.alike hK, hD⟩, hS.F ht⟩) hS.2.2 dX0_noteDefect_14
  · refine lv_aload_n hx hb dX0_noteDefect_4 rfl (lv_at hl 0 rfl) ?_
    refine lv_iload_n hx hb dX0_noteDefect_5 rfl (lv_at hl 2 rfl) ?_
    refine va_put (D := (dC, dI)) (ci := 0) (v := .int kd) (ty := .int) (C := RX0) (T := TX0) (N := 13) hx hb hw in_X0 tyX0 tyX0_ok nmX0 hown hK hP hD hS 0 rfl rfl 8 (by decide) (hw _ m_1_26) (fun _ h9 => h9) rfl (by decide +kernel) rfl rfl (Nat.le_of_ble_eq_true rfl) dX0_noteDefect_6 (fun H locs hP hD hS => ?_)
    have hP : va_P (dC, dI) vwCl (gw ad cz ci cj (cnt, fO, fA, fB, fT, sv, fC, rs, kd, ds, fL, fl, fh)) H := hP
    have hD : va_D Ar (gw ad cz ci cj (cnt, fO, fA, fB, fT, sv, fC, rs, kd, ds, fL, fl, fh)) := hD
    refine lv_aload_n hx hb dX0_noteDefect_9 rfl (lv_at hl 0 rfl) ?_
    refine lv_iload_n hx hb dX0_noteDefect_10 rfl (lv_at hl 1 rfl) ?_
    refine va_put (D := (dC, dI)) (ci := 0) (v := .int n) (ty := .int) (C := RX0) (T := TX0) (N := 13) hx hb hw in_X0 tyX0 tyX0_ok nmX0 hown hK hP hD hS 0 rfl rfl 9 (by decide) (hw _ m_1_27) (fun _ h9 => h9) rfl (by decide +kernel) rfl rfl (Nat.le_of_ble_eq_true rfl) dX0_noteDefect_11 (fun H locs hP hD hS => ?_)
    have hP : va_P (dC, dI) vwCl (gw ad cz ci cj (cnt, fO, fA, fB, fT, sv, fC, rs, kd, n, fL, fl, fh)) H := hP
    have hD : va_D Ar (gw ad cz ci cj (cnt, fO, fA, fB, fT, sv, fC, rs, kd, n, fL, fl, fh)) := hD
    exact W.vret hx hb hr (fun t ht hW => ⟨⟨(cnt, fO, fA, fB, fT, sv, fC, rs, kd, n, fL, fl, fh), rfl, (by rw [if_neg c_1]), (by rw [ht]; exact hP), va_K.moved hW.alike hK, hD⟩, hS.F ht⟩) hS.2.2 dX0_noteDefect_14
end
section
/-! Making states (by tool/makes.py). -/
theorem k_lt {i n : Nat} (h : ¬ nI n ≤ nI i) (hi : i < 2 ^ 31) : i < n := by
  rcases Nat.lt_or_ge i n with q | q
  · exact q
  · exact absurd (nI_le q hi) h
theorem k_eq {i n : Nat} (hi : i ≤ n) (h : nI n ≤ nI i) (hn : n < 2 ^ 31) : n = i := by
  rcases Nat.lt_or_ge i n with q | q
  · exact absurd h (nI_ge q hn)
  · omega
theorem k_lt12 {j : Nat} (hj : j ≤ 12) (h : ¬ (12 : Int32) ≤ nI j) : j < 12 := k_lt (n := 12) h (by omega)
theorem k_ge12 {j : Nat} (hj : j ≤ 12) (h : (12 : Int32) ≤ nI j) : j = 12 := (k_eq (n := 12) hj h (by decide)).symm
theorem k_zero {f g : Nat → Int32} {n j : Nat} (h : ∀ i, f i = if n * 12 ≤ i ∧ i < n * 12 + j then 0 else g i) : ∀ i, upd f (n * 12 + j) 0 i = if n * 12 ≤ i ∧ i < n * 12 + (j + 1) then 0 else g i := by
  intro i
  by_cases e : i = n * 12 + j
  · subst e
    rw [pk_us, if_pos (by omega)]
  · rw [pk_un e, h i]
    by_cases q : n * 12 ≤ i ∧ i < n * 12 + j
    · rw [if_pos q, if_pos (by omega)]
    · rw [if_neg q, if_neg (by omega)]
set_option maxHeartbeats 4000000 in
set_option maxRecDepth 100000 in
/-- makeState: the moves go to state 0 -/
theorem lp_makeState {p : Program} {l : Launch} {e : Env} {R : Room} {s : State} {m : MethodId} {args : Array Value} {below : List Frame} {meth : Method} {c : Code} {Q : State → Prop} {dC : Nat → ClassId} {dI : Nat → Nat → Nat} {ad : Nat → Nat} {cz ci cj : ClassId} {Ar : Nat → Prop} (hx : p.tables.exec = Jvm.exec) (hb : c.code = cX0_makeState) (hml : c.maxLocals = 6) (hown : s.vm.findClass "GameGraph" = some m.cls) (hw : ∀ w ∈ wAll, w.before args s = true) (hK : va_K (dC, dI) vwCl (gty cz ci cj) s) (hA : ∀ q, s.heap.size ≤ q → Ar q) (hR1 : 0 ≤ R.frames) (hR2 : 0 ≤ R.locals) (cnt : Int32) (fO fA fB fT : Nat → Int32) (sv : Int32) (fC : Nat → Int64) (rs : Int64) (dk ds : Int32) (fL fl fh : Nat → Int32) (n : Nat) (hn : n < 60)
    (kx : ∀ (fT2 : Nat → Int32), (∀ i, fT2 i = if n * 12 ≤ i ∧ i < n * 12 + 12 then 0 else fT i) → ∀ (H : Heap) (locs : List Loc), va_P (dC, dI) vwCl (gw ad cz ci cj (cnt, fO, fA, fB, fT2, sv, fC, rs, dk, ds, fL, fl, fh)) H → va_D Ar (gw ad cz ci cj (cnt, fO, fA, fB, fT2, sv, fC, rs, dk, ds, fL, fl, fh)) → va_S Ar s.heap H locs → ∀ (ls : Array Slot), lv_has ls 6 [(0, .ref (ad 0))] → W p l e R s m args below meth c H locs 0 0 Q (F0 m 51 ls [])) :
    ∀ (fuel : Nat) (j : Nat) (fT2 : Nat → Int32), 13 ≤ j + fuel → j ≤ 12 → (∀ i, fT2 i = if n * 12 ≤ i ∧ i < n * 12 + j then 0 else fT i) → ∀ (H : Heap) (locs : List Loc), va_P (dC, dI) vwCl (gw ad cz ci cj (cnt, fO, fA, fB, fT2, sv, fC, rs, dk, ds, fL, fl, fh)) H → va_D Ar (gw ad cz ci cj (cnt, fO, fA, fB, fT2, sv, fC, rs, dk, ds, fL, fl, fh)) → va_S Ar s.heap H locs → ∀ (ls : Array Slot), lv_has ls 6 [(0, .ref (ad 0)), (1, .int (nI n)), (5, .int (nI j))] → W p l e R s m args below meth c H locs 0 0 Q (F0 m 25 ls []) := by
  intro fuel
  induction fuel with
  | zero => intro j fT2 hfu hj0 hT; exact absurd hfu (by omega)
  | succ fuel ih =>
    intro j fT2 hfu hj0 hT H locs hP hD hS ls hl
    refine lv_iload hx hb dX0_makeState_25 (lv_at hl 2 rfl) ?_
    refine lv_bipush (v := 12) hx hb dX0_makeState_27 (by decide) ?_
    refine lv_icmp_ge (tgt := 51) hx hb dX0_makeState_29 (by decide) (fun c_1 => ?_) (fun c_1 => ?_)
    · exact kx fT2 (fun i => by rw [hT i, k_ge12 hj0 c_1]) _ _ hP hD hS _ (lv_sub hl [0] rfl)
    · have hj : j < 12 := k_lt12 hj0 c_1
      refine lv_aload_n hx hb dX0_makeState_32 rfl (lv_at hl 0 rfl) ?_
      refine va_get (D := (dC, dI)) (ci := 0) (v := .ref (ad 4)) (C := RX0) (T := TX0) (N := 13) hx hb hw in_X0 hown hK hP 0 rfl rfl 4 (by decide) (hw _ m_1_22) (fun _ h9 => h9) rfl dX0_makeState_33 ?_
      refine lv_iload_n hx hb dX0_makeState_36 rfl (lv_at hl 1 rfl) ?_
      refine lv_bipush (v := 12) hx hb dX0_makeState_37 (by decide) ?_
      refine lv_imul hx hb dX0_makeState_39 ?_
      refine x_topi (y := nI (n * 12)) (pk_mul n 12) ?_
      refine lv_iload hx hb dX0_makeState_40 (lv_at hl 2 rfl) ?_
      refine lv_iadd hx hb dX0_makeState_42 ?_
      refine x_topi (y := nI (n * 12 + j)) (nI_add _ _) ?_
      refine lv_iconst (v := 0) hx hb dX0_makeState_43 (by decide) ?_
      refine va_iast hx hb hK hP hD hS 4 1 rfl rfl (vp_in_nI (by omega) (by decide)) dX0_makeState_44 (fun H locs hP hD hS => ?_)
      rw [nI_clamp (by omega)] at hP hD
      have hP : va_P (dC, dI) vwCl (gw ad cz ci cj (cnt, fO, fA, fB, (upd fT2 (n * 12 + j) 0), sv, fC, rs, dk, ds, fL, fl, fh)) H := hP
      have hD : va_D Ar (gw ad cz ci cj (cnt, fO, fA, fB, (upd fT2 (n * 12 + j) 0), sv, fC, rs, dk, ds, fL, fl, fh)) := hD
      refine lv_iinc (v := (nI (j + 1))) (lv' := [(5, .int (nI (j + 1))), (0, .ref (ad 0)), (1, .int (nI n))]) hx hb dX0_makeState_45 hl (k := 2) rfl (nI_1 j) (by decide) rfl (fun ls hl => ?_)
      refine lv_goto (tgt := 25) hx hb dX0_makeState_48 (by decide) ?_
      exact ih (j + 1) (upd fT2 (n * 12 + j) 0) (by omega) (by omega) (k_zero hT) _ _ hP hD hS _ (lv_sub hl [1, 2, 0] rfl)
set_option maxHeartbeats 4000000 in
set_option maxRecDepth 100000 in
/-- makeState(n, asOpen, first, second) -/
theorem c_X0_makeState (l : Launch) (dC : Nat → ClassId) (dI : Nat → Nat → Nat) (ad : Nat → Nat) (cz ci cj : ClassId) (sz : Nat) (cnt : Int32) (fO : Nat → Int32) (fA : Nat → Int32) (fB : Nat → Int32) (fT : Nat → Int32) (sv : Int32) (fC : Nat → Int64) (rs : Int64) (dk : Int32) (ds : Int32) (fL : Nat → Int32) (fl : Nat → Int32) (fh : Nat → Int32) (n : Nat) (ao : Int32) (x : Int32) (y : Int32) (hn : n < 60) (hao : vp_nar .boolean ao = ao) : Met l yX0_makeState wX0_makeState ({ frames := 0, cells := 0, slots := 0, locals := 0 }) (va_Pc [.ref (ad 0), .int (nI n), .int ao, .int x, .int y] (g_Pre (dC, dI) vwCl (gty cz ci cj) (gw ad cz ci cj (cnt, fO, fA, fB, fT, sv, fC, rs, dk, ds, fL, fl, fh)) sz)) (va_Qv (fun (u : GS) => ∃ fT2 : Nat → Int32, (∀ i, fT2 i = if n * 12 ≤ i ∧ i < n * 12 + 12 then 0 else fT i) ∧ u = (cnt, upd fO n ao, upd fA n x, upd fB n y, fT2, 0, fC, rs, dk, ds, fL, fl, fh)) (g_At (dC, dI) vwCl (gty cz ci cj) (va_A (gw ad cz ci cj (cnt, fO, fA, fB, fT, sv, fC, rs, dk, ds, fL, fl, fh)) sz) (gw ad cz ci cj)) (va_A (gw ad cz ci cj (cnt, fO, fA, fB, fT, sv, fC, rs, dk, ds, fL, fl, fh)) sz)) 0 0 (va_A (gw ad cz ci cj (cnt, fO, fA, fB, fT, sv, fC, rs, dk, ds, fL, fl, fh)) sz) := by
  refine Met.ofW (cc := cX0_makeState) (maxL := 6) (ret := none) (by decide) rfl ?_
  intro p e s m args below meth c s₁ Bd hml hv
  obtain ⟨rfl, hsz, hP, hK, hD0⟩ := hv
  have hx := Bd.exec
  have hb := Bd.bytes
  have hr := Bd.returns
  have hts := atoms_spec (ws := wX0_makeState) Bd.pre
  have hw : ∀ w ∈ wAll, w.before _ s = true := fun w h => hts w (List.mem_cons_of_mem _ h)
  have hown : s.vm.findClass "GameGraph" = some m.cls := findClass_of_methodNamed Bd.named
  have hlocks := Bd.notSynchronized
  subst hsz
  have hD := hD0.self (sz := s.heap.size)
  generalize hAe : va_A (gw ad cz ci cj (cnt, fO, fA, fB, fT, sv, fC, rs, dk, ds, fL, fl, fh)) s.heap.size = Ar at hD ⊢
  have hA : ∀ q : Nat, s.heap.size ≤ q → Ar q := fun q h => by rw [← hAe]; exact Or.inr h
  obtain ⟨H, hH⟩ : ∃ H : Heap, H = s.heap := ⟨_, rfl⟩
  have hS : va_S Ar s.heap H [] := by rw [hH]; exact va_S.rf
  have hP : va_P (dC, dI) vwCl (gw ad cz ci cj (cnt, fO, fA, fB, fT, sv, fC, rs, dk, ds, fL, fl, fh)) H := by rw [hH]; exact hP
  rw [← hH]
  have hl := lv_entry ([.ref (ad 0), .int (nI n), .int ao, .int x, .int y]) (n := 6) (Nat.le_of_ble_eq_true rfl)
  rw [lg_entry_eq]
  generalize (lg_sl ([.ref (ad 0), .int (nI n), .int ao, .int x, .int y]) ++ List.replicate (6 - (lg_sl ([.ref (ad 0), .int (nI n), .int ao, .int x, .int y])).length) Slot.unset).toArray = ls at hl ⊢
  have hl : lv_has ls 6 [(0, .ref (ad 0)), (1, .int (nI n)), (2, .int ao), (3, .int x), (4, .int y)] := hl
  refine lv_aload_n hx hb dX0_makeState_0 rfl (lv_at hl 0 rfl) ?_
  refine va_get (D := (dC, dI)) (ci := 0) (v := .ref (ad 1)) (C := RX0) (T := TX0) (N := 13) hx hb hw in_X0 hown hK hP 0 rfl rfl 1 (by decide) (hw _ m_1_19) (fun _ h9 => h9) rfl dX0_makeState_1 ?_
  refine lv_iload_n hx hb dX0_makeState_4 rfl (lv_at hl 1 rfl) ?_
  refine lv_iload_n hx hb dX0_makeState_5 rfl (lv_at hl 2 rfl) ?_
  refine va_zast hx hb hK hP hD hS 1 0 rfl rfl (vp_in_nI (by omega) (by decide)) dX0_makeState_6 (fun H locs hP hD hS => ?_)
  rw [nI_clamp (by omega)] at hP hD
  rw [hao] at hP hD
  have hP : va_P (dC, dI) vwCl (gw ad cz ci cj (cnt, (upd fO n ao), fA, fB, fT, sv, fC, rs, dk, ds, fL, fl, fh)) H := hP
  have hD : va_D Ar (gw ad cz ci cj (cnt, (upd fO n ao), fA, fB, fT, sv, fC, rs, dk, ds, fL, fl, fh)) := hD
  refine lv_aload_n hx hb dX0_makeState_7 rfl (lv_at hl 0 rfl) ?_
  refine va_get (D := (dC, dI)) (ci := 0) (v := .ref (ad 2)) (C := RX0) (T := TX0) (N := 13) hx hb hw in_X0 hown hK hP 0 rfl rfl 2 (by decide) (hw _ m_1_20) (fun _ h9 => h9) rfl dX0_makeState_8 ?_
  refine lv_iload_n hx hb dX0_makeState_11 rfl (lv_at hl 1 rfl) ?_
  refine lv_iload_n hx hb dX0_makeState_12 rfl (lv_at hl 3 rfl) ?_
  refine va_iast hx hb hK hP hD hS 2 1 rfl rfl (vp_in_nI (by omega) (by decide)) dX0_makeState_13 (fun H locs hP hD hS => ?_)
  rw [nI_clamp (by omega)] at hP hD
  have hP : va_P (dC, dI) vwCl (gw ad cz ci cj (cnt, (upd fO n ao), (upd fA n x), fB, fT, sv, fC, rs, dk, ds, fL, fl, fh)) H := hP
  have hD : va_D Ar (gw ad cz ci cj (cnt, (upd fO n ao), (upd fA n x), fB, fT, sv, fC, rs, dk, ds, fL, fl, fh)) := hD
  refine lv_aload_n hx hb dX0_makeState_14 rfl (lv_at hl 0 rfl) ?_
  refine va_get (D := (dC, dI)) (ci := 0) (v := .ref (ad 3)) (C := RX0) (T := TX0) (N := 13) hx hb hw in_X0 hown hK hP 0 rfl rfl 3 (by decide) (hw _ m_1_21) (fun _ h9 => h9) rfl dX0_makeState_15 ?_
  refine lv_iload_n hx hb dX0_makeState_18 rfl (lv_at hl 1 rfl) ?_
  refine lv_iload hx hb dX0_makeState_19 (lv_at hl 4 rfl) ?_
  refine va_iast hx hb hK hP hD hS 3 1 rfl rfl (vp_in_nI (by omega) (by decide)) dX0_makeState_21 (fun H locs hP hD hS => ?_)
  rw [nI_clamp (by omega)] at hP hD
  have hP : va_P (dC, dI) vwCl (gw ad cz ci cj (cnt, (upd fO n ao), (upd fA n x), (upd fB n y), fT, sv, fC, rs, dk, ds, fL, fl, fh)) H := hP
  have hD : va_D Ar (gw ad cz ci cj (cnt, (upd fO n ao), (upd fA n x), (upd fB n y), fT, sv, fC, rs, dk, ds, fL, fl, fh)) := hD
  refine lv_iconst (v := 0) hx hb dX0_makeState_22 (by decide) ?_
  refine lv_istore (lv' := [(5, .int 0), (0, .ref (ad 0)), (1, .int (nI n)), (2, .int ao), (3, .int x), (4, .int y)]) hx hb dX0_makeState_23 hl (by decide) rfl (fun ls hl => ?_)
  refine lp_makeState (dC := dC) (dI := dI) (ad := ad) (cz := cz) (ci := ci) (cj := cj) (Ar := Ar) hx hb hml hown hw hK hA (Nat.le_of_ble_eq_true rfl) (Nat.le_of_ble_eq_true rfl) cnt (upd fO n ao) (upd fA n x) (upd fB n y) fT sv fC rs dk ds fL fl fh n hn ?_ 13 0 fT (by omega) (by omega) (fun i => by rw [if_neg (by omega)]) _ _ hP hD hS _ (lv_sub hl [1, 2, 0] rfl)
  intro fT2 hT H locs hP hD hS ls hl
  refine lv_aload_n hx hb dX0_makeState_51 rfl (lv_at hl 0 rfl) ?_
  refine lv_iconst (v := 0) hx hb dX0_makeState_52 (by decide) ?_
  refine va_put (D := (dC, dI)) (ci := 0) (v := .int 0) (ty := .boolean) (C := RX0) (T := TX0) (N := 13) hx hb hw in_X0 tyX0 tyX0_ok nmX0 hown hK hP hD hS 0 rfl rfl 5 (by decide) (hw _ m_1_23) (fun _ h9 => h9) rfl (by decide +kernel) rfl rfl (Nat.le_of_ble_eq_true rfl) dX0_makeState_53 (fun H locs hP hD hS => ?_)
  have hP : va_P (dC, dI) vwCl (gw ad cz ci cj (cnt, (upd fO n ao), (upd fA n x), (upd fB n y), fT2, 0, fC, rs, dk, ds, fL, fl, fh)) H := hP
  have hD : va_D Ar (gw ad cz ci cj (cnt, (upd fO n ao), (upd fA n x), (upd fB n y), fT2, 0, fC, rs, dk, ds, fL, fl, fh)) := hD
  exact W.vret hx hb hr (fun t ht hW => ⟨⟨(cnt, (upd fO n ao), (upd fA n x), (upd fB n y), fT2, 0, fC, rs, dk, ds, fL, fl, fh), rfl, (⟨fT2, hT, rfl⟩), (by rw [ht]; exact hP), va_K.moved hW.alike hK, hD⟩, hS.F ht⟩) hS.2.2 dX0_makeState_56
theorem k_even {fO2 fA2 fB2 fT2 fT3 : Nat → Int32} {i : Nat} (hI : ∀ k, k < i → fO2 k = 0 ∧ fA2 k = 50 ∧ fB2 k = 50 ∧ ∀ j, j < 12 → fT2 (k * 12 + j) = 0) (hT3 : ∀ q, fT3 q = if i * 12 ≤ q ∧ q < i * 12 + 12 then 0 else fT2 q) :
    ∀ k, k < i + 1 → upd fO2 i 0 k = 0 ∧ upd fA2 i 50 k = 50 ∧ upd fB2 i 50 k = 50 ∧ ∀ j, j < 12 → fT3 (k * 12 + j) = 0 := by
  intro k hk
  rcases Nat.lt_or_ge k i with q | q
  · obtain ⟨a, b, c, d⟩ := hI k q
    refine ⟨by rw [pk_un (by omega)]; exact a, by rw [pk_un (by omega)]; exact b, by rw [pk_un (by omega)]; exact c, fun j hj => ?_⟩
    rw [hT3, if_neg (by omega)]
    exact d j hj
  · have e : k = i := by omega
    subst e
    exact ⟨pk_us, pk_us, pk_us, fun j hj => by rw [hT3, if_pos (by omega)]⟩
set_option maxHeartbeats 4000000 in
set_option maxRecDepth 100000 in
/-- makeEvenEnds: its loop -/
theorem lp_makeEvenEnds {p : Program} {l : Launch} {e : Env} {R : Room} {s : State} {m : MethodId} {args : Array Value} {below : List Frame} {meth : Method} {c : Code} {Q : State → Prop} {dC : Nat → ClassId} {dI : Nat → Nat → Nat} {ad : Nat → Nat} {cz ci cj : ClassId} {Ar : Nat → Prop} (hx : p.tables.exec = Jvm.exec) (hb : c.code = cX0_makeEvenEnds) (hml : c.maxLocals = 3) (hown : s.vm.findClass "GameGraph" = some m.cls) (hw : ∀ w ∈ wAll, w.before args s = true) (hK : va_K (dC, dI) vwCl (gty cz ci cj) s) (hA : ∀ q, s.heap.size ≤ q → Ar q) (hR1 : 1 ≤ R.frames) (hR2 : 25 ≤ R.locals) (fC : Nat → Int64) (rs : Int64) (dk ds : Int32) (fL fl fh : Nat → Int32) (num : Nat) (hn1 : 1 ≤ num) (hn : num ≤ 60)
    (kx : ∀ (fO2 : Nat → Int32) (fA2 : Nat → Int32) (fB2 : Nat → Int32) (fT2 : Nat → Int32) (sv2 : Int32), (∀ k, k < num → fO2 k = 0 ∧ fA2 k = 50 ∧ fB2 k = 50 ∧ ∀ j, j < 12 → fT2 (k * 12 + j) = 0) → sv2 = 0 → ∀ (H : Heap) (locs : List Loc), va_P (dC, dI) vwCl (gw ad cz ci cj ((nI num), fO2, fA2, fB2, fT2, sv2, fC, rs, dk, ds, fL, fl, fh)) H → va_D Ar (gw ad cz ci cj ((nI num), fO2, fA2, fB2, fT2, sv2, fC, rs, dk, ds, fL, fl, fh)) → va_S Ar s.heap H locs → ∀ (ls : Array Slot), lv_has ls 3 [(0, .ref (ad 0))] → W p l e R s m args below meth c H locs 0 0 Q (F0 m 28 ls [])) :
    ∀ (fuel : Nat) (i : Nat) (fO2 : Nat → Int32) (fA2 : Nat → Int32) (fB2 : Nat → Int32) (fT2 : Nat → Int32) (sv2 : Int32), num + 1 ≤ i + fuel → i ≤ num → (∀ k, k < i → fO2 k = 0 ∧ fA2 k = 50 ∧ fB2 k = 50 ∧ ∀ j, j < 12 → fT2 (k * 12 + j) = 0) → (0 < i → sv2 = 0) → ∀ (H : Heap) (locs : List Loc), va_P (dC, dI) vwCl (gw ad cz ci cj ((nI num), fO2, fA2, fB2, fT2, sv2, fC, rs, dk, ds, fL, fl, fh)) H → va_D Ar (gw ad cz ci cj ((nI num), fO2, fA2, fB2, fT2, sv2, fC, rs, dk, ds, fL, fl, fh)) → va_S Ar s.heap H locs → ∀ (ls : Array Slot), lv_has ls 3 [(0, .ref (ad 0)), (1, .int (nI num)), (2, .int (nI i))] → W p l e R s m args below meth c H locs 0 0 Q (F0 m 7 ls []) := by
  intro fuel
  induction fuel with
  | zero => intro i fO2 fA2 fB2 fT2 sv2 hfu hi hI hs; exact absurd hfu (by omega)
  | succ fuel ih =>
    intro i fO2 fA2 fB2 fT2 sv2 hfu hi hI hs H locs hP hD hS ls hl
    refine lv_iload_n hx hb dX0_makeEvenEnds_7 rfl (lv_at hl 2 rfl) ?_
    refine lv_iload_n hx hb dX0_makeEvenEnds_8 rfl (lv_at hl 1 rfl) ?_
    refine lv_icmp_ge (tgt := 28) hx hb dX0_makeEvenEnds_9 (by decide) (fun c_1 => ?_) (fun c_1 => ?_)
    · exact kx fO2 fA2 fB2 fT2 sv2 (by rw [show num = i from k_eq hi c_1 (by omega)]; exact hI) (hs (by have := k_eq hi c_1 (by omega); omega)) _ _ hP hD hS _ (lv_sub hl [0] rfl)
    · have hlt : i < num := k_lt c_1 (by omega)
      refine lv_aload_n hx hb dX0_makeEvenEnds_12 rfl (lv_at hl 0 rfl) ?_
      refine lv_iload_n hx hb dX0_makeEvenEnds_13 rfl (lv_at hl 2 rfl) ?_
      refine lv_iconst (v := 0) hx hb dX0_makeEvenEnds_14 (by decide) ?_
      refine lv_bipush (v := 50) hx hb dX0_makeEvenEnds_15 (by decide) ?_
      refine lv_bipush (v := 50) hx hb dX0_makeEvenEnds_17 (by decide) ?_
      refine g_callv ⟨hx, hb, hml, hown, hw⟩ (c_X0_makeState l dC dI ad cz ci cj H.size (nI num) fO2 fA2 fB2 fT2 sv2 fC rs dk ds fL fl fh i 0 50 50 (by omega) (by decide)) (cwV 4 hw gv_X0_X0_makeState rfl rfl rfl (by decide +kernel) ⟨Nat.le_trans (Nat.le_of_ble_eq_true rfl) hR1, Nat.le_trans (Nat.le_of_ble_eq_true rfl) hR2⟩) hK hP hD hS hA (ci := 0) (q0 := 0) rfl rfl rfl hl.1 rfl (Nat.le_of_ble_eq_true rfl) dX0_makeEvenEnds_19 ⟨Nat.zero_le _, Nat.zero_le _⟩ (fun  un H locs hq hP hD hS => ?_)
      obtain ⟨fT3, hT3, rfl⟩ := hq
      have hP : va_P (dC, dI) vwCl (gw ad cz ci cj ((nI num), (upd fO2 i 0), (upd fA2 i 50), (upd fB2 i 50), fT3, 0, fC, rs, dk, ds, fL, fl, fh)) H := hP
      have hD : va_D Ar (gw ad cz ci cj ((nI num), (upd fO2 i 0), (upd fA2 i 50), (upd fB2 i 50), fT3, 0, fC, rs, dk, ds, fL, fl, fh)) := hD
      refine lv_iinc (v := (nI (i + 1))) (lv' := [(2, .int (nI (i + 1))), (0, .ref (ad 0)), (1, .int (nI num))]) hx hb dX0_makeEvenEnds_22 hl (k := 2) rfl (nI_1 i) (by decide) rfl (fun ls hl => ?_)
      refine lv_goto (tgt := 7) hx hb dX0_makeEvenEnds_25 (by decide) ?_
      exact ih (i + 1) (upd fO2 i 0) (upd fA2 i 50) (upd fB2 i 50) fT3 0 (by omega) (by omega) (k_even hI hT3) (fun _ => rfl) _ _ hP hD hS _ (lv_sub hl [1, 2, 0] rfl)
set_option maxHeartbeats 4000000 in
set_option maxRecDepth 100000 in
/-- makeEvenEnds(num) -/
theorem c_X0_makeEvenEnds (l : Launch) (dC : Nat → ClassId) (dI : Nat → Nat → Nat) (ad : Nat → Nat) (cz ci cj : ClassId) (sz : Nat) (cnt : Int32) (fO : Nat → Int32) (fA : Nat → Int32) (fB : Nat → Int32) (fT : Nat → Int32) (sv : Int32) (fC : Nat → Int64) (rs : Int64) (dk : Int32) (ds : Int32) (fL : Nat → Int32) (fl : Nat → Int32) (fh : Nat → Int32) (num : Nat) (hn1 : 1 ≤ num) (hn : num ≤ 60) : Met l yX0_makeEvenEnds wX0_makeEvenEnds ({ frames := 1, cells := 0, slots := 0, locals := 25 }) (va_Pc [.ref (ad 0), .int (nI num)] (g_Pre (dC, dI) vwCl (gty cz ci cj) (gw ad cz ci cj (cnt, fO, fA, fB, fT, sv, fC, rs, dk, ds, fL, fl, fh)) sz)) (va_Qv (fun (u : GS) => ∃ fO2 fA2 fB2 fT2 : Nat → Int32, (∀ k, k < num → fO2 k = 0 ∧ fA2 k = 50 ∧ fB2 k = 50 ∧ ∀ j, j < 12 → fT2 (k * 12 + j) = 0) ∧ u = (nI num, fO2, fA2, fB2, fT2, 0, fC, rs, dk, ds, fL, fl, fh)) (g_At (dC, dI) vwCl (gty cz ci cj) (va_A (gw ad cz ci cj (cnt, fO, fA, fB, fT, sv, fC, rs, dk, ds, fL, fl, fh)) sz) (gw ad cz ci cj)) (va_A (gw ad cz ci cj (cnt, fO, fA, fB, fT, sv, fC, rs, dk, ds, fL, fl, fh)) sz)) 0 0 (va_A (gw ad cz ci cj (cnt, fO, fA, fB, fT, sv, fC, rs, dk, ds, fL, fl, fh)) sz) := by
  refine Met.ofW (cc := cX0_makeEvenEnds) (maxL := 3) (ret := none) (by decide) rfl ?_
  intro p e s m args below meth c s₁ Bd hml hv
  obtain ⟨rfl, hsz, hP, hK, hD0⟩ := hv
  have hx := Bd.exec
  have hb := Bd.bytes
  have hr := Bd.returns
  have hts := atoms_spec (ws := wX0_makeEvenEnds) Bd.pre
  have hw : ∀ w ∈ wAll, w.before _ s = true := fun w h => hts w (List.mem_cons_of_mem _ h)
  have hown : s.vm.findClass "GameGraph" = some m.cls := findClass_of_methodNamed Bd.named
  have hlocks := Bd.notSynchronized
  subst hsz
  have hD := hD0.self (sz := s.heap.size)
  generalize hAe : va_A (gw ad cz ci cj (cnt, fO, fA, fB, fT, sv, fC, rs, dk, ds, fL, fl, fh)) s.heap.size = Ar at hD ⊢
  have hA : ∀ q : Nat, s.heap.size ≤ q → Ar q := fun q h => by rw [← hAe]; exact Or.inr h
  obtain ⟨H, hH⟩ : ∃ H : Heap, H = s.heap := ⟨_, rfl⟩
  have hS : va_S Ar s.heap H [] := by rw [hH]; exact va_S.rf
  have hP : va_P (dC, dI) vwCl (gw ad cz ci cj (cnt, fO, fA, fB, fT, sv, fC, rs, dk, ds, fL, fl, fh)) H := by rw [hH]; exact hP
  rw [← hH]
  have hl := lv_entry ([.ref (ad 0), .int (nI num)]) (n := 3) (Nat.le_of_ble_eq_true rfl)
  rw [lg_entry_eq]
  generalize (lg_sl ([.ref (ad 0), .int (nI num)]) ++ List.replicate (3 - (lg_sl ([.ref (ad 0), .int (nI num)])).length) Slot.unset).toArray = ls at hl ⊢
  have hl : lv_has ls 3 [(0, .ref (ad 0)), (1, .int (nI num))] := hl
  refine lv_aload_n hx hb dX0_makeEvenEnds_0 rfl (lv_at hl 0 rfl) ?_
  refine lv_iload_n hx hb dX0_makeEvenEnds_1 rfl (lv_at hl 1 rfl) ?_
  refine va_put (D := (dC, dI)) (ci := 0) (v := .int (nI num)) (ty := .int) (C := RX0) (T := TX0) (N := 13) hx hb hw in_X0 tyX0 tyX0_ok nmX0 hown hK hP hD hS 0 rfl rfl 0 (by decide) (hw _ m_1_18) (fun _ h9 => h9) rfl (by decide +kernel) rfl rfl (Nat.le_of_ble_eq_true rfl) dX0_makeEvenEnds_2 (fun H locs hP hD hS => ?_)
  have hP : va_P (dC, dI) vwCl (gw ad cz ci cj ((nI num), fO, fA, fB, fT, sv, fC, rs, dk, ds, fL, fl, fh)) H := hP
  have hD : va_D Ar (gw ad cz ci cj ((nI num), fO, fA, fB, fT, sv, fC, rs, dk, ds, fL, fl, fh)) := hD
  refine lv_iconst (v := 0) hx hb dX0_makeEvenEnds_5 (by decide) ?_
  refine x_topi (y := nI 0) (rfl) ?_
  refine lv_istore_n (lv' := [(2, .int (nI 0)), (0, .ref (ad 0)), (1, .int (nI num))]) hx hb dX0_makeEvenEnds_6 rfl hl (by decide) rfl (fun ls hl => ?_)
  refine lp_makeEvenEnds (dC := dC) (dI := dI) (ad := ad) (cz := cz) (ci := ci) (cj := cj) (Ar := Ar) hx hb hml hown hw hK hA (Nat.le_of_ble_eq_true rfl) (Nat.le_of_ble_eq_true rfl) fC rs dk ds fL fl fh num hn1 hn ?_ (num + 1) 0 fO fA fB fT sv (by omega) (by omega) (fun k hk => absurd hk (Nat.not_lt_zero _)) (fun h => absurd h (Nat.lt_irrefl _)) _ _ hP hD hS _ (lv_sub hl [1, 2, 0] rfl)
  intro fO2 fA2 fB2 fT2 sv2 hI hs H locs hP hD hS ls hl
  subst hs
  exact W.vret hx hb hr (fun t ht hW => ⟨⟨((nI num), fO2, fA2, fB2, fT2, 0, fC, rs, dk, ds, fL, fl, fh), rfl, (⟨fO2, fA2, fB2, fT2, hI, rfl⟩), (by rw [ht]; exact hP), va_K.moved hW.alike hK, hD⟩, hS.F ht⟩) hS.2.2 dX0_makeEvenEnds_28
end
section
/-! The graph that an object holds. -/
def gmv (fO fA fB : Nat → Int32) (n : Nat) : Nat := if fO n = 0 then 0 else (fA n).toNatClampNeg * (fB n).toNatClampNeg
def gtg (fT : Nat → Int32) (n j : Nat) : Nat := (fT (n * 12 + j)).toNatClampNeg
/-- count c states, each an end with goals -2 .. 100, or open with its moves; all targets are states -/
def g_ok (c : Nat) (fO fA fB fT : Nat → Int32) : Prop := 1 ≤ c ∧ c ≤ 60 ∧ ∀ n, n < c → (fO n = 0 ∨ fO n = 1) ∧ (fO n = 0 → -2 ≤ (fA n).toInt ∧ (fA n).toInt ≤ 100 ∧ -2 ≤ (fB n).toInt ∧ (fB n).toInt ≤ 100) ∧ (fO n ≠ 0 → ∃ a b, a ≤ 12 ∧ b ≤ 12 ∧ a * b ≤ 12 ∧ fA n = nI a ∧ fB n = nI b) ∧ ∀ j, j < 12 → ∃ t, t < c ∧ fT (n * 12 + j) = nI t
theorem g_mvI {c : Nat} {fO fA fB fT : Nat → Int32} (h : g_ok c fO fA fB fT) {n : Nat} (hn : n < c) : (if fO n = 0 then (0 : Int32) else fA n * fB n) = nI (gmv fO fA fB n) ∧ gmv fO fA fB n ≤ 12 := by
  unfold gmv
  by_cases h0 : fO n = 0
  · rw [if_pos h0, if_pos h0]; exact ⟨rfl, by omega⟩
  · rw [if_neg h0, if_neg h0]
    obtain ⟨a, b, ha, hb, hab, ea, eb⟩ := (h.2.2 n hn).2.2.1 h0
    rw [ea, eb, pk_mul, nI_clamp (by omega), nI_clamp (by omega)]
    exact ⟨rfl, hab⟩
theorem g_tgI {c : Nat} {fO fA fB fT : Nat → Int32} (h : g_ok c fO fA fB fT) {n j : Nat} (hn : n < c) (hj : j < 12) : fT (n * 12 + j) = nI (gtg fT n j) ∧ gtg fT n j < c := by
  obtain ⟨t, ht, e⟩ := (h.2.2 n hn).2.2.2 j hj
  have hc := h.2.1
  unfold gtg
  rw [e, nI_clamp (by omega)]
  exact ⟨rfl, ht⟩
theorem g_sok {c : Nat} {fO fA fB fT : Nat → Int32} (h : g_ok c fO fA fB fT) : s_ok c (gmv fO fA fB) (gtg fT) :=
  ⟨h.1, fun n hn j hj => (g_tgI h hn (by have := (g_mvI h hn).2; omega)).2⟩
theorem k_b0 {b : Bool} {r : Int32} (h : r = if b = true then 1 else 0) (h0 : r = 0) : b = false := by
  cases b with
  | false => rfl
  | true => rw [if_pos rfl] at h; rw [h] at h0; exact absurd h0 (by decide)
theorem k_b1 {b : Bool} {r : Int32} (h : r = if b = true then 1 else 0) (h0 : ¬ r = 0) : b = true := by
  cases b with
  | true => rfl
  | false => rw [if_neg (by decide)] at h; exact absurd h h0
/-- one more target -/
theorem k_or {E : Nat → Prop} {s : Int64} {t : Nat} (ht : t < 64) {P : Nat → Prop} (h : ∀ m, b_t s m = true ↔ P m) (hE : ∀ m, E m ↔ P m ∨ m = t) : ∀ m, b_t (s ||| ((1 : Int64) <<< ((nI t).toInt64 &&& 63))) m = true ↔ E m := by
  intro m
  rw [b_t_or, b_t_1 ht, Bool.or_eq_true, h m, decide_eq_true_eq, hE m]
/-- Warshall's round, a row -/
theorem k_wk {E : Nat → Nat → Prop} {k m : Nat} : w_pt E (k + 1) k m ↔ w_pt E k k m := by
  constructor
  · rintro (h | ⟨_, h⟩)
    · exact h
    · exact h
  · exact Or.inl
/-- the rows of comesTo in round k, those below n done -/
def g_cr (E : Nat → Nat → Prop) (c k n : Nat) (C : Nat → Int64) : Prop := ∀ a, a < c → ∀ m, b_t (C a) m = true ↔ if a < n then w_pt E (k + 1) a m else w_pt E k a m
theorem g_cr_no {E : Nat → Nat → Prop} {c k n : Nat} {C : Nat → Int64} (h : g_cr E c k n C) (hn : n < c) (hb : b_t (C n) k = false) : g_cr E c k (n + 1) C := by
  intro a ha m
  rw [h a ha m]
  by_cases e : a = n
  · subst e
    rw [if_neg (Nat.lt_irrefl _), if_pos (by omega)]
    constructor
    · exact Or.inl
    · rintro (q | ⟨q, _⟩)
      · exact q
      · have := (h a ha k).mpr (by rw [if_neg (Nat.lt_irrefl _)]; exact q)
        rw [hb] at this; cases this
  · by_cases q : a < n
    · rw [if_pos q, if_pos (by omega)]
    · rw [if_neg q, if_neg (by omega)]
theorem g_cr_yes {E : Nat → Nat → Prop} {c k n : Nat} {C : Nat → Int64} (h : g_cr E c k n C) (hn : n < c) (hk : k < c) (hb : b_t (C n) k = true) : g_cr E c k (n + 1) (vp_updL C n (C n ||| C k)) := by
  have hnk : w_pt E k n k := by
    have := (h n hn k).mp hb
    rwa [if_neg (Nat.lt_irrefl _)] at this
  have hkk : ∀ m, b_t (C k) m = true ↔ w_pt E k k m := fun m => by
    rw [h k hk m]
    by_cases q : k < n
    · rw [if_pos q, k_wk]
    · rw [if_neg q]
  intro a ha m
  by_cases e : a = n
  · subst e
    rw [pk_uLs, b_t_or, Bool.or_eq_true, h a ha m, hkk m, if_neg (Nat.lt_irrefl _), if_pos (by omega)]
    constructor
    · rintro (q | q)
      · exact Or.inl q
      · exact Or.inr ⟨hnk, q⟩
    · rintro (q | ⟨_, q⟩)
      · exact Or.inl q
      · exact Or.inr q
  · rw [pk_uLn e, h a ha m]
    by_cases q : a < n
    · rw [if_pos q, if_pos (by omega)]
    · rw [if_neg q, if_neg (by omega)]
theorem g_cr_next {E : Nat → Nat → Prop} {c k : Nat} {C : Nat → Int64} (h : g_cr E c k c C) : g_cr E c (k + 1) 0 C := by
  intro a ha m
  rw [h a ha m, if_pos ha, if_neg (Nat.not_lt_zero _)]
end
section
/-! What states come to (by tool/come.py). -/
theorem k_ex {f : Nat → Nat} {j m : Nat} : (∃ i, i < j + 1 ∧ f i = m) ↔ (∃ i, i < j ∧ f i = m) ∨ m = f j := by
  constructor
  · rintro ⟨i, hi, e⟩
    rcases Nat.lt_or_ge i j with q | q
    · exact Or.inl ⟨i, q, e⟩
    · have : i = j := by omega
      subst this
      exact Or.inr e.symm
  · rintro (⟨i, hi, e⟩ | e)
    · exact ⟨i, by omega, e⟩
    · exact ⟨j, by omega, e.symm⟩
set_option maxHeartbeats 4000000 in
set_option maxRecDepth 100000 in
theorem lp_goesTo {p : Program} {l : Launch} {e : Env} {R : Room} {s : State} {m : MethodId} {args : Array Value} {below : List Frame} {meth : Method} {c : Code} {Q : State → Prop} {dC : Nat → ClassId} {dI : Nat → Nat → Nat} {ad : Nat → Nat} {cz ci cj : ClassId} {Ar : Nat → Prop} (hx : p.tables.exec = Jvm.exec) (hb : c.code = cX0_goesTo) (hml : c.maxLocals = 6) (hown : s.vm.findClass "GameGraph" = some m.cls) (hw : ∀ w ∈ wAll, w.before args s = true) (hK : va_K (dC, dI) vwCl (gty cz ci cj) s) (hA : ∀ q, s.heap.size ≤ q → Ar q) (hR1 : 1 ≤ R.frames) (hR2 : 22 ≤ R.locals) (cnt : Int32) (fO fA fB fT : Nat → Int32) (sv : Int32) (fC : Nat → Int64) (rs : Int64) (dk ds : Int32) (fL fl fh : Nat → Int32) (n : Nat) (c0 : Nat) (hg : g_ok c0 fO fA fB fT) (hn : n < c0)
    (kx : ∀ (set : Int64), (∀ m, b_t set m = true ↔ ∃ i, i < (gmv fO fA fB n) ∧ gtg fT n i = m) → ∀ (H : Heap) (locs : List Loc), va_P (dC, dI) vwCl (gw ad cz ci cj (cnt, fO, fA, fB, fT, sv, fC, rs, dk, ds, fL, fl, fh)) H → va_D Ar (gw ad cz ci cj (cnt, fO, fA, fB, fT, sv, fC, rs, dk, ds, fL, fl, fh)) → va_S Ar s.heap H locs → ∀ (ls : Array Slot), lv_has ls 6 [(0, .ref (ad 0)), (2, .long set)] → W p l e R s m args below meth c H locs 0 0 Q (F0 m 37 ls [])) :
    ∀ (fuel : Nat) (j : Nat) (set : Int64), gmv fO fA fB n + 1 ≤ j + fuel → j ≤ gmv fO fA fB n → (∀ m, b_t set m = true ↔ ∃ i, i < j ∧ gtg fT n i = m) → ∀ (H : Heap) (locs : List Loc), va_P (dC, dI) vwCl (gw ad cz ci cj (cnt, fO, fA, fB, fT, sv, fC, rs, dk, ds, fL, fl, fh)) H → va_D Ar (gw ad cz ci cj (cnt, fO, fA, fB, fT, sv, fC, rs, dk, ds, fL, fl, fh)) → va_S Ar s.heap H locs → ∀ (ls : Array Slot), lv_has ls 6 [(0, .ref (ad 0)), (1, .int (nI n)), (2, .long set), (4, .int (nI (gmv fO fA fB n))), (5, .int (nI j))] → W p l e R s m args below meth c H locs 0 0 Q (F0 m 12 ls []) := by
  intro fuel
  induction fuel with
  | zero => intro j set hfu hj hI; exact absurd hfu (by omega)
  | succ fuel ih =>
    intro j set hfu hj hI H locs hP hD hS ls hl
    refine lv_iload hx hb dX0_goesTo_12 (lv_at hl 4 rfl) ?_
    refine lv_iload hx hb dX0_goesTo_14 (lv_at hl 3 rfl) ?_
    refine lv_icmp_ge (tgt := 37) hx hb dX0_goesTo_16 (by decide) (fun c_1 => ?_) (fun c_1 => ?_)
    · exact kx set (fun m => by rw [hI m, k_eq hj c_1 (by have := (g_mvI hg hn).2; omega)]) _ _ hP hD hS _ (lv_sub hl [0, 2] rfl)
    · have h12 := (g_mvI hg hn).2
      have h60 := hg.2.1
      have hlt : j < gmv fO fA fB n := k_lt c_1 (by omega)
      refine lv_lload_n hx hb dX0_goesTo_19 rfl (lv_at hl 2 rfl) ?_
      refine lv_lconst (v := 1) hx hb dX0_goesTo_20 (by decide) ?_
      refine lv_aload_n hx hb dX0_goesTo_21 rfl (lv_at hl 0 rfl) ?_
      refine lv_iload_n hx hb dX0_goesTo_22 rfl (lv_at hl 1 rfl) ?_
      refine lv_iload hx hb dX0_goesTo_23 (lv_at hl 4 rfl) ?_
      refine g_calli ⟨hx, hb, hml, hown, hw⟩ (c_X0_target l dC dI ad cz ci cj H.size cnt fO fA fB fT sv fC rs dk ds fL fl fh n j (by omega) (by omega)) (cwV 2 hw gv_X0_X0_target rfl rfl rfl (by decide +kernel) ⟨Nat.le_trans (Nat.le_of_ble_eq_true rfl) hR1, Nat.le_trans (Nat.le_of_ble_eq_true rfl) hR2⟩) hK hP hD hS hA (ci := 0) (q0 := 0) rfl rfl rfl hl.1 rfl (Nat.le_of_ble_eq_true rfl) dX0_goesTo_25 ⟨Nat.zero_le _, Nat.zero_le _⟩ (fun rb_2 un H locs hq hP hD hS => ?_)
      obtain ⟨rfl, hq⟩ := hq
      have hP : va_P (dC, dI) vwCl (gw ad cz ci cj (cnt, fO, fA, fB, fT, sv, fC, rs, dk, ds, fL, fl, fh)) H := hP
      have hD : va_D Ar (gw ad cz ci cj (cnt, fO, fA, fB, fT, sv, fC, rs, dk, ds, fL, fl, fh)) := hD
      have ht := g_tgI hg hn (j := j) (by omega)
      refine x_topi (y := nI (gtg fT n j)) (by rw [hq]; exact ht.1) ?_
      refine lv_lshl hx hb dX0_goesTo_28 rfl ?_
      refine lv_lor hx hb dX0_goesTo_29 ?_
      refine lv_lstore_n (lv' := [(2, .long (set ||| (1 <<< ((nI (gtg fT n j)).toInt64 &&& 63)))), (0, .ref (ad 0)), (1, .int (nI n)), (4, .int (nI (gmv fO fA fB n))), (5, .int (nI j))]) hx hb dX0_goesTo_30 rfl hl (by decide) rfl (fun ls hl => ?_)
      refine lv_iinc (v := (nI (j + 1))) (lv' := [(5, .int (nI (j + 1))), (2, .long (set ||| (1 <<< ((nI (gtg fT n j)).toInt64 &&& 63)))), (0, .ref (ad 0)), (1, .int (nI n)), (4, .int (nI (gmv fO fA fB n)))]) hx hb dX0_goesTo_31 hl (k := 4) rfl (nI_1 j) (by decide) rfl (fun ls hl => ?_)
      refine lv_goto (tgt := 12) hx hb dX0_goesTo_34 (by decide) ?_
      exact ih (j + 1) (set ||| (1 <<< ((nI (gtg fT n j)).toInt64 &&& 63))) (by omega) (by omega) (k_or (by omega) hI (fun m => k_ex)) _ _ hP hD hS _ (lv_sub hl [2, 3, 1, 4, 0] rfl)
set_option maxHeartbeats 4000000 in
set_option maxRecDepth 100000 in
/-- goesTo(n): the states that n goes to -/
theorem c_X0_goesTo (l : Launch) (dC : Nat → ClassId) (dI : Nat → Nat → Nat) (ad : Nat → Nat) (cz ci cj : ClassId) (sz : Nat) (cnt : Int32) (fO : Nat → Int32) (fA : Nat → Int32) (fB : Nat → Int32) (fT : Nat → Int32) (sv : Int32) (fC : Nat → Int64) (rs : Int64) (dk : Int32) (ds : Int32) (fL : Nat → Int32) (fl : Nat → Int32) (fh : Nat → Int32) (n : Nat) (c0 : Nat) (hg : g_ok c0 fO fA fB fT) (hn : n < c0) : Met l yX0_goesTo wX0_goesTo ({ frames := 1, cells := 0, slots := 0, locals := 22 }) (va_Pc [.ref (ad 0), .int (nI n)] (g_Pre (dC, dI) vwCl (gty cz ci cj) (gw ad cz ci cj (cnt, fO, fA, fB, fT, sv, fC, rs, dk, ds, fL, fl, fh)) sz)) (va_Ql (fun (r : Int64) (u : GS) => u = (cnt, fO, fA, fB, fT, sv, fC, rs, dk, ds, fL, fl, fh) ∧ ∀ m, b_t r m = true ↔ (s_ed (gmv fO fA fB) (gtg fT)) n m) (g_At (dC, dI) vwCl (gty cz ci cj) (va_A (gw ad cz ci cj (cnt, fO, fA, fB, fT, sv, fC, rs, dk, ds, fL, fl, fh)) sz) (gw ad cz ci cj)) (va_A (gw ad cz ci cj (cnt, fO, fA, fB, fT, sv, fC, rs, dk, ds, fL, fl, fh)) sz)) 0 0 (va_A (gw ad cz ci cj (cnt, fO, fA, fB, fT, sv, fC, rs, dk, ds, fL, fl, fh)) sz) := by
  refine Met.ofW (cc := cX0_goesTo) (maxL := 6) (ret := some .long) (by decide) rfl ?_
  intro p e s m args below meth c s₁ Bd hml hv
  obtain ⟨rfl, hsz, hP, hK, hD0⟩ := hv
  have hx := Bd.exec
  have hb := Bd.bytes
  have hr := Bd.returns
  have hts := atoms_spec (ws := wX0_goesTo) Bd.pre
  have hw : ∀ w ∈ wAll, w.before _ s = true := fun w h => hts w (List.mem_cons_of_mem _ h)
  have hown : s.vm.findClass "GameGraph" = some m.cls := findClass_of_methodNamed Bd.named
  have hlocks := Bd.notSynchronized
  subst hsz
  have hD := hD0.self (sz := s.heap.size)
  generalize hAe : va_A (gw ad cz ci cj (cnt, fO, fA, fB, fT, sv, fC, rs, dk, ds, fL, fl, fh)) s.heap.size = Ar at hD ⊢
  have hA : ∀ q : Nat, s.heap.size ≤ q → Ar q := fun q h => by rw [← hAe]; exact Or.inr h
  obtain ⟨H, hH⟩ : ∃ H : Heap, H = s.heap := ⟨_, rfl⟩
  have hS : va_S Ar s.heap H [] := by rw [hH]; exact va_S.rf
  have hP : va_P (dC, dI) vwCl (gw ad cz ci cj (cnt, fO, fA, fB, fT, sv, fC, rs, dk, ds, fL, fl, fh)) H := by rw [hH]; exact hP
  rw [← hH]
  have hl := lv_entry ([.ref (ad 0), .int (nI n)]) (n := 6) (Nat.le_of_ble_eq_true rfl)
  rw [lg_entry_eq]
  generalize (lg_sl ([.ref (ad 0), .int (nI n)]) ++ List.replicate (6 - (lg_sl ([.ref (ad 0), .int (nI n)])).length) Slot.unset).toArray = ls at hl ⊢
  have hl : lv_has ls 6 [(0, .ref (ad 0)), (1, .int (nI n))] := hl
  have h60 := hg.2.1
  refine lv_lconst (v := 0) hx hb dX0_goesTo_0 (by decide) ?_
  refine lv_lstore_n (lv' := [(2, .long 0), (0, .ref (ad 0)), (1, .int (nI n))]) hx hb dX0_goesTo_1 rfl hl (by decide) rfl (fun ls hl => ?_)
  refine lv_aload_n hx hb dX0_goesTo_2 rfl (lv_at hl 1 rfl) ?_
  refine lv_iload_n hx hb dX0_goesTo_3 rfl (lv_at hl 2 rfl) ?_
  refine g_calli ⟨hx, hb, hml, hown, hw⟩ (c_X0_jointMoves l dC dI ad cz ci cj H.size cnt fO fA fB fT sv fC rs dk ds fL fl fh n (by omega)) (cwV 1 hw gv_X0_X0_jointMoves rfl rfl rfl (by decide +kernel) ⟨Nat.le_of_ble_eq_true rfl, Nat.le_of_ble_eq_true rfl⟩) hK hP hD hS hA (ci := 0) (q0 := 0) rfl rfl rfl hl.1 rfl (Nat.le_of_ble_eq_true rfl) dX0_goesTo_4 ⟨Nat.zero_le _, Nat.zero_le _⟩ (fun r_1 un H locs hq hP hD hS => ?_)
  obtain ⟨rfl, hq⟩ := hq
  have hP : va_P (dC, dI) vwCl (gw ad cz ci cj (cnt, fO, fA, fB, fT, sv, fC, rs, dk, ds, fL, fl, fh)) H := hP
  have hD : va_D Ar (gw ad cz ci cj (cnt, fO, fA, fB, fT, sv, fC, rs, dk, ds, fL, fl, fh)) := hD
  refine x_topi (y := nI (gmv fO fA fB n)) (by rw [hq]; exact (g_mvI hg hn).1) ?_
  refine lv_istore (lv' := [(4, .int (nI (gmv fO fA fB n))), (2, .long 0), (0, .ref (ad 0)), (1, .int (nI n))]) hx hb dX0_goesTo_7 hl (by decide) rfl (fun ls hl => ?_)
  refine lv_iconst (v := 0) hx hb dX0_goesTo_9 (by decide) ?_
  refine lv_istore (lv' := [(5, .int 0), (4, .int (nI (gmv fO fA fB n))), (2, .long 0), (0, .ref (ad 0)), (1, .int (nI n))]) hx hb dX0_goesTo_10 hl (by decide) rfl (fun ls hl => ?_)
  refine lp_goesTo (dC := dC) (dI := dI) (ad := ad) (cz := cz) (ci := ci) (cj := cj) (Ar := Ar) hx hb hml hown hw hK hA (Nat.le_of_ble_eq_true rfl) (Nat.le_of_ble_eq_true rfl) cnt fO fA fB fT sv fC rs dk ds fL fl fh n c0 hg hn ?_ (gmv fO fA fB n + 1) 0 0 (by omega) (by omega) (fun m => by rw [b_t_0]; exact ⟨fun h => (by cases h), fun ⟨i, hi, _⟩ => absurd hi (Nat.not_lt_zero _)⟩) _ _ hP hD hS _ (lv_sub hl [3, 4, 2, 1, 0] rfl)
  intro set hI H locs hP hD hS ls hl
  refine lv_lload_n hx hb dX0_goesTo_37 rfl (lv_at hl 1 rfl) ?_
  exact W.lret (v := set) hx hb hr (fun t ht hW => ⟨⟨set, (cnt, fO, fA, fB, fT, sv, fC, rs, dk, ds, fL, fl, fh), rfl, (⟨rfl, hI⟩), (by rw [ht]; exact hP), va_K.moved hW.alike hK, hD⟩, hS.F ht⟩) hS.2.2 dX0_goesTo_38
theorem k_row {E : Nat → Nat → Prop} {C : Nat → Int64} {i : Nat} {r : Int64} (hI : ∀ a, a < i → ∀ m, b_t (C a) m = true ↔ E a m) (hq : ∀ m, b_t r m = true ↔ E i m) : ∀ a, a < i + 1 → ∀ m, b_t (vp_updL C i r a) m = true ↔ E a m := by
  intro a ha m
  by_cases e : a = i
  · subst e; rw [pk_uLs]; exact hq m
  · rw [pk_uLn e]; exact hI a (by omega) m
set_option maxHeartbeats 4000000 in
set_option maxRecDepth 100000 in
theorem lp_come1 {p : Program} {l : Launch} {e : Env} {R : Room} {s : State} {m : MethodId} {args : Array Value} {below : List Frame} {meth : Method} {c : Code} {Q : State → Prop} {dC : Nat → ClassId} {dI : Nat → Nat → Nat} {ad : Nat → Nat} {cz ci cj : ClassId} {Ar : Nat → Prop} (hx : p.tables.exec = Jvm.exec) (hb : c.code = cX0_findWhatStatesComeTo) (hml : c.maxLocals = 3) (hown : s.vm.findClass "GameGraph" = some m.cls) (hw : ∀ w ∈ wAll, w.before args s = true) (hK : va_K (dC, dI) vwCl (gty cz ci cj) s) (hA : ∀ q, s.heap.size ≤ q → Ar q) (hR1 : 2 ≤ R.frames) (hR2 : 47 ≤ R.locals) (fO fA fB fT : Nat → Int32) (sv : Int32) (rs : Int64) (dk ds : Int32) (fL fl fh : Nat → Int32) (c0 : Nat) (hg : g_ok c0 fO fA fB fT)
    (kx : ∀ (fC2 : Nat → Int64), (g_cr (s_ed (gmv fO fA fB) (gtg fT)) c0 0 0 fC2) → ∀ (H : Heap) (locs : List Loc), va_P (dC, dI) vwCl (gw ad cz ci cj ((nI c0), fO, fA, fB, fT, sv, fC2, rs, dk, ds, fL, fl, fh)) H → va_D Ar (gw ad cz ci cj ((nI c0), fO, fA, fB, fT, sv, fC2, rs, dk, ds, fL, fl, fh)) → va_S Ar s.heap H locs → ∀ (ls : Array Slot), lv_has ls 3 [(0, .ref (ad 0))] → W p l e R s m args below meth c H locs 0 0 Q (F0 m 27 ls [])) :
    ∀ (fuel : Nat) (i : Nat) (fC2 : Nat → Int64), c0 + 1 ≤ i + fuel → i ≤ c0 → (∀ a, a < i → ∀ m, b_t (fC2 a) m = true ↔ (s_ed (gmv fO fA fB) (gtg fT)) a m) → ∀ (H : Heap) (locs : List Loc), va_P (dC, dI) vwCl (gw ad cz ci cj ((nI c0), fO, fA, fB, fT, sv, fC2, rs, dk, ds, fL, fl, fh)) H → va_D Ar (gw ad cz ci cj ((nI c0), fO, fA, fB, fT, sv, fC2, rs, dk, ds, fL, fl, fh)) → va_S Ar s.heap H locs → ∀ (ls : Array Slot), lv_has ls 3 [(0, .ref (ad 0)), (1, .int (nI i))] → W p l e R s m args below meth c H locs 0 0 Q (F0 m 2 ls []) := by
  intro fuel
  induction fuel with
  | zero => intro i fC2 hfu hi hI; exact absurd hfu (by omega)
  | succ fuel ih =>
    intro i fC2 hfu hi hI H locs hP hD hS ls hl
    have h60 := hg.2.1
    refine lv_iload_n hx hb dX0_findWhatStatesComeTo_2 rfl (lv_at hl 1 rfl) ?_
    refine lv_aload_n hx hb dX0_findWhatStatesComeTo_3 rfl (lv_at hl 0 rfl) ?_
    refine va_get (D := (dC, dI)) (ci := 0) (v := .int (nI c0)) (C := RX0) (T := TX0) (N := 13) hx hb hw in_X0 hown hK hP 0 rfl rfl 0 (by decide) (hw _ m_1_18) (fun _ h9 => h9) rfl dX0_findWhatStatesComeTo_4 ?_
    refine lv_icmp_ge (tgt := 27) hx hb dX0_findWhatStatesComeTo_7 (by decide) (fun c_1 => ?_) (fun c_1 => ?_)
    · exact kx fC2 (fun a ha m => by rw [if_neg (Nat.not_lt_zero _)]; exact hI a (by have := k_eq hi c_1 (by omega); omega) m) _ _ hP hD hS _ (lv_sub hl [0] rfl)
    · have hlt : i < c0 := k_lt c_1 (by omega)
      refine lv_aload_n hx hb dX0_findWhatStatesComeTo_10 rfl (lv_at hl 0 rfl) ?_
      refine va_get (D := (dC, dI)) (ci := 0) (v := .ref (ad 5)) (C := RX0) (T := TX0) (N := 13) hx hb hw in_X0 hown hK hP 0 rfl rfl 6 (by decide) (hw _ m_1_24) (fun _ h9 => h9) rfl dX0_findWhatStatesComeTo_11 ?_
      refine lv_iload_n hx hb dX0_findWhatStatesComeTo_14 rfl (lv_at hl 1 rfl) ?_
      refine lv_aload_n hx hb dX0_findWhatStatesComeTo_15 rfl (lv_at hl 0 rfl) ?_
      refine lv_iload_n hx hb dX0_findWhatStatesComeTo_16 rfl (lv_at hl 1 rfl) ?_
      refine g_calll ⟨hx, hb, hml, hown, hw⟩ (c_X0_goesTo l dC dI ad cz ci cj H.size (nI c0) fO fA fB fT sv fC2 rs dk ds fL fl fh i c0 hg hlt) (cwV 1 hw gv_X0_X0_goesTo rfl rfl rfl (by decide +kernel) ⟨Nat.le_trans (Nat.le_of_ble_eq_true rfl) hR1, Nat.le_trans (Nat.le_of_ble_eq_true rfl) hR2⟩) hK hP hD hS hA (ci := 0) (q0 := 0) rfl rfl rfl hl.1 rfl (Nat.le_of_ble_eq_true rfl) dX0_findWhatStatesComeTo_17 ⟨Nat.zero_le _, Nat.zero_le _⟩ (fun rb_2 un H locs hq hP hD hS => ?_)
      obtain ⟨rfl, hq⟩ := hq
      have hP : va_P (dC, dI) vwCl (gw ad cz ci cj ((nI c0), fO, fA, fB, fT, sv, fC2, rs, dk, ds, fL, fl, fh)) H := hP
      have hD : va_D Ar (gw ad cz ci cj ((nI c0), fO, fA, fB, fT, sv, fC2, rs, dk, ds, fL, fl, fh)) := hD
      refine va_last hx hb hK hP hD hS 5 2 rfl rfl (vp_in_nI (by omega) (by decide)) dX0_findWhatStatesComeTo_20 (fun H locs hP hD hS => ?_)
      rw [nI_clamp (by omega)] at hP hD
      have hP : va_P (dC, dI) vwCl (gw ad cz ci cj ((nI c0), fO, fA, fB, fT, sv, (vp_updL fC2 i rb_2), rs, dk, ds, fL, fl, fh)) H := hP
      have hD : va_D Ar (gw ad cz ci cj ((nI c0), fO, fA, fB, fT, sv, (vp_updL fC2 i rb_2), rs, dk, ds, fL, fl, fh)) := hD
      refine lv_iinc (v := (nI (i + 1))) (lv' := [(1, .int (nI (i + 1))), (0, .ref (ad 0))]) hx hb dX0_findWhatStatesComeTo_21 hl (k := 1) rfl (nI_1 i) (by decide) rfl (fun ls hl => ?_)
      refine lv_goto (tgt := 2) hx hb dX0_findWhatStatesComeTo_24 (by decide) ?_
      exact ih (i + 1) (vp_updL fC2 i rb_2) (by omega) (by omega) (k_row hI hq) _ _ hP hD hS _ (lv_sub hl [1, 0] rfl)
set_option maxHeartbeats 4000000 in
set_option maxRecDepth 100000 in
theorem lp_come2 {p : Program} {l : Launch} {e : Env} {R : Room} {s : State} {m : MethodId} {args : Array Value} {below : List Frame} {meth : Method} {c : Code} {Q : State → Prop} {dC : Nat → ClassId} {dI : Nat → Nat → Nat} {ad : Nat → Nat} {cz ci cj : ClassId} {Ar : Nat → Prop} (hx : p.tables.exec = Jvm.exec) (hb : c.code = cX0_findWhatStatesComeTo) (hml : c.maxLocals = 3) (hown : s.vm.findClass "GameGraph" = some m.cls) (hw : ∀ w ∈ wAll, w.before args s = true) (hK : va_K (dC, dI) vwCl (gty cz ci cj) s) (hA : ∀ q, s.heap.size ≤ q → Ar q) (hR1 : 1 ≤ R.frames) (hR2 : 22 ≤ R.locals) (fO fA fB fT : Nat → Int32) (sv : Int32) (rs : Int64) (dk ds : Int32) (fL fl fh : Nat → Int32) (c0 : Nat) (hg : g_ok c0 fO fA fB fT) (k : Nat) (hk : k < c0)
    (kx : ∀ (fC3 : Nat → Int64), (g_cr (s_ed (gmv fO fA fB) (gtg fT)) c0 k c0 fC3) → ∀ (H : Heap) (locs : List Loc), va_P (dC, dI) vwCl (gw ad cz ci cj ((nI c0), fO, fA, fB, fT, sv, fC3, rs, dk, ds, fL, fl, fh)) H → va_D Ar (gw ad cz ci cj ((nI c0), fO, fA, fB, fT, sv, fC3, rs, dk, ds, fL, fl, fh)) → va_S Ar s.heap H locs → ∀ (ls : Array Slot), lv_has ls 3 [(0, .ref (ad 0)), (1, .int (nI k))] → W p l e R s m args below meth c H locs 0 0 Q (F0 m 81 ls [])) :
    ∀ (fuel : Nat) (n : Nat) (fC3 : Nat → Int64), c0 + 1 ≤ n + fuel → n ≤ c0 → (g_cr (s_ed (gmv fO fA fB) (gtg fT)) c0 k n fC3) → ∀ (H : Heap) (locs : List Loc), va_P (dC, dI) vwCl (gw ad cz ci cj ((nI c0), fO, fA, fB, fT, sv, fC3, rs, dk, ds, fL, fl, fh)) H → va_D Ar (gw ad cz ci cj ((nI c0), fO, fA, fB, fT, sv, fC3, rs, dk, ds, fL, fl, fh)) → va_S Ar s.heap H locs → ∀ (ls : Array Slot), lv_has ls 3 [(0, .ref (ad 0)), (1, .int (nI k)), (2, .int (nI n))] → W p l e R s m args below meth c H locs 0 0 Q (F0 m 39 ls []) := by
  intro fuel
  induction fuel with
  | zero => intro n fC3 hfu hn hI; exact absurd hfu (by omega)
  | succ fuel ih =>
    intro n fC3 hfu hn hI H locs hP hD hS ls hl
    have h60 := hg.2.1
    refine lv_iload_n hx hb dX0_findWhatStatesComeTo_39 rfl (lv_at hl 2 rfl) ?_
    refine lv_aload_n hx hb dX0_findWhatStatesComeTo_40 rfl (lv_at hl 0 rfl) ?_
    refine va_get (D := (dC, dI)) (ci := 0) (v := .int (nI c0)) (C := RX0) (T := TX0) (N := 13) hx hb hw in_X0 hown hK hP 0 rfl rfl 0 (by decide) (hw _ m_1_18) (fun _ h9 => h9) rfl dX0_findWhatStatesComeTo_41 ?_
    refine lv_icmp_ge (tgt := 81) hx hb dX0_findWhatStatesComeTo_44 (by decide) (fun c_1 => ?_) (fun c_1 => ?_)
    · exact kx fC3 (by rw [show n = c0 from (k_eq hn c_1 (by omega)).symm] at hI; exact hI) _ _ hP hD hS _ (lv_sub hl [0, 1] rfl)
    · have hlt : n < c0 := k_lt c_1 (by omega)
      refine lv_aload_n hx hb dX0_findWhatStatesComeTo_47 rfl (lv_at hl 0 rfl) ?_
      refine va_get (D := (dC, dI)) (ci := 0) (v := .ref (ad 5)) (C := RX0) (T := TX0) (N := 13) hx hb hw in_X0 hown hK hP 0 rfl rfl 6 (by decide) (hw _ m_1_24) (fun _ h9 => h9) rfl dX0_findWhatStatesComeTo_48 ?_
      refine lv_iload_n hx hb dX0_findWhatStatesComeTo_51 rfl (lv_at hl 2 rfl) ?_
      refine va_lald hx hb hK hP 5 2 rfl rfl (vp_in_nI (by omega) (by decide)) dX0_findWhatStatesComeTo_52 ?_
      refine x_topl (y := fC3 n) (by rw [nI_clamp (by omega)]) ?_
      refine lv_iload_n hx hb dX0_findWhatStatesComeTo_53 rfl (lv_at hl 1 rfl) ?_
      refine g_calls ⟨hx, hb, hml, hown, hw⟩ (c_X0_contains l (fC3 n) k (by omega)) (va_cwS 2 hw gs_X0_X0_contains rfl rfl rfl (by decide +kernel) ⟨Nat.le_trans (Nat.le_of_ble_eq_true rfl) hR1, Nat.le_trans (Nat.le_of_ble_eq_true rfl) hR2⟩) hP hS rfl hl.1 rfl (Nat.le_of_ble_eq_true rfl) dX0_findWhatStatesComeTo_54 ⟨Nat.zero_le _, Nat.zero_le _⟩ (fun rb_2 H locs hq hP hS => ?_)
      have hP : va_P (dC, dI) vwCl (gw ad cz ci cj ((nI c0), fO, fA, fB, fT, sv, fC3, rs, dk, ds, fL, fl, fh)) H := hP
      have hD : va_D Ar (gw ad cz ci cj ((nI c0), fO, fA, fB, fT, sv, fC3, rs, dk, ds, fL, fl, fh)) := hD
      refine lv_if_eq (tgt := 75) hx hb dX0_findWhatStatesComeTo_57 (by decide) (fun cb_3 => ?_) (fun cb_3 => ?_)
      · refine lv_iinc (v := (nI (n + 1))) (lv' := [(2, .int (nI (n + 1))), (0, .ref (ad 0)), (1, .int (nI k))]) hx hb dX0_findWhatStatesComeTo_75 hl (k := 2) rfl (nI_1 n) (by decide) rfl (fun ls hl => ?_)
        refine lv_goto (tgt := 39) hx hb dX0_findWhatStatesComeTo_78 (by decide) ?_
        exact ih (n + 1) fC3 (by omega) (by omega) (g_cr_no hI hlt (k_b0 hq cb_3)) _ _ hP hD hS _ (lv_sub hl [1, 2, 0] rfl)
      · refine lv_aload_n hx hb dX0_findWhatStatesComeTo_60 rfl (lv_at hl 0 rfl) ?_
        refine va_get (D := (dC, dI)) (ci := 0) (v := .ref (ad 5)) (C := RX0) (T := TX0) (N := 13) hx hb hw in_X0 hown hK hP 0 rfl rfl 6 (by decide) (hw _ m_1_24) (fun _ h9 => h9) rfl dX0_findWhatStatesComeTo_61 ?_
        refine lv_iload_n hx hb dX0_findWhatStatesComeTo_64 rfl (lv_at hl 2 rfl) ?_
        refine lv_dup2_11 hx hb dX0_findWhatStatesComeTo_65 rfl rfl ?_
        refine va_lald hx hb hK hP 5 2 rfl rfl (vp_in_nI (by omega) (by decide)) dX0_findWhatStatesComeTo_66 ?_
        refine x_topl (y := fC3 n) (by rw [nI_clamp (by omega)]) ?_
        refine lv_aload_n hx hb dX0_findWhatStatesComeTo_67 rfl (lv_at hl 0 rfl) ?_
        refine va_get (D := (dC, dI)) (ci := 0) (v := .ref (ad 5)) (C := RX0) (T := TX0) (N := 13) hx hb hw in_X0 hown hK hP 0 rfl rfl 6 (by decide) (hw _ m_1_24) (fun _ h9 => h9) rfl dX0_findWhatStatesComeTo_68 ?_
        refine lv_iload_n hx hb dX0_findWhatStatesComeTo_71 rfl (lv_at hl 1 rfl) ?_
        refine va_lald hx hb hK hP 5 2 rfl rfl (vp_in_nI (by omega) (by decide)) dX0_findWhatStatesComeTo_72 ?_
        refine x_topl (y := fC3 k) (by rw [nI_clamp (by omega)]) ?_
        refine lv_lor hx hb dX0_findWhatStatesComeTo_73 ?_
        refine va_last hx hb hK hP hD hS 5 2 rfl rfl (vp_in_nI (by omega) (by decide)) dX0_findWhatStatesComeTo_74 (fun H locs hP hD hS => ?_)
        rw [nI_clamp (by omega)] at hP hD
        have hP : va_P (dC, dI) vwCl (gw ad cz ci cj ((nI c0), fO, fA, fB, fT, sv, (vp_updL fC3 n ((fC3 n) ||| (fC3 k))), rs, dk, ds, fL, fl, fh)) H := hP
        have hD : va_D Ar (gw ad cz ci cj ((nI c0), fO, fA, fB, fT, sv, (vp_updL fC3 n ((fC3 n) ||| (fC3 k))), rs, dk, ds, fL, fl, fh)) := hD
        refine lv_iinc (v := (nI (n + 1))) (lv' := [(2, .int (nI (n + 1))), (0, .ref (ad 0)), (1, .int (nI k))]) hx hb dX0_findWhatStatesComeTo_75 hl (k := 2) rfl (nI_1 n) (by decide) rfl (fun ls hl => ?_)
        refine lv_goto (tgt := 39) hx hb dX0_findWhatStatesComeTo_78 (by decide) ?_
        exact ih (n + 1) (vp_updL fC3 n ((fC3 n) ||| (fC3 k))) (by omega) (by omega) (g_cr_yes hI hlt hk (k_b1 hq cb_3)) _ _ hP hD hS _ (lv_sub hl [1, 2, 0] rfl)
set_option maxHeartbeats 4000000 in
set_option maxRecDepth 100000 in
theorem lp_come3 {p : Program} {l : Launch} {e : Env} {R : Room} {s : State} {m : MethodId} {args : Array Value} {below : List Frame} {meth : Method} {c : Code} {Q : State → Prop} {dC : Nat → ClassId} {dI : Nat → Nat → Nat} {ad : Nat → Nat} {cz ci cj : ClassId} {Ar : Nat → Prop} (hx : p.tables.exec = Jvm.exec) (hb : c.code = cX0_findWhatStatesComeTo) (hml : c.maxLocals = 3) (hown : s.vm.findClass "GameGraph" = some m.cls) (hw : ∀ w ∈ wAll, w.before args s = true) (hK : va_K (dC, dI) vwCl (gty cz ci cj) s) (hA : ∀ q, s.heap.size ≤ q → Ar q) (hR1 : 1 ≤ R.frames) (hR2 : 22 ≤ R.locals) (fO fA fB fT : Nat → Int32) (sv : Int32) (rs : Int64) (dk ds : Int32) (fL fl fh : Nat → Int32) (c0 : Nat) (hg : g_ok c0 fO fA fB fT)
    (kx : ∀ (fC2 : Nat → Int64), (g_cr (s_ed (gmv fO fA fB) (gtg fT)) c0 c0 0 fC2) → ∀ (H : Heap) (locs : List Loc), va_P (dC, dI) vwCl (gw ad cz ci cj ((nI c0), fO, fA, fB, fT, sv, fC2, rs, dk, ds, fL, fl, fh)) H → va_D Ar (gw ad cz ci cj ((nI c0), fO, fA, fB, fT, sv, fC2, rs, dk, ds, fL, fl, fh)) → va_S Ar s.heap H locs → ∀ (ls : Array Slot), lv_has ls 3 [(0, .ref (ad 0))] → W p l e R s m args below meth c H locs 0 0 Q (F0 m 87 ls [])) :
    ∀ (fuel : Nat) (k : Nat) (fC2 : Nat → Int64), c0 + 1 ≤ k + fuel → k ≤ c0 → (g_cr (s_ed (gmv fO fA fB) (gtg fT)) c0 k 0 fC2) → ∀ (H : Heap) (locs : List Loc), va_P (dC, dI) vwCl (gw ad cz ci cj ((nI c0), fO, fA, fB, fT, sv, fC2, rs, dk, ds, fL, fl, fh)) H → va_D Ar (gw ad cz ci cj ((nI c0), fO, fA, fB, fT, sv, fC2, rs, dk, ds, fL, fl, fh)) → va_S Ar s.heap H locs → ∀ (ls : Array Slot), lv_has ls 3 [(0, .ref (ad 0)), (1, .int (nI k))] → W p l e R s m args below meth c H locs 0 0 Q (F0 m 29 ls []) := by
  intro fuel
  induction fuel with
  | zero => intro k fC2 hfu hk hI; exact absurd hfu (by omega)
  | succ fuel ih =>
    intro k fC2 hfu hk hI H locs hP hD hS ls hl
    have h60 := hg.2.1
    refine lv_iload_n hx hb dX0_findWhatStatesComeTo_29 rfl (lv_at hl 1 rfl) ?_
    refine lv_aload_n hx hb dX0_findWhatStatesComeTo_30 rfl (lv_at hl 0 rfl) ?_
    refine va_get (D := (dC, dI)) (ci := 0) (v := .int (nI c0)) (C := RX0) (T := TX0) (N := 13) hx hb hw in_X0 hown hK hP 0 rfl rfl 0 (by decide) (hw _ m_1_18) (fun _ h9 => h9) rfl dX0_findWhatStatesComeTo_31 ?_
    refine lv_icmp_ge (tgt := 87) hx hb dX0_findWhatStatesComeTo_34 (by decide) (fun c_1 => ?_) (fun c_1 => ?_)
    · exact kx fC2 (by rw [show k = c0 from (k_eq hk c_1 (by omega)).symm] at hI; exact hI) _ _ hP hD hS _ (lv_sub hl [0] rfl)
    · have hlt : k < c0 := k_lt c_1 (by omega)
      refine lv_iconst (v := 0) hx hb dX0_findWhatStatesComeTo_37 (by decide) ?_
      refine x_topi (y := nI 0) (rfl) ?_
      refine lv_istore_n (lv' := [(2, .int (nI 0)), (0, .ref (ad 0)), (1, .int (nI k))]) hx hb dX0_findWhatStatesComeTo_38 rfl hl (by decide) rfl (fun ls hl => ?_)
      refine lp_come2 (dC := dC) (dI := dI) (ad := ad) (cz := cz) (ci := ci) (cj := cj) (Ar := Ar) hx hb hml hown hw hK hA (Nat.le_trans (Nat.le_of_ble_eq_true rfl) hR1) (Nat.le_trans (Nat.le_of_ble_eq_true rfl) hR2) fO fA fB fT sv rs dk ds fL fl fh c0 hg k hlt ?_ (c0 + 1) 0 fC2 (by omega) (by omega) hI _ _ hP hD hS _ (lv_sub hl [1, 2, 0] rfl)
      intro fC3 hI H locs hP hD hS ls hl
      refine lv_iinc (v := (nI (k + 1))) (lv' := [(1, .int (nI (k + 1))), (0, .ref (ad 0))]) hx hb dX0_findWhatStatesComeTo_81 hl (k := 1) rfl (nI_1 k) (by decide) rfl (fun ls hl => ?_)
      refine lv_goto (tgt := 29) hx hb dX0_findWhatStatesComeTo_84 (by decide) ?_
      exact ih (k + 1) fC3 (by omega) (by omega) (g_cr_next (by assumption)) _ _ hP hD hS _ (lv_sub hl [1, 0] rfl)
set_option maxHeartbeats 4000000 in
set_option maxRecDepth 100000 in
/-- findWhatStatesComeTo() -/
theorem c_X0_findWhatStatesComeTo (l : Launch) (dC : Nat → ClassId) (dI : Nat → Nat → Nat) (ad : Nat → Nat) (cz ci cj : ClassId) (sz : Nat) (cnt : Int32) (fO : Nat → Int32) (fA : Nat → Int32) (fB : Nat → Int32) (fT : Nat → Int32) (sv : Int32) (fC : Nat → Int64) (rs : Int64) (dk : Int32) (ds : Int32) (fL : Nat → Int32) (fl : Nat → Int32) (fh : Nat → Int32)  (c0 : Nat) (hg : g_ok c0 fO fA fB fT) : Met l yX0_findWhatStatesComeTo wX0_findWhatStatesComeTo ({ frames := 2, cells := 0, slots := 0, locals := 47 }) (va_Pc [.ref (ad 0)] (g_Pre (dC, dI) vwCl (gty cz ci cj) (gw ad cz ci cj ((nI c0), fO, fA, fB, fT, sv, fC, rs, dk, ds, fL, fl, fh)) sz)) (va_Qv (fun (u : GS) => ∃ fC2 : Nat → Int64, (∀ a, a < c0 → ∀ m, b_t (fC2 a) m = true ↔ s_to c0 (gmv fO fA fB) (gtg fT) a m) ∧ u = ((nI c0), fO, fA, fB, fT, sv, fC2, rs, dk, ds, fL, fl, fh)) (g_At (dC, dI) vwCl (gty cz ci cj) (va_A (gw ad cz ci cj ((nI c0), fO, fA, fB, fT, sv, fC, rs, dk, ds, fL, fl, fh)) sz) (gw ad cz ci cj)) (va_A (gw ad cz ci cj ((nI c0), fO, fA, fB, fT, sv, fC, rs, dk, ds, fL, fl, fh)) sz)) 0 0 (va_A (gw ad cz ci cj ((nI c0), fO, fA, fB, fT, sv, fC, rs, dk, ds, fL, fl, fh)) sz) := by
  refine Met.ofW (cc := cX0_findWhatStatesComeTo) (maxL := 3) (ret := none) (by decide) rfl ?_
  intro p e s m args below meth c s₁ Bd hml hv
  obtain ⟨rfl, hsz, hP, hK, hD0⟩ := hv
  have hx := Bd.exec
  have hb := Bd.bytes
  have hr := Bd.returns
  have hts := atoms_spec (ws := wX0_findWhatStatesComeTo) Bd.pre
  have hw : ∀ w ∈ wAll, w.before _ s = true := fun w h => hts w (List.mem_cons_of_mem _ h)
  have hown : s.vm.findClass "GameGraph" = some m.cls := findClass_of_methodNamed Bd.named
  have hlocks := Bd.notSynchronized
  subst hsz
  have hD := hD0.self (sz := s.heap.size)
  generalize hAe : va_A (gw ad cz ci cj ((nI c0), fO, fA, fB, fT, sv, fC, rs, dk, ds, fL, fl, fh)) s.heap.size = Ar at hD ⊢
  have hA : ∀ q : Nat, s.heap.size ≤ q → Ar q := fun q h => by rw [← hAe]; exact Or.inr h
  obtain ⟨H, hH⟩ : ∃ H : Heap, H = s.heap := ⟨_, rfl⟩
  have hS : va_S Ar s.heap H [] := by rw [hH]; exact va_S.rf
  have hP : va_P (dC, dI) vwCl (gw ad cz ci cj ((nI c0), fO, fA, fB, fT, sv, fC, rs, dk, ds, fL, fl, fh)) H := by rw [hH]; exact hP
  rw [← hH]
  have hl := lv_entry ([.ref (ad 0)]) (n := 3) (Nat.le_of_ble_eq_true rfl)
  rw [lg_entry_eq]
  generalize (lg_sl ([.ref (ad 0)]) ++ List.replicate (3 - (lg_sl ([.ref (ad 0)])).length) Slot.unset).toArray = ls at hl ⊢
  have hl : lv_has ls 3 [(0, .ref (ad 0))] := hl
  refine lv_iconst (v := 0) hx hb dX0_findWhatStatesComeTo_0 (by decide) ?_
  refine x_topi (y := nI 0) (rfl) ?_
  refine lv_istore_n (lv' := [(1, .int (nI 0)), (0, .ref (ad 0))]) hx hb dX0_findWhatStatesComeTo_1 rfl hl (by decide) rfl (fun ls hl => ?_)
  refine lp_come1 (dC := dC) (dI := dI) (ad := ad) (cz := cz) (ci := ci) (cj := cj) (Ar := Ar) hx hb hml hown hw hK hA (Nat.le_of_ble_eq_true rfl) (Nat.le_of_ble_eq_true rfl) fO fA fB fT sv rs dk ds fL fl fh c0 hg ?_ (c0 + 1) 0 fC (by omega) (by omega) (fun a ha => absurd ha (Nat.not_lt_zero _)) _ _ hP hD hS _ (lv_sub hl [1, 0] rfl)
  intro fC2 hI H locs hP hD hS ls hl
  refine lv_iconst (v := 0) hx hb dX0_findWhatStatesComeTo_27 (by decide) ?_
  refine x_topi (y := nI 0) (rfl) ?_
  refine lv_istore_n (lv' := [(1, .int (nI 0)), (0, .ref (ad 0))]) hx hb dX0_findWhatStatesComeTo_28 rfl hl (by decide) rfl (fun ls hl => ?_)
  refine lp_come3 (dC := dC) (dI := dI) (ad := ad) (cz := cz) (ci := ci) (cj := cj) (Ar := Ar) hx hb hml hown hw hK hA (Nat.le_of_ble_eq_true rfl) (Nat.le_of_ble_eq_true rfl) fO fA fB fT sv rs dk ds fL fl fh c0 hg ?_ (c0 + 1) 0 fC2 (by omega) (by omega) hI _ _ hP hD hS _ (lv_sub hl [1, 0] rfl)
  intro fC2 hI H locs hP hD hS ls hl
  exact W.vret hx hb hr (fun t ht hW => ⟨⟨((nI c0), fO, fA, fB, fT, sv, fC2, rs, dk, ds, fL, fl, fh), rfl, (⟨fC2, fun a ha m => by rw [hI a ha m, if_neg (Nat.not_lt_zero _)]; exact Iff.rfl, rfl⟩), (by rw [ht]; exact hP), va_K.moved hW.alike hK, hD⟩, hS.F ht⟩) hS.2.2 dX0_findWhatStatesComeTo_87
end
section
/-! Defects. -/
def g_dn (fO fA fB : Nat → Int32) (n : Nat) : Int32 := if fO n = 0 then (if fA n < 0 ∨ fB n < 0 then 4 else if fA n + fB n = 100 then 0 else 5) else (if gmv fO fA fB n = 0 then 2 else if 1 < fA n ∧ 1 < fB n then 3 else 0)
theorem k_nle {x y : Int32} (h : ¬ x ≤ y) : y < x := by rw [Int32.le_iff_toInt_le] at h; rw [Int32.lt_iff_toInt_lt]; omega
theorem k_nlt {x y : Int32} (h : ¬ x < y) : y ≤ x := by rw [Int32.lt_iff_toInt_lt] at h; rw [Int32.le_iff_toInt_le]; omega
theorem k_ltle {x y : Int32} (h : x ≤ y) (q : y < x) : False := by rw [Int32.le_iff_toInt_le] at h; rw [Int32.lt_iff_toInt_lt] at q; omega
section KD
variable {fO fA fB : Nat → Int32} {n : Nat}
theorem k_dn2 (hO : ¬ fO n = 0) (h : gmv fO fA fB n = 0) : (2 : Int32) = g_dn fO fA fB n := by unfold g_dn; rw [if_neg hO, if_pos h]
theorem k_dn3 (hO : ¬ fO n = 0) (h : ¬ gmv fO fA fB n = 0) (h1 : ¬ fA n ≤ 1) (h2 : ¬ fB n ≤ 1) : (3 : Int32) = g_dn fO fA fB n := by unfold g_dn; rw [if_neg hO, if_neg h, if_pos ⟨k_nle h1, k_nle h2⟩]
theorem k_dn0 (hO : ¬ fO n = 0) (h : ¬ gmv fO fA fB n = 0) (h1 : fA n ≤ 1 ∨ fB n ≤ 1) : (0 : Int32) = g_dn fO fA fB n := by
  unfold g_dn
  rw [if_neg hO, if_neg h, if_neg]
  rintro ⟨a, b⟩
  rcases h1 with h1 | h1
  · exact k_ltle h1 a
  · exact k_ltle h1 b
theorem k_dn4 (hO : fO n = 0) (h : fA n < 0 ∨ fB n < 0) : (4 : Int32) = g_dn fO fA fB n := by unfold g_dn; rw [if_pos hO, if_pos h]
theorem k_dn5 (hO : fO n = 0) (h : ¬ (fA n < 0 ∨ fB n < 0)) (h1 : ¬ fA n + fB n = 100) : (5 : Int32) = g_dn fO fA fB n := by unfold g_dn; rw [if_pos hO, if_neg h, if_neg h1]
theorem k_dn6 (hO : fO n = 0) (h : ¬ (fA n < 0 ∨ fB n < 0)) (h1 : fA n + fB n = 100) : (0 : Int32) = g_dn fO fA fB n := by unfold g_dn; rw [if_pos hO, if_neg h, if_pos h1]
end KD
theorem k_or2 {a b : Int32} (h1 : ¬ a < 0) (h2 : 0 ≤ b) : ¬ (a < 0 ∨ b < 0) := by
  rintro (h | h)
  · exact h1 h
  · exact k_ltle h2 h
theorem k_nge {b : Int32} (h : ¬ 0 ≤ b) : b < 0 := k_nle h
theorem k_n0 {k : Nat} (h : ¬ nI k = 0) : ¬ k = 0 := fun e => h (by rw [e]; rfl)
theorem k_e0 {k : Nat} (hk : k < 2 ^ 31) (h : nI k = 0) : k = 0 := by
  rcases Nat.eq_zero_or_pos k with q | q
  · exact q
  · exact absurd h (nI_ne0 q hk)
/-- the first state in itself bad -/
def g_d1 (c : Nat) (re : Nat → Prop) (dn : Nat → Int32) (dk ds : Int32) : Prop := ∃ n, n < c ∧ re n ∧ dn n ≠ 0 ∧ (∀ k, k < n → re k → dn k = 0) ∧ dk = dn n ∧ ds = nI n
/-- the first state that comes again -/
def g_d2 (c : Nat) (re to : Nat → Prop) (dk ds : Int32) : Prop := ∃ n, n < c ∧ re n ∧ to n ∧ (∀ k, k < n → re k → ¬ to k) ∧ dk = 6 ∧ ds = nI n
def g_df (c : Nat) (re to : Nat → Prop) (dn : Nat → Int32) (dk ds : Int32) : Prop :=
  g_d1 c re dn dk ds ∨ ((∀ k, k < c → re k → dn k = 0) ∧ (g_d2 c re to dk ds ∨ ((∀ k, k < c → re k → ¬ to k) ∧ dk = 0 ∧ ds = -1)))
/-- so far: below i -/
def g_i1 (c i : Nat) (re : Nat → Prop) (dn : Nat → Int32) (dk ds : Int32) : Prop := g_d1 c re dn dk ds ∨ ((∀ k, k < i → re k → dn k = 0) ∧ dk = 0 ∧ ds = -1)
def g_i2 (c i : Nat) (re to : Nat → Prop) (dn : Nat → Int32) (dk ds : Int32) : Prop := g_d1 c re dn dk ds ∨ ((∀ k, k < c → re k → dn k = 0) ∧ (g_d2 c re to dk ds ∨ ((∀ k, k < i → re k → ¬ to k) ∧ dk = 0 ∧ ds = -1)))
theorem g_d1_ne {c : Nat} {re : Nat → Prop} {dn : Nat → Int32} {dk ds : Int32} (h : g_d1 c re dn dk ds) : ¬ dk = 0 := by
  obtain ⟨n, _, _, h1, _, h2, _⟩ := h
  rw [h2]; exact h1
theorem g_d2_ne {c : Nat} {re to : Nat → Prop} {dk ds : Int32} (h : g_d2 c re to dk ds) : ¬ dk = 0 := by
  obtain ⟨n, _, _, _, _, h2, _⟩ := h
  rw [h2]; decide
theorem g_i1_x {c : Nat} {re : Nat → Prop} {dn : Nat → Int32} {dk ds : Int32} (h : g_i1 c c re dn dk ds) (to : Nat → Prop) : g_i2 c 0 re to dn dk ds := by
  rcases h with h | ⟨h1, h2, h3⟩
  · exact Or.inl h
  · exact Or.inr ⟨h1, Or.inr ⟨fun k hk => absurd hk (Nat.not_lt_zero _), h2, h3⟩⟩
theorem g_i1_y {c i : Nat} {re : Nat → Prop} {dn : Nat → Int32} {dk ds : Int32} (h : g_i1 c i re dn dk ds) (hd : ¬ dk = 0) (to : Nat → Prop) : g_i2 c 0 re to dn dk ds := by
  rcases h with h | ⟨_, h2, _⟩
  · exact Or.inl h
  · exact absurd h2 hd
theorem g_i1_no {c i : Nat} {re : Nat → Prop} {dn : Nat → Int32} {dk ds : Int32} (h : g_i1 c i re dn dk ds) (hn : ¬ re i) : g_i1 c (i + 1) re dn dk ds := by
  rcases h with h | ⟨h1, h2, h3⟩
  · exact Or.inl h
  · refine Or.inr ⟨fun k hk hr => ?_, h2, h3⟩
    by_cases e : k = i
    · subst e; exact absurd hr hn
    · exact h1 k (by omega) hr
theorem g_i1_st {c i : Nat} {re : Nat → Prop} {dn : Nat → Int32} {dk ds : Int32} (h : g_i1 c i re dn dk ds) (hd : dk = 0) (hi : i < c) (hr : re i) {a b : Int32} (ha : a = if dn i = 0 then dk else dn i) (hb : b = if dn i = 0 then ds else nI i) : g_i1 c (i + 1) re dn a b := by
  rcases h with h | ⟨h1, h2, h3⟩
  · exact absurd hd (g_d1_ne h)
  · by_cases e : dn i = 0
    · rw [if_pos e] at ha hb
      subst ha; subst hb
      refine Or.inr ⟨fun k hk hr => ?_, h2, h3⟩
      by_cases e2 : k = i
      · subst e2; exact e
      · exact h1 k (by omega) hr
    · rw [if_neg e] at ha hb
      exact Or.inl ⟨i, hi, hr, e, h1, ha, hb⟩
theorem g_i2_x {c : Nat} {re to : Nat → Prop} {dn : Nat → Int32} {dk ds : Int32} (h : g_i2 c c re to dn dk ds) : g_df c re to dn dk ds := h
theorem g_i2_y {c i : Nat} {re to : Nat → Prop} {dn : Nat → Int32} {dk ds : Int32} (h : g_i2 c i re to dn dk ds) (hd : ¬ dk = 0) : g_df c re to dn dk ds := by
  rcases h with h | ⟨h1, h | ⟨_, h2, _⟩⟩
  · exact Or.inl h
  · exact Or.inr ⟨h1, Or.inl h⟩
  · exact absurd h2 hd
theorem g_i2_no {c i : Nat} {re to : Nat → Prop} {dn : Nat → Int32} {dk ds : Int32} (h : g_i2 c i re to dn dk ds) (hn : re i → ¬ to i) : g_i2 c (i + 1) re to dn dk ds := by
  rcases h with h | ⟨h1, h | ⟨h2, h3, h4⟩⟩
  · exact Or.inl h
  · exact Or.inr ⟨h1, Or.inl h⟩
  · refine Or.inr ⟨h1, Or.inr ⟨fun k hk hr => ?_, h3, h4⟩⟩
    by_cases e : k = i
    · subst e; exact hn hr
    · exact h2 k (by omega) hr
theorem g_i2_st {c i : Nat} {re to : Nat → Prop} {dn : Nat → Int32} {dk ds : Int32} (h : g_i2 c i re to dn dk ds) (hd : dk = 0) (hi : i < c) (hr : re i) (ht : to i) : g_i2 c (i + 1) re to dn 6 (nI i) := by
  rcases h with h | ⟨h1, h | ⟨h2, h3, h4⟩⟩
  · exact absurd hd (g_d1_ne h)
  · exact absurd hd (g_d2_ne h)
  · exact Or.inr ⟨h1, Or.inl ⟨i, hi, hr, ht, h2, rfl, rfl⟩⟩
end
section
/-! findDefect (by tool/defects.py). -/
set_option maxHeartbeats 4000000 in
set_option maxRecDepth 100000 in
theorem c_X0_defectOfOpen (l : Launch) (dC : Nat → ClassId) (dI : Nat → Nat → Nat) (ad : Nat → Nat) (cz ci cj : ClassId) (sz : Nat) (cnt : Int32) (fO : Nat → Int32) (fA : Nat → Int32) (fB : Nat → Int32) (fT : Nat → Int32) (sv : Int32) (fC : Nat → Int64) (rs : Int64) (dk : Int32) (ds : Int32) (fL : Nat → Int32) (fl : Nat → Int32) (fh : Nat → Int32) (n : Nat) (c0 : Nat) (hg : g_ok c0 fO fA fB fT) (hn : n < c0) (hO : ¬ fO n = 0) : Met l yX0_defectOfOpen wX0_defectOfOpen ({ frames := 1, cells := 0, slots := 0, locals := 21 }) (va_Pc [.ref (ad 0), .int (nI n)] (g_Pre (dC, dI) vwCl (gty cz ci cj) (gw ad cz ci cj (cnt, fO, fA, fB, fT, sv, fC, rs, dk, ds, fL, fl, fh)) sz)) (va_Qi (fun (r : Int32) (u : GS) => u = (cnt, fO, fA, fB, fT, sv, fC, rs, dk, ds, fL, fl, fh) ∧ r = g_dn fO fA fB n) (g_At (dC, dI) vwCl (gty cz ci cj) (va_A (gw ad cz ci cj (cnt, fO, fA, fB, fT, sv, fC, rs, dk, ds, fL, fl, fh)) sz) (gw ad cz ci cj)) (va_A (gw ad cz ci cj (cnt, fO, fA, fB, fT, sv, fC, rs, dk, ds, fL, fl, fh)) sz)) 0 0 (va_A (gw ad cz ci cj (cnt, fO, fA, fB, fT, sv, fC, rs, dk, ds, fL, fl, fh)) sz) := by
  refine Met.ofW (cc := cX0_defectOfOpen) (maxL := 2) (ret := some .int) (by decide) rfl ?_
  intro p e s m args below meth c s₁ Bd hml hv
  obtain ⟨rfl, hsz, hP, hK, hD0⟩ := hv
  have hx := Bd.exec
  have hb := Bd.bytes
  have hr := Bd.returns
  have hts := atoms_spec (ws := wX0_defectOfOpen) Bd.pre
  have hw : ∀ w ∈ wAll, w.before _ s = true := fun w h => hts w (List.mem_cons_of_mem _ h)
  have hown : s.vm.findClass "GameGraph" = some m.cls := findClass_of_methodNamed Bd.named
  have hlocks := Bd.notSynchronized
  subst hsz
  have hD := hD0.self (sz := s.heap.size)
  generalize hAe : va_A (gw ad cz ci cj (cnt, fO, fA, fB, fT, sv, fC, rs, dk, ds, fL, fl, fh)) s.heap.size = Ar at hD ⊢
  have hA : ∀ q : Nat, s.heap.size ≤ q → Ar q := fun q h => by rw [← hAe]; exact Or.inr h
  obtain ⟨H, hH⟩ : ∃ H : Heap, H = s.heap := ⟨_, rfl⟩
  have hS : va_S Ar s.heap H [] := by rw [hH]; exact va_S.rf
  have hP : va_P (dC, dI) vwCl (gw ad cz ci cj (cnt, fO, fA, fB, fT, sv, fC, rs, dk, ds, fL, fl, fh)) H := by rw [hH]; exact hP
  rw [← hH]
  have hl := lv_entry ([.ref (ad 0), .int (nI n)]) (n := 2) (Nat.le_of_ble_eq_true rfl)
  rw [lg_entry_eq]
  generalize (lg_sl ([.ref (ad 0), .int (nI n)]) ++ List.replicate (2 - (lg_sl ([.ref (ad 0), .int (nI n)])).length) Slot.unset).toArray = ls at hl ⊢
  have hl : lv_has ls 2 [(0, .ref (ad 0)), (1, .int (nI n))] := hl
  have h60 := hg.2.1
  have h12 := (g_mvI hg hn).2
  refine lv_aload_n hx hb dX0_defectOfOpen_0 rfl (lv_at hl 0 rfl) ?_
  refine lv_iload_n hx hb dX0_defectOfOpen_1 rfl (lv_at hl 1 rfl) ?_
  refine g_calli ⟨hx, hb, hml, hown, hw⟩ (c_X0_jointMoves l dC dI ad cz ci cj H.size cnt fO fA fB fT sv fC rs dk ds fL fl fh n (by omega)) (cwV 1 hw gv_X0_X0_jointMoves rfl rfl rfl (by decide +kernel) ⟨Nat.le_of_ble_eq_true rfl, Nat.le_of_ble_eq_true rfl⟩) hK hP hD hS hA (ci := 0) (q0 := 0) rfl rfl rfl hl.1 rfl (Nat.le_of_ble_eq_true rfl) dX0_defectOfOpen_2 ⟨Nat.zero_le _, Nat.zero_le _⟩ (fun r_1 un H locs hq hP hD hS => ?_)
  obtain ⟨rfl, hq⟩ := hq
  have hP : va_P (dC, dI) vwCl (gw ad cz ci cj (cnt, fO, fA, fB, fT, sv, fC, rs, dk, ds, fL, fl, fh)) H := hP
  have hD : va_D Ar (gw ad cz ci cj (cnt, fO, fA, fB, fT, sv, fC, rs, dk, ds, fL, fl, fh)) := hD
  refine x_topi (y := nI (gmv fO fA fB n)) (by rw [hq]; exact (g_mvI hg hn).1) ?_
  refine lv_if_ne (tgt := 10) hx hb dX0_defectOfOpen_5 (by decide) (fun c_2 => ?_) (fun c_2 => ?_)
  · refine lv_aload_n hx hb dX0_defectOfOpen_10 rfl (lv_at hl 0 rfl) ?_
    refine va_get (D := (dC, dI)) (ci := 0) (v := .ref (ad 2)) (C := RX0) (T := TX0) (N := 13) hx hb hw in_X0 hown hK hP 0 rfl rfl 2 (by decide) (hw _ m_1_20) (fun _ h9 => h9) rfl dX0_defectOfOpen_11 ?_
    refine lv_iload_n hx hb dX0_defectOfOpen_14 rfl (lv_at hl 1 rfl) ?_
    refine va_iald hx hb hK hP 2 1 rfl rfl (vp_in_nI (by omega) (by decide)) dX0_defectOfOpen_15 ?_
    refine x_topi (y := fA n) (by rw [nI_clamp (by omega)]) ?_
    refine lv_iconst (v := 1) hx hb dX0_defectOfOpen_16 (by decide) ?_
    refine lv_icmp_le (tgt := 34) hx hb dX0_defectOfOpen_17 (by decide) (fun ca_3 => ?_) (fun ca_3 => ?_)
    · refine lv_iconst (v := 0) hx hb dX0_defectOfOpen_34 (by decide) ?_
      exact W.iret (v := 0) hx hb hr (fun t ht hW => ⟨⟨0, (cnt, fO, fA, fB, fT, sv, fC, rs, dk, ds, fL, fl, fh), rfl, (⟨rfl, k_dn0 hO (k_n0 c_2) (Or.inl ca_3)⟩), (by rw [ht]; exact hP), va_K.moved hW.alike hK, hD⟩, hS.F ht⟩) hS.2.2 dX0_defectOfOpen_35
    · refine lv_aload_n hx hb dX0_defectOfOpen_20 rfl (lv_at hl 0 rfl) ?_
      refine va_get (D := (dC, dI)) (ci := 0) (v := .ref (ad 3)) (C := RX0) (T := TX0) (N := 13) hx hb hw in_X0 hown hK hP 0 rfl rfl 3 (by decide) (hw _ m_1_21) (fun _ h9 => h9) rfl dX0_defectOfOpen_21 ?_
      refine lv_iload_n hx hb dX0_defectOfOpen_24 rfl (lv_at hl 1 rfl) ?_
      refine va_iald hx hb hK hP 3 1 rfl rfl (vp_in_nI (by omega) (by decide)) dX0_defectOfOpen_25 ?_
      refine x_topi (y := fB n) (by rw [nI_clamp (by omega)]) ?_
      refine lv_iconst (v := 1) hx hb dX0_defectOfOpen_26 (by decide) ?_
      refine lv_icmp_le (tgt := 34) hx hb dX0_defectOfOpen_27 (by decide) (fun cab_4 => ?_) (fun cab_4 => ?_)
      · refine lv_iconst (v := 0) hx hb dX0_defectOfOpen_34 (by decide) ?_
        exact W.iret (v := 0) hx hb hr (fun t ht hW => ⟨⟨0, (cnt, fO, fA, fB, fT, sv, fC, rs, dk, ds, fL, fl, fh), rfl, (⟨rfl, k_dn0 hO (k_n0 c_2) (Or.inr cab_4)⟩), (by rw [ht]; exact hP), va_K.moved hW.alike hK, hD⟩, hS.F ht⟩) hS.2.2 dX0_defectOfOpen_35
      · refine lv_iconst (v := 3) hx hb dX0_defectOfOpen_30 (by decide) ?_
        refine lv_goto (tgt := 35) hx hb dX0_defectOfOpen_31 (by decide) ?_
        exact W.iret (v := 3) hx hb hr (fun t ht hW => ⟨⟨3, (cnt, fO, fA, fB, fT, sv, fC, rs, dk, ds, fL, fl, fh), rfl, (⟨rfl, k_dn3 hO (k_n0 c_2) ca_3 cab_4⟩), (by rw [ht]; exact hP), va_K.moved hW.alike hK, hD⟩, hS.F ht⟩) hS.2.2 dX0_defectOfOpen_35
  · refine lv_iconst (v := 2) hx hb dX0_defectOfOpen_8 (by decide) ?_
    exact W.iret (v := 2) hx hb hr (fun t ht hW => ⟨⟨2, (cnt, fO, fA, fB, fT, sv, fC, rs, dk, ds, fL, fl, fh), rfl, (⟨rfl, k_dn2 hO (k_e0 (by omega) c_2)⟩), (by rw [ht]; exact hP), va_K.moved hW.alike hK, hD⟩, hS.F ht⟩) hS.2.2 dX0_defectOfOpen_9
set_option maxHeartbeats 4000000 in
set_option maxRecDepth 100000 in
theorem c_X0_defectOfEnd (l : Launch) (dC : Nat → ClassId) (dI : Nat → Nat → Nat) (ad : Nat → Nat) (cz ci cj : ClassId) (sz : Nat) (cnt : Int32) (fO : Nat → Int32) (fA : Nat → Int32) (fB : Nat → Int32) (fT : Nat → Int32) (sv : Int32) (fC : Nat → Int64) (rs : Int64) (dk : Int32) (ds : Int32) (fL : Nat → Int32) (fl : Nat → Int32) (fh : Nat → Int32) (n : Nat) (hn : n < 60) (hO : fO n = 0) : Met l yX0_defectOfEnd wX0_defectOfEnd ({ frames := 0, cells := 0, slots := 0, locals := 0 }) (va_Pc [.ref (ad 0), .int (nI n)] (g_Pre (dC, dI) vwCl (gty cz ci cj) (gw ad cz ci cj (cnt, fO, fA, fB, fT, sv, fC, rs, dk, ds, fL, fl, fh)) sz)) (va_Qi (fun (r : Int32) (u : GS) => u = (cnt, fO, fA, fB, fT, sv, fC, rs, dk, ds, fL, fl, fh) ∧ r = g_dn fO fA fB n) (g_At (dC, dI) vwCl (gty cz ci cj) (va_A (gw ad cz ci cj (cnt, fO, fA, fB, fT, sv, fC, rs, dk, ds, fL, fl, fh)) sz) (gw ad cz ci cj)) (va_A (gw ad cz ci cj (cnt, fO, fA, fB, fT, sv, fC, rs, dk, ds, fL, fl, fh)) sz)) 0 0 (va_A (gw ad cz ci cj (cnt, fO, fA, fB, fT, sv, fC, rs, dk, ds, fL, fl, fh)) sz) := by
  refine Met.ofW (cc := cX0_defectOfEnd) (maxL := 2) (ret := some .int) (by decide) rfl ?_
  intro p e s m args below meth c s₁ Bd hml hv
  obtain ⟨rfl, hsz, hP, hK, hD0⟩ := hv
  have hx := Bd.exec
  have hb := Bd.bytes
  have hr := Bd.returns
  have hts := atoms_spec (ws := wX0_defectOfEnd) Bd.pre
  have hw : ∀ w ∈ wAll, w.before _ s = true := fun w h => hts w (List.mem_cons_of_mem _ h)
  have hown : s.vm.findClass "GameGraph" = some m.cls := findClass_of_methodNamed Bd.named
  have hlocks := Bd.notSynchronized
  subst hsz
  have hD := hD0.self (sz := s.heap.size)
  generalize hAe : va_A (gw ad cz ci cj (cnt, fO, fA, fB, fT, sv, fC, rs, dk, ds, fL, fl, fh)) s.heap.size = Ar at hD ⊢
  have hA : ∀ q : Nat, s.heap.size ≤ q → Ar q := fun q h => by rw [← hAe]; exact Or.inr h
  obtain ⟨H, hH⟩ : ∃ H : Heap, H = s.heap := ⟨_, rfl⟩
  have hS : va_S Ar s.heap H [] := by rw [hH]; exact va_S.rf
  have hP : va_P (dC, dI) vwCl (gw ad cz ci cj (cnt, fO, fA, fB, fT, sv, fC, rs, dk, ds, fL, fl, fh)) H := by rw [hH]; exact hP
  rw [← hH]
  have hl := lv_entry ([.ref (ad 0), .int (nI n)]) (n := 2) (Nat.le_of_ble_eq_true rfl)
  rw [lg_entry_eq]
  generalize (lg_sl ([.ref (ad 0), .int (nI n)]) ++ List.replicate (2 - (lg_sl ([.ref (ad 0), .int (nI n)])).length) Slot.unset).toArray = ls at hl ⊢
  have hl : lv_has ls 2 [(0, .ref (ad 0)), (1, .int (nI n))] := hl
  refine lv_aload_n hx hb dX0_defectOfEnd_0 rfl (lv_at hl 0 rfl) ?_
  refine va_get (D := (dC, dI)) (ci := 0) (v := .ref (ad 2)) (C := RX0) (T := TX0) (N := 13) hx hb hw in_X0 hown hK hP 0 rfl rfl 2 (by decide) (hw _ m_1_20) (fun _ h9 => h9) rfl dX0_defectOfEnd_1 ?_
  refine lv_iload_n hx hb dX0_defectOfEnd_4 rfl (lv_at hl 1 rfl) ?_
  refine va_iald hx hb hK hP 2 1 rfl rfl (vp_in_nI (by omega) (by decide)) dX0_defectOfEnd_5 ?_
  refine x_topi (y := fA n) (by rw [nI_clamp (by omega)]) ?_
  refine lv_if_lt (tgt := 18) hx hb dX0_defectOfEnd_6 (by decide) (fun c_1 => ?_) (fun c_1 => ?_)
  · refine lv_iconst (v := 4) hx hb dX0_defectOfEnd_18 (by decide) ?_
    exact W.iret (v := 4) hx hb hr (fun t ht hW => ⟨⟨4, (cnt, fO, fA, fB, fT, sv, fC, rs, dk, ds, fL, fl, fh), rfl, (⟨rfl, k_dn4 hO (Or.inl c_1)⟩), (by rw [ht]; exact hP), va_K.moved hW.alike hK, hD⟩, hS.F ht⟩) hS.2.2 dX0_defectOfEnd_19
  · refine lv_aload_n hx hb dX0_defectOfEnd_9 rfl (lv_at hl 0 rfl) ?_
    refine va_get (D := (dC, dI)) (ci := 0) (v := .ref (ad 3)) (C := RX0) (T := TX0) (N := 13) hx hb hw in_X0 hown hK hP 0 rfl rfl 3 (by decide) (hw _ m_1_21) (fun _ h9 => h9) rfl dX0_defectOfEnd_10 ?_
    refine lv_iload_n hx hb dX0_defectOfEnd_13 rfl (lv_at hl 1 rfl) ?_
    refine va_iald hx hb hK hP 3 1 rfl rfl (vp_in_nI (by omega) (by decide)) dX0_defectOfEnd_14 ?_
    refine x_topi (y := fB n) (by rw [nI_clamp (by omega)]) ?_
    refine lv_if_ge (tgt := 20) hx hb dX0_defectOfEnd_15 (by decide) (fun cb_2 => ?_) (fun cb_2 => ?_)
    · refine lv_aload_n hx hb dX0_defectOfEnd_20 rfl (lv_at hl 0 rfl) ?_
      refine va_get (D := (dC, dI)) (ci := 0) (v := .ref (ad 2)) (C := RX0) (T := TX0) (N := 13) hx hb hw in_X0 hown hK hP 0 rfl rfl 2 (by decide) (hw _ m_1_20) (fun _ h9 => h9) rfl dX0_defectOfEnd_21 ?_
      refine lv_iload_n hx hb dX0_defectOfEnd_24 rfl (lv_at hl 1 rfl) ?_
      refine va_iald hx hb hK hP 2 1 rfl rfl (vp_in_nI (by omega) (by decide)) dX0_defectOfEnd_25 ?_
      refine x_topi (y := fA n) (by rw [nI_clamp (by omega)]) ?_
      refine lv_aload_n hx hb dX0_defectOfEnd_26 rfl (lv_at hl 0 rfl) ?_
      refine va_get (D := (dC, dI)) (ci := 0) (v := .ref (ad 3)) (C := RX0) (T := TX0) (N := 13) hx hb hw in_X0 hown hK hP 0 rfl rfl 3 (by decide) (hw _ m_1_21) (fun _ h9 => h9) rfl dX0_defectOfEnd_27 ?_
      refine lv_iload_n hx hb dX0_defectOfEnd_30 rfl (lv_at hl 1 rfl) ?_
      refine va_iald hx hb hK hP 3 1 rfl rfl (vp_in_nI (by omega) (by decide)) dX0_defectOfEnd_31 ?_
      refine x_topi (y := fB n) (by rw [nI_clamp (by omega)]) ?_
      refine lv_iadd hx hb dX0_defectOfEnd_32 ?_
      refine lv_bipush (v := 100) hx hb dX0_defectOfEnd_33 (by decide) ?_
      refine lv_icmp_eq (tgt := 42) hx hb dX0_defectOfEnd_35 (by decide) (fun cba_3 => ?_) (fun cba_3 => ?_)
      · refine lv_iconst (v := 0) hx hb dX0_defectOfEnd_42 (by decide) ?_
        exact W.iret (v := 0) hx hb hr (fun t ht hW => ⟨⟨0, (cnt, fO, fA, fB, fT, sv, fC, rs, dk, ds, fL, fl, fh), rfl, (⟨rfl, k_dn6 hO (k_or2 c_1 cb_2) cba_3⟩), (by rw [ht]; exact hP), va_K.moved hW.alike hK, hD⟩, hS.F ht⟩) hS.2.2 dX0_defectOfEnd_43
      · refine lv_iconst (v := 5) hx hb dX0_defectOfEnd_38 (by decide) ?_
        refine lv_goto (tgt := 43) hx hb dX0_defectOfEnd_39 (by decide) ?_
        exact W.iret (v := 5) hx hb hr (fun t ht hW => ⟨⟨5, (cnt, fO, fA, fB, fT, sv, fC, rs, dk, ds, fL, fl, fh), rfl, (⟨rfl, k_dn5 hO (k_or2 c_1 cb_2) cba_3⟩), (by rw [ht]; exact hP), va_K.moved hW.alike hK, hD⟩, hS.F ht⟩) hS.2.2 dX0_defectOfEnd_43
    · refine lv_iconst (v := 4) hx hb dX0_defectOfEnd_18 (by decide) ?_
      exact W.iret (v := 4) hx hb hr (fun t ht hW => ⟨⟨4, (cnt, fO, fA, fB, fT, sv, fC, rs, dk, ds, fL, fl, fh), rfl, (⟨rfl, k_dn4 hO (Or.inr (k_nge cb_2))⟩), (by rw [ht]; exact hP), va_K.moved hW.alike hK, hD⟩, hS.F ht⟩) hS.2.2 dX0_defectOfEnd_19
set_option maxHeartbeats 4000000 in
set_option maxRecDepth 100000 in
theorem lp_def1 {p : Program} {l : Launch} {e : Env} {R : Room} {s : State} {m : MethodId} {args : Array Value} {below : List Frame} {meth : Method} {c : Code} {Q : State → Prop} {dC : Nat → ClassId} {dI : Nat → Nat → Nat} {ad : Nat → Nat} {cz ci cj : ClassId} {Ar : Nat → Prop} (hx : p.tables.exec = Jvm.exec) (hb : c.code = cX0_findDefect) (hml : c.maxLocals = 2) (hown : s.vm.findClass "GameGraph" = some m.cls) (hw : ∀ w ∈ wAll, w.before args s = true) (hK : va_K (dC, dI) vwCl (gty cz ci cj) s) (hA : ∀ q, s.heap.size ≤ q → Ar q) (hR1 : 2 ≤ R.frames) (hR2 : 42 ≤ R.locals) (fO fA fB fT : Nat → Int32) (sv : Int32) (fC : Nat → Int64) (rs : Int64) (fL fl fh : Nat → Int32) (c0 : Nat) (hg : g_ok c0 fO fA fB fT) (hrs : ∀ m, m < c0 → (b_t rs m = true ↔ s_re c0 (gmv fO fA fB) (gtg fT) m)) (hC : ∀ a, a < c0 → ∀ m, b_t (fC a) m = true ↔ s_to c0 (gmv fO fA fB) (gtg fT) a m)
    (kx : ∀ (dk2 : Int32) (ds2 : Int32), (g_i2 c0 0 (s_re c0 (gmv fO fA fB) (gtg fT)) (fun n => s_to c0 (gmv fO fA fB) (gtg fT) n n) (g_dn fO fA fB) dk2 ds2) → ∀ (H : Heap) (locs : List Loc), va_P (dC, dI) vwCl (gw ad cz ci cj ((nI c0), fO, fA, fB, fT, sv, fC, rs, dk2, ds2, fL, fl, fh)) H → va_D Ar (gw ad cz ci cj ((nI c0), fO, fA, fB, fT, sv, fC, rs, dk2, ds2, fL, fl, fh)) → va_S Ar s.heap H locs → ∀ (ls : Array Slot), lv_has ls 2 [(0, .ref (ad 0))] → W p l e R s m args below meth c H locs 0 0 Q (F0 m 71 ls [])) :
    ∀ (fuel : Nat) (i : Nat) (dk2 : Int32) (ds2 : Int32), c0 + 1 ≤ i + fuel → i ≤ c0 → (g_i1 c0 i (s_re c0 (gmv fO fA fB) (gtg fT)) (g_dn fO fA fB) dk2 ds2) → ∀ (H : Heap) (locs : List Loc), va_P (dC, dI) vwCl (gw ad cz ci cj ((nI c0), fO, fA, fB, fT, sv, fC, rs, dk2, ds2, fL, fl, fh)) H → va_D Ar (gw ad cz ci cj ((nI c0), fO, fA, fB, fT, sv, fC, rs, dk2, ds2, fL, fl, fh)) → va_S Ar s.heap H locs → ∀ (ls : Array Slot), lv_has ls 2 [(0, .ref (ad 0)), (1, .int (nI i))] → W p l e R s m args below meth c H locs 0 0 Q (F0 m 12 ls []) := by
  intro fuel
  induction fuel with
  | zero => intro i dk2 ds2 hfu hi hI; exact absurd hfu (by omega)
  | succ fuel ih =>
    intro i dk2 ds2 hfu hi hI H locs hP hD hS ls hl
    have h60 := hg.2.1
    refine lv_iload_n hx hb dX0_findDefect_12 rfl (lv_at hl 1 rfl) ?_
    refine lv_aload_n hx hb dX0_findDefect_13 rfl (lv_at hl 0 rfl) ?_
    refine va_get (D := (dC, dI)) (ci := 0) (v := .int (nI c0)) (C := RX0) (T := TX0) (N := 13) hx hb hw in_X0 hown hK hP 0 rfl rfl 0 (by decide) (hw _ m_1_18) (fun _ h9 => h9) rfl dX0_findDefect_14 ?_
    refine lv_icmp_ge (tgt := 71) hx hb dX0_findDefect_17 (by decide) (fun c_1 => ?_) (fun c_1 => ?_)
    · exact kx dk2 ds2 (g_i1_x (by rw [show i = c0 from (k_eq hi c_1 (by omega)).symm] at hI; exact hI) _) _ _ hP hD hS _ (lv_sub hl [0] rfl)
    · have hlt : i < c0 := k_lt c_1 (by omega)
      refine lv_aload_n hx hb dX0_findDefect_20 rfl (lv_at hl 0 rfl) ?_
      refine va_get (D := (dC, dI)) (ci := 0) (v := .int dk2) (C := RX0) (T := TX0) (N := 13) hx hb hw in_X0 hown hK hP 0 rfl rfl 8 (by decide) (hw _ m_1_26) (fun _ h9 => h9) rfl dX0_findDefect_21 ?_
      refine lv_if_ne (tgt := 71) hx hb dX0_findDefect_24 (by decide) (fun cb_2 => ?_) (fun cb_2 => ?_)
      · exact kx dk2 ds2 (g_i1_y hI cb_2 _) _ _ hP hD hS _ (lv_sub hl [0] rfl)
      · refine lv_aload_n hx hb dX0_findDefect_27 rfl (lv_at hl 0 rfl) ?_
        refine va_get (D := (dC, dI)) (ci := 0) (v := .long rs) (C := RX0) (T := TX0) (N := 13) hx hb hw in_X0 hown hK hP 0 rfl rfl 7 (by decide) (hw _ m_1_25) (fun _ h9 => h9) rfl dX0_findDefect_28 ?_
        refine lv_iload_n hx hb dX0_findDefect_31 rfl (lv_at hl 1 rfl) ?_
        refine g_calls ⟨hx, hb, hml, hown, hw⟩ (c_X0_contains l rs i (by omega)) (va_cwS 2 hw gs_X0_X0_contains rfl rfl rfl (by decide +kernel) ⟨Nat.le_trans (Nat.le_of_ble_eq_true rfl) hR1, Nat.le_trans (Nat.le_of_ble_eq_true rfl) hR2⟩) hP hS rfl hl.1 rfl (Nat.le_of_ble_eq_true rfl) dX0_findDefect_32 ⟨Nat.zero_le _, Nat.zero_le _⟩ (fun rbb_3 H locs hq hP hS => ?_)
        have hP : va_P (dC, dI) vwCl (gw ad cz ci cj ((nI c0), fO, fA, fB, fT, sv, fC, rs, dk2, ds2, fL, fl, fh)) H := hP
        have hD : va_D Ar (gw ad cz ci cj ((nI c0), fO, fA, fB, fT, sv, fC, rs, dk2, ds2, fL, fl, fh)) := hD
        refine lv_if_eq (tgt := 65) hx hb dX0_findDefect_35 (by decide) (fun cbb_4 => ?_) (fun cbb_4 => ?_)
        · refine lv_iinc (v := (nI (i + 1))) (lv' := [(1, .int (nI (i + 1))), (0, .ref (ad 0))]) hx hb dX0_findDefect_65 hl (k := 1) rfl (nI_1 i) (by decide) rfl (fun ls hl => ?_)
          refine lv_goto (tgt := 12) hx hb dX0_findDefect_68 (by decide) ?_
          exact ih (i + 1) dk2 ds2 (by omega) (by omega) (g_i1_no hI (fun h => by have h1 := (hrs i hlt).mpr h; rw [k_b0 hq cbb_4] at h1; cases h1)) _ _ hP hD hS _ (lv_sub hl [1, 0] rfl)
        · have hre := (hrs i hlt).mp (k_b1 hq cbb_4)
          refine lv_aload_n hx hb dX0_findDefect_38 rfl (lv_at hl 0 rfl) ?_
          refine lv_iload_n hx hb dX0_findDefect_39 rfl (lv_at hl 1 rfl) ?_
          refine lv_aload_n hx hb dX0_findDefect_40 rfl (lv_at hl 0 rfl) ?_
          refine va_get (D := (dC, dI)) (ci := 0) (v := .ref (ad 1)) (C := RX0) (T := TX0) (N := 13) hx hb hw in_X0 hown hK hP 0 rfl rfl 1 (by decide) (hw _ m_1_19) (fun _ h9 => h9) rfl dX0_findDefect_41 ?_
          refine lv_iload_n hx hb dX0_findDefect_44 rfl (lv_at hl 1 rfl) ?_
          refine va_zald hx hb hK hP 1 0 rfl rfl (vp_in_nI (by omega) (by decide)) dX0_findDefect_45 ?_
          refine x_topi (y := fO i) (by rw [nI_clamp (by omega)]) ?_
          refine lv_if_eq (tgt := 57) hx hb dX0_findDefect_46 (by decide) (fun cbbb_5 => ?_) (fun cbbb_5 => ?_)
          · refine lv_aload_n hx hb dX0_findDefect_57 rfl (lv_at hl 0 rfl) ?_
            refine lv_iload_n hx hb dX0_findDefect_58 rfl (lv_at hl 1 rfl) ?_
            refine g_calli ⟨hx, hb, hml, hown, hw⟩ (c_X0_defectOfEnd l dC dI ad cz ci cj H.size (nI c0) fO fA fB fT sv fC rs dk2 ds2 fL fl fh i (by omega) cbbb_5) (cwV 1 hw gv_X0_X0_defectOfEnd rfl rfl rfl (by decide +kernel) ⟨Nat.le_trans (Nat.le_of_ble_eq_true rfl) hR1, Nat.le_trans (Nat.le_of_ble_eq_true rfl) hR2⟩) hK hP hD hS hA (ci := 0) (q0 := 0) rfl rfl rfl hl.1 rfl (Nat.le_of_ble_eq_true rfl) dX0_findDefect_59 ⟨Nat.zero_le _, Nat.zero_le _⟩ (fun rbbba_6 un H locs hq hP hD hS => ?_)
            obtain ⟨rfl, hd⟩ := hq
            have hP : va_P (dC, dI) vwCl (gw ad cz ci cj ((nI c0), fO, fA, fB, fT, sv, fC, rs, dk2, ds2, fL, fl, fh)) H := hP
            have hD : va_D Ar (gw ad cz ci cj ((nI c0), fO, fA, fB, fT, sv, fC, rs, dk2, ds2, fL, fl, fh)) := hD
            refine x_topi (y := g_dn fO fA fB i) (hd) ?_
            refine g_callv ⟨hx, hb, hml, hown, hw⟩ (c_X0_noteDefect l dC dI ad cz ci cj H.size (nI c0) fO fA fB fT sv fC rs dk2 ds2 fL fl fh (nI i) (g_dn fO fA fB i)) (cwV 2 hw gv_X0_X0_noteDefect rfl rfl rfl (by decide +kernel) ⟨Nat.le_trans (Nat.le_of_ble_eq_true rfl) hR1, Nat.le_trans (Nat.le_of_ble_eq_true rfl) hR2⟩) hK hP hD hS hA (ci := 0) (q0 := 0) rfl rfl rfl hl.1 rfl (Nat.le_of_ble_eq_true rfl) dX0_findDefect_62 ⟨Nat.zero_le _, Nat.zero_le _⟩ (fun  un H locs hq hP hD hS => ?_)
            have hu : un = ((nI c0), fO, fA, fB, fT, sv, fC, rs, (if g_dn fO fA fB i = 0 then dk2 else g_dn fO fA fB i), (if g_dn fO fA fB i = 0 then ds2 else nI i), fL, fl, fh) := by rw [hq]; by_cases q : g_dn fO fA fB i = 0 <;> simp [q]
            subst hu
            have hP : va_P (dC, dI) vwCl (gw ad cz ci cj ((nI c0), fO, fA, fB, fT, sv, fC, rs, (if g_dn fO fA fB i = 0 then dk2 else g_dn fO fA fB i), (if g_dn fO fA fB i = 0 then ds2 else nI i), fL, fl, fh)) H := hP
            have hD : va_D Ar (gw ad cz ci cj ((nI c0), fO, fA, fB, fT, sv, fC, rs, (if g_dn fO fA fB i = 0 then dk2 else g_dn fO fA fB i), (if g_dn fO fA fB i = 0 then ds2 else nI i), fL, fl, fh)) := hD
            refine lv_iinc (v := (nI (i + 1))) (lv' := [(1, .int (nI (i + 1))), (0, .ref (ad 0))]) hx hb dX0_findDefect_65 hl (k := 1) rfl (nI_1 i) (by decide) rfl (fun ls hl => ?_)
            refine lv_goto (tgt := 12) hx hb dX0_findDefect_68 (by decide) ?_
            exact ih (i + 1) (if g_dn fO fA fB i = 0 then dk2 else g_dn fO fA fB i) (if g_dn fO fA fB i = 0 then ds2 else nI i) (by omega) (by omega) (g_i1_st hI cb_2 hlt hre rfl rfl) _ _ hP hD hS _ (lv_sub hl [1, 0] rfl)
          · refine lv_aload_n hx hb dX0_findDefect_49 rfl (lv_at hl 0 rfl) ?_
            refine lv_iload_n hx hb dX0_findDefect_50 rfl (lv_at hl 1 rfl) ?_
            refine g_calli ⟨hx, hb, hml, hown, hw⟩ (c_X0_defectOfOpen l dC dI ad cz ci cj H.size (nI c0) fO fA fB fT sv fC rs dk2 ds2 fL fl fh i c0 hg hlt cbbb_5) (cwV 1 hw gv_X0_X0_defectOfOpen rfl rfl rfl (by decide +kernel) ⟨Nat.le_trans (Nat.le_of_ble_eq_true rfl) hR1, Nat.le_trans (Nat.le_of_ble_eq_true rfl) hR2⟩) hK hP hD hS hA (ci := 0) (q0 := 0) rfl rfl rfl hl.1 rfl (Nat.le_of_ble_eq_true rfl) dX0_findDefect_51 ⟨Nat.zero_le _, Nat.zero_le _⟩ (fun rbbbb_6 un H locs hq hP hD hS => ?_)
            obtain ⟨rfl, hd⟩ := hq
            have hP : va_P (dC, dI) vwCl (gw ad cz ci cj ((nI c0), fO, fA, fB, fT, sv, fC, rs, dk2, ds2, fL, fl, fh)) H := hP
            have hD : va_D Ar (gw ad cz ci cj ((nI c0), fO, fA, fB, fT, sv, fC, rs, dk2, ds2, fL, fl, fh)) := hD
            refine x_topi (y := g_dn fO fA fB i) (hd) ?_
            refine lv_goto (tgt := 62) hx hb dX0_findDefect_54 (by decide) ?_
            refine g_callv ⟨hx, hb, hml, hown, hw⟩ (c_X0_noteDefect l dC dI ad cz ci cj H.size (nI c0) fO fA fB fT sv fC rs dk2 ds2 fL fl fh (nI i) (g_dn fO fA fB i)) (cwV 2 hw gv_X0_X0_noteDefect rfl rfl rfl (by decide +kernel) ⟨Nat.le_trans (Nat.le_of_ble_eq_true rfl) hR1, Nat.le_trans (Nat.le_of_ble_eq_true rfl) hR2⟩) hK hP hD hS hA (ci := 0) (q0 := 0) rfl rfl rfl hl.1 rfl (Nat.le_of_ble_eq_true rfl) dX0_findDefect_62 ⟨Nat.zero_le _, Nat.zero_le _⟩ (fun  un H locs hq hP hD hS => ?_)
            have hu : un = ((nI c0), fO, fA, fB, fT, sv, fC, rs, (if g_dn fO fA fB i = 0 then dk2 else g_dn fO fA fB i), (if g_dn fO fA fB i = 0 then ds2 else nI i), fL, fl, fh) := by rw [hq]; by_cases q : g_dn fO fA fB i = 0 <;> simp [q]
            subst hu
            have hP : va_P (dC, dI) vwCl (gw ad cz ci cj ((nI c0), fO, fA, fB, fT, sv, fC, rs, (if g_dn fO fA fB i = 0 then dk2 else g_dn fO fA fB i), (if g_dn fO fA fB i = 0 then ds2 else nI i), fL, fl, fh)) H := hP
            have hD : va_D Ar (gw ad cz ci cj ((nI c0), fO, fA, fB, fT, sv, fC, rs, (if g_dn fO fA fB i = 0 then dk2 else g_dn fO fA fB i), (if g_dn fO fA fB i = 0 then ds2 else nI i), fL, fl, fh)) := hD
            refine lv_iinc (v := (nI (i + 1))) (lv' := [(1, .int (nI (i + 1))), (0, .ref (ad 0))]) hx hb dX0_findDefect_65 hl (k := 1) rfl (nI_1 i) (by decide) rfl (fun ls hl => ?_)
            refine lv_goto (tgt := 12) hx hb dX0_findDefect_68 (by decide) ?_
            exact ih (i + 1) (if g_dn fO fA fB i = 0 then dk2 else g_dn fO fA fB i) (if g_dn fO fA fB i = 0 then ds2 else nI i) (by omega) (by omega) (g_i1_st hI cb_2 hlt hre rfl rfl) _ _ hP hD hS _ (lv_sub hl [1, 0] rfl)
set_option maxHeartbeats 4000000 in
set_option maxRecDepth 100000 in
theorem lp_def2 {p : Program} {l : Launch} {e : Env} {R : Room} {s : State} {m : MethodId} {args : Array Value} {below : List Frame} {meth : Method} {c : Code} {Q : State → Prop} {dC : Nat → ClassId} {dI : Nat → Nat → Nat} {ad : Nat → Nat} {cz ci cj : ClassId} {Ar : Nat → Prop} (hx : p.tables.exec = Jvm.exec) (hb : c.code = cX0_findDefect) (hml : c.maxLocals = 2) (hown : s.vm.findClass "GameGraph" = some m.cls) (hw : ∀ w ∈ wAll, w.before args s = true) (hK : va_K (dC, dI) vwCl (gty cz ci cj) s) (hA : ∀ q, s.heap.size ≤ q → Ar q) (hR1 : 1 ≤ R.frames) (hR2 : 22 ≤ R.locals) (fO fA fB fT : Nat → Int32) (sv : Int32) (fC : Nat → Int64) (rs : Int64) (fL fl fh : Nat → Int32) (c0 : Nat) (hg : g_ok c0 fO fA fB fT) (hrs : ∀ m, m < c0 → (b_t rs m = true ↔ s_re c0 (gmv fO fA fB) (gtg fT) m)) (hC : ∀ a, a < c0 → ∀ m, b_t (fC a) m = true ↔ s_to c0 (gmv fO fA fB) (gtg fT) a m)
    (kx : ∀ (dk2 : Int32) (ds2 : Int32), (g_df c0 (s_re c0 (gmv fO fA fB) (gtg fT)) (fun n => s_to c0 (gmv fO fA fB) (gtg fT) n n) (g_dn fO fA fB) dk2 ds2) → ∀ (H : Heap) (locs : List Loc), va_P (dC, dI) vwCl (gw ad cz ci cj ((nI c0), fO, fA, fB, fT, sv, fC, rs, dk2, ds2, fL, fl, fh)) H → va_D Ar (gw ad cz ci cj ((nI c0), fO, fA, fB, fT, sv, fC, rs, dk2, ds2, fL, fl, fh)) → va_S Ar s.heap H locs → ∀ (ls : Array Slot), lv_has ls 2 [(0, .ref (ad 0))] → W p l e R s m args below meth c H locs 0 0 Q (F0 m 129 ls [])) :
    ∀ (fuel : Nat) (i : Nat) (dk2 : Int32) (ds2 : Int32), c0 + 1 ≤ i + fuel → i ≤ c0 → (g_i2 c0 i (s_re c0 (gmv fO fA fB) (gtg fT)) (fun n => s_to c0 (gmv fO fA fB) (gtg fT) n n) (g_dn fO fA fB) dk2 ds2) → ∀ (H : Heap) (locs : List Loc), va_P (dC, dI) vwCl (gw ad cz ci cj ((nI c0), fO, fA, fB, fT, sv, fC, rs, dk2, ds2, fL, fl, fh)) H → va_D Ar (gw ad cz ci cj ((nI c0), fO, fA, fB, fT, sv, fC, rs, dk2, ds2, fL, fl, fh)) → va_S Ar s.heap H locs → ∀ (ls : Array Slot), lv_has ls 2 [(0, .ref (ad 0)), (1, .int (nI i))] → W p l e R s m args below meth c H locs 0 0 Q (F0 m 73 ls []) := by
  intro fuel
  induction fuel with
  | zero => intro i dk2 ds2 hfu hi hI; exact absurd hfu (by omega)
  | succ fuel ih =>
    intro i dk2 ds2 hfu hi hI H locs hP hD hS ls hl
    have h60 := hg.2.1
    refine lv_iload_n hx hb dX0_findDefect_73 rfl (lv_at hl 1 rfl) ?_
    refine lv_aload_n hx hb dX0_findDefect_74 rfl (lv_at hl 0 rfl) ?_
    refine va_get (D := (dC, dI)) (ci := 0) (v := .int (nI c0)) (C := RX0) (T := TX0) (N := 13) hx hb hw in_X0 hown hK hP 0 rfl rfl 0 (by decide) (hw _ m_1_18) (fun _ h9 => h9) rfl dX0_findDefect_75 ?_
    refine lv_icmp_ge (tgt := 129) hx hb dX0_findDefect_78 (by decide) (fun c_1 => ?_) (fun c_1 => ?_)
    · exact kx dk2 ds2 (g_i2_x (by rw [show i = c0 from (k_eq hi c_1 (by omega)).symm] at hI; exact hI)) _ _ hP hD hS _ (lv_sub hl [0] rfl)
    · have hlt : i < c0 := k_lt c_1 (by omega)
      refine lv_aload_n hx hb dX0_findDefect_81 rfl (lv_at hl 0 rfl) ?_
      refine va_get (D := (dC, dI)) (ci := 0) (v := .int dk2) (C := RX0) (T := TX0) (N := 13) hx hb hw in_X0 hown hK hP 0 rfl rfl 8 (by decide) (hw _ m_1_26) (fun _ h9 => h9) rfl dX0_findDefect_82 ?_
      refine lv_if_ne (tgt := 129) hx hb dX0_findDefect_85 (by decide) (fun cb_2 => ?_) (fun cb_2 => ?_)
      · exact kx dk2 ds2 (g_i2_y hI cb_2) _ _ hP hD hS _ (lv_sub hl [0] rfl)
      · refine lv_aload_n hx hb dX0_findDefect_88 rfl (lv_at hl 0 rfl) ?_
        refine va_get (D := (dC, dI)) (ci := 0) (v := .long rs) (C := RX0) (T := TX0) (N := 13) hx hb hw in_X0 hown hK hP 0 rfl rfl 7 (by decide) (hw _ m_1_25) (fun _ h9 => h9) rfl dX0_findDefect_89 ?_
        refine lv_iload_n hx hb dX0_findDefect_92 rfl (lv_at hl 1 rfl) ?_
        refine g_calls ⟨hx, hb, hml, hown, hw⟩ (c_X0_contains l rs i (by omega)) (va_cwS 2 hw gs_X0_X0_contains rfl rfl rfl (by decide +kernel) ⟨Nat.le_trans (Nat.le_of_ble_eq_true rfl) hR1, Nat.le_trans (Nat.le_of_ble_eq_true rfl) hR2⟩) hP hS rfl hl.1 rfl (Nat.le_of_ble_eq_true rfl) dX0_findDefect_93 ⟨Nat.zero_le _, Nat.zero_le _⟩ (fun rbb_3 H locs hq hP hS => ?_)
        have hP : va_P (dC, dI) vwCl (gw ad cz ci cj ((nI c0), fO, fA, fB, fT, sv, fC, rs, dk2, ds2, fL, fl, fh)) H := hP
        have hD : va_D Ar (gw ad cz ci cj ((nI c0), fO, fA, fB, fT, sv, fC, rs, dk2, ds2, fL, fl, fh)) := hD
        refine lv_if_eq (tgt := 123) hx hb dX0_findDefect_96 (by decide) (fun cbb_4 => ?_) (fun cbb_4 => ?_)
        · refine lv_iinc (v := (nI (i + 1))) (lv' := [(1, .int (nI (i + 1))), (0, .ref (ad 0))]) hx hb dX0_findDefect_123 hl (k := 1) rfl (nI_1 i) (by decide) rfl (fun ls hl => ?_)
          refine lv_goto (tgt := 73) hx hb dX0_findDefect_126 (by decide) ?_
          exact ih (i + 1) dk2 ds2 (by omega) (by omega) (g_i2_no hI (fun h => by have h1 := (hrs i hlt).mpr h; rw [k_b0 hq cbb_4] at h1; cases h1)) _ _ hP hD hS _ (lv_sub hl [1, 0] rfl)
        · have hre := (hrs i hlt).mp (k_b1 hq cbb_4)
          refine lv_aload_n hx hb dX0_findDefect_99 rfl (lv_at hl 0 rfl) ?_
          refine lv_iload_n hx hb dX0_findDefect_100 rfl (lv_at hl 1 rfl) ?_
          refine lv_aload_n hx hb dX0_findDefect_101 rfl (lv_at hl 0 rfl) ?_
          refine va_get (D := (dC, dI)) (ci := 0) (v := .ref (ad 5)) (C := RX0) (T := TX0) (N := 13) hx hb hw in_X0 hown hK hP 0 rfl rfl 6 (by decide) (hw _ m_1_24) (fun _ h9 => h9) rfl dX0_findDefect_102 ?_
          refine lv_iload_n hx hb dX0_findDefect_105 rfl (lv_at hl 1 rfl) ?_
          refine va_lald hx hb hK hP 5 2 rfl rfl (vp_in_nI (by omega) (by decide)) dX0_findDefect_106 ?_
          refine x_topl (y := fC i) (by rw [nI_clamp (by omega)]) ?_
          refine lv_iload_n hx hb dX0_findDefect_107 rfl (lv_at hl 1 rfl) ?_
          refine g_calls ⟨hx, hb, hml, hown, hw⟩ (c_X0_contains l (fC i) i (by omega)) (va_cwS 2 hw gs_X0_X0_contains rfl rfl rfl (by decide +kernel) ⟨Nat.le_trans (Nat.le_of_ble_eq_true rfl) hR1, Nat.le_trans (Nat.le_of_ble_eq_true rfl) hR2⟩) hP hS rfl hl.1 rfl (Nat.le_of_ble_eq_true rfl) dX0_findDefect_108 ⟨Nat.zero_le _, Nat.zero_le _⟩ (fun rbbb_5 H locs hq hP hS => ?_)
          have hP : va_P (dC, dI) vwCl (gw ad cz ci cj ((nI c0), fO, fA, fB, fT, sv, fC, rs, dk2, ds2, fL, fl, fh)) H := hP
          have hD : va_D Ar (gw ad cz ci cj ((nI c0), fO, fA, fB, fT, sv, fC, rs, dk2, ds2, fL, fl, fh)) := hD
          refine lv_if_eq (tgt := 119) hx hb dX0_findDefect_111 (by decide) (fun cbbb_6 => ?_) (fun cbbb_6 => ?_)
          · have hbb := k_b0 hq cbbb_6
            refine lv_iconst (v := 0) hx hb dX0_findDefect_119 (by decide) ?_
            refine g_callv ⟨hx, hb, hml, hown, hw⟩ (c_X0_noteDefect l dC dI ad cz ci cj H.size (nI c0) fO fA fB fT sv fC rs dk2 ds2 fL fl fh (nI i) 0) (cwV 2 hw gv_X0_X0_noteDefect rfl rfl rfl (by decide +kernel) ⟨Nat.le_trans (Nat.le_of_ble_eq_true rfl) hR1, Nat.le_trans (Nat.le_of_ble_eq_true rfl) hR2⟩) hK hP hD hS hA (ci := 0) (q0 := 0) rfl rfl rfl hl.1 rfl (Nat.le_of_ble_eq_true rfl) dX0_findDefect_120 ⟨Nat.zero_le _, Nat.zero_le _⟩ (fun  un H locs hq hP hD hS => ?_)
            rw [if_pos rfl] at hq
            subst hq
            have hP : va_P (dC, dI) vwCl (gw ad cz ci cj ((nI c0), fO, fA, fB, fT, sv, fC, rs, dk2, ds2, fL, fl, fh)) H := hP
            have hD : va_D Ar (gw ad cz ci cj ((nI c0), fO, fA, fB, fT, sv, fC, rs, dk2, ds2, fL, fl, fh)) := hD
            refine lv_iinc (v := (nI (i + 1))) (lv' := [(1, .int (nI (i + 1))), (0, .ref (ad 0))]) hx hb dX0_findDefect_123 hl (k := 1) rfl (nI_1 i) (by decide) rfl (fun ls hl => ?_)
            refine lv_goto (tgt := 73) hx hb dX0_findDefect_126 (by decide) ?_
            exact ih (i + 1) dk2 ds2 (by omega) (by omega) (g_i2_no hI (fun _ h => by have h1 := (hC i hlt i).mpr h; rw [hbb] at h1; cases h1)) _ _ hP hD hS _ (lv_sub hl [1, 0] rfl)
          · have hbb := k_b1 hq cbbb_6
            refine lv_bipush (v := 6) hx hb dX0_findDefect_114 (by decide) ?_
            refine lv_goto (tgt := 120) hx hb dX0_findDefect_116 (by decide) ?_
            refine g_callv ⟨hx, hb, hml, hown, hw⟩ (c_X0_noteDefect l dC dI ad cz ci cj H.size (nI c0) fO fA fB fT sv fC rs dk2 ds2 fL fl fh (nI i) 6) (cwV 2 hw gv_X0_X0_noteDefect rfl rfl rfl (by decide +kernel) ⟨Nat.le_trans (Nat.le_of_ble_eq_true rfl) hR1, Nat.le_trans (Nat.le_of_ble_eq_true rfl) hR2⟩) hK hP hD hS hA (ci := 0) (q0 := 0) rfl rfl rfl hl.1 rfl (Nat.le_of_ble_eq_true rfl) dX0_findDefect_120 ⟨Nat.zero_le _, Nat.zero_le _⟩ (fun  un H locs hq hP hD hS => ?_)
            rw [if_neg (by decide)] at hq
            subst hq
            have hP : va_P (dC, dI) vwCl (gw ad cz ci cj ((nI c0), fO, fA, fB, fT, sv, fC, rs, 6, (nI i), fL, fl, fh)) H := hP
            have hD : va_D Ar (gw ad cz ci cj ((nI c0), fO, fA, fB, fT, sv, fC, rs, 6, (nI i), fL, fl, fh)) := hD
            refine lv_iinc (v := (nI (i + 1))) (lv' := [(1, .int (nI (i + 1))), (0, .ref (ad 0))]) hx hb dX0_findDefect_123 hl (k := 1) rfl (nI_1 i) (by decide) rfl (fun ls hl => ?_)
            refine lv_goto (tgt := 73) hx hb dX0_findDefect_126 (by decide) ?_
            exact ih (i + 1) 6 (nI i) (by omega) (by omega) (g_i2_st hI cb_2 hlt hre ((hC i hlt i).mp hbb)) _ _ hP hD hS _ (lv_sub hl [1, 0] rfl)
set_option maxHeartbeats 4000000 in
set_option maxRecDepth 100000 in
theorem c_X0_findDefect (l : Launch) (dC : Nat → ClassId) (dI : Nat → Nat → Nat) (ad : Nat → Nat) (cz ci cj : ClassId) (sz : Nat) (cnt : Int32) (fO : Nat → Int32) (fA : Nat → Int32) (fB : Nat → Int32) (fT : Nat → Int32) (sv : Int32) (fC : Nat → Int64) (rs : Int64) (dk : Int32) (ds : Int32) (fL : Nat → Int32) (fl : Nat → Int32) (fh : Nat → Int32)  (c0 : Nat) (hg : g_ok c0 fO fA fB fT) (hrs : ∀ m, m < c0 → (b_t rs m = true ↔ s_re c0 (gmv fO fA fB) (gtg fT) m)) (hC : ∀ a, a < c0 → ∀ m, b_t (fC a) m = true ↔ s_to c0 (gmv fO fA fB) (gtg fT) a m) : Met l yX0_findDefect wX0_findDefect ({ frames := 2, cells := 0, slots := 0, locals := 42 }) (va_Pc [.ref (ad 0)] (g_Pre (dC, dI) vwCl (gty cz ci cj) (gw ad cz ci cj ((nI c0), fO, fA, fB, fT, sv, fC, rs, dk, ds, fL, fl, fh)) sz)) (va_Qv (fun (u : GS) => ∃ dk2 ds2 : Int32, g_df c0 (s_re c0 (gmv fO fA fB) (gtg fT)) (fun n => s_to c0 (gmv fO fA fB) (gtg fT) n n) (g_dn fO fA fB) dk2 ds2 ∧ u = (nI c0, fO, fA, fB, fT, sv, fC, rs, dk2, ds2, fL, fl, fh)) (g_At (dC, dI) vwCl (gty cz ci cj) (va_A (gw ad cz ci cj ((nI c0), fO, fA, fB, fT, sv, fC, rs, dk, ds, fL, fl, fh)) sz) (gw ad cz ci cj)) (va_A (gw ad cz ci cj ((nI c0), fO, fA, fB, fT, sv, fC, rs, dk, ds, fL, fl, fh)) sz)) 0 0 (va_A (gw ad cz ci cj ((nI c0), fO, fA, fB, fT, sv, fC, rs, dk, ds, fL, fl, fh)) sz) := by
  refine Met.ofW (cc := cX0_findDefect) (maxL := 2) (ret := none) (by decide) rfl ?_
  intro p e s m args below meth c s₁ Bd hml hv
  obtain ⟨rfl, hsz, hP, hK, hD0⟩ := hv
  have hx := Bd.exec
  have hb := Bd.bytes
  have hr := Bd.returns
  have hts := atoms_spec (ws := wX0_findDefect) Bd.pre
  have hw : ∀ w ∈ wAll, w.before _ s = true := fun w h => hts w (List.mem_cons_of_mem _ h)
  have hown : s.vm.findClass "GameGraph" = some m.cls := findClass_of_methodNamed Bd.named
  have hlocks := Bd.notSynchronized
  subst hsz
  have hD := hD0.self (sz := s.heap.size)
  generalize hAe : va_A (gw ad cz ci cj ((nI c0), fO, fA, fB, fT, sv, fC, rs, dk, ds, fL, fl, fh)) s.heap.size = Ar at hD ⊢
  have hA : ∀ q : Nat, s.heap.size ≤ q → Ar q := fun q h => by rw [← hAe]; exact Or.inr h
  obtain ⟨H, hH⟩ : ∃ H : Heap, H = s.heap := ⟨_, rfl⟩
  have hS : va_S Ar s.heap H [] := by rw [hH]; exact va_S.rf
  have hP : va_P (dC, dI) vwCl (gw ad cz ci cj ((nI c0), fO, fA, fB, fT, sv, fC, rs, dk, ds, fL, fl, fh)) H := by rw [hH]; exact hP
  rw [← hH]
  have hl := lv_entry ([.ref (ad 0)]) (n := 2) (Nat.le_of_ble_eq_true rfl)
  rw [lg_entry_eq]
  generalize (lg_sl ([.ref (ad 0)]) ++ List.replicate (2 - (lg_sl ([.ref (ad 0)])).length) Slot.unset).toArray = ls at hl ⊢
  have hl : lv_has ls 2 [(0, .ref (ad 0))] := hl
  refine lv_aload_n hx hb dX0_findDefect_0 rfl (lv_at hl 0 rfl) ?_
  refine lv_iconst (v := 0) hx hb dX0_findDefect_1 (by decide) ?_
  refine va_put (D := (dC, dI)) (ci := 0) (v := .int 0) (ty := .int) (C := RX0) (T := TX0) (N := 13) hx hb hw in_X0 tyX0 tyX0_ok nmX0 hown hK hP hD hS 0 rfl rfl 8 (by decide) (hw _ m_1_26) (fun _ h9 => h9) rfl (by decide +kernel) rfl rfl (Nat.le_of_ble_eq_true rfl) dX0_findDefect_2 (fun H locs hP hD hS => ?_)
  have hP : va_P (dC, dI) vwCl (gw ad cz ci cj ((nI c0), fO, fA, fB, fT, sv, fC, rs, 0, ds, fL, fl, fh)) H := hP
  have hD : va_D Ar (gw ad cz ci cj ((nI c0), fO, fA, fB, fT, sv, fC, rs, 0, ds, fL, fl, fh)) := hD
  refine lv_aload_n hx hb dX0_findDefect_5 rfl (lv_at hl 0 rfl) ?_
  refine lv_iconst (v := -1) hx hb dX0_findDefect_6 (by decide) ?_
  refine va_put (D := (dC, dI)) (ci := 0) (v := .int (-1)) (ty := .int) (C := RX0) (T := TX0) (N := 13) hx hb hw in_X0 tyX0 tyX0_ok nmX0 hown hK hP hD hS 0 rfl rfl 9 (by decide) (hw _ m_1_27) (fun _ h9 => h9) rfl (by decide +kernel) rfl rfl (Nat.le_of_ble_eq_true rfl) dX0_findDefect_7 (fun H locs hP hD hS => ?_)
  have hP : va_P (dC, dI) vwCl (gw ad cz ci cj ((nI c0), fO, fA, fB, fT, sv, fC, rs, 0, (-1), fL, fl, fh)) H := hP
  have hD : va_D Ar (gw ad cz ci cj ((nI c0), fO, fA, fB, fT, sv, fC, rs, 0, (-1), fL, fl, fh)) := hD
  refine lv_iconst (v := 0) hx hb dX0_findDefect_10 (by decide) ?_
  refine x_topi (y := nI 0) (rfl) ?_
  refine lv_istore_n (lv' := [(1, .int (nI 0)), (0, .ref (ad 0))]) hx hb dX0_findDefect_11 rfl hl (by decide) rfl (fun ls hl => ?_)
  refine lp_def1 (dC := dC) (dI := dI) (ad := ad) (cz := cz) (ci := ci) (cj := cj) (Ar := Ar) hx hb hml hown hw hK hA (Nat.le_of_ble_eq_true rfl) (Nat.le_of_ble_eq_true rfl) fO fA fB fT sv fC rs fL fl fh c0 hg hrs hC ?_ (c0 + 1) 0 0 (-1) (by omega) (by omega) (Or.inr ⟨fun k hk => absurd hk (Nat.not_lt_zero _), rfl, rfl⟩) _ _ hP hD hS _ (lv_sub hl [1, 0] rfl)
  intro dk2 ds2 hI H locs hP hD hS ls hl
  refine lv_iconst (v := 0) hx hb dX0_findDefect_71 (by decide) ?_
  refine x_topi (y := nI 0) (rfl) ?_
  refine lv_istore_n (lv' := [(1, .int (nI 0)), (0, .ref (ad 0))]) hx hb dX0_findDefect_72 rfl hl (by decide) rfl (fun ls hl => ?_)
  refine lp_def2 (dC := dC) (dI := dI) (ad := ad) (cz := cz) (ci := ci) (cj := cj) (Ar := Ar) hx hb hml hown hw hK hA (Nat.le_of_ble_eq_true rfl) (Nat.le_of_ble_eq_true rfl) fO fA fB fT sv fC rs fL fl fh c0 hg hrs hC ?_ (c0 + 1) 0 dk2 ds2 (by omega) (by omega) hI _ _ hP hD hS _ (lv_sub hl [1, 0] rfl)
  intro dk2 ds2 hI H locs hP hD hS ls hl
  exact W.vret hx hb hr (fun t ht hW => ⟨⟨((nI c0), fO, fA, fB, fT, sv, fC, rs, dk2, ds2, fL, fl, fh), rfl, (⟨dk2, ds2, hI, rfl⟩), (by rw [ht]; exact hP), va_K.moved hW.alike hK, hD⟩, hS.F ht⟩) hS.2.2 dX0_findDefect_129
end
section
/-! Lengths, bounds of values, what a survey leaves. -/
/-- settled, in round rd, those below n done -/
def g_ls (re : Nat → Prop) (len : Nat → Nat) (rd n : Nat) (set : Int64) (fL : Nat → Int32) : Prop := (∀ m, b_t set m = true ↔ re m ∧ len m < (if m < n then rd + 1 else rd)) ∧ ∀ m, re m → len m < (if m < n then rd + 1 else rd) → fL m = nI (len m)
theorem g_ls_no {re : Nat → Prop} {len : Nat → Nat} {rd n : Nat} {set : Int64} {fL : Nat → Int32} (h : g_ls re len rd n set fL) (hn : re n → ¬ len n = rd) : g_ls re len rd (n + 1) set fL := by
  have key : ∀ m, re m → (len m < (if m < n + 1 then rd + 1 else rd) ↔ len m < (if m < n then rd + 1 else rd)) := by
    intro m hm
    by_cases e : m = n
    · subst e
      have := hn hm
      rw [if_pos (by omega), if_neg (by omega)]; omega
    · by_cases q : m < n
      · rw [if_pos q, if_pos (by omega)]
      · rw [if_neg q, if_neg (by omega)]
  refine ⟨fun m => ?_, fun m hm hl => h.2 m hm ((key m hm).mp hl)⟩
  rw [h.1 m]
  exact ⟨fun ⟨a, b⟩ => ⟨a, (key m a).mpr b⟩, fun ⟨a, b⟩ => ⟨a, (key m a).mp b⟩⟩
theorem g_ls_yes {re : Nat → Prop} {len : Nat → Nat} {rd n : Nat} {set : Int64} {fL : Nat → Int32} (h : g_ls re len rd n set fL) (hn64 : n < 64) (hr : re n) (hn : len n = rd) : g_ls re len rd (n + 1) (set ||| ((1 : Int64) <<< ((nI n).toInt64 &&& 63))) (upd fL n (nI rd)) := by
  have key : ∀ m, m ≠ n → (len m < (if m < n + 1 then rd + 1 else rd) ↔ len m < (if m < n then rd + 1 else rd)) := by
    intro m e
    by_cases q : m < n
    · rw [if_pos q, if_pos (by omega)]
    · rw [if_neg q, if_neg (by omega)]
  refine ⟨fun m => ?_, fun m hm hl => ?_⟩
  · rw [b_t_or, b_t_1 hn64, Bool.or_eq_true, decide_eq_true_eq, h.1 m]
    by_cases e : m = n
    · subst e
      refine ⟨fun _ => ⟨hr, by rw [if_pos (by omega)]; omega⟩, fun _ => Or.inr rfl⟩
    · exact ⟨fun q => by rcases q with ⟨a, b⟩ | q; exact ⟨a, (key m e).mpr b⟩; exact absurd q e, fun ⟨a, b⟩ => Or.inl ⟨a, (key m e).mp b⟩⟩
  · by_cases e : m = n
    · subst e; rw [pk_us, hn]
    · rw [pk_un e]; exact h.2 m hm ((key m e).mp hl)
theorem g_ls_next {re : Nat → Prop} {len : Nat → Nat} {c rd : Nat} {set : Int64} {fL : Nat → Int32} (h : g_ls re len rd c set fL) (hc : ∀ m, re m → m < c) : g_ls re len (rd + 1) 0 set fL := by
  refine ⟨fun m => ?_, fun m hm hl => h.2 m hm (by rw [if_pos (hc m hm)]; rwa [if_neg (Nat.not_lt_zero _)] at hl)⟩
  rw [h.1 m]
  exact ⟨fun ⟨a, b⟩ => ⟨a, by rw [if_pos (hc m a)] at b; rw [if_neg (Nat.not_lt_zero _)]; exact b⟩, fun ⟨a, b⟩ => ⟨a, by rw [if_neg (Nat.not_lt_zero _)] at b; rw [if_pos (hc m a)]; exact b⟩⟩
/-- the row of comesTo lies in those settled before -/
theorem k_sub {x bs : Int64} {to re : Nat → Prop} {len : Nat → Nat} {rd : Nat} (hx : ∀ m, b_t x m = true ↔ to m) (hbs : ∀ m, b_t bs m = true ↔ re m ∧ len m < rd) (hre : ∀ m, to m → re m) : (x &&& (bs ^^^ (-1))) = 0 ↔ ∀ m, to m → len m < rd := by
  rw [b_t_sub]
  constructor
  · intro h m hm
    have hb := (hx m).mpr hm
    have h64 : m < 64 := by
      rcases Nat.lt_or_ge m 64 with q | q
      · exact q
      · rw [b_t_big q] at hb; cases hb
    exact ((hbs m).mp (h m h64 hb)).2
  · intro h j _ hj
    have ht := (hx j).mp hj
    exact (hbs j).mpr ⟨hre j ht, h j ht⟩
def gfi (fA : Nat → Int32) (n : Nat) : Bool := decide (1 < fA n)
def ggo (fA : Nat → Int32) (n : Nat) : Int := (fA n).toInt
def gval (c : Nat) (fO fA fB fT : Nat → Int32) (n : Nat) : Int := s_val (gmv fO fA fB) (gtg fT) (gfi fA) (ggo fA) c n
def glen (c : Nat) (fO fA fB fT : Nat → Int32) (n : Nat) : Nat := s_len (gmv fO fA fB) (gtg fT) c n
abbrev gre (c : Nat) (fO fA fB fT : Nat → Int32) (n : Nat) : Prop := s_re c (gmv fO fA fB) (gtg fT) n
abbrev gto (c : Nat) (fO fA fB fT : Nat → Int32) (n m : Nat) : Prop := s_to c (gmv fO fA fB) (gtg fT) n m
/-- bounds of the values of reached states -/
def g_bd (c : Nat) (fO fA fB fT fl fh : Nat → Int32) : Prop := ∀ m, gre c fO fA fB fT m → (fl m).toInt ≤ gval c fO fA fB fT m ∧ gval c fO fA fB fT m ≤ (fh m).toInt ∧ (fO m = 0 → fl m = fh m)
/-- no defect -/
def g_nd (c : Nat) (fO fA fB fT : Nat → Int32) : Prop := (∀ k, k < c → gre c fO fA fB fT k → g_dn fO fA fB k = 0) ∧ s_ac c (gmv fO fA fB) (gtg fT)
theorem g_nd_of {c : Nat} {fO fA fB fT : Nat → Int32} (hg : g_ok c fO fA fB fT) {ds : Int32} (h : g_df c (s_re c (gmv fO fA fB) (gtg fT)) (fun n => s_to c (gmv fO fA fB) (gtg fT) n n) (g_dn fO fA fB) 0 ds) : g_nd c fO fA fB fT := by
  rcases h with h | ⟨h1, h | ⟨h2, _, _⟩⟩
  · exact absurd rfl (g_d1_ne h)
  · exact absurd rfl (g_d2_ne h)
  · exact ⟨h1, fun n hn => h2 n (s_re_lt (g_sok hg) hn) hn⟩
/-- a reached state without a defect: an end with goals 0 .. 100, or open with moves, where not both choose -/
theorem g_nd_end {fO fA fB : Nat → Int32} {n : Nat} (h : g_dn fO fA fB n = 0) (hO : fO n = 0) (hA : (fA n).toInt ≤ 100) (hB : (fB n).toInt ≤ 100) (hA2 : -2 ≤ (fA n).toInt) (hB2 : -2 ≤ (fB n).toInt) : 0 ≤ (fA n).toInt ∧ (fA n).toInt ≤ 100 := by
  unfold g_dn at h
  rw [if_pos hO] at h
  by_cases q : fA n < 0 ∨ fB n < 0
  · rw [if_pos q] at h; exact absurd h (by decide)
  · have : ¬ fA n < 0 := fun e => q (Or.inl e)
    rw [Int32.lt_iff_toInt_lt, Int32.toInt_zero] at this
    omega
theorem g_nd_open {fO fA fB : Nat → Int32} {n : Nat} (h : g_dn fO fA fB n = 0) (hO : ¬ fO n = 0) : ¬ gmv fO fA fB n = 0 ∧ ¬ (1 < fA n ∧ 1 < fB n) := by
  unfold g_dn at h
  rw [if_neg hO] at h
  by_cases q : gmv fO fA fB n = 0
  · rw [if_pos q] at h; exact absurd h (by decide)
  · refine ⟨q, fun q2 => ?_⟩
    rw [if_neg q, if_pos q2] at h; exact absurd h (by decide)
theorem g_go {c : Nat} {fO fA fB fT : Nat → Int32} (hg : g_ok c fO fA fB fT) (hn : g_nd c fO fA fB fT) : s_go c (gmv fO fA fB) (gtg fT) (ggo fA) := by
  intro n hr h0
  have hl := s_re_lt (g_sok hg) hr
  have hd := hn.1 n hl hr
  by_cases hO : fO n = 0
  · obtain ⟨a, b, c', d⟩ := (hg.2.2 n hl).2.1 hO
    exact g_nd_end hd hO b d a c'
  · exact absurd h0 (g_nd_open hd hO).1
theorem g_val_b {c : Nat} {fO fA fB fT : Nat → Int32} (hg : g_ok c fO fA fB fT) (hn : g_nd c fO fA fB fT) {n : Nat} (hr : gre c fO fA fB fT n) : 0 ≤ gval c fO fA fB fT n ∧ gval c fO fA fB fT n ≤ 100 := s_val_b (g_sok hg) (g_go hg hn) c n hr
theorem g_val_end {c : Nat} {fO fA fB fT : Nat → Int32} (hg : g_ok c fO fA fB fT) (hn : g_nd c fO fA fB fT) {n : Nat} (hr : gre c fO fA fB fT n) (hO : fO n = 0) : gval c fO fA fB fT n = (fA n).toInt := by
  unfold gval
  rw [s_val_eq (g_sok hg) hn.2 hr, if_pos (show gmv fO fA fB n = 0 by unfold gmv; rw [if_pos hO])]
  rfl
theorem g_bd_0 {c : Nat} {fO fA fB fT fl fh : Nat → Int32} (hg : g_ok c fO fA fB fT) (hn : g_nd c fO fA fB fT) (hI : ∀ k, k < c → fl k = (if fO k = 0 then fA k else 0) ∧ fh k = (if fO k = 0 then fA k else 100)) : g_bd c fO fA fB fT fl fh := by
  intro m hm
  obtain ⟨h1, h2⟩ := hI m (s_re_lt (g_sok hg) hm)
  by_cases hO : fO m = 0
  · rw [if_pos hO] at h1 h2
    rw [h1, h2, g_val_end hg hn hm hO]
    exact ⟨Int.le_refl _, Int.le_refl _, fun _ => rfl⟩
  · rw [if_neg hO] at h1 h2
    rw [h1, h2]
    have := g_val_b hg hn hm
    have e1 : (0 : Int32).toInt = 0 := by decide
    have e2 : (100 : Int32).toInt = 100 := by decide
    rw [e1, e2]; exact ⟨this.1, this.2, fun q => absurd q hO⟩
/-- what a survey leaves -/
def g_sv (c : Nat) (fO fA fB fT : Nat → Int32) (rs : Int64) (dk ds : Int32) (fL fl fh : Nat → Int32) : Prop :=
  (∀ m, b_t rs m = true ↔ gre c fO fA fB fT m) ∧ g_df c (s_re c (gmv fO fA fB) (gtg fT)) (fun n => s_to c (gmv fO fA fB) (gtg fT) n n) (g_dn fO fA fB) dk ds ∧
    (dk = 0 → (∀ m, gre c fO fA fB fT m → fL m = nI (glen c fO fA fB fT m)) ∧ g_bd c fO fA fB fT fl fh)
end
section
/-! Lengths, bounds, the survey (by tool/lens.py). -/
set_option maxHeartbeats 4000000 in
set_option maxRecDepth 100000 in
theorem lp_len2 {p : Program} {l : Launch} {e : Env} {R : Room} {s : State} {m : MethodId} {args : Array Value} {below : List Frame} {meth : Method} {c : Code} {Q : State → Prop} {dC : Nat → ClassId} {dI : Nat → Nat → Nat} {ad : Nat → Nat} {cz ci cj : ClassId} {Ar : Nat → Prop} (hx : p.tables.exec = Jvm.exec) (hb : c.code = cX0_findLengths) (hml : c.maxLocals = 8) (hown : s.vm.findClass "GameGraph" = some m.cls) (hw : ∀ w ∈ wAll, w.before args s = true) (hK : va_K (dC, dI) vwCl (gty cz ci cj) s) (hA : ∀ q, s.heap.size ≤ q → Ar q) (hR1 : 1 ≤ R.frames) (hR2 : 22 ≤ R.locals) (fO fA fB fT : Nat → Int32) (sv : Int32) (fC : Nat → Int64) (rs : Int64) (dk ds : Int32) (fl fh : Nat → Int32) (c0 : Nat) (hg : g_ok c0 fO fA fB fT) (hrs : ∀ m, b_t rs m = true ↔ gre c0 fO fA fB fT m) (hC : ∀ a, a < c0 → ∀ m, b_t (fC a) m = true ↔ gto c0 fO fA fB fT a m) (hac : s_ac c0 (gmv fO fA fB) (gtg fT)) (rd : Nat) (bs : Int64) (hrd : rd < c0) (hbs : ∀ m, b_t bs m = true ↔ gre c0 fO fA fB fT m ∧ glen c0 fO fA fB fT m < rd)
    (kx : ∀ (set : Int64) (fL2 : Nat → Int32), (g_ls (gre c0 fO fA fB fT) (glen c0 fO fA fB fT) rd c0 set fL2) → ∀ (H : Heap) (locs : List Loc), va_P (dC, dI) vwCl (gw ad cz ci cj ((nI c0), fO, fA, fB, fT, sv, fC, rs, dk, ds, fL2, fl, fh)) H → va_D Ar (gw ad cz ci cj ((nI c0), fO, fA, fB, fT, sv, fC, rs, dk, ds, fL2, fl, fh)) → va_S Ar s.heap H locs → ∀ (ls : Array Slot), lv_has ls 8 [(0, .ref (ad 0)), (1, .long set), (3, .int (nI rd))] → W p l e R s m args below meth c H locs 0 0 Q (F0 m 101 ls [])) :
    ∀ (fuel : Nat) (n : Nat) (set : Int64) (fL2 : Nat → Int32), c0 + 1 ≤ n + fuel → n ≤ c0 → (g_ls (gre c0 fO fA fB fT) (glen c0 fO fA fB fT) rd n set fL2) → ∀ (H : Heap) (locs : List Loc), va_P (dC, dI) vwCl (gw ad cz ci cj ((nI c0), fO, fA, fB, fT, sv, fC, rs, dk, ds, fL2, fl, fh)) H → va_D Ar (gw ad cz ci cj ((nI c0), fO, fA, fB, fT, sv, fC, rs, dk, ds, fL2, fl, fh)) → va_S Ar s.heap H locs → ∀ (ls : Array Slot), lv_has ls 8 [(0, .ref (ad 0)), (1, .long set), (3, .int (nI rd)), (4, .long bs), (6, .int (nI n))] → W p l e R s m args below meth c H locs 0 0 Q (F0 m 18 ls []) := by
  intro fuel
  induction fuel with
  | zero => intro n set fL2 hfu hn hI; exact absurd hfu (by omega)
  | succ fuel ih =>
    intro n set fL2 hfu hn hI H locs hP hD hS ls hl
    have h60 := hg.2.1
    refine lv_iload hx hb dX0_findLengths_18 (lv_at hl 4 rfl) ?_
    refine lv_aload_n hx hb dX0_findLengths_20 rfl (lv_at hl 0 rfl) ?_
    refine va_get (D := (dC, dI)) (ci := 0) (v := .int (nI c0)) (C := RX0) (T := TX0) (N := 13) hx hb hw in_X0 hown hK hP 0 rfl rfl 0 (by decide) (hw _ m_1_18) (fun _ h9 => h9) rfl dX0_findLengths_21 ?_
    refine lv_icmp_ge (tgt := 101) hx hb dX0_findLengths_24 (by decide) (fun c_1 => ?_) (fun c_1 => ?_)
    · exact kx set fL2 (by rw [show n = c0 from (k_eq hn c_1 (by omega)).symm] at hI; exact hI) _ _ hP hD hS _ (lv_sub hl [0, 1, 2] rfl)
    · have hlt : n < c0 := k_lt c_1 (by omega)
      refine lv_aload_n hx hb dX0_findLengths_27 rfl (lv_at hl 0 rfl) ?_
      refine va_get (D := (dC, dI)) (ci := 0) (v := .long rs) (C := RX0) (T := TX0) (N := 13) hx hb hw in_X0 hown hK hP 0 rfl rfl 7 (by decide) (hw _ m_1_25) (fun _ h9 => h9) rfl dX0_findLengths_28 ?_
      refine lv_iload hx hb dX0_findLengths_31 (lv_at hl 4 rfl) ?_
      refine g_calls ⟨hx, hb, hml, hown, hw⟩ (c_X0_contains l rs n (by omega)) (va_cwS 2 hw gs_X0_X0_contains rfl rfl rfl (by decide +kernel) ⟨Nat.le_trans (Nat.le_of_ble_eq_true rfl) hR1, Nat.le_trans (Nat.le_of_ble_eq_true rfl) hR2⟩) hP hS rfl hl.1 rfl (Nat.le_of_ble_eq_true rfl) dX0_findLengths_33 ⟨Nat.zero_le _, Nat.zero_le _⟩ (fun rb_2 H locs hq hP hS => ?_)
      have hP : va_P (dC, dI) vwCl (gw ad cz ci cj ((nI c0), fO, fA, fB, fT, sv, fC, rs, dk, ds, fL2, fl, fh)) H := hP
      have hD : va_D Ar (gw ad cz ci cj ((nI c0), fO, fA, fB, fT, sv, fC, rs, dk, ds, fL2, fl, fh)) := hD
      refine lv_if_eq (tgt := 53) hx hb dX0_findLengths_36 (by decide) (fun cb_3 => ?_) (fun cb_3 => ?_)
      · have hre : ¬ gre c0 fO fA fB fT n := fun h => by have h1 := (hrs n).mpr h; rw [k_b0 hq cb_3] at h1; cases h1
        refine lv_iconst (v := 0) hx hb dX0_findLengths_53 (by decide) ?_
        refine lv_istore (lv' := [(7, .int 0), (0, .ref (ad 0)), (1, .long set), (3, .int (nI rd)), (4, .long bs), (6, .int (nI n))]) hx hb dX0_findLengths_54 hl (by decide) rfl (fun ls hl => ?_)
        refine lv_iload hx hb dX0_findLengths_56 (lv_at hl 0 rfl) ?_
        refine lv_if_eq (tgt := 95) hx hb dX0_findLengths_58 (by decide) (fun cba_4 => ?_) (fun cba_4 => ?_)
        · refine lv_iinc (v := (nI (n + 1))) (lv' := [(6, .int (nI (n + 1))), (7, .int 0), (0, .ref (ad 0)), (1, .long set), (3, .int (nI rd)), (4, .long bs)]) hx hb dX0_findLengths_95 hl (k := 5) rfl (nI_1 n) (by decide) rfl (fun ls hl => ?_)
          refine lv_goto (tgt := 18) hx hb dX0_findLengths_98 (by decide) ?_
          exact ih (n + 1) set fL2 (by omega) (by omega) (g_ls_no hI (fun h => absurd h hre)) _ _ hP hD hS _ (lv_sub hl [2, 3, 4, 5, 0] rfl)
        · exact absurd rfl cba_4
      · have hre := (hrs n).mp (k_b1 hq cb_3)
        refine lv_lload hx hb dX0_findLengths_39 (lv_at hl 3 rfl) ?_
        refine lv_iload hx hb dX0_findLengths_41 (lv_at hl 4 rfl) ?_
        refine g_calls ⟨hx, hb, hml, hown, hw⟩ (c_X0_contains l bs n (by omega)) (va_cwS 2 hw gs_X0_X0_contains rfl rfl rfl (by decide +kernel) ⟨Nat.le_trans (Nat.le_of_ble_eq_true rfl) hR1, Nat.le_trans (Nat.le_of_ble_eq_true rfl) hR2⟩) hP hS rfl hl.1 rfl (Nat.le_of_ble_eq_true rfl) dX0_findLengths_43 ⟨Nat.zero_le _, Nat.zero_le _⟩ (fun rbb_4 H locs hq hP hS => ?_)
        have hP : va_P (dC, dI) vwCl (gw ad cz ci cj ((nI c0), fO, fA, fB, fT, sv, fC, rs, dk, ds, fL2, fl, fh)) H := hP
        have hD : va_D Ar (gw ad cz ci cj ((nI c0), fO, fA, fB, fT, sv, fC, rs, dk, ds, fL2, fl, fh)) := hD
        refine lv_if_ne (tgt := 53) hx hb dX0_findLengths_46 (by decide) (fun cbb_5 => ?_) (fun cbb_5 => ?_)
        · have hb1 := (hbs n).mp (k_b1 hq cbb_5)
          refine lv_iconst (v := 0) hx hb dX0_findLengths_53 (by decide) ?_
          refine lv_istore (lv' := [(7, .int 0), (0, .ref (ad 0)), (1, .long set), (3, .int (nI rd)), (4, .long bs), (6, .int (nI n))]) hx hb dX0_findLengths_54 hl (by decide) rfl (fun ls hl => ?_)
          refine lv_iload hx hb dX0_findLengths_56 (lv_at hl 0 rfl) ?_
          refine lv_if_eq (tgt := 95) hx hb dX0_findLengths_58 (by decide) (fun cbba_6 => ?_) (fun cbba_6 => ?_)
          · refine lv_iinc (v := (nI (n + 1))) (lv' := [(6, .int (nI (n + 1))), (7, .int 0), (0, .ref (ad 0)), (1, .long set), (3, .int (nI rd)), (4, .long bs)]) hx hb dX0_findLengths_95 hl (k := 5) rfl (nI_1 n) (by decide) rfl (fun ls hl => ?_)
            refine lv_goto (tgt := 18) hx hb dX0_findLengths_98 (by decide) ?_
            exact ih (n + 1) set fL2 (by omega) (by omega) (g_ls_no hI (fun _ => by omega)) _ _ hP hD hS _ (lv_sub hl [2, 3, 4, 5, 0] rfl)
          · exact absurd rfl cbba_6
        · have hb0 : ¬ glen c0 fO fA fB fT n < rd := fun h => by have h1 := (hbs n).mpr ⟨hre, h⟩; rw [k_b0 hq cbb_5] at h1; cases h1
          refine lv_iconst (v := 1) hx hb dX0_findLengths_49 (by decide) ?_
          refine lv_goto (tgt := 54) hx hb dX0_findLengths_50 (by decide) ?_
          refine lv_istore (lv' := [(7, .int 1), (0, .ref (ad 0)), (1, .long set), (3, .int (nI rd)), (4, .long bs), (6, .int (nI n))]) hx hb dX0_findLengths_54 hl (by decide) rfl (fun ls hl => ?_)
          refine lv_iload hx hb dX0_findLengths_56 (lv_at hl 0 rfl) ?_
          refine lv_if_eq (tgt := 95) hx hb dX0_findLengths_58 (by decide) (fun cbbb_6 => ?_) (fun cbbb_6 => ?_)
          · exact absurd cbbb_6 (by decide)
          · have hsub := k_sub (hC n hlt) hbs (fun m hm => s_re_to (g_sok hg) hre hm)
            have hlen : _ ↔ glen c0 fO fA fB fT n ≤ rd := s_len_iff (g_sok hg) hac hre (r := rd)
            refine lv_aload_n hx hb dX0_findLengths_61 rfl (lv_at hl 1 rfl) ?_
            refine va_get (D := (dC, dI)) (ci := 0) (v := .ref (ad 5)) (C := RX0) (T := TX0) (N := 13) hx hb hw in_X0 hown hK hP 0 rfl rfl 6 (by decide) (hw _ m_1_24) (fun _ h9 => h9) rfl dX0_findLengths_62 ?_
            refine lv_iload hx hb dX0_findLengths_65 (lv_at hl 5 rfl) ?_
            refine va_lald hx hb hK hP 5 2 rfl rfl (vp_in_nI (by omega) (by decide)) dX0_findLengths_67 ?_
            refine x_topl (y := fC n) (by rw [nI_clamp (by omega)]) ?_
            refine lv_lload hx hb dX0_findLengths_68 (lv_at hl 4 rfl) ?_
            refine lv_ldc2 hx hb hown (hw _ m_3_18) dX0_findLengths_70 ?_
            refine lv_lxor hx hb dX0_findLengths_73 ?_
            refine lv_land hx hb dX0_findLengths_74 ?_
            refine lv_lconst (v := 0) hx hb dX0_findLengths_75 (by decide) ?_
            refine W.lcmp hx hb dX0_findLengths_76 ?_
            refine lv_if_ne (tgt := 95) hx hb dX0_findLengths_77 (by decide) (fun cbbbb_7 => ?_) (fun cbbbb_7 => ?_)
            · refine lv_iinc (v := (nI (n + 1))) (lv' := [(6, .int (nI (n + 1))), (7, .int 1), (0, .ref (ad 0)), (1, .long set), (3, .int (nI rd)), (4, .long bs)]) hx hb dX0_findLengths_95 hl (k := 5) rfl (nI_1 n) (by decide) rfl (fun ls hl => ?_)
              refine lv_goto (tgt := 18) hx hb dX0_findLengths_98 (by decide) ?_
              exact ih (n + 1) set fL2 (by omega) (by omega) (g_ls_no hI (fun _ e => cbbbb_7 ((b_cmp0 _).mpr (hsub.mpr (hlen.mpr (Nat.le_of_eq e)))))) _ _ hP hD hS _ (lv_sub hl [2, 3, 4, 5, 0] rfl)
            · have hle := hlen.mp (hsub.mp ((b_cmp0 _).mp cbbbb_7))
              refine lv_aload_n hx hb dX0_findLengths_80 rfl (lv_at hl 1 rfl) ?_
              refine va_get (D := (dC, dI)) (ci := 0) (v := .ref (ad 6)) (C := RX0) (T := TX0) (N := 13) hx hb hw in_X0 hown hK hP 0 rfl rfl 10 (by decide) (hw _ m_1_28) (fun _ h9 => h9) rfl dX0_findLengths_81 ?_
              refine lv_iload hx hb dX0_findLengths_84 (lv_at hl 5 rfl) ?_
              refine lv_iload_n hx hb dX0_findLengths_86 rfl (lv_at hl 3 rfl) ?_
              refine va_iast hx hb hK hP hD hS 6 1 rfl rfl (vp_in_nI (by omega) (by decide)) dX0_findLengths_87 (fun H locs hP hD hS => ?_)
              rw [nI_clamp (by omega)] at hP hD
              have hP : va_P (dC, dI) vwCl (gw ad cz ci cj ((nI c0), fO, fA, fB, fT, sv, fC, rs, dk, ds, (upd fL2 n (nI rd)), fl, fh)) H := hP
              have hD : va_D Ar (gw ad cz ci cj ((nI c0), fO, fA, fB, fT, sv, fC, rs, dk, ds, (upd fL2 n (nI rd)), fl, fh)) := hD
              refine lv_lload_n hx hb dX0_findLengths_88 rfl (lv_at hl 2 rfl) ?_
              refine lv_lconst (v := 1) hx hb dX0_findLengths_89 (by decide) ?_
              refine lv_iload hx hb dX0_findLengths_90 (lv_at hl 5 rfl) ?_
              refine lv_lshl hx hb dX0_findLengths_92 rfl ?_
              refine lv_lor hx hb dX0_findLengths_93 ?_
              refine lv_lstore_n (lv' := [(1, .long (set ||| (1 <<< ((nI n).toInt64 &&& 63)))), (7, .int 1), (0, .ref (ad 0)), (3, .int (nI rd)), (4, .long bs), (6, .int (nI n))]) hx hb dX0_findLengths_94 rfl hl (by decide) rfl (fun ls hl => ?_)
              refine lv_iinc (v := (nI (n + 1))) (lv' := [(6, .int (nI (n + 1))), (1, .long (set ||| (1 <<< ((nI n).toInt64 &&& 63)))), (7, .int 1), (0, .ref (ad 0)), (3, .int (nI rd)), (4, .long bs)]) hx hb dX0_findLengths_95 hl (k := 5) rfl (nI_1 n) (by decide) rfl (fun ls hl => ?_)
              refine lv_goto (tgt := 18) hx hb dX0_findLengths_98 (by decide) ?_
              exact ih (n + 1) (set ||| (1 <<< ((nI n).toInt64 &&& 63))) (upd fL2 n (nI rd)) (by omega) (by omega) (g_ls_yes hI (by omega) hre (by omega)) _ _ hP hD hS _ (lv_sub hl [3, 1, 4, 5, 0] rfl)
set_option maxHeartbeats 4000000 in
set_option maxRecDepth 100000 in
theorem lp_len1 {p : Program} {l : Launch} {e : Env} {R : Room} {s : State} {m : MethodId} {args : Array Value} {below : List Frame} {meth : Method} {c : Code} {Q : State → Prop} {dC : Nat → ClassId} {dI : Nat → Nat → Nat} {ad : Nat → Nat} {cz ci cj : ClassId} {Ar : Nat → Prop} (hx : p.tables.exec = Jvm.exec) (hb : c.code = cX0_findLengths) (hml : c.maxLocals = 8) (hown : s.vm.findClass "GameGraph" = some m.cls) (hw : ∀ w ∈ wAll, w.before args s = true) (hK : va_K (dC, dI) vwCl (gty cz ci cj) s) (hA : ∀ q, s.heap.size ≤ q → Ar q) (hR1 : 1 ≤ R.frames) (hR2 : 22 ≤ R.locals) (fO fA fB fT : Nat → Int32) (sv : Int32) (fC : Nat → Int64) (rs : Int64) (dk ds : Int32) (fl fh : Nat → Int32) (c0 : Nat) (hg : g_ok c0 fO fA fB fT) (hrs : ∀ m, b_t rs m = true ↔ gre c0 fO fA fB fT m) (hC : ∀ a, a < c0 → ∀ m, b_t (fC a) m = true ↔ gto c0 fO fA fB fT a m) (hac : s_ac c0 (gmv fO fA fB) (gtg fT))
    (kx : ∀ (fL2 : Nat → Int32), (∀ m, gre c0 fO fA fB fT m → fL2 m = nI (glen c0 fO fA fB fT m)) → ∀ (H : Heap) (locs : List Loc), va_P (dC, dI) vwCl (gw ad cz ci cj ((nI c0), fO, fA, fB, fT, sv, fC, rs, dk, ds, fL2, fl, fh)) H → va_D Ar (gw ad cz ci cj ((nI c0), fO, fA, fB, fT, sv, fC, rs, dk, ds, fL2, fl, fh)) → va_S Ar s.heap H locs → ∀ (ls : Array Slot), lv_has ls 8 [(0, .ref (ad 0))] → W p l e R s m args below meth c H locs 0 0 Q (F0 m 107 ls [])) :
    ∀ (fuel : Nat) (rd : Nat) (set : Int64) (fL2 : Nat → Int32), c0 + 1 ≤ rd + fuel → rd ≤ c0 → (g_ls (gre c0 fO fA fB fT) (glen c0 fO fA fB fT) rd 0 set fL2) → ∀ (H : Heap) (locs : List Loc), va_P (dC, dI) vwCl (gw ad cz ci cj ((nI c0), fO, fA, fB, fT, sv, fC, rs, dk, ds, fL2, fl, fh)) H → va_D Ar (gw ad cz ci cj ((nI c0), fO, fA, fB, fT, sv, fC, rs, dk, ds, fL2, fl, fh)) → va_S Ar s.heap H locs → ∀ (ls : Array Slot), lv_has ls 8 [(0, .ref (ad 0)), (1, .long set), (3, .int (nI rd))] → W p l e R s m args below meth c H locs 0 0 Q (F0 m 4 ls []) := by
  intro fuel
  induction fuel with
  | zero => intro rd set fL2 hfu hrd hI; exact absurd hfu (by omega)
  | succ fuel ih =>
    intro rd set fL2 hfu hrd hI H locs hP hD hS ls hl
    have h60 := hg.2.1
    refine lv_iload_n hx hb dX0_findLengths_4 rfl (lv_at hl 2 rfl) ?_
    refine lv_aload_n hx hb dX0_findLengths_5 rfl (lv_at hl 0 rfl) ?_
    refine va_get (D := (dC, dI)) (ci := 0) (v := .int (nI c0)) (C := RX0) (T := TX0) (N := 13) hx hb hw in_X0 hown hK hP 0 rfl rfl 0 (by decide) (hw _ m_1_18) (fun _ h9 => h9) rfl dX0_findLengths_6 ?_
    refine lv_icmp_ge (tgt := 107) hx hb dX0_findLengths_9 (by decide) (fun c_1 => ?_) (fun c_1 => ?_)
    · exact kx fL2 (fun m hm => hI.2 m hm (by rw [if_neg (Nat.not_lt_zero _), show rd = c0 from (k_eq hrd c_1 (by omega)).symm]; exact s_len_c (g_sok hg) hac hm)) _ _ hP hD hS _ (lv_sub hl [0] rfl)
    · have hlt : rd < c0 := k_lt c_1 (by omega)
      refine lv_lload_n hx hb dX0_findLengths_12 rfl (lv_at hl 1 rfl) ?_
      refine lv_lstore (lv' := [(4, .long set), (0, .ref (ad 0)), (1, .long set), (3, .int (nI rd))]) hx hb dX0_findLengths_13 hl (by decide) rfl (fun ls hl => ?_)
      refine lv_iconst (v := 0) hx hb dX0_findLengths_15 (by decide) ?_
      refine x_topi (y := nI 0) (rfl) ?_
      refine lv_istore (lv' := [(6, .int (nI 0)), (4, .long set), (0, .ref (ad 0)), (1, .long set), (3, .int (nI rd))]) hx hb dX0_findLengths_16 hl (by decide) rfl (fun ls hl => ?_)
      refine lp_len2 (dC := dC) (dI := dI) (ad := ad) (cz := cz) (ci := ci) (cj := cj) (Ar := Ar) hx hb hml hown hw hK hA (Nat.le_trans (Nat.le_of_ble_eq_true rfl) hR1) (Nat.le_trans (Nat.le_of_ble_eq_true rfl) hR2) fO fA fB fT sv fC rs dk ds fl fh c0 hg hrs hC hac rd set hlt (fun m => by have := hI.1 m; rwa [if_neg (Nat.not_lt_zero _)] at this) ?_ (c0 + 1) 0 set fL2 (by omega) (by omega) hI _ _ hP hD hS _ (lv_sub hl [2, 3, 4, 1, 0] rfl)
      intro set fL2 hI H locs hP hD hS ls hl
      refine lv_iinc (v := (nI (rd + 1))) (lv' := [(3, .int (nI (rd + 1))), (0, .ref (ad 0)), (1, .long set)]) hx hb dX0_findLengths_101 hl (k := 2) rfl (nI_1 rd) (by decide) rfl (fun ls hl => ?_)
      refine lv_goto (tgt := 4) hx hb dX0_findLengths_104 (by decide) ?_
      exact ih (rd + 1) set fL2 (by omega) (by omega) (g_ls_next (by assumption) (fun m hm => s_re_lt (g_sok hg) hm)) _ _ hP hD hS _ (lv_sub hl [1, 2, 0] rfl)
set_option maxHeartbeats 4000000 in
set_option maxRecDepth 100000 in
theorem c_X0_findLengths (l : Launch) (dC : Nat → ClassId) (dI : Nat → Nat → Nat) (ad : Nat → Nat) (cz ci cj : ClassId) (sz : Nat) (cnt : Int32) (fO : Nat → Int32) (fA : Nat → Int32) (fB : Nat → Int32) (fT : Nat → Int32) (sv : Int32) (fC : Nat → Int64) (rs : Int64) (dk : Int32) (ds : Int32) (fL : Nat → Int32) (fl : Nat → Int32) (fh : Nat → Int32)  (c0 : Nat) (hg : g_ok c0 fO fA fB fT) (hrs : ∀ m, b_t rs m = true ↔ gre c0 fO fA fB fT m) (hC : ∀ a, a < c0 → ∀ m, b_t (fC a) m = true ↔ gto c0 fO fA fB fT a m) (hac : s_ac c0 (gmv fO fA fB) (gtg fT)) : Met l yX0_findLengths wX0_findLengths ({ frames := 1, cells := 0, slots := 0, locals := 22 }) (va_Pc [.ref (ad 0)] (g_Pre (dC, dI) vwCl (gty cz ci cj) (gw ad cz ci cj ((nI c0), fO, fA, fB, fT, sv, fC, rs, dk, ds, fL, fl, fh)) sz)) (va_Qv (fun (u : GS) => ∃ fL2 : Nat → Int32, (∀ m, gre c0 fO fA fB fT m → fL2 m = nI (glen c0 fO fA fB fT m)) ∧ u = (nI c0, fO, fA, fB, fT, sv, fC, rs, dk, ds, fL2, fl, fh)) (g_At (dC, dI) vwCl (gty cz ci cj) (va_A (gw ad cz ci cj ((nI c0), fO, fA, fB, fT, sv, fC, rs, dk, ds, fL, fl, fh)) sz) (gw ad cz ci cj)) (va_A (gw ad cz ci cj ((nI c0), fO, fA, fB, fT, sv, fC, rs, dk, ds, fL, fl, fh)) sz)) 0 0 (va_A (gw ad cz ci cj ((nI c0), fO, fA, fB, fT, sv, fC, rs, dk, ds, fL, fl, fh)) sz) := by
  refine Met.ofW (cc := cX0_findLengths) (maxL := 8) (ret := none) (by decide) rfl ?_
  intro p e s m args below meth c s₁ Bd hml hv
  obtain ⟨rfl, hsz, hP, hK, hD0⟩ := hv
  have hx := Bd.exec
  have hb := Bd.bytes
  have hr := Bd.returns
  have hts := atoms_spec (ws := wX0_findLengths) Bd.pre
  have hw : ∀ w ∈ wAll, w.before _ s = true := fun w h => hts w (List.mem_cons_of_mem _ h)
  have hown : s.vm.findClass "GameGraph" = some m.cls := findClass_of_methodNamed Bd.named
  have hlocks := Bd.notSynchronized
  subst hsz
  have hD := hD0.self (sz := s.heap.size)
  generalize hAe : va_A (gw ad cz ci cj ((nI c0), fO, fA, fB, fT, sv, fC, rs, dk, ds, fL, fl, fh)) s.heap.size = Ar at hD ⊢
  have hA : ∀ q : Nat, s.heap.size ≤ q → Ar q := fun q h => by rw [← hAe]; exact Or.inr h
  obtain ⟨H, hH⟩ : ∃ H : Heap, H = s.heap := ⟨_, rfl⟩
  have hS : va_S Ar s.heap H [] := by rw [hH]; exact va_S.rf
  have hP : va_P (dC, dI) vwCl (gw ad cz ci cj ((nI c0), fO, fA, fB, fT, sv, fC, rs, dk, ds, fL, fl, fh)) H := by rw [hH]; exact hP
  rw [← hH]
  have hl := lv_entry ([.ref (ad 0)]) (n := 8) (Nat.le_of_ble_eq_true rfl)
  rw [lg_entry_eq]
  generalize (lg_sl ([.ref (ad 0)]) ++ List.replicate (8 - (lg_sl ([.ref (ad 0)])).length) Slot.unset).toArray = ls at hl ⊢
  have hl : lv_has ls 8 [(0, .ref (ad 0))] := hl
  refine lv_lconst (v := 0) hx hb dX0_findLengths_0 (by decide) ?_
  refine lv_lstore_n (lv' := [(1, .long 0), (0, .ref (ad 0))]) hx hb dX0_findLengths_1 rfl hl (by decide) rfl (fun ls hl => ?_)
  refine lv_iconst (v := 0) hx hb dX0_findLengths_2 (by decide) ?_
  refine x_topi (y := nI 0) (rfl) ?_
  refine lv_istore_n (lv' := [(3, .int (nI 0)), (1, .long 0), (0, .ref (ad 0))]) hx hb dX0_findLengths_3 rfl hl (by decide) rfl (fun ls hl => ?_)
  refine lp_len1 (dC := dC) (dI := dI) (ad := ad) (cz := cz) (ci := ci) (cj := cj) (Ar := Ar) hx hb hml hown hw hK hA (Nat.le_of_ble_eq_true rfl) (Nat.le_of_ble_eq_true rfl) fO fA fB fT sv fC rs dk ds fl fh c0 hg hrs hC hac ?_ (c0 + 1) 0 0 fL (by omega) (by omega) (⟨fun m => by rw [b_t_0, if_neg (Nat.not_lt_zero _)]; exact ⟨fun h => (by cases h), fun ⟨_, h⟩ => absurd h (Nat.not_lt_zero _)⟩, fun m _ h => by rw [if_neg (Nat.not_lt_zero _)] at h; exact absurd h (Nat.not_lt_zero _)⟩) _ _ hP hD hS _ (lv_sub hl [2, 1, 0] rfl)
  intro fL2 hI H locs hP hD hS ls hl
  exact W.vret hx hb hr (fun t ht hW => ⟨⟨((nI c0), fO, fA, fB, fT, sv, fC, rs, dk, ds, fL2, fl, fh), rfl, (⟨fL2, hI, rfl⟩), (by rw [ht]; exact hP), va_K.moved hW.alike hK, hD⟩, hS.F ht⟩) hS.2.2 dX0_findLengths_107
theorem k_bv {fl fh a b : Nat → Int32} {i : Nat} {x y : Int32} (hI : ∀ k, k < i → fl k = a k ∧ fh k = b k) (hx : x = a i) (hy : y = b i) : ∀ k, k < i + 1 → upd fl i x k = a k ∧ upd fh i y k = b k := by
  intro k hk
  by_cases e : k = i
  · subst e; rw [pk_us, pk_us]; exact ⟨hx, hy⟩
  · rw [pk_un e, pk_un e]; exact hI k (by omega)
set_option maxHeartbeats 4000000 in
set_option maxRecDepth 100000 in
theorem lp_bv {p : Program} {l : Launch} {e : Env} {R : Room} {s : State} {m : MethodId} {args : Array Value} {below : List Frame} {meth : Method} {c : Code} {Q : State → Prop} {dC : Nat → ClassId} {dI : Nat → Nat → Nat} {ad : Nat → Nat} {cz ci cj : ClassId} {Ar : Nat → Prop} (hx : p.tables.exec = Jvm.exec) (hb : c.code = cX0_boundValues) (hml : c.maxLocals = 2) (hown : s.vm.findClass "GameGraph" = some m.cls) (hw : ∀ w ∈ wAll, w.before args s = true) (hK : va_K (dC, dI) vwCl (gty cz ci cj) s) (hA : ∀ q, s.heap.size ≤ q → Ar q) (hR1 : 0 ≤ R.frames) (hR2 : 0 ≤ R.locals) (fO fA fB fT : Nat → Int32) (sv : Int32) (fC : Nat → Int64) (rs : Int64) (dk ds : Int32) (fL : Nat → Int32) (c0 : Nat) (h60 : c0 ≤ 60)
    (kx : ∀ (fl2 : Nat → Int32) (fh2 : Nat → Int32), (∀ k, k < c0 → fl2 k = (if fO k = 0 then fA k else 0) ∧ fh2 k = (if fO k = 0 then fA k else 100)) → ∀ (H : Heap) (locs : List Loc), va_P (dC, dI) vwCl (gw ad cz ci cj ((nI c0), fO, fA, fB, fT, sv, fC, rs, dk, ds, fL, fl2, fh2)) H → va_D Ar (gw ad cz ci cj ((nI c0), fO, fA, fB, fT, sv, fC, rs, dk, ds, fL, fl2, fh2)) → va_S Ar s.heap H locs → ∀ (ls : Array Slot), lv_has ls 2 [(0, .ref (ad 0))] → W p l e R s m args below meth c H locs 0 0 Q (F0 m 67 ls [])) :
    ∀ (fuel : Nat) (i : Nat) (fl2 : Nat → Int32) (fh2 : Nat → Int32), c0 + 1 ≤ i + fuel → i ≤ c0 → (∀ k, k < i → fl2 k = (if fO k = 0 then fA k else 0) ∧ fh2 k = (if fO k = 0 then fA k else 100)) → ∀ (H : Heap) (locs : List Loc), va_P (dC, dI) vwCl (gw ad cz ci cj ((nI c0), fO, fA, fB, fT, sv, fC, rs, dk, ds, fL, fl2, fh2)) H → va_D Ar (gw ad cz ci cj ((nI c0), fO, fA, fB, fT, sv, fC, rs, dk, ds, fL, fl2, fh2)) → va_S Ar s.heap H locs → ∀ (ls : Array Slot), lv_has ls 2 [(0, .ref (ad 0)), (1, .int (nI i))] → W p l e R s m args below meth c H locs 0 0 Q (F0 m 2 ls []) := by
  intro fuel
  induction fuel with
  | zero => intro i fl2 fh2 hfu hi hI; exact absurd hfu (by omega)
  | succ fuel ih =>
    intro i fl2 fh2 hfu hi hI H locs hP hD hS ls hl
    refine lv_iload_n hx hb dX0_boundValues_2 rfl (lv_at hl 1 rfl) ?_
    refine lv_aload_n hx hb dX0_boundValues_3 rfl (lv_at hl 0 rfl) ?_
    refine va_get (D := (dC, dI)) (ci := 0) (v := .int (nI c0)) (C := RX0) (T := TX0) (N := 13) hx hb hw in_X0 hown hK hP 0 rfl rfl 0 (by decide) (hw _ m_1_18) (fun _ h9 => h9) rfl dX0_boundValues_4 ?_
    refine lv_icmp_ge (tgt := 67) hx hb dX0_boundValues_7 (by decide) (fun c_1 => ?_) (fun c_1 => ?_)
    · exact kx fl2 fh2 (by rw [show i = c0 from (k_eq hi c_1 (by omega)).symm] at hI; exact hI) _ _ hP hD hS _ (lv_sub hl [0] rfl)
    · have hlt : i < c0 := k_lt c_1 (by omega)
      refine lv_aload_n hx hb dX0_boundValues_10 rfl (lv_at hl 0 rfl) ?_
      refine va_get (D := (dC, dI)) (ci := 0) (v := .ref (ad 7)) (C := RX0) (T := TX0) (N := 13) hx hb hw in_X0 hown hK hP 0 rfl rfl 11 (by decide) (hw _ m_1_29) (fun _ h9 => h9) rfl dX0_boundValues_11 ?_
      refine lv_iload_n hx hb dX0_boundValues_14 rfl (lv_at hl 1 rfl) ?_
      refine lv_aload_n hx hb dX0_boundValues_15 rfl (lv_at hl 0 rfl) ?_
      refine va_get (D := (dC, dI)) (ci := 0) (v := .ref (ad 1)) (C := RX0) (T := TX0) (N := 13) hx hb hw in_X0 hown hK hP 0 rfl rfl 1 (by decide) (hw _ m_1_19) (fun _ h9 => h9) rfl dX0_boundValues_16 ?_
      refine lv_iload_n hx hb dX0_boundValues_19 rfl (lv_at hl 1 rfl) ?_
      refine va_zald hx hb hK hP 1 0 rfl rfl (vp_in_nI (by omega) (by decide)) dX0_boundValues_20 ?_
      refine x_topi (y := fO i) (by rw [nI_clamp (by omega)]) ?_
      refine lv_if_eq (tgt := 28) hx hb dX0_boundValues_21 (by decide) (fun cb_2 => ?_) (fun cb_2 => ?_)
      · refine lv_aload_n hx hb dX0_boundValues_28 rfl (lv_at hl 0 rfl) ?_
        refine va_get (D := (dC, dI)) (ci := 0) (v := .ref (ad 2)) (C := RX0) (T := TX0) (N := 13) hx hb hw in_X0 hown hK hP 0 rfl rfl 2 (by decide) (hw _ m_1_20) (fun _ h9 => h9) rfl dX0_boundValues_29 ?_
        refine lv_iload_n hx hb dX0_boundValues_32 rfl (lv_at hl 1 rfl) ?_
        refine va_iald hx hb hK hP 2 1 rfl rfl (vp_in_nI (by omega) (by decide)) dX0_boundValues_33 ?_
        refine x_topi (y := fA i) (by rw [nI_clamp (by omega)]) ?_
        refine va_iast hx hb hK hP hD hS 7 1 rfl rfl (vp_in_nI (by omega) (by decide)) dX0_boundValues_34 (fun H locs hP hD hS => ?_)
        rw [nI_clamp (by omega)] at hP hD
        have hP : va_P (dC, dI) vwCl (gw ad cz ci cj ((nI c0), fO, fA, fB, fT, sv, fC, rs, dk, ds, fL, (upd fl2 i (fA i)), fh2)) H := hP
        have hD : va_D Ar (gw ad cz ci cj ((nI c0), fO, fA, fB, fT, sv, fC, rs, dk, ds, fL, (upd fl2 i (fA i)), fh2)) := hD
        refine lv_aload_n hx hb dX0_boundValues_35 rfl (lv_at hl 0 rfl) ?_
        refine va_get (D := (dC, dI)) (ci := 0) (v := .ref (ad 8)) (C := RX0) (T := TX0) (N := 13) hx hb hw in_X0 hown hK hP 0 rfl rfl 12 (by decide) (hw _ m_1_30) (fun _ h9 => h9) rfl dX0_boundValues_36 ?_
        refine lv_iload_n hx hb dX0_boundValues_39 rfl (lv_at hl 1 rfl) ?_
        refine lv_aload_n hx hb dX0_boundValues_40 rfl (lv_at hl 0 rfl) ?_
        refine va_get (D := (dC, dI)) (ci := 0) (v := .ref (ad 1)) (C := RX0) (T := TX0) (N := 13) hx hb hw in_X0 hown hK hP 0 rfl rfl 1 (by decide) (hw _ m_1_19) (fun _ h9 => h9) rfl dX0_boundValues_41 ?_
        refine lv_iload_n hx hb dX0_boundValues_44 rfl (lv_at hl 1 rfl) ?_
        refine va_zald hx hb hK hP 1 0 rfl rfl (vp_in_nI (by omega) (by decide)) dX0_boundValues_45 ?_
        refine x_topi (y := fO i) (by rw [nI_clamp (by omega)]) ?_
        refine lv_if_eq (tgt := 54) hx hb dX0_boundValues_46 (by decide) (fun cba_3 => ?_) (fun cba_3 => ?_)
        · refine lv_aload_n hx hb dX0_boundValues_54 rfl (lv_at hl 0 rfl) ?_
          refine va_get (D := (dC, dI)) (ci := 0) (v := .ref (ad 2)) (C := RX0) (T := TX0) (N := 13) hx hb hw in_X0 hown hK hP 0 rfl rfl 2 (by decide) (hw _ m_1_20) (fun _ h9 => h9) rfl dX0_boundValues_55 ?_
          refine lv_iload_n hx hb dX0_boundValues_58 rfl (lv_at hl 1 rfl) ?_
          refine va_iald hx hb hK hP 2 1 rfl rfl (vp_in_nI (by omega) (by decide)) dX0_boundValues_59 ?_
          refine x_topi (y := fA i) (by rw [nI_clamp (by omega)]) ?_
          refine va_iast hx hb hK hP hD hS 8 1 rfl rfl (vp_in_nI (by omega) (by decide)) dX0_boundValues_60 (fun H locs hP hD hS => ?_)
          rw [nI_clamp (by omega)] at hP hD
          have hP : va_P (dC, dI) vwCl (gw ad cz ci cj ((nI c0), fO, fA, fB, fT, sv, fC, rs, dk, ds, fL, (upd fl2 i (fA i)), (upd fh2 i (fA i)))) H := hP
          have hD : va_D Ar (gw ad cz ci cj ((nI c0), fO, fA, fB, fT, sv, fC, rs, dk, ds, fL, (upd fl2 i (fA i)), (upd fh2 i (fA i)))) := hD
          refine lv_iinc (v := (nI (i + 1))) (lv' := [(1, .int (nI (i + 1))), (0, .ref (ad 0))]) hx hb dX0_boundValues_61 hl (k := 1) rfl (nI_1 i) (by decide) rfl (fun ls hl => ?_)
          refine lv_goto (tgt := 2) hx hb dX0_boundValues_64 (by decide) ?_
          exact ih (i + 1) (upd fl2 i (fA i)) (upd fh2 i (fA i)) (by omega) (by omega) (k_bv hI (by rw [if_pos cb_2]) (by rw [if_pos cb_2])) _ _ hP hD hS _ (lv_sub hl [1, 0] rfl)
        · exact absurd cb_2 cba_3
      · refine lv_iconst (v := 0) hx hb dX0_boundValues_24 (by decide) ?_
        refine lv_goto (tgt := 34) hx hb dX0_boundValues_25 (by decide) ?_
        refine va_iast hx hb hK hP hD hS 7 1 rfl rfl (vp_in_nI (by omega) (by decide)) dX0_boundValues_34 (fun H locs hP hD hS => ?_)
        rw [nI_clamp (by omega)] at hP hD
        have hP : va_P (dC, dI) vwCl (gw ad cz ci cj ((nI c0), fO, fA, fB, fT, sv, fC, rs, dk, ds, fL, (upd fl2 i 0), fh2)) H := hP
        have hD : va_D Ar (gw ad cz ci cj ((nI c0), fO, fA, fB, fT, sv, fC, rs, dk, ds, fL, (upd fl2 i 0), fh2)) := hD
        refine lv_aload_n hx hb dX0_boundValues_35 rfl (lv_at hl 0 rfl) ?_
        refine va_get (D := (dC, dI)) (ci := 0) (v := .ref (ad 8)) (C := RX0) (T := TX0) (N := 13) hx hb hw in_X0 hown hK hP 0 rfl rfl 12 (by decide) (hw _ m_1_30) (fun _ h9 => h9) rfl dX0_boundValues_36 ?_
        refine lv_iload_n hx hb dX0_boundValues_39 rfl (lv_at hl 1 rfl) ?_
        refine lv_aload_n hx hb dX0_boundValues_40 rfl (lv_at hl 0 rfl) ?_
        refine va_get (D := (dC, dI)) (ci := 0) (v := .ref (ad 1)) (C := RX0) (T := TX0) (N := 13) hx hb hw in_X0 hown hK hP 0 rfl rfl 1 (by decide) (hw _ m_1_19) (fun _ h9 => h9) rfl dX0_boundValues_41 ?_
        refine lv_iload_n hx hb dX0_boundValues_44 rfl (lv_at hl 1 rfl) ?_
        refine va_zald hx hb hK hP 1 0 rfl rfl (vp_in_nI (by omega) (by decide)) dX0_boundValues_45 ?_
        refine x_topi (y := fO i) (by rw [nI_clamp (by omega)]) ?_
        refine lv_if_eq (tgt := 54) hx hb dX0_boundValues_46 (by decide) (fun cbb_3 => ?_) (fun cbb_3 => ?_)
        · exact absurd cbb_3 cb_2
        · refine lv_bipush (v := 100) hx hb dX0_boundValues_49 (by decide) ?_
          refine lv_goto (tgt := 60) hx hb dX0_boundValues_51 (by decide) ?_
          refine va_iast hx hb hK hP hD hS 8 1 rfl rfl (vp_in_nI (by omega) (by decide)) dX0_boundValues_60 (fun H locs hP hD hS => ?_)
          rw [nI_clamp (by omega)] at hP hD
          have hP : va_P (dC, dI) vwCl (gw ad cz ci cj ((nI c0), fO, fA, fB, fT, sv, fC, rs, dk, ds, fL, (upd fl2 i 0), (upd fh2 i 100))) H := hP
          have hD : va_D Ar (gw ad cz ci cj ((nI c0), fO, fA, fB, fT, sv, fC, rs, dk, ds, fL, (upd fl2 i 0), (upd fh2 i 100))) := hD
          refine lv_iinc (v := (nI (i + 1))) (lv' := [(1, .int (nI (i + 1))), (0, .ref (ad 0))]) hx hb dX0_boundValues_61 hl (k := 1) rfl (nI_1 i) (by decide) rfl (fun ls hl => ?_)
          refine lv_goto (tgt := 2) hx hb dX0_boundValues_64 (by decide) ?_
          exact ih (i + 1) (upd fl2 i 0) (upd fh2 i 100) (by omega) (by omega) (k_bv hI (by rw [if_neg cb_2]) (by rw [if_neg cb_2])) _ _ hP hD hS _ (lv_sub hl [1, 0] rfl)
set_option maxHeartbeats 4000000 in
set_option maxRecDepth 100000 in
theorem c_X0_boundValues (l : Launch) (dC : Nat → ClassId) (dI : Nat → Nat → Nat) (ad : Nat → Nat) (cz ci cj : ClassId) (sz : Nat) (cnt : Int32) (fO : Nat → Int32) (fA : Nat → Int32) (fB : Nat → Int32) (fT : Nat → Int32) (sv : Int32) (fC : Nat → Int64) (rs : Int64) (dk : Int32) (ds : Int32) (fL : Nat → Int32) (fl : Nat → Int32) (fh : Nat → Int32)  (c0 : Nat) (h60 : c0 ≤ 60) : Met l yX0_boundValues wX0_boundValues ({ frames := 0, cells := 0, slots := 0, locals := 0 }) (va_Pc [.ref (ad 0)] (g_Pre (dC, dI) vwCl (gty cz ci cj) (gw ad cz ci cj ((nI c0), fO, fA, fB, fT, sv, fC, rs, dk, ds, fL, fl, fh)) sz)) (va_Qv (fun (u : GS) => ∃ fl2 fh2 : Nat → Int32, (∀ k, k < c0 → fl2 k = (if fO k = 0 then fA k else 0) ∧ fh2 k = (if fO k = 0 then fA k else 100)) ∧ u = (nI c0, fO, fA, fB, fT, sv, fC, rs, dk, ds, fL, fl2, fh2)) (g_At (dC, dI) vwCl (gty cz ci cj) (va_A (gw ad cz ci cj ((nI c0), fO, fA, fB, fT, sv, fC, rs, dk, ds, fL, fl, fh)) sz) (gw ad cz ci cj)) (va_A (gw ad cz ci cj ((nI c0), fO, fA, fB, fT, sv, fC, rs, dk, ds, fL, fl, fh)) sz)) 0 0 (va_A (gw ad cz ci cj ((nI c0), fO, fA, fB, fT, sv, fC, rs, dk, ds, fL, fl, fh)) sz) := by
  refine Met.ofW (cc := cX0_boundValues) (maxL := 2) (ret := none) (by decide) rfl ?_
  intro p e s m args below meth c s₁ Bd hml hv
  obtain ⟨rfl, hsz, hP, hK, hD0⟩ := hv
  have hx := Bd.exec
  have hb := Bd.bytes
  have hr := Bd.returns
  have hts := atoms_spec (ws := wX0_boundValues) Bd.pre
  have hw : ∀ w ∈ wAll, w.before _ s = true := fun w h => hts w (List.mem_cons_of_mem _ h)
  have hown : s.vm.findClass "GameGraph" = some m.cls := findClass_of_methodNamed Bd.named
  have hlocks := Bd.notSynchronized
  subst hsz
  have hD := hD0.self (sz := s.heap.size)
  generalize hAe : va_A (gw ad cz ci cj ((nI c0), fO, fA, fB, fT, sv, fC, rs, dk, ds, fL, fl, fh)) s.heap.size = Ar at hD ⊢
  have hA : ∀ q : Nat, s.heap.size ≤ q → Ar q := fun q h => by rw [← hAe]; exact Or.inr h
  obtain ⟨H, hH⟩ : ∃ H : Heap, H = s.heap := ⟨_, rfl⟩
  have hS : va_S Ar s.heap H [] := by rw [hH]; exact va_S.rf
  have hP : va_P (dC, dI) vwCl (gw ad cz ci cj ((nI c0), fO, fA, fB, fT, sv, fC, rs, dk, ds, fL, fl, fh)) H := by rw [hH]; exact hP
  rw [← hH]
  have hl := lv_entry ([.ref (ad 0)]) (n := 2) (Nat.le_of_ble_eq_true rfl)
  rw [lg_entry_eq]
  generalize (lg_sl ([.ref (ad 0)]) ++ List.replicate (2 - (lg_sl ([.ref (ad 0)])).length) Slot.unset).toArray = ls at hl ⊢
  have hl : lv_has ls 2 [(0, .ref (ad 0))] := hl
  refine lv_iconst (v := 0) hx hb dX0_boundValues_0 (by decide) ?_
  refine x_topi (y := nI 0) (rfl) ?_
  refine lv_istore_n (lv' := [(1, .int (nI 0)), (0, .ref (ad 0))]) hx hb dX0_boundValues_1 rfl hl (by decide) rfl (fun ls hl => ?_)
  refine lp_bv (dC := dC) (dI := dI) (ad := ad) (cz := cz) (ci := ci) (cj := cj) (Ar := Ar) hx hb hml hown hw hK hA (Nat.le_of_ble_eq_true rfl) (Nat.le_of_ble_eq_true rfl) fO fA fB fT sv fC rs dk ds fL c0 h60 ?_ (c0 + 1) 0 fl fh (by omega) (by omega) (fun k hk => absurd hk (Nat.not_lt_zero _)) _ _ hP hD hS _ (lv_sub hl [1, 0] rfl)
  intro fl2 fh2 hI H locs hP hD hS ls hl
  exact W.vret hx hb hr (fun t ht hW => ⟨⟨((nI c0), fO, fA, fB, fT, sv, fC, rs, dk, ds, fL, fl2, fh2), rfl, (⟨fl2, fh2, hI, rfl⟩), (by rw [ht]; exact hP), va_K.moved hW.alike hK, hD⟩, hS.F ht⟩) hS.2.2 dX0_boundValues_67
set_option maxHeartbeats 4000000 in
set_option maxRecDepth 100000 in
theorem c_X0_survey (l : Launch) (dC : Nat → ClassId) (dI : Nat → Nat → Nat) (ad : Nat → Nat) (cz ci cj : ClassId) (sz : Nat) (cnt : Int32) (fO : Nat → Int32) (fA : Nat → Int32) (fB : Nat → Int32) (fT : Nat → Int32) (sv : Int32) (fC : Nat → Int64) (rs : Int64) (dk : Int32) (ds : Int32) (fL : Nat → Int32) (fl : Nat → Int32) (fh : Nat → Int32)  (c0 : Nat) (hg : g_ok c0 fO fA fB fT) (hsv : sv = 0 ∨ (sv = 1 ∧ g_sv c0 fO fA fB fT rs dk ds fL fl fh)) : Met l yX0_survey wX0_survey ({ frames := 3, cells := 0, slots := 0, locals := 69 }) (va_Pc [.ref (ad 0)] (g_Pre (dC, dI) vwCl (gty cz ci cj) (gw ad cz ci cj ((nI c0), fO, fA, fB, fT, sv, fC, rs, dk, ds, fL, fl, fh)) sz)) (va_Qv (fun (u : GS) => ∃ (fC2 : Nat → Int64) (rs2 : Int64) (dk2 ds2 : Int32) (fL2 fl2 fh2 : Nat → Int32), g_sv c0 fO fA fB fT rs2 dk2 ds2 fL2 fl2 fh2 ∧ u = (nI c0, fO, fA, fB, fT, 1, fC2, rs2, dk2, ds2, fL2, fl2, fh2)) (g_At (dC, dI) vwCl (gty cz ci cj) (va_A (gw ad cz ci cj ((nI c0), fO, fA, fB, fT, sv, fC, rs, dk, ds, fL, fl, fh)) sz) (gw ad cz ci cj)) (va_A (gw ad cz ci cj ((nI c0), fO, fA, fB, fT, sv, fC, rs, dk, ds, fL, fl, fh)) sz)) 0 0 (va_A (gw ad cz ci cj ((nI c0), fO, fA, fB, fT, sv, fC, rs, dk, ds, fL, fl, fh)) sz) := by
  refine Met.ofW (cc := cX0_survey) (maxL := 1) (ret := none) (by decide) rfl ?_
  intro p e s m args below meth c s₁ Bd hml hv
  obtain ⟨rfl, hsz, hP, hK, hD0⟩ := hv
  have hx := Bd.exec
  have hb := Bd.bytes
  have hr := Bd.returns
  have hts := atoms_spec (ws := wX0_survey) Bd.pre
  have hw : ∀ w ∈ wAll, w.before _ s = true := fun w h => hts w (List.mem_cons_of_mem _ h)
  have hown : s.vm.findClass "GameGraph" = some m.cls := findClass_of_methodNamed Bd.named
  have hlocks := Bd.notSynchronized
  subst hsz
  have hD := hD0.self (sz := s.heap.size)
  generalize hAe : va_A (gw ad cz ci cj ((nI c0), fO, fA, fB, fT, sv, fC, rs, dk, ds, fL, fl, fh)) s.heap.size = Ar at hD ⊢
  have hA : ∀ q : Nat, s.heap.size ≤ q → Ar q := fun q h => by rw [← hAe]; exact Or.inr h
  obtain ⟨H, hH⟩ : ∃ H : Heap, H = s.heap := ⟨_, rfl⟩
  have hS : va_S Ar s.heap H [] := by rw [hH]; exact va_S.rf
  have hP : va_P (dC, dI) vwCl (gw ad cz ci cj ((nI c0), fO, fA, fB, fT, sv, fC, rs, dk, ds, fL, fl, fh)) H := by rw [hH]; exact hP
  rw [← hH]
  have hl := lv_entry ([.ref (ad 0)]) (n := 1) (Nat.le_of_ble_eq_true rfl)
  rw [lg_entry_eq]
  generalize (lg_sl ([.ref (ad 0)]) ++ List.replicate (1 - (lg_sl ([.ref (ad 0)])).length) Slot.unset).toArray = ls at hl ⊢
  have hl : lv_has ls 1 [(0, .ref (ad 0))] := hl
  have h60 := hg.2.1
  have h1 := hg.1
  refine lv_aload_n hx hb dX0_survey_0 rfl (lv_at hl 0 rfl) ?_
  refine va_get (D := (dC, dI)) (ci := 0) (v := .int sv) (C := RX0) (T := TX0) (N := 13) hx hb hw in_X0 hown hK hP 0 rfl rfl 5 (by decide) (hw _ m_1_23) (fun _ h9 => h9) rfl dX0_survey_1 ?_
  refine lv_if_eq (tgt := 8) hx hb dX0_survey_4 (by decide) (fun c_1 => ?_) (fun c_1 => ?_)
  · refine lv_aload_n hx hb dX0_survey_8 rfl (lv_at hl 0 rfl) ?_
    refine g_callv ⟨hx, hb, hml, hown, hw⟩ (c_X0_findWhatStatesComeTo l dC dI ad cz ci cj H.size (nI c0) fO fA fB fT sv fC rs dk ds fL fl fh  c0 hg) (cwV 0 hw gv_X0_X0_findWhatStatesComeTo rfl rfl rfl (by decide +kernel) ⟨Nat.le_of_ble_eq_true rfl, Nat.le_of_ble_eq_true rfl⟩) hK hP hD hS hA (ci := 0) (q0 := 0) rfl rfl rfl hl.1 rfl (Nat.le_of_ble_eq_true rfl) dX0_survey_9 ⟨Nat.zero_le _, Nat.zero_le _⟩ (fun  un H locs hq hP hD hS => ?_)
    obtain ⟨fC2, hC, rfl⟩ := hq
    have hP : va_P (dC, dI) vwCl (gw ad cz ci cj ((nI c0), fO, fA, fB, fT, sv, fC2, rs, dk, ds, fL, fl, fh)) H := hP
    have hD : va_D Ar (gw ad cz ci cj ((nI c0), fO, fA, fB, fT, sv, fC2, rs, dk, ds, fL, fl, fh)) := hD
    refine lv_aload_n hx hb dX0_survey_12 rfl (lv_at hl 0 rfl) ?_
    refine lv_aload_n hx hb dX0_survey_13 rfl (lv_at hl 0 rfl) ?_
    refine va_get (D := (dC, dI)) (ci := 0) (v := .ref (ad 5)) (C := RX0) (T := TX0) (N := 13) hx hb hw in_X0 hown hK hP 0 rfl rfl 6 (by decide) (hw _ m_1_24) (fun _ h9 => h9) rfl dX0_survey_14 ?_
    refine lv_iconst (v := 0) hx hb dX0_survey_17 (by decide) ?_
    refine x_topi (y := nI 0) (rfl) ?_
    refine va_lald hx hb hK hP 5 2 rfl rfl (vp_in_nI (by omega) (by decide)) dX0_survey_18 ?_
    refine x_topl (y := fC2 0) (by rw [nI_clamp (by omega)]) ?_
    refine lv_lconst (v := 1) hx hb dX0_survey_19 (by decide) ?_
    refine lv_lor hx hb dX0_survey_20 ?_
    refine lv_topl (fun ra_2 era_2 => ?_)
    refine va_put (D := (dC, dI)) (ci := 0) (v := .long ra_2) (ty := .long) (C := RX0) (T := TX0) (N := 13) hx hb hw in_X0 tyX0 tyX0_ok nmX0 hown hK hP hD hS 0 rfl rfl 7 (by decide) (hw _ m_1_25) (fun _ h9 => h9) rfl (by decide +kernel) rfl rfl (Nat.le_of_ble_eq_true rfl) dX0_survey_21 (fun H locs hP hD hS => ?_)
    have hP : va_P (dC, dI) vwCl (gw ad cz ci cj ((nI c0), fO, fA, fB, fT, sv, fC2, ra_2, dk, ds, fL, fl, fh)) H := hP
    have hD : va_D Ar (gw ad cz ci cj ((nI c0), fO, fA, fB, fT, sv, fC2, ra_2, dk, ds, fL, fl, fh)) := hD
    refine lv_aload_n hx hb dX0_survey_24 rfl (lv_at hl 0 rfl) ?_
    have hrs : ∀ m, b_t ra_2 m = true ↔ gre c0 fO fA fB fT m := fun m => by rw [era_2, b_t_or, b_t_one, Bool.or_eq_true, decide_eq_true_eq, hC 0 (by omega) m]; exact ⟨fun q => q.elim Or.inr Or.inl, fun q => q.elim Or.inr Or.inl⟩
    refine g_callv ⟨hx, hb, hml, hown, hw⟩ (c_X0_findDefect l dC dI ad cz ci cj H.size (nI c0) fO fA fB fT sv fC2 ra_2 dk ds fL fl fh  c0 hg (fun m _ => hrs m) hC) (cwV 0 hw gv_X0_X0_findDefect rfl rfl rfl (by decide +kernel) ⟨Nat.le_of_ble_eq_true rfl, Nat.le_of_ble_eq_true rfl⟩) hK hP hD hS hA (ci := 0) (q0 := 0) rfl rfl rfl hl.1 rfl (Nat.le_of_ble_eq_true rfl) dX0_survey_25 ⟨Nat.zero_le _, Nat.zero_le _⟩ (fun  un H locs hq hP hD hS => ?_)
    obtain ⟨dk2, ds2, hdf, rfl⟩ := hq
    have hP : va_P (dC, dI) vwCl (gw ad cz ci cj ((nI c0), fO, fA, fB, fT, sv, fC2, ra_2, dk2, ds2, fL, fl, fh)) H := hP
    have hD : va_D Ar (gw ad cz ci cj ((nI c0), fO, fA, fB, fT, sv, fC2, ra_2, dk2, ds2, fL, fl, fh)) := hD
    refine lv_aload_n hx hb dX0_survey_28 rfl (lv_at hl 0 rfl) ?_
    refine va_get (D := (dC, dI)) (ci := 0) (v := .int dk2) (C := RX0) (T := TX0) (N := 13) hx hb hw in_X0 hown hK hP 0 rfl rfl 8 (by decide) (hw _ m_1_26) (fun _ h9 => h9) rfl dX0_survey_29 ?_
    refine lv_if_ne (tgt := 43) hx hb dX0_survey_32 (by decide) (fun ca_3 => ?_) (fun ca_3 => ?_)
    · refine lv_aload_n hx hb dX0_survey_43 rfl (lv_at hl 0 rfl) ?_
      refine lv_iconst (v := 1) hx hb dX0_survey_44 (by decide) ?_
      refine va_put (D := (dC, dI)) (ci := 0) (v := .int 1) (ty := .boolean) (C := RX0) (T := TX0) (N := 13) hx hb hw in_X0 tyX0 tyX0_ok nmX0 hown hK hP hD hS 0 rfl rfl 5 (by decide) (hw _ m_1_23) (fun _ h9 => h9) rfl (by decide +kernel) rfl rfl (Nat.le_of_ble_eq_true rfl) dX0_survey_45 (fun H locs hP hD hS => ?_)
      have hP : va_P (dC, dI) vwCl (gw ad cz ci cj ((nI c0), fO, fA, fB, fT, 1, fC2, ra_2, dk2, ds2, fL, fl, fh)) H := hP
      have hD : va_D Ar (gw ad cz ci cj ((nI c0), fO, fA, fB, fT, 1, fC2, ra_2, dk2, ds2, fL, fl, fh)) := hD
      exact W.vret hx hb hr (fun t ht hW => ⟨⟨((nI c0), fO, fA, fB, fT, 1, fC2, ra_2, dk2, ds2, fL, fl, fh), rfl, (⟨fC2, ra_2, dk2, ds2, fL, fl, fh, ⟨hrs, hdf, fun q => absurd q ca_3⟩, rfl⟩), (by rw [ht]; exact hP), va_K.moved hW.alike hK, hD⟩, hS.F ht⟩) hS.2.2 dX0_survey_48
    · subst ca_3
      have hnd := g_nd_of hg hdf
      refine lv_aload_n hx hb dX0_survey_35 rfl (lv_at hl 0 rfl) ?_
      refine g_callv ⟨hx, hb, hml, hown, hw⟩ (c_X0_findLengths l dC dI ad cz ci cj H.size (nI c0) fO fA fB fT sv fC2 ra_2 0 ds2 fL fl fh  c0 hg hrs hC hnd.2) (cwV 0 hw gv_X0_X0_findLengths rfl rfl rfl (by decide +kernel) ⟨Nat.le_of_ble_eq_true rfl, Nat.le_of_ble_eq_true rfl⟩) hK hP hD hS hA (ci := 0) (q0 := 0) rfl rfl rfl hl.1 rfl (Nat.le_of_ble_eq_true rfl) dX0_survey_36 ⟨Nat.zero_le _, Nat.zero_le _⟩ (fun  un H locs hq hP hD hS => ?_)
      obtain ⟨fL2, hL, rfl⟩ := hq
      have hP : va_P (dC, dI) vwCl (gw ad cz ci cj ((nI c0), fO, fA, fB, fT, sv, fC2, ra_2, 0, ds2, fL2, fl, fh)) H := hP
      have hD : va_D Ar (gw ad cz ci cj ((nI c0), fO, fA, fB, fT, sv, fC2, ra_2, 0, ds2, fL2, fl, fh)) := hD
      refine lv_aload_n hx hb dX0_survey_39 rfl (lv_at hl 0 rfl) ?_
      refine g_callv ⟨hx, hb, hml, hown, hw⟩ (c_X0_boundValues l dC dI ad cz ci cj H.size (nI c0) fO fA fB fT sv fC2 ra_2 0 ds2 fL2 fl fh  c0 h60) (cwV 0 hw gv_X0_X0_boundValues rfl rfl rfl (by decide +kernel) ⟨Nat.le_of_ble_eq_true rfl, Nat.le_of_ble_eq_true rfl⟩) hK hP hD hS hA (ci := 0) (q0 := 0) rfl rfl rfl hl.1 rfl (Nat.le_of_ble_eq_true rfl) dX0_survey_40 ⟨Nat.zero_le _, Nat.zero_le _⟩ (fun  un H locs hq hP hD hS => ?_)
      obtain ⟨fl2, fh2, hB, rfl⟩ := hq
      have hP : va_P (dC, dI) vwCl (gw ad cz ci cj ((nI c0), fO, fA, fB, fT, sv, fC2, ra_2, 0, ds2, fL2, fl2, fh2)) H := hP
      have hD : va_D Ar (gw ad cz ci cj ((nI c0), fO, fA, fB, fT, sv, fC2, ra_2, 0, ds2, fL2, fl2, fh2)) := hD
      refine lv_aload_n hx hb dX0_survey_43 rfl (lv_at hl 0 rfl) ?_
      refine lv_iconst (v := 1) hx hb dX0_survey_44 (by decide) ?_
      refine va_put (D := (dC, dI)) (ci := 0) (v := .int 1) (ty := .boolean) (C := RX0) (T := TX0) (N := 13) hx hb hw in_X0 tyX0 tyX0_ok nmX0 hown hK hP hD hS 0 rfl rfl 5 (by decide) (hw _ m_1_23) (fun _ h9 => h9) rfl (by decide +kernel) rfl rfl (Nat.le_of_ble_eq_true rfl) dX0_survey_45 (fun H locs hP hD hS => ?_)
      have hP : va_P (dC, dI) vwCl (gw ad cz ci cj ((nI c0), fO, fA, fB, fT, 1, fC2, ra_2, 0, ds2, fL2, fl2, fh2)) H := hP
      have hD : va_D Ar (gw ad cz ci cj ((nI c0), fO, fA, fB, fT, 1, fC2, ra_2, 0, ds2, fL2, fl2, fh2)) := hD
      exact W.vret hx hb hr (fun t ht hW => ⟨⟨((nI c0), fO, fA, fB, fT, 1, fC2, ra_2, 0, ds2, fL2, fl2, fh2), rfl, (⟨fC2, ra_2, 0, ds2, fL2, fl2, fh2, ⟨hrs, hdf, fun _ => ⟨hL, g_bd_0 hg hnd hB⟩⟩, rfl⟩), (by rw [ht]; exact hP), va_K.moved hW.alike hK, hD⟩, hS.F ht⟩) hS.2.2 dX0_survey_48
  · rcases hsv with q | ⟨rfl, hs⟩
    · exact absurd q c_1
    exact W.vret hx hb hr (fun t ht hW => ⟨⟨((nI c0), fO, fA, fB, fT, 1, fC, rs, dk, ds, fL, fl, fh), rfl, (⟨fC, rs, dk, ds, fL, fl, fh, hs, rfl⟩), (by rw [ht]; exact hP), va_K.moved hW.alike hK, hD⟩, hS.F ht⟩) hS.2.2 dX0_survey_7
end
section
/-! What the search promises, by the rank of its state. -/
abbrev R_s (k : Nat) : Room := { frames := 2 * k, cells := 0, slots := 0, locals := 56 * k }
abbrev R_g (k : Nat) : Room := { frames := 2 * k + 1, cells := 0, slots := 0, locals := 56 * k + 28 }
noncomputable abbrev grk (c : Nat) (fO fA fB fT : Nat → Int32) (n : Nat) : Nat := s_rk c (gmv fO fA fB) (gtg fT) n
def M_srch (l : Launch) (dC : Nat → ClassId) (dI : Nat → Nat → Nat) (ad : Nat → Nat) (cz ci cj : ClassId) (c0 : Nat) (fO fA fB fT : Nat → Int32) (k : Nat) : Prop :=
  ∀ (sz : Nat) (sv : Int32) (fC : Nat → Int64) (rs : Int64) (dk ds : Int32) (fL fl fh : Nat → Int32) (n d : Nat) (al be : Int32), gre c0 fO fA fB fT n → grk c0 fO fA fB fT n < k → grk c0 fO fA fB fT n + d < c0 → al.toInt < be.toInt → g_bd c0 fO fA fB fT fl fh →
    Met l yX0_search wX0_search (R_s k) (va_Pc [.ref (ad 0), .int (nI n), .int al, .int be, .int (nI d)] (g_Pre (dC, dI) vwCl (gty cz ci cj) (gw ad cz ci cj (nI c0, fO, fA, fB, fT, sv, fC, rs, dk, ds, fL, fl, fh)) sz))
      (va_Qi (fun (r : Int32) (u : GS) => ∃ fl2 fh2 : Nat → Int32, g_bd c0 fO fA fB fT fl2 fh2 ∧ w_ok r.toInt (gval c0 fO fA fB fT n) al.toInt be.toInt ∧ u = (nI c0, fO, fA, fB, fT, sv, fC, rs, dk, ds, fL, fl2, fh2)) (g_At (dC, dI) vwCl (gty cz ci cj) (va_A (gw ad cz ci cj (nI c0, fO, fA, fB, fT, sv, fC, rs, dk, ds, fL, fl, fh)) sz) (gw ad cz ci cj)) (va_A (gw ad cz ci cj (nI c0, fO, fA, fB, fT, sv, fC, rs, dk, ds, fL, fl, fh)) sz)) 0 0 (va_A (gw ad cz ci cj (nI c0, fO, fA, fB, fT, sv, fC, rs, dk, ds, fL, fl, fh)) sz)
/-- greatest (fi) or least, where the states it goes to have ranks below k -/
def M_pick (y : MethodName) (ws : List Cond) (fi : Bool) (l : Launch) (dC : Nat → ClassId) (dI : Nat → Nat → Nat) (ad : Nat → Nat) (cz ci cj : ClassId) (c0 : Nat) (fO fA fB fT : Nat → Int32) (k : Nat) : Prop :=
  ∀ (sz : Nat) (sv : Int32) (fC : Nat → Int64) (rs : Int64) (dk ds : Int32) (fL fl fh : Nat → Int32) (n d : Nat) (al be : Int32), gre c0 fO fA fB fT n → grk c0 fO fA fB fT n < k + 1 → grk c0 fO fA fB fT n + d < c0 → al.toInt < be.toInt → g_bd c0 fO fA fB fT fl fh → ¬ fO n = 0 → gfi fA n = fi →
    Met l y ws (R_g k) (va_Pc [.ref (ad 0), .int (nI n), .int al, .int be, .int (nI d)] (g_Pre (dC, dI) vwCl (gty cz ci cj) (gw ad cz ci cj (nI c0, fO, fA, fB, fT, sv, fC, rs, dk, ds, fL, fl, fh)) sz))
      (va_Qi (fun (r : Int32) (u : GS) => ∃ fl2 fh2 : Nat → Int32, g_bd c0 fO fA fB fT fl2 fh2 ∧ w_ok r.toInt (gval c0 fO fA fB fT n) al.toInt be.toInt ∧ u = (nI c0, fO, fA, fB, fT, sv, fC, rs, dk, ds, fL, fl2, fh2)) (g_At (dC, dI) vwCl (gty cz ci cj) (va_A (gw ad cz ci cj (nI c0, fO, fA, fB, fT, sv, fC, rs, dk, ds, fL, fl, fh)) sz) (gw ad cz ci cj)) (va_A (gw ad cz ci cj (nI c0, fO, fA, fB, fT, sv, fC, rs, dk, ds, fL, fl, fh)) sz)) 0 0 (va_A (gw ad cz ci cj (nI c0, fO, fA, fB, fT, sv, fC, rs, dk, ds, fL, fl, fh)) sz)
theorem k_max (x y : Int32) : (if x < y then y else x).toInt = max x.toInt y.toInt := by
  by_cases h : x < y
  · rw [if_pos h]; rw [Int32.lt_iff_toInt_lt] at h; omega
  · rw [if_neg h]; rw [Int32.lt_iff_toInt_lt] at h; omega
theorem k_min (x y : Int32) : (if y < x then y else x).toInt = min x.toInt y.toInt := by
  by_cases h : y < x
  · rw [if_pos h]; rw [Int32.lt_iff_toInt_lt] at h; omega
  · rw [if_neg h]; rw [Int32.lt_iff_toInt_lt] at h; omega
section KV
variable {c0 : Nat} {fO fA fB fT : Nat → Int32}
theorem k_vx (hg : g_ok c0 fO fA fB fT) (hn : g_nd c0 fO fA fB fT) {n : Nat} (hr : gre c0 fO fA fB fT n) (hO : ¬ fO n = 0) (hf : gfi fA n = true) : gval c0 fO fA fB fT n = w_mx (fun j => gval c0 fO fA fB fT (gtg fT n j)) (gmv fO fA fB n) := by
  have hd := g_nd_open (hn.1 n (s_re_lt (g_sok hg) hr) hr) hO
  show s_val _ _ _ _ c0 n = _
  rw [s_val_eq (g_sok hg) hn.2 hr, if_neg hd.1, if_pos hf]
  rfl
theorem k_vn (hg : g_ok c0 fO fA fB fT) (hn : g_nd c0 fO fA fB fT) {n : Nat} (hr : gre c0 fO fA fB fT n) (hO : ¬ fO n = 0) (hf : gfi fA n = false) : gval c0 fO fA fB fT n = w_mn (fun j => gval c0 fO fA fB fT (gtg fT n j)) (gmv fO fA fB n) := by
  have hd := g_nd_open (hn.1 n (s_re_lt (g_sok hg) hr) hr) hO
  show s_val _ _ _ _ c0 n = _
  rw [s_val_eq (g_sok hg) hn.2 hr, if_neg hd.1, if_neg (by rw [hf]; decide)]
  rfl
/-- a bound that a search has found is kept -/
theorem k_lo {fl fh : Nat → Int32} (h : g_bd c0 fO fA fB fT fl fh) {n : Nat} (hO : ¬ fO n = 0) {x : Int32} (hx : x.toInt ≤ gval c0 fO fA fB fT n) : g_bd c0 fO fA fB fT (upd fl n x) fh := by
  intro m hm
  obtain ⟨a, b, c⟩ := h m hm
  by_cases e : m = n
  · subst e; rw [pk_us]; exact ⟨hx, b, fun q => absurd q hO⟩
  · rw [pk_un e]; exact ⟨a, b, c⟩
theorem k_hi {fl fh : Nat → Int32} (h : g_bd c0 fO fA fB fT fl fh) {n : Nat} (hO : ¬ fO n = 0) {x : Int32} (hx : gval c0 fO fA fB fT n ≤ x.toInt) : g_bd c0 fO fA fB fT fl (upd fh n x) := by
  intro m hm
  obtain ⟨a, b, c⟩ := h m hm
  by_cases e : m = n
  · subst e; rw [pk_us]; exact ⟨a, hx, fun q => absurd q hO⟩
  · rw [pk_un e]; exact ⟨a, b, c⟩
end KV
theorem k_il {x y : Int32} (h : x ≤ y) : x.toInt ≤ y.toInt := Int32.le_iff_toInt_le.mp h
theorem k_nil {x y : Int32} (h : ¬ x ≤ y) : y.toInt < x.toInt := by rw [Int32.le_iff_toInt_le] at h; omega
theorem k_it {x y : Int32} (h : x < y) : x.toInt < y.toInt := Int32.lt_iff_toInt_lt.mp h
theorem k_nit {x y : Int32} (h : ¬ x < y) : y.toInt ≤ x.toInt := by rw [Int32.lt_iff_toInt_lt] at h; omega
end
section
/-! The search (by tool/search.py). -/
set_option maxHeartbeats 4000000 in
set_option maxRecDepth 100000 in
theorem lp_greatest {p : Program} {l : Launch} {e : Env} {R : Room} {s : State} {m : MethodId} {args : Array Value} {below : List Frame} {meth : Method} {c : Code} {Q : State → Prop} {dC : Nat → ClassId} {dI : Nat → Nat → Nat} {ad : Nat → Nat} {cz ci cj : ClassId} {Ar : Nat → Prop} {k : Nat} (hx : p.tables.exec = Jvm.exec) (hb : c.code = cX0_greatest) (hml : c.maxLocals = 8) (hown : s.vm.findClass "GameGraph" = some m.cls) (hw : ∀ w ∈ wAll, w.before args s = true) (hK : va_K (dC, dI) vwCl (gty cz ci cj) s) (hA : ∀ q, s.heap.size ≤ q → Ar q) (hR1 : 2 * k + 1 ≤ R.frames) (hR2 : 56 * k + 28 ≤ R.locals) (fO fA fB fT : Nat → Int32) (sv : Int32) (fC : Nat → Int64) (rs : Int64) (dk ds : Int32) (fL : Nat → Int32) (c0 : Nat) (hg : g_ok c0 fO fA fB fT) (hnd : g_nd c0 fO fA fB fT) (hs : M_srch l dC dI ad cz ci cj c0 fO fA fB fT k) (n d : Nat) (al be : Int32) (hre : gre c0 fO fA fB fT n) (hrk : grk c0 fO fA fB fT n < k + 1) (hd : grk c0 fO fA fB fT n + d < c0) (hw1 : al.toInt < be.toInt) (hO : ¬ fO n = 0) (hf : gfi fA n = true)
    (kx : ∀ (f : Int32) (fl2 : Nat → Int32) (fh2 : Nat → Int32), (w_ok f.toInt (gval c0 fO fA fB fT n) al.toInt be.toInt) → (g_bd c0 fO fA fB fT fl2 fh2) → ∀ (H : Heap) (locs : List Loc), va_P (dC, dI) vwCl (gw ad cz ci cj ((nI c0), fO, fA, fB, fT, sv, fC, rs, dk, ds, fL, fl2, fh2)) H → va_D Ar (gw ad cz ci cj ((nI c0), fO, fA, fB, fT, sv, fC, rs, dk, ds, fL, fl2, fh2)) → va_S Ar s.heap H locs → ∀ (ls : Array Slot), lv_has ls 8 [(5, .int f)] → W p l e R s m args below meth c H locs 0 0 Q (F0 m 61 ls [])) :
    ∀ (fuel : Nat) (j : Nat) (f : Int32) (fl2 : Nat → Int32) (fh2 : Nat → Int32), gmv fO fA fB n + 1 ≤ j + fuel → j ≤ gmv fO fA fB n → (w_ok f.toInt (w_mx (fun i => gval c0 fO fA fB fT (gtg fT n i)) j) al.toInt be.toInt) → (g_bd c0 fO fA fB fT fl2 fh2) → ∀ (H : Heap) (locs : List Loc), va_P (dC, dI) vwCl (gw ad cz ci cj ((nI c0), fO, fA, fB, fT, sv, fC, rs, dk, ds, fL, fl2, fh2)) H → va_D Ar (gw ad cz ci cj ((nI c0), fO, fA, fB, fT, sv, fC, rs, dk, ds, fL, fl2, fh2)) → va_S Ar s.heap H locs → ∀ (ls : Array Slot), lv_has ls 8 [(0, .ref (ad 0)), (1, .int (nI n)), (2, .int al), (3, .int be), (4, .int (nI d)), (5, .int f), (6, .int (nI (gmv fO fA fB n))), (7, .int (nI j))] → W p l e R s m args below meth c H locs 0 0 Q (F0 m 13 ls []) := by
  intro fuel
  induction fuel with
  | zero => intro j f fl2 fh2 hfu hj hI hbd; exact absurd hfu (by omega)
  | succ fuel ih =>
    intro j f fl2 fh2 hfu hj hI hbd H locs hP hD hS ls hl
    have h60 := hg.2.1
    have hnl := s_re_lt (g_sok hg) hre
    have h12 := (g_mvI hg hnl).2
    refine lv_iload hx hb dX0_greatest_13 (lv_at hl 7 rfl) ?_
    refine lv_iload hx hb dX0_greatest_15 (lv_at hl 6 rfl) ?_
    refine lv_icmp_ge (tgt := 61) hx hb dX0_greatest_17 (by decide) (fun c_1 => ?_) (fun c_1 => ?_)
    · exact kx f fl2 fh2 (by rw [k_vx hg hnd hre hO hf, k_eq hj c_1 (by omega)]; exact hI) hbd _ _ hP hD hS _ (lv_sub hl [5] rfl)
    · have hlt : j < gmv fO fA fB n := k_lt c_1 (by omega)
      refine lv_iload hx hb dX0_greatest_20 (lv_at hl 5 rfl) ?_
      refine lv_iload_n hx hb dX0_greatest_22 rfl (lv_at hl 3 rfl) ?_
      refine lv_icmp_ge (tgt := 61) hx hb dX0_greatest_23 (by decide) (fun cb_2 => ?_) (fun cb_2 => ?_)
      · exact kx f fl2 fh2 (w_ok_cutx hI hw1 (k_il cb_2) (by rw [k_vx hg hnd hre hO hf]; exact w_mx_mono _ _ (by omega))) hbd _ _ hP hD hS _ (lv_sub hl [5] rfl)
      · have hfb := k_nil cb_2
        refine lv_iload hx hb dX0_greatest_26 (lv_at hl 5 rfl) ?_
        refine lv_aload_n hx hb dX0_greatest_28 rfl (lv_at hl 0 rfl) ?_
        refine lv_aload_n hx hb dX0_greatest_29 rfl (lv_at hl 0 rfl) ?_
        refine lv_iload_n hx hb dX0_greatest_30 rfl (lv_at hl 1 rfl) ?_
        refine lv_iload hx hb dX0_greatest_31 (lv_at hl 7 rfl) ?_
        refine g_calli ⟨hx, hb, hml, hown, hw⟩ (c_X0_target l dC dI ad cz ci cj H.size (nI c0) fO fA fB fT sv fC rs dk ds fL fl2 fh2 n j (by omega) (by omega)) (cwV 2 hw gv_X0_X0_target rfl rfl rfl (by decide +kernel) ⟨Nat.le_trans (by show 0 + 1 ≤ 2 * k + 1; omega) hR1, Nat.le_trans (by show 8 + (3 + 11) + 0 ≤ 56 * k + 28; omega) hR2⟩) hK hP hD hS hA (ci := 0) (q0 := 0) rfl rfl rfl hl.1 rfl (Nat.le_of_ble_eq_true rfl) dX0_greatest_33 ⟨Nat.zero_le _, Nat.zero_le _⟩ (fun rbb_3 un H locs hq hP hD hS => ?_)
        obtain ⟨rfl, hq⟩ := hq
        have hP : va_P (dC, dI) vwCl (gw ad cz ci cj ((nI c0), fO, fA, fB, fT, sv, fC, rs, dk, ds, fL, fl2, fh2)) H := hP
        have hD : va_D Ar (gw ad cz ci cj ((nI c0), fO, fA, fB, fT, sv, fC, rs, dk, ds, fL, fl2, fh2)) := hD
        have ht := g_tgI hg hnl (j := j) (by omega)
        refine x_topi (y := nI (gtg fT n j)) (by rw [hq]; exact ht.1) ?_
        have hrc := s_re_ed (g_sok hg) hre hlt
        have hkc := s_rk_lt (g_sok hg) hnd.2 hre hlt
        simp only [grk] at hrk hd
        refine lv_iload_n hx hb dX0_greatest_36 rfl (lv_at hl 2 rfl) ?_
        refine lv_iload hx hb dX0_greatest_37 (lv_at hl 5 rfl) ?_
        refine va_mmax hx hb (hml.trans hl.1.symm) hown (hw _ m_7_32) (hw _ m_7_33) (hw _ m_1_3) (hw _ m_7_34) (Nat.le_trans (by show 1 ≤ 2 * k + 1; omega) hR1) (Nat.le_trans (by show 3 + 13 ≤ 56 * k + 28; omega) hR2) (Nat.zero_le _) (Nat.zero_le _) dX0_greatest_39 ?_
        refine lv_topi (fun wbb_4 ewbb_4 => ?_)
        have hww := congrArg Int32.toInt ewbb_4
        rw [k_max] at hww
        refine lv_iload_n hx hb dX0_greatest_42 rfl (lv_at hl 3 rfl) ?_
        refine lv_iload hx hb dX0_greatest_43 (lv_at hl 4 rfl) ?_
        refine lv_iconst (v := 1) hx hb dX0_greatest_45 (by decide) ?_
        refine lv_iadd hx hb dX0_greatest_46 ?_
        refine x_topi (y := nI (d + 1)) (nI_1 d) ?_
        refine g_calli ⟨hx, hb, hml, hown, hw⟩ (hs H.size sv fC rs dk ds fL fl2 fh2 (gtg fT n j) (d + 1) wbb_4 be hrc (by simp only [grk]; omega) (by simp only [grk]; omega) (by omega) hbd) (cwV 4 hw gv_X0_X0_search rfl rfl rfl (by decide +kernel) ⟨Nat.le_trans (by show 2 * k + 1 ≤ 2 * k + 1; omega) hR1, Nat.le_trans (by show 8 + (6 + 11) + (56 * k) ≤ 56 * k + 28; omega) hR2⟩) hK hP hD hS hA (ci := 0) (q0 := 0) rfl rfl rfl hl.1 rfl (Nat.le_of_ble_eq_true rfl) dX0_greatest_47 ⟨Nat.zero_le _, Nat.zero_le _⟩ (fun rbb_5 un H locs hq hP hD hS => ?_)
        obtain ⟨fl3, fh3, hbd3, hok, rfl⟩ := hq
        have hP : va_P (dC, dI) vwCl (gw ad cz ci cj ((nI c0), fO, fA, fB, fT, sv, fC, rs, dk, ds, fL, fl3, fh3)) H := hP
        have hD : va_D Ar (gw ad cz ci cj ((nI c0), fO, fA, fB, fT, sv, fC, rs, dk, ds, fL, fl3, fh3)) := hD
        refine va_mmax hx hb (hml.trans hl.1.symm) hown (hw _ m_7_32) (hw _ m_7_33) (hw _ m_1_3) (hw _ m_7_34) (Nat.le_trans (by show 1 ≤ 2 * k + 1; omega) hR1) (Nat.le_trans (by show 0 + 13 ≤ 56 * k + 28; omega) hR2) (Nat.zero_le _) (Nat.zero_le _) dX0_greatest_50 ?_
        refine lv_topi (fun fbb_6 efbb_6 => ?_)
        refine lv_istore (lv' := [(5, .int fbb_6), (0, .ref (ad 0)), (1, .int (nI n)), (2, .int al), (3, .int be), (4, .int (nI d)), (6, .int (nI (gmv fO fA fB n))), (7, .int (nI j))]) hx hb dX0_greatest_53 hl (by decide) rfl (fun ls hl => ?_)
        refine lv_iinc (v := (nI (j + 1))) (lv' := [(7, .int (nI (j + 1))), (5, .int fbb_6), (0, .ref (ad 0)), (1, .int (nI n)), (2, .int al), (3, .int be), (4, .int (nI d)), (6, .int (nI (gmv fO fA fB n)))]) hx hb dX0_greatest_55 hl (k := 7) rfl (nI_1 j) (by decide) rfl (fun ls hl => ?_)
        refine lv_goto (tgt := 13) hx hb dX0_greatest_58 (by decide) ?_
        exact ih (j + 1) fbb_6 fl3 fh3 (by omega) (by omega) (by rw [efbb_6, k_max]; rw [hww] at hok; exact w_ok_mx hI hw1 hfb hok) hbd3 _ _ hP hD hS _ (lv_sub hl [2, 3, 4, 5, 6, 1, 7, 0] rfl)
set_option maxHeartbeats 4000000 in
set_option maxRecDepth 100000 in
theorem c_greatest (l : Launch) (dC : Nat → ClassId) (dI : Nat → Nat → Nat) (ad : Nat → Nat) (cz ci cj : ClassId) (c0 : Nat) (fO fA fB fT : Nat → Int32) (hg : g_ok c0 fO fA fB fT) (hnd : g_nd c0 fO fA fB fT) (k : Nat) (hs : M_srch l dC dI ad cz ci cj c0 fO fA fB fT k) : M_pick yX0_greatest wX0_greatest true l dC dI ad cz ci cj c0 fO fA fB fT k := by
  intro sz sv fC rs dk ds fL fl fh n d al be hre hrk hd hw1 hbd hO hf
  refine Met.ofW (cc := cX0_greatest) (maxL := 8) (ret := some .int) (by decide) rfl ?_
  intro p e s m args below meth c s₁ Bd hml hv
  obtain ⟨rfl, hsz, hP, hK, hD0⟩ := hv
  have hx := Bd.exec
  have hb := Bd.bytes
  have hr := Bd.returns
  have hts := atoms_spec (ws := wX0_greatest) Bd.pre
  have hw : ∀ w ∈ wAll, w.before _ s = true := fun w h => hts w (List.mem_cons_of_mem _ h)
  have hown : s.vm.findClass "GameGraph" = some m.cls := findClass_of_methodNamed Bd.named
  have hlocks := Bd.notSynchronized
  subst hsz
  have hD := hD0.self (sz := s.heap.size)
  generalize hAe : va_A (gw ad cz ci cj ((nI c0), fO, fA, fB, fT, sv, fC, rs, dk, ds, fL, fl, fh)) s.heap.size = Ar at hD ⊢
  have hA : ∀ q : Nat, s.heap.size ≤ q → Ar q := fun q h => by rw [← hAe]; exact Or.inr h
  obtain ⟨H, hH⟩ : ∃ H : Heap, H = s.heap := ⟨_, rfl⟩
  have hS : va_S Ar s.heap H [] := by rw [hH]; exact va_S.rf
  have hP : va_P (dC, dI) vwCl (gw ad cz ci cj ((nI c0), fO, fA, fB, fT, sv, fC, rs, dk, ds, fL, fl, fh)) H := by rw [hH]; exact hP
  rw [← hH]
  have hl := lv_entry ([.ref (ad 0), .int (nI n), .int al, .int be, .int (nI d)]) (n := 8) (Nat.le_of_ble_eq_true rfl)
  rw [lg_entry_eq]
  generalize (lg_sl ([.ref (ad 0), .int (nI n), .int al, .int be, .int (nI d)]) ++ List.replicate (8 - (lg_sl ([.ref (ad 0), .int (nI n), .int al, .int be, .int (nI d)])).length) Slot.unset).toArray = ls at hl ⊢
  have hl : lv_has ls 8 [(0, .ref (ad 0)), (1, .int (nI n)), (2, .int al), (3, .int be), (4, .int (nI d))] := hl
  have h60 := hg.2.1
  have hnl := s_re_lt (g_sok hg) hre
  refine lv_iconst (v := 0) hx hb dX0_greatest_0 (by decide) ?_
  refine lv_istore (lv' := [(5, .int 0), (0, .ref (ad 0)), (1, .int (nI n)), (2, .int al), (3, .int be), (4, .int (nI d))]) hx hb dX0_greatest_1 hl (by decide) rfl (fun ls hl => ?_)
  refine lv_aload_n hx hb dX0_greatest_3 rfl (lv_at hl 1 rfl) ?_
  refine lv_iload_n hx hb dX0_greatest_4 rfl (lv_at hl 2 rfl) ?_
  refine g_calli ⟨hx, hb, hml, hown, hw⟩ (c_X0_jointMoves l dC dI ad cz ci cj H.size (nI c0) fO fA fB fT sv fC rs dk ds fL fl fh n (by omega)) (cwV 1 hw gv_X0_X0_jointMoves rfl rfl rfl (by decide +kernel) ⟨by show 0 + 1 ≤ 2 * k + 1; omega, by show 8 + (2 + 11) + 0 ≤ 56 * k + 28; omega⟩) hK hP hD hS hA (ci := 0) (q0 := 0) rfl rfl rfl hl.1 rfl (Nat.le_of_ble_eq_true rfl) dX0_greatest_5 ⟨Nat.zero_le _, Nat.zero_le _⟩ (fun r_1 un H locs hq hP hD hS => ?_)
  obtain ⟨rfl, hq⟩ := hq
  have hP : va_P (dC, dI) vwCl (gw ad cz ci cj ((nI c0), fO, fA, fB, fT, sv, fC, rs, dk, ds, fL, fl, fh)) H := hP
  have hD : va_D Ar (gw ad cz ci cj ((nI c0), fO, fA, fB, fT, sv, fC, rs, dk, ds, fL, fl, fh)) := hD
  refine x_topi (y := nI (gmv fO fA fB n)) (by rw [hq]; exact (g_mvI hg hnl).1) ?_
  refine lv_istore (lv' := [(6, .int (nI (gmv fO fA fB n))), (5, .int 0), (0, .ref (ad 0)), (1, .int (nI n)), (2, .int al), (3, .int be), (4, .int (nI d))]) hx hb dX0_greatest_8 hl (by decide) rfl (fun ls hl => ?_)
  refine lv_iconst (v := 0) hx hb dX0_greatest_10 (by decide) ?_
  refine x_topi (y := nI 0) (rfl) ?_
  refine lv_istore (lv' := [(7, .int (nI 0)), (6, .int (nI (gmv fO fA fB n))), (5, .int 0), (0, .ref (ad 0)), (1, .int (nI n)), (2, .int al), (3, .int be), (4, .int (nI d))]) hx hb dX0_greatest_11 hl (by decide) rfl (fun ls hl => ?_)
  refine lp_greatest (dC := dC) (dI := dI) (ad := ad) (cz := cz) (ci := ci) (cj := cj) (Ar := Ar) hx hb hml hown hw hK hA (Nat.le_refl _) (Nat.le_refl _) fO fA fB fT sv fC rs dk ds fL c0 hg hnd hs n d al be hre hrk hd hw1 hO hf ?_ (gmv fO fA fB n + 1) 0 0 fl fh (by omega) (by omega) (w_ok_rf _ _ _) hbd _ _ hP hD hS _ (lv_sub hl [3, 4, 5, 6, 7, 2, 1, 0] rfl)
  intro f fl2 fh2 hI hbd H locs hP hD hS ls hl
  refine lv_iload hx hb dX0_greatest_61 (lv_at hl 0 rfl) ?_
  exact W.iret (v := f) hx hb hr (fun t ht hW => ⟨⟨f, ((nI c0), fO, fA, fB, fT, sv, fC, rs, dk, ds, fL, fl2, fh2), rfl, (⟨fl2, fh2, hbd, hI, rfl⟩), (by rw [ht]; exact hP), va_K.moved hW.alike hK, hD⟩, hS.F ht⟩) hS.2.2 dX0_greatest_63
set_option maxHeartbeats 4000000 in
set_option maxRecDepth 100000 in
theorem lp_least {p : Program} {l : Launch} {e : Env} {R : Room} {s : State} {m : MethodId} {args : Array Value} {below : List Frame} {meth : Method} {c : Code} {Q : State → Prop} {dC : Nat → ClassId} {dI : Nat → Nat → Nat} {ad : Nat → Nat} {cz ci cj : ClassId} {Ar : Nat → Prop} {k : Nat} (hx : p.tables.exec = Jvm.exec) (hb : c.code = cX0_least) (hml : c.maxLocals = 8) (hown : s.vm.findClass "GameGraph" = some m.cls) (hw : ∀ w ∈ wAll, w.before args s = true) (hK : va_K (dC, dI) vwCl (gty cz ci cj) s) (hA : ∀ q, s.heap.size ≤ q → Ar q) (hR1 : 2 * k + 1 ≤ R.frames) (hR2 : 56 * k + 28 ≤ R.locals) (fO fA fB fT : Nat → Int32) (sv : Int32) (fC : Nat → Int64) (rs : Int64) (dk ds : Int32) (fL : Nat → Int32) (c0 : Nat) (hg : g_ok c0 fO fA fB fT) (hnd : g_nd c0 fO fA fB fT) (hs : M_srch l dC dI ad cz ci cj c0 fO fA fB fT k) (n d : Nat) (al be : Int32) (hre : gre c0 fO fA fB fT n) (hrk : grk c0 fO fA fB fT n < k + 1) (hd : grk c0 fO fA fB fT n + d < c0) (hw1 : al.toInt < be.toInt) (hO : ¬ fO n = 0) (hf : gfi fA n = false)
    (kx : ∀ (f : Int32) (fl2 : Nat → Int32) (fh2 : Nat → Int32), (w_ok f.toInt (gval c0 fO fA fB fT n) al.toInt be.toInt) → (g_bd c0 fO fA fB fT fl2 fh2) → ∀ (H : Heap) (locs : List Loc), va_P (dC, dI) vwCl (gw ad cz ci cj ((nI c0), fO, fA, fB, fT, sv, fC, rs, dk, ds, fL, fl2, fh2)) H → va_D Ar (gw ad cz ci cj ((nI c0), fO, fA, fB, fT, sv, fC, rs, dk, ds, fL, fl2, fh2)) → va_S Ar s.heap H locs → ∀ (ls : Array Slot), lv_has ls 8 [(5, .int f)] → W p l e R s m args below meth c H locs 0 0 Q (F0 m 62 ls [])) :
    ∀ (fuel : Nat) (j : Nat) (f : Int32) (fl2 : Nat → Int32) (fh2 : Nat → Int32), gmv fO fA fB n + 1 ≤ j + fuel → j ≤ gmv fO fA fB n → (w_ok f.toInt (w_mn (fun i => gval c0 fO fA fB fT (gtg fT n i)) j) al.toInt be.toInt) → (g_bd c0 fO fA fB fT fl2 fh2) → ∀ (H : Heap) (locs : List Loc), va_P (dC, dI) vwCl (gw ad cz ci cj ((nI c0), fO, fA, fB, fT, sv, fC, rs, dk, ds, fL, fl2, fh2)) H → va_D Ar (gw ad cz ci cj ((nI c0), fO, fA, fB, fT, sv, fC, rs, dk, ds, fL, fl2, fh2)) → va_S Ar s.heap H locs → ∀ (ls : Array Slot), lv_has ls 8 [(0, .ref (ad 0)), (1, .int (nI n)), (2, .int al), (3, .int be), (4, .int (nI d)), (5, .int f), (6, .int (nI (gmv fO fA fB n))), (7, .int (nI j))] → W p l e R s m args below meth c H locs 0 0 Q (F0 m 14 ls []) := by
  intro fuel
  induction fuel with
  | zero => intro j f fl2 fh2 hfu hj hI hbd; exact absurd hfu (by omega)
  | succ fuel ih =>
    intro j f fl2 fh2 hfu hj hI hbd H locs hP hD hS ls hl
    have h60 := hg.2.1
    have hnl := s_re_lt (g_sok hg) hre
    have h12 := (g_mvI hg hnl).2
    refine lv_iload hx hb dX0_least_14 (lv_at hl 7 rfl) ?_
    refine lv_iload hx hb dX0_least_16 (lv_at hl 6 rfl) ?_
    refine lv_icmp_ge (tgt := 62) hx hb dX0_least_18 (by decide) (fun c_1 => ?_) (fun c_1 => ?_)
    · exact kx f fl2 fh2 (by rw [k_vn hg hnd hre hO hf, k_eq hj c_1 (by omega)]; exact hI) hbd _ _ hP hD hS _ (lv_sub hl [5] rfl)
    · have hlt : j < gmv fO fA fB n := k_lt c_1 (by omega)
      refine lv_iload hx hb dX0_least_21 (lv_at hl 5 rfl) ?_
      refine lv_iload_n hx hb dX0_least_23 rfl (lv_at hl 2 rfl) ?_
      refine lv_icmp_le (tgt := 62) hx hb dX0_least_24 (by decide) (fun cb_2 => ?_) (fun cb_2 => ?_)
      · exact kx f fl2 fh2 (w_ok_cutn hI hw1 (k_il cb_2) (by rw [k_vn hg hnd hre hO hf]; exact w_mn_mono _ _ (by omega))) hbd _ _ hP hD hS _ (lv_sub hl [5] rfl)
      · have hfb := k_nil cb_2
        refine lv_iload hx hb dX0_least_27 (lv_at hl 5 rfl) ?_
        refine lv_aload_n hx hb dX0_least_29 rfl (lv_at hl 0 rfl) ?_
        refine lv_aload_n hx hb dX0_least_30 rfl (lv_at hl 0 rfl) ?_
        refine lv_iload_n hx hb dX0_least_31 rfl (lv_at hl 1 rfl) ?_
        refine lv_iload hx hb dX0_least_32 (lv_at hl 7 rfl) ?_
        refine g_calli ⟨hx, hb, hml, hown, hw⟩ (c_X0_target l dC dI ad cz ci cj H.size (nI c0) fO fA fB fT sv fC rs dk ds fL fl2 fh2 n j (by omega) (by omega)) (cwV 2 hw gv_X0_X0_target rfl rfl rfl (by decide +kernel) ⟨Nat.le_trans (by show 0 + 1 ≤ 2 * k + 1; omega) hR1, Nat.le_trans (by show 8 + (3 + 11) + 0 ≤ 56 * k + 28; omega) hR2⟩) hK hP hD hS hA (ci := 0) (q0 := 0) rfl rfl rfl hl.1 rfl (Nat.le_of_ble_eq_true rfl) dX0_least_34 ⟨Nat.zero_le _, Nat.zero_le _⟩ (fun rbb_3 un H locs hq hP hD hS => ?_)
        obtain ⟨rfl, hq⟩ := hq
        have hP : va_P (dC, dI) vwCl (gw ad cz ci cj ((nI c0), fO, fA, fB, fT, sv, fC, rs, dk, ds, fL, fl2, fh2)) H := hP
        have hD : va_D Ar (gw ad cz ci cj ((nI c0), fO, fA, fB, fT, sv, fC, rs, dk, ds, fL, fl2, fh2)) := hD
        have ht := g_tgI hg hnl (j := j) (by omega)
        refine x_topi (y := nI (gtg fT n j)) (by rw [hq]; exact ht.1) ?_
        have hrc := s_re_ed (g_sok hg) hre hlt
        have hkc := s_rk_lt (g_sok hg) hnd.2 hre hlt
        simp only [grk] at hrk hd
        refine lv_iload_n hx hb dX0_least_37 rfl (lv_at hl 2 rfl) ?_
        refine lv_iload_n hx hb dX0_least_38 rfl (lv_at hl 3 rfl) ?_
        refine lv_iload hx hb dX0_least_39 (lv_at hl 5 rfl) ?_
        refine va_mmin hx hb (hml.trans hl.1.symm) hown (hw _ m_7_38) (hw _ m_7_39) (hw _ m_1_3) (hw _ m_8_0) (Nat.le_trans (by show 1 ≤ 2 * k + 1; omega) hR1) (Nat.le_trans (by show 4 + 13 ≤ 56 * k + 28; omega) hR2) (Nat.zero_le _) (Nat.zero_le _) dX0_least_41 ?_
        refine lv_topi (fun wbb_4 ewbb_4 => ?_)
        have hww := congrArg Int32.toInt ewbb_4
        rw [k_min] at hww
        refine lv_iload hx hb dX0_least_44 (lv_at hl 4 rfl) ?_
        refine lv_iconst (v := 1) hx hb dX0_least_46 (by decide) ?_
        refine lv_iadd hx hb dX0_least_47 ?_
        refine x_topi (y := nI (d + 1)) (nI_1 d) ?_
        refine g_calli ⟨hx, hb, hml, hown, hw⟩ (hs H.size sv fC rs dk ds fL fl2 fh2 (gtg fT n j) (d + 1) al wbb_4 hrc (by simp only [grk]; omega) (by simp only [grk]; omega) (by omega) hbd) (cwV 4 hw gv_X0_X0_search rfl rfl rfl (by decide +kernel) ⟨Nat.le_trans (by show 2 * k + 1 ≤ 2 * k + 1; omega) hR1, Nat.le_trans (by show 8 + (6 + 11) + (56 * k) ≤ 56 * k + 28; omega) hR2⟩) hK hP hD hS hA (ci := 0) (q0 := 0) rfl rfl rfl hl.1 rfl (Nat.le_of_ble_eq_true rfl) dX0_least_48 ⟨Nat.zero_le _, Nat.zero_le _⟩ (fun rbb_5 un H locs hq hP hD hS => ?_)
        obtain ⟨fl3, fh3, hbd3, hok, rfl⟩ := hq
        have hP : va_P (dC, dI) vwCl (gw ad cz ci cj ((nI c0), fO, fA, fB, fT, sv, fC, rs, dk, ds, fL, fl3, fh3)) H := hP
        have hD : va_D Ar (gw ad cz ci cj ((nI c0), fO, fA, fB, fT, sv, fC, rs, dk, ds, fL, fl3, fh3)) := hD
        refine va_mmin hx hb (hml.trans hl.1.symm) hown (hw _ m_7_38) (hw _ m_7_39) (hw _ m_1_3) (hw _ m_8_0) (Nat.le_trans (by show 1 ≤ 2 * k + 1; omega) hR1) (Nat.le_trans (by show 0 + 13 ≤ 56 * k + 28; omega) hR2) (Nat.zero_le _) (Nat.zero_le _) dX0_least_51 ?_
        refine lv_topi (fun fbb_6 efbb_6 => ?_)
        refine lv_istore (lv' := [(5, .int fbb_6), (0, .ref (ad 0)), (1, .int (nI n)), (2, .int al), (3, .int be), (4, .int (nI d)), (6, .int (nI (gmv fO fA fB n))), (7, .int (nI j))]) hx hb dX0_least_54 hl (by decide) rfl (fun ls hl => ?_)
        refine lv_iinc (v := (nI (j + 1))) (lv' := [(7, .int (nI (j + 1))), (5, .int fbb_6), (0, .ref (ad 0)), (1, .int (nI n)), (2, .int al), (3, .int be), (4, .int (nI d)), (6, .int (nI (gmv fO fA fB n)))]) hx hb dX0_least_56 hl (k := 7) rfl (nI_1 j) (by decide) rfl (fun ls hl => ?_)
        refine lv_goto (tgt := 14) hx hb dX0_least_59 (by decide) ?_
        exact ih (j + 1) fbb_6 fl3 fh3 (by omega) (by omega) (by rw [efbb_6, k_min]; rw [hww] at hok; exact w_ok_mn hI hw1 hfb hok) hbd3 _ _ hP hD hS _ (lv_sub hl [2, 3, 4, 5, 6, 1, 7, 0] rfl)
set_option maxHeartbeats 4000000 in
set_option maxRecDepth 100000 in
theorem c_least (l : Launch) (dC : Nat → ClassId) (dI : Nat → Nat → Nat) (ad : Nat → Nat) (cz ci cj : ClassId) (c0 : Nat) (fO fA fB fT : Nat → Int32) (hg : g_ok c0 fO fA fB fT) (hnd : g_nd c0 fO fA fB fT) (k : Nat) (hs : M_srch l dC dI ad cz ci cj c0 fO fA fB fT k) : M_pick yX0_least wX0_least false l dC dI ad cz ci cj c0 fO fA fB fT k := by
  intro sz sv fC rs dk ds fL fl fh n d al be hre hrk hd hw1 hbd hO hf
  refine Met.ofW (cc := cX0_least) (maxL := 8) (ret := some .int) (by decide) rfl ?_
  intro p e s m args below meth c s₁ Bd hml hv
  obtain ⟨rfl, hsz, hP, hK, hD0⟩ := hv
  have hx := Bd.exec
  have hb := Bd.bytes
  have hr := Bd.returns
  have hts := atoms_spec (ws := wX0_least) Bd.pre
  have hw : ∀ w ∈ wAll, w.before _ s = true := fun w h => hts w (List.mem_cons_of_mem _ h)
  have hown : s.vm.findClass "GameGraph" = some m.cls := findClass_of_methodNamed Bd.named
  have hlocks := Bd.notSynchronized
  subst hsz
  have hD := hD0.self (sz := s.heap.size)
  generalize hAe : va_A (gw ad cz ci cj ((nI c0), fO, fA, fB, fT, sv, fC, rs, dk, ds, fL, fl, fh)) s.heap.size = Ar at hD ⊢
  have hA : ∀ q : Nat, s.heap.size ≤ q → Ar q := fun q h => by rw [← hAe]; exact Or.inr h
  obtain ⟨H, hH⟩ : ∃ H : Heap, H = s.heap := ⟨_, rfl⟩
  have hS : va_S Ar s.heap H [] := by rw [hH]; exact va_S.rf
  have hP : va_P (dC, dI) vwCl (gw ad cz ci cj ((nI c0), fO, fA, fB, fT, sv, fC, rs, dk, ds, fL, fl, fh)) H := by rw [hH]; exact hP
  rw [← hH]
  have hl := lv_entry ([.ref (ad 0), .int (nI n), .int al, .int be, .int (nI d)]) (n := 8) (Nat.le_of_ble_eq_true rfl)
  rw [lg_entry_eq]
  generalize (lg_sl ([.ref (ad 0), .int (nI n), .int al, .int be, .int (nI d)]) ++ List.replicate (8 - (lg_sl ([.ref (ad 0), .int (nI n), .int al, .int be, .int (nI d)])).length) Slot.unset).toArray = ls at hl ⊢
  have hl : lv_has ls 8 [(0, .ref (ad 0)), (1, .int (nI n)), (2, .int al), (3, .int be), (4, .int (nI d))] := hl
  have h60 := hg.2.1
  have hnl := s_re_lt (g_sok hg) hre
  refine lv_bipush (v := 100) hx hb dX0_least_0 (by decide) ?_
  refine lv_istore (lv' := [(5, .int 100), (0, .ref (ad 0)), (1, .int (nI n)), (2, .int al), (3, .int be), (4, .int (nI d))]) hx hb dX0_least_2 hl (by decide) rfl (fun ls hl => ?_)
  refine lv_aload_n hx hb dX0_least_4 rfl (lv_at hl 1 rfl) ?_
  refine lv_iload_n hx hb dX0_least_5 rfl (lv_at hl 2 rfl) ?_
  refine g_calli ⟨hx, hb, hml, hown, hw⟩ (c_X0_jointMoves l dC dI ad cz ci cj H.size (nI c0) fO fA fB fT sv fC rs dk ds fL fl fh n (by omega)) (cwV 1 hw gv_X0_X0_jointMoves rfl rfl rfl (by decide +kernel) ⟨by show 0 + 1 ≤ 2 * k + 1; omega, by show 8 + (2 + 11) + 0 ≤ 56 * k + 28; omega⟩) hK hP hD hS hA (ci := 0) (q0 := 0) rfl rfl rfl hl.1 rfl (Nat.le_of_ble_eq_true rfl) dX0_least_6 ⟨Nat.zero_le _, Nat.zero_le _⟩ (fun r_1 un H locs hq hP hD hS => ?_)
  obtain ⟨rfl, hq⟩ := hq
  have hP : va_P (dC, dI) vwCl (gw ad cz ci cj ((nI c0), fO, fA, fB, fT, sv, fC, rs, dk, ds, fL, fl, fh)) H := hP
  have hD : va_D Ar (gw ad cz ci cj ((nI c0), fO, fA, fB, fT, sv, fC, rs, dk, ds, fL, fl, fh)) := hD
  refine x_topi (y := nI (gmv fO fA fB n)) (by rw [hq]; exact (g_mvI hg hnl).1) ?_
  refine lv_istore (lv' := [(6, .int (nI (gmv fO fA fB n))), (5, .int 100), (0, .ref (ad 0)), (1, .int (nI n)), (2, .int al), (3, .int be), (4, .int (nI d))]) hx hb dX0_least_9 hl (by decide) rfl (fun ls hl => ?_)
  refine lv_iconst (v := 0) hx hb dX0_least_11 (by decide) ?_
  refine x_topi (y := nI 0) (rfl) ?_
  refine lv_istore (lv' := [(7, .int (nI 0)), (6, .int (nI (gmv fO fA fB n))), (5, .int 100), (0, .ref (ad 0)), (1, .int (nI n)), (2, .int al), (3, .int be), (4, .int (nI d))]) hx hb dX0_least_12 hl (by decide) rfl (fun ls hl => ?_)
  refine lp_least (dC := dC) (dI := dI) (ad := ad) (cz := cz) (ci := ci) (cj := cj) (Ar := Ar) hx hb hml hown hw hK hA (Nat.le_refl _) (Nat.le_refl _) fO fA fB fT sv fC rs dk ds fL c0 hg hnd hs n d al be hre hrk hd hw1 hO hf ?_ (gmv fO fA fB n + 1) 0 100 fl fh (by omega) (by omega) (w_ok_rf _ _ _) hbd _ _ hP hD hS _ (lv_sub hl [3, 4, 5, 6, 7, 2, 1, 0] rfl)
  intro f fl2 fh2 hI hbd H locs hP hD hS ls hl
  refine lv_iload hx hb dX0_least_62 (lv_at hl 0 rfl) ?_
  exact W.iret (v := f) hx hb hr (fun t ht hW => ⟨⟨f, ((nI c0), fO, fA, fB, fT, sv, fC, rs, dk, ds, fL, fl2, fh2), rfl, (⟨fl2, fh2, hbd, hI, rfl⟩), (by rw [ht]; exact hP), va_K.moved hW.alike hK, hD⟩, hS.F ht⟩) hS.2.2 dX0_least_64
set_option maxHeartbeats 4000000 in
set_option maxRecDepth 100000 in
theorem c_search1 (l : Launch) (dC : Nat → ClassId) (dI : Nat → Nat → Nat) (ad : Nat → Nat) (cz ci cj : ClassId) (c0 : Nat) (fO fA fB fT : Nat → Int32) (hg : g_ok c0 fO fA fB fT) (hnd : g_nd c0 fO fA fB fT) (k : Nat) (hg2 : M_pick yX0_greatest wX0_greatest true l dC dI ad cz ci cj c0 fO fA fB fT k) (hl2 : M_pick yX0_least wX0_least false l dC dI ad cz ci cj c0 fO fA fB fT k) : M_srch l dC dI ad cz ci cj c0 fO fA fB fT (k + 1) := by
  intro sz sv fC rs dk ds fL fl fh n d al be hre hrk hd hw1 hbd
  refine Met.ofW (cc := cX0_search) (maxL := 6) (ret := some .int) (by decide) rfl ?_
  intro p e s m args below meth c s₁ Bd hml hv
  obtain ⟨rfl, hsz, hP, hK, hD0⟩ := hv
  have hx := Bd.exec
  have hb := Bd.bytes
  have hr := Bd.returns
  have hts := atoms_spec (ws := wX0_search) Bd.pre
  have hw : ∀ w ∈ wAll, w.before _ s = true := fun w h => hts w (List.mem_cons_of_mem _ h)
  have hown : s.vm.findClass "GameGraph" = some m.cls := findClass_of_methodNamed Bd.named
  have hlocks := Bd.notSynchronized
  subst hsz
  have hD := hD0.self (sz := s.heap.size)
  generalize hAe : va_A (gw ad cz ci cj ((nI c0), fO, fA, fB, fT, sv, fC, rs, dk, ds, fL, fl, fh)) s.heap.size = Ar at hD ⊢
  have hA : ∀ q : Nat, s.heap.size ≤ q → Ar q := fun q h => by rw [← hAe]; exact Or.inr h
  obtain ⟨H, hH⟩ : ∃ H : Heap, H = s.heap := ⟨_, rfl⟩
  have hS : va_S Ar s.heap H [] := by rw [hH]; exact va_S.rf
  have hP : va_P (dC, dI) vwCl (gw ad cz ci cj ((nI c0), fO, fA, fB, fT, sv, fC, rs, dk, ds, fL, fl, fh)) H := by rw [hH]; exact hP
  rw [← hH]
  have hl := lv_entry ([.ref (ad 0), .int (nI n), .int al, .int be, .int (nI d)]) (n := 6) (Nat.le_of_ble_eq_true rfl)
  rw [lg_entry_eq]
  generalize (lg_sl ([.ref (ad 0), .int (nI n), .int al, .int be, .int (nI d)]) ++ List.replicate (6 - (lg_sl ([.ref (ad 0), .int (nI n), .int al, .int be, .int (nI d)])).length) Slot.unset).toArray = ls at hl ⊢
  have hl : lv_has ls 6 [(0, .ref (ad 0)), (1, .int (nI n)), (2, .int al), (3, .int be), (4, .int (nI d))] := hl
  have h60 := hg.2.1
  have hnl := s_re_lt (g_sok hg) hre
  obtain ⟨b1, b2, b3⟩ := hbd n hre
  refine lv_aload_n hx hb dX0_search_0 rfl (lv_at hl 0 rfl) ?_
  refine va_get (D := (dC, dI)) (ci := 0) (v := .ref (ad 7)) (C := RX0) (T := TX0) (N := 13) hx hb hw in_X0 hown hK hP 0 rfl rfl 11 (by decide) (hw _ m_1_29) (fun _ h9 => h9) rfl dX0_search_1 ?_
  refine lv_iload_n hx hb dX0_search_4 rfl (lv_at hl 1 rfl) ?_
  refine va_iald hx hb hK hP 7 1 rfl rfl (vp_in_nI (by omega) (by decide)) dX0_search_5 ?_
  refine x_topi (y := fl n) (by rw [nI_clamp (by omega)]) ?_
  refine lv_aload_n hx hb dX0_search_6 rfl (lv_at hl 0 rfl) ?_
  refine va_get (D := (dC, dI)) (ci := 0) (v := .ref (ad 8)) (C := RX0) (T := TX0) (N := 13) hx hb hw in_X0 hown hK hP 0 rfl rfl 12 (by decide) (hw _ m_1_30) (fun _ h9 => h9) rfl dX0_search_7 ?_
  refine lv_iload_n hx hb dX0_search_10 rfl (lv_at hl 1 rfl) ?_
  refine va_iald hx hb hK hP 8 1 rfl rfl (vp_in_nI (by omega) (by decide)) dX0_search_11 ?_
  refine x_topi (y := fh n) (by rw [nI_clamp (by omega)]) ?_
  refine lv_icmp_eq (tgt := 25) hx hb dX0_search_12 (by decide) (fun c_1 => ?_) (fun c_1 => ?_)
  · refine lv_aload_n hx hb dX0_search_25 rfl (lv_at hl 0 rfl) ?_
    refine va_get (D := (dC, dI)) (ci := 0) (v := .ref (ad 7)) (C := RX0) (T := TX0) (N := 13) hx hb hw in_X0 hown hK hP 0 rfl rfl 11 (by decide) (hw _ m_1_29) (fun _ h9 => h9) rfl dX0_search_26 ?_
    refine lv_iload_n hx hb dX0_search_29 rfl (lv_at hl 1 rfl) ?_
    refine va_iald hx hb hK hP 7 1 rfl rfl (vp_in_nI (by omega) (by decide)) dX0_search_30 ?_
    refine x_topi (y := fl n) (by rw [nI_clamp (by omega)]) ?_
    have e1 := congrArg Int32.toInt c_1
    exact W.iret (v := (fl n)) hx hb hr (fun t ht hW => ⟨⟨(fl n), ((nI c0), fO, fA, fB, fT, sv, fC, rs, dk, ds, fL, fl, fh), rfl, (⟨fl, fh, hbd, by rw [show (fl n).toInt = gval c0 fO fA fB fT n by omega]; exact w_ok_rf _ _ _, rfl⟩), (by rw [ht]; exact hP), va_K.moved hW.alike hK, hD⟩, hS.F ht⟩) hS.2.2 dX0_search_31
  · have hO : ¬ fO n = 0 := fun q => c_1 (b3 q)
    refine lv_aload_n hx hb dX0_search_15 rfl (lv_at hl 0 rfl) ?_
    refine va_get (D := (dC, dI)) (ci := 0) (v := .ref (ad 7)) (C := RX0) (T := TX0) (N := 13) hx hb hw in_X0 hown hK hP 0 rfl rfl 11 (by decide) (hw _ m_1_29) (fun _ h9 => h9) rfl dX0_search_16 ?_
    refine lv_iload_n hx hb dX0_search_19 rfl (lv_at hl 1 rfl) ?_
    refine va_iald hx hb hK hP 7 1 rfl rfl (vp_in_nI (by omega) (by decide)) dX0_search_20 ?_
    refine x_topi (y := fl n) (by rw [nI_clamp (by omega)]) ?_
    refine lv_iload_n hx hb dX0_search_21 rfl (lv_at hl 3 rfl) ?_
    refine lv_icmp_lt (tgt := 32) hx hb dX0_search_22 (by decide) (fun cb_2 => ?_) (fun cb_2 => ?_)
    · refine lv_aload_n hx hb dX0_search_32 rfl (lv_at hl 0 rfl) ?_
      refine va_get (D := (dC, dI)) (ci := 0) (v := .ref (ad 8)) (C := RX0) (T := TX0) (N := 13) hx hb hw in_X0 hown hK hP 0 rfl rfl 12 (by decide) (hw _ m_1_30) (fun _ h9 => h9) rfl dX0_search_33 ?_
      refine lv_iload_n hx hb dX0_search_36 rfl (lv_at hl 1 rfl) ?_
      refine va_iald hx hb hK hP 8 1 rfl rfl (vp_in_nI (by omega) (by decide)) dX0_search_37 ?_
      refine x_topi (y := fh n) (by rw [nI_clamp (by omega)]) ?_
      refine lv_iload_n hx hb dX0_search_38 rfl (lv_at hl 2 rfl) ?_
      refine lv_icmp_le (tgt := 51) hx hb dX0_search_39 (by decide) (fun cba_3 => ?_) (fun cba_3 => ?_)
      · have e3 := k_il cba_3
        refine lv_aload_n hx hb dX0_search_51 rfl (lv_at hl 0 rfl) ?_
        refine va_get (D := (dC, dI)) (ci := 0) (v := .ref (ad 8)) (C := RX0) (T := TX0) (N := 13) hx hb hw in_X0 hown hK hP 0 rfl rfl 12 (by decide) (hw _ m_1_30) (fun _ h9 => h9) rfl dX0_search_52 ?_
        refine lv_iload_n hx hb dX0_search_55 rfl (lv_at hl 1 rfl) ?_
        refine va_iald hx hb hK hP 8 1 rfl rfl (vp_in_nI (by omega) (by decide)) dX0_search_56 ?_
        refine x_topi (y := fh n) (by rw [nI_clamp (by omega)]) ?_
        exact W.iret (v := (fh n)) hx hb hr (fun t ht hW => ⟨⟨(fh n), ((nI c0), fO, fA, fB, fT, sv, fC, rs, dk, ds, fL, fl, fh), rfl, (⟨fl, fh, hbd, ⟨fun q => ⟨b2, e3⟩, fun q _ => (by omega), fun q => (by omega)⟩, rfl⟩), (by rw [ht]; exact hP), va_K.moved hW.alike hK, hD⟩, hS.F ht⟩) hS.2.2 dX0_search_57
      · have hdl : nI d < nI c0 := nI_lt (by simp only [grk] at hd; omega) (by omega)
        refine lv_iload hx hb dX0_search_42 (lv_at hl 4 rfl) ?_
        refine lv_aload_n hx hb dX0_search_44 rfl (lv_at hl 0 rfl) ?_
        refine va_get (D := (dC, dI)) (ci := 0) (v := .int (nI c0)) (C := RX0) (T := TX0) (N := 13) hx hb hw in_X0 hown hK hP 0 rfl rfl 0 (by decide) (hw _ m_1_18) (fun _ h9 => h9) rfl dX0_search_45 ?_
        refine lv_icmp_lt (tgt := 58) hx hb dX0_search_48 (by decide) (fun cbab_4 => ?_) (fun cbab_4 => ?_)
        · refine lv_aload_n hx hb dX0_search_58 rfl (lv_at hl 0 rfl) ?_
          refine va_get (D := (dC, dI)) (ci := 0) (v := .ref (ad 2)) (C := RX0) (T := TX0) (N := 13) hx hb hw in_X0 hown hK hP 0 rfl rfl 2 (by decide) (hw _ m_1_20) (fun _ h9 => h9) rfl dX0_search_59 ?_
          refine lv_iload_n hx hb dX0_search_62 rfl (lv_at hl 1 rfl) ?_
          refine va_iald hx hb hK hP 2 1 rfl rfl (vp_in_nI (by omega) (by decide)) dX0_search_63 ?_
          refine x_topi (y := fA n) (by rw [nI_clamp (by omega)]) ?_
          refine lv_iconst (v := 1) hx hb dX0_search_64 (by decide) ?_
          refine lv_icmp_le (tgt := 80) hx hb dX0_search_65 (by decide) (fun cbaba_5 => ?_) (fun cbaba_5 => ?_)
          · refine lv_aload_n hx hb dX0_search_80 rfl (lv_at hl 0 rfl) ?_
            refine lv_iload_n hx hb dX0_search_81 rfl (lv_at hl 1 rfl) ?_
            refine lv_iload_n hx hb dX0_search_82 rfl (lv_at hl 2 rfl) ?_
            refine lv_iload_n hx hb dX0_search_83 rfl (lv_at hl 3 rfl) ?_
            refine lv_iload hx hb dX0_search_84 (lv_at hl 4 rfl) ?_
            refine g_calli ⟨hx, hb, hml, hown, hw⟩ (hl2 H.size sv fC rs dk ds fL fl fh n d al be hre hrk hd hw1 hbd hO (by unfold gfi; rw [decide_eq_false_iff_not]; exact fun q => k_ltle cbaba_5 q)) (cwV 4 hw gv_X0_X0_least rfl rfl rfl (by decide +kernel) ⟨by show 2 * k + 1 + 1 ≤ 2 * (k + 1); omega, by show 8 + (8 + 11) + (56 * k + 28) ≤ 56 * (k + 1); omega⟩) hK hP hD hS hA (ci := 0) (q0 := 0) rfl rfl rfl hl.1 rfl (Nat.le_of_ble_eq_true rfl) dX0_search_86 ⟨Nat.zero_le _, Nat.zero_le _⟩ (fun rbabaa_6 un H locs hq hP hD hS => ?_)
            obtain ⟨fl3, fh3, hbd3, hok, rfl⟩ := hq
            have hP : va_P (dC, dI) vwCl (gw ad cz ci cj ((nI c0), fO, fA, fB, fT, sv, fC, rs, dk, ds, fL, fl3, fh3)) H := hP
            have hD : va_D Ar (gw ad cz ci cj ((nI c0), fO, fA, fB, fT, sv, fC, rs, dk, ds, fL, fl3, fh3)) := hD
            refine lv_istore (lv' := [(5, .int rbabaa_6), (0, .ref (ad 0)), (1, .int (nI n)), (2, .int al), (3, .int be), (4, .int (nI d))]) hx hb dX0_search_89 hl (by decide) rfl (fun ls hl => ?_)
            refine lv_iload hx hb dX0_search_91 (lv_at hl 0 rfl) ?_
            refine lv_iload_n hx hb dX0_search_93 rfl (lv_at hl 3 rfl) ?_
            refine lv_icmp_le (tgt := 105) hx hb dX0_search_94 (by decide) (fun cbabaa_7 => ?_) (fun cbabaa_7 => ?_)
            · refine lv_iload hx hb dX0_search_105 (lv_at hl 0 rfl) ?_
              refine lv_iload_n hx hb dX0_search_107 rfl (lv_at hl 4 rfl) ?_
              refine lv_icmp_ge (tgt := 119) hx hb dX0_search_108 (by decide) (fun cbabaaa_8 => ?_) (fun cbabaaa_8 => ?_)
              · refine lv_iload hx hb dX0_search_119 (lv_at hl 0 rfl) ?_
                exact W.iret (v := rbabaa_6) hx hb hr (fun t ht hW => ⟨⟨rbabaa_6, ((nI c0), fO, fA, fB, fT, sv, fC, rs, dk, ds, fL, fl3, fh3), rfl, (⟨_, _, hbd3, hok, rfl⟩), (by rw [ht]; exact hP), va_K.moved hW.alike hK, hD⟩, hS.F ht⟩) hS.2.2 dX0_search_121
              · have hbd3 := k_hi hbd3 hO (w_ok_hi hok hw1 (k_nil cbabaaa_8))
                refine lv_aload_n hx hb dX0_search_111 rfl (lv_at hl 1 rfl) ?_
                refine va_get (D := (dC, dI)) (ci := 0) (v := .ref (ad 8)) (C := RX0) (T := TX0) (N := 13) hx hb hw in_X0 hown hK hP 0 rfl rfl 12 (by decide) (hw _ m_1_30) (fun _ h9 => h9) rfl dX0_search_112 ?_
                refine lv_iload_n hx hb dX0_search_115 rfl (lv_at hl 2 rfl) ?_
                refine lv_iload hx hb dX0_search_116 (lv_at hl 0 rfl) ?_
                refine va_iast hx hb hK hP hD hS 8 1 rfl rfl (vp_in_nI (by omega) (by decide)) dX0_search_118 (fun H locs hP hD hS => ?_)
                rw [nI_clamp (by omega)] at hP hD
                have hP : va_P (dC, dI) vwCl (gw ad cz ci cj ((nI c0), fO, fA, fB, fT, sv, fC, rs, dk, ds, fL, fl3, (upd fh3 n rbabaa_6))) H := hP
                have hD : va_D Ar (gw ad cz ci cj ((nI c0), fO, fA, fB, fT, sv, fC, rs, dk, ds, fL, fl3, (upd fh3 n rbabaa_6))) := hD
                refine lv_iload hx hb dX0_search_119 (lv_at hl 0 rfl) ?_
                exact W.iret (v := rbabaa_6) hx hb hr (fun t ht hW => ⟨⟨rbabaa_6, ((nI c0), fO, fA, fB, fT, sv, fC, rs, dk, ds, fL, fl3, (upd fh3 n rbabaa_6)), rfl, (⟨_, _, hbd3, hok, rfl⟩), (by rw [ht]; exact hP), va_K.moved hW.alike hK, hD⟩, hS.F ht⟩) hS.2.2 dX0_search_121
            · have hbd3 := k_lo hbd3 hO (w_ok_lo hok hw1 (k_nil cbabaa_7))
              refine lv_aload_n hx hb dX0_search_97 rfl (lv_at hl 1 rfl) ?_
              refine va_get (D := (dC, dI)) (ci := 0) (v := .ref (ad 7)) (C := RX0) (T := TX0) (N := 13) hx hb hw in_X0 hown hK hP 0 rfl rfl 11 (by decide) (hw _ m_1_29) (fun _ h9 => h9) rfl dX0_search_98 ?_
              refine lv_iload_n hx hb dX0_search_101 rfl (lv_at hl 2 rfl) ?_
              refine lv_iload hx hb dX0_search_102 (lv_at hl 0 rfl) ?_
              refine va_iast hx hb hK hP hD hS 7 1 rfl rfl (vp_in_nI (by omega) (by decide)) dX0_search_104 (fun H locs hP hD hS => ?_)
              rw [nI_clamp (by omega)] at hP hD
              have hP : va_P (dC, dI) vwCl (gw ad cz ci cj ((nI c0), fO, fA, fB, fT, sv, fC, rs, dk, ds, fL, (upd fl3 n rbabaa_6), fh3)) H := hP
              have hD : va_D Ar (gw ad cz ci cj ((nI c0), fO, fA, fB, fT, sv, fC, rs, dk, ds, fL, (upd fl3 n rbabaa_6), fh3)) := hD
              refine lv_iload hx hb dX0_search_105 (lv_at hl 0 rfl) ?_
              refine lv_iload_n hx hb dX0_search_107 rfl (lv_at hl 4 rfl) ?_
              refine lv_icmp_ge (tgt := 119) hx hb dX0_search_108 (by decide) (fun cbabaab_8 => ?_) (fun cbabaab_8 => ?_)
              · refine lv_iload hx hb dX0_search_119 (lv_at hl 0 rfl) ?_
                exact W.iret (v := rbabaa_6) hx hb hr (fun t ht hW => ⟨⟨rbabaa_6, ((nI c0), fO, fA, fB, fT, sv, fC, rs, dk, ds, fL, (upd fl3 n rbabaa_6), fh3), rfl, (⟨_, _, hbd3, hok, rfl⟩), (by rw [ht]; exact hP), va_K.moved hW.alike hK, hD⟩, hS.F ht⟩) hS.2.2 dX0_search_121
              · have hbd3 := k_hi hbd3 hO (w_ok_hi hok hw1 (k_nil cbabaab_8))
                refine lv_aload_n hx hb dX0_search_111 rfl (lv_at hl 1 rfl) ?_
                refine va_get (D := (dC, dI)) (ci := 0) (v := .ref (ad 8)) (C := RX0) (T := TX0) (N := 13) hx hb hw in_X0 hown hK hP 0 rfl rfl 12 (by decide) (hw _ m_1_30) (fun _ h9 => h9) rfl dX0_search_112 ?_
                refine lv_iload_n hx hb dX0_search_115 rfl (lv_at hl 2 rfl) ?_
                refine lv_iload hx hb dX0_search_116 (lv_at hl 0 rfl) ?_
                refine va_iast hx hb hK hP hD hS 8 1 rfl rfl (vp_in_nI (by omega) (by decide)) dX0_search_118 (fun H locs hP hD hS => ?_)
                rw [nI_clamp (by omega)] at hP hD
                have hP : va_P (dC, dI) vwCl (gw ad cz ci cj ((nI c0), fO, fA, fB, fT, sv, fC, rs, dk, ds, fL, (upd fl3 n rbabaa_6), (upd fh3 n rbabaa_6))) H := hP
                have hD : va_D Ar (gw ad cz ci cj ((nI c0), fO, fA, fB, fT, sv, fC, rs, dk, ds, fL, (upd fl3 n rbabaa_6), (upd fh3 n rbabaa_6))) := hD
                refine lv_iload hx hb dX0_search_119 (lv_at hl 0 rfl) ?_
                exact W.iret (v := rbabaa_6) hx hb hr (fun t ht hW => ⟨⟨rbabaa_6, ((nI c0), fO, fA, fB, fT, sv, fC, rs, dk, ds, fL, (upd fl3 n rbabaa_6), (upd fh3 n rbabaa_6)), rfl, (⟨_, _, hbd3, hok, rfl⟩), (by rw [ht]; exact hP), va_K.moved hW.alike hK, hD⟩, hS.F ht⟩) hS.2.2 dX0_search_121
          · refine lv_aload_n hx hb dX0_search_68 rfl (lv_at hl 0 rfl) ?_
            refine lv_iload_n hx hb dX0_search_69 rfl (lv_at hl 1 rfl) ?_
            refine lv_iload_n hx hb dX0_search_70 rfl (lv_at hl 2 rfl) ?_
            refine lv_iload_n hx hb dX0_search_71 rfl (lv_at hl 3 rfl) ?_
            refine lv_iload hx hb dX0_search_72 (lv_at hl 4 rfl) ?_
            refine g_calli ⟨hx, hb, hml, hown, hw⟩ (hg2 H.size sv fC rs dk ds fL fl fh n d al be hre hrk hd hw1 hbd hO (by unfold gfi; rw [decide_eq_true_eq]; exact k_nle cbaba_5)) (cwV 4 hw gv_X0_X0_greatest rfl rfl rfl (by decide +kernel) ⟨by show 2 * k + 1 + 1 ≤ 2 * (k + 1); omega, by show 8 + (8 + 11) + (56 * k + 28) ≤ 56 * (k + 1); omega⟩) hK hP hD hS hA (ci := 0) (q0 := 0) rfl rfl rfl hl.1 rfl (Nat.le_of_ble_eq_true rfl) dX0_search_74 ⟨Nat.zero_le _, Nat.zero_le _⟩ (fun rbabab_6 un H locs hq hP hD hS => ?_)
            obtain ⟨fl3, fh3, hbd3, hok, rfl⟩ := hq
            have hP : va_P (dC, dI) vwCl (gw ad cz ci cj ((nI c0), fO, fA, fB, fT, sv, fC, rs, dk, ds, fL, fl3, fh3)) H := hP
            have hD : va_D Ar (gw ad cz ci cj ((nI c0), fO, fA, fB, fT, sv, fC, rs, dk, ds, fL, fl3, fh3)) := hD
            refine lv_goto (tgt := 89) hx hb dX0_search_77 (by decide) ?_
            refine lv_istore (lv' := [(5, .int rbabab_6), (0, .ref (ad 0)), (1, .int (nI n)), (2, .int al), (3, .int be), (4, .int (nI d))]) hx hb dX0_search_89 hl (by decide) rfl (fun ls hl => ?_)
            refine lv_iload hx hb dX0_search_91 (lv_at hl 0 rfl) ?_
            refine lv_iload_n hx hb dX0_search_93 rfl (lv_at hl 3 rfl) ?_
            refine lv_icmp_le (tgt := 105) hx hb dX0_search_94 (by decide) (fun cbabab_7 => ?_) (fun cbabab_7 => ?_)
            · refine lv_iload hx hb dX0_search_105 (lv_at hl 0 rfl) ?_
              refine lv_iload_n hx hb dX0_search_107 rfl (lv_at hl 4 rfl) ?_
              refine lv_icmp_ge (tgt := 119) hx hb dX0_search_108 (by decide) (fun cbababa_8 => ?_) (fun cbababa_8 => ?_)
              · refine lv_iload hx hb dX0_search_119 (lv_at hl 0 rfl) ?_
                exact W.iret (v := rbabab_6) hx hb hr (fun t ht hW => ⟨⟨rbabab_6, ((nI c0), fO, fA, fB, fT, sv, fC, rs, dk, ds, fL, fl3, fh3), rfl, (⟨_, _, hbd3, hok, rfl⟩), (by rw [ht]; exact hP), va_K.moved hW.alike hK, hD⟩, hS.F ht⟩) hS.2.2 dX0_search_121
              · have hbd3 := k_hi hbd3 hO (w_ok_hi hok hw1 (k_nil cbababa_8))
                refine lv_aload_n hx hb dX0_search_111 rfl (lv_at hl 1 rfl) ?_
                refine va_get (D := (dC, dI)) (ci := 0) (v := .ref (ad 8)) (C := RX0) (T := TX0) (N := 13) hx hb hw in_X0 hown hK hP 0 rfl rfl 12 (by decide) (hw _ m_1_30) (fun _ h9 => h9) rfl dX0_search_112 ?_
                refine lv_iload_n hx hb dX0_search_115 rfl (lv_at hl 2 rfl) ?_
                refine lv_iload hx hb dX0_search_116 (lv_at hl 0 rfl) ?_
                refine va_iast hx hb hK hP hD hS 8 1 rfl rfl (vp_in_nI (by omega) (by decide)) dX0_search_118 (fun H locs hP hD hS => ?_)
                rw [nI_clamp (by omega)] at hP hD
                have hP : va_P (dC, dI) vwCl (gw ad cz ci cj ((nI c0), fO, fA, fB, fT, sv, fC, rs, dk, ds, fL, fl3, (upd fh3 n rbabab_6))) H := hP
                have hD : va_D Ar (gw ad cz ci cj ((nI c0), fO, fA, fB, fT, sv, fC, rs, dk, ds, fL, fl3, (upd fh3 n rbabab_6))) := hD
                refine lv_iload hx hb dX0_search_119 (lv_at hl 0 rfl) ?_
                exact W.iret (v := rbabab_6) hx hb hr (fun t ht hW => ⟨⟨rbabab_6, ((nI c0), fO, fA, fB, fT, sv, fC, rs, dk, ds, fL, fl3, (upd fh3 n rbabab_6)), rfl, (⟨_, _, hbd3, hok, rfl⟩), (by rw [ht]; exact hP), va_K.moved hW.alike hK, hD⟩, hS.F ht⟩) hS.2.2 dX0_search_121
            · have hbd3 := k_lo hbd3 hO (w_ok_lo hok hw1 (k_nil cbabab_7))
              refine lv_aload_n hx hb dX0_search_97 rfl (lv_at hl 1 rfl) ?_
              refine va_get (D := (dC, dI)) (ci := 0) (v := .ref (ad 7)) (C := RX0) (T := TX0) (N := 13) hx hb hw in_X0 hown hK hP 0 rfl rfl 11 (by decide) (hw _ m_1_29) (fun _ h9 => h9) rfl dX0_search_98 ?_
              refine lv_iload_n hx hb dX0_search_101 rfl (lv_at hl 2 rfl) ?_
              refine lv_iload hx hb dX0_search_102 (lv_at hl 0 rfl) ?_
              refine va_iast hx hb hK hP hD hS 7 1 rfl rfl (vp_in_nI (by omega) (by decide)) dX0_search_104 (fun H locs hP hD hS => ?_)
              rw [nI_clamp (by omega)] at hP hD
              have hP : va_P (dC, dI) vwCl (gw ad cz ci cj ((nI c0), fO, fA, fB, fT, sv, fC, rs, dk, ds, fL, (upd fl3 n rbabab_6), fh3)) H := hP
              have hD : va_D Ar (gw ad cz ci cj ((nI c0), fO, fA, fB, fT, sv, fC, rs, dk, ds, fL, (upd fl3 n rbabab_6), fh3)) := hD
              refine lv_iload hx hb dX0_search_105 (lv_at hl 0 rfl) ?_
              refine lv_iload_n hx hb dX0_search_107 rfl (lv_at hl 4 rfl) ?_
              refine lv_icmp_ge (tgt := 119) hx hb dX0_search_108 (by decide) (fun cbababb_8 => ?_) (fun cbababb_8 => ?_)
              · refine lv_iload hx hb dX0_search_119 (lv_at hl 0 rfl) ?_
                exact W.iret (v := rbabab_6) hx hb hr (fun t ht hW => ⟨⟨rbabab_6, ((nI c0), fO, fA, fB, fT, sv, fC, rs, dk, ds, fL, (upd fl3 n rbabab_6), fh3), rfl, (⟨_, _, hbd3, hok, rfl⟩), (by rw [ht]; exact hP), va_K.moved hW.alike hK, hD⟩, hS.F ht⟩) hS.2.2 dX0_search_121
              · have hbd3 := k_hi hbd3 hO (w_ok_hi hok hw1 (k_nil cbababb_8))
                refine lv_aload_n hx hb dX0_search_111 rfl (lv_at hl 1 rfl) ?_
                refine va_get (D := (dC, dI)) (ci := 0) (v := .ref (ad 8)) (C := RX0) (T := TX0) (N := 13) hx hb hw in_X0 hown hK hP 0 rfl rfl 12 (by decide) (hw _ m_1_30) (fun _ h9 => h9) rfl dX0_search_112 ?_
                refine lv_iload_n hx hb dX0_search_115 rfl (lv_at hl 2 rfl) ?_
                refine lv_iload hx hb dX0_search_116 (lv_at hl 0 rfl) ?_
                refine va_iast hx hb hK hP hD hS 8 1 rfl rfl (vp_in_nI (by omega) (by decide)) dX0_search_118 (fun H locs hP hD hS => ?_)
                rw [nI_clamp (by omega)] at hP hD
                have hP : va_P (dC, dI) vwCl (gw ad cz ci cj ((nI c0), fO, fA, fB, fT, sv, fC, rs, dk, ds, fL, (upd fl3 n rbabab_6), (upd fh3 n rbabab_6))) H := hP
                have hD : va_D Ar (gw ad cz ci cj ((nI c0), fO, fA, fB, fT, sv, fC, rs, dk, ds, fL, (upd fl3 n rbabab_6), (upd fh3 n rbabab_6))) := hD
                refine lv_iload hx hb dX0_search_119 (lv_at hl 0 rfl) ?_
                exact W.iret (v := rbabab_6) hx hb hr (fun t ht hW => ⟨⟨rbabab_6, ((nI c0), fO, fA, fB, fT, sv, fC, rs, dk, ds, fL, (upd fl3 n rbabab_6), (upd fh3 n rbabab_6)), rfl, (⟨_, _, hbd3, hok, rfl⟩), (by rw [ht]; exact hP), va_K.moved hW.alike hK, hD⟩, hS.F ht⟩) hS.2.2 dX0_search_121
        · exact absurd hdl cbab_4
    · have e2 := k_nit cb_2
      refine lv_aload_n hx hb dX0_search_25 rfl (lv_at hl 0 rfl) ?_
      refine va_get (D := (dC, dI)) (ci := 0) (v := .ref (ad 7)) (C := RX0) (T := TX0) (N := 13) hx hb hw in_X0 hown hK hP 0 rfl rfl 11 (by decide) (hw _ m_1_29) (fun _ h9 => h9) rfl dX0_search_26 ?_
      refine lv_iload_n hx hb dX0_search_29 rfl (lv_at hl 1 rfl) ?_
      refine va_iald hx hb hK hP 7 1 rfl rfl (vp_in_nI (by omega) (by decide)) dX0_search_30 ?_
      refine x_topi (y := fl n) (by rw [nI_clamp (by omega)]) ?_
      exact W.iret (v := (fl n)) hx hb hr (fun t ht hW => ⟨⟨(fl n), ((nI c0), fO, fA, fB, fT, sv, fC, rs, dk, ds, fL, fl, fh), rfl, (⟨fl, fh, hbd, ⟨fun q => (by omega), fun _ q => (by omega), fun _ => ⟨e2, b1⟩⟩, rfl⟩), (by rw [ht]; exact hP), va_K.moved hW.alike hK, hD⟩, hS.F ht⟩) hS.2.2 dX0_search_31
theorem c_search (l : Launch) (dC : Nat → ClassId) (dI : Nat → Nat → Nat) (ad : Nat → Nat) (cz ci cj : ClassId) (c0 : Nat) (fO fA fB fT : Nat → Int32) (hg : g_ok c0 fO fA fB fT) (hnd : g_nd c0 fO fA fB fT) : ∀ k, M_srch l dC dI ad cz ci cj c0 fO fA fB fT k
  | 0 => fun _ _ _ _ _ _ _ _ _ _ _ _ _ _ h => absurd h (Nat.not_lt_zero _)
  | k + 1 => c_search1 l dC dI ad cz ci cj c0 fO fA fB fT hg hnd k (c_greatest l dC dI ad cz ci cj c0 fO fA fB fT hg hnd k (c_search l dC dI ad cz ci cj c0 fO fA fB fT hg hnd k)) (c_least l dC dI ad cz ci cj c0 fO fA fB fT hg hnd k (c_search l dC dI ad cz ci cj c0 fO fA fB fT hg hnd k))
end
section
/-! Methods that may throw: what a throw needs is carried along (x_En); calls with the whole world. -/
def x_strs : List (String × Nat × String) := [("GameGraph", 42, "the number of states is not 1 .. 60"), ("GameGraph", 117, "there is no such state"), ("GameGraph", 54, "a goal is not -2 .. 100"), ("GameGraph", 63, "a number of moves is not 0 .. 12, or the product is above 12"), ("GameGraph", 123, "the state has no such joint move"), ("GameGraph", 90, "what is not 0 or 1"), ("GameGraph", 127, "the graph has a defect"), ("GameGraph", 134, "there is no such state, or it is not reached")]
def x_bad : List Cond := [Cond.castable "java/lang/IllegalArgumentException" "java/lang/IllegalArgumentException", Cond.castable "java/lang/IndexOutOfBoundsException" "java/lang/IndexOutOfBoundsException", Cond.castable "java/lang/IllegalStateException" "java/lang/IllegalStateException", Cond.declares ⟨"java/lang/RuntimeException", "<init>", "(Ljava/lang/String;)V"⟩, Cond.declares ⟨"java/lang/Exception", "<init>", "(Ljava/lang/String;)V"⟩, Cond.declares ⟨"java/lang/Throwable", "<init>", "(Ljava/lang/String;)V"⟩]
theorem x_bad_moved {u U : State} (hW : u.WarmedH U.vm) (h : ∀ w ∈ x_bad, va_Nw w u) : ∀ w ∈ x_bad, va_Nw w U := by
  intro w hw
  have h1 := h w hw
  simp only [x_bad, List.mem_cons, List.not_mem_nil, or_false] at hw
  rcases hw with rfl | rfl | rfl | rfl | rfl | rfl
  · exact va_Nw.warmC hW h1
  · exact va_Nw.warmC hW h1
  · exact va_Nw.warmC hW h1
  · exact va_Nw.warmD hW h1
  · exact va_Nw.warmD hW h1
  · exact va_Nw.warmD hW h1
theorem x_bad_ot : ∀ w ∈ x_bad, w.onTables = true := by decide +kernel
def x_En (A : Nat → Prop) (U : State) (H : Heap) : Prop := vx_Zq Bundle.tN "UNASSIGNED_STACK" Bundle.steD A U H ∧ vx_Zq Bundle.tN "SUPPRESSED_SENTINEL" Bundle.listD A U H ∧ (∀ w ∈ x_bad, va_Nw w U) ∧ ∀ p ∈ x_strs, ∃ q, vk_R p.1 p.2.1 p.2.2 q U
theorem x_En.next {A B : Nat → Prop} {s U : State} {H : Heap} {locs : List Loc} (h : x_En A s s.heap) (hS : va_S A s.heap H locs) (hW : s.WarmedH U.vm) (hAB : ∀ q, B q → A q) : x_En B U H := by
  obtain ⟨h1, h2, hb, h3⟩ := h
  refine ⟨((h1.moved hW.alike).kept (fun a ha hA => hS.2.1 a ha hA)).narrow hAB, ((h2.moved hW.alike).kept (fun a ha hA => hS.2.1 a ha hA)).narrow hAB, x_bad_moved hW hb, fun p hp => ?_⟩
  obtain ⟨q, hq⟩ := h3 p hp
  exact ⟨q, hq.warm hW⟩
abbrev x_Pre (D : va_G) (cl : List vw_C) (tys : List (ClassId × FieldType)) (w : va_W) (sz : Nat) : State → Prop := fun U => U.heap.size = sz ∧ va_P D cl w U.heap ∧ va_K D cl tys U ∧ va_D (fun _ => True) w ∧ x_En (va_A w sz) U U.heap
theorem x_blind {av : List Value} {D : va_G} {cl : List vw_C} {tys : List (ClassId × FieldType)} {w : va_W} {sz : Nat} : FrameBlind (va_Pc av (x_Pre D cl tys w sz)) := fun a U g mk q => by
  obtain ⟨q0, q1, qP, qK, qD, e1, e2, hb, e3⟩ := q
  have al : U.vm.Alike (U.calling g mk a).vm := Vm.Alike.refl U.vm
  refine ⟨q0, q1, qP, va_K.moved (u := U) (U := U.calling g mk a) al qK, qD, vx_Zq.moved (u := U) (U := U.calling g mk a) al e1, vx_Zq.moved (u := U) (U := U.calling g mk a) al e2, fun w hw => va_Nw.same (u := U) (U := U.calling g mk a) (x_bad_ot w hw) rfl (hb w hw), fun p hp => ?_⟩
  obtain ⟨q, hq⟩ := e3 p hp
  exact ⟨q, vk_R.same (u := U) rfl hq⟩
abbrev x_XC (D : va_G) (cl : List vw_C) (tys : List (ClassId × FieldType)) (A : Nat → Prop) {S : Type} (wu : S → va_W) (thr : String → S → Prop) : String → State → State → Prop := vx_X (fun _ : S => True) (fun E u t => thr E u ∧ g_At D cl tys A wu u t) A
theorem x_atA : ∀ w ∈ (vx_atS "GameGraph" 44 "java/lang/IllegalArgumentException" ["java/lang/RuntimeException", "java/lang/Exception"]).filter goodWord, w ∈ wAll := by decide +kernel
theorem x_abA : ∀ w ∈ (vx_atS "GameGraph" 44 "java/lang/IllegalArgumentException" ["java/lang/RuntimeException", "java/lang/Exception"]).filter (fun w => !goodWord w), w ∈ x_bad := by decide +kernel
theorem x_agA : ∀ w ∈ vx_atS "GameGraph" 44 "java/lang/IllegalArgumentException" ["java/lang/RuntimeException", "java/lang/Exception"], vx_ot w = true := by decide +kernel
theorem x_atI : ∀ w ∈ (vx_atS "GameGraph" 119 "java/lang/IndexOutOfBoundsException" ["java/lang/RuntimeException", "java/lang/Exception"]).filter goodWord, w ∈ wAll := by decide +kernel
theorem x_abI : ∀ w ∈ (vx_atS "GameGraph" 119 "java/lang/IndexOutOfBoundsException" ["java/lang/RuntimeException", "java/lang/Exception"]).filter (fun w => !goodWord w), w ∈ x_bad := by decide +kernel
theorem x_agI : ∀ w ∈ vx_atS "GameGraph" 119 "java/lang/IndexOutOfBoundsException" ["java/lang/RuntimeException", "java/lang/Exception"], vx_ot w = true := by decide +kernel
theorem x_atS : ∀ w ∈ (vx_atS "GameGraph" 129 "java/lang/IllegalStateException" ["java/lang/RuntimeException", "java/lang/Exception"]).filter goodWord, w ∈ wAll := by decide +kernel
theorem x_abS : ∀ w ∈ (vx_atS "GameGraph" 129 "java/lang/IllegalStateException" ["java/lang/RuntimeException", "java/lang/Exception"]).filter (fun w => !goodWord w), w ∈ x_bad := by decide +kernel
theorem x_agS : ∀ w ∈ vx_atS "GameGraph" 129 "java/lang/IllegalStateException" ["java/lang/RuntimeException", "java/lang/Exception"], vx_ot w = true := by decide +kernel
section GX
variable {p : Program} {l : Launch} {e : Env} {R : Room} {s : State} {m : MethodId} {args : Array Value} {below : List Frame} {meth : Method} {c : Code} {H : Heap} {locs : List Loc} {cells slots : Nat} {Q : State → Prop}
variable {cc bytes : ByteArray} {pc nL n index maxL mc ms : Nat} {ret : Option FieldType} {ls : Array Slot} {rest st0 As : List Value} {A : Nat → Prop} {D : va_G} {cl : List vw_C} {tys : List (ClassId × FieldType)} {S : Type} {wu : S → va_W} {w : va_W} {ws Ts : List Cond} {rm : Room} {y : MethodName} {own C : String} {T : u_T} {b ci q0 N : Nat} {fs : List Value}
theorem g_callxv {post : S → Prop} {thr : String → S → Prop} (S0 : CallFix p m c cc nL s args Ts own) (hM : vx_Met l y ws rm (va_Pc (.ref b :: As) (x_Pre D cl tys w H.size)) (va_Qv post (g_At D cl tys (va_A w H.size) wu) (va_A w H.size)) (x_XC D cl tys (va_A w H.size) wu thr) mc ms (va_A w H.size))
    (cw : CallW R s args own C index y bytes maxL ret ws rm mc ms n) (hK : va_K D cl tys s) (hP : va_P D cl w H) (hD : va_D A w) (hS : va_S A s.heap H locs) (hA : ∀ q, s.heap.size ≤ q → A q) (hE : x_En A s s.heap) (hc : cl[ci]? = some (C, T, N)) (he : w[q0]? = some (b, .inr (ci, fs)))
    (hn : As.length = n) (hsize : ls.size = nL) (hstack : st0 = As.reverse ++ .ref b :: rest) (hW : (rest.map fun v => v.category).sum ≤ 8) (hdg : decode cc pc = .ok (.invokevirtual index, 3)) (hf : cells + mc ≤ R.cells ∧ slots + ms ≤ R.slots)
    (kr : ∀ (u : S) (H1 : Heap) (locs1 : List Loc), post u → va_P D cl (wu u) H1 → va_D A (wu u) → va_S A s.heap H1 locs1 → W p l e R s m args below meth c H1 locs1 (cells + mc) (slots + ms) Q (F0 m (pc + 3) ls (rest)))
    (kt : ∀ (E : String) (ce : Cell) (q9 : Addr) (u : S) (H1 : Heap) (locs1 : List Loc), thr E u → va_P D cl (wu u) H1 → va_D A (wu u) → va_S A s.heap H1 locs1 → H1[q9]? = some ce → ce.vm = .none → s.vm.findClass E = some ce.cls → vx_W p l e R s m args below meth c H1 locs1 (cells + mc) (slots + ms) Q (F0 m pc ls rest) q9) : W p l e R s m args below meth c H locs cells slots Q (F0 m pc ls st0) := by
  have hF := g_free hD hS hA
  refine vx_callv (vx_runV S0 hM cw ⟨x_blind, va_recv hK hP hc he, fun U hU hW => ⟨rfl, by rw [hU], by rw [hU]; exact hP, va_K.moved hW.alike hK, hD.weaken (fun _ _ _ _ => trivial), by rw [hU]; exact hE.next hS hW hF⟩⟩ rfl hn hsize hstack (lv_room hW) hdg hf) hS (fun q _ h => hF q h) hF (fun q _ h => hF q h)
    (fun E ce q9 u t H1 locs1 ht hvm _ hB hz hk hS hce hcv hcl => ?_) (fun u t H1 locs1 ht hvm hw hB hz hk hS => ?_)
  · obtain ⟨hth, hP1, hK1, hD1⟩ := hB
    rw [ht] at hP1
    exact kt E ce q9 u H1 locs1 hth hP1 (hD1.weaken (fun _ _ _ h => hF _ h)) hS hce hcv hcl
  · obtain ⟨hP1, hK1, hD1⟩ := hB
    rw [ht] at hP1
    exact kr u H1 locs1 hw hP1 (hD1.weaken (fun _ _ _ h => hF _ h)) hS
theorem g_callxi {post : Int32 → S → Prop} {thr : String → S → Prop} (S0 : CallFix p m c cc nL s args Ts own) (hM : vx_Met l y ws rm (va_Pc (.ref b :: As) (x_Pre D cl tys w H.size)) (va_Qi post (g_At D cl tys (va_A w H.size) wu) (va_A w H.size)) (x_XC D cl tys (va_A w H.size) wu thr) mc ms (va_A w H.size))
    (cw : CallW R s args own C index y bytes maxL ret ws rm mc ms n) (hK : va_K D cl tys s) (hP : va_P D cl w H) (hD : va_D A w) (hS : va_S A s.heap H locs) (hA : ∀ q, s.heap.size ≤ q → A q) (hE : x_En A s s.heap) (hc : cl[ci]? = some (C, T, N)) (he : w[q0]? = some (b, .inr (ci, fs)))
    (hn : As.length = n) (hsize : ls.size = nL) (hstack : st0 = As.reverse ++ .ref b :: rest) (hW : (rest.map fun v => v.category).sum ≤ 8) (hdg : decode cc pc = .ok (.invokevirtual index, 3)) (hf : cells + mc ≤ R.cells ∧ slots + ms ≤ R.slots)
    (kr : ∀ (r : Int32) (u : S) (H1 : Heap) (locs1 : List Loc), post r u → va_P D cl (wu u) H1 → va_D A (wu u) → va_S A s.heap H1 locs1 → W p l e R s m args below meth c H1 locs1 (cells + mc) (slots + ms) Q (F0 m (pc + 3) ls (.int r :: rest)))
    (kt : ∀ (E : String) (ce : Cell) (q9 : Addr) (u : S) (H1 : Heap) (locs1 : List Loc), thr E u → va_P D cl (wu u) H1 → va_D A (wu u) → va_S A s.heap H1 locs1 → H1[q9]? = some ce → ce.vm = .none → s.vm.findClass E = some ce.cls → vx_W p l e R s m args below meth c H1 locs1 (cells + mc) (slots + ms) Q (F0 m pc ls rest) q9) : W p l e R s m args below meth c H locs cells slots Q (F0 m pc ls st0) := by
  have hF := g_free hD hS hA
  refine vx_calli (vx_runV S0 hM cw ⟨x_blind, va_recv hK hP hc he, fun U hU hW => ⟨rfl, by rw [hU], by rw [hU]; exact hP, va_K.moved hW.alike hK, hD.weaken (fun _ _ _ _ => trivial), by rw [hU]; exact hE.next hS hW hF⟩⟩ rfl hn hsize hstack (lv_room hW) hdg hf) hS (fun q _ h => hF q h) hF (fun q _ h => hF q h)
    (fun E ce q9 u t H1 locs1 ht hvm _ hB hz hk hS hce hcv hcl => ?_) (fun r u t H1 locs1 ht hvm hw hB hz hk hS => ?_)
  · obtain ⟨hth, hP1, hK1, hD1⟩ := hB
    rw [ht] at hP1
    exact kt E ce q9 u H1 locs1 hth hP1 (hD1.weaken (fun _ _ _ h => hF _ h)) hS hce hcv hcl
  · obtain ⟨hP1, hK1, hD1⟩ := hB
    rw [ht] at hP1
    exact kr r u H1 locs1 hw hP1 (hD1.weaken (fun _ _ _ h => hF _ h)) hS
end GX
end
section
/-! Methods that may throw (by tool/throws.py). -/
set_option maxHeartbeats 4000000 in
set_option maxRecDepth 100000 in
theorem c_X0_requireState (l : Launch) (hl0 : l.stackTraces = false) (dC : Nat → ClassId) (dI : Nat → Nat → Nat) (ad : Nat → Nat) (cz ci cj : ClassId) (sz : Nat) (cnt : Int32) (fO : Nat → Int32) (fA : Nat → Int32) (fB : Nat → Int32) (fT : Nat → Int32) (sv : Int32) (fC : Nat → Int64) (rs : Int64) (dk : Int32) (ds : Int32) (fL : Nat → Int32) (fl : Nat → Int32) (fh : Nat → Int32) (n : Int32) (k0 : Nat) (hc : cnt = nI k0) (hk0 : k0 ≤ 60) : vx_Met l yX0_requireState wX0_requireState ({ frames := 6, cells := 1, slots := 6, locals := 90 }) (va_Pc [.ref (ad 0), .int n] (x_Pre (dC, dI) vwCl (gty cz ci cj) (gw ad cz ci cj (cnt, fO, fA, fB, fT, sv, fC, rs, dk, ds, fL, fl, fh)) sz)) (va_Qv (fun (u : GS) => u = (cnt, fO, fA, fB, fT, sv, fC, rs, dk, ds, fL, fl, fh) ∧ ∃ k, k < k0 ∧ n = nI k) (g_At (dC, dI) vwCl (gty cz ci cj) (va_A (gw ad cz ci cj (cnt, fO, fA, fB, fT, sv, fC, rs, dk, ds, fL, fl, fh)) sz) (gw ad cz ci cj)) (va_A (gw ad cz ci cj (cnt, fO, fA, fB, fT, sv, fC, rs, dk, ds, fL, fl, fh)) sz)) (x_XC (dC, dI) vwCl (gty cz ci cj) (va_A (gw ad cz ci cj (cnt, fO, fA, fB, fT, sv, fC, rs, dk, ds, fL, fl, fh)) sz) (gw ad cz ci cj) (fun (E : String) (u : GS) => E = "java/lang/IndexOutOfBoundsException" ∧ u = (cnt, fO, fA, fB, fT, sv, fC, rs, dk, ds, fL, fl, fh) ∧ ∀ k, k < k0 → n ≠ nI k)) 1 6 (va_A (gw ad cz ci cj (cnt, fO, fA, fB, fT, sv, fC, rs, dk, ds, fL, fl, fh)) sz) := by
  refine vx_ofW (cc := cX0_requireState) (maxL := 2) (ret := none) (by decide) rfl ?_
  intro p e s m args below meth c s₁ Bd hml htab hv
  obtain ⟨rfl, hsz, hP, hK, hD0, hE⟩ := hv
  have hx := Bd.exec
  have hb := Bd.bytes
  have hr := Bd.returns
  have hts := atoms_spec (ws := wX0_requireState) Bd.pre
  have hw : ∀ w ∈ wAll, w.before _ s = true := fun w h => hts w (List.mem_cons_of_mem _ h)
  have hown : s.vm.findClass "GameGraph" = some m.cls := findClass_of_methodNamed Bd.named
  have hlocks := Bd.notSynchronized
  subst hsz
  have hD := hD0.self (sz := s.heap.size)
  generalize hAe : va_A (gw ad cz ci cj (cnt, fO, fA, fB, fT, sv, fC, rs, dk, ds, fL, fl, fh)) s.heap.size = Ar at hD hE ⊢
  have hA : ∀ q : Nat, s.heap.size ≤ q → Ar q := fun q h => by rw [← hAe]; exact Or.inr h
  obtain ⟨H, hH⟩ : ∃ H : Heap, H = s.heap := ⟨_, rfl⟩
  have hS : va_S Ar s.heap H [] := by rw [hH]; exact va_S.rf
  have hP : va_P (dC, dI) vwCl (gw ad cz ci cj (cnt, fO, fA, fB, fT, sv, fC, rs, dk, ds, fL, fl, fh)) H := by rw [hH]; exact hP
  rw [← hH]
  have hl := lv_entry ([.ref (ad 0), .int n]) (n := 2) (Nat.le_of_ble_eq_true rfl)
  rw [lg_entry_eq]
  generalize (lg_sl ([.ref (ad 0), .int n]) ++ List.replicate (2 - (lg_sl ([.ref (ad 0), .int n])).length) Slot.unset).toArray = ls at hl ⊢
  have hl : lv_has ls 2 [(0, .ref (ad 0)), (1, .int n)] := hl
  refine lv_aload_n hx hb dX0_requireState_0 rfl (lv_at hl 0 rfl) ?_
  refine lv_iload_n hx hb dX0_requireState_1 rfl (lv_at hl 1 rfl) ?_
  refine g_calli ⟨hx, hb, hml, hown, hw⟩ (c_X0_hasState l dC dI ad cz ci cj H.size cnt fO fA fB fT sv fC rs dk ds fL fl fh n k0 hc hk0) (cwV 1 hw gv_X0_X0_hasState rfl rfl rfl (by decide +kernel) ⟨Nat.le_of_ble_eq_true rfl, Nat.le_of_ble_eq_true rfl⟩) hK hP hD hS hA (ci := 0) (q0 := 0) rfl rfl rfl hl.1 rfl (Nat.le_of_ble_eq_true rfl) dX0_requireState_2 ⟨Nat.le_of_ble_eq_true rfl, Nat.le_of_ble_eq_true rfl⟩ (fun r_1 un H locs hq hP hD hS => ?_)
  obtain ⟨rfl, hq⟩ := hq
  have hP : va_P (dC, dI) vwCl (gw ad cz ci cj (cnt, fO, fA, fB, fT, sv, fC, rs, dk, ds, fL, fl, fh)) H := hP
  have hD : va_D Ar (gw ad cz ci cj (cnt, fO, fA, fB, fT, sv, fC, rs, dk, ds, fL, fl, fh)) := hD
  refine lv_if_ne (tgt := 18) hx hb dX0_requireState_5 (by decide) (fun c_2 => ?_) (fun c_2 => ?_)
  · have hyes : ∃ k, k < k0 ∧ n = nI k := by rcases hq with ⟨a, _⟩ | ⟨_, a⟩; exact a; exact absurd a c_2
    refine vx_ret (W.widen (k := 1) (n := 6) (Nat.le_of_ble_eq_true rfl) (Nat.le_of_ble_eq_true rfl) ?_)
    exact W.vret hx hb hr (fun t ht hW => ⟨⟨(cnt, fO, fA, fB, fT, sv, fC, rs, dk, ds, fL, fl, fh), rfl, (⟨rfl, hyes⟩), (by rw [ht]; exact hP), va_K.moved hW.alike hK, hD⟩, hS.F ht⟩) hS.2.2 dX0_requireState_18
  · have hno : ∀ k, k < k0 → n ≠ nI k := by rcases hq with ⟨_, a⟩ | ⟨a, _⟩; exact absurd c_2 (by rw [a]; decide); exact a
    obtain ⟨sq, hsq⟩ := hE.2.2.2 ("GameGraph", 117, "there is no such state") (by decide +kernel)
    exact vx_throwS (names := ["java/lang/RuntimeException", "java/lang/Exception"]) hx hb hl0 hown (by decide +kernel) (by decide +kernel) (hw _ m_5_27) (hw _ m_1_0) hsq (vx_hat (fun w h => hw w (x_atI w h)) x_abI (fun w h => va_Nw.use (x_bad_ot w h) (hE.2.2.1 w h))) (List.forall_mem_cons.mpr ⟨by decide +kernel, List.forall_mem_cons.mpr ⟨by decide +kernel, x_agI⟩⟩) hE.1 hE.2.1 hS (hl.1.trans hml.symm) dX0_requireState_8 dX0_requireState_11 dX0_requireState_12 dX0_requireState_14 dX0_requireState_17 (fun x hx9 => (htab x hx9).elim) (Nat.le_of_ble_eq_true rfl) (Nat.le_of_ble_eq_true rfl) (Nat.le_of_ble_eq_true rfl) (Nat.le_of_ble_eq_true rfl) hlocks (fun t hal hz hq9 => ⟨(cnt, fO, fA, fB, fT, sv, fC, rs, dk, ds, fL, fl, fh), trivial, ⟨(⟨rfl, rfl, hno⟩), hP.kept (fun k q hk => hq9 q.1 (va_at.lt (hP k q hk))), va_K.moved hal hK, hD⟩, Nat.le_trans hS.1 hz, fun q h1 h2 => (hq9 q (Nat.lt_of_lt_of_le h1 hS.1)).trans (hS.2.1 q h1 h2)⟩) hS.2.2 (Nat.le_of_ble_eq_true rfl) (Nat.le_of_ble_eq_true rfl)
set_option maxHeartbeats 4000000 in
set_option maxRecDepth 100000 in
theorem c_X0_isNumberOfMoves (l : Launch) (x : Int32)  : Met l yX0_isNumberOfMoves wX0_isNumberOfMoves ({ frames := 0, cells := 0, slots := 0, locals := 0 }) (va_Pc [.int x] (fun _ => True)) (va_Qi (fun (r : Int32) (_ : Unit) => r = if 0 ≤ x.toInt ∧ x.toInt ≤ 12 then 1 else 0) (fun _ _ => True) g_No) 0 0 g_No := by
  refine Met.ofW (cc := cX0_isNumberOfMoves) (maxL := 1) (ret := some .boolean) (by decide) rfl ?_
  intro p e s m args below meth c s₁ Bd hml hv
  obtain ⟨rfl, -⟩ := hv
  have hx := Bd.exec
  have hb := Bd.bytes
  have hr := Bd.returns
  have hts := atoms_spec (ws := wX0_isNumberOfMoves) Bd.pre
  have hw : ∀ w ∈ wAll, w.before _ s = true := fun w h => hts w (List.mem_cons_of_mem _ h)
  have hown : s.vm.findClass "GameGraph" = some m.cls := findClass_of_methodNamed Bd.named
  have hlocks := Bd.notSynchronized
  have hS : va_S g_No s.heap s.heap [] := va_S.rf
  have hl := lv_entry ([.int x]) (n := 1) (Nat.le_of_ble_eq_true rfl)
  rw [lg_entry_eq]
  generalize (lg_sl ([.int x]) ++ List.replicate (1 - (lg_sl ([.int x])).length) Slot.unset).toArray = ls at hl ⊢
  have hl : lv_has ls 1 [(0, .int x)] := hl
  have e2 : (12 : Int32).toInt = 12 := by decide
  refine lv_iload_n hx hb dX0_isNumberOfMoves_0 rfl (lv_at hl 0 rfl) ?_
  refine lv_if_lt (tgt := 14) hx hb dX0_isNumberOfMoves_1 (by decide) (fun c_1 => ?_) (fun c_1 => ?_)
  · rw [Int32.lt_iff_toInt_lt, Int32.toInt_zero] at c_1
    refine lv_iconst (v := 0) hx hb dX0_isNumberOfMoves_14 (by decide) ?_
    exact W.zret (v := 0) hx hb hr (by decide) (fun t ht hW => ⟨⟨0, (), rfl, (by rw [if_neg]; omega), trivial⟩, hS.F ht⟩) hS.2.2 dX0_isNumberOfMoves_15
  · rw [Int32.lt_iff_toInt_lt, Int32.toInt_zero] at c_1
    refine lv_iload_n hx hb dX0_isNumberOfMoves_4 rfl (lv_at hl 0 rfl) ?_
    refine lv_bipush (v := 12) hx hb dX0_isNumberOfMoves_5 (by decide) ?_
    refine lv_icmp_gt (tgt := 14) hx hb dX0_isNumberOfMoves_7 (by decide) (fun cb_2 => ?_) (fun cb_2 => ?_)
    · rw [Int32.lt_iff_toInt_lt, e2] at cb_2
      refine lv_iconst (v := 0) hx hb dX0_isNumberOfMoves_14 (by decide) ?_
      exact W.zret (v := 0) hx hb hr (by decide) (fun t ht hW => ⟨⟨0, (), rfl, (by rw [if_neg]; omega), trivial⟩, hS.F ht⟩) hS.2.2 dX0_isNumberOfMoves_15
    · rw [Int32.lt_iff_toInt_lt, e2] at cb_2
      refine lv_iconst (v := 1) hx hb dX0_isNumberOfMoves_10 (by decide) ?_
      refine lv_goto (tgt := 15) hx hb dX0_isNumberOfMoves_11 (by decide) ?_
      exact W.zret (v := 1) hx hb hr (by decide) (fun t ht hW => ⟨⟨1, (), rfl, (by rw [if_pos]; omega), trivial⟩, hS.F ht⟩) hS.2.2 dX0_isNumberOfMoves_15
theorem k_inj {a b : Nat} (ha : a < 2 ^ 31) (hb : b < 2 ^ 31) (h : nI a = nI b) : a = b := (nI_eq ha hb).mp h
theorem k_i0 {P : Prop} {r : Int32} {inst : Decidable P} (h : r = @ite _ P inst 1 0) (h0 : r = 0) : ¬ P := by
  intro hp
  rw [if_pos hp] at h
  rw [h] at h0
  exact absurd h0 (by decide)
theorem k_i1 {P : Prop} {r : Int32} {inst : Decidable P} (h : r = @ite _ P inst 1 0) (h0 : ¬ r = 0) : P := by
  by_cases hp : P
  · exact hp
  · rw [if_neg hp] at h; exact absurd h h0
theorem k_160 {n : Int32} (h1 : ¬ n < 1) (h2 : n ≤ 60) : ∃ k, 1 ≤ k ∧ k ≤ 60 ∧ n = nI k := by
  have e1 : (1 : Int32).toInt = 1 := by decide
  have e2 : (60 : Int32).toInt = 60 := by decide
  rw [Int32.lt_iff_toInt_lt, e1] at h1
  rw [Int32.le_iff_toInt_le, e2] at h2
  obtain ⟨j, hj, e⟩ := nI_of (x := n) (by rw [Int32.lt_iff_toInt_lt, Int32.toInt_zero]; omega)
  have := nI_toInt hj
  rw [← e] at this
  exact ⟨j, by omega, by omega, e⟩
theorem k_160' {n : Int32} (h : n < 1 ∨ ¬ n ≤ 60) : ∀ k, 1 ≤ k → k ≤ 60 → n ≠ nI k := by
  intro k hk1 hk2 e
  have e1 : (1 : Int32).toInt = 1 := by decide
  have e2 : (60 : Int32).toInt = 60 := by decide
  have := nI_toInt (n := k) (by omega)
  rw [← e] at this
  rcases h with h | h
  · rw [Int32.lt_iff_toInt_lt, e1] at h; omega
  · rw [Int32.le_iff_toInt_le, e2] at h; omega
set_option maxHeartbeats 4000000 in
set_option maxRecDepth 100000 in
theorem c_X0_requireJointMove (l : Launch) (hl0 : l.stackTraces = false) (dC : Nat → ClassId) (dI : Nat → Nat → Nat) (ad : Nat → Nat) (cz ci cj : ClassId) (sz : Nat) (cnt : Int32) (fO : Nat → Int32) (fA : Nat → Int32) (fB : Nat → Int32) (fT : Nat → Int32) (sv : Int32) (fC : Nat → Int64) (rs : Int64) (dk : Int32) (ds : Int32) (fL : Nat → Int32) (fl : Nat → Int32) (fh : Nat → Int32) (n : Int32) (j : Int32) (c0 : Nat) (hg : g_ok c0 fO fA fB fT) : vx_Met l yX0_requireJointMove wX0_requireJointMove ({ frames := 7, cells := 2, slots := 12, locals := 111 }) (va_Pc [.ref (ad 0), .int n, .int j] (x_Pre (dC, dI) vwCl (gty cz ci cj) (gw ad cz ci cj ((nI c0), fO, fA, fB, fT, sv, fC, rs, dk, ds, fL, fl, fh)) sz)) (va_Qv (fun (u : GS) => u = ((nI c0), fO, fA, fB, fT, sv, fC, rs, dk, ds, fL, fl, fh) ∧ ∃ a i, a < c0 ∧ i < gmv fO fA fB a ∧ n = nI a ∧ j = nI i) (g_At (dC, dI) vwCl (gty cz ci cj) (va_A (gw ad cz ci cj ((nI c0), fO, fA, fB, fT, sv, fC, rs, dk, ds, fL, fl, fh)) sz) (gw ad cz ci cj)) (va_A (gw ad cz ci cj ((nI c0), fO, fA, fB, fT, sv, fC, rs, dk, ds, fL, fl, fh)) sz)) (x_XC (dC, dI) vwCl (gty cz ci cj) (va_A (gw ad cz ci cj ((nI c0), fO, fA, fB, fT, sv, fC, rs, dk, ds, fL, fl, fh)) sz) (gw ad cz ci cj) (fun (E : String) (u : GS) => E = "java/lang/IndexOutOfBoundsException" ∧ u = ((nI c0), fO, fA, fB, fT, sv, fC, rs, dk, ds, fL, fl, fh) ∧ ∀ a i, a < c0 → i < gmv fO fA fB a → ¬ (n = nI a ∧ j = nI i))) 2 12 (va_A (gw ad cz ci cj ((nI c0), fO, fA, fB, fT, sv, fC, rs, dk, ds, fL, fl, fh)) sz) := by
  refine vx_ofW (cc := cX0_requireJointMove) (maxL := 3) (ret := none) (by decide) rfl ?_
  intro p e s m args below meth c s₁ Bd hml htab hv
  obtain ⟨rfl, hsz, hP, hK, hD0, hE⟩ := hv
  have hx := Bd.exec
  have hb := Bd.bytes
  have hr := Bd.returns
  have hts := atoms_spec (ws := wX0_requireJointMove) Bd.pre
  have hw : ∀ w ∈ wAll, w.before _ s = true := fun w h => hts w (List.mem_cons_of_mem _ h)
  have hown : s.vm.findClass "GameGraph" = some m.cls := findClass_of_methodNamed Bd.named
  have hlocks := Bd.notSynchronized
  subst hsz
  have hD := hD0.self (sz := s.heap.size)
  generalize hAe : va_A (gw ad cz ci cj ((nI c0), fO, fA, fB, fT, sv, fC, rs, dk, ds, fL, fl, fh)) s.heap.size = Ar at hD hE ⊢
  have hA : ∀ q : Nat, s.heap.size ≤ q → Ar q := fun q h => by rw [← hAe]; exact Or.inr h
  obtain ⟨H, hH⟩ : ∃ H : Heap, H = s.heap := ⟨_, rfl⟩
  have hS : va_S Ar s.heap H [] := by rw [hH]; exact va_S.rf
  have hP : va_P (dC, dI) vwCl (gw ad cz ci cj ((nI c0), fO, fA, fB, fT, sv, fC, rs, dk, ds, fL, fl, fh)) H := by rw [hH]; exact hP
  rw [← hH]
  have hl := lv_entry ([.ref (ad 0), .int n, .int j]) (n := 3) (Nat.le_of_ble_eq_true rfl)
  rw [lg_entry_eq]
  generalize (lg_sl ([.ref (ad 0), .int n, .int j]) ++ List.replicate (3 - (lg_sl ([.ref (ad 0), .int n, .int j])).length) Slot.unset).toArray = ls at hl ⊢
  have hl : lv_has ls 3 [(0, .ref (ad 0)), (1, .int n), (2, .int j)] := hl
  have h60 := hg.2.1
  refine lv_aload_n hx hb dX0_requireJointMove_0 rfl (lv_at hl 0 rfl) ?_
  refine lv_iload_n hx hb dX0_requireJointMove_1 rfl (lv_at hl 1 rfl) ?_
  refine g_callxv ⟨hx, hb, hml, hown, hw⟩ (c_X0_requireState l hl0 dC dI ad cz ci cj H.size (nI c0) fO fA fB fT sv fC rs dk ds fL fl fh n c0 rfl hg.2.1) (cwV 1 hw gv_X0_X0_requireState rfl rfl rfl (by decide +kernel) ⟨Nat.le_of_ble_eq_true rfl, Nat.le_of_ble_eq_true rfl⟩) hK hP hD hS hA hE (ci := 0) (q0 := 0) rfl rfl rfl hl.1 rfl (Nat.le_of_ble_eq_true rfl) dX0_requireJointMove_2 ⟨Nat.le_of_ble_eq_true rfl, Nat.le_of_ble_eq_true rfl⟩ (fun  un H locs hq hP hD hS => ?_) (fun E ce q9 un H locs hq hP hD hS hce hcv hcl => ?_)
  · obtain ⟨rfl, k, hk, rfl⟩ := hq
    have hP : va_P (dC, dI) vwCl (gw ad cz ci cj ((nI c0), fO, fA, fB, fT, sv, fC, rs, dk, ds, fL, fl, fh)) H := hP
    have hD : va_D Ar (gw ad cz ci cj ((nI c0), fO, fA, fB, fT, sv, fC, rs, dk, ds, fL, fl, fh)) := hD
    have h12 := (g_mvI hg hk).2
    refine lv_iload_n hx hb dX0_requireJointMove_5 rfl (lv_at hl 2 rfl) ?_
    refine lv_if_lt (tgt := 18) hx hb dX0_requireJointMove_6 (by decide) (fun ca_1 => ?_) (fun ca_1 => ?_)
    · obtain ⟨sq, hsq⟩ := hE.2.2.2 ("GameGraph", 123, "the state has no such joint move") (by decide +kernel)
      exact vx_throwS (names := ["java/lang/RuntimeException", "java/lang/Exception"]) hx hb hl0 hown (by decide +kernel) (by decide +kernel) (hw _ m_5_27) (hw _ m_1_0) hsq (vx_hat (fun w h => hw w (x_atI w h)) x_abI (fun w h => va_Nw.use (x_bad_ot w h) (hE.2.2.1 w h))) (List.forall_mem_cons.mpr ⟨by decide +kernel, List.forall_mem_cons.mpr ⟨by decide +kernel, x_agI⟩⟩) hE.1 hE.2.1 hS (hl.1.trans hml.symm) dX0_requireJointMove_18 dX0_requireJointMove_21 dX0_requireJointMove_22 dX0_requireJointMove_24 dX0_requireJointMove_27 (fun x hx9 => (htab x hx9).elim) (Nat.le_of_ble_eq_true rfl) (Nat.le_of_ble_eq_true rfl) (Nat.le_of_ble_eq_true rfl) (Nat.le_of_ble_eq_true rfl) hlocks (fun t hal hz hq9 => ⟨((nI c0), fO, fA, fB, fT, sv, fC, rs, dk, ds, fL, fl, fh), trivial, ⟨(⟨rfl, rfl, fun a i ha hi h => absurd ca_1 (by rw [h.2]; exact nI_pos (by have := (g_mvI hg ha).2; omega))⟩), hP.kept (fun k q hk => hq9 q.1 (va_at.lt (hP k q hk))), va_K.moved hal hK, hD⟩, Nat.le_trans hS.1 hz, fun q h1 h2 => (hq9 q (Nat.lt_of_lt_of_le h1 hS.1)).trans (hS.2.1 q h1 h2)⟩) hS.2.2 (Nat.le_of_ble_eq_true rfl) (Nat.le_of_ble_eq_true rfl)
    · refine lv_iload_n hx hb dX0_requireJointMove_9 rfl (lv_at hl 2 rfl) ?_
      refine lv_aload_n hx hb dX0_requireJointMove_10 rfl (lv_at hl 0 rfl) ?_
      refine lv_iload_n hx hb dX0_requireJointMove_11 rfl (lv_at hl 1 rfl) ?_
      refine g_calli ⟨hx, hb, hml, hown, hw⟩ (c_X0_jointMoves l dC dI ad cz ci cj H.size (nI c0) fO fA fB fT sv fC rs dk ds fL fl fh k (by omega)) (cwV 1 hw gv_X0_X0_jointMoves rfl rfl rfl (by decide +kernel) ⟨Nat.le_of_ble_eq_true rfl, Nat.le_of_ble_eq_true rfl⟩) hK hP hD hS hA (ci := 0) (q0 := 0) rfl rfl rfl hl.1 rfl (Nat.le_of_ble_eq_true rfl) dX0_requireJointMove_12 ⟨Nat.le_of_ble_eq_true rfl, Nat.le_of_ble_eq_true rfl⟩ (fun rab_2 un H locs hq hP hD hS => ?_)
      obtain ⟨rfl, hq⟩ := hq
      have hP : va_P (dC, dI) vwCl (gw ad cz ci cj ((nI c0), fO, fA, fB, fT, sv, fC, rs, dk, ds, fL, fl, fh)) H := hP
      have hD : va_D Ar (gw ad cz ci cj ((nI c0), fO, fA, fB, fT, sv, fC, rs, dk, ds, fL, fl, fh)) := hD
      refine x_topi (y := nI (gmv fO fA fB k)) (by rw [hq]; exact (g_mvI hg hk).1) ?_
      refine lv_icmp_lt (tgt := 28) hx hb dX0_requireJointMove_15 (by decide) (fun cab_3 => ?_) (fun cab_3 => ?_)
      · obtain ⟨i, hi, rfl⟩ := nI_of ca_1
        refine vx_ret (W.widen (k := 2) (n := 12) (Nat.le_of_ble_eq_true rfl) (Nat.le_of_ble_eq_true rfl) ?_)
        exact W.vret hx hb hr (fun t ht hW => ⟨⟨((nI c0), fO, fA, fB, fT, sv, fC, rs, dk, ds, fL, fl, fh), rfl, (⟨rfl, k, i, hk, (nI_ltI hi (by omega)).mp cab_3, rfl, rfl⟩), (by rw [ht]; exact hP), va_K.moved hW.alike hK, hD⟩, hS.F ht⟩) hS.2.2 dX0_requireJointMove_28
      · obtain ⟨sq, hsq⟩ := hE.2.2.2 ("GameGraph", 123, "the state has no such joint move") (by decide +kernel)
        exact vx_throwS (names := ["java/lang/RuntimeException", "java/lang/Exception"]) hx hb hl0 hown (by decide +kernel) (by decide +kernel) (hw _ m_5_27) (hw _ m_1_0) hsq (vx_hat (fun w h => hw w (x_atI w h)) x_abI (fun w h => va_Nw.use (x_bad_ot w h) (hE.2.2.1 w h))) (List.forall_mem_cons.mpr ⟨by decide +kernel, List.forall_mem_cons.mpr ⟨by decide +kernel, x_agI⟩⟩) hE.1 hE.2.1 hS (hl.1.trans hml.symm) dX0_requireJointMove_18 dX0_requireJointMove_21 dX0_requireJointMove_22 dX0_requireJointMove_24 dX0_requireJointMove_27 (fun x hx9 => (htab x hx9).elim) (Nat.le_of_ble_eq_true rfl) (Nat.le_of_ble_eq_true rfl) (Nat.le_of_ble_eq_true rfl) (Nat.le_of_ble_eq_true rfl) hlocks (fun t hal hz hq9 => ⟨((nI c0), fO, fA, fB, fT, sv, fC, rs, dk, ds, fL, fl, fh), trivial, ⟨(⟨rfl, rfl, fun a i ha hi h => by have e := k_inj (by omega) (by omega) h.1; subst e; exact cab_3 (by rw [h.2]; exact nI_lt hi (by omega))⟩), hP.kept (fun k q hk => hq9 q.1 (va_at.lt (hP k q hk))), va_K.moved hal hK, hD⟩, Nat.le_trans hS.1 hz, fun q h1 h2 => (hq9 q (Nat.lt_of_lt_of_le h1 hS.1)).trans (hS.2.1 q h1 h2)⟩) hS.2.2 (Nat.le_of_ble_eq_true rfl) (Nat.le_of_ble_eq_true rfl)
  · obtain ⟨rfl, rfl, hno⟩ := hq
    exact vx_out (fun x hx9 => (htab x hx9).elim) hlocks hce hcv hcl (fun t ht hal => ⟨((nI c0), fO, fA, fB, fT, sv, fC, rs, dk, ds, fL, fl, fh), trivial, ⟨(⟨rfl, rfl, fun a i ha _ h => hno a ha h.1⟩), (by rw [ht]; exact hP), va_K.moved hal hK, hD⟩, hS.F ht⟩) hS.2.2 (Nat.le_of_ble_eq_true rfl) (Nat.le_of_ble_eq_true rfl)
set_option maxHeartbeats 4000000 in
set_option maxRecDepth 100000 in
theorem c_X0_states (l : Launch) (hl0 : l.stackTraces = false) (dC : Nat → ClassId) (dI : Nat → Nat → Nat) (ad : Nat → Nat) (cz ci cj : ClassId) (sz : Nat) (cnt : Int32) (fO : Nat → Int32) (fA : Nat → Int32) (fB : Nat → Int32) (fT : Nat → Int32) (sv : Int32) (fC : Nat → Int64) (rs : Int64) (dk : Int32) (ds : Int32) (fL : Nat → Int32) (fl : Nat → Int32) (fh : Nat → Int32) (n : Int32)  : vx_Met l yX0_states wX0_states ({ frames := 6, cells := 1, slots := 6, locals := 90 }) (va_Pc [.ref (ad 0), .int n] (x_Pre (dC, dI) vwCl (gty cz ci cj) (gw ad cz ci cj (cnt, fO, fA, fB, fT, sv, fC, rs, dk, ds, fL, fl, fh)) sz)) (va_Qv (fun (u : GS) => ∃ num, 1 ≤ num ∧ num ≤ 60 ∧ n = nI num ∧ ∃ fO2 fA2 fB2 fT2 : Nat → Int32, (∀ k, k < num → fO2 k = 0 ∧ fA2 k = 50 ∧ fB2 k = 50 ∧ ∀ j, j < 12 → fT2 (k * 12 + j) = 0) ∧ u = (nI num, fO2, fA2, fB2, fT2, 0, fC, rs, dk, ds, fL, fl, fh)) (g_At (dC, dI) vwCl (gty cz ci cj) (va_A (gw ad cz ci cj (cnt, fO, fA, fB, fT, sv, fC, rs, dk, ds, fL, fl, fh)) sz) (gw ad cz ci cj)) (va_A (gw ad cz ci cj (cnt, fO, fA, fB, fT, sv, fC, rs, dk, ds, fL, fl, fh)) sz)) (x_XC (dC, dI) vwCl (gty cz ci cj) (va_A (gw ad cz ci cj (cnt, fO, fA, fB, fT, sv, fC, rs, dk, ds, fL, fl, fh)) sz) (gw ad cz ci cj) (fun (E : String) (u : GS) => E = "java/lang/IllegalArgumentException" ∧ u = (cnt, fO, fA, fB, fT, sv, fC, rs, dk, ds, fL, fl, fh) ∧ ∀ k, 1 ≤ k → k ≤ 60 → n ≠ nI k)) 1 6 (va_A (gw ad cz ci cj (cnt, fO, fA, fB, fT, sv, fC, rs, dk, ds, fL, fl, fh)) sz) := by
  refine vx_ofW (cc := cX0_states) (maxL := 2) (ret := none) (by decide) rfl ?_
  intro p e s m args below meth c s₁ Bd hml htab hv
  obtain ⟨rfl, hsz, hP, hK, hD0, hE⟩ := hv
  have hx := Bd.exec
  have hb := Bd.bytes
  have hr := Bd.returns
  have hts := atoms_spec (ws := wX0_states) Bd.pre
  have hw : ∀ w ∈ wAll, w.before _ s = true := fun w h => hts w (List.mem_cons_of_mem _ h)
  have hown : s.vm.findClass "GameGraph" = some m.cls := findClass_of_methodNamed Bd.named
  have hlocks := Bd.notSynchronized
  subst hsz
  have hD := hD0.self (sz := s.heap.size)
  generalize hAe : va_A (gw ad cz ci cj (cnt, fO, fA, fB, fT, sv, fC, rs, dk, ds, fL, fl, fh)) s.heap.size = Ar at hD hE ⊢
  have hA : ∀ q : Nat, s.heap.size ≤ q → Ar q := fun q h => by rw [← hAe]; exact Or.inr h
  obtain ⟨H, hH⟩ : ∃ H : Heap, H = s.heap := ⟨_, rfl⟩
  have hS : va_S Ar s.heap H [] := by rw [hH]; exact va_S.rf
  have hP : va_P (dC, dI) vwCl (gw ad cz ci cj (cnt, fO, fA, fB, fT, sv, fC, rs, dk, ds, fL, fl, fh)) H := by rw [hH]; exact hP
  rw [← hH]
  have hl := lv_entry ([.ref (ad 0), .int n]) (n := 2) (Nat.le_of_ble_eq_true rfl)
  rw [lg_entry_eq]
  generalize (lg_sl ([.ref (ad 0), .int n]) ++ List.replicate (2 - (lg_sl ([.ref (ad 0), .int n])).length) Slot.unset).toArray = ls at hl ⊢
  have hl : lv_has ls 2 [(0, .ref (ad 0)), (1, .int n)] := hl
  refine lv_iload_n hx hb dX0_states_0 rfl (lv_at hl 1 rfl) ?_
  refine lv_iconst (v := 1) hx hb dX0_states_1 (by decide) ?_
  refine lv_icmp_lt (tgt := 11) hx hb dX0_states_2 (by decide) (fun c_1 => ?_) (fun c_1 => ?_)
  · obtain ⟨sq, hsq⟩ := hE.2.2.2 ("GameGraph", 42, "the number of states is not 1 .. 60") (by decide +kernel)
    exact vx_throwS (names := ["java/lang/RuntimeException", "java/lang/Exception"]) hx hb hl0 hown (by decide +kernel) (by decide +kernel) (hw _ m_3_36) (hw _ m_0_39) hsq (vx_hat (fun w h => hw w (x_atA w h)) x_abA (fun w h => va_Nw.use (x_bad_ot w h) (hE.2.2.1 w h))) (List.forall_mem_cons.mpr ⟨by decide +kernel, List.forall_mem_cons.mpr ⟨by decide +kernel, x_agA⟩⟩) hE.1 hE.2.1 hS (hl.1.trans hml.symm) dX0_states_11 dX0_states_14 dX0_states_15 dX0_states_17 dX0_states_20 (fun x hx9 => (htab x hx9).elim) (Nat.le_of_ble_eq_true rfl) (Nat.le_of_ble_eq_true rfl) (Nat.le_of_ble_eq_true rfl) (Nat.le_of_ble_eq_true rfl) hlocks (fun t hal hz hq9 => ⟨(cnt, fO, fA, fB, fT, sv, fC, rs, dk, ds, fL, fl, fh), trivial, ⟨(⟨rfl, rfl, k_160' (Or.inl c_1)⟩), hP.kept (fun k q hk => hq9 q.1 (va_at.lt (hP k q hk))), va_K.moved hal hK, hD⟩, Nat.le_trans hS.1 hz, fun q h1 h2 => (hq9 q (Nat.lt_of_lt_of_le h1 hS.1)).trans (hS.2.1 q h1 h2)⟩) hS.2.2 (Nat.le_of_ble_eq_true rfl) (Nat.le_of_ble_eq_true rfl)
  · refine lv_iload_n hx hb dX0_states_5 rfl (lv_at hl 1 rfl) ?_
    refine lv_bipush (v := 60) hx hb dX0_states_6 (by decide) ?_
    refine lv_icmp_le (tgt := 21) hx hb dX0_states_8 (by decide) (fun cb_2 => ?_) (fun cb_2 => ?_)
    · obtain ⟨num, hn1, hn2, rfl⟩ := k_160 c_1 cb_2
      refine lv_aload_n hx hb dX0_states_21 rfl (lv_at hl 0 rfl) ?_
      refine lv_iload_n hx hb dX0_states_22 rfl (lv_at hl 1 rfl) ?_
      refine g_callv ⟨hx, hb, hml, hown, hw⟩ (c_X0_makeEvenEnds l dC dI ad cz ci cj H.size cnt fO fA fB fT sv fC rs dk ds fL fl fh num hn1 hn2) (cwV 1 hw gv_X0_X0_makeEvenEnds rfl rfl rfl (by decide +kernel) ⟨Nat.le_of_ble_eq_true rfl, Nat.le_of_ble_eq_true rfl⟩) hK hP hD hS hA (ci := 0) (q0 := 0) rfl rfl rfl hl.1 rfl (Nat.le_of_ble_eq_true rfl) dX0_states_23 ⟨Nat.le_of_ble_eq_true rfl, Nat.le_of_ble_eq_true rfl⟩ (fun  un H locs hq hP hD hS => ?_)
      obtain ⟨fO2, fA2, fB2, fT2, hI, rfl⟩ := hq
      have hP : va_P (dC, dI) vwCl (gw ad cz ci cj ((nI num), fO2, fA2, fB2, fT2, 0, fC, rs, dk, ds, fL, fl, fh)) H := hP
      have hD : va_D Ar (gw ad cz ci cj ((nI num), fO2, fA2, fB2, fT2, 0, fC, rs, dk, ds, fL, fl, fh)) := hD
      refine vx_ret (W.widen (k := 1) (n := 6) (Nat.le_of_ble_eq_true rfl) (Nat.le_of_ble_eq_true rfl) ?_)
      exact W.vret hx hb hr (fun t ht hW => ⟨⟨((nI num), fO2, fA2, fB2, fT2, 0, fC, rs, dk, ds, fL, fl, fh), rfl, (⟨num, hn1, hn2, rfl, fO2, fA2, fB2, fT2, hI, rfl⟩), (by rw [ht]; exact hP), va_K.moved hW.alike hK, hD⟩, hS.F ht⟩) hS.2.2 dX0_states_26
    · obtain ⟨sq, hsq⟩ := hE.2.2.2 ("GameGraph", 42, "the number of states is not 1 .. 60") (by decide +kernel)
      exact vx_throwS (names := ["java/lang/RuntimeException", "java/lang/Exception"]) hx hb hl0 hown (by decide +kernel) (by decide +kernel) (hw _ m_3_36) (hw _ m_0_39) hsq (vx_hat (fun w h => hw w (x_atA w h)) x_abA (fun w h => va_Nw.use (x_bad_ot w h) (hE.2.2.1 w h))) (List.forall_mem_cons.mpr ⟨by decide +kernel, List.forall_mem_cons.mpr ⟨by decide +kernel, x_agA⟩⟩) hE.1 hE.2.1 hS (hl.1.trans hml.symm) dX0_states_11 dX0_states_14 dX0_states_15 dX0_states_17 dX0_states_20 (fun x hx9 => (htab x hx9).elim) (Nat.le_of_ble_eq_true rfl) (Nat.le_of_ble_eq_true rfl) (Nat.le_of_ble_eq_true rfl) (Nat.le_of_ble_eq_true rfl) hlocks (fun t hal hz hq9 => ⟨(cnt, fO, fA, fB, fT, sv, fC, rs, dk, ds, fL, fl, fh), trivial, ⟨(⟨rfl, rfl, k_160' (Or.inr cb_2)⟩), hP.kept (fun k q hk => hq9 q.1 (va_at.lt (hP k q hk))), va_K.moved hal hK, hD⟩, Nat.le_trans hS.1 hz, fun q h1 h2 => (hq9 q (Nat.lt_of_lt_of_le h1 hS.1)).trans (hS.2.1 q h1 h2)⟩) hS.2.2 (Nat.le_of_ble_eq_true rfl) (Nat.le_of_ble_eq_true rfl)
set_option maxHeartbeats 4000000 in
set_option maxRecDepth 100000 in
theorem c_X0_end (l : Launch) (hl0 : l.stackTraces = false) (dC : Nat → ClassId) (dI : Nat → Nat → Nat) (ad : Nat → Nat) (cz ci cj : ClassId) (sz : Nat) (cnt : Int32) (fO : Nat → Int32) (fA : Nat → Int32) (fB : Nat → Int32) (fT : Nat → Int32) (sv : Int32) (fC : Nat → Int64) (rs : Int64) (dk : Int32) (ds : Int32) (fL : Nat → Int32) (fl : Nat → Int32) (fh : Nat → Int32) (n : Int32) (x : Int32) (y : Int32) (c0 : Nat) (hg : g_ok c0 fO fA fB fT) : vx_Met l yX0_end wX0_end ({ frames := 7, cells := 2, slots := 12, locals := 111 }) (va_Pc [.ref (ad 0), .int n, .int x, .int y] (x_Pre (dC, dI) vwCl (gty cz ci cj) (gw ad cz ci cj ((nI c0), fO, fA, fB, fT, sv, fC, rs, dk, ds, fL, fl, fh)) sz)) (va_Qv (fun (u : GS) => ∃ k, k < c0 ∧ n = nI k ∧ ((-2 ≤ x.toInt ∧ x.toInt ≤ 100) ∧ (-2 ≤ y.toInt ∧ y.toInt ≤ 100)) ∧ ∃ fT2 : Nat → Int32, (∀ i, fT2 i = if k * 12 ≤ i ∧ i < k * 12 + 12 then 0 else fT i) ∧ u = ((nI c0), upd fO k 0, upd fA k x, upd fB k y, fT2, 0, fC, rs, dk, ds, fL, fl, fh)) (g_At (dC, dI) vwCl (gty cz ci cj) (va_A (gw ad cz ci cj ((nI c0), fO, fA, fB, fT, sv, fC, rs, dk, ds, fL, fl, fh)) sz) (gw ad cz ci cj)) (va_A (gw ad cz ci cj ((nI c0), fO, fA, fB, fT, sv, fC, rs, dk, ds, fL, fl, fh)) sz)) (x_XC (dC, dI) vwCl (gty cz ci cj) (va_A (gw ad cz ci cj ((nI c0), fO, fA, fB, fT, sv, fC, rs, dk, ds, fL, fl, fh)) sz) (gw ad cz ci cj) (fun (E : String) (u : GS) => (E = "java/lang/IndexOutOfBoundsException" ∧ u = ((nI c0), fO, fA, fB, fT, sv, fC, rs, dk, ds, fL, fl, fh) ∧ ∀ k, k < c0 → n ≠ nI k) ∨ (E = "java/lang/IllegalArgumentException" ∧ u = ((nI c0), fO, fA, fB, fT, sv, fC, rs, dk, ds, fL, fl, fh) ∧ (∃ k, k < c0 ∧ n = nI k) ∧ ¬ ((-2 ≤ x.toInt ∧ x.toInt ≤ 100) ∧ (-2 ≤ y.toInt ∧ y.toInt ≤ 100))))) 2 12 (va_A (gw ad cz ci cj ((nI c0), fO, fA, fB, fT, sv, fC, rs, dk, ds, fL, fl, fh)) sz) := by
  refine vx_ofW (cc := cX0_end) (maxL := 4) (ret := none) (by decide) rfl ?_
  intro p e s m args below meth c s₁ Bd hml htab hv
  obtain ⟨rfl, hsz, hP, hK, hD0, hE⟩ := hv
  have hx := Bd.exec
  have hb := Bd.bytes
  have hr := Bd.returns
  have hts := atoms_spec (ws := wX0_end) Bd.pre
  have hw : ∀ w ∈ wAll, w.before _ s = true := fun w h => hts w (List.mem_cons_of_mem _ h)
  have hown : s.vm.findClass "GameGraph" = some m.cls := findClass_of_methodNamed Bd.named
  have hlocks := Bd.notSynchronized
  subst hsz
  have hD := hD0.self (sz := s.heap.size)
  generalize hAe : va_A (gw ad cz ci cj ((nI c0), fO, fA, fB, fT, sv, fC, rs, dk, ds, fL, fl, fh)) s.heap.size = Ar at hD hE ⊢
  have hA : ∀ q : Nat, s.heap.size ≤ q → Ar q := fun q h => by rw [← hAe]; exact Or.inr h
  obtain ⟨H, hH⟩ : ∃ H : Heap, H = s.heap := ⟨_, rfl⟩
  have hS : va_S Ar s.heap H [] := by rw [hH]; exact va_S.rf
  have hP : va_P (dC, dI) vwCl (gw ad cz ci cj ((nI c0), fO, fA, fB, fT, sv, fC, rs, dk, ds, fL, fl, fh)) H := by rw [hH]; exact hP
  rw [← hH]
  have hl := lv_entry ([.ref (ad 0), .int n, .int x, .int y]) (n := 4) (Nat.le_of_ble_eq_true rfl)
  rw [lg_entry_eq]
  generalize (lg_sl ([.ref (ad 0), .int n, .int x, .int y]) ++ List.replicate (4 - (lg_sl ([.ref (ad 0), .int n, .int x, .int y])).length) Slot.unset).toArray = ls at hl ⊢
  have hl : lv_has ls 4 [(0, .ref (ad 0)), (1, .int n), (2, .int x), (3, .int y)] := hl
  have h60 := hg.2.1
  refine lv_aload_n hx hb dX0_end_0 rfl (lv_at hl 0 rfl) ?_
  refine lv_iload_n hx hb dX0_end_1 rfl (lv_at hl 1 rfl) ?_
  refine g_callxv ⟨hx, hb, hml, hown, hw⟩ (c_X0_requireState l hl0 dC dI ad cz ci cj H.size (nI c0) fO fA fB fT sv fC rs dk ds fL fl fh n c0 rfl hg.2.1) (cwV 1 hw gv_X0_X0_requireState rfl rfl rfl (by decide +kernel) ⟨Nat.le_of_ble_eq_true rfl, Nat.le_of_ble_eq_true rfl⟩) hK hP hD hS hA hE (ci := 0) (q0 := 0) rfl rfl rfl hl.1 rfl (Nat.le_of_ble_eq_true rfl) dX0_end_2 ⟨Nat.le_of_ble_eq_true rfl, Nat.le_of_ble_eq_true rfl⟩ (fun  un H locs hq hP hD hS => ?_) (fun E ce q9 un H locs hq hP hD hS hce hcv hcl => ?_)
  · obtain ⟨rfl, k, hk, rfl⟩ := hq
    have hP : va_P (dC, dI) vwCl (gw ad cz ci cj ((nI c0), fO, fA, fB, fT, sv, fC, rs, dk, ds, fL, fl, fh)) H := hP
    have hD : va_D Ar (gw ad cz ci cj ((nI c0), fO, fA, fB, fT, sv, fC, rs, dk, ds, fL, fl, fh)) := hD
    refine lv_iload_n hx hb dX0_end_5 rfl (lv_at hl 2 rfl) ?_
    refine g_calls ⟨hx, hb, hml, hown, hw⟩ (c_X0_isGoal l x) (va_cwS 1 hw gs_X0_X0_isGoal rfl rfl rfl (by decide +kernel) ⟨Nat.le_of_ble_eq_true rfl, Nat.le_of_ble_eq_true rfl⟩) hP hS rfl hl.1 rfl (Nat.le_of_ble_eq_true rfl) dX0_end_6 ⟨Nat.le_of_ble_eq_true rfl, Nat.le_of_ble_eq_true rfl⟩ (fun ra_1 H locs hq hP hS => ?_)
    have hP : va_P (dC, dI) vwCl (gw ad cz ci cj ((nI c0), fO, fA, fB, fT, sv, fC, rs, dk, ds, fL, fl, fh)) H := hP
    have hD : va_D Ar (gw ad cz ci cj ((nI c0), fO, fA, fB, fT, sv, fC, rs, dk, ds, fL, fl, fh)) := hD
    refine lv_if_eq (tgt := 19) hx hb dX0_end_9 (by decide) (fun ca_2 => ?_) (fun ca_2 => ?_)
    · have h1 := k_i0 hq ca_2
      obtain ⟨sq, hsq⟩ := hE.2.2.2 ("GameGraph", 54, "a goal is not -2 .. 100") (by decide +kernel)
      exact vx_throwS (names := ["java/lang/RuntimeException", "java/lang/Exception"]) hx hb hl0 hown (by decide +kernel) (by decide +kernel) (hw _ m_3_36) (hw _ m_0_39) hsq (vx_hat (fun w h => hw w (x_atA w h)) x_abA (fun w h => va_Nw.use (x_bad_ot w h) (hE.2.2.1 w h))) (List.forall_mem_cons.mpr ⟨by decide +kernel, List.forall_mem_cons.mpr ⟨by decide +kernel, x_agA⟩⟩) hE.1 hE.2.1 hS (hl.1.trans hml.symm) dX0_end_19 dX0_end_22 dX0_end_23 dX0_end_25 dX0_end_28 (fun x hx9 => (htab x hx9).elim) (Nat.le_of_ble_eq_true rfl) (Nat.le_of_ble_eq_true rfl) (Nat.le_of_ble_eq_true rfl) (Nat.le_of_ble_eq_true rfl) hlocks (fun t hal hz hq9 => ⟨((nI c0), fO, fA, fB, fT, sv, fC, rs, dk, ds, fL, fl, fh), trivial, ⟨(Or.inr ⟨rfl, rfl, ⟨k, hk, rfl⟩, fun h => h1 h.1⟩), hP.kept (fun k q hk => hq9 q.1 (va_at.lt (hP k q hk))), va_K.moved hal hK, hD⟩, Nat.le_trans hS.1 hz, fun q h1 h2 => (hq9 q (Nat.lt_of_lt_of_le h1 hS.1)).trans (hS.2.1 q h1 h2)⟩) hS.2.2 (Nat.le_of_ble_eq_true rfl) (Nat.le_of_ble_eq_true rfl)
    · have h1 := k_i1 hq ca_2
      refine lv_iload_n hx hb dX0_end_12 rfl (lv_at hl 3 rfl) ?_
      refine g_calls ⟨hx, hb, hml, hown, hw⟩ (c_X0_isGoal l y) (va_cwS 1 hw gs_X0_X0_isGoal rfl rfl rfl (by decide +kernel) ⟨Nat.le_of_ble_eq_true rfl, Nat.le_of_ble_eq_true rfl⟩) hP hS rfl hl.1 rfl (Nat.le_of_ble_eq_true rfl) dX0_end_13 ⟨Nat.le_of_ble_eq_true rfl, Nat.le_of_ble_eq_true rfl⟩ (fun rab_3 H locs hq hP hS => ?_)
      have hP : va_P (dC, dI) vwCl (gw ad cz ci cj ((nI c0), fO, fA, fB, fT, sv, fC, rs, dk, ds, fL, fl, fh)) H := hP
      have hD : va_D Ar (gw ad cz ci cj ((nI c0), fO, fA, fB, fT, sv, fC, rs, dk, ds, fL, fl, fh)) := hD
      refine lv_if_ne (tgt := 29) hx hb dX0_end_16 (by decide) (fun cab_4 => ?_) (fun cab_4 => ?_)
      · have h2 := k_i1 hq cab_4
        refine lv_aload_n hx hb dX0_end_29 rfl (lv_at hl 0 rfl) ?_
        refine lv_iload_n hx hb dX0_end_30 rfl (lv_at hl 1 rfl) ?_
        refine lv_iconst (v := 0) hx hb dX0_end_31 (by decide) ?_
        refine lv_iload_n hx hb dX0_end_32 rfl (lv_at hl 2 rfl) ?_
        refine lv_iload_n hx hb dX0_end_33 rfl (lv_at hl 3 rfl) ?_
        refine g_callv ⟨hx, hb, hml, hown, hw⟩ (c_X0_makeState l dC dI ad cz ci cj H.size (nI c0) fO fA fB fT sv fC rs dk ds fL fl fh k 0 x y (by omega) (by decide)) (cwV 4 hw gv_X0_X0_makeState rfl rfl rfl (by decide +kernel) ⟨Nat.le_of_ble_eq_true rfl, Nat.le_of_ble_eq_true rfl⟩) hK hP hD hS hA (ci := 0) (q0 := 0) rfl rfl rfl hl.1 rfl (Nat.le_of_ble_eq_true rfl) dX0_end_34 ⟨Nat.le_of_ble_eq_true rfl, Nat.le_of_ble_eq_true rfl⟩ (fun  un H locs hq hP hD hS => ?_)
        obtain ⟨fT2, hT, rfl⟩ := hq
        have hP : va_P (dC, dI) vwCl (gw ad cz ci cj ((nI c0), (upd fO k 0), (upd fA k x), (upd fB k y), fT2, 0, fC, rs, dk, ds, fL, fl, fh)) H := hP
        have hD : va_D Ar (gw ad cz ci cj ((nI c0), (upd fO k 0), (upd fA k x), (upd fB k y), fT2, 0, fC, rs, dk, ds, fL, fl, fh)) := hD
        refine vx_ret (W.widen (k := 2) (n := 12) (Nat.le_of_ble_eq_true rfl) (Nat.le_of_ble_eq_true rfl) ?_)
        exact W.vret hx hb hr (fun t ht hW => ⟨⟨((nI c0), (upd fO k 0), (upd fA k x), (upd fB k y), fT2, 0, fC, rs, dk, ds, fL, fl, fh), rfl, (⟨k, hk, rfl, ⟨h1, h2⟩, fT2, hT, rfl⟩), (by rw [ht]; exact hP), va_K.moved hW.alike hK, hD⟩, hS.F ht⟩) hS.2.2 dX0_end_37
      · have h2 := k_i0 hq cab_4
        obtain ⟨sq, hsq⟩ := hE.2.2.2 ("GameGraph", 54, "a goal is not -2 .. 100") (by decide +kernel)
        exact vx_throwS (names := ["java/lang/RuntimeException", "java/lang/Exception"]) hx hb hl0 hown (by decide +kernel) (by decide +kernel) (hw _ m_3_36) (hw _ m_0_39) hsq (vx_hat (fun w h => hw w (x_atA w h)) x_abA (fun w h => va_Nw.use (x_bad_ot w h) (hE.2.2.1 w h))) (List.forall_mem_cons.mpr ⟨by decide +kernel, List.forall_mem_cons.mpr ⟨by decide +kernel, x_agA⟩⟩) hE.1 hE.2.1 hS (hl.1.trans hml.symm) dX0_end_19 dX0_end_22 dX0_end_23 dX0_end_25 dX0_end_28 (fun x hx9 => (htab x hx9).elim) (Nat.le_of_ble_eq_true rfl) (Nat.le_of_ble_eq_true rfl) (Nat.le_of_ble_eq_true rfl) (Nat.le_of_ble_eq_true rfl) hlocks (fun t hal hz hq9 => ⟨((nI c0), fO, fA, fB, fT, sv, fC, rs, dk, ds, fL, fl, fh), trivial, ⟨(Or.inr ⟨rfl, rfl, ⟨k, hk, rfl⟩, fun h => h2 h.2⟩), hP.kept (fun k q hk => hq9 q.1 (va_at.lt (hP k q hk))), va_K.moved hal hK, hD⟩, Nat.le_trans hS.1 hz, fun q h1 h2 => (hq9 q (Nat.lt_of_lt_of_le h1 hS.1)).trans (hS.2.1 q h1 h2)⟩) hS.2.2 (Nat.le_of_ble_eq_true rfl) (Nat.le_of_ble_eq_true rfl)
  · obtain ⟨rfl, rfl, hno⟩ := hq
    exact vx_out (fun x hx9 => (htab x hx9).elim) hlocks hce hcv hcl (fun t ht hal => ⟨((nI c0), fO, fA, fB, fT, sv, fC, rs, dk, ds, fL, fl, fh), trivial, ⟨(Or.inl ⟨rfl, rfl, hno⟩), (by rw [ht]; exact hP), va_K.moved hal hK, hD⟩, hS.F ht⟩) hS.2.2 (Nat.le_of_ble_eq_true rfl) (Nat.le_of_ble_eq_true rfl)
set_option maxHeartbeats 4000000 in
set_option maxRecDepth 100000 in
theorem c_X0_open (l : Launch) (hl0 : l.stackTraces = false) (dC : Nat → ClassId) (dI : Nat → Nat → Nat) (ad : Nat → Nat) (cz ci cj : ClassId) (sz : Nat) (cnt : Int32) (fO : Nat → Int32) (fA : Nat → Int32) (fB : Nat → Int32) (fT : Nat → Int32) (sv : Int32) (fC : Nat → Int64) (rs : Int64) (dk : Int32) (ds : Int32) (fL : Nat → Int32) (fl : Nat → Int32) (fh : Nat → Int32) (n : Int32) (x : Int32) (y : Int32) (c0 : Nat) (hg : g_ok c0 fO fA fB fT) : vx_Met l yX0_open wX0_open ({ frames := 7, cells := 2, slots := 12, locals := 111 }) (va_Pc [.ref (ad 0), .int n, .int x, .int y] (x_Pre (dC, dI) vwCl (gty cz ci cj) (gw ad cz ci cj ((nI c0), fO, fA, fB, fT, sv, fC, rs, dk, ds, fL, fl, fh)) sz)) (va_Qv (fun (u : GS) => ∃ k, k < c0 ∧ n = nI k ∧ ((0 ≤ x.toInt ∧ x.toInt ≤ 12) ∧ (0 ≤ y.toInt ∧ y.toInt ≤ 12) ∧ x * y ≤ 12) ∧ ∃ fT2 : Nat → Int32, (∀ i, fT2 i = if k * 12 ≤ i ∧ i < k * 12 + 12 then 0 else fT i) ∧ u = ((nI c0), upd fO k 1, upd fA k x, upd fB k y, fT2, 0, fC, rs, dk, ds, fL, fl, fh)) (g_At (dC, dI) vwCl (gty cz ci cj) (va_A (gw ad cz ci cj ((nI c0), fO, fA, fB, fT, sv, fC, rs, dk, ds, fL, fl, fh)) sz) (gw ad cz ci cj)) (va_A (gw ad cz ci cj ((nI c0), fO, fA, fB, fT, sv, fC, rs, dk, ds, fL, fl, fh)) sz)) (x_XC (dC, dI) vwCl (gty cz ci cj) (va_A (gw ad cz ci cj ((nI c0), fO, fA, fB, fT, sv, fC, rs, dk, ds, fL, fl, fh)) sz) (gw ad cz ci cj) (fun (E : String) (u : GS) => (E = "java/lang/IndexOutOfBoundsException" ∧ u = ((nI c0), fO, fA, fB, fT, sv, fC, rs, dk, ds, fL, fl, fh) ∧ ∀ k, k < c0 → n ≠ nI k) ∨ (E = "java/lang/IllegalArgumentException" ∧ u = ((nI c0), fO, fA, fB, fT, sv, fC, rs, dk, ds, fL, fl, fh) ∧ (∃ k, k < c0 ∧ n = nI k) ∧ ¬ ((0 ≤ x.toInt ∧ x.toInt ≤ 12) ∧ (0 ≤ y.toInt ∧ y.toInt ≤ 12) ∧ x * y ≤ 12)))) 2 12 (va_A (gw ad cz ci cj ((nI c0), fO, fA, fB, fT, sv, fC, rs, dk, ds, fL, fl, fh)) sz) := by
  refine vx_ofW (cc := cX0_open) (maxL := 4) (ret := none) (by decide) rfl ?_
  intro p e s m args below meth c s₁ Bd hml htab hv
  obtain ⟨rfl, hsz, hP, hK, hD0, hE⟩ := hv
  have hx := Bd.exec
  have hb := Bd.bytes
  have hr := Bd.returns
  have hts := atoms_spec (ws := wX0_open) Bd.pre
  have hw : ∀ w ∈ wAll, w.before _ s = true := fun w h => hts w (List.mem_cons_of_mem _ h)
  have hown : s.vm.findClass "GameGraph" = some m.cls := findClass_of_methodNamed Bd.named
  have hlocks := Bd.notSynchronized
  subst hsz
  have hD := hD0.self (sz := s.heap.size)
  generalize hAe : va_A (gw ad cz ci cj ((nI c0), fO, fA, fB, fT, sv, fC, rs, dk, ds, fL, fl, fh)) s.heap.size = Ar at hD hE ⊢
  have hA : ∀ q : Nat, s.heap.size ≤ q → Ar q := fun q h => by rw [← hAe]; exact Or.inr h
  obtain ⟨H, hH⟩ : ∃ H : Heap, H = s.heap := ⟨_, rfl⟩
  have hS : va_S Ar s.heap H [] := by rw [hH]; exact va_S.rf
  have hP : va_P (dC, dI) vwCl (gw ad cz ci cj ((nI c0), fO, fA, fB, fT, sv, fC, rs, dk, ds, fL, fl, fh)) H := by rw [hH]; exact hP
  rw [← hH]
  have hl := lv_entry ([.ref (ad 0), .int n, .int x, .int y]) (n := 4) (Nat.le_of_ble_eq_true rfl)
  rw [lg_entry_eq]
  generalize (lg_sl ([.ref (ad 0), .int n, .int x, .int y]) ++ List.replicate (4 - (lg_sl ([.ref (ad 0), .int n, .int x, .int y])).length) Slot.unset).toArray = ls at hl ⊢
  have hl : lv_has ls 4 [(0, .ref (ad 0)), (1, .int n), (2, .int x), (3, .int y)] := hl
  have h60 := hg.2.1
  refine lv_aload_n hx hb dX0_open_0 rfl (lv_at hl 0 rfl) ?_
  refine lv_iload_n hx hb dX0_open_1 rfl (lv_at hl 1 rfl) ?_
  refine g_callxv ⟨hx, hb, hml, hown, hw⟩ (c_X0_requireState l hl0 dC dI ad cz ci cj H.size (nI c0) fO fA fB fT sv fC rs dk ds fL fl fh n c0 rfl hg.2.1) (cwV 1 hw gv_X0_X0_requireState rfl rfl rfl (by decide +kernel) ⟨Nat.le_of_ble_eq_true rfl, Nat.le_of_ble_eq_true rfl⟩) hK hP hD hS hA hE (ci := 0) (q0 := 0) rfl rfl rfl hl.1 rfl (Nat.le_of_ble_eq_true rfl) dX0_open_2 ⟨Nat.le_of_ble_eq_true rfl, Nat.le_of_ble_eq_true rfl⟩ (fun  un H locs hq hP hD hS => ?_) (fun E ce q9 un H locs hq hP hD hS hce hcv hcl => ?_)
  · obtain ⟨rfl, k, hk, rfl⟩ := hq
    have hP : va_P (dC, dI) vwCl (gw ad cz ci cj ((nI c0), fO, fA, fB, fT, sv, fC, rs, dk, ds, fL, fl, fh)) H := hP
    have hD : va_D Ar (gw ad cz ci cj ((nI c0), fO, fA, fB, fT, sv, fC, rs, dk, ds, fL, fl, fh)) := hD
    refine lv_iload_n hx hb dX0_open_5 rfl (lv_at hl 2 rfl) ?_
    refine g_calls ⟨hx, hb, hml, hown, hw⟩ (c_X0_isNumberOfMoves l x) (va_cwS 1 hw gs_X0_X0_isNumberOfMoves rfl rfl rfl (by decide +kernel) ⟨Nat.le_of_ble_eq_true rfl, Nat.le_of_ble_eq_true rfl⟩) hP hS rfl hl.1 rfl (Nat.le_of_ble_eq_true rfl) dX0_open_6 ⟨Nat.le_of_ble_eq_true rfl, Nat.le_of_ble_eq_true rfl⟩ (fun ra_1 H locs hq hP hS => ?_)
    have hP : va_P (dC, dI) vwCl (gw ad cz ci cj ((nI c0), fO, fA, fB, fT, sv, fC, rs, dk, ds, fL, fl, fh)) H := hP
    have hD : va_D Ar (gw ad cz ci cj ((nI c0), fO, fA, fB, fT, sv, fC, rs, dk, ds, fL, fl, fh)) := hD
    refine lv_if_eq (tgt := 27) hx hb dX0_open_9 (by decide) (fun ca_2 => ?_) (fun ca_2 => ?_)
    · have h1 := k_i0 hq ca_2
      obtain ⟨sq, hsq⟩ := hE.2.2.2 ("GameGraph", 63, "a number of moves is not 0 .. 12, or the product is above 12") (by decide +kernel)
      exact vx_throwS (names := ["java/lang/RuntimeException", "java/lang/Exception"]) hx hb hl0 hown (by decide +kernel) (by decide +kernel) (hw _ m_3_36) (hw _ m_0_39) hsq (vx_hat (fun w h => hw w (x_atA w h)) x_abA (fun w h => va_Nw.use (x_bad_ot w h) (hE.2.2.1 w h))) (List.forall_mem_cons.mpr ⟨by decide +kernel, List.forall_mem_cons.mpr ⟨by decide +kernel, x_agA⟩⟩) hE.1 hE.2.1 hS (hl.1.trans hml.symm) dX0_open_27 dX0_open_30 dX0_open_31 dX0_open_33 dX0_open_36 (fun x hx9 => (htab x hx9).elim) (Nat.le_of_ble_eq_true rfl) (Nat.le_of_ble_eq_true rfl) (Nat.le_of_ble_eq_true rfl) (Nat.le_of_ble_eq_true rfl) hlocks (fun t hal hz hq9 => ⟨((nI c0), fO, fA, fB, fT, sv, fC, rs, dk, ds, fL, fl, fh), trivial, ⟨(Or.inr ⟨rfl, rfl, ⟨k, hk, rfl⟩, fun h => h1 h.1⟩), hP.kept (fun k q hk => hq9 q.1 (va_at.lt (hP k q hk))), va_K.moved hal hK, hD⟩, Nat.le_trans hS.1 hz, fun q h1 h2 => (hq9 q (Nat.lt_of_lt_of_le h1 hS.1)).trans (hS.2.1 q h1 h2)⟩) hS.2.2 (Nat.le_of_ble_eq_true rfl) (Nat.le_of_ble_eq_true rfl)
    · have h1 := k_i1 hq ca_2
      refine lv_iload_n hx hb dX0_open_12 rfl (lv_at hl 3 rfl) ?_
      refine g_calls ⟨hx, hb, hml, hown, hw⟩ (c_X0_isNumberOfMoves l y) (va_cwS 1 hw gs_X0_X0_isNumberOfMoves rfl rfl rfl (by decide +kernel) ⟨Nat.le_of_ble_eq_true rfl, Nat.le_of_ble_eq_true rfl⟩) hP hS rfl hl.1 rfl (Nat.le_of_ble_eq_true rfl) dX0_open_13 ⟨Nat.le_of_ble_eq_true rfl, Nat.le_of_ble_eq_true rfl⟩ (fun rab_3 H locs hq hP hS => ?_)
      have hP : va_P (dC, dI) vwCl (gw ad cz ci cj ((nI c0), fO, fA, fB, fT, sv, fC, rs, dk, ds, fL, fl, fh)) H := hP
      have hD : va_D Ar (gw ad cz ci cj ((nI c0), fO, fA, fB, fT, sv, fC, rs, dk, ds, fL, fl, fh)) := hD
      refine lv_if_eq (tgt := 27) hx hb dX0_open_16 (by decide) (fun cab_4 => ?_) (fun cab_4 => ?_)
      · have h2 := k_i0 hq cab_4
        obtain ⟨sq, hsq⟩ := hE.2.2.2 ("GameGraph", 63, "a number of moves is not 0 .. 12, or the product is above 12") (by decide +kernel)
        exact vx_throwS (names := ["java/lang/RuntimeException", "java/lang/Exception"]) hx hb hl0 hown (by decide +kernel) (by decide +kernel) (hw _ m_3_36) (hw _ m_0_39) hsq (vx_hat (fun w h => hw w (x_atA w h)) x_abA (fun w h => va_Nw.use (x_bad_ot w h) (hE.2.2.1 w h))) (List.forall_mem_cons.mpr ⟨by decide +kernel, List.forall_mem_cons.mpr ⟨by decide +kernel, x_agA⟩⟩) hE.1 hE.2.1 hS (hl.1.trans hml.symm) dX0_open_27 dX0_open_30 dX0_open_31 dX0_open_33 dX0_open_36 (fun x hx9 => (htab x hx9).elim) (Nat.le_of_ble_eq_true rfl) (Nat.le_of_ble_eq_true rfl) (Nat.le_of_ble_eq_true rfl) (Nat.le_of_ble_eq_true rfl) hlocks (fun t hal hz hq9 => ⟨((nI c0), fO, fA, fB, fT, sv, fC, rs, dk, ds, fL, fl, fh), trivial, ⟨(Or.inr ⟨rfl, rfl, ⟨k, hk, rfl⟩, fun h => h2 h.2.1⟩), hP.kept (fun k q hk => hq9 q.1 (va_at.lt (hP k q hk))), va_K.moved hal hK, hD⟩, Nat.le_trans hS.1 hz, fun q h1 h2 => (hq9 q (Nat.lt_of_lt_of_le h1 hS.1)).trans (hS.2.1 q h1 h2)⟩) hS.2.2 (Nat.le_of_ble_eq_true rfl) (Nat.le_of_ble_eq_true rfl)
      · have h2 := k_i1 hq cab_4
        refine lv_iload_n hx hb dX0_open_19 rfl (lv_at hl 2 rfl) ?_
        refine lv_iload_n hx hb dX0_open_20 rfl (lv_at hl 3 rfl) ?_
        refine lv_imul hx hb dX0_open_21 ?_
        refine lv_bipush (v := 12) hx hb dX0_open_22 (by decide) ?_
        refine lv_icmp_le (tgt := 37) hx hb dX0_open_24 (by decide) (fun cabb_5 => ?_) (fun cabb_5 => ?_)
        · refine lv_aload_n hx hb dX0_open_37 rfl (lv_at hl 0 rfl) ?_
          refine lv_iload_n hx hb dX0_open_38 rfl (lv_at hl 1 rfl) ?_
          refine lv_iconst (v := 1) hx hb dX0_open_39 (by decide) ?_
          refine lv_iload_n hx hb dX0_open_40 rfl (lv_at hl 2 rfl) ?_
          refine lv_iload_n hx hb dX0_open_41 rfl (lv_at hl 3 rfl) ?_
          refine g_callv ⟨hx, hb, hml, hown, hw⟩ (c_X0_makeState l dC dI ad cz ci cj H.size (nI c0) fO fA fB fT sv fC rs dk ds fL fl fh k 1 x y (by omega) (by decide)) (cwV 4 hw gv_X0_X0_makeState rfl rfl rfl (by decide +kernel) ⟨Nat.le_of_ble_eq_true rfl, Nat.le_of_ble_eq_true rfl⟩) hK hP hD hS hA (ci := 0) (q0 := 0) rfl rfl rfl hl.1 rfl (Nat.le_of_ble_eq_true rfl) dX0_open_42 ⟨Nat.le_of_ble_eq_true rfl, Nat.le_of_ble_eq_true rfl⟩ (fun  un H locs hq hP hD hS => ?_)
          obtain ⟨fT2, hT, rfl⟩ := hq
          have hP : va_P (dC, dI) vwCl (gw ad cz ci cj ((nI c0), (upd fO k 1), (upd fA k x), (upd fB k y), fT2, 0, fC, rs, dk, ds, fL, fl, fh)) H := hP
          have hD : va_D Ar (gw ad cz ci cj ((nI c0), (upd fO k 1), (upd fA k x), (upd fB k y), fT2, 0, fC, rs, dk, ds, fL, fl, fh)) := hD
          refine vx_ret (W.widen (k := 2) (n := 12) (Nat.le_of_ble_eq_true rfl) (Nat.le_of_ble_eq_true rfl) ?_)
          exact W.vret hx hb hr (fun t ht hW => ⟨⟨((nI c0), (upd fO k 1), (upd fA k x), (upd fB k y), fT2, 0, fC, rs, dk, ds, fL, fl, fh), rfl, (⟨k, hk, rfl, ⟨h1, h2, cabb_5⟩, fT2, hT, rfl⟩), (by rw [ht]; exact hP), va_K.moved hW.alike hK, hD⟩, hS.F ht⟩) hS.2.2 dX0_open_45
        · obtain ⟨sq, hsq⟩ := hE.2.2.2 ("GameGraph", 63, "a number of moves is not 0 .. 12, or the product is above 12") (by decide +kernel)
          exact vx_throwS (names := ["java/lang/RuntimeException", "java/lang/Exception"]) hx hb hl0 hown (by decide +kernel) (by decide +kernel) (hw _ m_3_36) (hw _ m_0_39) hsq (vx_hat (fun w h => hw w (x_atA w h)) x_abA (fun w h => va_Nw.use (x_bad_ot w h) (hE.2.2.1 w h))) (List.forall_mem_cons.mpr ⟨by decide +kernel, List.forall_mem_cons.mpr ⟨by decide +kernel, x_agA⟩⟩) hE.1 hE.2.1 hS (hl.1.trans hml.symm) dX0_open_27 dX0_open_30 dX0_open_31 dX0_open_33 dX0_open_36 (fun x hx9 => (htab x hx9).elim) (Nat.le_of_ble_eq_true rfl) (Nat.le_of_ble_eq_true rfl) (Nat.le_of_ble_eq_true rfl) (Nat.le_of_ble_eq_true rfl) hlocks (fun t hal hz hq9 => ⟨((nI c0), fO, fA, fB, fT, sv, fC, rs, dk, ds, fL, fl, fh), trivial, ⟨(Or.inr ⟨rfl, rfl, ⟨k, hk, rfl⟩, fun h => cabb_5 h.2.2⟩), hP.kept (fun k q hk => hq9 q.1 (va_at.lt (hP k q hk))), va_K.moved hal hK, hD⟩, Nat.le_trans hS.1 hz, fun q h1 h2 => (hq9 q (Nat.lt_of_lt_of_le h1 hS.1)).trans (hS.2.1 q h1 h2)⟩) hS.2.2 (Nat.le_of_ble_eq_true rfl) (Nat.le_of_ble_eq_true rfl)
  · obtain ⟨rfl, rfl, hno⟩ := hq
    exact vx_out (fun x hx9 => (htab x hx9).elim) hlocks hce hcv hcl (fun t ht hal => ⟨((nI c0), fO, fA, fB, fT, sv, fC, rs, dk, ds, fL, fl, fh), trivial, ⟨(Or.inl ⟨rfl, rfl, hno⟩), (by rw [ht]; exact hP), va_K.moved hal hK, hD⟩, hS.F ht⟩) hS.2.2 (Nat.le_of_ble_eq_true rfl) (Nat.le_of_ble_eq_true rfl)
set_option maxHeartbeats 4000000 in
set_option maxRecDepth 100000 in
theorem c_X0_link (l : Launch) (hl0 : l.stackTraces = false) (dC : Nat → ClassId) (dI : Nat → Nat → Nat) (ad : Nat → Nat) (cz ci cj : ClassId) (sz : Nat) (cnt : Int32) (fO : Nat → Int32) (fA : Nat → Int32) (fB : Nat → Int32) (fT : Nat → Int32) (sv : Int32) (fC : Nat → Int64) (rs : Int64) (dk : Int32) (ds : Int32) (fL : Nat → Int32) (fl : Nat → Int32) (fh : Nat → Int32) (n : Int32) (j : Int32) (x : Int32) (c0 : Nat) (hg : g_ok c0 fO fA fB fT) : vx_Met l yX0_link wX0_link ({ frames := 8, cells := 3, slots := 18, locals := 133 }) (va_Pc [.ref (ad 0), .int n, .int j, .int x] (x_Pre (dC, dI) vwCl (gty cz ci cj) (gw ad cz ci cj ((nI c0), fO, fA, fB, fT, sv, fC, rs, dk, ds, fL, fl, fh)) sz)) (va_Qv (fun (u : GS) => ∃ a i t, a < c0 ∧ i < gmv fO fA fB a ∧ t < c0 ∧ n = nI a ∧ j = nI i ∧ x = nI t ∧ u = ((nI c0), fO, fA, fB, upd fT (a * 12 + i) (nI t), 0, fC, rs, dk, ds, fL, fl, fh)) (g_At (dC, dI) vwCl (gty cz ci cj) (va_A (gw ad cz ci cj ((nI c0), fO, fA, fB, fT, sv, fC, rs, dk, ds, fL, fl, fh)) sz) (gw ad cz ci cj)) (va_A (gw ad cz ci cj ((nI c0), fO, fA, fB, fT, sv, fC, rs, dk, ds, fL, fl, fh)) sz)) (x_XC (dC, dI) vwCl (gty cz ci cj) (va_A (gw ad cz ci cj ((nI c0), fO, fA, fB, fT, sv, fC, rs, dk, ds, fL, fl, fh)) sz) (gw ad cz ci cj) (fun (E : String) (u : GS) => E = "java/lang/IndexOutOfBoundsException" ∧ u = ((nI c0), fO, fA, fB, fT, sv, fC, rs, dk, ds, fL, fl, fh) ∧ ∀ a i t, a < c0 → i < gmv fO fA fB a → t < c0 → ¬ (n = nI a ∧ j = nI i ∧ x = nI t))) 3 18 (va_A (gw ad cz ci cj ((nI c0), fO, fA, fB, fT, sv, fC, rs, dk, ds, fL, fl, fh)) sz) := by
  refine vx_ofW (cc := cX0_link) (maxL := 4) (ret := none) (by decide) rfl ?_
  intro p e s m args below meth c s₁ Bd hml htab hv
  obtain ⟨rfl, hsz, hP, hK, hD0, hE⟩ := hv
  have hx := Bd.exec
  have hb := Bd.bytes
  have hr := Bd.returns
  have hts := atoms_spec (ws := wX0_link) Bd.pre
  have hw : ∀ w ∈ wAll, w.before _ s = true := fun w h => hts w (List.mem_cons_of_mem _ h)
  have hown : s.vm.findClass "GameGraph" = some m.cls := findClass_of_methodNamed Bd.named
  have hlocks := Bd.notSynchronized
  subst hsz
  have hD := hD0.self (sz := s.heap.size)
  generalize hAe : va_A (gw ad cz ci cj ((nI c0), fO, fA, fB, fT, sv, fC, rs, dk, ds, fL, fl, fh)) s.heap.size = Ar at hD hE ⊢
  have hA : ∀ q : Nat, s.heap.size ≤ q → Ar q := fun q h => by rw [← hAe]; exact Or.inr h
  obtain ⟨H, hH⟩ : ∃ H : Heap, H = s.heap := ⟨_, rfl⟩
  have hS : va_S Ar s.heap H [] := by rw [hH]; exact va_S.rf
  have hP : va_P (dC, dI) vwCl (gw ad cz ci cj ((nI c0), fO, fA, fB, fT, sv, fC, rs, dk, ds, fL, fl, fh)) H := by rw [hH]; exact hP
  rw [← hH]
  have hl := lv_entry ([.ref (ad 0), .int n, .int j, .int x]) (n := 4) (Nat.le_of_ble_eq_true rfl)
  rw [lg_entry_eq]
  generalize (lg_sl ([.ref (ad 0), .int n, .int j, .int x]) ++ List.replicate (4 - (lg_sl ([.ref (ad 0), .int n, .int j, .int x])).length) Slot.unset).toArray = ls at hl ⊢
  have hl : lv_has ls 4 [(0, .ref (ad 0)), (1, .int n), (2, .int j), (3, .int x)] := hl
  have h60 := hg.2.1
  refine lv_aload_n hx hb dX0_link_0 rfl (lv_at hl 0 rfl) ?_
  refine lv_iload_n hx hb dX0_link_1 rfl (lv_at hl 1 rfl) ?_
  refine lv_iload_n hx hb dX0_link_2 rfl (lv_at hl 2 rfl) ?_
  refine g_callxv ⟨hx, hb, hml, hown, hw⟩ (c_X0_requireJointMove l hl0 dC dI ad cz ci cj H.size (nI c0) fO fA fB fT sv fC rs dk ds fL fl fh n j c0 hg) (cwV 2 hw gv_X0_X0_requireJointMove rfl rfl rfl (by decide +kernel) ⟨Nat.le_of_ble_eq_true rfl, Nat.le_of_ble_eq_true rfl⟩) hK hP hD hS hA hE (ci := 0) (q0 := 0) rfl rfl rfl hl.1 rfl (Nat.le_of_ble_eq_true rfl) dX0_link_3 ⟨Nat.le_of_ble_eq_true rfl, Nat.le_of_ble_eq_true rfl⟩ (fun  un H locs hq hP hD hS => ?_) (fun E ce q9 un H locs hq hP hD hS hce hcv hcl => ?_)
  · obtain ⟨rfl, a, i, ha, hi, rfl, rfl⟩ := hq
    have hP : va_P (dC, dI) vwCl (gw ad cz ci cj ((nI c0), fO, fA, fB, fT, sv, fC, rs, dk, ds, fL, fl, fh)) H := hP
    have hD : va_D Ar (gw ad cz ci cj ((nI c0), fO, fA, fB, fT, sv, fC, rs, dk, ds, fL, fl, fh)) := hD
    have h12 := (g_mvI hg ha).2
    refine lv_aload_n hx hb dX0_link_6 rfl (lv_at hl 0 rfl) ?_
    refine lv_iload_n hx hb dX0_link_7 rfl (lv_at hl 3 rfl) ?_
    refine g_callxv ⟨hx, hb, hml, hown, hw⟩ (c_X0_requireState l hl0 dC dI ad cz ci cj H.size (nI c0) fO fA fB fT sv fC rs dk ds fL fl fh x c0 rfl hg.2.1) (cwV 1 hw gv_X0_X0_requireState rfl rfl rfl (by decide +kernel) ⟨Nat.le_of_ble_eq_true rfl, Nat.le_of_ble_eq_true rfl⟩) hK hP hD hS hA hE (ci := 0) (q0 := 0) rfl rfl rfl hl.1 rfl (Nat.le_of_ble_eq_true rfl) dX0_link_8 ⟨Nat.le_of_ble_eq_true rfl, Nat.le_of_ble_eq_true rfl⟩ (fun  un H locs hq hP hD hS => ?_) (fun E ce q9 un H locs hq hP hD hS hce hcv hcl => ?_)
    · obtain ⟨rfl, t2, ht2, rfl⟩ := hq
      have hP : va_P (dC, dI) vwCl (gw ad cz ci cj ((nI c0), fO, fA, fB, fT, sv, fC, rs, dk, ds, fL, fl, fh)) H := hP
      have hD : va_D Ar (gw ad cz ci cj ((nI c0), fO, fA, fB, fT, sv, fC, rs, dk, ds, fL, fl, fh)) := hD
      refine lv_aload_n hx hb dX0_link_11 rfl (lv_at hl 0 rfl) ?_
      refine va_get (D := (dC, dI)) (ci := 0) (v := .ref (ad 4)) (C := RX0) (T := TX0) (N := 13) hx hb hw in_X0 hown hK hP 0 rfl rfl 4 (by decide) (hw _ m_1_22) (fun _ h9 => h9) rfl dX0_link_12 ?_
      refine lv_iload_n hx hb dX0_link_15 rfl (lv_at hl 1 rfl) ?_
      refine lv_bipush (v := 12) hx hb dX0_link_16 (by decide) ?_
      refine lv_imul hx hb dX0_link_18 ?_
      refine x_topi (y := nI (a * 12)) (pk_mul a 12) ?_
      refine lv_iload_n hx hb dX0_link_19 rfl (lv_at hl 2 rfl) ?_
      refine lv_iadd hx hb dX0_link_20 ?_
      refine x_topi (y := nI (a * 12 + i)) (nI_add _ _) ?_
      refine lv_iload_n hx hb dX0_link_21 rfl (lv_at hl 3 rfl) ?_
      refine va_iast hx hb hK hP hD hS 4 1 rfl rfl (vp_in_nI (by omega) (by decide)) dX0_link_22 (fun H locs hP hD hS => ?_)
      rw [nI_clamp (by omega)] at hP hD
      have hP : va_P (dC, dI) vwCl (gw ad cz ci cj ((nI c0), fO, fA, fB, (upd fT (a * 12 + i) (nI t2)), sv, fC, rs, dk, ds, fL, fl, fh)) H := hP
      have hD : va_D Ar (gw ad cz ci cj ((nI c0), fO, fA, fB, (upd fT (a * 12 + i) (nI t2)), sv, fC, rs, dk, ds, fL, fl, fh)) := hD
      refine lv_aload_n hx hb dX0_link_23 rfl (lv_at hl 0 rfl) ?_
      refine lv_iconst (v := 0) hx hb dX0_link_24 (by decide) ?_
      refine va_put (D := (dC, dI)) (ci := 0) (v := .int 0) (ty := .boolean) (C := RX0) (T := TX0) (N := 13) hx hb hw in_X0 tyX0 tyX0_ok nmX0 hown hK hP hD hS 0 rfl rfl 5 (by decide) (hw _ m_1_23) (fun _ h9 => h9) rfl (by decide +kernel) rfl rfl (Nat.le_of_ble_eq_true rfl) dX0_link_25 (fun H locs hP hD hS => ?_)
      have hP : va_P (dC, dI) vwCl (gw ad cz ci cj ((nI c0), fO, fA, fB, (upd fT (a * 12 + i) (nI t2)), 0, fC, rs, dk, ds, fL, fl, fh)) H := hP
      have hD : va_D Ar (gw ad cz ci cj ((nI c0), fO, fA, fB, (upd fT (a * 12 + i) (nI t2)), 0, fC, rs, dk, ds, fL, fl, fh)) := hD
      refine vx_ret (W.widen (k := 3) (n := 18) (Nat.le_of_ble_eq_true rfl) (Nat.le_of_ble_eq_true rfl) ?_)
      exact W.vret hx hb hr (fun t ht hW => ⟨⟨((nI c0), fO, fA, fB, (upd fT (a * 12 + i) (nI t2)), 0, fC, rs, dk, ds, fL, fl, fh), rfl, (⟨a, i, t2, ha, hi, ht2, rfl, rfl, rfl, rfl⟩), (by rw [ht]; exact hP), va_K.moved hW.alike hK, hD⟩, hS.F ht⟩) hS.2.2 dX0_link_28
    · obtain ⟨rfl, rfl, hno⟩ := hq
      exact vx_out (fun x hx9 => (htab x hx9).elim) hlocks hce hcv hcl (fun t ht hal => ⟨((nI c0), fO, fA, fB, fT, sv, fC, rs, dk, ds, fL, fl, fh), trivial, ⟨(⟨rfl, rfl, fun a i t _ _ ht h => hno t ht h.2.2⟩), (by rw [ht]; exact hP), va_K.moved hal hK, hD⟩, hS.F ht⟩) hS.2.2 (Nat.le_of_ble_eq_true rfl) (Nat.le_of_ble_eq_true rfl)
  · obtain ⟨rfl, rfl, hno⟩ := hq
    exact vx_out (fun x hx9 => (htab x hx9).elim) hlocks hce hcv hcl (fun t ht hal => ⟨((nI c0), fO, fA, fB, fT, sv, fC, rs, dk, ds, fL, fl, fh), trivial, ⟨(⟨rfl, rfl, fun a i t ha hi _ h => hno a i ha hi ⟨h.1, h.2.1⟩⟩), (by rw [ht]; exact hP), va_K.moved hal hK, hD⟩, hS.F ht⟩) hS.2.2 (Nat.le_of_ble_eq_true rfl) (Nat.le_of_ble_eq_true rfl)
set_option maxHeartbeats 4000000 in
set_option maxRecDepth 100000 in
theorem c_X0_next (l : Launch) (hl0 : l.stackTraces = false) (dC : Nat → ClassId) (dI : Nat → Nat → Nat) (ad : Nat → Nat) (cz ci cj : ClassId) (sz : Nat) (cnt : Int32) (fO : Nat → Int32) (fA : Nat → Int32) (fB : Nat → Int32) (fT : Nat → Int32) (sv : Int32) (fC : Nat → Int64) (rs : Int64) (dk : Int32) (ds : Int32) (fL : Nat → Int32) (fl : Nat → Int32) (fh : Nat → Int32) (n : Int32) (j : Int32) (c0 : Nat) (hg : g_ok c0 fO fA fB fT) : vx_Met l yX0_next wX0_next ({ frames := 8, cells := 2, slots := 12, locals := 133 }) (va_Pc [.ref (ad 0), .int n, .int j] (x_Pre (dC, dI) vwCl (gty cz ci cj) (gw ad cz ci cj ((nI c0), fO, fA, fB, fT, sv, fC, rs, dk, ds, fL, fl, fh)) sz)) (va_Qi (fun (r : Int32) (u : GS) => u = ((nI c0), fO, fA, fB, fT, sv, fC, rs, dk, ds, fL, fl, fh) ∧ ∃ a i, a < c0 ∧ i < gmv fO fA fB a ∧ n = nI a ∧ j = nI i ∧ r = nI (gtg fT a i)) (g_At (dC, dI) vwCl (gty cz ci cj) (va_A (gw ad cz ci cj ((nI c0), fO, fA, fB, fT, sv, fC, rs, dk, ds, fL, fl, fh)) sz) (gw ad cz ci cj)) (va_A (gw ad cz ci cj ((nI c0), fO, fA, fB, fT, sv, fC, rs, dk, ds, fL, fl, fh)) sz)) (x_XC (dC, dI) vwCl (gty cz ci cj) (va_A (gw ad cz ci cj ((nI c0), fO, fA, fB, fT, sv, fC, rs, dk, ds, fL, fl, fh)) sz) (gw ad cz ci cj) (fun (E : String) (u : GS) => E = "java/lang/IndexOutOfBoundsException" ∧ u = ((nI c0), fO, fA, fB, fT, sv, fC, rs, dk, ds, fL, fl, fh) ∧ ∀ a i, a < c0 → i < gmv fO fA fB a → ¬ (n = nI a ∧ j = nI i))) 2 12 (va_A (gw ad cz ci cj ((nI c0), fO, fA, fB, fT, sv, fC, rs, dk, ds, fL, fl, fh)) sz) := by
  refine vx_ofW (cc := cX0_next) (maxL := 3) (ret := some .int) (by decide) rfl ?_
  intro p e s m args below meth c s₁ Bd hml htab hv
  obtain ⟨rfl, hsz, hP, hK, hD0, hE⟩ := hv
  have hx := Bd.exec
  have hb := Bd.bytes
  have hr := Bd.returns
  have hts := atoms_spec (ws := wX0_next) Bd.pre
  have hw : ∀ w ∈ wAll, w.before _ s = true := fun w h => hts w (List.mem_cons_of_mem _ h)
  have hown : s.vm.findClass "GameGraph" = some m.cls := findClass_of_methodNamed Bd.named
  have hlocks := Bd.notSynchronized
  subst hsz
  have hD := hD0.self (sz := s.heap.size)
  generalize hAe : va_A (gw ad cz ci cj ((nI c0), fO, fA, fB, fT, sv, fC, rs, dk, ds, fL, fl, fh)) s.heap.size = Ar at hD hE ⊢
  have hA : ∀ q : Nat, s.heap.size ≤ q → Ar q := fun q h => by rw [← hAe]; exact Or.inr h
  obtain ⟨H, hH⟩ : ∃ H : Heap, H = s.heap := ⟨_, rfl⟩
  have hS : va_S Ar s.heap H [] := by rw [hH]; exact va_S.rf
  have hP : va_P (dC, dI) vwCl (gw ad cz ci cj ((nI c0), fO, fA, fB, fT, sv, fC, rs, dk, ds, fL, fl, fh)) H := by rw [hH]; exact hP
  rw [← hH]
  have hl := lv_entry ([.ref (ad 0), .int n, .int j]) (n := 3) (Nat.le_of_ble_eq_true rfl)
  rw [lg_entry_eq]
  generalize (lg_sl ([.ref (ad 0), .int n, .int j]) ++ List.replicate (3 - (lg_sl ([.ref (ad 0), .int n, .int j])).length) Slot.unset).toArray = ls at hl ⊢
  have hl : lv_has ls 3 [(0, .ref (ad 0)), (1, .int n), (2, .int j)] := hl
  have h60 := hg.2.1
  refine lv_aload_n hx hb dX0_next_0 rfl (lv_at hl 0 rfl) ?_
  refine lv_iload_n hx hb dX0_next_1 rfl (lv_at hl 1 rfl) ?_
  refine lv_iload_n hx hb dX0_next_2 rfl (lv_at hl 2 rfl) ?_
  refine g_callxv ⟨hx, hb, hml, hown, hw⟩ (c_X0_requireJointMove l hl0 dC dI ad cz ci cj H.size (nI c0) fO fA fB fT sv fC rs dk ds fL fl fh n j c0 hg) (cwV 2 hw gv_X0_X0_requireJointMove rfl rfl rfl (by decide +kernel) ⟨Nat.le_of_ble_eq_true rfl, Nat.le_of_ble_eq_true rfl⟩) hK hP hD hS hA hE (ci := 0) (q0 := 0) rfl rfl rfl hl.1 rfl (Nat.le_of_ble_eq_true rfl) dX0_next_3 ⟨Nat.le_of_ble_eq_true rfl, Nat.le_of_ble_eq_true rfl⟩ (fun  un H locs hq hP hD hS => ?_) (fun E ce q9 un H locs hq hP hD hS hce hcv hcl => ?_)
  · obtain ⟨rfl, a, i, ha, hi, rfl, rfl⟩ := hq
    have hP : va_P (dC, dI) vwCl (gw ad cz ci cj ((nI c0), fO, fA, fB, fT, sv, fC, rs, dk, ds, fL, fl, fh)) H := hP
    have hD : va_D Ar (gw ad cz ci cj ((nI c0), fO, fA, fB, fT, sv, fC, rs, dk, ds, fL, fl, fh)) := hD
    have h12 := (g_mvI hg ha).2
    refine lv_aload_n hx hb dX0_next_6 rfl (lv_at hl 0 rfl) ?_
    refine lv_iload_n hx hb dX0_next_7 rfl (lv_at hl 1 rfl) ?_
    refine lv_iload_n hx hb dX0_next_8 rfl (lv_at hl 2 rfl) ?_
    refine g_calli ⟨hx, hb, hml, hown, hw⟩ (c_X0_target l dC dI ad cz ci cj H.size (nI c0) fO fA fB fT sv fC rs dk ds fL fl fh a i (by omega) (by omega)) (cwV 2 hw gv_X0_X0_target rfl rfl rfl (by decide +kernel) ⟨Nat.le_of_ble_eq_true rfl, Nat.le_of_ble_eq_true rfl⟩) hK hP hD hS hA (ci := 0) (q0 := 0) rfl rfl rfl hl.1 rfl (Nat.le_of_ble_eq_true rfl) dX0_next_9 ⟨Nat.le_of_ble_eq_true rfl, Nat.le_of_ble_eq_true rfl⟩ (fun ra_1 un H locs hq hP hD hS => ?_)
    obtain ⟨rfl, hq⟩ := hq
    have hP : va_P (dC, dI) vwCl (gw ad cz ci cj ((nI c0), fO, fA, fB, fT, sv, fC, rs, dk, ds, fL, fl, fh)) H := hP
    have hD : va_D Ar (gw ad cz ci cj ((nI c0), fO, fA, fB, fT, sv, fC, rs, dk, ds, fL, fl, fh)) := hD
    refine x_topi (y := nI (gtg fT a i)) (by rw [hq]; exact (g_tgI hg ha (by omega)).1) ?_
    refine vx_ret (W.widen (k := 2) (n := 12) (Nat.le_of_ble_eq_true rfl) (Nat.le_of_ble_eq_true rfl) ?_)
    exact W.iret (v := (nI (gtg fT a i))) hx hb hr (fun t ht hW => ⟨⟨(nI (gtg fT a i)), ((nI c0), fO, fA, fB, fT, sv, fC, rs, dk, ds, fL, fl, fh), rfl, (⟨rfl, a, i, ha, hi, rfl, rfl, rfl⟩), (by rw [ht]; exact hP), va_K.moved hW.alike hK, hD⟩, hS.F ht⟩) hS.2.2 dX0_next_12
  · obtain ⟨rfl, rfl, hno⟩ := hq
    exact vx_out (fun x hx9 => (htab x hx9).elim) hlocks hce hcv hcl (fun t ht hal => ⟨((nI c0), fO, fA, fB, fT, sv, fC, rs, dk, ds, fL, fl, fh), trivial, ⟨(⟨rfl, rfl, hno⟩), (by rw [ht]; exact hP), va_K.moved hal hK, hD⟩, hS.F ht⟩) hS.2.2 (Nat.le_of_ble_eq_true rfl) (Nat.le_of_ble_eq_true rfl)
/-- surveyed, with the defect dk -/
def g_SV (c0 : Nat) (fO fA fB fT : Nat → Int32) (dk ds : Int32) (u : GS) : Prop := ∃ (fC2 : Nat → Int64) (rs2 : Int64) (fL2 fl2 fh2 : Nat → Int32), g_sv c0 fO fA fB fT rs2 dk ds fL2 fl2 fh2 ∧ u = (nI c0, fO, fA, fB, fT, 1, fC2, rs2, dk, ds, fL2, fl2, fh2)
set_option maxHeartbeats 4000000 in
set_option maxRecDepth 100000 in
theorem c_X0_defect (l : Launch) (hl0 : l.stackTraces = false) (dC : Nat → ClassId) (dI : Nat → Nat → Nat) (ad : Nat → Nat) (cz ci cj : ClassId) (sz : Nat) (cnt : Int32) (fO : Nat → Int32) (fA : Nat → Int32) (fB : Nat → Int32) (fT : Nat → Int32) (sv : Int32) (fC : Nat → Int64) (rs : Int64) (dk : Int32) (ds : Int32) (fL : Nat → Int32) (fl : Nat → Int32) (fh : Nat → Int32) (n : Int32) (c0 : Nat) (hg : g_ok c0 fO fA fB fT) (hsv : sv = 0 ∨ (sv = 1 ∧ g_sv c0 fO fA fB fT rs dk ds fL fl fh)) : vx_Met l yX0_defect wX0_defect ({ frames := 6, cells := 1, slots := 6, locals := 90 }) (va_Pc [.ref (ad 0), .int n] (x_Pre (dC, dI) vwCl (gty cz ci cj) (gw ad cz ci cj ((nI c0), fO, fA, fB, fT, sv, fC, rs, dk, ds, fL, fl, fh)) sz)) (va_Qi (fun (r : Int32) (u : GS) => ∃ dk2 ds2, g_SV c0 fO fA fB fT dk2 ds2 u ∧ ((n = 0 ∧ r = dk2) ∨ (n = 1 ∧ r = ds2))) (g_At (dC, dI) vwCl (gty cz ci cj) (va_A (gw ad cz ci cj ((nI c0), fO, fA, fB, fT, sv, fC, rs, dk, ds, fL, fl, fh)) sz) (gw ad cz ci cj)) (va_A (gw ad cz ci cj ((nI c0), fO, fA, fB, fT, sv, fC, rs, dk, ds, fL, fl, fh)) sz)) (x_XC (dC, dI) vwCl (gty cz ci cj) (va_A (gw ad cz ci cj ((nI c0), fO, fA, fB, fT, sv, fC, rs, dk, ds, fL, fl, fh)) sz) (gw ad cz ci cj) (fun (E : String) (u : GS) => E = "java/lang/IllegalArgumentException" ∧ u = ((nI c0), fO, fA, fB, fT, sv, fC, rs, dk, ds, fL, fl, fh) ∧ ¬ n = 0 ∧ ¬ n = 1)) 1 6 (va_A (gw ad cz ci cj ((nI c0), fO, fA, fB, fT, sv, fC, rs, dk, ds, fL, fl, fh)) sz) := by
  refine vx_ofW (cc := cX0_defect) (maxL := 2) (ret := some .int) (by decide) rfl ?_
  intro p e s m args below meth c s₁ Bd hml htab hv
  obtain ⟨rfl, hsz, hP, hK, hD0, hE⟩ := hv
  have hx := Bd.exec
  have hb := Bd.bytes
  have hr := Bd.returns
  have hts := atoms_spec (ws := wX0_defect) Bd.pre
  have hw : ∀ w ∈ wAll, w.before _ s = true := fun w h => hts w (List.mem_cons_of_mem _ h)
  have hown : s.vm.findClass "GameGraph" = some m.cls := findClass_of_methodNamed Bd.named
  have hlocks := Bd.notSynchronized
  subst hsz
  have hD := hD0.self (sz := s.heap.size)
  generalize hAe : va_A (gw ad cz ci cj ((nI c0), fO, fA, fB, fT, sv, fC, rs, dk, ds, fL, fl, fh)) s.heap.size = Ar at hD hE ⊢
  have hA : ∀ q : Nat, s.heap.size ≤ q → Ar q := fun q h => by rw [← hAe]; exact Or.inr h
  obtain ⟨H, hH⟩ : ∃ H : Heap, H = s.heap := ⟨_, rfl⟩
  have hS : va_S Ar s.heap H [] := by rw [hH]; exact va_S.rf
  have hP : va_P (dC, dI) vwCl (gw ad cz ci cj ((nI c0), fO, fA, fB, fT, sv, fC, rs, dk, ds, fL, fl, fh)) H := by rw [hH]; exact hP
  rw [← hH]
  have hl := lv_entry ([.ref (ad 0), .int n]) (n := 2) (Nat.le_of_ble_eq_true rfl)
  rw [lg_entry_eq]
  generalize (lg_sl ([.ref (ad 0), .int n]) ++ List.replicate (2 - (lg_sl ([.ref (ad 0), .int n])).length) Slot.unset).toArray = ls at hl ⊢
  have hl : lv_has ls 2 [(0, .ref (ad 0)), (1, .int n)] := hl
  refine lv_iload_n hx hb dX0_defect_0 rfl (lv_at hl 1 rfl) ?_
  refine lv_if_eq (tgt := 19) hx hb dX0_defect_1 (by decide) (fun c_1 => ?_) (fun c_1 => ?_)
  · subst c_1
    refine lv_aload_n hx hb dX0_defect_19 rfl (lv_at hl 0 rfl) ?_
    refine g_callv ⟨hx, hb, hml, hown, hw⟩ (c_X0_survey l dC dI ad cz ci cj H.size (nI c0) fO fA fB fT sv fC rs dk ds fL fl fh  c0 hg hsv) (cwV 0 hw gv_X0_X0_survey rfl rfl rfl (by decide +kernel) ⟨Nat.le_of_ble_eq_true rfl, Nat.le_of_ble_eq_true rfl⟩) hK hP hD hS hA (ci := 0) (q0 := 0) rfl rfl rfl hl.1 rfl (Nat.le_of_ble_eq_true rfl) dX0_defect_20 ⟨Nat.le_of_ble_eq_true rfl, Nat.le_of_ble_eq_true rfl⟩ (fun  un H locs hq hP hD hS => ?_)
    obtain ⟨fC2, rs2, dk2, ds2, fL2, fl2, fh2, hs2, rfl⟩ := hq
    have hP : va_P (dC, dI) vwCl (gw ad cz ci cj ((nI c0), fO, fA, fB, fT, 1, fC2, rs2, dk2, ds2, fL2, fl2, fh2)) H := hP
    have hD : va_D Ar (gw ad cz ci cj ((nI c0), fO, fA, fB, fT, 1, fC2, rs2, dk2, ds2, fL2, fl2, fh2)) := hD
    refine lv_iload_n hx hb dX0_defect_23 rfl (lv_at hl 1 rfl) ?_
    refine lv_if_ne (tgt := 34) hx hb dX0_defect_24 (by decide) (fun ca_2 => ?_) (fun ca_2 => ?_)
    · exact absurd rfl ca_2
    · refine lv_aload_n hx hb dX0_defect_27 rfl (lv_at hl 0 rfl) ?_
      refine va_get (D := (dC, dI)) (ci := 0) (v := .int dk2) (C := RX0) (T := TX0) (N := 13) hx hb hw in_X0 hown hK hP 0 rfl rfl 8 (by decide) (hw _ m_1_26) (fun _ h9 => h9) rfl dX0_defect_28 ?_
      refine lv_goto (tgt := 38) hx hb dX0_defect_31 (by decide) ?_
      refine vx_ret (W.widen (k := 1) (n := 6) (Nat.le_of_ble_eq_true rfl) (Nat.le_of_ble_eq_true rfl) ?_)
      exact W.iret (v := dk2) hx hb hr (fun t ht hW => ⟨⟨dk2, ((nI c0), fO, fA, fB, fT, 1, fC2, rs2, dk2, ds2, fL2, fl2, fh2), rfl, (⟨dk2, ds2, ⟨fC2, rs2, fL2, fl2, fh2, hs2, rfl⟩, Or.inl ⟨rfl, rfl⟩⟩), (by rw [ht]; exact hP), va_K.moved hW.alike hK, hD⟩, hS.F ht⟩) hS.2.2 dX0_defect_38
  · refine lv_iload_n hx hb dX0_defect_4 rfl (lv_at hl 1 rfl) ?_
    refine lv_iconst (v := 1) hx hb dX0_defect_5 (by decide) ?_
    refine lv_icmp_eq (tgt := 19) hx hb dX0_defect_6 (by decide) (fun cb_2 => ?_) (fun cb_2 => ?_)
    · subst cb_2
      refine lv_aload_n hx hb dX0_defect_19 rfl (lv_at hl 0 rfl) ?_
      refine g_callv ⟨hx, hb, hml, hown, hw⟩ (c_X0_survey l dC dI ad cz ci cj H.size (nI c0) fO fA fB fT sv fC rs dk ds fL fl fh  c0 hg hsv) (cwV 0 hw gv_X0_X0_survey rfl rfl rfl (by decide +kernel) ⟨Nat.le_of_ble_eq_true rfl, Nat.le_of_ble_eq_true rfl⟩) hK hP hD hS hA (ci := 0) (q0 := 0) rfl rfl rfl hl.1 rfl (Nat.le_of_ble_eq_true rfl) dX0_defect_20 ⟨Nat.le_of_ble_eq_true rfl, Nat.le_of_ble_eq_true rfl⟩ (fun  un H locs hq hP hD hS => ?_)
      obtain ⟨fC2, rs2, dk2, ds2, fL2, fl2, fh2, hs2, rfl⟩ := hq
      have hP : va_P (dC, dI) vwCl (gw ad cz ci cj ((nI c0), fO, fA, fB, fT, 1, fC2, rs2, dk2, ds2, fL2, fl2, fh2)) H := hP
      have hD : va_D Ar (gw ad cz ci cj ((nI c0), fO, fA, fB, fT, 1, fC2, rs2, dk2, ds2, fL2, fl2, fh2)) := hD
      refine lv_iload_n hx hb dX0_defect_23 rfl (lv_at hl 1 rfl) ?_
      refine lv_if_ne (tgt := 34) hx hb dX0_defect_24 (by decide) (fun cba_3 => ?_) (fun cba_3 => ?_)
      · refine lv_aload_n hx hb dX0_defect_34 rfl (lv_at hl 0 rfl) ?_
        refine va_get (D := (dC, dI)) (ci := 0) (v := .int ds2) (C := RX0) (T := TX0) (N := 13) hx hb hw in_X0 hown hK hP 0 rfl rfl 9 (by decide) (hw _ m_1_27) (fun _ h9 => h9) rfl dX0_defect_35 ?_
        refine vx_ret (W.widen (k := 1) (n := 6) (Nat.le_of_ble_eq_true rfl) (Nat.le_of_ble_eq_true rfl) ?_)
        exact W.iret (v := ds2) hx hb hr (fun t ht hW => ⟨⟨ds2, ((nI c0), fO, fA, fB, fT, 1, fC2, rs2, dk2, ds2, fL2, fl2, fh2), rfl, (⟨dk2, ds2, ⟨fC2, rs2, fL2, fl2, fh2, hs2, rfl⟩, Or.inr ⟨rfl, rfl⟩⟩), (by rw [ht]; exact hP), va_K.moved hW.alike hK, hD⟩, hS.F ht⟩) hS.2.2 dX0_defect_38
      · exact absurd cba_3 (by decide)
    · obtain ⟨sq, hsq⟩ := hE.2.2.2 ("GameGraph", 90, "what is not 0 or 1") (by decide +kernel)
      exact vx_throwS (names := ["java/lang/RuntimeException", "java/lang/Exception"]) hx hb hl0 hown (by decide +kernel) (by decide +kernel) (hw _ m_3_36) (hw _ m_0_39) hsq (vx_hat (fun w h => hw w (x_atA w h)) x_abA (fun w h => va_Nw.use (x_bad_ot w h) (hE.2.2.1 w h))) (List.forall_mem_cons.mpr ⟨by decide +kernel, List.forall_mem_cons.mpr ⟨by decide +kernel, x_agA⟩⟩) hE.1 hE.2.1 hS (hl.1.trans hml.symm) dX0_defect_9 dX0_defect_12 dX0_defect_13 dX0_defect_15 dX0_defect_18 (fun x hx9 => (htab x hx9).elim) (Nat.le_of_ble_eq_true rfl) (Nat.le_of_ble_eq_true rfl) (Nat.le_of_ble_eq_true rfl) (Nat.le_of_ble_eq_true rfl) hlocks (fun t hal hz hq9 => ⟨((nI c0), fO, fA, fB, fT, sv, fC, rs, dk, ds, fL, fl, fh), trivial, ⟨(⟨rfl, rfl, c_1, cb_2⟩), hP.kept (fun k q hk => hq9 q.1 (va_at.lt (hP k q hk))), va_K.moved hal hK, hD⟩, Nat.le_trans hS.1 hz, fun q h1 h2 => (hq9 q (Nat.lt_of_lt_of_le h1 hS.1)).trans (hS.2.1 q h1 h2)⟩) hS.2.2 (Nat.le_of_ble_eq_true rfl) (Nat.le_of_ble_eq_true rfl)
set_option maxHeartbeats 4000000 in
set_option maxRecDepth 100000 in
theorem c_X0_requireValued (l : Launch) (hl0 : l.stackTraces = false) (dC : Nat → ClassId) (dI : Nat → Nat → Nat) (ad : Nat → Nat) (cz ci cj : ClassId) (sz : Nat) (cnt : Int32) (fO : Nat → Int32) (fA : Nat → Int32) (fB : Nat → Int32) (fT : Nat → Int32) (sv : Int32) (fC : Nat → Int64) (rs : Int64) (dk : Int32) (ds : Int32) (fL : Nat → Int32) (fl : Nat → Int32) (fh : Nat → Int32) (n : Int32) (c0 : Nat) (hg : g_ok c0 fO fA fB fT) (hsv : sv = 0 ∨ (sv = 1 ∧ g_sv c0 fO fA fB fT rs dk ds fL fl fh)) : vx_Met l yX0_requireValued wX0_requireValued ({ frames := 6, cells := 1, slots := 6, locals := 90 }) (va_Pc [.ref (ad 0), .int n] (x_Pre (dC, dI) vwCl (gty cz ci cj) (gw ad cz ci cj ((nI c0), fO, fA, fB, fT, sv, fC, rs, dk, ds, fL, fl, fh)) sz)) (va_Qv (fun (u : GS) => (∃ ds2, g_SV c0 fO fA fB fT 0 ds2 u) ∧ ∃ k, k < c0 ∧ n = nI k ∧ gre c0 fO fA fB fT k) (g_At (dC, dI) vwCl (gty cz ci cj) (va_A (gw ad cz ci cj ((nI c0), fO, fA, fB, fT, sv, fC, rs, dk, ds, fL, fl, fh)) sz) (gw ad cz ci cj)) (va_A (gw ad cz ci cj ((nI c0), fO, fA, fB, fT, sv, fC, rs, dk, ds, fL, fl, fh)) sz)) (x_XC (dC, dI) vwCl (gty cz ci cj) (va_A (gw ad cz ci cj ((nI c0), fO, fA, fB, fT, sv, fC, rs, dk, ds, fL, fl, fh)) sz) (gw ad cz ci cj) (fun (E : String) (u : GS) => (E = "java/lang/IllegalStateException" ∧ ∃ dk2 ds2, dk2 ≠ 0 ∧ g_SV c0 fO fA fB fT dk2 ds2 u) ∨ (E = "java/lang/IndexOutOfBoundsException" ∧ (∃ ds2, g_SV c0 fO fA fB fT 0 ds2 u) ∧ ∀ k, k < c0 → n = nI k → ¬ gre c0 fO fA fB fT k))) 1 6 (va_A (gw ad cz ci cj ((nI c0), fO, fA, fB, fT, sv, fC, rs, dk, ds, fL, fl, fh)) sz) := by
  refine vx_ofW (cc := cX0_requireValued) (maxL := 2) (ret := none) (by decide) rfl ?_
  intro p e s m args below meth c s₁ Bd hml htab hv
  obtain ⟨rfl, hsz, hP, hK, hD0, hE⟩ := hv
  have hx := Bd.exec
  have hb := Bd.bytes
  have hr := Bd.returns
  have hts := atoms_spec (ws := wX0_requireValued) Bd.pre
  have hw : ∀ w ∈ wAll, w.before _ s = true := fun w h => hts w (List.mem_cons_of_mem _ h)
  have hown : s.vm.findClass "GameGraph" = some m.cls := findClass_of_methodNamed Bd.named
  have hlocks := Bd.notSynchronized
  subst hsz
  have hD := hD0.self (sz := s.heap.size)
  generalize hAe : va_A (gw ad cz ci cj ((nI c0), fO, fA, fB, fT, sv, fC, rs, dk, ds, fL, fl, fh)) s.heap.size = Ar at hD hE ⊢
  have hA : ∀ q : Nat, s.heap.size ≤ q → Ar q := fun q h => by rw [← hAe]; exact Or.inr h
  obtain ⟨H, hH⟩ : ∃ H : Heap, H = s.heap := ⟨_, rfl⟩
  have hS : va_S Ar s.heap H [] := by rw [hH]; exact va_S.rf
  have hP : va_P (dC, dI) vwCl (gw ad cz ci cj ((nI c0), fO, fA, fB, fT, sv, fC, rs, dk, ds, fL, fl, fh)) H := by rw [hH]; exact hP
  rw [← hH]
  have hl := lv_entry ([.ref (ad 0), .int n]) (n := 2) (Nat.le_of_ble_eq_true rfl)
  rw [lg_entry_eq]
  generalize (lg_sl ([.ref (ad 0), .int n]) ++ List.replicate (2 - (lg_sl ([.ref (ad 0), .int n])).length) Slot.unset).toArray = ls at hl ⊢
  have hl : lv_has ls 2 [(0, .ref (ad 0)), (1, .int n)] := hl
  have h60 := hg.2.1
  refine lv_aload_n hx hb dX0_requireValued_0 rfl (lv_at hl 0 rfl) ?_
  refine g_callv ⟨hx, hb, hml, hown, hw⟩ (c_X0_survey l dC dI ad cz ci cj H.size (nI c0) fO fA fB fT sv fC rs dk ds fL fl fh  c0 hg hsv) (cwV 0 hw gv_X0_X0_survey rfl rfl rfl (by decide +kernel) ⟨Nat.le_of_ble_eq_true rfl, Nat.le_of_ble_eq_true rfl⟩) hK hP hD hS hA (ci := 0) (q0 := 0) rfl rfl rfl hl.1 rfl (Nat.le_of_ble_eq_true rfl) dX0_requireValued_1 ⟨Nat.le_of_ble_eq_true rfl, Nat.le_of_ble_eq_true rfl⟩ (fun  un H locs hq hP hD hS => ?_)
  obtain ⟨fC2, rs2, dk2, ds2, fL2, fl2, fh2, hs2, rfl⟩ := hq
  have hP : va_P (dC, dI) vwCl (gw ad cz ci cj ((nI c0), fO, fA, fB, fT, 1, fC2, rs2, dk2, ds2, fL2, fl2, fh2)) H := hP
  have hD : va_D Ar (gw ad cz ci cj ((nI c0), fO, fA, fB, fT, 1, fC2, rs2, dk2, ds2, fL2, fl2, fh2)) := hD
  refine lv_aload_n hx hb dX0_requireValued_4 rfl (lv_at hl 0 rfl) ?_
  refine va_get (D := (dC, dI)) (ci := 0) (v := .int dk2) (C := RX0) (T := TX0) (N := 13) hx hb hw in_X0 hown hK hP 0 rfl rfl 8 (by decide) (hw _ m_1_26) (fun _ h9 => h9) rfl dX0_requireValued_5 ?_
  refine lv_if_eq (tgt := 21) hx hb dX0_requireValued_8 (by decide) (fun c_1 => ?_) (fun c_1 => ?_)
  · subst c_1
    refine lv_aload_n hx hb dX0_requireValued_21 rfl (lv_at hl 0 rfl) ?_
    refine lv_iload_n hx hb dX0_requireValued_22 rfl (lv_at hl 1 rfl) ?_
    refine g_calli ⟨hx, hb, hml, hown, hw⟩ (c_X0_hasState l dC dI ad cz ci cj H.size (nI c0) fO fA fB fT 1 fC2 rs2 0 ds2 fL2 fl2 fh2 n c0 rfl hg.2.1) (cwV 1 hw gv_X0_X0_hasState rfl rfl rfl (by decide +kernel) ⟨Nat.le_of_ble_eq_true rfl, Nat.le_of_ble_eq_true rfl⟩) hK hP hD hS hA (ci := 0) (q0 := 0) rfl rfl rfl hl.1 rfl (Nat.le_of_ble_eq_true rfl) dX0_requireValued_23 ⟨Nat.le_of_ble_eq_true rfl, Nat.le_of_ble_eq_true rfl⟩ (fun ra_2 un H locs hq hP hD hS => ?_)
    obtain ⟨rfl, hq⟩ := hq
    have hP : va_P (dC, dI) vwCl (gw ad cz ci cj ((nI c0), fO, fA, fB, fT, 1, fC2, rs2, 0, ds2, fL2, fl2, fh2)) H := hP
    have hD : va_D Ar (gw ad cz ci cj ((nI c0), fO, fA, fB, fT, 1, fC2, rs2, 0, ds2, fL2, fl2, fh2)) := hD
    refine lv_if_eq (tgt := 40) hx hb dX0_requireValued_26 (by decide) (fun ca_3 => ?_) (fun ca_3 => ?_)
    · have hno : ∀ k, k < c0 → n ≠ nI k := by rcases hq with ⟨_, a⟩ | ⟨a, _⟩; exact absurd ca_3 (by rw [a]; decide); exact a
      obtain ⟨sq, hsq⟩ := hE.2.2.2 ("GameGraph", 134, "there is no such state, or it is not reached") (by decide +kernel)
      exact vx_throwS (names := ["java/lang/RuntimeException", "java/lang/Exception"]) hx hb hl0 hown (by decide +kernel) (by decide +kernel) (hw _ m_5_27) (hw _ m_1_0) hsq (vx_hat (fun w h => hw w (x_atI w h)) x_abI (fun w h => va_Nw.use (x_bad_ot w h) (hE.2.2.1 w h))) (List.forall_mem_cons.mpr ⟨by decide +kernel, List.forall_mem_cons.mpr ⟨by decide +kernel, x_agI⟩⟩) hE.1 hE.2.1 hS (hl.1.trans hml.symm) dX0_requireValued_40 dX0_requireValued_43 dX0_requireValued_44 dX0_requireValued_46 dX0_requireValued_49 (fun x hx9 => (htab x hx9).elim) (Nat.le_of_ble_eq_true rfl) (Nat.le_of_ble_eq_true rfl) (Nat.le_of_ble_eq_true rfl) (Nat.le_of_ble_eq_true rfl) hlocks (fun t hal hz hq9 => ⟨((nI c0), fO, fA, fB, fT, 1, fC2, rs2, 0, ds2, fL2, fl2, fh2), trivial, ⟨(Or.inr ⟨rfl, ⟨ds2, fC2, rs2, fL2, fl2, fh2, hs2, rfl⟩, fun k hk e => absurd e (hno k hk)⟩), hP.kept (fun k q hk => hq9 q.1 (va_at.lt (hP k q hk))), va_K.moved hal hK, hD⟩, Nat.le_trans hS.1 hz, fun q h1 h2 => (hq9 q (Nat.lt_of_lt_of_le h1 hS.1)).trans (hS.2.1 q h1 h2)⟩) hS.2.2 (Nat.le_of_ble_eq_true rfl) (Nat.le_of_ble_eq_true rfl)
    · have hyes : ∃ k, k < c0 ∧ n = nI k := by rcases hq with ⟨a, _⟩ | ⟨_, a⟩; exact a; exact absurd a ca_3
      obtain ⟨k, hk, rfl⟩ := hyes
      refine lv_aload_n hx hb dX0_requireValued_29 rfl (lv_at hl 0 rfl) ?_
      refine va_get (D := (dC, dI)) (ci := 0) (v := .long rs2) (C := RX0) (T := TX0) (N := 13) hx hb hw in_X0 hown hK hP 0 rfl rfl 7 (by decide) (hw _ m_1_25) (fun _ h9 => h9) rfl dX0_requireValued_30 ?_
      refine lv_iload_n hx hb dX0_requireValued_33 rfl (lv_at hl 1 rfl) ?_
      refine g_calls ⟨hx, hb, hml, hown, hw⟩ (c_X0_contains l rs2 k (by omega)) (va_cwS 2 hw gs_X0_X0_contains rfl rfl rfl (by decide +kernel) ⟨Nat.le_of_ble_eq_true rfl, Nat.le_of_ble_eq_true rfl⟩) hP hS rfl hl.1 rfl (Nat.le_of_ble_eq_true rfl) dX0_requireValued_34 ⟨Nat.le_of_ble_eq_true rfl, Nat.le_of_ble_eq_true rfl⟩ (fun rab_4 H locs hq hP hS => ?_)
      have hP : va_P (dC, dI) vwCl (gw ad cz ci cj ((nI c0), fO, fA, fB, fT, 1, fC2, rs2, 0, ds2, fL2, fl2, fh2)) H := hP
      have hD : va_D Ar (gw ad cz ci cj ((nI c0), fO, fA, fB, fT, 1, fC2, rs2, 0, ds2, fL2, fl2, fh2)) := hD
      refine lv_if_ne (tgt := 50) hx hb dX0_requireValued_37 (by decide) (fun cab_5 => ?_) (fun cab_5 => ?_)
      · refine vx_ret (W.widen (k := 1) (n := 6) (Nat.le_of_ble_eq_true rfl) (Nat.le_of_ble_eq_true rfl) ?_)
        exact W.vret hx hb hr (fun t ht hW => ⟨⟨((nI c0), fO, fA, fB, fT, 1, fC2, rs2, 0, ds2, fL2, fl2, fh2), rfl, (⟨⟨ds2, fC2, rs2, fL2, fl2, fh2, hs2, rfl⟩, k, hk, rfl, (hs2.1 k).mp (k_b1 hq cab_5)⟩), (by rw [ht]; exact hP), va_K.moved hW.alike hK, hD⟩, hS.F ht⟩) hS.2.2 dX0_requireValued_50
      · obtain ⟨sq, hsq⟩ := hE.2.2.2 ("GameGraph", 134, "there is no such state, or it is not reached") (by decide +kernel)
        exact vx_throwS (names := ["java/lang/RuntimeException", "java/lang/Exception"]) hx hb hl0 hown (by decide +kernel) (by decide +kernel) (hw _ m_5_27) (hw _ m_1_0) hsq (vx_hat (fun w h => hw w (x_atI w h)) x_abI (fun w h => va_Nw.use (x_bad_ot w h) (hE.2.2.1 w h))) (List.forall_mem_cons.mpr ⟨by decide +kernel, List.forall_mem_cons.mpr ⟨by decide +kernel, x_agI⟩⟩) hE.1 hE.2.1 hS (hl.1.trans hml.symm) dX0_requireValued_40 dX0_requireValued_43 dX0_requireValued_44 dX0_requireValued_46 dX0_requireValued_49 (fun x hx9 => (htab x hx9).elim) (Nat.le_of_ble_eq_true rfl) (Nat.le_of_ble_eq_true rfl) (Nat.le_of_ble_eq_true rfl) (Nat.le_of_ble_eq_true rfl) hlocks (fun t hal hz hq9 => ⟨((nI c0), fO, fA, fB, fT, 1, fC2, rs2, 0, ds2, fL2, fl2, fh2), trivial, ⟨(Or.inr ⟨rfl, ⟨ds2, fC2, rs2, fL2, fl2, fh2, hs2, rfl⟩, fun k2 hk2 e h => by have e2 := k_inj (by omega) (by omega) e; subst e2; have h1 := (hs2.1 k).mpr h; rw [k_b0 hq cab_5] at h1; cases h1⟩), hP.kept (fun k q hk => hq9 q.1 (va_at.lt (hP k q hk))), va_K.moved hal hK, hD⟩, Nat.le_trans hS.1 hz, fun q h1 h2 => (hq9 q (Nat.lt_of_lt_of_le h1 hS.1)).trans (hS.2.1 q h1 h2)⟩) hS.2.2 (Nat.le_of_ble_eq_true rfl) (Nat.le_of_ble_eq_true rfl)
  · obtain ⟨sq, hsq⟩ := hE.2.2.2 ("GameGraph", 127, "the graph has a defect") (by decide +kernel)
    exact vx_throwS (names := ["java/lang/RuntimeException", "java/lang/Exception"]) hx hb hl0 hown (by decide +kernel) (by decide +kernel) (hw _ m_7_9) (hw _ m_1_2) hsq (vx_hat (fun w h => hw w (x_atS w h)) x_abS (fun w h => va_Nw.use (x_bad_ot w h) (hE.2.2.1 w h))) (List.forall_mem_cons.mpr ⟨by decide +kernel, List.forall_mem_cons.mpr ⟨by decide +kernel, x_agS⟩⟩) hE.1 hE.2.1 hS (hl.1.trans hml.symm) dX0_requireValued_11 dX0_requireValued_14 dX0_requireValued_15 dX0_requireValued_17 dX0_requireValued_20 (fun x hx9 => (htab x hx9).elim) (Nat.le_of_ble_eq_true rfl) (Nat.le_of_ble_eq_true rfl) (Nat.le_of_ble_eq_true rfl) (Nat.le_of_ble_eq_true rfl) hlocks (fun t hal hz hq9 => ⟨((nI c0), fO, fA, fB, fT, 1, fC2, rs2, dk2, ds2, fL2, fl2, fh2), trivial, ⟨(Or.inl ⟨rfl, dk2, ds2, c_1, fC2, rs2, fL2, fl2, fh2, hs2, rfl⟩), hP.kept (fun k q hk => hq9 q.1 (va_at.lt (hP k q hk))), va_K.moved hal hK, hD⟩, Nat.le_trans hS.1 hz, fun q h1 h2 => (hq9 q (Nat.lt_of_lt_of_le h1 hS.1)).trans (hS.2.1 q h1 h2)⟩) hS.2.2 (Nat.le_of_ble_eq_true rfl) (Nat.le_of_ble_eq_true rfl)
theorem k_exact {r : Int32} {v : Int} (h : w_ok r.toInt v (0 : Int32).toInt (100 : Int32).toInt) (hv : 0 ≤ v ∧ v ≤ 100) : r.toInt = v := by
  have e1 : (0 : Int32).toInt = 0 := by decide
  have e2 : (100 : Int32).toInt = 100 := by decide
  rw [e1, e2] at h
  obtain ⟨a, b, c⟩ := h
  omega
theorem k_pmt : ∀ m, m < 101 → (nI m - 1).toInt = (m : Int) - 1 ∧ (nI m + 1).toInt = (m : Int) + 1 := by decide +kernel
theorem k_pm {v : Int32} (h0 : 0 ≤ v.toInt) (h1 : v.toInt ≤ 100) : (v - 1).toInt = v.toInt - 1 ∧ (v + 1).toInt = v.toInt + 1 := by
  obtain ⟨m, hm, e⟩ := nI_of (x := v) (by rw [Int32.lt_iff_toInt_lt, Int32.toInt_zero]; omega)
  have := nI_toInt hm
  subst e
  rw [this]
  exact k_pmt m (by omega)
set_option maxHeartbeats 4000000 in
set_option maxRecDepth 100000 in
theorem c_X0_findValue (l : Launch) (dC : Nat → ClassId) (dI : Nat → Nat → Nat) (ad : Nat → Nat) (cz ci cj : ClassId) (sz : Nat) (cnt : Int32) (fO : Nat → Int32) (fA : Nat → Int32) (fB : Nat → Int32) (fT : Nat → Int32) (sv : Int32) (fC : Nat → Int64) (rs : Int64) (dk : Int32) (ds : Int32) (fL : Nat → Int32) (fl : Nat → Int32) (fh : Nat → Int32) (n : Nat) (c0 : Nat) (hg : g_ok c0 fO fA fB fT) (hnd : g_nd c0 fO fA fB fT) (hre : gre c0 fO fA fB fT n) (hbd : g_bd c0 fO fA fB fT fl fh) : Met l yX0_findValue wX0_findValue ({ frames := 121, cells := 0, slots := 0, locals := 3385 }) (va_Pc [.ref (ad 0), .int (nI n)] (g_Pre (dC, dI) vwCl (gty cz ci cj) (gw ad cz ci cj ((nI c0), fO, fA, fB, fT, sv, fC, rs, dk, ds, fL, fl, fh)) sz)) (va_Qi (fun (r : Int32) (u : GS) => ∃ fl2 fh2 : Nat → Int32, g_bd c0 fO fA fB fT fl2 fh2 ∧ r.toInt = gval c0 fO fA fB fT n ∧ u = ((nI c0), fO, fA, fB, fT, sv, fC, rs, dk, ds, fL, fl2, fh2)) (g_At (dC, dI) vwCl (gty cz ci cj) (va_A (gw ad cz ci cj ((nI c0), fO, fA, fB, fT, sv, fC, rs, dk, ds, fL, fl, fh)) sz) (gw ad cz ci cj)) (va_A (gw ad cz ci cj ((nI c0), fO, fA, fB, fT, sv, fC, rs, dk, ds, fL, fl, fh)) sz)) 0 0 (va_A (gw ad cz ci cj ((nI c0), fO, fA, fB, fT, sv, fC, rs, dk, ds, fL, fl, fh)) sz) := by
  refine Met.ofW (cc := cX0_findValue) (maxL := 2) (ret := some .int) (by decide) rfl ?_
  intro p e s m args below meth c s₁ Bd hml hv
  obtain ⟨rfl, hsz, hP, hK, hD0⟩ := hv
  have hx := Bd.exec
  have hb := Bd.bytes
  have hr := Bd.returns
  have hts := atoms_spec (ws := wX0_findValue) Bd.pre
  have hw : ∀ w ∈ wAll, w.before _ s = true := fun w h => hts w (List.mem_cons_of_mem _ h)
  have hown : s.vm.findClass "GameGraph" = some m.cls := findClass_of_methodNamed Bd.named
  have hlocks := Bd.notSynchronized
  subst hsz
  have hD := hD0.self (sz := s.heap.size)
  generalize hAe : va_A (gw ad cz ci cj ((nI c0), fO, fA, fB, fT, sv, fC, rs, dk, ds, fL, fl, fh)) s.heap.size = Ar at hD ⊢
  have hA : ∀ q : Nat, s.heap.size ≤ q → Ar q := fun q h => by rw [← hAe]; exact Or.inr h
  obtain ⟨H, hH⟩ : ∃ H : Heap, H = s.heap := ⟨_, rfl⟩
  have hS : va_S Ar s.heap H [] := by rw [hH]; exact va_S.rf
  have hP : va_P (dC, dI) vwCl (gw ad cz ci cj ((nI c0), fO, fA, fB, fT, sv, fC, rs, dk, ds, fL, fl, fh)) H := by rw [hH]; exact hP
  rw [← hH]
  have hl := lv_entry ([.ref (ad 0), .int (nI n)]) (n := 2) (Nat.le_of_ble_eq_true rfl)
  rw [lg_entry_eq]
  generalize (lg_sl ([.ref (ad 0), .int (nI n)]) ++ List.replicate (2 - (lg_sl ([.ref (ad 0), .int (nI n)])).length) Slot.unset).toArray = ls at hl ⊢
  have hl : lv_has ls 2 [(0, .ref (ad 0)), (1, .int (nI n))] := hl
  have h60 := hg.2.1
  have hrk := s_rk_c (g_sok hg) hnd.2 hre
  refine lv_aload_n hx hb dX0_findValue_0 rfl (lv_at hl 0 rfl) ?_
  refine lv_iload_n hx hb dX0_findValue_1 rfl (lv_at hl 1 rfl) ?_
  refine lv_iconst (v := 0) hx hb dX0_findValue_2 (by decide) ?_
  refine lv_bipush (v := 100) hx hb dX0_findValue_3 (by decide) ?_
  refine lv_iconst (v := 0) hx hb dX0_findValue_5 (by decide) ?_
  refine x_topi (y := nI 0) (rfl) ?_
  refine g_calli ⟨hx, hb, hml, hown, hw⟩ (c_search l dC dI ad cz ci cj c0 fO fA fB fT hg hnd 60 H.size sv fC rs dk ds fL fl fh n 0 0 100 hre (by simp only [grk]; omega) (by simp only [grk]; omega) (by decide) hbd) (cwV 4 hw gv_X0_X0_search rfl rfl rfl (by decide +kernel) ⟨Nat.le_of_ble_eq_true rfl, Nat.le_of_ble_eq_true rfl⟩) hK hP hD hS hA (ci := 0) (q0 := 0) rfl rfl rfl hl.1 rfl (Nat.le_of_ble_eq_true rfl) dX0_findValue_6 ⟨Nat.zero_le _, Nat.zero_le _⟩ (fun r_1 un H locs hq hP hD hS => ?_)
  obtain ⟨fl2, fh2, hbd2, hok, rfl⟩ := hq
  have hP : va_P (dC, dI) vwCl (gw ad cz ci cj ((nI c0), fO, fA, fB, fT, sv, fC, rs, dk, ds, fL, fl2, fh2)) H := hP
  have hD : va_D Ar (gw ad cz ci cj ((nI c0), fO, fA, fB, fT, sv, fC, rs, dk, ds, fL, fl2, fh2)) := hD
  exact W.iret (v := r_1) hx hb hr (fun t ht hW => ⟨⟨r_1, ((nI c0), fO, fA, fB, fT, sv, fC, rs, dk, ds, fL, fl2, fh2), rfl, (⟨fl2, fh2, hbd2, k_exact hok (g_val_b hg hnd hre), rfl⟩), (by rw [ht]; exact hP), va_K.moved hW.alike hK, hD⟩, hS.F ht⟩) hS.2.2 dX0_findValue_9
set_option maxHeartbeats 4000000 in
set_option maxRecDepth 100000 in
theorem lp_best {p : Program} {l : Launch} {e : Env} {R : Room} {s : State} {m : MethodId} {args : Array Value} {below : List Frame} {meth : Method} {c : Code} {Q : State → Prop} {dC : Nat → ClassId} {dI : Nat → Nat → Nat} {ad : Nat → Nat} {cz ci cj : ClassId} {Ar : Nat → Prop}  (hx : p.tables.exec = Jvm.exec) (hb : c.code = cX0_findBest) (hml : c.maxLocals = 5) (hown : s.vm.findClass "GameGraph" = some m.cls) (hw : ∀ w ∈ wAll, w.before args s = true) (hK : va_K (dC, dI) vwCl (gty cz ci cj) s) (hA : ∀ q, s.heap.size ≤ q → Ar q) (hR1 : 121 ≤ R.frames) (hR2 : 3385 ≤ R.locals) (fO fA fB fT : Nat → Int32) (sv : Int32) (fC : Nat → Int64) (rs : Int64) (dk ds : Int32) (fL : Nat → Int32) (n : Nat) (c0 : Nat) (hg : g_ok c0 fO fA fB fT) (hnd : g_nd c0 fO fA fB fT) (hre : gre c0 fO fA fB fT n) (v : Int32) (hv : v.toInt = gval c0 fO fA fB fT n)
    (kx : ∀ (fl2 : Nat → Int32) (fh2 : Nat → Int32), (∀ i, i < gmv fO fA fB n → gval c0 fO fA fB fT (gtg fT n i) ≠ gval c0 fO fA fB fT n) → (g_bd c0 fO fA fB fT fl2 fh2) → ∀ (H : Heap) (locs : List Loc), va_P (dC, dI) vwCl (gw ad cz ci cj ((nI c0), fO, fA, fB, fT, sv, fC, rs, dk, ds, fL, fl2, fh2)) H → va_D Ar (gw ad cz ci cj ((nI c0), fO, fA, fB, fT, sv, fC, rs, dk, ds, fL, fl2, fh2)) → va_S Ar s.heap H locs → ∀ (ls : Array Slot), lv_has ls 5 [(0, .ref (ad 0))] → W p l e R s m args below meth c H locs 0 0 Q (F0 m 52 ls []))
    (ky : ∀ (j : Nat) (fl2 : Nat → Int32) (fh2 : Nat → Int32), j < gmv fO fA fB n → gval c0 fO fA fB fT (gtg fT n j) = gval c0 fO fA fB fT n → (∀ i, i < j → gval c0 fO fA fB fT (gtg fT n i) ≠ gval c0 fO fA fB fT n) → (g_bd c0 fO fA fB fT fl2 fh2) → ∀ (H : Heap) (locs : List Loc), va_P (dC, dI) vwCl (gw ad cz ci cj ((nI c0), fO, fA, fB, fT, sv, fC, rs, dk, ds, fL, fl2, fh2)) H → va_D Ar (gw ad cz ci cj ((nI c0), fO, fA, fB, fT, sv, fC, rs, dk, ds, fL, fl2, fh2)) → va_S Ar s.heap H locs → ∀ (ls : Array Slot), lv_has ls 5 [(4, .int (nI j))] → W p l e R s m args below meth c H locs 0 0 Q (F0 m 43 ls [])) :
    ∀ (fuel : Nat) (j : Nat) (fl2 : Nat → Int32) (fh2 : Nat → Int32), gmv fO fA fB n + 1 ≤ j + fuel → j ≤ gmv fO fA fB n → (∀ i, i < j → gval c0 fO fA fB fT (gtg fT n i) ≠ gval c0 fO fA fB fT n) → (g_bd c0 fO fA fB fT fl2 fh2) → ∀ (H : Heap) (locs : List Loc), va_P (dC, dI) vwCl (gw ad cz ci cj ((nI c0), fO, fA, fB, fT, sv, fC, rs, dk, ds, fL, fl2, fh2)) H → va_D Ar (gw ad cz ci cj ((nI c0), fO, fA, fB, fT, sv, fC, rs, dk, ds, fL, fl2, fh2)) → va_S Ar s.heap H locs → ∀ (ls : Array Slot), lv_has ls 5 [(0, .ref (ad 0)), (1, .int (nI n)), (2, .int v), (3, .int (nI (gmv fO fA fB n))), (4, .int (nI j))] → W p l e R s m args below meth c H locs 0 0 Q (F0 m 15 ls []) := by
  intro fuel
  induction fuel with
  | zero => intro j fl2 fh2 hfu hj hI hbd; exact absurd hfu (by omega)
  | succ fuel ih =>
    intro j fl2 fh2 hfu hj hI hbd H locs hP hD hS ls hl
    have h60 := hg.2.1
    have hnl := s_re_lt (g_sok hg) hre
    have h12 := (g_mvI hg hnl).2
    have hvb := g_val_b hg hnd hre
    have hpm := k_pm (v := v) (by omega) (by omega)
    refine lv_iload hx hb dX0_findBest_15 (lv_at hl 4 rfl) ?_
    refine lv_iload_n hx hb dX0_findBest_17 rfl (lv_at hl 3 rfl) ?_
    refine lv_icmp_ge (tgt := 52) hx hb dX0_findBest_18 (by decide) (fun c_1 => ?_) (fun c_1 => ?_)
    · exact kx fl2 fh2 (by rw [show j = gmv fO fA fB n from (k_eq hj c_1 (by omega)).symm] at hI; exact hI) hbd _ _ hP hD hS _ (lv_sub hl [0] rfl)
    · have hlt : j < gmv fO fA fB n := k_lt c_1 (by omega)
      refine lv_aload_n hx hb dX0_findBest_21 rfl (lv_at hl 0 rfl) ?_
      refine lv_aload_n hx hb dX0_findBest_22 rfl (lv_at hl 0 rfl) ?_
      refine lv_iload_n hx hb dX0_findBest_23 rfl (lv_at hl 1 rfl) ?_
      refine lv_iload hx hb dX0_findBest_24 (lv_at hl 4 rfl) ?_
      refine g_calli ⟨hx, hb, hml, hown, hw⟩ (c_X0_target l dC dI ad cz ci cj H.size (nI c0) fO fA fB fT sv fC rs dk ds fL fl2 fh2 n j (by omega) (by omega)) (cwV 2 hw gv_X0_X0_target rfl rfl rfl (by decide +kernel) ⟨Nat.le_trans (Nat.le_of_ble_eq_true rfl) hR1, Nat.le_trans (Nat.le_of_ble_eq_true rfl) hR2⟩) hK hP hD hS hA (ci := 0) (q0 := 0) rfl rfl rfl hl.1 rfl (Nat.le_of_ble_eq_true rfl) dX0_findBest_26 ⟨Nat.zero_le _, Nat.zero_le _⟩ (fun rb_2 un H locs hq hP hD hS => ?_)
      obtain ⟨rfl, hq⟩ := hq
      have hP : va_P (dC, dI) vwCl (gw ad cz ci cj ((nI c0), fO, fA, fB, fT, sv, fC, rs, dk, ds, fL, fl2, fh2)) H := hP
      have hD : va_D Ar (gw ad cz ci cj ((nI c0), fO, fA, fB, fT, sv, fC, rs, dk, ds, fL, fl2, fh2)) := hD
      have ht := g_tgI hg hnl (j := j) (by omega)
      refine x_topi (y := nI (gtg fT n j)) (by rw [hq]; exact ht.1) ?_
      have hrc := s_re_ed (g_sok hg) hre hlt
      have hkc := s_rk_c (g_sok hg) hnd.2 hrc
      refine lv_iload_n hx hb dX0_findBest_29 rfl (lv_at hl 2 rfl) ?_
      refine lv_iconst (v := 1) hx hb dX0_findBest_30 (by decide) ?_
      refine lv_isub hx hb dX0_findBest_31 ?_
      refine lv_iload_n hx hb dX0_findBest_32 rfl (lv_at hl 2 rfl) ?_
      refine lv_iconst (v := 1) hx hb dX0_findBest_33 (by decide) ?_
      refine lv_iadd hx hb dX0_findBest_34 ?_
      refine lv_iconst (v := 0) hx hb dX0_findBest_35 (by decide) ?_
      refine x_topi (y := nI 0) (rfl) ?_
      refine g_calli ⟨hx, hb, hml, hown, hw⟩ (c_search l dC dI ad cz ci cj c0 fO fA fB fT hg hnd 60 H.size sv fC rs dk ds fL fl2 fh2 (gtg fT n j) 0 (v - 1) (v + 1) hrc (by simp only [grk]; omega) (by simp only [grk]; omega) (by omega) hbd) (cwV 4 hw gv_X0_X0_search rfl rfl rfl (by decide +kernel) ⟨Nat.le_trans (Nat.le_of_ble_eq_true rfl) hR1, Nat.le_trans (Nat.le_of_ble_eq_true rfl) hR2⟩) hK hP hD hS hA (ci := 0) (q0 := 0) rfl rfl rfl hl.1 rfl (Nat.le_of_ble_eq_true rfl) dX0_findBest_36 ⟨Nat.zero_le _, Nat.zero_le _⟩ (fun rb_3 un H locs hq hP hD hS => ?_)
      obtain ⟨fl3, fh3, hbd3, hok, rfl⟩ := hq
      have hP : va_P (dC, dI) vwCl (gw ad cz ci cj ((nI c0), fO, fA, fB, fT, sv, fC, rs, dk, ds, fL, fl3, fh3)) H := hP
      have hD : va_D Ar (gw ad cz ci cj ((nI c0), fO, fA, fB, fT, sv, fC, rs, dk, ds, fL, fl3, fh3)) := hD
      rw [hpm.1, hpm.2] at hok
      refine lv_iload_n hx hb dX0_findBest_39 rfl (lv_at hl 2 rfl) ?_
      refine lv_icmp_ne (tgt := 46) hx hb dX0_findBest_40 (by decide) (fun cb_4 => ?_) (fun cb_4 => ?_)
      · have hne : gval c0 fO fA fB fT (gtg fT n j) ≠ gval c0 fO fA fB fT n := fun e => cb_4 (Int32.toInt_inj.mp (by rw [hok.2.1 (by omega) (by omega)]; omega))
        refine lv_iinc (v := (nI (j + 1))) (lv' := [(4, .int (nI (j + 1))), (0, .ref (ad 0)), (1, .int (nI n)), (2, .int v), (3, .int (nI (gmv fO fA fB n)))]) hx hb dX0_findBest_46 hl (k := 4) rfl (nI_1 j) (by decide) rfl (fun ls hl => ?_)
        refine lv_goto (tgt := 15) hx hb dX0_findBest_49 (by decide) ?_
        exact ih (j + 1) fl3 fh3 (by omega) (by omega) (fun i hi => by rcases Nat.lt_or_ge i j with q | q; exact hI i q; have e : i = j := (by omega); rw [e]; exact hne) hbd3 _ _ hP hD hS _ (lv_sub hl [1, 2, 3, 4, 0] rfl)
      · have e2 := congrArg Int32.toInt cb_4
        exact ky j fl3 fh3 hlt (by obtain ⟨a1, a2, a3⟩ := hok; omega) hI hbd3 _ _ hP hD hS _ (lv_sub hl [4] rfl)
set_option maxHeartbeats 4000000 in
set_option maxRecDepth 100000 in
theorem c_X0_findBest (l : Launch) (dC : Nat → ClassId) (dI : Nat → Nat → Nat) (ad : Nat → Nat) (cz ci cj : ClassId) (sz : Nat) (cnt : Int32) (fO : Nat → Int32) (fA : Nat → Int32) (fB : Nat → Int32) (fT : Nat → Int32) (sv : Int32) (fC : Nat → Int64) (rs : Int64) (dk : Int32) (ds : Int32) (fL : Nat → Int32) (fl : Nat → Int32) (fh : Nat → Int32) (n : Nat) (c0 : Nat) (hg : g_ok c0 fO fA fB fT) (hnd : g_nd c0 fO fA fB fT) (hre : gre c0 fO fA fB fT n) (hbd : g_bd c0 fO fA fB fT fl fh) : Met l yX0_findBest wX0_findBest ({ frames := 122, cells := 0, slots := 0, locals := 3406 }) (va_Pc [.ref (ad 0), .int (nI n)] (g_Pre (dC, dI) vwCl (gty cz ci cj) (gw ad cz ci cj ((nI c0), fO, fA, fB, fT, sv, fC, rs, dk, ds, fL, fl, fh)) sz)) (va_Qi (fun (r : Int32) (u : GS) => ∃ fl2 fh2 : Nat → Int32, g_bd c0 fO fA fB fT fl2 fh2 ∧ ((∃ j, j < gmv fO fA fB n ∧ gval c0 fO fA fB fT (gtg fT n j) = gval c0 fO fA fB fT n ∧ (∀ i, i < j → gval c0 fO fA fB fT (gtg fT n i) ≠ gval c0 fO fA fB fT n) ∧ r = nI j) ∨ ((∀ i, i < gmv fO fA fB n → gval c0 fO fA fB fT (gtg fT n i) ≠ gval c0 fO fA fB fT n) ∧ r = -1)) ∧ u = ((nI c0), fO, fA, fB, fT, sv, fC, rs, dk, ds, fL, fl2, fh2)) (g_At (dC, dI) vwCl (gty cz ci cj) (va_A (gw ad cz ci cj ((nI c0), fO, fA, fB, fT, sv, fC, rs, dk, ds, fL, fl, fh)) sz) (gw ad cz ci cj)) (va_A (gw ad cz ci cj ((nI c0), fO, fA, fB, fT, sv, fC, rs, dk, ds, fL, fl, fh)) sz)) 0 0 (va_A (gw ad cz ci cj ((nI c0), fO, fA, fB, fT, sv, fC, rs, dk, ds, fL, fl, fh)) sz) := by
  refine Met.ofW (cc := cX0_findBest) (maxL := 5) (ret := some .int) (by decide) rfl ?_
  intro p e s m args below meth c s₁ Bd hml hv
  obtain ⟨rfl, hsz, hP, hK, hD0⟩ := hv
  have hx := Bd.exec
  have hb := Bd.bytes
  have hr := Bd.returns
  have hts := atoms_spec (ws := wX0_findBest) Bd.pre
  have hw : ∀ w ∈ wAll, w.before _ s = true := fun w h => hts w (List.mem_cons_of_mem _ h)
  have hown : s.vm.findClass "GameGraph" = some m.cls := findClass_of_methodNamed Bd.named
  have hlocks := Bd.notSynchronized
  subst hsz
  have hD := hD0.self (sz := s.heap.size)
  generalize hAe : va_A (gw ad cz ci cj ((nI c0), fO, fA, fB, fT, sv, fC, rs, dk, ds, fL, fl, fh)) s.heap.size = Ar at hD ⊢
  have hA : ∀ q : Nat, s.heap.size ≤ q → Ar q := fun q h => by rw [← hAe]; exact Or.inr h
  obtain ⟨H, hH⟩ : ∃ H : Heap, H = s.heap := ⟨_, rfl⟩
  have hS : va_S Ar s.heap H [] := by rw [hH]; exact va_S.rf
  have hP : va_P (dC, dI) vwCl (gw ad cz ci cj ((nI c0), fO, fA, fB, fT, sv, fC, rs, dk, ds, fL, fl, fh)) H := by rw [hH]; exact hP
  rw [← hH]
  have hl := lv_entry ([.ref (ad 0), .int (nI n)]) (n := 5) (Nat.le_of_ble_eq_true rfl)
  rw [lg_entry_eq]
  generalize (lg_sl ([.ref (ad 0), .int (nI n)]) ++ List.replicate (5 - (lg_sl ([.ref (ad 0), .int (nI n)])).length) Slot.unset).toArray = ls at hl ⊢
  have hl : lv_has ls 5 [(0, .ref (ad 0)), (1, .int (nI n))] := hl
  have h60 := hg.2.1
  have hnl := s_re_lt (g_sok hg) hre
  refine lv_aload_n hx hb dX0_findBest_0 rfl (lv_at hl 0 rfl) ?_
  refine lv_iload_n hx hb dX0_findBest_1 rfl (lv_at hl 1 rfl) ?_
  refine g_calli ⟨hx, hb, hml, hown, hw⟩ (c_X0_findValue l dC dI ad cz ci cj H.size (nI c0) fO fA fB fT sv fC rs dk ds fL fl fh n c0 hg hnd hre hbd) (cwV 1 hw gv_X0_X0_findValue rfl rfl rfl (by decide +kernel) ⟨Nat.le_of_ble_eq_true rfl, Nat.le_of_ble_eq_true rfl⟩) hK hP hD hS hA (ci := 0) (q0 := 0) rfl rfl rfl hl.1 rfl (Nat.le_of_ble_eq_true rfl) dX0_findBest_2 ⟨Nat.zero_le _, Nat.zero_le _⟩ (fun r_1 un H locs hq hP hD hS => ?_)
  obtain ⟨fl2, fh2, hbd2, hv, rfl⟩ := hq
  have hP : va_P (dC, dI) vwCl (gw ad cz ci cj ((nI c0), fO, fA, fB, fT, sv, fC, rs, dk, ds, fL, fl2, fh2)) H := hP
  have hD : va_D Ar (gw ad cz ci cj ((nI c0), fO, fA, fB, fT, sv, fC, rs, dk, ds, fL, fl2, fh2)) := hD
  refine lv_istore_n (lv' := [(2, .int r_1), (0, .ref (ad 0)), (1, .int (nI n))]) hx hb dX0_findBest_5 rfl hl (by decide) rfl (fun ls hl => ?_)
  refine lv_aload_n hx hb dX0_findBest_6 rfl (lv_at hl 1 rfl) ?_
  refine lv_iload_n hx hb dX0_findBest_7 rfl (lv_at hl 2 rfl) ?_
  refine g_calli ⟨hx, hb, hml, hown, hw⟩ (c_X0_jointMoves l dC dI ad cz ci cj H.size (nI c0) fO fA fB fT sv fC rs dk ds fL fl2 fh2 n (by omega)) (cwV 1 hw gv_X0_X0_jointMoves rfl rfl rfl (by decide +kernel) ⟨Nat.le_of_ble_eq_true rfl, Nat.le_of_ble_eq_true rfl⟩) hK hP hD hS hA (ci := 0) (q0 := 0) rfl rfl rfl hl.1 rfl (Nat.le_of_ble_eq_true rfl) dX0_findBest_8 ⟨Nat.zero_le _, Nat.zero_le _⟩ (fun r_2 un H locs hq hP hD hS => ?_)
  obtain ⟨rfl, hq⟩ := hq
  have hP : va_P (dC, dI) vwCl (gw ad cz ci cj ((nI c0), fO, fA, fB, fT, sv, fC, rs, dk, ds, fL, fl2, fh2)) H := hP
  have hD : va_D Ar (gw ad cz ci cj ((nI c0), fO, fA, fB, fT, sv, fC, rs, dk, ds, fL, fl2, fh2)) := hD
  refine x_topi (y := nI (gmv fO fA fB n)) (by rw [hq]; exact (g_mvI hg hnl).1) ?_
  refine lv_istore_n (lv' := [(3, .int (nI (gmv fO fA fB n))), (2, .int r_1), (0, .ref (ad 0)), (1, .int (nI n))]) hx hb dX0_findBest_11 rfl hl (by decide) rfl (fun ls hl => ?_)
  refine lv_iconst (v := 0) hx hb dX0_findBest_12 (by decide) ?_
  refine x_topi (y := nI 0) (rfl) ?_
  refine lv_istore (lv' := [(4, .int (nI 0)), (3, .int (nI (gmv fO fA fB n))), (2, .int r_1), (0, .ref (ad 0)), (1, .int (nI n))]) hx hb dX0_findBest_13 hl (by decide) rfl (fun ls hl => ?_)
  refine lp_best (dC := dC) (dI := dI) (ad := ad) (cz := cz) (ci := ci) (cj := cj) (Ar := Ar) hx hb hml hown hw hK hA (Nat.le_of_ble_eq_true rfl) (Nat.le_of_ble_eq_true rfl) fO fA fB fT sv fC rs dk ds fL n c0 hg hnd hre r_1 hv ?_ ?_ (gmv fO fA fB n + 1) 0 fl2 fh2 (by omega) (by omega) (fun i hi => absurd hi (Nat.not_lt_zero _)) hbd2 _ _ hP hD hS _ (lv_sub hl [3, 4, 2, 1, 0] rfl)
  · intro fl2 fh2 hI hbd H locs hP hD hS ls hl
    refine lv_iconst (v := -1) hx hb dX0_findBest_52 (by decide) ?_
    exact W.iret (v := (-1)) hx hb hr (fun t ht hW => ⟨⟨(-1), ((nI c0), fO, fA, fB, fT, sv, fC, rs, dk, ds, fL, fl2, fh2), rfl, (⟨fl2, fh2, hbd, Or.inr ⟨hI, rfl⟩, rfl⟩), (by rw [ht]; exact hP), va_K.moved hW.alike hK, hD⟩, hS.F ht⟩) hS.2.2 dX0_findBest_53
  · intro j fl2 fh2 hlt he hI hbd H locs hP hD hS ls hl
    refine lv_iload hx hb dX0_findBest_43 (lv_at hl 0 rfl) ?_
    exact W.iret (v := (nI j)) hx hb hr (fun t ht hW => ⟨⟨(nI j), ((nI c0), fO, fA, fB, fT, sv, fC, rs, dk, ds, fL, fl2, fh2), rfl, (⟨fl2, fh2, hbd, Or.inl ⟨j, hlt, he, hI, rfl⟩, rfl⟩), (by rw [ht]; exact hP), va_K.moved hW.alike hK, hD⟩, hS.F ht⟩) hS.2.2 dX0_findBest_45
set_option maxHeartbeats 4000000 in
set_option maxRecDepth 100000 in
theorem c_X0_value (l : Launch) (hl0 : l.stackTraces = false) (dC : Nat → ClassId) (dI : Nat → Nat → Nat) (ad : Nat → Nat) (cz ci cj : ClassId) (sz : Nat) (cnt : Int32) (fO : Nat → Int32) (fA : Nat → Int32) (fB : Nat → Int32) (fT : Nat → Int32) (sv : Int32) (fC : Nat → Int64) (rs : Int64) (dk : Int32) (ds : Int32) (fL : Nat → Int32) (fl : Nat → Int32) (fh : Nat → Int32) (n : Int32) (c0 : Nat) (hg : g_ok c0 fO fA fB fT) (hsv : sv = 0 ∨ (sv = 1 ∧ g_sv c0 fO fA fB fT rs dk ds fL fl fh)) : vx_Met l yX0_value wX0_value ({ frames := 122, cells := 1, slots := 6, locals := 3406 }) (va_Pc [.ref (ad 0), .int n] (x_Pre (dC, dI) vwCl (gty cz ci cj) (gw ad cz ci cj ((nI c0), fO, fA, fB, fT, sv, fC, rs, dk, ds, fL, fl, fh)) sz)) (va_Qi (fun (r : Int32) (u : GS) => g_nd c0 fO fA fB fT ∧ (∃ ds2, g_SV c0 fO fA fB fT 0 ds2 u) ∧ ∃ k, k < c0 ∧ n = nI k ∧ gre c0 fO fA fB fT k ∧ r.toInt = gval c0 fO fA fB fT k) (g_At (dC, dI) vwCl (gty cz ci cj) (va_A (gw ad cz ci cj ((nI c0), fO, fA, fB, fT, sv, fC, rs, dk, ds, fL, fl, fh)) sz) (gw ad cz ci cj)) (va_A (gw ad cz ci cj ((nI c0), fO, fA, fB, fT, sv, fC, rs, dk, ds, fL, fl, fh)) sz)) (x_XC (dC, dI) vwCl (gty cz ci cj) (va_A (gw ad cz ci cj ((nI c0), fO, fA, fB, fT, sv, fC, rs, dk, ds, fL, fl, fh)) sz) (gw ad cz ci cj) (fun (E : String) (u : GS) => (E = "java/lang/IllegalStateException" ∧ ∃ dk2 ds2, dk2 ≠ 0 ∧ g_SV c0 fO fA fB fT dk2 ds2 u) ∨ (E = "java/lang/IndexOutOfBoundsException" ∧ (∃ ds2, g_SV c0 fO fA fB fT 0 ds2 u) ∧ ∀ k, k < c0 → n = nI k → ¬ gre c0 fO fA fB fT k))) 1 6 (va_A (gw ad cz ci cj ((nI c0), fO, fA, fB, fT, sv, fC, rs, dk, ds, fL, fl, fh)) sz) := by
  refine vx_ofW (cc := cX0_value) (maxL := 2) (ret := some .int) (by decide) rfl ?_
  intro p e s m args below meth c s₁ Bd hml htab hv
  obtain ⟨rfl, hsz, hP, hK, hD0, hE⟩ := hv
  have hx := Bd.exec
  have hb := Bd.bytes
  have hr := Bd.returns
  have hts := atoms_spec (ws := wX0_value) Bd.pre
  have hw : ∀ w ∈ wAll, w.before _ s = true := fun w h => hts w (List.mem_cons_of_mem _ h)
  have hown : s.vm.findClass "GameGraph" = some m.cls := findClass_of_methodNamed Bd.named
  have hlocks := Bd.notSynchronized
  subst hsz
  have hD := hD0.self (sz := s.heap.size)
  generalize hAe : va_A (gw ad cz ci cj ((nI c0), fO, fA, fB, fT, sv, fC, rs, dk, ds, fL, fl, fh)) s.heap.size = Ar at hD hE ⊢
  have hA : ∀ q : Nat, s.heap.size ≤ q → Ar q := fun q h => by rw [← hAe]; exact Or.inr h
  obtain ⟨H, hH⟩ : ∃ H : Heap, H = s.heap := ⟨_, rfl⟩
  have hS : va_S Ar s.heap H [] := by rw [hH]; exact va_S.rf
  have hP : va_P (dC, dI) vwCl (gw ad cz ci cj ((nI c0), fO, fA, fB, fT, sv, fC, rs, dk, ds, fL, fl, fh)) H := by rw [hH]; exact hP
  rw [← hH]
  have hl := lv_entry ([.ref (ad 0), .int n]) (n := 2) (Nat.le_of_ble_eq_true rfl)
  rw [lg_entry_eq]
  generalize (lg_sl ([.ref (ad 0), .int n]) ++ List.replicate (2 - (lg_sl ([.ref (ad 0), .int n])).length) Slot.unset).toArray = ls at hl ⊢
  have hl : lv_has ls 2 [(0, .ref (ad 0)), (1, .int n)] := hl
  refine lv_aload_n hx hb dX0_value_0 rfl (lv_at hl 0 rfl) ?_
  refine lv_iload_n hx hb dX0_value_1 rfl (lv_at hl 1 rfl) ?_
  refine g_callxv ⟨hx, hb, hml, hown, hw⟩ (c_X0_requireValued l hl0 dC dI ad cz ci cj H.size (nI c0) fO fA fB fT sv fC rs dk ds fL fl fh n c0 hg hsv) (cwV 1 hw gv_X0_X0_requireValued rfl rfl rfl (by decide +kernel) ⟨Nat.le_of_ble_eq_true rfl, Nat.le_of_ble_eq_true rfl⟩) hK hP hD hS hA hE (ci := 0) (q0 := 0) rfl rfl rfl hl.1 rfl (Nat.le_of_ble_eq_true rfl) dX0_value_2 ⟨Nat.le_of_ble_eq_true rfl, Nat.le_of_ble_eq_true rfl⟩ (fun  un H locs hq hP hD hS => ?_) (fun E ce q9 un H locs hq hP hD hS hce hcv hcl => ?_)
  · obtain ⟨⟨ds2, fC2, rs2, fL2, fl2, fh2, hs2, rfl⟩, k, hk, rfl, hre⟩ := hq
    have hP : va_P (dC, dI) vwCl (gw ad cz ci cj ((nI c0), fO, fA, fB, fT, 1, fC2, rs2, 0, ds2, fL2, fl2, fh2)) H := hP
    have hD : va_D Ar (gw ad cz ci cj ((nI c0), fO, fA, fB, fT, 1, fC2, rs2, 0, ds2, fL2, fl2, fh2)) := hD
    have hnd := g_nd_of hg hs2.2.1
    have h60 := hg.2.1
    refine lv_aload_n hx hb dX0_value_5 rfl (lv_at hl 0 rfl) ?_
    refine lv_iload_n hx hb dX0_value_6 rfl (lv_at hl 1 rfl) ?_
    refine g_calli ⟨hx, hb, hml, hown, hw⟩ (c_X0_findValue l dC dI ad cz ci cj H.size (nI c0) fO fA fB fT 1 fC2 rs2 0 ds2 fL2 fl2 fh2 k c0 hg hnd hre (hs2.2.2 rfl).2) (cwV 1 hw gv_X0_X0_findValue rfl rfl rfl (by decide +kernel) ⟨Nat.le_of_ble_eq_true rfl, Nat.le_of_ble_eq_true rfl⟩) hK hP hD hS hA (ci := 0) (q0 := 0) rfl rfl rfl hl.1 rfl (Nat.le_of_ble_eq_true rfl) dX0_value_7 ⟨Nat.le_of_ble_eq_true rfl, Nat.le_of_ble_eq_true rfl⟩ (fun ra_1 un H locs hq hP hD hS => ?_)
    obtain ⟨fl3, fh3, hb3, hv, rfl⟩ := hq
    have hP : va_P (dC, dI) vwCl (gw ad cz ci cj ((nI c0), fO, fA, fB, fT, 1, fC2, rs2, 0, ds2, fL2, fl3, fh3)) H := hP
    have hD : va_D Ar (gw ad cz ci cj ((nI c0), fO, fA, fB, fT, 1, fC2, rs2, 0, ds2, fL2, fl3, fh3)) := hD
    refine vx_ret (W.widen (k := 1) (n := 6) (Nat.le_of_ble_eq_true rfl) (Nat.le_of_ble_eq_true rfl) ?_)
    exact W.iret (v := ra_1) hx hb hr (fun t ht hW => ⟨⟨ra_1, ((nI c0), fO, fA, fB, fT, 1, fC2, rs2, 0, ds2, fL2, fl3, fh3), rfl, (⟨hnd, ⟨ds2, fC2, rs2, fL2, fl3, fh3, ⟨hs2.1, hs2.2.1, fun _ => ⟨(hs2.2.2 rfl).1, hb3⟩⟩, rfl⟩, k, hk, rfl, hre, hv⟩), (by rw [ht]; exact hP), va_K.moved hW.alike hK, hD⟩, hS.F ht⟩) hS.2.2 dX0_value_10
  · exact vx_out (fun x hx9 => (htab x hx9).elim) hlocks hce hcv hcl (fun t ht hal => ⟨un, trivial, ⟨hq, (by rw [ht]; exact hP), va_K.moved hal hK, hD⟩, hS.F ht⟩) hS.2.2 (Nat.le_of_ble_eq_true rfl) (Nat.le_of_ble_eq_true rfl)
set_option maxHeartbeats 4000000 in
set_option maxRecDepth 100000 in
theorem c_X0_best (l : Launch) (hl0 : l.stackTraces = false) (dC : Nat → ClassId) (dI : Nat → Nat → Nat) (ad : Nat → Nat) (cz ci cj : ClassId) (sz : Nat) (cnt : Int32) (fO : Nat → Int32) (fA : Nat → Int32) (fB : Nat → Int32) (fT : Nat → Int32) (sv : Int32) (fC : Nat → Int64) (rs : Int64) (dk : Int32) (ds : Int32) (fL : Nat → Int32) (fl : Nat → Int32) (fh : Nat → Int32) (n : Int32) (c0 : Nat) (hg : g_ok c0 fO fA fB fT) (hsv : sv = 0 ∨ (sv = 1 ∧ g_sv c0 fO fA fB fT rs dk ds fL fl fh)) : vx_Met l yX0_best wX0_best ({ frames := 123, cells := 1, slots := 6, locals := 3430 }) (va_Pc [.ref (ad 0), .int n] (x_Pre (dC, dI) vwCl (gty cz ci cj) (gw ad cz ci cj ((nI c0), fO, fA, fB, fT, sv, fC, rs, dk, ds, fL, fl, fh)) sz)) (va_Qi (fun (r : Int32) (u : GS) => g_nd c0 fO fA fB fT ∧ (∃ ds2, g_SV c0 fO fA fB fT 0 ds2 u) ∧ ∃ k, k < c0 ∧ n = nI k ∧ gre c0 fO fA fB fT k ∧ ((∃ j, j < gmv fO fA fB k ∧ gval c0 fO fA fB fT (gtg fT k j) = gval c0 fO fA fB fT k ∧ (∀ i, i < j → gval c0 fO fA fB fT (gtg fT k i) ≠ gval c0 fO fA fB fT k) ∧ r = nI j) ∨ ((∀ i, i < gmv fO fA fB k → gval c0 fO fA fB fT (gtg fT k i) ≠ gval c0 fO fA fB fT k) ∧ r = -1))) (g_At (dC, dI) vwCl (gty cz ci cj) (va_A (gw ad cz ci cj ((nI c0), fO, fA, fB, fT, sv, fC, rs, dk, ds, fL, fl, fh)) sz) (gw ad cz ci cj)) (va_A (gw ad cz ci cj ((nI c0), fO, fA, fB, fT, sv, fC, rs, dk, ds, fL, fl, fh)) sz)) (x_XC (dC, dI) vwCl (gty cz ci cj) (va_A (gw ad cz ci cj ((nI c0), fO, fA, fB, fT, sv, fC, rs, dk, ds, fL, fl, fh)) sz) (gw ad cz ci cj) (fun (E : String) (u : GS) => (E = "java/lang/IllegalStateException" ∧ ∃ dk2 ds2, dk2 ≠ 0 ∧ g_SV c0 fO fA fB fT dk2 ds2 u) ∨ (E = "java/lang/IndexOutOfBoundsException" ∧ (∃ ds2, g_SV c0 fO fA fB fT 0 ds2 u) ∧ ∀ k, k < c0 → n = nI k → ¬ gre c0 fO fA fB fT k))) 1 6 (va_A (gw ad cz ci cj ((nI c0), fO, fA, fB, fT, sv, fC, rs, dk, ds, fL, fl, fh)) sz) := by
  refine vx_ofW (cc := cX0_best) (maxL := 2) (ret := some .int) (by decide) rfl ?_
  intro p e s m args below meth c s₁ Bd hml htab hv
  obtain ⟨rfl, hsz, hP, hK, hD0, hE⟩ := hv
  have hx := Bd.exec
  have hb := Bd.bytes
  have hr := Bd.returns
  have hts := atoms_spec (ws := wX0_best) Bd.pre
  have hw : ∀ w ∈ wAll, w.before _ s = true := fun w h => hts w (List.mem_cons_of_mem _ h)
  have hown : s.vm.findClass "GameGraph" = some m.cls := findClass_of_methodNamed Bd.named
  have hlocks := Bd.notSynchronized
  subst hsz
  have hD := hD0.self (sz := s.heap.size)
  generalize hAe : va_A (gw ad cz ci cj ((nI c0), fO, fA, fB, fT, sv, fC, rs, dk, ds, fL, fl, fh)) s.heap.size = Ar at hD hE ⊢
  have hA : ∀ q : Nat, s.heap.size ≤ q → Ar q := fun q h => by rw [← hAe]; exact Or.inr h
  obtain ⟨H, hH⟩ : ∃ H : Heap, H = s.heap := ⟨_, rfl⟩
  have hS : va_S Ar s.heap H [] := by rw [hH]; exact va_S.rf
  have hP : va_P (dC, dI) vwCl (gw ad cz ci cj ((nI c0), fO, fA, fB, fT, sv, fC, rs, dk, ds, fL, fl, fh)) H := by rw [hH]; exact hP
  rw [← hH]
  have hl := lv_entry ([.ref (ad 0), .int n]) (n := 2) (Nat.le_of_ble_eq_true rfl)
  rw [lg_entry_eq]
  generalize (lg_sl ([.ref (ad 0), .int n]) ++ List.replicate (2 - (lg_sl ([.ref (ad 0), .int n])).length) Slot.unset).toArray = ls at hl ⊢
  have hl : lv_has ls 2 [(0, .ref (ad 0)), (1, .int n)] := hl
  refine lv_aload_n hx hb dX0_best_0 rfl (lv_at hl 0 rfl) ?_
  refine lv_iload_n hx hb dX0_best_1 rfl (lv_at hl 1 rfl) ?_
  refine g_callxv ⟨hx, hb, hml, hown, hw⟩ (c_X0_requireValued l hl0 dC dI ad cz ci cj H.size (nI c0) fO fA fB fT sv fC rs dk ds fL fl fh n c0 hg hsv) (cwV 1 hw gv_X0_X0_requireValued rfl rfl rfl (by decide +kernel) ⟨Nat.le_of_ble_eq_true rfl, Nat.le_of_ble_eq_true rfl⟩) hK hP hD hS hA hE (ci := 0) (q0 := 0) rfl rfl rfl hl.1 rfl (Nat.le_of_ble_eq_true rfl) dX0_best_2 ⟨Nat.le_of_ble_eq_true rfl, Nat.le_of_ble_eq_true rfl⟩ (fun  un H locs hq hP hD hS => ?_) (fun E ce q9 un H locs hq hP hD hS hce hcv hcl => ?_)
  · obtain ⟨⟨ds2, fC2, rs2, fL2, fl2, fh2, hs2, rfl⟩, k, hk, rfl, hre⟩ := hq
    have hP : va_P (dC, dI) vwCl (gw ad cz ci cj ((nI c0), fO, fA, fB, fT, 1, fC2, rs2, 0, ds2, fL2, fl2, fh2)) H := hP
    have hD : va_D Ar (gw ad cz ci cj ((nI c0), fO, fA, fB, fT, 1, fC2, rs2, 0, ds2, fL2, fl2, fh2)) := hD
    have hnd := g_nd_of hg hs2.2.1
    have h60 := hg.2.1
    refine lv_aload_n hx hb dX0_best_5 rfl (lv_at hl 0 rfl) ?_
    refine lv_iload_n hx hb dX0_best_6 rfl (lv_at hl 1 rfl) ?_
    refine g_calli ⟨hx, hb, hml, hown, hw⟩ (c_X0_findBest l dC dI ad cz ci cj H.size (nI c0) fO fA fB fT 1 fC2 rs2 0 ds2 fL2 fl2 fh2 k c0 hg hnd hre (hs2.2.2 rfl).2) (cwV 1 hw gv_X0_X0_findBest rfl rfl rfl (by decide +kernel) ⟨Nat.le_of_ble_eq_true rfl, Nat.le_of_ble_eq_true rfl⟩) hK hP hD hS hA (ci := 0) (q0 := 0) rfl rfl rfl hl.1 rfl (Nat.le_of_ble_eq_true rfl) dX0_best_7 ⟨Nat.le_of_ble_eq_true rfl, Nat.le_of_ble_eq_true rfl⟩ (fun ra_1 un H locs hq hP hD hS => ?_)
    obtain ⟨fl3, fh3, hb3, hv, rfl⟩ := hq
    have hP : va_P (dC, dI) vwCl (gw ad cz ci cj ((nI c0), fO, fA, fB, fT, 1, fC2, rs2, 0, ds2, fL2, fl3, fh3)) H := hP
    have hD : va_D Ar (gw ad cz ci cj ((nI c0), fO, fA, fB, fT, 1, fC2, rs2, 0, ds2, fL2, fl3, fh3)) := hD
    refine vx_ret (W.widen (k := 1) (n := 6) (Nat.le_of_ble_eq_true rfl) (Nat.le_of_ble_eq_true rfl) ?_)
    exact W.iret (v := ra_1) hx hb hr (fun t ht hW => ⟨⟨ra_1, ((nI c0), fO, fA, fB, fT, 1, fC2, rs2, 0, ds2, fL2, fl3, fh3), rfl, (⟨hnd, ⟨ds2, fC2, rs2, fL2, fl3, fh3, ⟨hs2.1, hs2.2.1, fun _ => ⟨(hs2.2.2 rfl).1, hb3⟩⟩, rfl⟩, k, hk, rfl, hre, hv⟩), (by rw [ht]; exact hP), va_K.moved hW.alike hK, hD⟩, hS.F ht⟩) hS.2.2 dX0_best_10
  · exact vx_out (fun x hx9 => (htab x hx9).elim) hlocks hce hcv hcl (fun t ht hal => ⟨un, trivial, ⟨hq, (by rw [ht]; exact hP), va_K.moved hal hK, hD⟩, hS.F ht⟩) hS.2.2 (Nat.le_of_ble_eq_true rfl) (Nat.le_of_ble_eq_true rfl)
set_option maxHeartbeats 4000000 in
set_option maxRecDepth 100000 in
theorem c_X0_length (l : Launch) (hl0 : l.stackTraces = false) (dC : Nat → ClassId) (dI : Nat → Nat → Nat) (ad : Nat → Nat) (cz ci cj : ClassId) (sz : Nat) (cnt : Int32) (fO : Nat → Int32) (fA : Nat → Int32) (fB : Nat → Int32) (fT : Nat → Int32) (sv : Int32) (fC : Nat → Int64) (rs : Int64) (dk : Int32) (ds : Int32) (fL : Nat → Int32) (fl : Nat → Int32) (fh : Nat → Int32) (n : Int32) (c0 : Nat) (hg : g_ok c0 fO fA fB fT) (hsv : sv = 0 ∨ (sv = 1 ∧ g_sv c0 fO fA fB fT rs dk ds fL fl fh)) : vx_Met l yX0_length wX0_length ({ frames := 7, cells := 1, slots := 6, locals := 111 }) (va_Pc [.ref (ad 0), .int n] (x_Pre (dC, dI) vwCl (gty cz ci cj) (gw ad cz ci cj ((nI c0), fO, fA, fB, fT, sv, fC, rs, dk, ds, fL, fl, fh)) sz)) (va_Qi (fun (r : Int32) (u : GS) => g_nd c0 fO fA fB fT ∧ (∃ ds2, g_SV c0 fO fA fB fT 0 ds2 u) ∧ ∃ k, k < c0 ∧ n = nI k ∧ gre c0 fO fA fB fT k ∧ r = nI (glen c0 fO fA fB fT k)) (g_At (dC, dI) vwCl (gty cz ci cj) (va_A (gw ad cz ci cj ((nI c0), fO, fA, fB, fT, sv, fC, rs, dk, ds, fL, fl, fh)) sz) (gw ad cz ci cj)) (va_A (gw ad cz ci cj ((nI c0), fO, fA, fB, fT, sv, fC, rs, dk, ds, fL, fl, fh)) sz)) (x_XC (dC, dI) vwCl (gty cz ci cj) (va_A (gw ad cz ci cj ((nI c0), fO, fA, fB, fT, sv, fC, rs, dk, ds, fL, fl, fh)) sz) (gw ad cz ci cj) (fun (E : String) (u : GS) => (E = "java/lang/IllegalStateException" ∧ ∃ dk2 ds2, dk2 ≠ 0 ∧ g_SV c0 fO fA fB fT dk2 ds2 u) ∨ (E = "java/lang/IndexOutOfBoundsException" ∧ (∃ ds2, g_SV c0 fO fA fB fT 0 ds2 u) ∧ ∀ k, k < c0 → n = nI k → ¬ gre c0 fO fA fB fT k))) 1 6 (va_A (gw ad cz ci cj ((nI c0), fO, fA, fB, fT, sv, fC, rs, dk, ds, fL, fl, fh)) sz) := by
  refine vx_ofW (cc := cX0_length) (maxL := 2) (ret := some .int) (by decide) rfl ?_
  intro p e s m args below meth c s₁ Bd hml htab hv
  obtain ⟨rfl, hsz, hP, hK, hD0, hE⟩ := hv
  have hx := Bd.exec
  have hb := Bd.bytes
  have hr := Bd.returns
  have hts := atoms_spec (ws := wX0_length) Bd.pre
  have hw : ∀ w ∈ wAll, w.before _ s = true := fun w h => hts w (List.mem_cons_of_mem _ h)
  have hown : s.vm.findClass "GameGraph" = some m.cls := findClass_of_methodNamed Bd.named
  have hlocks := Bd.notSynchronized
  subst hsz
  have hD := hD0.self (sz := s.heap.size)
  generalize hAe : va_A (gw ad cz ci cj ((nI c0), fO, fA, fB, fT, sv, fC, rs, dk, ds, fL, fl, fh)) s.heap.size = Ar at hD hE ⊢
  have hA : ∀ q : Nat, s.heap.size ≤ q → Ar q := fun q h => by rw [← hAe]; exact Or.inr h
  obtain ⟨H, hH⟩ : ∃ H : Heap, H = s.heap := ⟨_, rfl⟩
  have hS : va_S Ar s.heap H [] := by rw [hH]; exact va_S.rf
  have hP : va_P (dC, dI) vwCl (gw ad cz ci cj ((nI c0), fO, fA, fB, fT, sv, fC, rs, dk, ds, fL, fl, fh)) H := by rw [hH]; exact hP
  rw [← hH]
  have hl := lv_entry ([.ref (ad 0), .int n]) (n := 2) (Nat.le_of_ble_eq_true rfl)
  rw [lg_entry_eq]
  generalize (lg_sl ([.ref (ad 0), .int n]) ++ List.replicate (2 - (lg_sl ([.ref (ad 0), .int n])).length) Slot.unset).toArray = ls at hl ⊢
  have hl : lv_has ls 2 [(0, .ref (ad 0)), (1, .int n)] := hl
  refine lv_aload_n hx hb dX0_length_0 rfl (lv_at hl 0 rfl) ?_
  refine lv_iload_n hx hb dX0_length_1 rfl (lv_at hl 1 rfl) ?_
  refine g_callxv ⟨hx, hb, hml, hown, hw⟩ (c_X0_requireValued l hl0 dC dI ad cz ci cj H.size (nI c0) fO fA fB fT sv fC rs dk ds fL fl fh n c0 hg hsv) (cwV 1 hw gv_X0_X0_requireValued rfl rfl rfl (by decide +kernel) ⟨Nat.le_of_ble_eq_true rfl, Nat.le_of_ble_eq_true rfl⟩) hK hP hD hS hA hE (ci := 0) (q0 := 0) rfl rfl rfl hl.1 rfl (Nat.le_of_ble_eq_true rfl) dX0_length_2 ⟨Nat.le_of_ble_eq_true rfl, Nat.le_of_ble_eq_true rfl⟩ (fun  un H locs hq hP hD hS => ?_) (fun E ce q9 un H locs hq hP hD hS hce hcv hcl => ?_)
  · obtain ⟨⟨ds2, fC2, rs2, fL2, fl2, fh2, hs2, rfl⟩, k, hk, rfl, hre⟩ := hq
    have hP : va_P (dC, dI) vwCl (gw ad cz ci cj ((nI c0), fO, fA, fB, fT, 1, fC2, rs2, 0, ds2, fL2, fl2, fh2)) H := hP
    have hD : va_D Ar (gw ad cz ci cj ((nI c0), fO, fA, fB, fT, 1, fC2, rs2, 0, ds2, fL2, fl2, fh2)) := hD
    have hnd := g_nd_of hg hs2.2.1
    have h60 := hg.2.1
    refine lv_aload_n hx hb dX0_length_5 rfl (lv_at hl 0 rfl) ?_
    refine va_get (D := (dC, dI)) (ci := 0) (v := .ref (ad 6)) (C := RX0) (T := TX0) (N := 13) hx hb hw in_X0 hown hK hP 0 rfl rfl 10 (by decide) (hw _ m_1_28) (fun _ h9 => h9) rfl dX0_length_6 ?_
    refine lv_iload_n hx hb dX0_length_9 rfl (lv_at hl 1 rfl) ?_
    refine va_iald hx hb hK hP 6 1 rfl rfl (vp_in_nI (by omega) (by decide)) dX0_length_10 ?_
    refine x_topi (y := fL2 k) (by rw [nI_clamp (by omega)]) ?_
    refine vx_ret (W.widen (k := 1) (n := 6) (Nat.le_of_ble_eq_true rfl) (Nat.le_of_ble_eq_true rfl) ?_)
    exact W.iret (v := (fL2 k)) hx hb hr (fun t ht hW => ⟨⟨(fL2 k), ((nI c0), fO, fA, fB, fT, 1, fC2, rs2, 0, ds2, fL2, fl2, fh2), rfl, (⟨hnd, ⟨ds2, fC2, rs2, fL2, fl2, fh2, hs2, rfl⟩, k, hk, rfl, hre, (hs2.2.2 rfl).1 k hre⟩), (by rw [ht]; exact hP), va_K.moved hW.alike hK, hD⟩, hS.F ht⟩) hS.2.2 dX0_length_11
  · exact vx_out (fun x hx9 => (htab x hx9).elim) hlocks hce hcv hcl (fun t ht hal => ⟨un, trivial, ⟨hq, (by rw [ht]; exact hP), va_K.moved hal hK, hD⟩, hS.F ht⟩) hS.2.2 (Nat.le_of_ble_eq_true rfl) (Nat.le_of_ble_eq_true rfl)
end
section
/-! Long.bitCount, and reached(). (wb_, u_tn, g_and, g_ushr: rows of the kit's BITS.to-paste.) -/
theorem wb_tb (n : Nat) : (lN n).toBitVec = BitVec.ofNat 64 n := rfl
theorem wb_inj {a b : Int64} (h : a.toBitVec = b.toBitVec) : a = b := Int64.toBitVec_inj.mp h
theorem wb_tn {n : Nat} (h : n < 2 ^ 64) : (lN n).toBitVec.toNat = n := by rw [wb_tb, BitVec.toNat_ofNat, Nat.mod_eq_of_lt h]
theorem wb_of (x : Int64) : ∃ n, n < 2 ^ 64 ∧ x = lN n := ⟨x.toBitVec.toNat, x.toBitVec.isLt, wb_inj (by rw [wb_tb]; simp)⟩
theorem u_tn {n : Nat} (h : n < 2 ^ 64) : (UInt64.ofNat n).toNat = n := Nat.mod_eq_of_lt h
theorem g_and {a b c : Nat} (ha : a < 2 ^ 64) (hb : b < 2 ^ 64) (hc : a &&& b = c) : lN a &&& lN b = lN c := by
  subst hc
  have h : UInt64.ofNat a &&& UInt64.ofNat b = UInt64.ofNat (a &&& b) := UInt64.toNat_inj.mp (by rw [UInt64.toNat_and, u_tn ha, u_tn hb, u_tn (Nat.and_lt_two_pow a hb)])
  have h2 := congrArg UInt64.toInt64 h
  exact h2
theorem g_ushr {a k p : Nat} {y : UInt64} (hy : y = UInt64.ofNat k) (hk : k < 64) (hp : 2 ^ k = p) (ha : a < 2 ^ 64) : ((lN a).toUInt64 >>> y).toInt64 = lN (a / p) := by
  subst hy hp
  have h : UInt64.ofNat a >>> UInt64.ofNat k = UInt64.ofNat (a / 2 ^ k) := UInt64.toNat_inj.mp (by rw [UInt64.toNat_shiftRight, u_tn ha, u_tn (by omega), u_tn (Nat.lt_of_le_of_lt (Nat.div_le_self _ _) ha), Nat.mod_eq_of_lt hk, Nat.shiftRight_eq_div_pow])
  have h2 := congrArg UInt64.toInt64 h
  exact h2
theorem p_by_le {f : Nat → Nat} {c : Nat} (h : ∀ b, b < 256 → f b ≤ c) : ∀ k n, p_by f k n ≤ p_M c k
  | 0, _ => Nat.le_refl _
  | k + 1, n => by
    have h1 := p_by_le h k (n / 256)
    have h2 := h (n % 256) (Nat.mod_lt _ (by decide))
    show 256 * p_by f k (n / 256) + f (n % 256) ≤ 256 * p_M c k + c
    omega
theorem p_l1 : ∀ b, b < 256 → p_1 b ≤ 255 := by decide +kernel
theorem p_l2 : ∀ b, b < 256 → p_2 b ≤ 68 := by decide +kernel
theorem p_bt {n j : Nat} (hj : j < 64) : b_t (lN n) j = n.testBit j := by
  unfold b_t
  rw [wb_tb, BitVec.getLsbD_ofNat]
  simp [hj]
set_option maxRecDepth 20000 in
theorem k_pop {x v1 v2 v3 v4 v5 v6 : Int64} (e1 : v1 = x - ((x.toUInt64 >>> ((1 : Int32).toInt64.toUInt64 &&& Int64.toUInt64 63)).toInt64 &&& 6148914691236517205))
    (e2 : v2 = (v1 &&& 3689348814741910323) + ((v1.toUInt64 >>> ((2 : Int32).toInt64.toUInt64 &&& Int64.toUInt64 63)).toInt64 &&& 3689348814741910323))
    (e3 : v3 = (v2 + (v2.toUInt64 >>> ((4 : Int32).toInt64.toUInt64 &&& Int64.toUInt64 63)).toInt64) &&& 1085102592571150095)
    (e4 : v4 = v3 + (v3.toUInt64 >>> ((8 : Int32).toInt64.toUInt64 &&& Int64.toUInt64 63)).toInt64) (e5 : v5 = v4 + (v4.toUInt64 >>> ((16 : Int32).toInt64.toUInt64 &&& Int64.toUInt64 63)).toInt64) (e6 : v6 = v5 + (v5.toUInt64 >>> ((32 : Int32).toInt64.toUInt64 &&& Int64.toUInt64 63)).toInt64) :
    v6.toInt32 &&& 127 = nI (b_ct (b_t x) 64) := by
  obtain ⟨n, hn, rfl⟩ := wb_of x
  have m1 : (6148914691236517205 : Int64) = lN (p_M 85 8) := by decide +kernel
  have m2 : (3689348814741910323 : Int64) = lN (p_M 51 8) := by decide +kernel
  have m3 : (1085102592571150095 : Int64) = lN (p_M 15 8) := by decide +kernel
  have b85 : p_M 85 8 < 2 ^ 64 := by decide +kernel
  have b51 : p_M 51 8 < 2 ^ 64 := by decide +kernel
  have b15 : p_M 15 8 < 2 ^ 64 := by decide +kernel
  have b255 : p_M 255 8 < 2 ^ 64 := by decide +kernel
  have b68 : p_M 68 8 < 2 ^ 63 := by decide +kernel
  have hn8 : n < 256 ^ 8 := by have e : (256 : Nat) ^ 8 = 2 ^ 64 := by decide +kernel
                               rw [e]; exact hn
  have u1 : ((1 : Int32).toInt64.toUInt64 &&& Int64.toUInt64 63) = UInt64.ofNat 1 := by decide +kernel
  have u2 : ((2 : Int32).toInt64.toUInt64 &&& Int64.toUInt64 63) = UInt64.ofNat 2 := by decide +kernel
  have u4 : ((4 : Int32).toInt64.toUInt64 &&& Int64.toUInt64 63) = UInt64.ofNat 4 := by decide +kernel
  have u8 : ((8 : Int32).toInt64.toUInt64 &&& Int64.toUInt64 63) = UInt64.ofNat 8 := by decide +kernel
  have u16 : ((16 : Int32).toInt64.toUInt64 &&& Int64.toUInt64 63) = UInt64.ofNat 16 := by decide +kernel
  have u32 : ((32 : Int32).toInt64.toUInt64 &&& Int64.toUInt64 63) = UInt64.ofNat 32 := by decide +kernel
  obtain ⟨f1, l1⟩ := p_F1_by 8 n hn8
  have f2 := p_F2_by 8 n hn8
  obtain ⟨f3, -⟩ := p_F3_by 8 n hn8
  have y1 := p_by_le p_l1 8 n
  have y2 := p_by_le p_l2 8 n
  have d2 : n / 2 < 2 ^ 64 := by omega
  rw [g_ushr (p := 2) u1 (by decide) (by decide) hn, m1, g_and d2 b85 rfl, lN_sub l1] at e1
  have e1 : v1 = lN (p_by p_1 8 n) := e1.trans (congrArg lN f1)
  generalize p_by p_1 8 n = a1 at e1 y1 f2
  subst e1
  rw [g_ushr (p := 4) u2 (by decide) (by decide) (by omega), m2, g_and (by omega) b51 rfl, g_and (by omega) b51 rfl, lN_add] at e2
  have e2 : v2 = lN (p_by p_2 8 n) := e2.trans (congrArg lN f2)
  generalize p_by p_2 8 n = a2 at e2 y2 f3
  subst e2
  rw [g_ushr (p := 16) u4 (by decide) (by decide) (by omega), m3, lN_add, g_and (by omega) b15 rfl] at e3
  have e3 : v3 = lN (p_by p_3 8 n) := e3.trans (congrArg lN f3)
  obtain ⟨l, hl, hx, hy, hs⟩ := p_ct 8 n hn8
  obtain ⟨z3, hz⟩ := p_fin l hl hx _ hy
  generalize p_by p_3 8 n = a3 at e3 z3 hz
  subst e3
  obtain ⟨z4, z5, hz⟩ := hz _ rfl _ rfl
  obtain ⟨z6, hz⟩ := hz _ rfl
  rw [g_ushr (p := 256) u8 (by decide) (by decide) (by omega), lN_add] at e4
  generalize a3 + a3 / 256 = a4 at e4 z4 z5 z6 hz
  subst e4
  rw [g_ushr (p := 65536) u16 (by decide) (by decide) (by omega), lN_add] at e5
  generalize a4 + a4 / 65536 = a5 at e5 z5 z6 hz
  subst e5
  rw [g_ushr (p := 4294967296) u32 (by decide) (by decide) (by omega), lN_add] at e6
  generalize a5 + a5 / 4294967296 = a6 at e6 z6 hz
  subst e6
  rw [lN_i, pk_and (nI a6) (m := 127) 7 (by decide)]
  have t1 : (nI a6).toBitVec.toNat = a6 % 2 ^ 32 := BitVec.toNat_ofNat a6 32
  have t2 : b_ct (b_t (lN n)) 64 = b_ct n.testBit (8 * 8) := b_ct_c 64 (fun j hj => p_bt hj)
  rw [t1, t2, ← hs, ← hz]
  congr 1
  omega
end
section
/-! reached (by tool/reach.py). -/
set_option maxHeartbeats 4000000 in
set_option maxRecDepth 100000 in
theorem c_J_bitCount (l : Launch) (x : Int64) : Met l yJ_bitCount wJ_bitCount ({ frames := 0, cells := 0, slots := 0, locals := 0 }) (va_Pc [.long x] (fun _ => True)) (va_Qi (fun (r : Int32) (_ : Unit) => r = nI (b_ct (b_t x) 64)) (fun _ _ => True) g_No) 0 0 g_No := by
  refine Met.ofW (cc := cJ_bitCount) (maxL := 2) (ret := some .int) (by decide) rfl ?_
  intro p e s m args below meth c s₁ Bd hml hv
  obtain ⟨rfl, -⟩ := hv
  have hx := Bd.exec
  have hb := Bd.bytes
  have hr := Bd.returns
  have hts := atoms_spec (ws := wJ_bitCount) Bd.pre
  have hw : ∀ w ∈ wAll, w.before _ s = true := fun w h => hts w (List.mem_cons_of_mem _ h)
  have hown : s.vm.findClass "java/lang/Long" = some m.cls := findClass_of_methodNamed Bd.named
  have hlocks := Bd.notSynchronized
  have hS : va_S g_No s.heap s.heap [] := va_S.rf
  have hl := lv_entry ([.long x]) (n := 2) (Nat.le_of_ble_eq_true rfl)
  rw [lg_entry_eq]
  generalize (lg_sl ([.long x]) ++ List.replicate (2 - (lg_sl ([.long x])).length) Slot.unset).toArray = ls at hl ⊢
  have hl : lv_has ls 2 [(0, .long x)] := hl
  refine lv_lload_n hx hb dJ_bitCount_0 rfl (lv_at hl 0 rfl) ?_
  refine lv_lload_n hx hb dJ_bitCount_1 rfl (lv_at hl 0 rfl) ?_
  refine lv_iconst (v := 1) hx hb dJ_bitCount_2 (by decide) ?_
  refine lv_lushr hx hb dJ_bitCount_3 rfl ?_
  refine lv_ldc2 hx hb hown (hw _ m_3_25) dJ_bitCount_4 ?_
  refine lv_land hx hb dJ_bitCount_7 ?_
  refine lv_lsub hx hb dJ_bitCount_8 ?_
  refine lv_topl (fun v_1 ev_1 => ?_)
  refine lv_lstore_n (lv' := [(0, .long v_1)]) hx hb dJ_bitCount_9 rfl hl (by decide) rfl (fun ls hl => ?_)
  refine lv_lload_n hx hb dJ_bitCount_10 rfl (lv_at hl 0 rfl) ?_
  refine lv_ldc2 hx hb hown (hw _ m_3_26) dJ_bitCount_11 ?_
  refine lv_land hx hb dJ_bitCount_14 ?_
  refine lv_lload_n hx hb dJ_bitCount_15 rfl (lv_at hl 0 rfl) ?_
  refine lv_iconst (v := 2) hx hb dJ_bitCount_16 (by decide) ?_
  refine lv_lushr hx hb dJ_bitCount_17 rfl ?_
  refine lv_ldc2 hx hb hown (hw _ m_3_26) dJ_bitCount_18 ?_
  refine lv_land hx hb dJ_bitCount_21 ?_
  refine lv_ladd hx hb dJ_bitCount_22 ?_
  refine lv_topl (fun v_2 ev_2 => ?_)
  refine lv_lstore_n (lv' := [(0, .long v_2)]) hx hb dJ_bitCount_23 rfl hl (by decide) rfl (fun ls hl => ?_)
  refine lv_lload_n hx hb dJ_bitCount_24 rfl (lv_at hl 0 rfl) ?_
  refine lv_lload_n hx hb dJ_bitCount_25 rfl (lv_at hl 0 rfl) ?_
  refine lv_iconst (v := 4) hx hb dJ_bitCount_26 (by decide) ?_
  refine lv_lushr hx hb dJ_bitCount_27 rfl ?_
  refine lv_ladd hx hb dJ_bitCount_28 ?_
  refine lv_ldc2 hx hb hown (hw _ m_3_27) dJ_bitCount_29 ?_
  refine lv_land hx hb dJ_bitCount_32 ?_
  refine lv_topl (fun v_3 ev_3 => ?_)
  refine lv_lstore_n (lv' := [(0, .long v_3)]) hx hb dJ_bitCount_33 rfl hl (by decide) rfl (fun ls hl => ?_)
  refine lv_lload_n hx hb dJ_bitCount_34 rfl (lv_at hl 0 rfl) ?_
  refine lv_lload_n hx hb dJ_bitCount_35 rfl (lv_at hl 0 rfl) ?_
  refine lv_bipush (v := 8) hx hb dJ_bitCount_36 (by decide) ?_
  refine lv_lushr hx hb dJ_bitCount_38 rfl ?_
  refine lv_ladd hx hb dJ_bitCount_39 ?_
  refine lv_topl (fun v_4 ev_4 => ?_)
  refine lv_lstore_n (lv' := [(0, .long v_4)]) hx hb dJ_bitCount_40 rfl hl (by decide) rfl (fun ls hl => ?_)
  refine lv_lload_n hx hb dJ_bitCount_41 rfl (lv_at hl 0 rfl) ?_
  refine lv_lload_n hx hb dJ_bitCount_42 rfl (lv_at hl 0 rfl) ?_
  refine lv_bipush (v := 16) hx hb dJ_bitCount_43 (by decide) ?_
  refine lv_lushr hx hb dJ_bitCount_45 rfl ?_
  refine lv_ladd hx hb dJ_bitCount_46 ?_
  refine lv_topl (fun v_5 ev_5 => ?_)
  refine lv_lstore_n (lv' := [(0, .long v_5)]) hx hb dJ_bitCount_47 rfl hl (by decide) rfl (fun ls hl => ?_)
  refine lv_lload_n hx hb dJ_bitCount_48 rfl (lv_at hl 0 rfl) ?_
  refine lv_lload_n hx hb dJ_bitCount_49 rfl (lv_at hl 0 rfl) ?_
  refine lv_bipush (v := 32) hx hb dJ_bitCount_50 (by decide) ?_
  refine lv_lushr hx hb dJ_bitCount_52 rfl ?_
  refine lv_ladd hx hb dJ_bitCount_53 ?_
  refine lv_topl (fun v_6 ev_6 => ?_)
  refine lv_lstore_n (lv' := [(0, .long v_6)]) hx hb dJ_bitCount_54 rfl hl (by decide) rfl (fun ls hl => ?_)
  refine lv_lload_n hx hb dJ_bitCount_55 rfl (lv_at hl 0 rfl) ?_
  refine lv_l2i hx hb dJ_bitCount_56 rfl ?_
  refine lv_bipush (v := 127) hx hb dJ_bitCount_57 (by decide) ?_
  refine lv_iand hx hb dJ_bitCount_59 ?_
  exact W.iret (v := (v_6.toInt32 &&& 127)) hx hb hr (fun t ht hW => ⟨⟨(v_6.toInt32 &&& 127), (), rfl, (k_pop ev_1 ev_2 ev_3 ev_4 ev_5 ev_6), trivial⟩, hS.F ht⟩) hS.2.2 dJ_bitCount_60
theorem k_rct {rs : Int64} {c : Nat} {re : Nat → Prop} (h : ∀ m, b_t rs m = true ↔ re m) (hr : ∀ m, re m → m < c) (hc : c ≤ 60) : b_ct (b_t rs) 64 = b_ct (b_t rs) c := by
  have e : 64 = c + (64 - c) := by omega
  rw [e, b_ct_add, b_ct_0 (g := fun j => b_t rs (c + j))]
  · omega
  · intro j _
    cases q : b_t rs (c + j) with
    | false => rfl
    | true => have := hr _ ((h _).mp q); omega
set_option maxHeartbeats 4000000 in
set_option maxRecDepth 100000 in
theorem c_X0_reached (l : Launch) (dC : Nat → ClassId) (dI : Nat → Nat → Nat) (ad : Nat → Nat) (cz ci cj : ClassId) (sz : Nat) (cnt : Int32) (fO : Nat → Int32) (fA : Nat → Int32) (fB : Nat → Int32) (fT : Nat → Int32) (sv : Int32) (fC : Nat → Int64) (rs : Int64) (dk : Int32) (ds : Int32) (fL : Nat → Int32) (fl : Nat → Int32) (fh : Nat → Int32)  (c0 : Nat) (hg : g_ok c0 fO fA fB fT) (hsv : sv = 0 ∨ (sv = 1 ∧ g_sv c0 fO fA fB fT rs dk ds fL fl fh)) : Met l yX0_reached wX0_reached ({ frames := 4, cells := 0, slots := 0, locals := 89 }) (va_Pc [.ref (ad 0)] (g_Pre (dC, dI) vwCl (gty cz ci cj) (gw ad cz ci cj ((nI c0), fO, fA, fB, fT, sv, fC, rs, dk, ds, fL, fl, fh)) sz)) (va_Qi (fun (r : Int32) (u : GS) => ∃ (dk2 ds2 : Int32) (g : Nat → Bool), g_SV c0 fO fA fB fT dk2 ds2 u ∧ (∀ m, g m = true ↔ gre c0 fO fA fB fT m) ∧ r = nI (b_ct g c0)) (g_At (dC, dI) vwCl (gty cz ci cj) (va_A (gw ad cz ci cj ((nI c0), fO, fA, fB, fT, sv, fC, rs, dk, ds, fL, fl, fh)) sz) (gw ad cz ci cj)) (va_A (gw ad cz ci cj ((nI c0), fO, fA, fB, fT, sv, fC, rs, dk, ds, fL, fl, fh)) sz)) 0 0 (va_A (gw ad cz ci cj ((nI c0), fO, fA, fB, fT, sv, fC, rs, dk, ds, fL, fl, fh)) sz) := by
  refine Met.ofW (cc := cX0_reached) (maxL := 1) (ret := some .int) (by decide) rfl ?_
  intro p e s m args below meth c s₁ Bd hml hv
  obtain ⟨rfl, hsz, hP, hK, hD0⟩ := hv
  have hx := Bd.exec
  have hb := Bd.bytes
  have hr := Bd.returns
  have hts := atoms_spec (ws := wX0_reached) Bd.pre
  have hw : ∀ w ∈ wAll, w.before _ s = true := fun w h => hts w (List.mem_cons_of_mem _ h)
  have hown : s.vm.findClass "GameGraph" = some m.cls := findClass_of_methodNamed Bd.named
  have hlocks := Bd.notSynchronized
  subst hsz
  have hD := hD0.self (sz := s.heap.size)
  generalize hAe : va_A (gw ad cz ci cj ((nI c0), fO, fA, fB, fT, sv, fC, rs, dk, ds, fL, fl, fh)) s.heap.size = Ar at hD ⊢
  have hA : ∀ q : Nat, s.heap.size ≤ q → Ar q := fun q h => by rw [← hAe]; exact Or.inr h
  obtain ⟨H, hH⟩ : ∃ H : Heap, H = s.heap := ⟨_, rfl⟩
  have hS : va_S Ar s.heap H [] := by rw [hH]; exact va_S.rf
  have hP : va_P (dC, dI) vwCl (gw ad cz ci cj ((nI c0), fO, fA, fB, fT, sv, fC, rs, dk, ds, fL, fl, fh)) H := by rw [hH]; exact hP
  rw [← hH]
  have hl := lv_entry ([.ref (ad 0)]) (n := 1) (Nat.le_of_ble_eq_true rfl)
  rw [lg_entry_eq]
  generalize (lg_sl ([.ref (ad 0)]) ++ List.replicate (1 - (lg_sl ([.ref (ad 0)])).length) Slot.unset).toArray = ls at hl ⊢
  have hl : lv_has ls 1 [(0, .ref (ad 0))] := hl
  refine lv_aload_n hx hb dX0_reached_0 rfl (lv_at hl 0 rfl) ?_
  refine g_callv ⟨hx, hb, hml, hown, hw⟩ (c_X0_survey l dC dI ad cz ci cj H.size (nI c0) fO fA fB fT sv fC rs dk ds fL fl fh  c0 hg hsv) (cwV 0 hw gv_X0_X0_survey rfl rfl rfl (by decide +kernel) ⟨Nat.le_of_ble_eq_true rfl, Nat.le_of_ble_eq_true rfl⟩) hK hP hD hS hA (ci := 0) (q0 := 0) rfl rfl rfl hl.1 rfl (Nat.le_of_ble_eq_true rfl) dX0_reached_1 ⟨Nat.zero_le _, Nat.zero_le _⟩ (fun  un H locs hq hP hD hS => ?_)
  obtain ⟨fC2, rs2, dk2, ds2, fL2, fl2, fh2, hs2, rfl⟩ := hq
  have hP : va_P (dC, dI) vwCl (gw ad cz ci cj ((nI c0), fO, fA, fB, fT, 1, fC2, rs2, dk2, ds2, fL2, fl2, fh2)) H := hP
  have hD : va_D Ar (gw ad cz ci cj ((nI c0), fO, fA, fB, fT, 1, fC2, rs2, dk2, ds2, fL2, fl2, fh2)) := hD
  refine lv_aload_n hx hb dX0_reached_4 rfl (lv_at hl 0 rfl) ?_
  refine va_get (D := (dC, dI)) (ci := 0) (v := .long rs2) (C := RX0) (T := TX0) (N := 13) hx hb hw in_X0 hown hK hP 0 rfl rfl 7 (by decide) (hw _ m_1_25) (fun _ h9 => h9) rfl dX0_reached_5 ?_
  refine g_calls ⟨hx, hb, hml, hown, hw⟩ (c_J_bitCount l rs2) (va_cwS 1 hw gs_X0_J_bitCount rfl rfl rfl (by decide +kernel) ⟨Nat.le_of_ble_eq_true rfl, Nat.le_of_ble_eq_true rfl⟩) hP hS rfl hl.1 rfl (Nat.le_of_ble_eq_true rfl) dX0_reached_8 ⟨Nat.zero_le _, Nat.zero_le _⟩ (fun r_1 H locs hq hP hS => ?_)
  have hP : va_P (dC, dI) vwCl (gw ad cz ci cj ((nI c0), fO, fA, fB, fT, 1, fC2, rs2, dk2, ds2, fL2, fl2, fh2)) H := hP
  have hD : va_D Ar (gw ad cz ci cj ((nI c0), fO, fA, fB, fT, 1, fC2, rs2, dk2, ds2, fL2, fl2, fh2)) := hD
  exact W.iret (v := r_1) hx hb hr (fun t ht hW => ⟨⟨r_1, ((nI c0), fO, fA, fB, fT, 1, fC2, rs2, dk2, ds2, fL2, fl2, fh2), rfl, (⟨dk2, ds2, b_t rs2, ⟨fC2, rs2, fL2, fl2, fh2, hs2, rfl⟩, hs2.1, by rw [hq, k_rct hs2.1 (fun m hm => s_re_lt (g_sok hg) hm) hg.2.1]⟩), (by rw [ht]; exact hP), va_K.moved hW.alike hK, hD⟩, hS.F ht⟩) hS.2.2 dX0_reached_11
end
