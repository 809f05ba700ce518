section
-- ===== PART A: goes FIRST, ahead of the names: the tables' words, and 'selects' of the private methods out of them =====
/-- a private method of a class that the tables say can be made, by its rows of tables_1 -/
def lw_okq (q : MethodName × Nat) : Prop := (q.1.cls ≠ "java/lang/invoke/MethodHandle" ∧ q.1.cls ≠ "java/lang/invoke/VarHandle") ∧ Cond.instantiable q.1.cls q.2 ∈ tables_1 ∧ Cond.privateMethod q.1 ∈ tables_1 ∧ Cond.instanceMethod q.1 ∈ tables_1
theorem lw_p0 : lw_okq (⟨"WorthCache", "removeAllOver", "()I"⟩, 13) := ⟨⟨by decide +kernel, by decide +kernel⟩, List.mem_of_getElem? (i := 12) (by decide +kernel), List.mem_of_getElem? (i := 101) (by decide +kernel), List.mem_of_getElem? (i := 102) (by decide +kernel)⟩
theorem lw_p1 : lw_okq (⟨"WorthCache", "hasEnded", "(LWorthCache$Slot;)Z"⟩, 13) := ⟨⟨by decide +kernel, by decide +kernel⟩, List.mem_of_getElem? (i := 12) (by decide +kernel), List.mem_of_getElem? (i := 105) (by decide +kernel), List.mem_of_getElem? (i := 106) (by decide +kernel)⟩
theorem lw_p2 : lw_okq (⟨"WorthCache", "slotOf", "(I)LWorthCache$Slot;"⟩, 13) := ⟨⟨by decide +kernel, by decide +kernel⟩, List.mem_of_getElem? (i := 12) (by decide +kernel), List.mem_of_getElem? (i := 170) (by decide +kernel), List.mem_of_getElem? (i := 171) (by decide +kernel)⟩
theorem lw_p3 : lw_okq (⟨"java/lang/Throwable", "fillInStackTrace", "(I)Ljava/lang/Throwable;"⟩, 6) := ⟨⟨by decide +kernel, by decide +kernel⟩, List.mem_of_getElem? (i := 212) (by decide +kernel), List.mem_of_getElem? (i := 210) (by decide +kernel), List.mem_of_getElem? (i := 211) (by decide +kernel)⟩
theorem lw_p4 : lw_okq (⟨"WorthCache", "hit", "(LWorthCache$Slot;I)V"⟩, 13) := ⟨⟨by decide +kernel, by decide +kernel⟩, List.mem_of_getElem? (i := 12) (by decide +kernel), List.mem_of_getElem? (i := 261) (by decide +kernel), List.mem_of_getElem? (i := 262) (by decide +kernel)⟩
theorem lw_p5 : lw_okq (⟨"WorthCache", "setWorth", "(LWorthCache$Slot;I)V"⟩, 13) := ⟨⟨by decide +kernel, by decide +kernel⟩, List.mem_of_getElem? (i := 12) (by decide +kernel), List.mem_of_getElem? (i := 265) (by decide +kernel), List.mem_of_getElem? (i := 266) (by decide +kernel)⟩
theorem lw_p6 : lw_okq (⟨"WorthCache", "countMiss", "(I)V"⟩, 13) := ⟨⟨by decide +kernel, by decide +kernel⟩, List.mem_of_getElem? (i := 12) (by decide +kernel), List.mem_of_getElem? (i := 270) (by decide +kernel), List.mem_of_getElem? (i := 271) (by decide +kernel)⟩
theorem lw_p7 : lw_okq (⟨"WorthCache", "letInIfPossible", "(LWorthCache$Slot;III)Z"⟩, 13) := ⟨⟨by decide +kernel, by decide +kernel⟩, List.mem_of_getElem? (i := 12) (by decide +kernel), List.mem_of_getElem? (i := 274) (by decide +kernel), List.mem_of_getElem? (i := 275) (by decide +kernel)⟩
theorem lw_p8 : lw_okq (⟨"WorthCache", "wasMissedLately", "(LWorthCache$Slot;)Z"⟩, 13) := ⟨⟨by decide +kernel, by decide +kernel⟩, List.mem_of_getElem? (i := 12) (by decide +kernel), List.mem_of_getElem? (i := 278) (by decide +kernel), List.mem_of_getElem? (i := 279) (by decide +kernel)⟩
theorem lw_p9 : lw_okq (⟨"WorthCache", "removeOwn", "(LWorthCache$Slot;)V"⟩, 13) := ⟨⟨by decide +kernel, by decide +kernel⟩, List.mem_of_getElem? (i := 12) (by decide +kernel), List.mem_of_getElem? (i := 282) (by decide +kernel), List.mem_of_getElem? (i := 283) (by decide +kernel)⟩
theorem lw_p10 : lw_okq (⟨"WorthCache", "makeRoom", "(I)Z"⟩, 13) := ⟨⟨by decide +kernel, by decide +kernel⟩, List.mem_of_getElem? (i := 12) (by decide +kernel), List.mem_of_getElem? (i := 286) (by decide +kernel), List.mem_of_getElem? (i := 287) (by decide +kernel)⟩
theorem lw_p11 : lw_okq (⟨"WorthCache", "hasRoom", "(I)Z"⟩, 13) := ⟨⟨by decide +kernel, by decide +kernel⟩, List.mem_of_getElem? (i := 12) (by decide +kernel), List.mem_of_getElem? (i := 290) (by decide +kernel), List.mem_of_getElem? (i := 291) (by decide +kernel)⟩
theorem lw_p12 : lw_okq (⟨"WorthCache", "bytesThatCannotLeave", "()I"⟩, 13) := ⟨⟨by decide +kernel, by decide +kernel⟩, List.mem_of_getElem? (i := 12) (by decide +kernel), List.mem_of_getElem? (i := 295) (by decide +kernel), List.mem_of_getElem? (i := 296) (by decide +kernel)⟩
theorem lw_p13 : lw_okq (⟨"WorthCache", "leaveDownTo", "(I)I"⟩, 13) := ⟨⟨by decide +kernel, by decide +kernel⟩, List.mem_of_getElem? (i := 12) (by decide +kernel), List.mem_of_getElem? (i := 299) (by decide +kernel), List.mem_of_getElem? (i := 300) (by decide +kernel)⟩
theorem lw_p14 : lw_okq (⟨"WorthCache", "firstInOrder", "()LWorthCache$Slot;"⟩, 13) := ⟨⟨by decide +kernel, by decide +kernel⟩, List.mem_of_getElem? (i := 12) (by decide +kernel), List.mem_of_getElem? (i := 303) (by decide +kernel), List.mem_of_getElem? (i := 304) (by decide +kernel)⟩
theorem lw_p15 : lw_okq (⟨"WorthCache", "nextInOrder", "(LWorthCache$Slot;)LWorthCache$Slot;"⟩, 13) := ⟨⟨by decide +kernel, by decide +kernel⟩, List.mem_of_getElem? (i := 12) (by decide +kernel), List.mem_of_getElem? (i := 307) (by decide +kernel), List.mem_of_getElem? (i := 308) (by decide +kernel)⟩
def lw_privs_1 : List (MethodName × Nat) := [(⟨"WorthCache", "removeAllOver", "()I"⟩, 13), (⟨"WorthCache", "hasEnded", "(LWorthCache$Slot;)Z"⟩, 13), (⟨"WorthCache", "slotOf", "(I)LWorthCache$Slot;"⟩, 13), (⟨"java/lang/Throwable", "fillInStackTrace", "(I)Ljava/lang/Throwable;"⟩, 6), (⟨"WorthCache", "hit", "(LWorthCache$Slot;I)V"⟩, 13), (⟨"WorthCache", "setWorth", "(LWorthCache$Slot;I)V"⟩, 13), (⟨"WorthCache", "countMiss", "(I)V"⟩, 13), (⟨"WorthCache", "letInIfPossible", "(LWorthCache$Slot;III)Z"⟩, 13), (⟨"WorthCache", "wasMissedLately", "(LWorthCache$Slot;)Z"⟩, 13), (⟨"WorthCache", "removeOwn", "(LWorthCache$Slot;)V"⟩, 13), (⟨"WorthCache", "makeRoom", "(I)Z"⟩, 13), (⟨"WorthCache", "hasRoom", "(I)Z"⟩, 13), (⟨"WorthCache", "bytesThatCannotLeave", "()I"⟩, 13), (⟨"WorthCache", "leaveDownTo", "(I)I"⟩, 13), (⟨"WorthCache", "firstInOrder", "()LWorthCache$Slot;"⟩, 13), (⟨"WorthCache", "nextInOrder", "(LWorthCache$Slot;)LWorthCache$Slot;"⟩, 13)]
theorem lw_r1 : ∀ q ∈ lw_privs_1, lw_okq q := List.forall_mem_cons.mpr ⟨lw_p0, List.forall_mem_cons.mpr ⟨lw_p1, List.forall_mem_cons.mpr ⟨lw_p2, List.forall_mem_cons.mpr ⟨lw_p3, List.forall_mem_cons.mpr ⟨lw_p4, List.forall_mem_cons.mpr ⟨lw_p5, List.forall_mem_cons.mpr ⟨lw_p6, List.forall_mem_cons.mpr ⟨lw_p7, List.forall_mem_cons.mpr ⟨lw_p8, List.forall_mem_cons.mpr ⟨lw_p9, List.forall_mem_cons.mpr ⟨lw_p10, List.forall_mem_cons.mpr ⟨lw_p11, List.forall_mem_cons.mpr ⟨lw_p12, List.forall_mem_cons.mpr ⟨lw_p13, List.forall_mem_cons.mpr ⟨lw_p14, List.forall_mem_cons.mpr ⟨lw_p15, fun _ h => absurd h List.not_mem_nil⟩⟩⟩⟩⟩⟩⟩⟩⟩⟩⟩⟩⟩⟩⟩⟩
theorem lw_p16 : lw_okq (⟨"WorthCache", "fill", "(LWorthCache$Slot;III)V"⟩, 13) := ⟨⟨by decide +kernel, by decide +kernel⟩, List.mem_of_getElem? (i := 12) (by decide +kernel), List.mem_of_getElem? (i := 320) (by decide +kernel), List.mem_of_getElem? (i := 321) (by decide +kernel)⟩
theorem lw_p17 : lw_okq (⟨"WorthCache", "filledSlotOf", "(I)LWorthCache$Slot;"⟩, 13) := ⟨⟨by decide +kernel, by decide +kernel⟩, List.mem_of_getElem? (i := 12) (by decide +kernel), List.mem_of_getElem? (i := 339) (by decide +kernel), List.mem_of_getElem? (i := 340) (by decide +kernel)⟩
theorem lw_p18 : lw_okq (⟨"WorthCache", "countThatWouldLeave", "(I)I"⟩, 13) := ⟨⟨by decide +kernel, by decide +kernel⟩, List.mem_of_getElem? (i := 12) (by decide +kernel), List.mem_of_getElem? (i := 446) (by decide +kernel), List.mem_of_getElem? (i := 447) (by decide +kernel)⟩
theorem lw_p19 : lw_okq (⟨"WorthCache", "bytesNotOver", "()I"⟩, 13) := ⟨⟨by decide +kernel, by decide +kernel⟩, List.mem_of_getElem? (i := 12) (by decide +kernel), List.mem_of_getElem? (i := 450) (by decide +kernel), List.mem_of_getElem? (i := 451) (by decide +kernel)⟩
theorem lw_p20 : lw_okq (⟨"WorthCacheModel", "isThing", "(I)Z"⟩, 22) := ⟨⟨by decide +kernel, by decide +kernel⟩, List.mem_of_getElem? (i := 454) (by decide +kernel), List.mem_of_getElem? (i := 538) (by decide +kernel), List.mem_of_getElem? (i := 539) (by decide +kernel)⟩
theorem lw_p21 : lw_okq (⟨"WorthCacheModel", "over", "(I)Z"⟩, 22) := ⟨⟨by decide +kernel, by decide +kernel⟩, List.mem_of_getElem? (i := 454) (by decide +kernel), List.mem_of_getElem? (i := 545) (by decide +kernel), List.mem_of_getElem? (i := 546) (by decide +kernel)⟩
theorem lw_p22 : lw_okq (⟨"WorthCacheModel", "setWorth", "(I)V"⟩, 22) := ⟨⟨by decide +kernel, by decide +kernel⟩, List.mem_of_getElem? (i := 454) (by decide +kernel), List.mem_of_getElem? (i := 549) (by decide +kernel), List.mem_of_getElem? (i := 550) (by decide +kernel)⟩
theorem lw_p23 : lw_okq (⟨"WorthCacheModel", "makesRoom", "(I)Z"⟩, 22) := ⟨⟨by decide +kernel, by decide +kernel⟩, List.mem_of_getElem? (i := 454) (by decide +kernel), List.mem_of_getElem? (i := 554) (by decide +kernel), List.mem_of_getElem? (i := 555) (by decide +kernel)⟩
theorem lw_p24 : lw_okq (⟨"WorthCacheModel", "usedBytes", "()I"⟩, 22) := ⟨⟨by decide +kernel, by decide +kernel⟩, List.mem_of_getElem? (i := 454) (by decide +kernel), List.mem_of_getElem? (i := 558) (by decide +kernel), List.mem_of_getElem? (i := 559) (by decide +kernel)⟩
theorem lw_p25 : lw_okq (⟨"WorthCacheModel", "removeOver", "()I"⟩, 22) := ⟨⟨by decide +kernel, by decide +kernel⟩, List.mem_of_getElem? (i := 454) (by decide +kernel), List.mem_of_getElem? (i := 562) (by decide +kernel), List.mem_of_getElem? (i := 563) (by decide +kernel)⟩
theorem lw_p26 : lw_okq (⟨"WorthCacheModel", "pinnedBytes", "(Z)I"⟩, 22) := ⟨⟨by decide +kernel, by decide +kernel⟩, List.mem_of_getElem? (i := 454) (by decide +kernel), List.mem_of_getElem? (i := 566) (by decide +kernel), List.mem_of_getElem? (i := 567) (by decide +kernel)⟩
theorem lw_p27 : lw_okq (⟨"WorthCacheModel", "firstLeaves", "()V"⟩, 22) := ⟨⟨by decide +kernel, by decide +kernel⟩, List.mem_of_getElem? (i := 454) (by decide +kernel), List.mem_of_getElem? (i := 570) (by decide +kernel), List.mem_of_getElem? (i := 571) (by decide +kernel)⟩
theorem lw_p28 : lw_okq (⟨"WorthCacheModel", "at", "(I)I"⟩, 22) := ⟨⟨by decide +kernel, by decide +kernel⟩, List.mem_of_getElem? (i := 454) (by decide +kernel), List.mem_of_getElem? (i := 574) (by decide +kernel), List.mem_of_getElem? (i := 575) (by decide +kernel)⟩
theorem lw_p29 : lw_okq (⟨"WorthCacheModel", "place", "(I)I"⟩, 22) := ⟨⟨by decide +kernel, by decide +kernel⟩, List.mem_of_getElem? (i := 454) (by decide +kernel), List.mem_of_getElem? (i := 578) (by decide +kernel), List.mem_of_getElem? (i := 579) (by decide +kernel)⟩
theorem lw_p30 : lw_okq (⟨"WorthCacheModel", "isAhead", "(II)Z"⟩, 22) := ⟨⟨by decide +kernel, by decide +kernel⟩, List.mem_of_getElem? (i := 454) (by decide +kernel), List.mem_of_getElem? (i := 582) (by decide +kernel), List.mem_of_getElem? (i := 583) (by decide +kernel)⟩
theorem lw_p31 : lw_okq (⟨"WorthCacheModel", "hasEntry", "(I)Z"⟩, 22) := ⟨⟨by decide +kernel, by decide +kernel⟩, List.mem_of_getElem? (i := 454) (by decide +kernel), List.mem_of_getElem? (i := 594) (by decide +kernel), List.mem_of_getElem? (i := 595) (by decide +kernel)⟩
def lw_privs_2 : List (MethodName × Nat) := [(⟨"WorthCache", "fill", "(LWorthCache$Slot;III)V"⟩, 13), (⟨"WorthCache", "filledSlotOf", "(I)LWorthCache$Slot;"⟩, 13), (⟨"WorthCache", "countThatWouldLeave", "(I)I"⟩, 13), (⟨"WorthCache", "bytesNotOver", "()I"⟩, 13), (⟨"WorthCacheModel", "isThing", "(I)Z"⟩, 22), (⟨"WorthCacheModel", "over", "(I)Z"⟩, 22), (⟨"WorthCacheModel", "setWorth", "(I)V"⟩, 22), (⟨"WorthCacheModel", "makesRoom", "(I)Z"⟩, 22), (⟨"WorthCacheModel", "usedBytes", "()I"⟩, 22), (⟨"WorthCacheModel", "removeOver", "()I"⟩, 22), (⟨"WorthCacheModel", "pinnedBytes", "(Z)I"⟩, 22), (⟨"WorthCacheModel", "firstLeaves", "()V"⟩, 22), (⟨"WorthCacheModel", "at", "(I)I"⟩, 22), (⟨"WorthCacheModel", "place", "(I)I"⟩, 22), (⟨"WorthCacheModel", "isAhead", "(II)Z"⟩, 22), (⟨"WorthCacheModel", "hasEntry", "(I)Z"⟩, 22)]
theorem lw_r2 : ∀ q ∈ lw_privs_2, lw_okq q := List.forall_mem_cons.mpr ⟨lw_p16, List.forall_mem_cons.mpr ⟨lw_p17, List.forall_mem_cons.mpr ⟨lw_p18, List.forall_mem_cons.mpr ⟨lw_p19, List.forall_mem_cons.mpr ⟨lw_p20, List.forall_mem_cons.mpr ⟨lw_p21, List.forall_mem_cons.mpr ⟨lw_p22, List.forall_mem_cons.mpr ⟨lw_p23, List.forall_mem_cons.mpr ⟨lw_p24, List.forall_mem_cons.mpr ⟨lw_p25, List.forall_mem_cons.mpr ⟨lw_p26, List.forall_mem_cons.mpr ⟨lw_p27, List.forall_mem_cons.mpr ⟨lw_p28, List.forall_mem_cons.mpr ⟨lw_p29, List.forall_mem_cons.mpr ⟨lw_p30, List.forall_mem_cons.mpr ⟨lw_p31, fun _ h => absurd h List.not_mem_nil⟩⟩⟩⟩⟩⟩⟩⟩⟩⟩⟩⟩⟩⟩⟩⟩
def lw_privs : List (MethodName × Nat) := lw_privs_1 ++ (lw_privs_2)
def lw_tbl : List Cond := k2_sels lw_privs ++ tables_1
theorem lw_privs_ok : ∀ q ∈ lw_privs, lw_okq q := by
  show ∀ q ∈ lw_privs_1 ++ (lw_privs_2), lw_okq q
  exact List.forall_mem_append.mpr ⟨lw_r1, lw_r2⟩
-- ===== end of PART A; then your names; then what follows =====
end
section
/-! ===== BEGIN words of one list among another's, by their places ===== -/
theorem goodIn_r {big : List Cond} (ws : List Cond) (ps : List Nat) (hp : ws = ps.filterMap (fun i => big[i]?)) (h : ws.all goodWord = true) : GoodIn big ws := by
  intro w hw
  have h1 := List.all_eq_true.mp h w hw
  rw [hp] at hw
  obtain ⟨i, -, hi⟩ := List.mem_filterMap.mp hw
  have hm : w ∈ big := by first | exact List.mem_of_getElem? hi | exact List.getElem?_mem hi
  exact ⟨hm, good_of_word h1⟩
theorem goodIn_app {big a b : List Cond} (ha : GoodIn big a) (hb : GoodIn big b) : GoodIn big (a ++ b) := fun w h => (List.mem_append.mp h).elim (ha w) (hb w)
theorem goodIn_ca {big a b : List Cond} {c : Cond} (ha : GoodIn big (c :: a)) (hb : GoodIn big b) : GoodIn big (c :: (a ++ b)) := fun w h => (List.mem_cons.mp h).elim (fun e => ha w (List.mem_cons.mpr (Or.inl e))) (fun h => (List.mem_append.mp h).elim (fun h => ha w (List.mem_cons.mpr (Or.inr h))) (hb w))
theorem goodIn_sub {big ws : List Cond} (hm : ∀ w ∈ ws, w ∈ big) (h : ws.all goodWord = true) : GoodIn big ws := fun w hw => ⟨hm w hw, good_of_word (List.all_eq_true.mp h w hw)⟩
/-! ===== END ===== -/

/-! ===== BEGIN exceptions that leave a method, and their catching by the caller (launches without stack traces) ===== -/
section VXA
/-! The laws vx_back, vx_callV, vx_callS, vx_callSW, vx_throw0, vx_throwS follow proofs of the library, with one case more: JvmDerived/Free/Laws.lean (Back.of_free), Shelf42/LK1.lean (callV, callS), Shelf/KitTraced.lean (throwNew0V, throwNewS). -/
/-- where a method has thrown q: the class by its name, the cell, what was written, the world -/
def vx_T (XC : String → State → State → Prop) (st : State) (q : Addr) (t : State) (mc ms : Nat) (free : Addr → Prop) : Prop :=
  ∃ (E : String) (ce : Cell) (L : List Loc), XC E st t ∧ t.heap[q]? = some ce ∧ ce.vm = .none ∧ st.vm.findClass E = some ce.cls ∧ st.WarmedH t.vm ∧ st.sameButNew ({ t with vm := st.vm } : State) L mc ms ∧ ∀ z ∈ L, free z.base
def vx_Q (Qc : Array Value → State → Outcome → State → Prop) (XC : String → State → State → Prop) (mc ms : Nat) (free : Addr → Prop) : Array Value → State → Outcome → State → Prop := fun a st o t =>
  (Qc a st o t ∧ ∃ L, FrameEnd st o t L mc ms ∧ ∀ q ∈ L, free q.base) ∨ ∃ q, o = .threw q ∧ vx_T XC st q t mc ms free
/-- a callee that returns or throws -/
def vx_Met (l : Launch) (y : MethodName) (ws : List Cond) (rm : Room) (Pc : Array Value → State → Prop) (Qc : Array Value → State → Outcome → State → Prop) (XC : String → State → State → Prop) (mc ms : Nat) (free : Addr → Prop) : Prop :=
  MetFree l y (headSpec ws rm) Pc (fun _ _ _ _ _ => True) (vx_Q Qc XC mc ms free)
def vx_Post (XC : String → State → State → Prop) (mc ms : Nat) (free : Addr → Prop) : Pt → Array Value → Addr → Pt → Prop := fun A a q B =>
  ∃ (g : JFrame) (mk : MethodId) (t : State) (L : List Loc) (E : String) (ce : Cell), B.U.heap = t.heap ∧ B.U.vm = t.vm ∧ XC E (A.U.calling g mk a) t ∧ t.heap[q]? = some ce ∧ ce.vm = .none ∧ A.U.vm.findClass E = some ce.cls ∧ B.locs = A.locs ++ L ∧ (∀ z ∈ L, free z.base) ∧ B.cells = A.cells + mc ∧ B.slots = A.slots + ms
def vx_Back (l : Launch) (R : Room) (p : Program) (e : Env) (below : List Frame) (s : State) (sargs : Array Value) (y : MethodName) (len W9 : Nat)
    (Pre : Pt → Array Value → Prop) (Post : Pt → Array Value → Option Value → Pt → Prop) (PostX : Pt → Array Value → Addr → Pt → Prop) : Prop :=
  ∀ (m : MethodId) (meth : Method) (c : Code) (A : Pt) (g : JFrame) (ig : Instr) (mk : MethodId) (a : Array Value),
    Stand p l e R s m sargs below meth c A.U A.locs A.cells A.slots → g.method = m → g.locals.size = c.maxLocals → decode c.code g.pc = .ok (ig, len) →
    2 * g.monitorRoom + (g.stack.map fun v => v.category).sum ≤ W9 → A.U.methodNamed? y = some mk → Pre A a →
    (∃ (v : Option Value) (B : Pt), Stand p l e R s m sargs below meth c B.U B.locs B.cells B.slots ∧ Post A a v B ∧
      Steps p.tables e below (doInvoke e (A.U.setTop g) [] mk a).1 (B.U.setTop { g with pc := g.pc + len, stack := v.toList ++ g.stack })) ∨
    (∃ (q : Addr) (B : Pt), Stand p l e R s m sargs below meth c B.U B.locs B.cells B.slots ∧ PostX A a q B ∧
      Steps p.tables e below (doInvoke e (A.U.setTop g) [] mk a).1 ((B.U.setTop g).pushFrame (.throwing q)))
section Payer
variable {l : Launch} {R : Room} {p : Program} {e : Env} {below : List Frame} {s : State} {sargs : Array Value} {y : MethodName} {len W9 : Nat}
theorem vx_back {ws : List Cond} {rm : Room} {Pc : Array Value → State → Prop} {Qc : Array Value → State → Outcome → State → Prop} {XC : String → State → State → Prop} {mc ms : Nat} {free : Addr → Prop} {bytes : ByteArray} {maxL : Nat} {ret : Option FieldType}
    (hM : vx_Met l y ws rm Pc Qc XC mc ms free) (hblind : FrameBlind Pc) (hrc : rm.cells = mc) (hrs : rm.slots = ms)
    (hframes : rm.frames + 1 ≤ R.frames) (hlocals : W9 + (maxL + 11) + rm.locals ≤ R.locals)
    (hws : ∀ w ∈ ws, ∀ a' U, s.WarmedH U.vm → w.before a' U = true) (hcode : Cond.code y bytes maxL ret ∈ ws) (hinit : ∀ a' U, s.WarmedH U.vm → (Cond.initialized y.cls).before a' U = true) :
    vx_Back l R p e below s sargs y len W9 (PreOf R mc ms Pc) (PostOf Qc mc ms free) (vx_Post XC mc ms free) := by
  intro m meth c A g ig mk a X hg hsize hdg hW hn hp
  have h1 : (headSpec ws rm).pre.before a A.U = true := atoms_intro fun w hw => hws w hw _ _ X.warmed
  have h2 : (Cond.code y bytes maxL ret).before a A.U = true := hws _ hcode _ _ X.warmed
  have h3 : (Cond.initialized y.cls).before a A.U = true := hinit _ _ X.warmed
  have h4 : A.cells + (headSpec ws rm).room.cells ≤ R.cells := by rw [show (headSpec ws rm).room.cells = mc from hrc]; exact hp.1
  have h5 : A.slots + (headSpec ws rm).room.slots ≤ R.slots := by rw [show (headSpec ws rm).room.slots = ms from hrs]; exact hp.2.1
  have hPc : Pc a (A.U.calling g mk a) := hblind _ _ _ _ hp.2.2
  obtain ⟨U, Ls, c0, s0⟩ := A
  dsimp only [Pt.U, Pt.locs, Pt.cells, Pt.slots] at h1 h2 h3 h4 h5 X hn hPc ⊢
  obtain ⟨methY, cY, hmY, hcY, -, hlY, -, -, -, -⟩ := Cond.code_spec hn h2
  obtain ⟨kY, hkY, -⟩ := className_of_methodNamed hn
  have hinitY : kY.init = .initialized := Cond.initialized_spec (findClass_of_methodNamed hn) hkY h3
  have h : At U g.method c below := by rw [hg]; exact X.here
  have hlocals9 : W9 + (maxL + 11) + (headSpec ws rm).room.locals ≤ R.locals := hlocals
  have happ : (headSpec ws rm).appliesLoose y e.platform (U.calling g mk a) = true :=
    Spec.appliesLoose_calling (g := g) h hdg hn hkY hinitY
      (X.room_calling (g := g) (R' := (headSpec ws rm).room) hsize hmY hcY hframes (by rw [hlY]; omega) h4 h5) h1
  obtain ⟨mid, hmid⟩ := h.above
  have hfr : (U.setTop g).frames = (.java g :: mid) ++ below := by rw [State.frames_setTop' g h.top, hmid]; rfl
  obtain ⟨o, s₂, hsteps, -, hend, hq⟩ := Steps.callFree hM p X.admits X.cas X.clock (acts := []) hfr happ hPc trivial
  have hq' : vx_Q Qc XC mc ms free a (U.calling g mk a) o s₂ := hq
  rw [State.frames_setTop' g h.top] at hend
  obtain ⟨g₀, hg0⟩ := Option.isSome_iff_exists.mp h.top
  obtain ⟨r, hr⟩ := State.topJava?_eq_some.mp hg0
  have hr' : (({ U with heap := s₂.heap, slotsUsed := s₂.slotsUsed } : State).setVm s₂.vm).frames = .java g₀ :: r := hr
  rcases hq' with ⟨hqc, L, hfe, hL⟩ | ⟨q, rfl, E, ce, L, hx, hce, hcv, hcl, hW₂, hsm, hL⟩
  · obtain ⟨⟨v, rfl⟩, hW₂, e2, q2, q3, q4, q5, q6⟩ := id hfe
    have e3 : s₂ = ({ (U.calling g mk a).setFrames s₂.frames with heap := s₂.heap, slotsUsed := s₂.slotsUsed } : State).setVm s₂.vm := by
      have : s₂ = ({ s₂ with vm := (U.calling g mk a).vm } : State).setVm s₂.vm := rfl
      rw [e2] at this
      exact this
    obtain ⟨c₂, i₂, len₂, hc₂, hd₂, hf₂⟩ := hend
    have hW' : U.WarmedH s₂.vm := hW₂
    have hcc : c₂ = c := by
      have h1 : s₂.code? g.method = U.code? g.method := by
        rw [State.code?_eq, State.code?_eq, hW'.alike.method?]
      exact Option.some.inj (hc₂.symm.trans (h1.trans h.code))
    subst hcc
    have hlen : len₂ = len := by rw [hdg] at hd₂; cases hd₂; rfl
    subst hlen
    have hs₂ : s₂ = (({ U with heap := s₂.heap, slotsUsed := s₂.slotsUsed } : State).setVm s₂.vm).setTop { g with pc := g.pc + len₂, stack := v.toList ++ g.stack } := by
      refine e3.trans ?_
      rw [hf₂, State.calling_eq h.top, State.setFrames_setFrames, State.setTop_of_frames _ hr', hr]
      rfl
    have hsame : U.sameButNew ({ U with heap := s₂.heap, slotsUsed := s₂.slotsUsed } : State) L mc ms := by
      refine ⟨?_, q2, q3, q4, q5, q6⟩
      obtain ⟨t, ht, -⟩ := State.frames_cons hr
      show ({ U with heap := s₂.heap, slotsUsed := s₂.slotsUsed } : State) = { U.setFrames U.frames with heap := s₂.heap, slotsUsed := s₂.slotsUsed }
      rw [State.setFrames_self ht]
    subst hg
    refine Or.inl ⟨v, ⟨(({ U with heap := s₂.heap, slotsUsed := s₂.slotsUsed } : State).setVm s₂.vm), Ls ++ L, c0 + mc, s0 + ms⟩,
      ⟨X.admits, X.cas, X.clock, X.frames, X.room, X.hears, X.method, X.code, (X.here.setHeapUsed s₂.heap s₂.slotsUsed).setVm hW'.alike, X.tail, State.WarmedH.trans X.warmed hW', X.limits, X.bytes, X.same.trans (hsame.setVm s.vm)⟩,
      ⟨g, mk, s₂, L, rfl, rfl, hqc, rfl, hL, rfl, rfl⟩, ?_⟩
    show Steps p.tables e below _ ((({ U with heap := s₂.heap, slotsUsed := s₂.slotsUsed } : State).setVm s₂.vm).setTop { g with pc := g.pc + len₂, stack := v.toList ++ g.stack })
    rw [← hs₂]
    exact hsteps
  · obtain ⟨e2, q2, q3, q4, q5, q6⟩ := id hsm
    have e3 : s₂ = ({ (U.calling g mk a).setFrames s₂.frames with heap := s₂.heap, slotsUsed := s₂.slotsUsed } : State).setVm s₂.vm := by
      have : s₂ = ({ s₂ with vm := (U.calling g mk a).vm } : State).setVm s₂.vm := rfl
      rw [e2] at this
      exact this
    have hf₂ : s₂.frames = .throwing q :: .java g :: U.frames.tail := hend
    have hW' : U.WarmedH s₂.vm := hW₂
    have hs₂ : s₂ = ((({ U with heap := s₂.heap, slotsUsed := s₂.slotsUsed } : State).setVm s₂.vm).setTop g).pushFrame (.throwing q) := by
      refine e3.trans ?_
      rw [hf₂, State.calling_eq h.top, State.setFrames_setFrames, State.pushFrame, State.frames_setTop _ hr', State.setTop_of_frames _ hr', State.setFrames_setFrames, hr]
      rfl
    have hsame : U.sameButNew ({ U with heap := s₂.heap, slotsUsed := s₂.slotsUsed } : State) L mc ms := by
      refine ⟨?_, q2, q3, q4, q5, q6⟩
      obtain ⟨t, ht, -⟩ := State.frames_cons hr
      show ({ U with heap := s₂.heap, slotsUsed := s₂.slotsUsed } : State) = { U.setFrames U.frames with heap := s₂.heap, slotsUsed := s₂.slotsUsed }
      rw [State.setFrames_self ht]
    subst hg
    refine Or.inr ⟨q, ⟨(({ U with heap := s₂.heap, slotsUsed := s₂.slotsUsed } : State).setVm s₂.vm), Ls ++ L, c0 + mc, s0 + ms⟩,
      ⟨X.admits, X.cas, X.clock, X.frames, X.room, X.hears, X.method, X.code, (X.here.setHeapUsed s₂.heap s₂.slotsUsed).setVm hW'.alike, X.tail, State.WarmedH.trans X.warmed hW', X.limits, X.bytes, X.same.trans (hsame.setVm s.vm)⟩,
      ⟨g, mk, s₂, L, E, ce, rfl, rfl, hx, hce, hcv, hcl, rfl, hL, rfl, rfl⟩, ?_⟩
    show Steps p.tables e below _ (((({ U with heap := s₂.heap, slotsUsed := s₂.slotsUsed } : State).setVm s₂.vm).setTop g).pushFrame (.throwing q))
    rw [← hs₂]
    exact hsteps
end Payer
section Calls
variable {p : Program} {l : Launch} {e : Env} {R : Room} {s : State} {m : MethodId} {args : Array Value} {below : List Frame} {meth : Method} {c : Code} {T : State} {locs : List Loc} {cells slots : Nat}
theorem vx_callV (X : Stand p l e R s m args below meth c T locs cells slots) (hexec : p.tables.exec = Jvm.exec) {own C : String} {index : Nat} {y : MethodName} {bytes : ByteArray} {maxL : Nat} {ret : Option FieldType}
    (hown : s.vm.findClass own = some m.cls) (hlink : (Cond.methodLink own index y).before args s = true) (hinst : (Cond.instanceMethod y).before args s = true) (hsel : (Cond.selects C y y).before args s = true)
    (hcode : (Cond.code y bytes maxL ret).before args s = true) (hy : y.cls ≠ "java/lang/invoke/MethodHandle" ∧ y.cls ≠ "java/lang/invoke/VarHandle")
    {W9 : Nat} {Pre : Pt → Array Value → Prop} {Post : Pt → Array Value → Option Value → Pt → Prop} {PostX : Pt → Array Value → Addr → Pt → Prop} (hK : vx_Back l R p e below s args y 3 W9 Pre Post PostX)
    {b : Addr} {cellB : Cell} (hcell : T.heap[b]? = some cellB) (hobj : cellB.vm.isStatics = false) (hcls : s.vm.findClass C = some cellB.cls)
    {g : JFrame} (hg : g.method = m) (hsize : g.locals.size = c.maxLocals) {argsL rest : List Value} (hlen : ∀ sig, parseMethodDescriptor y.desc = some sig → argsL.length = sig.parameters.length)
    (hstack : g.stack = argsL.reverse ++ .ref b :: rest) (hW : 2 * g.monitorRoom + (rest.map fun v => v.category).sum ≤ W9) (hdg : decode c.code g.pc = .ok (.invokevirtual index, 3))
    (hpre : ∀ vm₁, s.WarmedH vm₁ → Pre ⟨T.setVm vm₁, locs, cells, slots⟩ (Value.ref b :: argsL).toArray) :
    (∃ (v : Option Value) (vm₁ : Vm) (B : Pt), s.WarmedH vm₁ ∧ Stand p l e R s m args below meth c B.U B.locs B.cells B.slots ∧ Post ⟨T.setVm vm₁, locs, cells, slots⟩ (Value.ref b :: argsL).toArray v B ∧
      ∀ target, Steps p.tables e below (B.U.setTop { g with pc := g.pc + 3, stack := v.toList ++ rest }) target → Steps p.tables e below (T.setTop g) target) ∨
    (∃ (q : Addr) (vm₁ : Vm) (B : Pt), s.WarmedH vm₁ ∧ Stand p l e R s m args below meth c B.U B.locs B.cells B.slots ∧ PostX ⟨T.setVm vm₁, locs, cells, slots⟩ (Value.ref b :: argsL).toArray q B ∧
      Steps p.tables e below (T.setTop g) ((B.U.setTop { g with stack := rest }).pushFrame (.throwing q))) := by
  obtain ⟨mk, methM, hnamed, hmethM, hstM, habM⟩ := Cond.instanceMethod_spec hinst
  obtain ⟨methM', cM, hmethM', -, -, -, -, -, -, hsigM⟩ := Cond.code_spec hnamed hcode
  cases hmethM.symm.trans hmethM'
  obtain ⟨c2, r2, m2, q1, q2, q3, q4, kP, hkP, hkPi⟩ := Cond.selects_spec hsel
  cases hcls.symm.trans q1
  cases (State.methodFound?_of_named hnamed hy).symm.trans q2
  cases hnamed.symm.trans q3
  have hselP : selectMethod e.platform s.vm cellB.cls mk = .method mk := by rw [Launch.admits_selectMethod X.admits]; exact q4
  obtain ⟨vm₁, X₁, hstep₁⟩ := X.invokevirtual hexec hown hlink hnamed hmethM hstM hkP hkPi hy (a := b) (cell := cellB) hcell
    (fun z h => by rw [h] at hobj; cases hobj) hselP hmethM habM hkP hkPi (g := g) hg (argsL := argsL) (rest := rest) (hlen _ hsigM) hstack hdg
  rcases hK m meth c ⟨T.setVm vm₁, locs, cells, slots⟩ { g with stack := rest } (.invokevirtual index) mk (Value.ref b :: argsL).toArray X₁ hg hsize hdg hW (X₁.named hnamed) (hpre vm₁ X₁.warmed) with ⟨v, B, X', hpost, hsteps⟩ | ⟨q, B, X', hpost, hsteps⟩
  · exact Or.inl ⟨v, vm₁, B, X₁.warmed, X', hpost, fun target h => hstep₁ _ fun acts => by rw [doInvoke_state]; exact hsteps.trans h⟩
  · exact Or.inr ⟨q, vm₁, B, X₁.warmed, X', hpost, hstep₁ _ fun acts => by rw [doInvoke_state]; exact hsteps⟩
theorem vx_callS (X : Stand p l e R s m args below meth c T locs cells slots) (hexec : p.tables.exec = Jvm.exec) {own : String} {index : Nat} {y : MethodName} {bytes : ByteArray} {maxL : Nat} {ret : Option FieldType}
    (hown : s.vm.findClass own = some m.cls) (hlink : (Cond.methodLink own index y).before args s = true) (hstat : (Cond.static y).before args s = true) (hinit : (Cond.initialized y.cls).before args s = true)
    (hcode : (Cond.code y bytes maxL ret).before args s = true) (hy : y.cls ≠ "java/lang/invoke/MethodHandle" ∧ y.cls ≠ "java/lang/invoke/VarHandle")
    {W9 : Nat} {Pre : Pt → Array Value → Prop} {Post : Pt → Array Value → Option Value → Pt → Prop} {PostX : Pt → Array Value → Addr → Pt → Prop} (hK : vx_Back l R p e below s args y 3 W9 Pre Post PostX)
    {g : JFrame} (hg : g.method = m) (hsize : g.locals.size = c.maxLocals) {argsL rest : List Value} (hlen : ∀ sig, parseMethodDescriptor y.desc = some sig → argsL.length = sig.parameters.length)
    (hstack : g.stack = argsL.reverse ++ rest) (hW : 2 * g.monitorRoom + (rest.map fun v => v.category).sum ≤ W9) (hdg : decode c.code g.pc = .ok (.invokestatic index, 3))
    (hpre : ∀ vm₁, s.WarmedH vm₁ → Pre ⟨T.setVm vm₁, locs, cells, slots⟩ argsL.toArray) :
    (∃ (v : Option Value) (vm₁ : Vm) (B : Pt), s.WarmedH vm₁ ∧ Stand p l e R s m args below meth c B.U B.locs B.cells B.slots ∧ Post ⟨T.setVm vm₁, locs, cells, slots⟩ argsL.toArray v B ∧
      ∀ target, Steps p.tables e below (B.U.setTop { g with pc := g.pc + 3, stack := v.toList ++ rest }) target → Steps p.tables e below (T.setTop g) target) ∨
    (∃ (q : Addr) (vm₁ : Vm) (B : Pt), s.WarmedH vm₁ ∧ Stand p l e R s m args below meth c B.U B.locs B.cells B.slots ∧ PostX ⟨T.setVm vm₁, locs, cells, slots⟩ argsL.toArray q B ∧
      Steps p.tables e below (T.setTop g) ((B.U.setTop { g with stack := rest }).pushFrame (.throwing q))) := by
  obtain ⟨mk, hnamed⟩ := Cond.code_named hcode
  obtain ⟨methM, cM, hmethM, -, -, -, -, -, -, hsigM⟩ := Cond.code_spec hnamed hcode
  have hstatic : methM.isStatic = true := Cond.static_spec hnamed hmethM hstat
  obtain ⟨kP, hkP, -⟩ := className_of_methodNamed hnamed
  have hinitP : kP.init = .initialized := Cond.initialized_spec (findClass_of_methodNamed hnamed) hkP hinit
  obtain ⟨vm₁, X₁, hstep₁⟩ := X.invokestatic hexec hown hlink hnamed hmethM hstatic hkP hinitP hy (g := g) hg (argsL := argsL) (rest := rest) (hlen _ hsigM) hstack hdg
  rcases hK m meth c ⟨T.setVm vm₁, locs, cells, slots⟩ { g with stack := rest } (.invokestatic index) mk argsL.toArray X₁ hg hsize hdg hW (X₁.named hnamed) (hpre vm₁ X₁.warmed) with ⟨v, B, X', hpost, hsteps⟩ | ⟨q, B, X', hpost, hsteps⟩
  · exact Or.inl ⟨v, vm₁, B, X₁.warmed, X', hpost, fun target h => hstep₁ _ fun acts => by rw [doInvoke_state]; exact hsteps.trans h⟩
  · exact Or.inr ⟨q, vm₁, B, X₁.warmed, X', hpost, hstep₁ _ fun acts => by rw [doInvoke_state]; exact hsteps⟩
end Calls
theorem vx_cls {s : State} {T : State} {vm₁ : Vm} {E : String} {k : ClassId} (hW : s.WarmedH vm₁) (h : (T.setVm vm₁).vm.findClass E = some k) : s.vm.findClass E = some k := by
  have h1 : vm₁.findClass E = some k := h
  rw [hW.alike.findClass] at h1
  exact h1
/-- the method's frame g, with q thrown over it -/
def vx_W (p : Program) (l : Launch) (e : Env) (R : Room) (s : State) (m : MethodId) (args : Array Value) (below : List Frame) (meth : Method) (c : Code) (H : Heap) (locs : List Loc) (cells slots : Nat) (Q : State → Prop) (g : JFrame) (q : Addr) : Prop :=
  ∀ T : State, T.heap = H → Stand p l e R s m args below meth c T locs cells slots → ∃ t, Steps p.tables e below ((T.setTop g).pushFrame (.throwing q)) t ∧ Q t
def vx_Run (p : Program) (l : Launch) (e : Env) (R : Room) (s : State) (m : MethodId) (args : Array Value) (below : List Frame) (meth : Method) (c : Code) (H : Heap) (locs : List Loc) (cells slots mc ms : Nat) (g : JFrame) (rest : List Value) (Qa : State → Outcome → State → Prop) (XC : String → State → State → Prop) (free : Addr → Prop) : Prop :=
  ∀ T : State, T.heap = H → Stand p l e R s m args below meth c T locs cells slots →
    (∃ (v : Option Value) (st₀ t T' : State) (L : List Loc), st₀.heap = H ∧ Stand p l e R s m args below meth c T' (locs ++ L) (cells + mc) (slots + ms) ∧ (∀ q ∈ L, free q.base) ∧ T'.heap = t.heap ∧ T'.vm = t.vm ∧ Qa st₀ (.returned v) t ∧
      Goes p e below T g T' { g with pc := g.pc + 3, stack := v.toList ++ rest }) ∨
    (∃ (q : Addr) (st₀ t T' : State) (L : List Loc) (E : String) (ce : Cell), st₀.heap = H ∧ Stand p l e R s m args below meth c T' (locs ++ L) (cells + mc) (slots + ms) ∧ (∀ z ∈ L, free z.base) ∧ T'.heap = t.heap ∧ T'.vm = t.vm ∧ XC E st₀ t ∧ t.heap[q]? = some ce ∧ ce.vm = .none ∧ s.vm.findClass E = some ce.cls ∧
      Steps p.tables e below (T.setTop g) ((T'.setTop { g with stack := rest }).pushFrame (.throwing q)))
def vx_X {S : Type} (px : S → Prop) (B : String → S → State → Prop) (A : Nat → Prop) : String → State → State → Prop := fun E st t => ∃ u : S, px u ∧ B E u t ∧ va_F A st t
section Runs
variable {p : Program} {l : Launch} {e : Env} {R : Room} {s : State} {m : MethodId} {args : Array Value} {below : List Frame} {meth : Method} {c : Code} {H : Heap} {locs : List Loc} {cells slots : Nat}
variable {y : MethodName} {bytes cc : ByteArray} {maxL nL mc ms n index : Nat} {ret : Option FieldType} {ws : List Cond} {rm : Room} {Pc : Array Value → State → Prop} {Qc : Array Value → State → Outcome → State → Prop} {XC : String → State → State → Prop} {free : Addr → Prop} {Ts : List Cond} {own C : String} {b : Addr} {As rest : List Value} {g : JFrame}
theorem vx_callBack (cb : CallB R s args own index y bytes maxL ret ws rm mc ms n) (hM : vx_Met l y ws rm Pc Qc XC mc ms free) (hbl : FrameBlind Pc) : vx_Back l R p e below s args y 3 8 (PreOf R mc ms Pc) (PostOf Qc mc ms free) (vx_Post XC mc ms free) := by
  obtain ⟨hrc, hrs, hfr, hlo, hws, hcw, -, hini, -⟩ := cb
  exact vx_back (bytes := bytes) (maxL := maxL) (ret := ret) hM hbl hrc hrs hfr hlo hws hcw (fun a' U hW => word_at hW (Or.inl (by first | rfl | simp [Cond.onTables, Cond.keeps, Cond.steady])) hini)
theorem vx_runV (S : CallFix p m c cc nL s args Ts own) (hM : vx_Met l y ws rm Pc Qc XC mc ms free) (cw : CallW R s args own C index y bytes maxL ret ws rm mc ms n) (hp : PreV s H C b Pc As)
    (hg : g.method = m) (hn : As.length = n) (hsize : g.locals.size = nL) (hstack : g.stack = As.reverse ++ .ref b :: rest) (hW : 2 * g.monitorRoom + (rest.map fun v => v.category).sum ≤ 8) (hdg : decode cc g.pc = .ok (.invokevirtual index, 3)) (hf : cells + mc ≤ R.cells ∧ slots + ms ≤ R.slots) :
    vx_Run p l e R s m args below meth c H locs cells slots mc ms g rest (Qc (Value.ref b :: As).toArray) XC free := by
  have hK : vx_Back l R p e below s args y 3 8 (PreOf R mc ms Pc) (PostOf Qc mc ms free) (vx_Post XC mc ms free) := vx_callBack cw.1 hM hp.1
  obtain ⟨⟨-, -, -, -, -, -, hcode, -, hy, hlen, hl⟩, hin, hse⟩ := cw
  obtain ⟨hx, hb, hml, ho, -⟩ := S
  obtain ⟨-, ⟨cellB, hcB, hoB, hclB⟩, hPc⟩ := hp
  intro T hT X
  rcases vx_callV X hx (C := C) (bytes := bytes) (maxL := maxL) (ret := ret) ho hl hin hse hcode hy hK (by rw [hT]; exact hcB) hoB hclB hg (hsize.trans hml.symm) (argsL := As) (rest := rest) (fun sig h => hn.trans (hlen sig h)) hstack hW (by rw [hb]; exact hdg)
    (fun vm₁ hW₁ => ⟨hf.1, hf.2, hPc (T.setVm vm₁) hT hW₁⟩) with ⟨v, vm₁, ⟨U', l2, c2, s2⟩, hW₁, X', ⟨g', mk, t, L, e1, e2, hq, h1, hL, h2, h3⟩, st⟩ | ⟨q, vm₁, ⟨U', l2, c2, s2⟩, hW₁, X', ⟨g', mk, t, L, E, ce, e1, e2, hq, hce, hcv, hcl, h1, hL, h2, h3⟩, st⟩
  · dsimp only [Pt.U, Pt.locs, Pt.cells, Pt.slots] at X' e1 e2 h1 h2 h3 st
    subst h1; subst h2; subst h3
    exact Or.inl ⟨v, (T.setVm vm₁).calling g' mk (Value.ref b :: As).toArray, t, U', L, hT, X', hL, e1, e2, hq, st⟩
  · dsimp only [Pt.U, Pt.locs, Pt.cells, Pt.slots] at X' e1 e2 h1 h2 h3 st hcl
    subst h1; subst h2; subst h3
    exact Or.inr ⟨q, (T.setVm vm₁).calling g' mk (Value.ref b :: As).toArray, t, U', L, E, ce, hT, X', hL, e1, e2, hq, hce, hcv, vx_cls hW₁ hcl, st⟩
theorem vx_runS (S : CallFix p m c cc nL s args Ts own) (hM : vx_Met l y ws rm Pc Qc XC mc ms free) (cw : CallB R s args own index y bytes maxL ret ws rm mc ms n ∧ (Cond.static y).before args s = true) (hp : PreS s H Pc As)
    (hg : g.method = m) (hn : As.length = n) (hsize : g.locals.size = nL) (hstack : g.stack = As.reverse ++ rest) (hW : 2 * g.monitorRoom + (rest.map fun v => v.category).sum ≤ 8) (hdg : decode cc g.pc = .ok (.invokestatic index, 3)) (hf : cells + mc ≤ R.cells ∧ slots + ms ≤ R.slots) :
    vx_Run p l e R s m args below meth c H locs cells slots mc ms g rest (Qc As.toArray) XC free := by
  have hK : vx_Back l R p e below s args y 3 8 (PreOf R mc ms Pc) (PostOf Qc mc ms free) (vx_Post XC mc ms free) := vx_callBack cw.1 hM hp.1
  obtain ⟨⟨-, -, -, -, -, -, hcode, hini, hy, hlen, hl⟩, hstt⟩ := cw
  obtain ⟨hx, hb, hml, ho, -⟩ := S
  intro T hT X
  rcases vx_callS X hx (bytes := bytes) (maxL := maxL) (ret := ret) ho hl hstt hini hcode hy hK hg (hsize.trans hml.symm) (argsL := As) (rest := rest) (fun sig h => hn.trans (hlen sig h)) hstack hW (by rw [hb]; exact hdg)
    (fun vm₁ hW₁ => ⟨hf.1, hf.2, hp.2 (T.setVm vm₁) hT hW₁⟩) with ⟨v, vm₁, ⟨U', l2, c2, s2⟩, hW₁, X', ⟨g', mk, t, L, e1, e2, hq, h1, hL, h2, h3⟩, st⟩ | ⟨q, vm₁, ⟨U', l2, c2, s2⟩, hW₁, X', ⟨g', mk, t, L, E, ce, e1, e2, hq, hce, hcv, hcl, h1, hL, h2, h3⟩, st⟩
  · dsimp only [Pt.U, Pt.locs, Pt.cells, Pt.slots] at X' e1 e2 h1 h2 h3 st
    subst h1; subst h2; subst h3
    exact Or.inl ⟨v, (T.setVm vm₁).calling g' mk As.toArray, t, U', L, hT, X', hL, e1, e2, hq, st⟩
  · dsimp only [Pt.U, Pt.locs, Pt.cells, Pt.slots] at X' e1 e2 h1 h2 h3 st hcl
    subst h1; subst h2; subst h3
    exact Or.inr ⟨q, (T.setVm vm₁).calling g' mk As.toArray, t, U', L, E, ce, hT, X', hL, e1, e2, hq, hce, hcv, vx_cls hW₁ hcl, st⟩
end Runs
section Rows
variable {p : Program} {l : Launch} {e : Env} {R : Room} {s : State} {m : MethodId} {args : Array Value} {below : List Frame} {meth : Method} {c : Code} {H : Heap} {locs : List Loc} {cells slots : Nat} {Q : State → Prop}
variable {mc ms : Nat} {free : Addr → Prop} {A0 A1 : Nat → Prop} {H0 : Heap} {a : Array Value} {pc : Nat} {ls : Array Slot} {st0 rest : List Value}
theorem vx_keep {st₀ t T' : State} {L : List Loc} (h0 : st₀.heap = H) (e1 : T'.heap = t.heap) (hS : va_S A0 H0 H locs) (hA : ∀ q, q < H.size → A1 q → A0 q) (hf : ∀ q, free q → A0 q) (hL : ∀ q ∈ L, free q.base) (hF : va_F A1 st₀ t) :
    H.size ≤ T'.heap.size ∧ (∀ q : Nat, q < H.size → ¬ A1 q → T'.heap[q]? = H[q]?) ∧ va_S A0 H0 T'.heap (locs ++ L) := by
  obtain ⟨hz, hk⟩ := hF
  rw [h0] at hz hk
  exact ⟨by rw [e1]; exact hz, fun q h1 h2 => by rw [e1]; exact hk q h1 h2,
    ⟨Nat.le_trans hS.1 (by rw [e1]; exact hz), fun q h1 h2 => by rw [e1, hk q (Nat.lt_of_lt_of_le h1 hS.1) (fun z => h2 (hA q (Nat.lt_of_lt_of_le h1 hS.1) z))]; exact hS.2.1 q h1 h2, fun q hq => by
      rcases List.mem_append.mp hq with h | h
      · exact hS.2.2 q h
      · exact hf _ (hL q h)⟩⟩
theorem vx_calli {S SX : Type} {post : Int32 → S → Prop} {px : SX → Prop} {B : S → State → Prop} {BX : String → SX → State → Prop} {AX : Nat → Prop} (hr : vx_Run p l e R s m args below meth c H locs cells slots mc ms (F0 m pc ls st0) rest (va_Qi post B A1 a) (vx_X px BX AX) free) (hS : va_S A0 H0 H locs) (hA : ∀ q, q < H.size → A1 q → A0 q) (hf : ∀ q, free q → A0 q) (hAX : ∀ q, q < H.size → AX q → A0 q)
    (kx : ∀ (E : String) (ce : Cell) (q9 : Addr) (u : SX) (t : State) (H1 : Heap) (locs1 : List Loc), t.heap = H1 → s.vm.Alike t.vm → px u → BX E u t → H.size ≤ H1.size → (∀ q : Nat, q < H.size → ¬ AX q → H1[q]? = H[q]?) → va_S A0 H0 H1 locs1 → H1[q9]? = some ce → ce.vm = .none → s.vm.findClass E = some ce.cls → vx_W p l e R s m args below meth c H1 locs1 (cells + mc) (slots + ms) Q (F0 m pc ls rest) q9)
    (kk : ∀ (r : Int32) (u : S) (t : State) (H1 : Heap) (locs1 : List Loc), t.heap = H1 → s.vm.Alike t.vm → post r u → B u t → H.size ≤ H1.size → (∀ q : Nat, q < H.size → ¬ A1 q → H1[q]? = H[q]?) → va_S A0 H0 H1 locs1 → W p l e R s m args below meth c H1 locs1 (cells + mc) (slots + ms) Q (F0 m (pc + 3) ls (.int r :: rest))) : W p l e R s m args below meth c H locs cells slots Q (F0 m pc ls st0) := by
  intro T hT X
  rcases hr T hT X with ⟨v, st₀, t, T', L, h0, X', hL, e1, e2, ⟨⟨r, u, hv, hp, hb⟩, hF⟩, st⟩ | ⟨q, st₀, t, T', L, E, ce, h0, X', hL, e1, e2, ⟨u, hp, hb, hF⟩, hce, hcv, hcl, st⟩
  · cases hv
    obtain ⟨k1, k2, k3⟩ := vx_keep h0 e1 hS hA hf hL hF
    obtain ⟨t2, a1, b1⟩ := kk r u t T'.heap (locs ++ L) e1.symm (by rw [← e2]; exact X'.warmed.alike) hp hb k1 k2 k3 T' rfl X'
    exact ⟨t2, st t2 a1, b1⟩
  · obtain ⟨k1, k2, k3⟩ := vx_keep h0 e1 hS hAX hf hL hF
    obtain ⟨t2, a1, b1⟩ := kx E ce q u t T'.heap (locs ++ L) e1.symm (by rw [← e2]; exact X'.warmed.alike) hp hb k1 k2 k3 (by rw [e1]; exact hce) hcv hcl T' rfl X'
    exact ⟨t2, st.trans a1, b1⟩
theorem vx_calll {S SX : Type} {post : Int64 → S → Prop} {px : SX → Prop} {B : S → State → Prop} {BX : String → SX → State → Prop} {AX : Nat → Prop} (hr : vx_Run p l e R s m args below meth c H locs cells slots mc ms (F0 m pc ls st0) rest (va_Ql post B A1 a) (vx_X px BX AX) free) (hS : va_S A0 H0 H locs) (hA : ∀ q, q < H.size → A1 q → A0 q) (hf : ∀ q, free q → A0 q) (hAX : ∀ q, q < H.size → AX q → A0 q)
    (kx : ∀ (E : String) (ce : Cell) (q9 : Addr) (u : SX) (t : State) (H1 : Heap) (locs1 : List Loc), t.heap = H1 → s.vm.Alike t.vm → px u → BX E u t → H.size ≤ H1.size → (∀ q : Nat, q < H.size → ¬ AX q → H1[q]? = H[q]?) → va_S A0 H0 H1 locs1 → H1[q9]? = some ce → ce.vm = .none → s.vm.findClass E = some ce.cls → vx_W p l e R s m args below meth c H1 locs1 (cells + mc) (slots + ms) Q (F0 m pc ls rest) q9)
    (kk : ∀ (r : Int64) (u : S) (t : State) (H1 : Heap) (locs1 : List Loc), t.heap = H1 → s.vm.Alike t.vm → post r u → B u t → H.size ≤ H1.size → (∀ q : Nat, q < H.size → ¬ A1 q → H1[q]? = H[q]?) → va_S A0 H0 H1 locs1 → W p l e R s m args below meth c H1 locs1 (cells + mc) (slots + ms) Q (F0 m (pc + 3) ls (.long r :: rest))) : W p l e R s m args below meth c H locs cells slots Q (F0 m pc ls st0) := by
  intro T hT X
  rcases hr T hT X with ⟨v, st₀, t, T', L, h0, X', hL, e1, e2, ⟨⟨r, u, hv, hp, hb⟩, hF⟩, st⟩ | ⟨q, st₀, t, T', L, E, ce, h0, X', hL, e1, e2, ⟨u, hp, hb, hF⟩, hce, hcv, hcl, st⟩
  · cases hv
    obtain ⟨k1, k2, k3⟩ := vx_keep h0 e1 hS hA hf hL hF
    obtain ⟨t2, a1, b1⟩ := kk r u t T'.heap (locs ++ L) e1.symm (by rw [← e2]; exact X'.warmed.alike) hp hb k1 k2 k3 T' rfl X'
    exact ⟨t2, st t2 a1, b1⟩
  · obtain ⟨k1, k2, k3⟩ := vx_keep h0 e1 hS hAX hf hL hF
    obtain ⟨t2, a1, b1⟩ := kx E ce q u t T'.heap (locs ++ L) e1.symm (by rw [← e2]; exact X'.warmed.alike) hp hb k1 k2 k3 (by rw [e1]; exact hce) hcv hcl T' rfl X'
    exact ⟨t2, st.trans a1, b1⟩
theorem vx_callf {S SX : Type} {post : UInt32 → S → Prop} {px : SX → Prop} {B : S → State → Prop} {BX : String → SX → State → Prop} {AX : Nat → Prop} (hr : vx_Run p l e R s m args below meth c H locs cells slots mc ms (F0 m pc ls st0) rest (va_Qf post B A1 a) (vx_X px BX AX) free) (hS : va_S A0 H0 H locs) (hA : ∀ q, q < H.size → A1 q → A0 q) (hf : ∀ q, free q → A0 q) (hAX : ∀ q, q < H.size → AX q → A0 q)
    (kx : ∀ (E : String) (ce : Cell) (q9 : Addr) (u : SX) (t : State) (H1 : Heap) (locs1 : List Loc), t.heap = H1 → s.vm.Alike t.vm → px u → BX E u t → H.size ≤ H1.size → (∀ q : Nat, q < H.size → ¬ AX q → H1[q]? = H[q]?) → va_S A0 H0 H1 locs1 → H1[q9]? = some ce → ce.vm = .none → s.vm.findClass E = some ce.cls → vx_W p l e R s m args below meth c H1 locs1 (cells + mc) (slots + ms) Q (F0 m pc ls rest) q9)
    (kk : ∀ (r : UInt32) (u : S) (t : State) (H1 : Heap) (locs1 : List Loc), t.heap = H1 → s.vm.Alike t.vm → post r u → B u t → H.size ≤ H1.size → (∀ q : Nat, q < H.size → ¬ A1 q → H1[q]? = H[q]?) → va_S A0 H0 H1 locs1 → W p l e R s m args below meth c H1 locs1 (cells + mc) (slots + ms) Q (F0 m (pc + 3) ls (.float r :: rest))) : W p l e R s m args below meth c H locs cells slots Q (F0 m pc ls st0) := by
  intro T hT X
  rcases hr T hT X with ⟨v, st₀, t, T', L, h0, X', hL, e1, e2, ⟨⟨r, u, hv, hp, hb⟩, hF⟩, st⟩ | ⟨q, st₀, t, T', L, E, ce, h0, X', hL, e1, e2, ⟨u, hp, hb, hF⟩, hce, hcv, hcl, st⟩
  · cases hv
    obtain ⟨k1, k2, k3⟩ := vx_keep h0 e1 hS hA hf hL hF
    obtain ⟨t2, a1, b1⟩ := kk r u t T'.heap (locs ++ L) e1.symm (by rw [← e2]; exact X'.warmed.alike) hp hb k1 k2 k3 T' rfl X'
    exact ⟨t2, st t2 a1, b1⟩
  · obtain ⟨k1, k2, k3⟩ := vx_keep h0 e1 hS hAX hf hL hF
    obtain ⟨t2, a1, b1⟩ := kx E ce q u t T'.heap (locs ++ L) e1.symm (by rw [← e2]; exact X'.warmed.alike) hp hb k1 k2 k3 (by rw [e1]; exact hce) hcv hcl T' rfl X'
    exact ⟨t2, st.trans a1, b1⟩
theorem vx_calld {S SX : Type} {post : UInt64 → S → Prop} {px : SX → Prop} {B : S → State → Prop} {BX : String → SX → State → Prop} {AX : Nat → Prop} (hr : vx_Run p l e R s m args below meth c H locs cells slots mc ms (F0 m pc ls st0) rest (va_Qd post B A1 a) (vx_X px BX AX) free) (hS : va_S A0 H0 H locs) (hA : ∀ q, q < H.size → A1 q → A0 q) (hf : ∀ q, free q → A0 q) (hAX : ∀ q, q < H.size → AX q → A0 q)
    (kx : ∀ (E : String) (ce : Cell) (q9 : Addr) (u : SX) (t : State) (H1 : Heap) (locs1 : List Loc), t.heap = H1 → s.vm.Alike t.vm → px u → BX E u t → H.size ≤ H1.size → (∀ q : Nat, q < H.size → ¬ AX q → H1[q]? = H[q]?) → va_S A0 H0 H1 locs1 → H1[q9]? = some ce → ce.vm = .none → s.vm.findClass E = some ce.cls → vx_W p l e R s m args below meth c H1 locs1 (cells + mc) (slots + ms) Q (F0 m pc ls rest) q9)
    (kk : ∀ (r : UInt64) (u : S) (t : State) (H1 : Heap) (locs1 : List Loc), t.heap = H1 → s.vm.Alike t.vm → post r u → B u t → H.size ≤ H1.size → (∀ q : Nat, q < H.size → ¬ A1 q → H1[q]? = H[q]?) → va_S A0 H0 H1 locs1 → W p l e R s m args below meth c H1 locs1 (cells + mc) (slots + ms) Q (F0 m (pc + 3) ls (.double r :: rest))) : W p l e R s m args below meth c H locs cells slots Q (F0 m pc ls st0) := by
  intro T hT X
  rcases hr T hT X with ⟨v, st₀, t, T', L, h0, X', hL, e1, e2, ⟨⟨r, u, hv, hp, hb⟩, hF⟩, st⟩ | ⟨q, st₀, t, T', L, E, ce, h0, X', hL, e1, e2, ⟨u, hp, hb, hF⟩, hce, hcv, hcl, st⟩
  · cases hv
    obtain ⟨k1, k2, k3⟩ := vx_keep h0 e1 hS hA hf hL hF
    obtain ⟨t2, a1, b1⟩ := kk r u t T'.heap (locs ++ L) e1.symm (by rw [← e2]; exact X'.warmed.alike) hp hb k1 k2 k3 T' rfl X'
    exact ⟨t2, st t2 a1, b1⟩
  · obtain ⟨k1, k2, k3⟩ := vx_keep h0 e1 hS hAX hf hL hF
    obtain ⟨t2, a1, b1⟩ := kx E ce q u t T'.heap (locs ++ L) e1.symm (by rw [← e2]; exact X'.warmed.alike) hp hb k1 k2 k3 (by rw [e1]; exact hce) hcv hcl T' rfl X'
    exact ⟨t2, st.trans a1, b1⟩
theorem vx_callv {S SX : Type} {post : S → Prop} {px : SX → Prop} {B : S → State → Prop} {BX : String → SX → State → Prop} {AX : Nat → Prop} (hr : vx_Run p l e R s m args below meth c H locs cells slots mc ms (F0 m pc ls st0) rest (va_Qv post B A1 a) (vx_X px BX AX) free) (hS : va_S A0 H0 H locs) (hA : ∀ q, q < H.size → A1 q → A0 q) (hf : ∀ q, free q → A0 q) (hAX : ∀ q, q < H.size → AX q → A0 q)
    (kx : ∀ (E : String) (ce : Cell) (q9 : Addr) (u : SX) (t : State) (H1 : Heap) (locs1 : List Loc), t.heap = H1 → s.vm.Alike t.vm → px u → BX E u t → H.size ≤ H1.size → (∀ q : Nat, q < H.size → ¬ AX q → H1[q]? = H[q]?) → va_S A0 H0 H1 locs1 → H1[q9]? = some ce → ce.vm = .none → s.vm.findClass E = some ce.cls → vx_W p l e R s m args below meth c H1 locs1 (cells + mc) (slots + ms) Q (F0 m pc ls rest) q9)
    (kk : ∀ (u : S) (t : State) (H1 : Heap) (locs1 : List Loc), t.heap = H1 → s.vm.Alike t.vm → post u → B u t → H.size ≤ H1.size → (∀ q : Nat, q < H.size → ¬ A1 q → H1[q]? = H[q]?) → va_S A0 H0 H1 locs1 → W p l e R s m args below meth c H1 locs1 (cells + mc) (slots + ms) Q (F0 m (pc + 3) ls (rest))) : W p l e R s m args below meth c H locs cells slots Q (F0 m pc ls st0) := by
  intro T hT X
  rcases hr T hT X with ⟨v, st₀, t, T', L, h0, X', hL, e1, e2, ⟨⟨u, hv, hp, hb⟩, hF⟩, st⟩ | ⟨q, st₀, t, T', L, E, ce, h0, X', hL, e1, e2, ⟨u, hp, hb, hF⟩, hce, hcv, hcl, st⟩
  · cases hv
    obtain ⟨k1, k2, k3⟩ := vx_keep h0 e1 hS hA hf hL hF
    obtain ⟨t2, a1, b1⟩ := kk u t T'.heap (locs ++ L) e1.symm (by rw [← e2]; exact X'.warmed.alike) hp hb k1 k2 k3 T' rfl X'
    exact ⟨t2, st t2 a1, b1⟩
  · obtain ⟨k1, k2, k3⟩ := vx_keep h0 e1 hS hAX hf hL hF
    obtain ⟨t2, a1, b1⟩ := kx E ce q u t T'.heap (locs ++ L) e1.symm (by rw [← e2]; exact X'.warmed.alike) hp hb k1 k2 k3 (by rw [e1]; exact hce) hcv hcl T' rfl X'
    exact ⟨t2, st.trans a1, b1⟩
/-- caught by the row x of this method's table; the rows ahead don't take it -/
theorem vx_catch {own name : String} {E : String} {ce : Cell} {q : Addr} (hown : s.vm.findClass own = some m.cls) (pre : List ExceptionTableEntry) (x : ExceptionTableEntry) (suf : List ExceptionTableEntry) (hsplit : c.exceptionTable.toList = pre ++ x :: suf)
    (hpass : ∀ z ∈ pre, covers z pc = false ∨ (z.catchType ≠ 0 ∧ ∃ nm : String, (Cond.classLink own z.catchType nm).before args s = true ∧ va_Nc E nm s)) (hx : covers x pc = true) (h0 : x.catchType ≠ 0)
    (hlink : (Cond.classLink own x.catchType name).before args s = true) (hcast : (Cond.castable E name).before args s = true) (hcell : H[q]? = some ce) (hv : ce.vm = .none) (hcl : s.vm.findClass E = some ce.cls)
    (kk : W p l e R s m args below meth c H locs cells slots Q (F0 m x.handlerPc ls [.ref q])) : vx_W p l e R s m args below meth c H locs cells slots Q (F0 m pc ls rest) q := by
  intro T hT X
  have hpl : e.platform.magicAccessors = ({} : Platform).magicAccessors := by rw [X.admits.platform]
  obtain ⟨c3, c4, hc3, hc4, hasg⟩ := Cond.castable_spec hcast
  cases Option.some.inj (hc3.symm.trans hcl)
  obtain ⟨c5, hc5, hcl5⟩ := Cond.classLink_spec hown hlink e.platform hpl
  cases Option.some.inj (hc4.symm.trans hc5)
  obtain ⟨vm', X', st⟩ := X.thenCaughtThrough q (g := F0 m pc ls rest) rfl (Steps.refl _) (by rw [hT]; exact hcell) (by rw [hv]; rfl) (by obtain ⟨k9, h9, -⟩ := Vm.findClass_spec hcl; exact ⟨k9, h9⟩) pre x suf hsplit
    (fun z hz => by
      rcases hpass z hz with h | ⟨hz0, nm, hl1, hn1⟩
      · exact Or.inl h
      · obtain ⟨c6, hc6, hcl6⟩ := Cond.classLink_spec hown hl1 e.platform hpl
        obtain ⟨a8, b8, h1, h2, h3⟩ := hn1
        cases Option.some.inj (h1.symm.trans hcl)
        cases Option.some.inj (h2.symm.trans hc6)
        exact Or.inr ⟨hz0, _, hcl6, h3⟩) hx (Or.inr ⟨h0, c4, hcl5, hasg⟩)
  obtain ⟨t, a1, b1⟩ := kk (T.setVm vm') hT X'
  exact ⟨t, st.trans a1, b1⟩
end Rows
section Ends
variable {p : Program} {l : Launch} {e : Env} {R : Room} {s : State} {m : MethodId} {args : Array Value} {below : List Frame} {meth : Method} {c : Code} {H : Heap} {locs : List Loc} {cells slots : Nat} {Q : State → Prop}
variable {mc ms : Nat} {free : Addr → Prop} {A0 A1 : Nat → Prop} {H0 : Heap} {a : Array Value} {ls : Array Slot} {st0 rest : List Value}
variable {Qc : Array Value → State → Outcome → State → Prop} {XC : String → State → State → Prop}
/-- what a body that may throw owes at its end -/
def vx_MQ (below : List Frame) (Qc : Array Value → State → Outcome → State → Prop) (XC : String → State → State → Prop) (a : Array Value) (s : State) (mc ms : Nat) (free : Addr → Prop) : State → Prop := fun t =>
  ∃ o, t.status = .running ∧ Ended t below o ∧ vx_Q Qc XC mc ms free a s o t
theorem vx_ret {g : JFrame} {mc ms : Nat} (k : W p l e R s m args below meth c H locs cells slots (MQ below Qc args s mc ms free) g) : W p l e R s m args below meth c H locs cells slots (vx_MQ below Qc XC args s mc ms free) g := by
  intro T hT X
  obtain ⟨t, a1, o, b1, b2, b3, b4⟩ := k T hT X
  exact ⟨t, a1, o, b1, b2, Or.inl ⟨b3, b4⟩⟩
/-- not caught here: it goes on to the caller -/
theorem vx_widen {g : JFrame} {q : Addr} {k n : Nat} (h1 : cells ≤ k) (h2 : slots ≤ n) (kk : vx_W p l e R s m args below meth c H locs k n Q g q) : vx_W p l e R s m args below meth c H locs cells slots Q g q := fun T hT X => kk T hT (stand_widen X h1 h2)
theorem vx_out {pc : Nat} {E : String} {ce : Cell} {q : Addr} {mc ms : Nat} (hout : ∀ x ∈ c.exceptionTable.toList, covers x pc = false) (hlocks : meth.locks = false) (hcell : H[q]? = some ce) (hv : ce.vm = .none) (hcl : s.vm.findClass E = some ce.cls)
    (hx : ∀ t : State, t.heap = H → s.vm.Alike t.vm → XC E s t) (hf : ∀ z ∈ locs, free z.base) (hc : cells ≤ mc) (hs : slots ≤ ms) :
    vx_W p l e R s m args below meth c H locs cells slots (vx_MQ below Qc XC args s mc ms free) (F0 m pc ls rest) q := by
  intro T hT X
  obtain ⟨st1, hrun, hend, hW, hsm⟩ := X.leaveThrown q (g := F0 m pc ls rest) rfl rfl rfl hout hlocks
  have hcell9 : (T.setFrames (.throwing q :: below)).heap[q]? = some ce := by
    show T.heap[q]? = some ce
    rw [hT]; exact hcell
  exact ⟨_, st1, .threw q, hrun, hend, Or.inr ⟨q, rfl, E, ce, locs, hx _ hT hW.alike, hcell9, hv, hcl, hW, hsm.mono hc hs, hf⟩⟩
theorem vx_frame {U : State} {k n : Nat} (h : s.sameButNew ({ U with vm := s.vm } : State) locs k n) : s.heap.size ≤ U.heap.size ∧ ∀ q : Nat, q < s.heap.size → (∀ z ∈ locs, z.base ≠ q) → U.heap[q]? = s.heap[q]? := by
  obtain ⟨-, h2, -, -, -, h6⟩ := h
  refine ⟨h2, fun q hq hz => ?_⟩
  obtain ⟨c9, e1, e2, e3, e4⟩ := h6 q _ (Array.getElem?_eq_getElem hq)
  have hs : c9.slots = (s.heap[q]).slots := Array.ext_getElem? fun i => e4 i fun hm => hz _ hm rfl
  have h9 : c9 = s.heap[q] := by
    rw [hs] at e2
    exact e2
  have e5 : U.heap[q]? = some c9 := e1
  rw [e5, h9, Array.getElem?_eq_getElem hq]
/-- the words of a throw but the four that speak of the heap -/
def vx_no (w : Cond) : Bool := decide (w ≠ .isRef (.static Bundle.tN "UNASSIGNED_STACK" Bundle.steD)) && decide (w ≠ .isRef (.static Bundle.tN "SUPPRESSED_SENTINEL" Bundle.listD)) && decide (w ≠ .laysStatic Bundle.tN "UNASSIGNED_STACK" Bundle.steD) && decide (w ≠ .laysStatic Bundle.tN "SUPPRESSED_SENTINEL" Bundle.listD)
def vx_at0 (own : String) (ic : Nat) (X : String) (names : List String) : List Cond := (Bundle.ownAtoms0 own ic X names).filter vx_no
def vx_atS (own : String) (ic : Nat) (X : String) (names : List String) : List Cond := (Bundle.ownAtoms own ic X names).filter vx_no
/-- a word that the tables alone decide, or a good one -/
def vx_ot (w : Cond) : Bool := w.onTables || goodWord w
theorem vx_ot_at {args a' : Array Value} {s U : State} {w : Cond} (hW : s.WarmedH U.vm) (hvm : s.vm = U.vm) (hg : vx_ot w = true) (h : w.before args s = true) : w.before a' U = true := by
  simp only [vx_ot, Bool.or_eq_true] at hg
  rcases hg with hg | hg
  · exact va_tabs hg hvm h
  · exact word_at hW (good_of_word hg) h
/-- a list's words: the good ones out of the method's own list, the others by premises of their own -/
theorem vx_hat {args : Array Value} {s : State} {L B : List Cond} (h1 : ∀ w ∈ L.filter goodWord, w.before args s = true) (h2 : ∀ w ∈ L.filter (fun w => !goodWord w), w ∈ B) (h3 : ∀ w ∈ B, w.before args s = true) : ∀ w ∈ L, w.before args s = true := by
  intro w hw
  by_cases g : goodWord w = true
  · exact h1 w (List.mem_filter.mpr ⟨hw, g⟩)
  · refine h3 w (h2 w (List.mem_filter.mpr ⟨hw, ?_⟩))
    show (!goodWord w) = true
    cases hgw : goodWord w
    · rfl
    · exact absurd hgw g
theorem vx_c {args : Array Value} {s : State} {w : Cond} {B : List Cond} (h : w.before args s = true) (t : ∀ w ∈ B, w.before args s = true) : ∀ w' ∈ w :: B, w'.before args s = true := fun w' h' => (List.mem_cons.mp h').elim (fun e => by rw [e]; exact h) (t w')
theorem vx_n {args : Array Value} {s : State} : ∀ w ∈ ([] : List Cond), w.before args s = true := fun _ h => nomatch h
theorem vx_own {args : Array Value} {s : State} {L : List Cond} (h1 : ∀ w ∈ L.filter vx_no, w.before args s = true)
    (hU : (Cond.isRef (.static Bundle.tN "UNASSIGNED_STACK" Bundle.steD)).before args s = true) (hN : (Cond.isRef (.static Bundle.tN "SUPPRESSED_SENTINEL" Bundle.listD)).before args s = true)
    (lU : (Cond.laysStatic Bundle.tN "UNASSIGNED_STACK" Bundle.steD).before args s = true) (lN : (Cond.laysStatic Bundle.tN "SUPPRESSED_SENTINEL" Bundle.listD).before args s = true) : ∀ w ∈ L, w.before args s = true := by
  intro w hw
  by_cases e1 : w = .isRef (.static Bundle.tN "UNASSIGNED_STACK" Bundle.steD)
  · rw [e1]; exact hU
  · by_cases e2 : w = .isRef (.static Bundle.tN "SUPPRESSED_SENTINEL" Bundle.listD)
    · rw [e2]; exact hN
    · by_cases e3 : w = .laysStatic Bundle.tN "UNASSIGNED_STACK" Bundle.steD
      · rw [e3]; exact lU
      · by_cases e4 : w = .laysStatic Bundle.tN "SUPPRESSED_SENTINEL" Bundle.listD
        · rw [e4]; exact lN
        · exact h1 w (List.mem_filter.mpr ⟨hw, by unfold vx_no; rw [decide_eq_true e1, decide_eq_true e2, decide_eq_true e3, decide_eq_true e4]; rfl⟩)
/-- where a static field lies, its class's statics cell in H -/
def vx_L (C n d : String) (A : Nat → Prop) (U : State) (H : Heap) : Prop := ∃ (c : ClassId) (k : Class) (i : Nat) (f : Field) (a : Nat) (cell : Cell), U.vm.findClass C = some c ∧ U.fieldFound? C n d = some (c, k, i, f) ∧ f.isStatic = true ∧ k.statics = some a ∧ H[a]? = some cell ∧ cell.vm.isStatics = true ∧ cell.cls = c ∧ f.slot < cell.slots.size ∧ k.staticTypes[f.slot]? = some f.type ∧ ¬ A a
theorem vx_L.moved {C n d : String} {A : Nat → Prop} {u U : State} {H : Heap} (hvm : u.vm.Alike U.vm) (h : vx_L C n d A u H) : vx_L C n d A U H := by
  obtain ⟨c, k, i, f, a, cell, h1, h2, h3, h4, h5, h6, h7, h8, h9, h10⟩ := h
  obtain ⟨k', hi', he⟩ := State.fieldFound?_setVm hvm h2
  exact ⟨c, k', i, f, a, cell, by rw [hvm.findClass]; exact h1, hi', h3, by rw [he]; exact h4, h5, h6, h7, h8, by rw [he]; exact h9, h10⟩
theorem vx_L.kept {C n d : String} {A : Nat → Prop} {U : State} {H H1 : Heap} (h : vx_L C n d A U H) (hq : ∀ a : Nat, a < H.size → ¬ A a → H1[a]? = H[a]?) : vx_L C n d A U H1 := by
  obtain ⟨c, k, i, f, a, cell, h1, h2, h3, h4, h5, h6, h7, h8, h9, h10⟩ := h
  exact ⟨c, k, i, f, a, cell, h1, h2, h3, h4, by rw [hq a (Array.getElem?_eq_some_iff.mp h5).1 h10]; exact h5, h6, h7, h8, h9, h10⟩
theorem vx_L.narrow {C n d : String} {A B : Nat → Prop} {U : State} {H : Heap} (h : vx_L C n d A U H) (hAB : ∀ q, B q → A q) : vx_L C n d B U H := by
  obtain ⟨c, k, i, f, a, cell, h1, h2, h3, h4, h5, h6, h7, h8, h9, h10⟩ := h
  exact ⟨c, k, i, f, a, cell, h1, h2, h3, h4, h5, h6, h7, h8, h9, fun z => h10 (hAB _ z)⟩
theorem vx_L.word {C n d : String} {A : Nat → Prop} {s : State} {args : Array Value} (h : vx_L C n d A s s.heap) : (Cond.laysStatic C n d).before args s = true := by
  obtain ⟨c, k, i, f, a, cell, h1, h2, h3, h4, h5, h6, h7, h8, h9, -⟩ := h
  show (Cond.laysStatic C n d).holds args s none s [] = true
  exact Cond.laysStatic_of h1 h2 h3 h4 h5 h6 h7 h8 h9
/-- .. and what it holds: null or some reference -/
def vx_Zq (C n d : String) (A : Nat → Prop) (U : State) (H : Heap) : Prop := va_Zq C n d A U H ∧ vx_L C n d A U H
theorem vx_Zq.moved {C n d : String} {A : Nat → Prop} {u U : State} {H : Heap} (hvm : u.vm.Alike U.vm) (h : vx_Zq C n d A u H) : vx_Zq C n d A U H := ⟨va_Zq.moved hvm h.1, vx_L.moved hvm h.2⟩
theorem vx_Zq.kept {C n d : String} {A : Nat → Prop} {U : State} {H H1 : Heap} (h : vx_Zq C n d A U H) (hq : ∀ a : Nat, a < H.size → ¬ A a → H1[a]? = H[a]?) : vx_Zq C n d A U H1 := ⟨va_Zq.kept h.1 hq, vx_L.kept h.2 hq⟩
theorem vx_Zq.narrow {C n d : String} {A B : Nat → Prop} {U : State} {H : Heap} (h : vx_Zq C n d A U H) (hAB : ∀ q, B q → A q) : vx_Zq C n d B U H := ⟨va_Zq.narrow h.1 hAB, vx_L.narrow h.2 hAB⟩
theorem vx_Zqof {args : Array Value} {s : State} {C n d : String} {A : Nat → Prop} (hl : (Cond.laysStatic C n d).before args s = true) (hini : (Cond.initialized C).before args s = true) (h : (Cond.isRef (.static C n d)).before args s = true) (hA : ∀ a : Nat, a < s.heap.size → ¬ A a) : vx_Zq C n d A s s.heap := by
  refine ⟨va_Zqof hl hini h hA, ?_⟩
  obtain ⟨c, k, i, f, a, cell, h1, h2, h3, h4, h5, h6, h7, h8, h9⟩ := Cond.laysStatic_spec hl
  exact ⟨c, k, i, f, a, cell, h1, h2, h3, h4, h5, h6, h7, h8, h9, hA a (Array.getElem?_eq_some_iff.mp h5).1⟩
theorem vx_isRef {C n d : String} {v : Value} {A : Nat → Prop} {s : State} {args : Array Value} (h : va_Z C n d v A s s.heap) (hv : v.isRef = true) : (Cond.isRef (.static C n d)).before args s = true := by
  obtain ⟨cf, kf, fi, f, a, cell, h1, h2, h3, h4, h5, h6, h7, -⟩ := h
  have he : (Term.static C n d).eval args s none [] s = some v := by
    simp [Term.eval, State.fieldNamed?, h1, h2, h4, h5, h6, h7]
  simp only [Cond.before, Cond.holds, Cond.value, he]
  cases v <;> simp_all [Value.isRef]
theorem vx_isRefq {C n d : String} {A : Nat → Prop} {s : State} {args : Array Value} (h : va_Zq C n d A s s.heap) : (Cond.isRef (.static C n d)).before args s = true := by
  rcases h with h | ⟨t, h⟩
  · exact vx_isRef h rfl
  · exact vx_isRef h rfl
/-- the same frame, seen from here: as if the method were called anew in this heap -/
theorem vx_rebase {T : State} (X : Stand p l e R s m args below meth c T locs cells slots) {R' : Room} (hf : R'.frames ≤ R.frames) (hl : R'.locals ≤ R.locals) (hc : cells + R'.cells ≤ R.cells) (hs : slots + R'.slots ≤ R.slots) :
    Stand p l e R' ((T.setVm s.vm).setFrames (.invoking m args :: below)) m args below meth c T [] 0 0 := by
  have htop : (T.setVm s.vm).topJava?.isSome := X.here.top
  have hF : ((T.setVm s.vm).setFrames (.invoking m args :: below)).frames = .invoking m args :: below := State.frames_setFrames _ (State.cur_lt_of_top htop)
  obtain ⟨g₀, hg0⟩ := Option.isSome_iff_exists.mp htop
  obtain ⟨r, hr⟩ := State.topJava?_eq_some.mp hg0
  have hl9 : e.platform.stackLimits (T.setVm s.vm).me = e.platform.stackLimits s.me := X.limits
  have hb9 : (T.setVm s.vm).me.stackBytes = s.me.stackBytes := X.bytes
  refine ⟨X.admits, X.cas, X.clock, hF, ?_, X.hears, X.method, X.code, X.here, X.tail, X.warmed, ?_, ?_, ?_⟩
  · have h := X.room
    have hU : ((T.setVm s.vm).setFrames (.invoking m args :: below)).localsInUse = s.localsInUse := by
      rw [State.localsInUse_invoking hF (meth := meth) (c := c) X.method X.code, State.localsInUse_invoking X.frames X.method X.code]
    simp only [State.hasRoom, Bool.and_eq_true, decide_eq_true_eq] at h ⊢
    obtain ⟨⟨⟨⟨h1, h2, h3, h4, h5, h6⟩, h7⟩, h8⟩, h9⟩ := h
    rw [X.frames, List.length_cons] at h2 h3
    have q1 := X.heapSize
    have q2 := X.used
    simp only [hF, hU, List.length_cons, State.stackLimits_setFrames, State.stackBytes_setFrames, hl9, hb9]
    refine ⟨⟨⟨⟨by omega, by omega, by omega, by omega, by omega, h6⟩, ?_⟩, ?_⟩, X.book⟩
    · show T.heap.size + R'.cells ≤ e.platform.maxCells
      omega
    · show T.slotsUsed + R'.slots ≤ e.platform.maxSlots
      omega
  · rw [State.stackLimits_setFrames]; rfl
  · rw [State.stackBytes_setFrames]; rfl
  · refine ⟨?_, Nat.le_refl _, Nat.le_refl _, ?_, ?_, fun a c9 h9 => ⟨c9, h9, rfl, rfl, fun _ _ => rfl⟩⟩
    · obtain ⟨t, ht, -⟩ := State.frames_cons hr
      show T.setVm s.vm = { ((T.setVm s.vm).setFrames (.invoking m args :: below)).setFrames (T.setVm s.vm).frames with heap := T.heap, slotsUsed := T.slotsUsed }
      rw [State.setFrames_setFrames, State.setFrames_self ht]
      rfl
    · show T.slotsUsed = T.slotsUsed + ((T.heap.toList.drop T.heap.size).map (·.slots.size)).sum
      rw [List.drop_eq_nil_of_le (Nat.le_of_eq Array.length_toList)]
      rfl
    · show ((T.heap.toList.drop T.heap.size).map (·.slots.size)).sum ≤ 0
      rw [List.drop_eq_nil_of_le (Nat.le_of_eq Array.length_toList)]
      exact Nat.le_refl _
/-- 'throw new E()': new; dup; invokespecial; athrow -/
theorem vx_throw0 {cc : ByteArray} {pc : Nat} (hexec : p.tables.exec = Jvm.exec) (hb : c.code = cc) (hl : l.stackTraces = false) {own cls : String} {names : List String} {ik ic mc ms : Nat} {A : Nat → Prop}
    (hown : s.vm.findClass own = some m.cls) (hcls : Bundle.fit cls = true) (hnames : ∀ n ∈ names, Bundle.fit n = true)
    (hk : (Cond.classLink own ik cls).before args s = true) (hini : (Cond.initialized cls).before args s = true) (hat : ∀ w ∈ vx_at0 own ic cls names, w.before args s = true)
    (hgood : ∀ w ∈ Cond.classLink own ik cls :: Cond.initialized cls :: vx_at0 own ic cls names, vx_ot w = true)
    (hU : vx_Zq Bundle.tN "UNASSIGNED_STACK" Bundle.steD A s s.heap) (hN : vx_Zq Bundle.tN "SUPPRESSED_SENTINEL" Bundle.listD A s s.heap) (hS : va_S A s.heap H locs) (hsize : ls.size = c.maxLocals)
    (d0 : decode cc pc = .ok (.new ik, 3)) (d3 : decode cc (pc + 3) = .ok (.dup, 1)) (d4 : decode cc (pc + 4) = .ok (.invokespecial ic, 3)) (d7 : decode cc (pc + 7) = .ok (.athrow, 1))
    (hout : ∀ x ∈ c.exceptionTable.toList, covers x (pc + 7) = false)
    (hRframes : names.length + 3 < R.frames) (hRlocals : (rest.map fun v => v.category).sum + (13 * (names.length + 1) + 42) ≤ R.locals) (hRcells : cells + 1 ≤ R.cells) (hRslots : slots + 6 ≤ R.slots) (hlocks : meth.locks = false)
    (hx : ∀ t : State, s.vm.Alike t.vm → H.size ≤ t.heap.size → (∀ q : Nat, q < H.size → t.heap[q]? = H[q]?) → XC cls s t)
    (hf : ∀ z ∈ locs, free z.base) (hc : cells + 1 ≤ mc) (hs : slots + 6 ≤ ms) :
    W p l e R s m args below meth c H locs cells slots (vx_MQ below Qc XC args s mc ms free) (F0 m pc ls rest) := by
  intro T hT X
  have htr : e.platform.stackTraces = false := (show e.platform.stackTraces = l.stackTraces by rw [X.admits.platform]).trans hl
  have Y := vx_rebase X (R' := { frames := R.frames, locals := R.locals, cells := 1, slots := 6 }) (Nat.le_refl _) (Nat.le_refl _) hRcells hRslots
  obtain ⟨s', hA⟩ : ∃ z, z = (T.setVm s.vm).setFrames (.invoking m args :: below) := ⟨_, rfl⟩
  rw [← hA] at Y
  have hvm : s'.vm = s.vm := by rw [hA]; rfl
  have hhp : s'.heap = H := by rw [hA]; exact hT
  have hW0 : s.WarmedH s'.vm := by rw [hvm]; exact State.WarmedH.refl s
  have hat' : ∀ w ∈ vx_at0 own ic cls names, w.before args s' = true := fun w hw => vx_ot_at hW0 hvm.symm (hgood w (List.mem_cons_of_mem _ (List.mem_cons_of_mem _ hw))) (hat w hw)
  have hk' : (Cond.classLink own ik cls).before args s' = true := vx_ot_at hW0 hvm.symm (hgood _ List.mem_cons_self) hk
  have hini' : (Cond.initialized cls).before args s' = true := vx_ot_at hW0 hvm.symm (hgood _ (List.mem_cons_of_mem _ List.mem_cons_self)) hini
  have hU' : vx_Zq Bundle.tN "UNASSIGNED_STACK" Bundle.steD A s' s'.heap := by rw [hhp]; exact vx_Zq.moved hW0.alike (hU.kept hS.2.1)
  have hN' : vx_Zq Bundle.tN "SUPPRESSED_SENTINEL" Bundle.listD A s' s'.heap := by rw [hhp]; exact vx_Zq.moved hW0.alike (hN.kept hS.2.1)
  have h : ∀ w ∈ Bundle.ownAtoms0 own ic cls names, w.before args s' = true := vx_own hat' (vx_isRefq hU'.1) (vx_isRefq hN'.1) hU'.2.word hN'.2.word
  have hown' : s'.vm.findClass own = some m.cls := by rw [hvm]; exact hown
  have hins : (Cond.instantiable cls 6).before args s' = true := h _ (by simp [Bundle.ownAtoms0])
  obtain ⟨vm₁, cX, kX, hfX, hkX, -, -, X₁, st1⟩ := Y.newCold hexec (own := own) (C := cls) (index := ik) (n := 6) hown' hk' hins hini'
    (g := F0 m pc ls rest) rfl (by rw [hb]; exact d0) (Nat.le_refl _) (Nat.le_refl _)
  generalize hT1 : (T.setVm vm₁).pushCell { cls := cX, slots := kX.instanceTypes.map defaultValue, vm := .none } = T1 at X₁ st1
  have hcat : (Value.ref T.heap.size).category = 1 := rfl
  have hcellA : T1.heap[T.heap.size]? = some (freshCell cX kX) := by rw [← hT1]; exact State.heap_pushCell_size _ _
  have d3' : decode c.code (pc + 3) = .ok (.dup, 1) := by rw [hb]; exact d3
  obtain ⟨U, hsteps, hrun, hend, hW, hsame, ce, hce, hO⟩ := X₁.ctorThrow0 hexec htr (own := own) (cls := cls) (names := names) (ic := ic) hown' hcls hnames h (fun x hx => nomatch hx) hfX hkX hcellA (by rw [hhp, hT]; exact Nat.le_refl _)
    (g := { method := m, pc := pc + 4, locals := ls, stack := .ref T.heap.size :: .ref T.heap.size :: rest, locked := none }) rfl hsize rfl rfl (rest := rest) rfl
    (by rw [hb]; exact d4) (by rw [hb]; exact d7) hout hRframes (by simp only [List.map_cons, List.sum_cons, hcat]; omega) hlocks
  obtain ⟨f1, f2⟩ := vx_frame hsame
  rw [hhp] at f1 f2
  have hWs : s.WarmedH U.vm := State.WarmedH.trans hW0 hW
  have hcl : s.vm.findClass cls = some ce.cls := by
    have h9 := hO.cls
    rw [hvm] at h9
    exact h9
  have hall : s.sameButNew ({ U with vm := s.vm } : State) locs mc ms := by
    subst hA
    obtain ⟨e1, e2⟩ := hsame
    rw [State.setFrames_setFrames] at e1
    have h2 : (T.setVm s.vm).sameButNew ({ U with vm := s.vm } : State) [] (0 + 1) (0 + 6) := ⟨e1, e2⟩
    have h3 := X.same.trans h2
    rw [List.append_nil] at h3
    exact h3.mono hc hs
  refine ⟨U, ?_, .threw T.heap.size, hrun, hend, Or.inr ⟨T.heap.size, rfl, cls, ce, locs, hx U hWs.alike f1 (fun q hq => f2 q hq (fun z hz => nomatch hz)), hce, hO.vm, hcl, hWs, hall, hf⟩⟩
  refine st1 _ ?_
  show Steps p.tables e below (T1.setTop { method := m, pc := pc + 3, locals := ls, stack := .ref T.heap.size :: rest, locked := none }) _
  jvm_step X₁.here [X₁.here.top, hexec, d3', Value.category]
  exact hsteps
/-- 'throw new E("text")': new; dup; ldc; invokespecial; athrow -/
theorem vx_throwS {cc : ByteArray} {pc : Nat} (hexec : p.tables.exec = Jvm.exec) (hb : c.code = cc) (hl : l.stackTraces = false) {own cls text : String} {names : List String} {ik is ic mc ms sa : Nat} {A : Nat → Prop}
    (hown : s.vm.findClass own = some m.cls) (hcls : Bundle.fit cls = true) (hnames : ∀ n ∈ names, Bundle.fit n = true)
    (hk : (Cond.classLink own ik cls).before args s = true) (hini : (Cond.initialized cls).before args s = true) (hstr : vk_R own is text sa s) (hat : ∀ w ∈ vx_atS own ic cls names, w.before args s = true)
    (hgood : ∀ w ∈ Cond.classLink own ik cls :: Cond.initialized cls :: vx_atS own ic cls names, vx_ot w = true)
    (hU : vx_Zq Bundle.tN "UNASSIGNED_STACK" Bundle.steD A s s.heap) (hN : vx_Zq Bundle.tN "SUPPRESSED_SENTINEL" Bundle.listD A s s.heap) (hS : va_S A s.heap H locs) (hsize : ls.size = c.maxLocals)
    (d0 : decode cc pc = .ok (.new ik, 3)) (d3 : decode cc (pc + 3) = .ok (.dup, 1)) (d4 : decode cc (pc + 4) = .ok (.ldc is, 2)) (d6 : decode cc (pc + 6) = .ok (.invokespecial ic, 3)) (d9 : decode cc (pc + 9) = .ok (.athrow, 1))
    (hout : ∀ x ∈ c.exceptionTable.toList, covers x (pc + 9) = false)
    (hRframes : names.length + 3 < R.frames) (hRlocals : (rest.map fun v => v.category).sum + (13 * (names.length + 1) + 43) ≤ R.locals) (hRcells : cells + 1 ≤ R.cells) (hRslots : slots + 6 ≤ R.slots) (hlocks : meth.locks = false)
    (hx : ∀ t : State, s.vm.Alike t.vm → H.size ≤ t.heap.size → (∀ q : Nat, q < H.size → t.heap[q]? = H[q]?) → XC cls s t)
    (hf : ∀ z ∈ locs, free z.base) (hc : cells + 1 ≤ mc) (hs : slots + 6 ≤ ms) :
    W p l e R s m args below meth c H locs cells slots (vx_MQ below Qc XC args s mc ms free) (F0 m pc ls rest) := by
  intro T hT X
  have htr : e.platform.stackTraces = false := (show e.platform.stackTraces = l.stackTraces by rw [X.admits.platform]).trans hl
  have Y := vx_rebase X (R' := { frames := R.frames, locals := R.locals, cells := 1, slots := 6 }) (Nat.le_refl _) (Nat.le_refl _) hRcells hRslots
  obtain ⟨s', hA⟩ : ∃ z, z = (T.setVm s.vm).setFrames (.invoking m args :: below) := ⟨_, rfl⟩
  rw [← hA] at Y
  have hvm : s'.vm = s.vm := by rw [hA]; rfl
  have hhp : s'.heap = H := by rw [hA]; exact hT
  have hW0 : s.WarmedH s'.vm := by rw [hvm]; exact State.WarmedH.refl s
  have hat' : ∀ w ∈ vx_atS own ic cls names, w.before args s' = true := fun w hw => vx_ot_at hW0 hvm.symm (hgood w (List.mem_cons_of_mem _ (List.mem_cons_of_mem _ hw))) (hat w hw)
  have hk' : (Cond.classLink own ik cls).before args s' = true := vx_ot_at hW0 hvm.symm (hgood _ List.mem_cons_self) hk
  have hini' : (Cond.initialized cls).before args s' = true := vx_ot_at hW0 hvm.symm (hgood _ (List.mem_cons_of_mem _ List.mem_cons_self)) hini
  have hU' : vx_Zq Bundle.tN "UNASSIGNED_STACK" Bundle.steD A s' s'.heap := by rw [hhp]; exact vx_Zq.moved hW0.alike (hU.kept hS.2.1)
  have hN' : vx_Zq Bundle.tN "SUPPRESSED_SENTINEL" Bundle.listD A s' s'.heap := by rw [hhp]; exact vx_Zq.moved hW0.alike (hN.kept hS.2.1)
  have h : ∀ w ∈ Bundle.ownAtoms own ic cls names, w.before args s' = true := vx_own hat' (vx_isRefq hU'.1) (vx_isRefq hN'.1) hU'.2.word hN'.2.word
  have hown' : s'.vm.findClass own = some m.cls := by rw [hvm]; exact hown
  have hins : (Cond.instantiable cls 6).before args s' = true := h _ (by simp [Bundle.ownAtoms])
  obtain ⟨vm₁, cX, kX, hfX, hkX, -, -, X₁, st1⟩ := Y.newCold hexec (own := own) (C := cls) (index := ik) (n := 6) hown' hk' hins hini'
    (g := F0 m pc ls rest) rfl (by rw [hb]; exact d0) (Nat.le_refl _) (Nat.le_refl _)
  generalize hT1 : (T.setVm vm₁).pushCell { cls := cX, slots := kX.instanceTypes.map defaultValue, vm := .none } = T1 at X₁ st1
  have hcat : (Value.ref T.heap.size).category = 1 := rfl
  have hcellA : T1.heap[T.heap.size]? = some (freshCell cX kX) := by rw [← hT1]; exact State.heap_pushCell_size _ _
  have d3' : decode c.code (pc + 3) = .ok (.dup, 1) := by rw [hb]; exact d3
  have d4' : decode c.code (pc + 4) = .ok (.ldc is, 2) := by rw [hb]; exact d4
  have hstr' : vk_R own is text sa s' := vk_R.warm hW0 hstr
  obtain ⟨U, hsteps, hrun, hend, hW, hsame, ce, hce, hO⟩ := X₁.ctorThrowS hexec htr (own := own) (cls := cls) (names := names) (ic := ic) hown' hcls hnames h (fun x hx => nomatch hx) hfX hkX hcellA (by rw [hhp, hT]; exact Nat.le_refl _) (msg := .ref sa) rfl
    (g := { method := m, pc := pc + 6, locals := ls, stack := .ref sa :: .ref T.heap.size :: .ref T.heap.size :: rest, locked := none }) rfl hsize rfl rfl (rest := rest) rfl
    (by rw [hb]; exact d6) (by rw [hb]; exact d9) hout hRframes (by simp only [List.map_cons, List.sum_cons, hcat]; omega) hlocks
  obtain ⟨f1, f2⟩ := vx_frame hsame
  rw [hhp] at f1 f2
  have hWs : s.WarmedH U.vm := State.WarmedH.trans hW0 hW
  have hcl : s.vm.findClass cls = some ce.cls := by
    have h9 := hO.cls
    rw [hvm] at h9
    exact h9
  have hall : s.sameButNew ({ U with vm := s.vm } : State) locs mc ms := by
    subst hA
    obtain ⟨e1, e2⟩ := hsame
    rw [State.setFrames_setFrames] at e1
    have h2 : (T.setVm s.vm).sameButNew ({ U with vm := s.vm } : State) [] (0 + 1) (0 + 6) := ⟨e1, e2⟩
    have h3 := X.same.trans h2
    rw [List.append_nil] at h3
    exact h3.mono hc hs
  refine ⟨U, ?_, .threw T.heap.size, hrun, hend, Or.inr ⟨T.heap.size, rfl, cls, ce, locs, hx U hWs.alike f1 (fun q hq => f2 q hq (fun z hz => nomatch hz)), hce, hO.vm, hcl, hWs, hall, hf⟩⟩
  refine st1 _ ?_
  show Steps p.tables e below (T1.setTop { method := m, pc := pc + 3, locals := ls, stack := .ref T.heap.size :: rest, locked := none }) _
  jvm_step X₁.here [X₁.here.top, hexec, d3', Value.category]
  exact X₁.ldcString hexec (own := own) (text := text) (index := is) (a := sa) hown' hstr'.1 hstr'.2
    (g := { method := m, pc := pc + 4, locals := ls, stack := .ref T.heap.size :: .ref T.heap.size :: rest, locked := none }) rfl d4' _ hsteps
/-- 'throw new E("text")', the text by a wide index -/
theorem vx_throwSW {cc : ByteArray} {pc : Nat} (hexec : p.tables.exec = Jvm.exec) (hb : c.code = cc) (hl : l.stackTraces = false) {own cls text : String} {names : List String} {ik is ic mc ms sa : Nat} {A : Nat → Prop}
    (hown : s.vm.findClass own = some m.cls) (hcls : Bundle.fit cls = true) (hnames : ∀ n ∈ names, Bundle.fit n = true)
    (hk : (Cond.classLink own ik cls).before args s = true) (hini : (Cond.initialized cls).before args s = true) (hstr : vk_R own is text sa s) (hat : ∀ w ∈ vx_atS own ic cls names, w.before args s = true)
    (hgood : ∀ w ∈ Cond.classLink own ik cls :: Cond.initialized cls :: vx_atS own ic cls names, vx_ot w = true)
    (hU : vx_Zq Bundle.tN "UNASSIGNED_STACK" Bundle.steD A s s.heap) (hN : vx_Zq Bundle.tN "SUPPRESSED_SENTINEL" Bundle.listD A s s.heap) (hS : va_S A s.heap H locs) (hsize : ls.size = c.maxLocals)
    (d0 : decode cc pc = .ok (.new ik, 3)) (d3 : decode cc (pc + 3) = .ok (.dup, 1)) (d4 : decode cc (pc + 4) = .ok (.ldc_w is, 3)) (d7 : decode cc (pc + 7) = .ok (.invokespecial ic, 3)) (d10 : decode cc (pc + 10) = .ok (.athrow, 1))
    (hout : ∀ x ∈ c.exceptionTable.toList, covers x (pc + 10) = false)
    (hRframes : names.length + 3 < R.frames) (hRlocals : (rest.map fun v => v.category).sum + (13 * (names.length + 1) + 43) ≤ R.locals) (hRcells : cells + 1 ≤ R.cells) (hRslots : slots + 6 ≤ R.slots) (hlocks : meth.locks = false)
    (hx : ∀ t : State, s.vm.Alike t.vm → H.size ≤ t.heap.size → (∀ q : Nat, q < H.size → t.heap[q]? = H[q]?) → XC cls s t)
    (hf : ∀ z ∈ locs, free z.base) (hc : cells + 1 ≤ mc) (hs : slots + 6 ≤ ms) :
    W p l e R s m args below meth c H locs cells slots (vx_MQ below Qc XC args s mc ms free) (F0 m pc ls rest) := by
  intro T hT X
  have htr : e.platform.stackTraces = false := (show e.platform.stackTraces = l.stackTraces by rw [X.admits.platform]).trans hl
  have Y := vx_rebase X (R' := { frames := R.frames, locals := R.locals, cells := 1, slots := 6 }) (Nat.le_refl _) (Nat.le_refl _) hRcells hRslots
  obtain ⟨s', hA⟩ : ∃ z, z = (T.setVm s.vm).setFrames (.invoking m args :: below) := ⟨_, rfl⟩
  rw [← hA] at Y
  have hvm : s'.vm = s.vm := by rw [hA]; rfl
  have hhp : s'.heap = H := by rw [hA]; exact hT
  have hW0 : s.WarmedH s'.vm := by rw [hvm]; exact State.WarmedH.refl s
  have hat' : ∀ w ∈ vx_atS own ic cls names, w.before args s' = true := fun w hw => vx_ot_at hW0 hvm.symm (hgood w (List.mem_cons_of_mem _ (List.mem_cons_of_mem _ hw))) (hat w hw)
  have hk' : (Cond.classLink own ik cls).before args s' = true := vx_ot_at hW0 hvm.symm (hgood _ List.mem_cons_self) hk
  have hini' : (Cond.initialized cls).before args s' = true := vx_ot_at hW0 hvm.symm (hgood _ (List.mem_cons_of_mem _ List.mem_cons_self)) hini
  have hU' : vx_Zq Bundle.tN "UNASSIGNED_STACK" Bundle.steD A s' s'.heap := by rw [hhp]; exact vx_Zq.moved hW0.alike (hU.kept hS.2.1)
  have hN' : vx_Zq Bundle.tN "SUPPRESSED_SENTINEL" Bundle.listD A s' s'.heap := by rw [hhp]; exact vx_Zq.moved hW0.alike (hN.kept hS.2.1)
  have h : ∀ w ∈ Bundle.ownAtoms own ic cls names, w.before args s' = true := vx_own hat' (vx_isRefq hU'.1) (vx_isRefq hN'.1) hU'.2.word hN'.2.word
  have hown' : s'.vm.findClass own = some m.cls := by rw [hvm]; exact hown
  have hins : (Cond.instantiable cls 6).before args s' = true := h _ (by simp [Bundle.ownAtoms])
  obtain ⟨vm₁, cX, kX, hfX, hkX, -, -, X₁, st1⟩ := Y.newCold hexec (own := own) (C := cls) (index := ik) (n := 6) hown' hk' hins hini'
    (g := F0 m pc ls rest) rfl (by rw [hb]; exact d0) (Nat.le_refl _) (Nat.le_refl _)
  generalize hT1 : (T.setVm vm₁).pushCell { cls := cX, slots := kX.instanceTypes.map defaultValue, vm := .none } = T1 at X₁ st1
  have hcat : (Value.ref T.heap.size).category = 1 := rfl
  have hcellA : T1.heap[T.heap.size]? = some (freshCell cX kX) := by rw [← hT1]; exact State.heap_pushCell_size _ _
  have d3' : decode c.code (pc + 3) = .ok (.dup, 1) := by rw [hb]; exact d3
  have d4' : decode c.code (pc + 4) = .ok (.ldc_w is, 3) := by rw [hb]; exact d4
  have hstr' : vk_R own is text sa s' := vk_R.warm hW0 hstr
  obtain ⟨U, hsteps, hrun, hend, hW, hsame, ce, hce, hO⟩ := X₁.ctorThrowS hexec htr (own := own) (cls := cls) (names := names) (ic := ic) hown' hcls hnames h (fun x hx => nomatch hx) hfX hkX hcellA (by rw [hhp, hT]; exact Nat.le_refl _) (msg := .ref sa) rfl
    (g := { method := m, pc := pc + 7, locals := ls, stack := .ref sa :: .ref T.heap.size :: .ref T.heap.size :: rest, locked := none }) rfl hsize rfl rfl (rest := rest) rfl
    (by rw [hb]; exact d7) (by rw [hb]; exact d10) hout hRframes (by simp only [List.map_cons, List.sum_cons, hcat]; omega) hlocks
  obtain ⟨f1, f2⟩ := vx_frame hsame
  rw [hhp] at f1 f2
  have hWs : s.WarmedH U.vm := State.WarmedH.trans hW0 hW
  have hcl : s.vm.findClass cls = some ce.cls := by
    have h9 := hO.cls
    rw [hvm] at h9
    exact h9
  have hall : s.sameButNew ({ U with vm := s.vm } : State) locs mc ms := by
    subst hA
    obtain ⟨e1, e2⟩ := hsame
    rw [State.setFrames_setFrames] at e1
    have h2 : (T.setVm s.vm).sameButNew ({ U with vm := s.vm } : State) [] (0 + 1) (0 + 6) := ⟨e1, e2⟩
    have h3 := X.same.trans h2
    rw [List.append_nil] at h3
    exact h3.mono hc hs
  refine ⟨U, ?_, .threw T.heap.size, hrun, hend, Or.inr ⟨T.heap.size, rfl, cls, ce, locs, hx U hWs.alike f1 (fun q hq => f2 q hq (fun z hz => nomatch hz)), hce, hO.vm, hcl, hWs, hall, hf⟩⟩
  refine st1 _ ?_
  show Steps p.tables e below (T1.setTop { method := m, pc := pc + 3, locals := ls, stack := .ref T.heap.size :: rest, locked := none }) _
  jvm_step X₁.here [X₁.here.top, hexec, d3', Value.category]
  exact X₁.ldcStringW hexec (own := own) (text := text) (index := is) (a := sa) hown' hstr'.1 hstr'.2
    (g := { method := m, pc := pc + 4, locals := ls, stack := .ref T.heap.size :: .ref T.heap.size :: rest, locked := none }) rfl d4' _ hsteps
end Ends
section Bodies
variable {l : Launch}
theorem vx_ofW {y : MethodName} {ws ws' : List Cond} {rm : Room} {Pc : Array Value → State → Prop} {Qc : Array Value → State → Outcome → State → Prop} {XC : String → State → State → Prop} {mc ms : Nat} {free : Addr → Prop} {cc : ByteArray} {maxL : Nat} {ret : Option FieldType}
    (hy : plainName y.cls = true) (hw : ws = Cond.code y cc maxL ret :: ws')
    (body : ∀ p e s m args below meth c s₁, BodyLoose p l y (headSpec ws rm) cc maxL ret e s m args below meth c s₁ → c.maxLocals = maxL → (∀ x ∈ c.exceptionTable.toList, False) → Pc args s →
      W p l e (headSpec ws rm).room s m args below meth c s.heap [] 0 0 (vx_MQ below Qc XC args s mc ms free) (entryFrame m args maxL)) : vx_Met l y ws rm Pc Qc XC mc ms free := by
  refine MetFree.of_bodyS (code := cc) (maxLocals := maxL) (ret := ret) hy ?_ ?_
  · intro args s m h hn
    obtain ⟨meth, c, h1, h2, h3, h4, h5, h6, -, -⟩ := Cond.code_spec hn (atoms_spec (ws := ws) h _ (by rw [hw]; exact List.mem_cons_self))
    exact ⟨meth, c, h1, h2, h3, h4, h5, h6⟩
  · intro p e s m args below meth c s₁ B hml hP _
    have hh0 : s₁.heap = s.heap := by rw [B.state]; rfl
    have ht : ∀ x ∈ c.exceptionTable.toList, False := by
      obtain ⟨meth9, c9, h1, h2, -, -, -, -, h7, -⟩ := Cond.code_spec B.named (atoms_spec (ws := ws) B.pre _ (by rw [hw]; exact List.mem_cons_self))
      cases Option.some.inj (h1.symm.trans B.method)
      cases Option.some.inj (h2.symm.trans (Stand.of_body B).code)
      intro x hx
      rw [Array.isEmpty_iff.mp h7] at hx
      cases hx
    obtain ⟨t, a1, o, b1, b2, b3⟩ := body p e s m args below meth c s₁ B hml ht hP s₁ hh0 (Stand.of_body B)
    exact ⟨t, o, a1, b1, b2, b3⟩
/-- the table of a body with handlers -/
theorem vx_table {p : Program} {x y : MethodName} {S : Spec} {cc bytes : ByteArray} {maxL maxL' : Nat} {ret ret' : Option FieldType} {e : Env} {s s₁ : State} {m : MethodId} {args : Array Value} {below : List Frame} {meth : Method} {c : Code} {hh : List (Nat × Nat × Nat × Nat)}
    (B : BodyLoose p l y S cc maxL ret e s m args below meth c s₁) (h : (Cond.codeWith y bytes maxL' ret' hh).before args s = true) : c.exceptionTable.toList = tableOf hh := by
  obtain ⟨m9, meth9, c9, hn9, h1, h2, -, -, h6, -⟩ := Cond.codeWith_spec h
  cases Option.some.inj (hn9.symm.trans B.named)
  cases Option.some.inj (h1.symm.trans B.method)
  cases Option.some.inj (h2.symm.trans (Stand.of_body B).code)
  rw [← h6, table_eq]
end Bodies
end VXA
/-! ===== END ===== -/
/-! ===== BEGIN a static call of a method with an exception table ===== -/
section VXS
variable {p : Program} {l : Launch} {e : Env} {R : Room} {s : State} {m : MethodId} {args : Array Value} {below : List Frame} {meth : Method} {c : Code} {T : State} {H : Heap} {locs : List Loc} {cells slots : Nat}
abbrev vx_CSW (R : Room) (s : State) (args : Array Value) (own : String) (index : Nat) (y : MethodName) (bytes : ByteArray) (maxL : Nat) (ret : Option FieldType) (hh : List (Nat × Nat × Nat × Nat)) (ws : List Cond) (rm : Room) (mc ms n : Nat) : Prop :=
  (rm.cells = mc ∧ rm.slots = ms ∧ rm.frames + 1 ≤ R.frames ∧ 8 + (maxL + 11) + rm.locals ≤ R.locals ∧ (∀ w ∈ ws, ∀ (a' : Array Value) (U : State), s.WarmedH U.vm → w.before a' U = true) ∧ Cond.codeWith y bytes maxL ret hh ∈ ws) ∧
  (Cond.codeWith y bytes maxL ret hh).before args s = true ∧ (Cond.initialized y.cls).before args s = true ∧ (y.cls ≠ "java/lang/invoke/MethodHandle" ∧ y.cls ≠ "java/lang/invoke/VarHandle") ∧
  (∀ sig, parseMethodDescriptor y.desc = some sig → n = sig.parameters.length) ∧ (Cond.methodLink own index y).before args s = true ∧ (Cond.static y).before args s = true
theorem vx_cwSW {own : String} {index maxL mc ms : Nat} {y : MethodName} {bytes : ByteArray} {ret : Option FieldType} {hh : List (Nat × Nat × Nat × Nat)} {Ts ws ws' : List Cond} {rm : Room} (n : Nat) (ht : ∀ w ∈ Ts, w.before args s = true) (hT : GoodIn Ts (va_wsS own index y ws)) (hw : ws = Cond.codeWith y bytes maxL ret hh :: ws') (hrc : rm.cells = mc) (hrs : rm.slots = ms)
    (hd : y.cls ≠ "java/lang/invoke/MethodHandle" ∧ y.cls ≠ "java/lang/invoke/VarHandle" ∧ (parseMethodDescriptor y.desc).map (fun d => d.parameters.length) = some n) (hR : rm.frames + 1 ≤ R.frames ∧ 8 + (maxL + 11) + rm.locals ≤ R.locals) :
    vx_CSW R s args own index y bytes maxL ret hh ws rm mc ms n := by
  have ok : ∀ w ∈ va_wsS own index y ws, w.before args s = true := fun w h => ht w (hT w h).1
  have hG : GoodIn Ts ws := fun w h => hT w (by unfold va_wsS; exact List.mem_append_right _ h)
  have hc : Cond.codeWith y bytes maxL ret hh ∈ ws := by rw [hw]; exact List.mem_cons_self
  refine ⟨⟨hrc, hrs, hR.1, hR.2, pay_in ht hG, hc⟩, ht _ (hG _ hc).1, ok _ (by simp [va_wsS]), ⟨hd.1, hd.2.1⟩, fun sig h => ?_, ok _ (by simp [va_wsS]), ok _ (by simp [va_wsS])⟩
  have h2 := hd.2.2
  rw [h] at h2
  exact (Option.some.inj h2).symm
theorem vx_callSW (X : Stand p l e R s m args below meth c T locs cells slots) (hexec : p.tables.exec = Jvm.exec) {own : String} {index : Nat} {y : MethodName} {bytes : ByteArray} {maxL : Nat} {ret : Option FieldType} {hh : List (Nat × Nat × Nat × Nat)}
    (hown : s.vm.findClass own = some m.cls) (hlink : (Cond.methodLink own index y).before args s = true) (hstat : (Cond.static y).before args s = true) (hinit : (Cond.initialized y.cls).before args s = true)
    (hcode : (Cond.codeWith y bytes maxL ret hh).before args s = true) (hy : y.cls ≠ "java/lang/invoke/MethodHandle" ∧ y.cls ≠ "java/lang/invoke/VarHandle")
    {W9 : Nat} {Pre : Pt → Array Value → Prop} {Post : Pt → Array Value → Option Value → Pt → Prop} (hK : Back l R p e below s args y 3 W9 Pre Post)
    {g : JFrame} (hg : g.method = m) (hsize : g.locals.size = c.maxLocals) {argsL rest : List Value} (hlen : ∀ sig, parseMethodDescriptor y.desc = some sig → argsL.length = sig.parameters.length)
    (hstack : g.stack = argsL.reverse ++ rest) (hW : 2 * g.monitorRoom + (rest.map fun v => v.category).sum ≤ W9) (hdg : decode c.code g.pc = .ok (.invokestatic index, 3))
    (hpre : ∀ vm₁, s.WarmedH vm₁ → Pre ⟨T.setVm vm₁, locs, cells, slots⟩ argsL.toArray) :
    ∃ (v : Option Value) (vm₁ : Vm) (B : Pt), s.WarmedH vm₁ ∧ Stand p l e R s m args below meth c B.U B.locs B.cells B.slots ∧ Post ⟨T.setVm vm₁, locs, cells, slots⟩ argsL.toArray v B ∧
      ∀ target, Steps p.tables e below (B.U.setTop { g with pc := g.pc + 3, stack := v.toList ++ rest }) target → Steps p.tables e below (T.setTop g) target := by
  obtain ⟨mk, methM, cM, hnamed, hmethM, -, -, -, -, -, -, hsigM⟩ := Cond.codeWith_spec hcode
  have hstatic : methM.isStatic = true := Cond.static_spec hnamed hmethM hstat
  obtain ⟨kP, hkP, -⟩ := className_of_methodNamed hnamed
  have hinitP : kP.init = .initialized := Cond.initialized_spec (findClass_of_methodNamed hnamed) hkP hinit
  obtain ⟨vm₁, X₁, hstep₁⟩ := X.invokestatic hexec hown hlink hnamed hmethM hstatic hkP hinitP hy (g := g) hg (argsL := argsL) (rest := rest) (hlen _ hsigM) hstack hdg
  obtain ⟨v, B, X', hpost, hsteps⟩ := hK m meth c ⟨T.setVm vm₁, locs, cells, slots⟩ { g with stack := rest } (.invokestatic index) mk argsL.toArray X₁ hg hsize hdg hW (X₁.named hnamed) (hpre vm₁ X₁.warmed)
  exact ⟨v, vm₁, B, X₁.warmed, X', hpost, fun target h => hstep₁ _ fun acts => by rw [doInvoke_state]; exact hsteps.trans h⟩
theorem vx_runSW {y : MethodName} {bytes cc : ByteArray} {maxL nL mc ms n index : Nat} {ret : Option FieldType} {hh : List (Nat × Nat × Nat × Nat)} {ws : List Cond} {rm : Room} {Pc : Array Value → State → Prop} {Qc : Array Value → State → Outcome → State → Prop} {free : Addr → Prop} {Ts : List Cond} {own : String} {As rest : List Value} {g : JFrame}
    (S : CallFix p m c cc nL s args Ts own) (hM : Met l y ws rm Pc Qc mc ms free) (cw : vx_CSW R s args own index y bytes maxL ret hh ws rm mc ms n) (hp : PreS s H Pc As)
    (hg : g.method = m) (hn : As.length = n) (hsize : g.locals.size = nL) (hstack : g.stack = As.reverse ++ rest) (hW : 2 * g.monitorRoom + (rest.map fun v => v.category).sum ≤ 8) (hdg : decode cc g.pc = .ok (.invokestatic index, 3)) (hf : cells + mc ≤ R.cells ∧ slots + ms ≤ R.slots) :
    va_Run p l e R s m args below meth c H locs cells slots mc ms g rest (Qc As.toArray) (free) := by
  obtain ⟨⟨hrc, hrs, hfr, hlo, hws, hcw⟩, hcode, hini, hy, hlen, hl, hstt⟩ := cw
  have hK : Back l R p e below s args y 3 8 (PreOf R mc ms Pc) (PostOf Qc mc ms free) := va_backW (hh := hh) (bytes := bytes) (maxL := maxL) (ret := ret) hM hp.1 hrc hrs hfr hlo hws hcw (fun a' U hW => word_at hW (Or.inl (by first | rfl | simp [Cond.onTables, Cond.keeps, Cond.steady])) hini)
  obtain ⟨hx, hb, hml, ho, -⟩ := S
  intro T hT X
  obtain ⟨v, vm₁, ⟨U', l2, c2, s2⟩, hW₁, X', ⟨g', mk, t, L, e1, e2, hq, h1, hL, h2, h3⟩, st⟩ := vx_callSW X hx (hh := hh) (bytes := bytes) (maxL := maxL) (ret := ret) ho hl hstt hini hcode hy hK hg (hsize.trans hml.symm) (argsL := As) (rest := rest) (fun sig h => hn.trans (hlen sig h)) hstack hW (by rw [hb]; exact hdg)
    (fun vm₁ hW₁ => ⟨hf.1, hf.2, hp.2 (T.setVm vm₁) hT hW₁⟩)
  dsimp only [Pt.U, Pt.locs, Pt.cells, Pt.slots] at X' e1 e2 h1 h2 h3 st
  subst h1; subst h2; subst h3
  exact ⟨v, (T.setVm vm₁).calling g' mk As.toArray, t, U', L, hT, X', hL, e1, e2, hq, st⟩
/-- not caught here, past rows that name other classes: it goes on to the caller -/
theorem vx_outP {p : Program} {l : Launch} {e : Env} {R : Room} {s : State} {m : MethodId} {args : Array Value} {below : List Frame} {meth : Method} {c : Code} {H : Heap} {locs : List Loc} {cells slots : Nat} {free : Addr → Prop} {ls : Array Slot} {rest : List Value} {Qc : Array Value → State → Outcome → State → Prop} {XC : String → State → State → Prop}
    {pc : Nat} {own E : String} {ce : Cell} {q : Addr} {mc ms : Nat} (hown : s.vm.findClass own = some m.cls) (hlocks : meth.locks = false)
    (hpass : ∀ z ∈ c.exceptionTable.toList, covers z pc = false ∨ (z.catchType ≠ 0 ∧ ∃ nm : String, (Cond.classLink own z.catchType nm).before args s = true ∧ va_Nc E nm s)) (hcell : H[q]? = some ce) (hv : ce.vm = .none) (hcl : s.vm.findClass E = some ce.cls)
    (hx : ∀ t : State, t.heap = H → s.vm.Alike t.vm → XC E s t) (hf : ∀ z ∈ locs, free z.base) (hc : cells ≤ mc) (hs : slots ≤ ms) :
    vx_W p l e R s m args below meth c H locs cells slots (vx_MQ below Qc XC args s mc ms free) (F0 m pc ls rest) q := by
  intro T hT X
  have hpl : e.platform.magicAccessors = ({} : Platform).magicAccessors := by rw [X.admits.platform]
  obtain ⟨vm', hW', X', st⟩ := X.outThrough hlocks q (g := F0 m pc ls rest) rfl rfl rfl (cell := ce) (by rw [hT]; exact hcell) (by rw [hv]; rfl)
    (by obtain ⟨k9, h9, -⟩ := Vm.findClass_spec hcl; exact ⟨k9, h9⟩) (fun z hz => by
      rcases hpass z hz with h | ⟨hz0, nm, hl1, hn1⟩
      · exact Or.inl h
      · obtain ⟨c6, hc6, hcl6⟩ := Cond.classLink_spec hown hl1 e.platform hpl
        obtain ⟨a8, b8, h1, h2, h3⟩ := hn1
        cases Option.some.inj (h1.symm.trans hcl)
        cases Option.some.inj (h2.symm.trans hc6)
        exact Or.inr ⟨hz0, _, hcl6, h3⟩)
  obtain ⟨g₀, hfr⟩ := X'.frames_eq
  have hcell9 : ((T.setVm vm').setFrames (.throwing q :: below)).heap[q]? = some ce := by
    show T.heap[q]? = some ce
    rw [hT]; exact hcell
  have hend : Ended ((T.setVm vm').setFrames (.throwing q :: below)) below (.threw q) := State.frames_setFrames _ (State.cur_lt_of_frames hfr)
  refine ⟨(T.setVm vm').setFrames (.throwing q :: below), ?_, .threw q, X'.here.running, hend, Or.inr ⟨q, rfl, E, ce, locs, hx _ hT (X'.ends _).1.alike, hcell9, hv, hcl, (X'.ends _).1, (X'.ends _).2.mono hc hs, hf⟩⟩
  rw [X.pushThrowing_eq]
  exact st
/-- a thing of a world lies in the heap -/
theorem vx_lt {D : va_G} {cl : List vw_C} {ws : va_W} {H1 : Heap} (h : va_P D cl ws H1) {k : Nat} {q : Nat × va_E} (hk : ws[k]? = some q) : q.1 < H1.size := (h k q hk).lt
end VXS
/-! ===== END ===== -/
/-! ===== BEGIN methods with a table of their own: called by a name, returning or throwing ===== -/
section VXH
/-! vx_backW, vx_callVX, vx_callSX, vx_callVW, vx_runVW, vx_runVX, vx_runSX, vx_ofWH follow the same proofs as their sisters above (Free/Laws.lean, Shelf42/LK1.lean); vx_outP calls Shelf42/NT130.lean (outThrough). -/
section
variable {l : Launch} {R : Room} {p : Program} {e : Env} {below : List Frame} {s : State} {sargs : Array Value} {y : MethodName} {len W9 : Nat}
theorem vx_backW {ws : List Cond} {rm : Room} {Pc : Array Value → State → Prop} {Qc : Array Value → State → Outcome → State → Prop} {XC : String → State → State → Prop} {mc ms : Nat} {free : Addr → Prop} {bytes : ByteArray} {maxL : Nat} {ret : Option FieldType} {hh : List (Nat × Nat × Nat × Nat)}
    (hM : vx_Met l y ws rm Pc Qc XC mc ms free) (hblind : FrameBlind Pc) (hrc : rm.cells = mc) (hrs : rm.slots = ms)
    (hframes : rm.frames + 1 ≤ R.frames) (hlocals : W9 + (maxL + 11) + rm.locals ≤ R.locals)
    (hws : ∀ w ∈ ws, ∀ a' U, s.WarmedH U.vm → w.before a' U = true) (hcode : Cond.codeWith y bytes maxL ret hh ∈ ws) (hinit : ∀ a' U, s.WarmedH U.vm → (Cond.initialized y.cls).before a' U = true) :
    vx_Back l R p e below s sargs y len W9 (PreOf R mc ms Pc) (PostOf Qc mc ms free) (vx_Post XC mc ms free) := by
  intro m meth c A g ig mk a X hg hsize hdg hW hn hp
  have h1 : (headSpec ws rm).pre.before a A.U = true := atoms_intro fun w hw => hws w hw _ _ X.warmed
  have h2 : (Cond.codeWith y bytes maxL ret hh).before a A.U = true := hws _ hcode _ _ X.warmed
  have h3 : (Cond.initialized y.cls).before a A.U = true := hinit _ _ X.warmed
  have h4 : A.cells + (headSpec ws rm).room.cells ≤ R.cells := by rw [show (headSpec ws rm).room.cells = mc from hrc]; exact hp.1
  have h5 : A.slots + (headSpec ws rm).room.slots ≤ R.slots := by rw [show (headSpec ws rm).room.slots = ms from hrs]; exact hp.2.1
  have hPc : Pc a (A.U.calling g mk a) := hblind _ _ _ _ hp.2.2
  obtain ⟨U, Ls, c0, s0⟩ := A
  dsimp only [Pt.U, Pt.locs, Pt.cells, Pt.slots] at h1 h2 h3 h4 h5 X hn hPc ⊢
  obtain ⟨m9, methY, cY, hn9, hmY, hcY, -, hlY, -⟩ := Cond.codeWith_spec h2
  cases Option.some.inj (hn9.symm.trans hn)
  obtain ⟨kY, hkY, -⟩ := className_of_methodNamed hn
  have hinitY : kY.init = .initialized := Cond.initialized_spec (findClass_of_methodNamed hn) hkY h3
  have h : At U g.method c below := by rw [hg]; exact X.here
  have hlocals9 : W9 + (maxL + 11) + (headSpec ws rm).room.locals ≤ R.locals := hlocals
  have happ : (headSpec ws rm).appliesLoose y e.platform (U.calling g mk a) = true :=
    Spec.appliesLoose_calling (g := g) h hdg hn hkY hinitY
      (X.room_calling (g := g) (R' := (headSpec ws rm).room) hsize hmY hcY hframes (by rw [hlY]; omega) h4 h5) h1
  obtain ⟨mid, hmid⟩ := h.above
  have hfr : (U.setTop g).frames = (.java g :: mid) ++ below := by rw [State.frames_setTop' g h.top, hmid]; rfl
  obtain ⟨o, s₂, hsteps, -, hend, hq⟩ := Steps.callFree hM p X.admits X.cas X.clock (acts := []) hfr happ hPc trivial
  have hq' : vx_Q Qc XC mc ms free a (U.calling g mk a) o s₂ := hq
  rw [State.frames_setTop' g h.top] at hend
  obtain ⟨g₀, hg0⟩ := Option.isSome_iff_exists.mp h.top
  obtain ⟨r, hr⟩ := State.topJava?_eq_some.mp hg0
  have hr' : (({ U with heap := s₂.heap, slotsUsed := s₂.slotsUsed } : State).setVm s₂.vm).frames = .java g₀ :: r := hr
  rcases hq' with ⟨hqc, L, hfe, hL⟩ | ⟨q, rfl, E, ce, L, hx, hce, hcv, hcl, hW₂, hsm, hL⟩
  · obtain ⟨⟨v, rfl⟩, hW₂, e2, q2, q3, q4, q5, q6⟩ := id hfe
    have e3 : s₂ = ({ (U.calling g mk a).setFrames s₂.frames with heap := s₂.heap, slotsUsed := s₂.slotsUsed } : State).setVm s₂.vm := by
      have : s₂ = ({ s₂ with vm := (U.calling g mk a).vm } : State).setVm s₂.vm := rfl
      rw [e2] at this
      exact this
    obtain ⟨c₂, i₂, len₂, hc₂, hd₂, hf₂⟩ := hend
    have hW' : U.WarmedH s₂.vm := hW₂
    have hcc : c₂ = c := by
      have h1 : s₂.code? g.method = U.code? g.method := by
        rw [State.code?_eq, State.code?_eq, hW'.alike.method?]
      exact Option.some.inj (hc₂.symm.trans (h1.trans h.code))
    subst hcc
    have hlen : len₂ = len := by rw [hdg] at hd₂; cases hd₂; rfl
    subst hlen
    have hs₂ : s₂ = (({ U with heap := s₂.heap, slotsUsed := s₂.slotsUsed } : State).setVm s₂.vm).setTop { g with pc := g.pc + len₂, stack := v.toList ++ g.stack } := by
      refine e3.trans ?_
      rw [hf₂, State.calling_eq h.top, State.setFrames_setFrames, State.setTop_of_frames _ hr', hr]
      rfl
    have hsame : U.sameButNew ({ U with heap := s₂.heap, slotsUsed := s₂.slotsUsed } : State) L mc ms := by
      refine ⟨?_, q2, q3, q4, q5, q6⟩
      obtain ⟨t, ht, -⟩ := State.frames_cons hr
      show ({ U with heap := s₂.heap, slotsUsed := s₂.slotsUsed } : State) = { U.setFrames U.frames with heap := s₂.heap, slotsUsed := s₂.slotsUsed }
      rw [State.setFrames_self ht]
    subst hg
    refine Or.inl ⟨v, ⟨(({ U with heap := s₂.heap, slotsUsed := s₂.slotsUsed } : State).setVm s₂.vm), Ls ++ L, c0 + mc, s0 + ms⟩,
      ⟨X.admits, X.cas, X.clock, X.frames, X.room, X.hears, X.method, X.code, (X.here.setHeapUsed s₂.heap s₂.slotsUsed).setVm hW'.alike, X.tail, State.WarmedH.trans X.warmed hW', X.limits, X.bytes, X.same.trans (hsame.setVm s.vm)⟩,
      ⟨g, mk, s₂, L, rfl, rfl, hqc, rfl, hL, rfl, rfl⟩, ?_⟩
    show Steps p.tables e below _ ((({ U with heap := s₂.heap, slotsUsed := s₂.slotsUsed } : State).setVm s₂.vm).setTop { g with pc := g.pc + len₂, stack := v.toList ++ g.stack })
    rw [← hs₂]
    exact hsteps
  · obtain ⟨e2, q2, q3, q4, q5, q6⟩ := id hsm
    have e3 : s₂ = ({ (U.calling g mk a).setFrames s₂.frames with heap := s₂.heap, slotsUsed := s₂.slotsUsed } : State).setVm s₂.vm := by
      have : s₂ = ({ s₂ with vm := (U.calling g mk a).vm } : State).setVm s₂.vm := rfl
      rw [e2] at this
      exact this
    have hf₂ : s₂.frames = .throwing q :: .java g :: U.frames.tail := hend
    have hW' : U.WarmedH s₂.vm := hW₂
    have hs₂ : s₂ = ((({ U with heap := s₂.heap, slotsUsed := s₂.slotsUsed } : State).setVm s₂.vm).setTop g).pushFrame (.throwing q) := by
      refine e3.trans ?_
      rw [hf₂, State.calling_eq h.top, State.setFrames_setFrames, State.pushFrame, State.frames_setTop _ hr', State.setTop_of_frames _ hr', State.setFrames_setFrames, hr]
      rfl
    have hsame : U.sameButNew ({ U with heap := s₂.heap, slotsUsed := s₂.slotsUsed } : State) L mc ms := by
      refine ⟨?_, q2, q3, q4, q5, q6⟩
      obtain ⟨t, ht, -⟩ := State.frames_cons hr
      show ({ U with heap := s₂.heap, slotsUsed := s₂.slotsUsed } : State) = { U.setFrames U.frames with heap := s₂.heap, slotsUsed := s₂.slotsUsed }
      rw [State.setFrames_self ht]
    subst hg
    refine Or.inr ⟨q, ⟨(({ U with heap := s₂.heap, slotsUsed := s₂.slotsUsed } : State).setVm s₂.vm), Ls ++ L, c0 + mc, s0 + ms⟩,
      ⟨X.admits, X.cas, X.clock, X.frames, X.room, X.hears, X.method, X.code, (X.here.setHeapUsed s₂.heap s₂.slotsUsed).setVm hW'.alike, X.tail, State.WarmedH.trans X.warmed hW', X.limits, X.bytes, X.same.trans (hsame.setVm s.vm)⟩,
      ⟨g, mk, s₂, L, E, ce, rfl, rfl, hx, hce, hcv, hcl, rfl, hL, rfl, rfl⟩, ?_⟩
    show Steps p.tables e below _ (((({ U with heap := s₂.heap, slotsUsed := s₂.slotsUsed } : State).setVm s₂.vm).setTop g).pushFrame (.throwing q))
    rw [← hs₂]
    exact hsteps
end
variable {p : Program} {l : Launch} {e : Env} {R : Room} {s : State} {m : MethodId} {args : Array Value} {below : List Frame} {meth : Method} {c : Code} {T : State} {H : Heap} {locs : List Loc} {cells slots : Nat}
theorem vx_callVX (X : Stand p l e R s m args below meth c T locs cells slots) (hexec : p.tables.exec = Jvm.exec) {own C : String} {index : Nat} {y : MethodName} {bytes : ByteArray} {maxL : Nat} {ret : Option FieldType} {hh : List (Nat × Nat × Nat × Nat)}
    (hown : s.vm.findClass own = some m.cls) (hlink : (Cond.methodLink own index y).before args s = true) (hinst : (Cond.instanceMethod y).before args s = true) (hsel : (Cond.selects C y y).before args s = true)
    (hcode : (Cond.codeWith y bytes maxL ret hh).before args s = true) (hy : y.cls ≠ "java/lang/invoke/MethodHandle" ∧ y.cls ≠ "java/lang/invoke/VarHandle")
    {W9 : Nat} {Pre : Pt → Array Value → Prop} {Post : Pt → Array Value → Option Value → Pt → Prop} {PostX : Pt → Array Value → Addr → Pt → Prop} (hK : vx_Back l R p e below s args y 3 W9 Pre Post PostX)
    {b : Addr} {cellB : Cell} (hcell : T.heap[b]? = some cellB) (hobj : cellB.vm.isStatics = false) (hcls : s.vm.findClass C = some cellB.cls)
    {g : JFrame} (hg : g.method = m) (hsize : g.locals.size = c.maxLocals) {argsL rest : List Value} (hlen : ∀ sig, parseMethodDescriptor y.desc = some sig → argsL.length = sig.parameters.length)
    (hstack : g.stack = argsL.reverse ++ .ref b :: rest) (hW : 2 * g.monitorRoom + (rest.map fun v => v.category).sum ≤ W9) (hdg : decode c.code g.pc = .ok (.invokevirtual index, 3))
    (hpre : ∀ vm₁, s.WarmedH vm₁ → Pre ⟨T.setVm vm₁, locs, cells, slots⟩ (Value.ref b :: argsL).toArray) :
    (∃ (v : Option Value) (vm₁ : Vm) (B : Pt), s.WarmedH vm₁ ∧ Stand p l e R s m args below meth c B.U B.locs B.cells B.slots ∧ Post ⟨T.setVm vm₁, locs, cells, slots⟩ (Value.ref b :: argsL).toArray v B ∧
      ∀ target, Steps p.tables e below (B.U.setTop { g with pc := g.pc + 3, stack := v.toList ++ rest }) target → Steps p.tables e below (T.setTop g) target) ∨
    (∃ (q : Addr) (vm₁ : Vm) (B : Pt), s.WarmedH vm₁ ∧ Stand p l e R s m args below meth c B.U B.locs B.cells B.slots ∧ PostX ⟨T.setVm vm₁, locs, cells, slots⟩ (Value.ref b :: argsL).toArray q B ∧
      Steps p.tables e below (T.setTop g) ((B.U.setTop { g with stack := rest }).pushFrame (.throwing q))) := by
  obtain ⟨mk, methM, hnamed, hmethM, hstM, habM⟩ := Cond.instanceMethod_spec hinst
  obtain ⟨m8, methM', cM, hn8, hmethM', -, -, -, -, -, -, hsigM⟩ := Cond.codeWith_spec hcode
  cases Option.some.inj (hn8.symm.trans hnamed)
  cases hmethM.symm.trans hmethM'
  obtain ⟨c2, r2, m2, q1, q2, q3, q4, kP, hkP, hkPi⟩ := Cond.selects_spec hsel
  cases hcls.symm.trans q1
  cases (State.methodFound?_of_named hnamed hy).symm.trans q2
  cases hnamed.symm.trans q3
  have hselP : selectMethod e.platform s.vm cellB.cls mk = .method mk := by rw [Launch.admits_selectMethod X.admits]; exact q4
  obtain ⟨vm₁, X₁, hstep₁⟩ := X.invokevirtual hexec hown hlink hnamed hmethM hstM hkP hkPi hy (a := b) (cell := cellB) hcell
    (fun z h => by rw [h] at hobj; cases hobj) hselP hmethM habM hkP hkPi (g := g) hg (argsL := argsL) (rest := rest) (hlen _ hsigM) hstack hdg
  rcases hK m meth c ⟨T.setVm vm₁, locs, cells, slots⟩ { g with stack := rest } (.invokevirtual index) mk (Value.ref b :: argsL).toArray X₁ hg hsize hdg hW (X₁.named hnamed) (hpre vm₁ X₁.warmed) with ⟨v, B, X', hpost, hsteps⟩ | ⟨q, B, X', hpost, hsteps⟩
  · exact Or.inl ⟨v, vm₁, B, X₁.warmed, X', hpost, fun target h => hstep₁ _ fun acts => by rw [doInvoke_state]; exact hsteps.trans h⟩
  · exact Or.inr ⟨q, vm₁, B, X₁.warmed, X', hpost, hstep₁ _ fun acts => by rw [doInvoke_state]; exact hsteps⟩
theorem vx_callSX (X : Stand p l e R s m args below meth c T locs cells slots) (hexec : p.tables.exec = Jvm.exec) {own : String} {index : Nat} {y : MethodName} {bytes : ByteArray} {maxL : Nat} {ret : Option FieldType} {hh : List (Nat × Nat × Nat × Nat)}
    (hown : s.vm.findClass own = some m.cls) (hlink : (Cond.methodLink own index y).before args s = true) (hstat : (Cond.static y).before args s = true) (hinit : (Cond.initialized y.cls).before args s = true)
    (hcode : (Cond.codeWith y bytes maxL ret hh).before args s = true) (hy : y.cls ≠ "java/lang/invoke/MethodHandle" ∧ y.cls ≠ "java/lang/invoke/VarHandle")
    {W9 : Nat} {Pre : Pt → Array Value → Prop} {Post : Pt → Array Value → Option Value → Pt → Prop} {PostX : Pt → Array Value → Addr → Pt → Prop} (hK : vx_Back l R p e below s args y 3 W9 Pre Post PostX)
    {g : JFrame} (hg : g.method = m) (hsize : g.locals.size = c.maxLocals) {argsL rest : List Value} (hlen : ∀ sig, parseMethodDescriptor y.desc = some sig → argsL.length = sig.parameters.length)
    (hstack : g.stack = argsL.reverse ++ rest) (hW : 2 * g.monitorRoom + (rest.map fun v => v.category).sum ≤ W9) (hdg : decode c.code g.pc = .ok (.invokestatic index, 3))
    (hpre : ∀ vm₁, s.WarmedH vm₁ → Pre ⟨T.setVm vm₁, locs, cells, slots⟩ argsL.toArray) :
    (∃ (v : Option Value) (vm₁ : Vm) (B : Pt), s.WarmedH vm₁ ∧ Stand p l e R s m args below meth c B.U B.locs B.cells B.slots ∧ Post ⟨T.setVm vm₁, locs, cells, slots⟩ argsL.toArray v B ∧
      ∀ target, Steps p.tables e below (B.U.setTop { g with pc := g.pc + 3, stack := v.toList ++ rest }) target → Steps p.tables e below (T.setTop g) target) ∨
    (∃ (q : Addr) (vm₁ : Vm) (B : Pt), s.WarmedH vm₁ ∧ Stand p l e R s m args below meth c B.U B.locs B.cells B.slots ∧ PostX ⟨T.setVm vm₁, locs, cells, slots⟩ argsL.toArray q B ∧
      Steps p.tables e below (T.setTop g) ((B.U.setTop { g with stack := rest }).pushFrame (.throwing q))) := by
  obtain ⟨mk, methM, cM, hnamed, hmethM, -, -, -, -, -, -, hsigM⟩ := Cond.codeWith_spec hcode
  have hstatic : methM.isStatic = true := Cond.static_spec hnamed hmethM hstat
  obtain ⟨kP, hkP, -⟩ := className_of_methodNamed hnamed
  have hinitP : kP.init = .initialized := Cond.initialized_spec (findClass_of_methodNamed hnamed) hkP hinit
  obtain ⟨vm₁, X₁, hstep₁⟩ := X.invokestatic hexec hown hlink hnamed hmethM hstatic hkP hinitP hy (g := g) hg (argsL := argsL) (rest := rest) (hlen _ hsigM) hstack hdg
  rcases hK m meth c ⟨T.setVm vm₁, locs, cells, slots⟩ { g with stack := rest } (.invokestatic index) mk argsL.toArray X₁ hg hsize hdg hW (X₁.named hnamed) (hpre vm₁ X₁.warmed) with ⟨v, B, X', hpost, hsteps⟩ | ⟨q, B, X', hpost, hsteps⟩
  · exact Or.inl ⟨v, vm₁, B, X₁.warmed, X', hpost, fun target h => hstep₁ _ fun acts => by rw [doInvoke_state]; exact hsteps.trans h⟩
  · exact Or.inr ⟨q, vm₁, B, X₁.warmed, X', hpost, hstep₁ _ fun acts => by rw [doInvoke_state]; exact hsteps⟩
theorem vx_callVW (X : Stand p l e R s m args below meth c T locs cells slots) (hexec : p.tables.exec = Jvm.exec) {own C : String} {index : Nat} {y : MethodName} {bytes : ByteArray} {maxL : Nat} {ret : Option FieldType} {hh : List (Nat × Nat × Nat × Nat)}
    (hown : s.vm.findClass own = some m.cls) (hlink : (Cond.methodLink own index y).before args s = true) (hinst : (Cond.instanceMethod y).before args s = true) (hsel : (Cond.selects C y y).before args s = true)
    (hcode : (Cond.codeWith y bytes maxL ret hh).before args s = true) (hy : y.cls ≠ "java/lang/invoke/MethodHandle" ∧ y.cls ≠ "java/lang/invoke/VarHandle")
    {W9 : Nat} {Pre : Pt → Array Value → Prop} {Post : Pt → Array Value → Option Value → Pt → Prop} (hK : Back l R p e below s args y 3 W9 Pre Post)
    {b : Addr} {cellB : Cell} (hcell : T.heap[b]? = some cellB) (hobj : cellB.vm.isStatics = false) (hcls : s.vm.findClass C = some cellB.cls)
    {g : JFrame} (hg : g.method = m) (hsize : g.locals.size = c.maxLocals) {argsL rest : List Value} (hlen : ∀ sig, parseMethodDescriptor y.desc = some sig → argsL.length = sig.parameters.length)
    (hstack : g.stack = argsL.reverse ++ .ref b :: rest) (hW : 2 * g.monitorRoom + (rest.map fun v => v.category).sum ≤ W9) (hdg : decode c.code g.pc = .ok (.invokevirtual index, 3))
    (hpre : ∀ vm₁, s.WarmedH vm₁ → Pre ⟨T.setVm vm₁, locs, cells, slots⟩ (Value.ref b :: argsL).toArray) :
    ∃ (v : Option Value) (vm₁ : Vm) (B : Pt), s.WarmedH vm₁ ∧ Stand p l e R s m args below meth c B.U B.locs B.cells B.slots ∧ Post ⟨T.setVm vm₁, locs, cells, slots⟩ (Value.ref b :: argsL).toArray v B ∧
      ∀ target, Steps p.tables e below (B.U.setTop { g with pc := g.pc + 3, stack := v.toList ++ rest }) target → Steps p.tables e below (T.setTop g) target := by
  obtain ⟨mk, methM, hnamed, hmethM, hstM, habM⟩ := Cond.instanceMethod_spec hinst
  obtain ⟨m8, methM', cM, hn8, hmethM', -, -, -, -, -, -, hsigM⟩ := Cond.codeWith_spec hcode
  cases Option.some.inj (hn8.symm.trans hnamed)
  cases hmethM.symm.trans hmethM'
  obtain ⟨c2, r2, m2, q1, q2, q3, q4, kP, hkP, hkPi⟩ := Cond.selects_spec hsel
  cases hcls.symm.trans q1
  cases (State.methodFound?_of_named hnamed hy).symm.trans q2
  cases hnamed.symm.trans q3
  have hselP : selectMethod e.platform s.vm cellB.cls mk = .method mk := by rw [Launch.admits_selectMethod X.admits]; exact q4
  obtain ⟨vm₁, X₁, hstep₁⟩ := X.invokevirtual hexec hown hlink hnamed hmethM hstM hkP hkPi hy (a := b) (cell := cellB) hcell
    (fun z h => by rw [h] at hobj; cases hobj) hselP hmethM habM hkP hkPi (g := g) hg (argsL := argsL) (rest := rest) (hlen _ hsigM) hstack hdg
  obtain ⟨v, B, X', hpost, hsteps⟩ := hK m meth c ⟨T.setVm vm₁, locs, cells, slots⟩ { g with stack := rest } (.invokevirtual index) mk (Value.ref b :: argsL).toArray X₁ hg hsize hdg hW (X₁.named hnamed) (hpre vm₁ X₁.warmed)
  exact ⟨v, vm₁, B, X₁.warmed, X', hpost, fun target h => hstep₁ _ fun acts => by rw [doInvoke_state]; exact hsteps.trans h⟩
abbrev vx_CVW (R : Room) (s : State) (args : Array Value) (own C : String) (index : Nat) (y : MethodName) (bytes : ByteArray) (maxL : Nat) (ret : Option FieldType) (hh : List (Nat × Nat × Nat × Nat)) (ws : List Cond) (rm : Room) (mc ms n : Nat) : Prop :=
  (rm.cells = mc ∧ rm.slots = ms ∧ rm.frames + 1 ≤ R.frames ∧ 8 + (maxL + 11) + rm.locals ≤ R.locals ∧ (∀ w ∈ ws, ∀ (a' : Array Value) (U : State), s.WarmedH U.vm → w.before a' U = true) ∧ Cond.codeWith y bytes maxL ret hh ∈ ws) ∧
  (Cond.codeWith y bytes maxL ret hh).before args s = true ∧ (Cond.initialized y.cls).before args s = true ∧ (y.cls ≠ "java/lang/invoke/MethodHandle" ∧ y.cls ≠ "java/lang/invoke/VarHandle") ∧
  (∀ sig, parseMethodDescriptor y.desc = some sig → n = sig.parameters.length) ∧ (Cond.methodLink own index y).before args s = true ∧ (Cond.instanceMethod y).before args s = true ∧ (Cond.selects C y y).before args s = true
theorem vx_cwVW {own C : String} {index maxL mc ms : Nat} {y : MethodName} {bytes : ByteArray} {ret : Option FieldType} {hh : List (Nat × Nat × Nat × Nat)} {Ts ws ws' : List Cond} {rm : Room} (n : Nat) (ht : ∀ w ∈ Ts, w.before args s = true) (hT : GoodIn Ts (wsV own index C y ws)) (hw : ws = Cond.codeWith y bytes maxL ret hh :: ws') (hrc : rm.cells = mc) (hrs : rm.slots = ms)
    (hd : y.cls = C ∧ y.cls ≠ "java/lang/invoke/MethodHandle" ∧ y.cls ≠ "java/lang/invoke/VarHandle" ∧ (parseMethodDescriptor y.desc).map (fun d => d.parameters.length) = some n) (hR : rm.frames + 1 ≤ R.frames ∧ 8 + (maxL + 11) + rm.locals ≤ R.locals) :
    vx_CVW R s args own C index y bytes maxL ret hh ws rm mc ms n := by
  obtain ⟨hC, hd⟩ := hd
  subst hC
  have ok : ∀ w ∈ wsV own index y.cls y ws, w.before args s = true := fun w h => ht w (hT w h).1
  have hG : GoodIn Ts ws := fun w h => hT w (by unfold wsV; exact List.mem_append_right _ h)
  have hc : Cond.codeWith y bytes maxL ret hh ∈ ws := by rw [hw]; exact List.mem_cons_self
  refine ⟨⟨hrc, hrs, hR.1, hR.2, pay_in ht hG, hc⟩, ht _ (hG _ hc).1, ok _ (by simp [wsV]), ⟨hd.1, hd.2.1⟩, fun sig h => ?_, ok _ (by simp [wsV]), ok _ (by simp [wsV]), ok _ (by simp [wsV])⟩
  have h2 := hd.2.2
  rw [h] at h2
  exact (Option.some.inj h2).symm
theorem vx_runVW {y : MethodName} {bytes cc : ByteArray} {maxL nL mc ms n index : Nat} {ret : Option FieldType} {hh : List (Nat × Nat × Nat × Nat)} {ws : List Cond} {rm : Room} {Pc : Array Value → State → Prop} {Qc : Array Value → State → Outcome → State → Prop} {free : Addr → Prop} {Ts : List Cond} {own C : String} {b : Addr} {As rest : List Value} {g : JFrame}
    (S : CallFix p m c cc nL s args Ts own) (hM : Met l y ws rm Pc Qc mc ms free) (cw : vx_CVW R s args own C index y bytes maxL ret hh ws rm mc ms n) (hp : PreV s H C b Pc As)
    (hg : g.method = m) (hn : As.length = n) (hsize : g.locals.size = nL) (hstack : g.stack = As.reverse ++ .ref b :: rest) (hW : 2 * g.monitorRoom + (rest.map fun v => v.category).sum ≤ 8) (hdg : decode cc g.pc = .ok (.invokevirtual index, 3)) (hf : cells + mc ≤ R.cells ∧ slots + ms ≤ R.slots) :
    va_Run p l e R s m args below meth c H locs cells slots mc ms g rest (Qc (Value.ref b :: As).toArray) free := by
  obtain ⟨⟨hrc, hrs, hfr, hlo, hws, hcw⟩, hcode, hini, hy, hlen, hl, hin, hse⟩ := cw
  have hK : Back l R p e below s args y 3 8 (PreOf R mc ms Pc) (PostOf Qc mc ms free) := va_backW (hh := hh) (bytes := bytes) (maxL := maxL) (ret := ret) hM hp.1 hrc hrs hfr hlo hws hcw (fun a' U hW => word_at hW (Or.inl (by first | rfl | simp [Cond.onTables, Cond.keeps, Cond.steady])) hini)
  obtain ⟨hx, hb, hml, ho, -⟩ := S
  obtain ⟨-, ⟨cellB, hcB, hoB, hclB⟩, hPc⟩ := hp
  intro T hT X
  obtain ⟨v, vm₁, ⟨U', l2, c2, s2⟩, hW₁, X', ⟨g', mk, t, L, e1, e2, hq, h1, hL, h2, h3⟩, st⟩ := vx_callVW X hx (C := C) (hh := hh) (bytes := bytes) (maxL := maxL) (ret := ret) ho hl hin hse hcode hy hK (by rw [hT]; exact hcB) hoB hclB hg (hsize.trans hml.symm) (argsL := As) (rest := rest) (fun sig h => hn.trans (hlen sig h)) hstack hW (by rw [hb]; exact hdg)
    (fun vm₁ hW₁ => ⟨hf.1, hf.2, hPc (T.setVm vm₁) hT hW₁⟩)
  dsimp only [Pt.U, Pt.locs, Pt.cells, Pt.slots] at X' e1 e2 h1 h2 h3 st
  subst h1; subst h2; subst h3
  exact ⟨v, (T.setVm vm₁).calling g' mk (Value.ref b :: As).toArray, t, U', L, hT, X', hL, e1, e2, hq, st⟩
section
variable {y : MethodName} {bytes cc : ByteArray} {maxL nL mc ms n index : Nat} {ret : Option FieldType} {ws : List Cond} {rm : Room} {Pc : Array Value → State → Prop} {Qc : Array Value → State → Outcome → State → Prop} {XC : String → State → State → Prop} {free : Addr → Prop} {Ts : List Cond} {own C : String} {b : Addr} {As rest : List Value} {g : JFrame}
theorem vx_runVX {hh : List (Nat × Nat × Nat × Nat)} (S : CallFix p m c cc nL s args Ts own) (hM : vx_Met l y ws rm Pc Qc XC mc ms free) (cw : vx_CVW R s args own C index y bytes maxL ret hh ws rm mc ms n) (hp : PreV s H C b Pc As)
    (hg : g.method = m) (hn : As.length = n) (hsize : g.locals.size = nL) (hstack : g.stack = As.reverse ++ .ref b :: rest) (hW : 2 * g.monitorRoom + (rest.map fun v => v.category).sum ≤ 8) (hdg : decode cc g.pc = .ok (.invokevirtual index, 3)) (hf : cells + mc ≤ R.cells ∧ slots + ms ≤ R.slots) :
    vx_Run p l e R s m args below meth c H locs cells slots mc ms g rest (Qc (Value.ref b :: As).toArray) XC free := by
  obtain ⟨⟨hrc, hrs, hfr, hlo, hws, hcw⟩, hcode, hini, hy, hlen, hl, hin, hse⟩ := cw
  have hK : vx_Back l R p e below s args y 3 8 (PreOf R mc ms Pc) (PostOf Qc mc ms free) (vx_Post XC mc ms free) := vx_backW (hh := hh) (bytes := bytes) (maxL := maxL) (ret := ret) hM hp.1 hrc hrs hfr hlo hws hcw (fun a' U hW => word_at hW (Or.inl (by first | rfl | simp [Cond.onTables, Cond.keeps, Cond.steady])) hini)
  obtain ⟨hx, hb, hml, ho, -⟩ := S
  obtain ⟨-, ⟨cellB, hcB, hoB, hclB⟩, hPc⟩ := hp
  intro T hT X
  rcases vx_callVX X hx (C := C) (hh := hh) (bytes := bytes) (maxL := maxL) (ret := ret) ho hl hin hse hcode hy hK (by rw [hT]; exact hcB) hoB hclB hg (hsize.trans hml.symm) (argsL := As) (rest := rest) (fun sig h => hn.trans (hlen sig h)) hstack hW (by rw [hb]; exact hdg)
    (fun vm₁ hW₁ => ⟨hf.1, hf.2, hPc (T.setVm vm₁) hT hW₁⟩) with ⟨v, vm₁, ⟨U', l2, c2, s2⟩, hW₁, X', ⟨g', mk, t, L, e1, e2, hq, h1, hL, h2, h3⟩, st⟩ | ⟨q, vm₁, ⟨U', l2, c2, s2⟩, hW₁, X', ⟨g', mk, t, L, E, ce, e1, e2, hq, hce, hcv, hcl, h1, hL, h2, h3⟩, st⟩
  · dsimp only [Pt.U, Pt.locs, Pt.cells, Pt.slots] at X' e1 e2 h1 h2 h3 st
    subst h1; subst h2; subst h3
    exact Or.inl ⟨v, (T.setVm vm₁).calling g' mk (Value.ref b :: As).toArray, t, U', L, hT, X', hL, e1, e2, hq, st⟩
  · dsimp only [Pt.U, Pt.locs, Pt.cells, Pt.slots] at X' e1 e2 h1 h2 h3 st hcl
    subst h1; subst h2; subst h3
    exact Or.inr ⟨q, (T.setVm vm₁).calling g' mk (Value.ref b :: As).toArray, t, U', L, E, ce, hT, X', hL, e1, e2, hq, hce, hcv, vx_cls hW₁ hcl, st⟩
theorem vx_runSX {hh : List (Nat × Nat × Nat × Nat)} (S : CallFix p m c cc nL s args Ts own) (hM : vx_Met l y ws rm Pc Qc XC mc ms free) (cw : vx_CSW R s args own index y bytes maxL ret hh ws rm mc ms n) (hp : PreS s H Pc As)
    (hg : g.method = m) (hn : As.length = n) (hsize : g.locals.size = nL) (hstack : g.stack = As.reverse ++ rest) (hW : 2 * g.monitorRoom + (rest.map fun v => v.category).sum ≤ 8) (hdg : decode cc g.pc = .ok (.invokestatic index, 3)) (hf : cells + mc ≤ R.cells ∧ slots + ms ≤ R.slots) :
    vx_Run p l e R s m args below meth c H locs cells slots mc ms g rest (Qc As.toArray) XC free := by
  obtain ⟨⟨hrc, hrs, hfr, hlo, hws, hcw⟩, hcode, hini, hy, hlen, hl, hstt⟩ := cw
  have hK : vx_Back l R p e below s args y 3 8 (PreOf R mc ms Pc) (PostOf Qc mc ms free) (vx_Post XC mc ms free) := vx_backW (hh := hh) (bytes := bytes) (maxL := maxL) (ret := ret) hM hp.1 hrc hrs hfr hlo hws hcw (fun a' U hW => word_at hW (Or.inl (by first | rfl | simp [Cond.onTables, Cond.keeps, Cond.steady])) hini)
  obtain ⟨hx, hb, hml, ho, -⟩ := S
  intro T hT X
  rcases vx_callSX X hx (hh := hh) (bytes := bytes) (maxL := maxL) (ret := ret) ho hl hstt hini hcode hy hK hg (hsize.trans hml.symm) (argsL := As) (rest := rest) (fun sig h => hn.trans (hlen sig h)) hstack hW (by rw [hb]; exact hdg)
    (fun vm₁ hW₁ => ⟨hf.1, hf.2, hp.2 (T.setVm vm₁) hT hW₁⟩) with ⟨v, vm₁, ⟨U', l2, c2, s2⟩, hW₁, X', ⟨g', mk, t, L, e1, e2, hq, h1, hL, h2, h3⟩, st⟩ | ⟨q, vm₁, ⟨U', l2, c2, s2⟩, hW₁, X', ⟨g', mk, t, L, E, ce, e1, e2, hq, hce, hcv, hcl, h1, hL, h2, h3⟩, st⟩
  · dsimp only [Pt.U, Pt.locs, Pt.cells, Pt.slots] at X' e1 e2 h1 h2 h3 st
    subst h1; subst h2; subst h3
    exact Or.inl ⟨v, (T.setVm vm₁).calling g' mk As.toArray, t, U', L, hT, X', hL, e1, e2, hq, st⟩
  · dsimp only [Pt.U, Pt.locs, Pt.cells, Pt.slots] at X' e1 e2 h1 h2 h3 st hcl
    subst h1; subst h2; subst h3
    exact Or.inr ⟨q, (T.setVm vm₁).calling g' mk As.toArray, t, U', L, E, ce, hT, X', hL, e1, e2, hq, hce, hcv, vx_cls hW₁ hcl, st⟩
end
end VXH
theorem vx_ofWH {l : Launch} {y : MethodName} {ws ws' : List Cond} {rm : Room} {Pc : Array Value → State → Prop} {Qc : Array Value → State → Outcome → State → Prop} {XC : String → State → State → Prop} {mc ms : Nat} {free : Addr → Prop} {cc : ByteArray} {maxL : Nat} {ret : Option FieldType} {hh : List (Nat × Nat × Nat × Nat)}
    (hy : plainName y.cls = true) (hw : ws = Cond.codeWith y cc maxL ret hh :: ws')
    (body : ∀ p e s m args below meth c s₁, BodyLoose p l y (headSpec ws rm) cc maxL ret e s m args below meth c s₁ → c.maxLocals = maxL → Pc args s →
      W p l e (headSpec ws rm).room s m args below meth c s.heap [] 0 0 (vx_MQ below Qc XC args s mc ms free) (entryFrame m args maxL)) : vx_Met l y ws rm Pc Qc XC mc ms free := by
  refine MetFree.of_bodyS (code := cc) (maxLocals := maxL) (ret := ret) hy ?_ ?_
  · intro args s m h hn
    obtain ⟨m9, meth, c, hn9, h1, h2, h3, h4, -, h5, h6, -⟩ := Cond.codeWith_spec (atoms_spec (ws := ws) h _ (by rw [hw]; exact List.mem_cons_self))
    cases hn.symm.trans hn9
    exact ⟨meth, c, h1, h2, h3, h4, h5, h6⟩
  · intro p e s m args below meth c s₁ B hml hP _
    have hh0 : s₁.heap = s.heap := by rw [B.state]; rfl
    obtain ⟨t, a1, o, b1, b2, b3⟩ := body p e s m args below meth c s₁ B hml hP s₁ hh0 (Stand.of_body B)
    exact ⟨t, o, a1, b1, b2, b3⟩
/-! ===== END ===== -/
end
section
/-! ===== BEGIN printed: names, fields, word lists, decode rows ===== -/
def RX0 : String := "WorthCache$Slot"
def TX0 : u_T := fun k => match k with
  | 0 => ("WorthCache$Slot", "thing", "I", true)
  | 1 => ("WorthCache$Slot", "isFilled", "Z", false)
  | 2 => ("WorthCache$Slot", "isPinned", "Z", false)
  | 3 => ("WorthCache$Slot", "size", "I", false)
  | 4 => ("WorthCache$Slot", "frequency", "I", false)
  | 5 => ("WorthCache$Slot", "end", "I", false)
  | 6 => ("WorthCache$Slot", "worth", "J", false)
  | 7 => ("WorthCache$Slot", "lastUse", "J", false)
  | _ => ("WorthCache$Slot", "lastMiss", "I", false)
def tyX0 : Nat → FieldType := fun k => match k with
  | 0 => .int
  | 1 => .boolean
  | 2 => .boolean
  | 3 => .int
  | 4 => .int
  | 5 => .int
  | 6 => .long
  | 7 => .long
  | _ => .int
abbrev wsX00 : List Cond := u_ws RX0 TX0 9
theorem nmX0 : ∀ a, a < 9 → ∀ b, b < 9 → a ≠ b → (TX0 a).2.1 ≠ (TX0 b).2.1 := by decide +kernel
theorem tyX0_ok : ∀ k, k < 9 → parseFieldDescriptor (TX0 k).2.2.1 = some (tyX0 k) := by decide +kernel
abbrev cX0_init : ByteArray := prog_2_method_1_code
def yX0_init : MethodName := ⟨RX0, "<init>", "(I)V"⟩
def RX1 : String := "WorthCache"
def TX1 : u_T := fun k => match k with
  | 0 => ("WorthCache", "slots", "[LWorthCache$Slot;", true)
  | 1 => ("WorthCache", "time", "I", false)
  | 2 => ("WorthCache", "clock", "J", false)
  | 3 => ("WorthCache", "capacity", "I", false)
  | 4 => ("WorthCache", "threshold", "I", false)
  | 5 => ("WorthCache", "uses", "J", false)
  | 6 => ("WorthCache", "hits", "I", false)
  | 7 => ("WorthCache", "misses", "I", false)
  | 8 => ("WorthCache", "bytesHit", "J", false)
  | 9 => ("WorthCache", "saved", "J", false)
  | 10 => ("WorthCache", "paid", "J", false)
  | 11 => ("WorthCache", "left", "I", false)
  | _ => ("WorthCache", "removedOver", "I", false)
def tyX1 : Nat → FieldType := fun k => match k with
  | 0 => .array (.object "WorthCache$Slot")
  | 1 => .int
  | 2 => .long
  | 3 => .int
  | 4 => .int
  | 5 => .long
  | 6 => .int
  | 7 => .int
  | 8 => .long
  | 9 => .long
  | 10 => .long
  | 11 => .int
  | _ => .int
abbrev wsX10 : List Cond := u_ws RX1 TX1 13
theorem nmX1 : ∀ a, a < 13 → ∀ b, b < 13 → a ≠ b → (TX1 a).2.1 ≠ (TX1 b).2.1 := by decide +kernel
theorem tyX1_ok : ∀ k, k < 13 → parseFieldDescriptor (TX1 k).2.2.1 = some (tyX1 k) := by decide +kernel
abbrev cX1_init : ByteArray := prog_1_method_1_code
def yX1_init : MethodName := ⟨RX1, "<init>", "()V"⟩
abbrev cX1_fetch : ByteArray := prog_1_method_2_code
def yX1_fetch : MethodName := ⟨RX1, "fetch", "(IIII)I"⟩
abbrev cX1_pass : ByteArray := prog_1_method_3_code
def yX1_pass : MethodName := ⟨RX1, "pass", "(I)I"⟩
abbrev cX1_pin : ByteArray := prog_1_method_4_code
def yX1_pin : MethodName := ⟨RX1, "pin", "(IZ)Z"⟩
abbrev cX1_drop : ByteArray := prog_1_method_5_code
def yX1_drop : MethodName := ⟨RX1, "drop", "(I)I"⟩
abbrev cX1_purge : ByteArray := prog_1_method_6_code
def yX1_purge : MethodName := ⟨RX1, "purge", "()I"⟩
abbrev cX1_setCapacity : ByteArray := prog_1_method_7_code
def yX1_setCapacity : MethodName := ⟨RX1, "setCapacity", "(I)I"⟩
abbrev cX1_setThreshold : ByteArray := prog_1_method_8_code
def yX1_setThreshold : MethodName := ⟨RX1, "setThreshold", "(I)I"⟩
abbrev cX1_has : ByteArray := prog_1_method_9_code
def yX1_has : MethodName := ⟨RX1, "has", "(I)Z"⟩
abbrev cX1_isOver : ByteArray := prog_1_method_10_code
def yX1_isOver : MethodName := ⟨RX1, "isOver", "(I)Z"⟩
abbrev cX1_sizeOf : ByteArray := prog_1_method_11_code
def yX1_sizeOf : MethodName := ⟨RX1, "sizeOf", "(I)I"⟩
abbrev cX1_frequencyOf : ByteArray := prog_1_method_12_code
def yX1_frequencyOf : MethodName := ⟨RX1, "frequencyOf", "(I)I"⟩
abbrev cX1_worthOf : ByteArray := prog_1_method_13_code
def yX1_worthOf : MethodName := ⟨RX1, "worthOf", "(I)J"⟩
abbrev cX1_endOf : ByteArray := prog_1_method_14_code
def yX1_endOf : MethodName := ⟨RX1, "endOf", "(I)I"⟩
abbrev cX1_leaving : ByteArray := prog_1_method_15_code
def yX1_leaving : MethodName := ⟨RX1, "leaving", "(I)I"⟩
abbrev cX1_placeOf : ByteArray := prog_1_method_16_code
def yX1_placeOf : MethodName := ⟨RX1, "placeOf", "(I)I"⟩
abbrev cX1_endsFirst : ByteArray := prog_1_method_17_code
def yX1_endsFirst : MethodName := ⟨RX1, "endsFirst", "()I"⟩
abbrev cX1_wouldLeave : ByteArray := prog_1_method_18_code
def yX1_wouldLeave : MethodName := ⟨RX1, "wouldLeave", "(I)I"⟩
abbrev cX1_time : ByteArray := prog_1_method_19_code
def yX1_time : MethodName := ⟨RX1, "time", "()I"⟩
abbrev cX1_clock : ByteArray := prog_1_method_20_code
def yX1_clock : MethodName := ⟨RX1, "clock", "()J"⟩
abbrev cX1_capacity : ByteArray := prog_1_method_21_code
def yX1_capacity : MethodName := ⟨RX1, "capacity", "()I"⟩
abbrev cX1_entries : ByteArray := prog_1_method_22_code
def yX1_entries : MethodName := ⟨RX1, "entries", "()I"⟩
abbrev cX1_used : ByteArray := prog_1_method_23_code
def yX1_used : MethodName := ⟨RX1, "used", "()I"⟩
abbrev cX1_hits : ByteArray := prog_1_method_24_code
def yX1_hits : MethodName := ⟨RX1, "hits", "()I"⟩
abbrev cX1_misses : ByteArray := prog_1_method_25_code
def yX1_misses : MethodName := ⟨RX1, "misses", "()I"⟩
abbrev cX1_bytesHit : ByteArray := prog_1_method_26_code
def yX1_bytesHit : MethodName := ⟨RX1, "bytesHit", "()J"⟩
abbrev cX1_saved : ByteArray := prog_1_method_27_code
def yX1_saved : MethodName := ⟨RX1, "saved", "()J"⟩
abbrev cX1_paid : ByteArray := prog_1_method_28_code
def yX1_paid : MethodName := ⟨RX1, "paid", "()J"⟩
abbrev cX1_left : ByteArray := prog_1_method_29_code
def yX1_left : MethodName := ⟨RX1, "left", "()I"⟩
abbrev cX1_removedOver : ByteArray := prog_1_method_30_code
def yX1_removedOver : MethodName := ⟨RX1, "removedOver", "()I"⟩
abbrev cX1_slotOf : ByteArray := prog_1_method_31_code
def yX1_slotOf : MethodName := ⟨RX1, "slotOf", "(I)LWorthCache$Slot;"⟩
abbrev cX1_filledSlotOf : ByteArray := prog_1_method_32_code
def yX1_filledSlotOf : MethodName := ⟨RX1, "filledSlotOf", "(I)LWorthCache$Slot;"⟩
abbrev cX1_requireWithin : ByteArray := prog_1_method_33_code
def yX1_requireWithin : MethodName := ⟨RX1, "requireWithin", "(III)V"⟩
abbrev cX1_hit : ByteArray := prog_1_method_34_code
def yX1_hit : MethodName := ⟨RX1, "hit", "(LWorthCache$Slot;I)V"⟩
abbrev cX1_countMiss : ByteArray := prog_1_method_35_code
def yX1_countMiss : MethodName := ⟨RX1, "countMiss", "(I)V"⟩
abbrev cX1_letInIfPossible : ByteArray := prog_1_method_36_code
def yX1_letInIfPossible : MethodName := ⟨RX1, "letInIfPossible", "(LWorthCache$Slot;III)Z"⟩
abbrev cX1_wasMissedLately : ByteArray := prog_1_method_37_code
def yX1_wasMissedLately : MethodName := ⟨RX1, "wasMissedLately", "(LWorthCache$Slot;)Z"⟩
abbrev cX1_removeOwn : ByteArray := prog_1_method_38_code
def yX1_removeOwn : MethodName := ⟨RX1, "removeOwn", "(LWorthCache$Slot;)V"⟩
abbrev cX1_makeRoom : ByteArray := prog_1_method_39_code
def yX1_makeRoom : MethodName := ⟨RX1, "makeRoom", "(I)Z"⟩
abbrev cX1_fill : ByteArray := prog_1_method_40_code
def yX1_fill : MethodName := ⟨RX1, "fill", "(LWorthCache$Slot;III)V"⟩
abbrev cX1_setWorth : ByteArray := prog_1_method_41_code
def yX1_setWorth : MethodName := ⟨RX1, "setWorth", "(LWorthCache$Slot;I)V"⟩
abbrev cX1_hasRoom : ByteArray := prog_1_method_42_code
def yX1_hasRoom : MethodName := ⟨RX1, "hasRoom", "(I)Z"⟩
abbrev cX1_hasEnded : ByteArray := prog_1_method_43_code
def yX1_hasEnded : MethodName := ⟨RX1, "hasEnded", "(LWorthCache$Slot;)Z"⟩
abbrev cX1_removeAllOver : ByteArray := prog_1_method_44_code
def yX1_removeAllOver : MethodName := ⟨RX1, "removeAllOver", "()I"⟩
abbrev cX1_bytesThatCannotLeave : ByteArray := prog_1_method_45_code
def yX1_bytesThatCannotLeave : MethodName := ⟨RX1, "bytesThatCannotLeave", "()I"⟩
abbrev cX1_leaveDownTo : ByteArray := prog_1_method_46_code
def yX1_leaveDownTo : MethodName := ⟨RX1, "leaveDownTo", "(I)I"⟩
abbrev cX1_countThatWouldLeave : ByteArray := prog_1_method_47_code
def yX1_countThatWouldLeave : MethodName := ⟨RX1, "countThatWouldLeave", "(I)I"⟩
abbrev cX1_bytesNotOver : ByteArray := prog_1_method_48_code
def yX1_bytesNotOver : MethodName := ⟨RX1, "bytesNotOver", "()I"⟩
abbrev cX1_isInOrder : ByteArray := prog_1_method_49_code
def yX1_isInOrder : MethodName := ⟨RX1, "isInOrder", "(LWorthCache$Slot;)Z"⟩
abbrev cX1_leavesBefore : ByteArray := prog_1_method_50_code
def yX1_leavesBefore : MethodName := ⟨RX1, "leavesBefore", "(LWorthCache$Slot;LWorthCache$Slot;)Z"⟩
abbrev cX1_firstInOrder : ByteArray := prog_1_method_51_code
def yX1_firstInOrder : MethodName := ⟨RX1, "firstInOrder", "()LWorthCache$Slot;"⟩
abbrev cX1_nextInOrder : ByteArray := prog_1_method_52_code
def yX1_nextInOrder : MethodName := ⟨RX1, "nextInOrder", "(LWorthCache$Slot;)LWorthCache$Slot;"⟩
def RX2 : String := "WorthCacheModel"
def TX2 : u_T := fun k => match k with
  | 0 => ("WorthCacheModel", "capacity", "I", false)
  | 1 => ("WorthCacheModel", "threshold", "I", false)
  | 2 => ("WorthCacheModel", "now", "I", false)
  | 3 => ("WorthCacheModel", "clockNow", "J", false)
  | 4 => ("WorthCacheModel", "stamp", "J", false)
  | 5 => ("WorthCacheModel", "isIn", "[Z", true)
  | 6 => ("WorthCacheModel", "isPinned", "[Z", true)
  | 7 => ("WorthCacheModel", "sizes", "[I", true)
  | 8 => ("WorthCacheModel", "prices", "[I", true)
  | 9 => ("WorthCacheModel", "frequencies", "[I", true)
  | 10 => ("WorthCacheModel", "worths", "[J", true)
  | 11 => ("WorthCacheModel", "ends", "[I", true)
  | 12 => ("WorthCacheModel", "stamps", "[J", true)
  | 13 => ("WorthCacheModel", "missed", "[I", true)
  | 14 => ("WorthCacheModel", "hitMany", "I", false)
  | 15 => ("WorthCacheModel", "missMany", "I", false)
  | 16 => ("WorthCacheModel", "hitBytes", "J", false)
  | 17 => ("WorthCacheModel", "hitPrices", "J", false)
  | 18 => ("WorthCacheModel", "missPrices", "J", false)
  | 19 => ("WorthCacheModel", "leftMany", "I", false)
  | 20 => ("WorthCacheModel", "overMany", "I", false)
  | _ => ("WorthCacheModel", "thrown", "I", false)
def tyX2 : Nat → FieldType := fun k => match k with
  | 0 => .int
  | 1 => .int
  | 2 => .int
  | 3 => .long
  | 4 => .long
  | 5 => .array .boolean
  | 6 => .array .boolean
  | 7 => .array .int
  | 8 => .array .int
  | 9 => .array .int
  | 10 => .array .long
  | 11 => .array .int
  | 12 => .array .long
  | 13 => .array .int
  | 14 => .int
  | 15 => .int
  | 16 => .long
  | 17 => .long
  | 18 => .long
  | 19 => .int
  | 20 => .int
  | _ => .int
abbrev wsX20 : List Cond := u_ws RX2 TX2 22
theorem nmX2 : ∀ a, a < 22 → ∀ b, b < 22 → a ≠ b → (TX2 a).2.1 ≠ (TX2 b).2.1 := by decide +kernel
theorem tyX2_ok : ∀ k, k < 22 → parseFieldDescriptor (TX2 k).2.2.1 = some (tyX2 k) := by decide +kernel
abbrev cX2_init : ByteArray := prog_4_method_1_code
def yX2_init : MethodName := ⟨RX2, "<init>", "()V"⟩
abbrev cX2_thrown : ByteArray := prog_4_method_2_code
def yX2_thrown : MethodName := ⟨RX2, "thrown", "()I"⟩
abbrev cX2_in : ByteArray := prog_4_method_3_code
def yX2_in : MethodName := ⟨RX2, "in", "(III)Z"⟩
abbrev cX2_isThing : ByteArray := prog_4_method_4_code
def yX2_isThing : MethodName := ⟨RX2, "isThing", "(I)Z"⟩
abbrev cX2_over : ByteArray := prog_4_method_5_code
def yX2_over : MethodName := ⟨RX2, "over", "(I)Z"⟩
abbrev cX2_usedBytes : ByteArray := prog_4_method_6_code
def yX2_usedBytes : MethodName := ⟨RX2, "usedBytes", "()I"⟩
abbrev cX2_isAhead : ByteArray := prog_4_method_7_code
def yX2_isAhead : MethodName := ⟨RX2, "isAhead", "(II)Z"⟩
abbrev cX2_place : ByteArray := prog_4_method_8_code
def yX2_place : MethodName := ⟨RX2, "place", "(I)I"⟩
abbrev cX2_at : ByteArray := prog_4_method_9_code
def yX2_at : MethodName := ⟨RX2, "at", "(I)I"⟩
abbrev cX2_firstLeaves : ByteArray := prog_4_method_10_code
def yX2_firstLeaves : MethodName := ⟨RX2, "firstLeaves", "()V"⟩
abbrev cX2_removeOver : ByteArray := prog_4_method_11_code
def yX2_removeOver : MethodName := ⟨RX2, "removeOver", "()I"⟩
abbrev cX2_setWorth : ByteArray := prog_4_method_12_code
def yX2_setWorth : MethodName := ⟨RX2, "setWorth", "(I)V"⟩
abbrev cX2_pinnedBytes : ByteArray := prog_4_method_13_code
def yX2_pinnedBytes : MethodName := ⟨RX2, "pinnedBytes", "(Z)I"⟩
abbrev cX2_makesRoom : ByteArray := prog_4_method_14_code
def yX2_makesRoom : MethodName := ⟨RX2, "makesRoom", "(I)Z"⟩
abbrev cX2_fetch : ByteArray := prog_4_method_15_code
def yX2_fetch : MethodName := ⟨RX2, "fetch", "(IIII)I"⟩
abbrev cX2_pass : ByteArray := prog_4_method_16_code
def yX2_pass : MethodName := ⟨RX2, "pass", "(I)I"⟩
abbrev cX2_hasEntry : ByteArray := prog_4_method_17_code
def yX2_hasEntry : MethodName := ⟨RX2, "hasEntry", "(I)Z"⟩
abbrev cX2_pin : ByteArray := prog_4_method_18_code
def yX2_pin : MethodName := ⟨RX2, "pin", "(IZ)Z"⟩
abbrev cX2_drop : ByteArray := prog_4_method_19_code
def yX2_drop : MethodName := ⟨RX2, "drop", "(I)I"⟩
abbrev cX2_purge : ByteArray := prog_4_method_20_code
def yX2_purge : MethodName := ⟨RX2, "purge", "()I"⟩
abbrev cX2_setCapacity : ByteArray := prog_4_method_21_code
def yX2_setCapacity : MethodName := ⟨RX2, "setCapacity", "(I)I"⟩
abbrev cX2_setThreshold : ByteArray := prog_4_method_22_code
def yX2_setThreshold : MethodName := ⟨RX2, "setThreshold", "(I)I"⟩
abbrev cX2_has : ByteArray := prog_4_method_23_code
def yX2_has : MethodName := ⟨RX2, "has", "(I)Z"⟩
abbrev cX2_isOver : ByteArray := prog_4_method_24_code
def yX2_isOver : MethodName := ⟨RX2, "isOver", "(I)Z"⟩
abbrev cX2_sizeOf : ByteArray := prog_4_method_25_code
def yX2_sizeOf : MethodName := ⟨RX2, "sizeOf", "(I)I"⟩
abbrev cX2_frequencyOf : ByteArray := prog_4_method_26_code
def yX2_frequencyOf : MethodName := ⟨RX2, "frequencyOf", "(I)I"⟩
abbrev cX2_worthOf : ByteArray := prog_4_method_27_code
def yX2_worthOf : MethodName := ⟨RX2, "worthOf", "(I)J"⟩
abbrev cX2_endOf : ByteArray := prog_4_method_28_code
def yX2_endOf : MethodName := ⟨RX2, "endOf", "(I)I"⟩
abbrev cX2_leaving : ByteArray := prog_4_method_29_code
def yX2_leaving : MethodName := ⟨RX2, "leaving", "(I)I"⟩
abbrev cX2_placeOf : ByteArray := prog_4_method_30_code
def yX2_placeOf : MethodName := ⟨RX2, "placeOf", "(I)I"⟩
abbrev cX2_endsFirst : ByteArray := prog_4_method_31_code
def yX2_endsFirst : MethodName := ⟨RX2, "endsFirst", "()I"⟩
abbrev cX2_wouldLeave : ByteArray := prog_4_method_32_code
def yX2_wouldLeave : MethodName := ⟨RX2, "wouldLeave", "(I)I"⟩
abbrev cX2_time : ByteArray := prog_4_method_33_code
def yX2_time : MethodName := ⟨RX2, "time", "()I"⟩
abbrev cX2_clock : ByteArray := prog_4_method_34_code
def yX2_clock : MethodName := ⟨RX2, "clock", "()J"⟩
abbrev cX2_capacity : ByteArray := prog_4_method_35_code
def yX2_capacity : MethodName := ⟨RX2, "capacity", "()I"⟩
abbrev cX2_entries : ByteArray := prog_4_method_36_code
def yX2_entries : MethodName := ⟨RX2, "entries", "()I"⟩
abbrev cX2_used : ByteArray := prog_4_method_37_code
def yX2_used : MethodName := ⟨RX2, "used", "()I"⟩
abbrev cX2_hits : ByteArray := prog_4_method_38_code
def yX2_hits : MethodName := ⟨RX2, "hits", "()I"⟩
abbrev cX2_misses : ByteArray := prog_4_method_39_code
def yX2_misses : MethodName := ⟨RX2, "misses", "()I"⟩
abbrev cX2_bytesHit : ByteArray := prog_4_method_40_code
def yX2_bytesHit : MethodName := ⟨RX2, "bytesHit", "()J"⟩
abbrev cX2_saved : ByteArray := prog_4_method_41_code
def yX2_saved : MethodName := ⟨RX2, "saved", "()J"⟩
abbrev cX2_paid : ByteArray := prog_4_method_42_code
def yX2_paid : MethodName := ⟨RX2, "paid", "()J"⟩
abbrev cX2_left : ByteArray := prog_4_method_43_code
def yX2_left : MethodName := ⟨RX2, "left", "()I"⟩
abbrev cX2_removedOver : ByteArray := prog_4_method_44_code
def yX2_removedOver : MethodName := ⟨RX2, "removedOver", "()I"⟩
def RJ9 : String := "java/lang/Math"
def TJ9 : u_T := fun k => match k with
  | _ => ("", "", "", false)
def tyJ9 : Nat → FieldType := fun k => match k with
  | _ => .int
abbrev wsJ90 : List Cond := u_ws RJ9 TJ9 0
theorem nmJ9 : ∀ a, a < 0 → ∀ b, b < 0 → a ≠ b → (TJ9 a).2.1 ≠ (TJ9 b).2.1 := by decide +kernel
theorem tyJ9_ok : ∀ k, k < 0 → parseFieldDescriptor (TJ9 k).2.2.1 = some (tyJ9 k) := by decide +kernel
abbrev cJ9_max_f86c9 : ByteArray := prog_9_method_66_code
def yJ9_max_f86c9 : MethodName := ⟨RJ9, "max", "(JJ)J"⟩
def RJ0 : String := "java/lang/String"
def TJ0 : u_T := fun k => match k with
  | _ => ("", "", "", false)
def tyJ0 : Nat → FieldType := fun k => match k with
  | _ => .int
abbrev wsJ00 : List Cond := u_ws RJ0 TJ0 0
theorem nmJ0 : ∀ a, a < 0 → ∀ b, b < 0 → a ≠ b → (TJ0 a).2.1 ≠ (TJ0 b).2.1 := by decide +kernel
theorem tyJ0_ok : ∀ k, k < 0 → parseFieldDescriptor (TJ0 k).2.2.1 = some (tyJ0 k) := by decide +kernel
def RL : String := "WorthCacheLaw"
abbrev cL_fetch : ByteArray := method_3_code
def yL_fetch : MethodName := ⟨RL, "fetch", "(LWorthCache;IIII[J)I"⟩
abbrev cL_pass : ByteArray := method_4_code
def yL_pass : MethodName := ⟨RL, "pass", "(LWorthCache;I[J)I"⟩
abbrev cL_pin : ByteArray := method_5_code
def yL_pin : MethodName := ⟨RL, "pin", "(LWorthCache;IZ[J)I"⟩
abbrev cL_drop : ByteArray := method_6_code
def yL_drop : MethodName := ⟨RL, "drop", "(LWorthCache;I[J)I"⟩
abbrev cL_setCapacity : ByteArray := method_7_code
def yL_setCapacity : MethodName := ⟨RL, "setCapacity", "(LWorthCache;I[J)I"⟩
abbrev cL_setThreshold : ByteArray := method_8_code
def yL_setThreshold : MethodName := ⟨RL, "setThreshold", "(LWorthCache;I[J)I"⟩
abbrev cL_has : ByteArray := method_9_code
def yL_has : MethodName := ⟨RL, "has", "(LWorthCache;I[J)I"⟩
abbrev cL_isOver : ByteArray := method_10_code
def yL_isOver : MethodName := ⟨RL, "isOver", "(LWorthCache;I[J)I"⟩
abbrev cL_sizeOf : ByteArray := method_11_code
def yL_sizeOf : MethodName := ⟨RL, "sizeOf", "(LWorthCache;I[J)I"⟩
abbrev cL_frequencyOf : ByteArray := method_12_code
def yL_frequencyOf : MethodName := ⟨RL, "frequencyOf", "(LWorthCache;I[J)I"⟩
abbrev cL_worthOf : ByteArray := method_13_code
def yL_worthOf : MethodName := ⟨RL, "worthOf", "(LWorthCache;I[J)I"⟩
abbrev cL_endOf : ByteArray := method_14_code
def yL_endOf : MethodName := ⟨RL, "endOf", "(LWorthCache;I[J)I"⟩
abbrev cL_leaving : ByteArray := method_15_code
def yL_leaving : MethodName := ⟨RL, "leaving", "(LWorthCache;I[J)I"⟩
abbrev cL_placeOf : ByteArray := method_16_code
def yL_placeOf : MethodName := ⟨RL, "placeOf", "(LWorthCache;I[J)I"⟩
abbrev cL_wouldLeave : ByteArray := method_17_code
def yL_wouldLeave : MethodName := ⟨RL, "wouldLeave", "(LWorthCache;I[J)I"⟩
abbrev cL_law : ByteArray := code
def yL_law : MethodName := ⟨RL, "law", "([I)Z"⟩
def wsX0_init : List Cond := .code yX0_init cX0_init 2 none :: ([.methodLink RX0 3 objectInit, .instanceMethod objectInit, .code objectInit ⟨#[0xb1]⟩ 1 none, .fieldLink RX0 9 "WorthCache$Slot" "lastMiss" "I", .fieldLink RX0 15 "WorthCache$Slot" "thing" "I"] ++ wsX00)
def wsX1_init : List Cond := .code yX1_init cX1_init 2 none :: ([.methodLink RX1 1 objectInit, .instanceMethod objectInit, .code objectInit ⟨#[0xb1]⟩ 1 none, .classLink RX1 9 RX0, .fieldLink RX1 11 "WorthCache" "slots" "[LWorthCache$Slot;", .fieldLink RX1 15 "WorthCache" "capacity" "I", .fieldLink RX1 19 "WorthCache" "threshold" "I", .instantiable RX0 9, .initialized RX0, .instanceMethod yX0_init, .code yX0_init cX0_init 2 none, .methodLink RX0 3 objectInit, .fieldLink RX0 9 "WorthCache$Slot" "lastMiss" "I", .fieldLink RX0 15 "WorthCache$Slot" "thing" "I"] ++ wsX10 ++ wsX00)
def wsX1_slotOf : List Cond := .code yX1_slotOf cX1_slotOf 2 (some (.object "WorthCache$Slot")) :: ([.classLink RX1 105 "java/lang/IndexOutOfBoundsException", .initialized "java/lang/IndexOutOfBoundsException", .fieldLink RX1 11 "WorthCache" "slots" "[LWorthCache$Slot;"] ++ wsX10 ++ (vx_atS RX1 109 "java/lang/IndexOutOfBoundsException" ["java/lang/RuntimeException", "java/lang/Exception"]).filter goodWord)
def wsX1_requireWithin : List Cond := .code yX1_requireWithin cX1_requireWithin 3 none :: ([.classLink RX1 151 "java/lang/IllegalArgumentException", .initialized "java/lang/IllegalArgumentException"] ++ (vx_atS RX1 155 "java/lang/IllegalArgumentException" ["java/lang/RuntimeException", "java/lang/Exception"]).filter goodWord)
def wsX1_hasEnded : List Cond := .code yX1_hasEnded cX1_hasEnded 2 (some .boolean) :: ([.fieldLink RX1 55 "WorthCache" "time" "I"] ++ wsX10 ++ wsX00)
def wsX1_setWorth : List Cond := .code yX1_setWorth cX1_setWorth 3 none :: ([.fieldLink RX1 180 "WorthCache" "uses" "J", .fieldLink RX1 123 "WorthCache" "clock" "J", .constantLong RX1 186 (1000)] ++ wsX10 ++ wsX00)
def wsX1_hit : List Cond := .code yX1_hit cX1_hit 3 none :: ([.fieldLink RX1 126 "WorthCache" "hits" "I", .fieldLink RX1 132 "WorthCache" "bytesHit" "J", .fieldLink RX1 135 "WorthCache" "saved" "J", .methodLink RX1 156 yX1_setWorth, .instanceMethod yX1_setWorth, .selects RX1 yX1_setWorth yX1_setWorth, .initialized RX1, .code yX1_setWorth cX1_setWorth 3 none, .fieldLink RX1 180 "WorthCache" "uses" "J", .fieldLink RX1 123 "WorthCache" "clock" "J", .constantLong RX1 186 (1000)] ++ wsX00 ++ wsX10)
def wsX1_countMiss : List Cond := .code yX1_countMiss cX1_countMiss 2 none :: ([.fieldLink RX1 129 "WorthCache" "misses" "I", .fieldLink RX1 138 "WorthCache" "paid" "J"] ++ wsX10)
def wsX1_wasMissedLately : List Cond := .code yX1_wasMissedLately cX1_wasMissedLately 2 (some .boolean) :: ([.fieldLink RX1 55 "WorthCache" "time" "I"] ++ wsX00 ++ wsX10)
def wsX1_removeOwn : List Cond := .code yX1_removeOwn cX1_removeOwn 2 none :: ([.fieldLink RX1 144 "WorthCache" "removedOver" "I", .methodLink RX1 37 yX1_hasEnded, .instanceMethod yX1_hasEnded, .selects RX1 yX1_hasEnded yX1_hasEnded, .initialized RX1, .code yX1_hasEnded cX1_hasEnded 2 (some .boolean), .fieldLink RX1 55 "WorthCache" "time" "I"] ++ wsX00 ++ wsX10)
def wsX1_used : List Cond := .code yX1_used cX1_used 6 (some .int) :: ([.fieldLink RX1 11 "WorthCache" "slots" "[LWorthCache$Slot;"] ++ wsX10 ++ wsX00)
def wsX1_hasRoom : List Cond := .code yX1_hasRoom cX1_hasRoom 2 (some .boolean) :: ([.fieldLink RX1 15 "WorthCache" "capacity" "I", .methodLink RX1 78 yX1_used, .instanceMethod yX1_used, .selects RX1 yX1_used yX1_used, .initialized RX1, .code yX1_used cX1_used 6 (some .int), .fieldLink RX1 11 "WorthCache" "slots" "[LWorthCache$Slot;"] ++ wsX10 ++ wsX00)
def wsX1_removeAllOver : List Cond := .code yX1_removeAllOver cX1_removeAllOver 6 (some .int) :: ([.fieldLink RX1 11 "WorthCache" "slots" "[LWorthCache$Slot;", .fieldLink RX1 144 "WorthCache" "removedOver" "I", .methodLink RX1 37 yX1_hasEnded, .instanceMethod yX1_hasEnded, .selects RX1 yX1_hasEnded yX1_hasEnded, .initialized RX1, .code yX1_hasEnded cX1_hasEnded 2 (some .boolean), .fieldLink RX1 55 "WorthCache" "time" "I"] ++ wsX10 ++ wsX00)
def wsX1_bytesThatCannotLeave : List Cond := .code yX1_bytesThatCannotLeave cX1_bytesThatCannotLeave 6 (some .int) :: ([.fieldLink RX1 11 "WorthCache" "slots" "[LWorthCache$Slot;", .methodLink RX1 37 yX1_hasEnded, .instanceMethod yX1_hasEnded, .selects RX1 yX1_hasEnded yX1_hasEnded, .initialized RX1, .code yX1_hasEnded cX1_hasEnded 2 (some .boolean), .fieldLink RX1 55 "WorthCache" "time" "I"] ++ wsX10 ++ wsX00)
def wsX1_leavesBefore : List Cond := .code yX1_leavesBefore cX1_leavesBefore 2 (some .boolean) :: ([] ++ wsX00)
def wsX1_isInOrder : List Cond := .code yX1_isInOrder cX1_isInOrder 1 (some .boolean) :: ([] ++ wsX00)
def wsX1_nextInOrder : List Cond := .code yX1_nextInOrder cX1_nextInOrder 8 (some (.object "WorthCache$Slot")) :: ([.fieldLink RX1 11 "WorthCache" "slots" "[LWorthCache$Slot;", .methodLink RX1 116 yX1_leavesBefore, .static yX1_leavesBefore, .initialized RX1, .code yX1_leavesBefore cX1_leavesBefore 2 (some .boolean), .methodLink RX1 113 yX1_isInOrder, .static yX1_isInOrder, .code yX1_isInOrder cX1_isInOrder 1 (some .boolean)] ++ wsX10 ++ wsX00)
def wsX1_firstInOrder : List Cond := .code yX1_firstInOrder cX1_firstInOrder 1 (some (.object "WorthCache$Slot")) :: ([.methodLink RX1 101 yX1_nextInOrder, .instanceMethod yX1_nextInOrder, .selects RX1 yX1_nextInOrder yX1_nextInOrder, .initialized RX1, .code yX1_nextInOrder cX1_nextInOrder 8 (some (.object "WorthCache$Slot")), .fieldLink RX1 11 "WorthCache" "slots" "[LWorthCache$Slot;", .methodLink RX1 116 yX1_leavesBefore, .static yX1_leavesBefore, .code yX1_leavesBefore cX1_leavesBefore 2 (some .boolean), .methodLink RX1 113 yX1_isInOrder, .static yX1_isInOrder, .code yX1_isInOrder cX1_isInOrder 1 (some .boolean)] ++ wsX10 ++ wsX00)
def wsX1_leaveDownTo_r1 : List Cond := [Cond.fieldLink RX1 123 "WorthCache" "clock" "J", Cond.methodLink RX1 188 Lib.MathLoose.max_long.x, Cond.static Lib.MathLoose.max_long.x, Cond.initialized "java/lang/Math", Cond.code Lib.MathLoose.max_long.x Lib.MathLoose.max_long.code 4 (some .long), Cond.fieldLink RX1 141 "WorthCache" "left" "I", Cond.methodLink RX1 97 yX1_firstInOrder, Cond.instanceMethod yX1_firstInOrder, Cond.selects RX1 yX1_firstInOrder yX1_firstInOrder, Cond.initialized RX1, Cond.code yX1_firstInOrder cX1_firstInOrder 1 (some (.object "WorthCache$Slot")), Cond.methodLink RX1 101 yX1_nextInOrder, Cond.instanceMethod yX1_nextInOrder, Cond.selects RX1 yX1_nextInOrder yX1_nextInOrder, Cond.code yX1_nextInOrder cX1_nextInOrder 8 (some (.object "WorthCache$Slot")), Cond.fieldLink RX1 11 "WorthCache" "slots" "[LWorthCache$Slot;", Cond.methodLink RX1 116 yX1_leavesBefore, Cond.static yX1_leavesBefore, Cond.code yX1_leavesBefore cX1_leavesBefore 2 (some .boolean), Cond.methodLink RX1 113 yX1_isInOrder, Cond.static yX1_isInOrder, Cond.code yX1_isInOrder cX1_isInOrder 1 (some .boolean), Cond.methodLink RX1 78 yX1_used, Cond.instanceMethod yX1_used]
def wsX1_leaveDownTo_r2 : List Cond := [Cond.selects RX1 yX1_used yX1_used, Cond.code yX1_used cX1_used 6 (some .int)]
def wsX1_leaveDownTo : List Cond := .code yX1_leaveDownTo cX1_leaveDownTo 4 (some .int) :: ((wsX1_leaveDownTo_r1 ++ wsX1_leaveDownTo_r2) ++ wsX00 ++ wsX10)
def wsX1_makeRoom_r1 : List Cond := [Cond.fieldLink RX1 15 "WorthCache" "capacity" "I", Cond.methodLink RX1 177 yX1_hasRoom, Cond.instanceMethod yX1_hasRoom, Cond.selects RX1 yX1_hasRoom yX1_hasRoom, Cond.initialized RX1, Cond.code yX1_hasRoom cX1_hasRoom 2 (some .boolean), Cond.methodLink RX1 78 yX1_used, Cond.instanceMethod yX1_used, Cond.selects RX1 yX1_used yX1_used, Cond.code yX1_used cX1_used 6 (some .int), Cond.fieldLink RX1 11 "WorthCache" "slots" "[LWorthCache$Slot;", Cond.methodLink RX1 64 yX1_removeAllOver, Cond.instanceMethod yX1_removeAllOver, Cond.selects RX1 yX1_removeAllOver yX1_removeAllOver, Cond.code yX1_removeAllOver cX1_removeAllOver 6 (some .int), Cond.fieldLink RX1 144 "WorthCache" "removedOver" "I", Cond.methodLink RX1 37 yX1_hasEnded, Cond.instanceMethod yX1_hasEnded, Cond.selects RX1 yX1_hasEnded yX1_hasEnded, Cond.code yX1_hasEnded cX1_hasEnded 2 (some .boolean), Cond.fieldLink RX1 55 "WorthCache" "time" "I", Cond.methodLink RX1 68 yX1_bytesThatCannotLeave, Cond.instanceMethod yX1_bytesThatCannotLeave, Cond.selects RX1 yX1_bytesThatCannotLeave yX1_bytesThatCannotLeave]
def wsX1_makeRoom_r2 : List Cond := [Cond.code yX1_bytesThatCannotLeave cX1_bytesThatCannotLeave 6 (some .int), Cond.methodLink RX1 81 yX1_leaveDownTo, Cond.instanceMethod yX1_leaveDownTo, Cond.selects RX1 yX1_leaveDownTo yX1_leaveDownTo, Cond.code yX1_leaveDownTo cX1_leaveDownTo 4 (some .int), Cond.fieldLink RX1 123 "WorthCache" "clock" "J", Cond.methodLink RX1 188 Lib.MathLoose.max_long.x, Cond.static Lib.MathLoose.max_long.x, Cond.initialized "java/lang/Math", Cond.code Lib.MathLoose.max_long.x Lib.MathLoose.max_long.code 4 (some .long), Cond.fieldLink RX1 141 "WorthCache" "left" "I", Cond.methodLink RX1 97 yX1_firstInOrder, Cond.instanceMethod yX1_firstInOrder, Cond.selects RX1 yX1_firstInOrder yX1_firstInOrder, Cond.code yX1_firstInOrder cX1_firstInOrder 1 (some (.object "WorthCache$Slot")), Cond.methodLink RX1 101 yX1_nextInOrder, Cond.instanceMethod yX1_nextInOrder, Cond.selects RX1 yX1_nextInOrder yX1_nextInOrder, Cond.code yX1_nextInOrder cX1_nextInOrder 8 (some (.object "WorthCache$Slot")), Cond.methodLink RX1 116 yX1_leavesBefore, Cond.static yX1_leavesBefore, Cond.code yX1_leavesBefore cX1_leavesBefore 2 (some .boolean), Cond.methodLink RX1 113 yX1_isInOrder, Cond.static yX1_isInOrder]
def wsX1_makeRoom_r3 : List Cond := [Cond.code yX1_isInOrder cX1_isInOrder 1 (some .boolean)]
def wsX1_makeRoom : List Cond := .code yX1_makeRoom cX1_makeRoom 2 (some .boolean) :: ((wsX1_makeRoom_r1 ++ (wsX1_makeRoom_r2 ++ wsX1_makeRoom_r3)) ++ wsX10 ++ wsX00)
def wsX1_fill : List Cond := .code yX1_fill cX1_fill 5 none :: ([.fieldLink RX1 55 "WorthCache" "time" "I", .methodLink RX1 156 yX1_setWorth, .instanceMethod yX1_setWorth, .selects RX1 yX1_setWorth yX1_setWorth, .initialized RX1, .code yX1_setWorth cX1_setWorth 3 none, .fieldLink RX1 180 "WorthCache" "uses" "J", .fieldLink RX1 123 "WorthCache" "clock" "J", .constantLong RX1 186 (1000)] ++ wsX00 ++ wsX10)
def wsX1_letInIfPossible_r1 : List Cond := [Cond.fieldLink RX1 55 "WorthCache" "time" "I", Cond.fieldLink RX1 15 "WorthCache" "capacity" "I", Cond.fieldLink RX1 19 "WorthCache" "threshold" "I", Cond.methodLink RX1 159 yX1_wasMissedLately, Cond.instanceMethod yX1_wasMissedLately, Cond.selects RX1 yX1_wasMissedLately yX1_wasMissedLately, Cond.initialized RX1, Cond.code yX1_wasMissedLately cX1_wasMissedLately 2 (some .boolean), Cond.methodLink RX1 165 yX1_removeOwn, Cond.instanceMethod yX1_removeOwn, Cond.selects RX1 yX1_removeOwn yX1_removeOwn, Cond.code yX1_removeOwn cX1_removeOwn 2 none, Cond.fieldLink RX1 144 "WorthCache" "removedOver" "I", Cond.methodLink RX1 37 yX1_hasEnded, Cond.instanceMethod yX1_hasEnded, Cond.selects RX1 yX1_hasEnded yX1_hasEnded, Cond.code yX1_hasEnded cX1_hasEnded 2 (some .boolean), Cond.methodLink RX1 169 yX1_makeRoom, Cond.instanceMethod yX1_makeRoom, Cond.selects RX1 yX1_makeRoom yX1_makeRoom, Cond.code yX1_makeRoom cX1_makeRoom 2 (some .boolean), Cond.methodLink RX1 177 yX1_hasRoom, Cond.instanceMethod yX1_hasRoom, Cond.selects RX1 yX1_hasRoom yX1_hasRoom]
def wsX1_letInIfPossible_r2 : List Cond := [Cond.code yX1_hasRoom cX1_hasRoom 2 (some .boolean), Cond.methodLink RX1 78 yX1_used, Cond.instanceMethod yX1_used, Cond.selects RX1 yX1_used yX1_used, Cond.code yX1_used cX1_used 6 (some .int), Cond.fieldLink RX1 11 "WorthCache" "slots" "[LWorthCache$Slot;", Cond.methodLink RX1 64 yX1_removeAllOver, Cond.instanceMethod yX1_removeAllOver, Cond.selects RX1 yX1_removeAllOver yX1_removeAllOver, Cond.code yX1_removeAllOver cX1_removeAllOver 6 (some .int), Cond.methodLink RX1 68 yX1_bytesThatCannotLeave, Cond.instanceMethod yX1_bytesThatCannotLeave, Cond.selects RX1 yX1_bytesThatCannotLeave yX1_bytesThatCannotLeave, Cond.code yX1_bytesThatCannotLeave cX1_bytesThatCannotLeave 6 (some .int), Cond.methodLink RX1 81 yX1_leaveDownTo, Cond.instanceMethod yX1_leaveDownTo, Cond.selects RX1 yX1_leaveDownTo yX1_leaveDownTo, Cond.code yX1_leaveDownTo cX1_leaveDownTo 4 (some .int), Cond.fieldLink RX1 123 "WorthCache" "clock" "J", Cond.methodLink RX1 188 Lib.MathLoose.max_long.x, Cond.static Lib.MathLoose.max_long.x, Cond.initialized "java/lang/Math", Cond.code Lib.MathLoose.max_long.x Lib.MathLoose.max_long.code 4 (some .long), Cond.fieldLink RX1 141 "WorthCache" "left" "I"]
def wsX1_letInIfPossible_r3 : List Cond := [Cond.methodLink RX1 97 yX1_firstInOrder, Cond.instanceMethod yX1_firstInOrder, Cond.selects RX1 yX1_firstInOrder yX1_firstInOrder, Cond.code yX1_firstInOrder cX1_firstInOrder 1 (some (.object "WorthCache$Slot")), Cond.methodLink RX1 101 yX1_nextInOrder, Cond.instanceMethod yX1_nextInOrder, Cond.selects RX1 yX1_nextInOrder yX1_nextInOrder, Cond.code yX1_nextInOrder cX1_nextInOrder 8 (some (.object "WorthCache$Slot")), Cond.methodLink RX1 116 yX1_leavesBefore, Cond.static yX1_leavesBefore, Cond.code yX1_leavesBefore cX1_leavesBefore 2 (some .boolean), Cond.methodLink RX1 113 yX1_isInOrder, Cond.static yX1_isInOrder, Cond.code yX1_isInOrder cX1_isInOrder 1 (some .boolean), Cond.methodLink RX1 173 yX1_fill, Cond.instanceMethod yX1_fill, Cond.selects RX1 yX1_fill yX1_fill, Cond.code yX1_fill cX1_fill 5 none, Cond.methodLink RX1 156 yX1_setWorth, Cond.instanceMethod yX1_setWorth, Cond.selects RX1 yX1_setWorth yX1_setWorth, Cond.code yX1_setWorth cX1_setWorth 3 none, Cond.fieldLink RX1 180 "WorthCache" "uses" "J", Cond.constantLong RX1 186 (1000)]
def wsX1_letInIfPossible : List Cond := .code yX1_letInIfPossible cX1_letInIfPossible 6 (some .boolean) :: ((wsX1_letInIfPossible_r1 ++ (wsX1_letInIfPossible_r2 ++ wsX1_letInIfPossible_r3)) ++ wsX10 ++ wsX00)
def wsX1_fetch_r1 : List Cond := [Cond.methodLink RX1 25 yX1_slotOf, Cond.instanceMethod yX1_slotOf, Cond.selects RX1 yX1_slotOf yX1_slotOf, Cond.initialized RX1, Cond.code yX1_slotOf cX1_slotOf 2 (some (.object "WorthCache$Slot")), Cond.classLink RX1 105 "java/lang/IndexOutOfBoundsException", Cond.initialized "java/lang/IndexOutOfBoundsException", Cond.fieldLink RX1 11 "WorthCache" "slots" "[LWorthCache$Slot;", Cond.methodLink RX1 29 yX1_requireWithin, Cond.static yX1_requireWithin, Cond.code yX1_requireWithin cX1_requireWithin 3 none, Cond.classLink RX1 151 "java/lang/IllegalArgumentException", Cond.initialized "java/lang/IllegalArgumentException", Cond.methodLink RX1 37 yX1_hasEnded, Cond.instanceMethod yX1_hasEnded, Cond.selects RX1 yX1_hasEnded yX1_hasEnded, Cond.code yX1_hasEnded cX1_hasEnded 2 (some .boolean), Cond.fieldLink RX1 55 "WorthCache" "time" "I", Cond.methodLink RX1 44 yX1_hit, Cond.instanceMethod yX1_hit, Cond.selects RX1 yX1_hit yX1_hit, Cond.code yX1_hit cX1_hit 3 none, Cond.fieldLink RX1 126 "WorthCache" "hits" "I", Cond.fieldLink RX1 132 "WorthCache" "bytesHit" "J"]
def wsX1_fetch_r2 : List Cond := [Cond.fieldLink RX1 135 "WorthCache" "saved" "J", Cond.methodLink RX1 156 yX1_setWorth, Cond.instanceMethod yX1_setWorth, Cond.selects RX1 yX1_setWorth yX1_setWorth, Cond.code yX1_setWorth cX1_setWorth 3 none, Cond.fieldLink RX1 180 "WorthCache" "uses" "J", Cond.fieldLink RX1 123 "WorthCache" "clock" "J", Cond.constantLong RX1 186 (1000), Cond.methodLink RX1 48 yX1_countMiss, Cond.instanceMethod yX1_countMiss, Cond.selects RX1 yX1_countMiss yX1_countMiss, Cond.code yX1_countMiss cX1_countMiss 2 none, Cond.fieldLink RX1 129 "WorthCache" "misses" "I", Cond.fieldLink RX1 138 "WorthCache" "paid" "J", Cond.methodLink RX1 51 yX1_letInIfPossible, Cond.instanceMethod yX1_letInIfPossible, Cond.selects RX1 yX1_letInIfPossible yX1_letInIfPossible, Cond.code yX1_letInIfPossible cX1_letInIfPossible 6 (some .boolean), Cond.fieldLink RX1 15 "WorthCache" "capacity" "I", Cond.fieldLink RX1 19 "WorthCache" "threshold" "I", Cond.methodLink RX1 159 yX1_wasMissedLately, Cond.instanceMethod yX1_wasMissedLately, Cond.selects RX1 yX1_wasMissedLately yX1_wasMissedLately, Cond.code yX1_wasMissedLately cX1_wasMissedLately 2 (some .boolean)]
def wsX1_fetch_r3 : List Cond := [Cond.methodLink RX1 165 yX1_removeOwn, Cond.instanceMethod yX1_removeOwn, Cond.selects RX1 yX1_removeOwn yX1_removeOwn, Cond.code yX1_removeOwn cX1_removeOwn 2 none, Cond.fieldLink RX1 144 "WorthCache" "removedOver" "I", Cond.methodLink RX1 169 yX1_makeRoom, Cond.instanceMethod yX1_makeRoom, Cond.selects RX1 yX1_makeRoom yX1_makeRoom, Cond.code yX1_makeRoom cX1_makeRoom 2 (some .boolean), Cond.methodLink RX1 177 yX1_hasRoom, Cond.instanceMethod yX1_hasRoom, Cond.selects RX1 yX1_hasRoom yX1_hasRoom, Cond.code yX1_hasRoom cX1_hasRoom 2 (some .boolean), Cond.methodLink RX1 78 yX1_used, Cond.instanceMethod yX1_used, Cond.selects RX1 yX1_used yX1_used, Cond.code yX1_used cX1_used 6 (some .int), Cond.methodLink RX1 64 yX1_removeAllOver, Cond.instanceMethod yX1_removeAllOver, Cond.selects RX1 yX1_removeAllOver yX1_removeAllOver, Cond.code yX1_removeAllOver cX1_removeAllOver 6 (some .int), Cond.methodLink RX1 68 yX1_bytesThatCannotLeave, Cond.instanceMethod yX1_bytesThatCannotLeave, Cond.selects RX1 yX1_bytesThatCannotLeave yX1_bytesThatCannotLeave]
def wsX1_fetch_r4 : List Cond := [Cond.code yX1_bytesThatCannotLeave cX1_bytesThatCannotLeave 6 (some .int), Cond.methodLink RX1 81 yX1_leaveDownTo, Cond.instanceMethod yX1_leaveDownTo, Cond.selects RX1 yX1_leaveDownTo yX1_leaveDownTo, Cond.code yX1_leaveDownTo cX1_leaveDownTo 4 (some .int), Cond.methodLink RX1 188 Lib.MathLoose.max_long.x, Cond.static Lib.MathLoose.max_long.x, Cond.initialized "java/lang/Math", Cond.code Lib.MathLoose.max_long.x Lib.MathLoose.max_long.code 4 (some .long), Cond.fieldLink RX1 141 "WorthCache" "left" "I", Cond.methodLink RX1 97 yX1_firstInOrder, Cond.instanceMethod yX1_firstInOrder, Cond.selects RX1 yX1_firstInOrder yX1_firstInOrder, Cond.code yX1_firstInOrder cX1_firstInOrder 1 (some (.object "WorthCache$Slot")), Cond.methodLink RX1 101 yX1_nextInOrder, Cond.instanceMethod yX1_nextInOrder, Cond.selects RX1 yX1_nextInOrder yX1_nextInOrder, Cond.code yX1_nextInOrder cX1_nextInOrder 8 (some (.object "WorthCache$Slot")), Cond.methodLink RX1 116 yX1_leavesBefore, Cond.static yX1_leavesBefore, Cond.code yX1_leavesBefore cX1_leavesBefore 2 (some .boolean), Cond.methodLink RX1 113 yX1_isInOrder, Cond.static yX1_isInOrder, Cond.code yX1_isInOrder cX1_isInOrder 1 (some .boolean)]
def wsX1_fetch_r5 : List Cond := [Cond.methodLink RX1 173 yX1_fill, Cond.instanceMethod yX1_fill, Cond.selects RX1 yX1_fill yX1_fill, Cond.code yX1_fill cX1_fill 5 none]
def wsX1_fetch : List Cond := .code yX1_fetch cX1_fetch 6 (some .int) :: ((wsX1_fetch_r1 ++ (wsX1_fetch_r2 ++ (wsX1_fetch_r3 ++ (wsX1_fetch_r4 ++ wsX1_fetch_r5)))) ++ wsX00 ++ wsX10 ++ (vx_atS RX1 109 "java/lang/IndexOutOfBoundsException" ["java/lang/RuntimeException", "java/lang/Exception"]).filter goodWord ++ (vx_atS RX1 155 "java/lang/IllegalArgumentException" ["java/lang/RuntimeException", "java/lang/Exception"]).filter goodWord)
def wsX1_pass : List Cond := .code yX1_pass cX1_pass 2 (some .int) :: ([.fieldLink RX1 55 "WorthCache" "time" "I", .methodLink RX1 29 yX1_requireWithin, .static yX1_requireWithin, .initialized RX1, .code yX1_requireWithin cX1_requireWithin 3 none, .classLink RX1 151 "java/lang/IllegalArgumentException", .initialized "java/lang/IllegalArgumentException"] ++ wsX10 ++ (vx_atS RX1 155 "java/lang/IllegalArgumentException" ["java/lang/RuntimeException", "java/lang/Exception"]).filter goodWord)
def wsX1_filledSlotOf : List Cond := .code yX1_filledSlotOf cX1_filledSlotOf 3 (some (.object "WorthCache$Slot")) :: ([.classLink RX1 71 "java/lang/IllegalStateException", .initialized "java/lang/IllegalStateException", .methodLink RX1 25 yX1_slotOf, .instanceMethod yX1_slotOf, .selects RX1 yX1_slotOf yX1_slotOf, .initialized RX1, .code yX1_slotOf cX1_slotOf 2 (some (.object "WorthCache$Slot")), .classLink RX1 105 "java/lang/IndexOutOfBoundsException", .initialized "java/lang/IndexOutOfBoundsException", .fieldLink RX1 11 "WorthCache" "slots" "[LWorthCache$Slot;"] ++ wsX00 ++ wsX10 ++ (vx_atS RX1 75 "java/lang/IllegalStateException" ["java/lang/RuntimeException", "java/lang/Exception"]).filter goodWord ++ (vx_atS RX1 109 "java/lang/IndexOutOfBoundsException" ["java/lang/RuntimeException", "java/lang/Exception"]).filter goodWord)
def wsX1_pin : List Cond := .code yX1_pin cX1_pin 5 (some .boolean) :: ([.methodLink RX1 58 yX1_filledSlotOf, .instanceMethod yX1_filledSlotOf, .selects RX1 yX1_filledSlotOf yX1_filledSlotOf, .initialized RX1, .code yX1_filledSlotOf cX1_filledSlotOf 3 (some (.object "WorthCache$Slot")), .classLink RX1 71 "java/lang/IllegalStateException", .initialized "java/lang/IllegalStateException", .methodLink RX1 25 yX1_slotOf, .instanceMethod yX1_slotOf, .selects RX1 yX1_slotOf yX1_slotOf, .code yX1_slotOf cX1_slotOf 2 (some (.object "WorthCache$Slot")), .classLink RX1 105 "java/lang/IndexOutOfBoundsException", .initialized "java/lang/IndexOutOfBoundsException", .fieldLink RX1 11 "WorthCache" "slots" "[LWorthCache$Slot;"] ++ wsX00 ++ wsX10 ++ (vx_atS RX1 75 "java/lang/IllegalStateException" ["java/lang/RuntimeException", "java/lang/Exception"]).filter goodWord ++ (vx_atS RX1 109 "java/lang/IndexOutOfBoundsException" ["java/lang/RuntimeException", "java/lang/Exception"]).filter goodWord)
def wsX1_drop : List Cond := .code yX1_drop cX1_drop 3 (some .int) :: ([.methodLink RX1 58 yX1_filledSlotOf, .instanceMethod yX1_filledSlotOf, .selects RX1 yX1_filledSlotOf yX1_filledSlotOf, .initialized RX1, .code yX1_filledSlotOf cX1_filledSlotOf 3 (some (.object "WorthCache$Slot")), .classLink RX1 71 "java/lang/IllegalStateException", .initialized "java/lang/IllegalStateException", .methodLink RX1 25 yX1_slotOf, .instanceMethod yX1_slotOf, .selects RX1 yX1_slotOf yX1_slotOf, .code yX1_slotOf cX1_slotOf 2 (some (.object "WorthCache$Slot")), .classLink RX1 105 "java/lang/IndexOutOfBoundsException", .initialized "java/lang/IndexOutOfBoundsException", .fieldLink RX1 11 "WorthCache" "slots" "[LWorthCache$Slot;"] ++ wsX00 ++ wsX10 ++ (vx_atS RX1 75 "java/lang/IllegalStateException" ["java/lang/RuntimeException", "java/lang/Exception"]).filter goodWord ++ (vx_atS RX1 109 "java/lang/IndexOutOfBoundsException" ["java/lang/RuntimeException", "java/lang/Exception"]).filter goodWord)
def wsX1_purge : List Cond := .code yX1_purge cX1_purge 1 (some .int) :: ([.methodLink RX1 64 yX1_removeAllOver, .instanceMethod yX1_removeAllOver, .selects RX1 yX1_removeAllOver yX1_removeAllOver, .initialized RX1, .code yX1_removeAllOver cX1_removeAllOver 6 (some .int), .fieldLink RX1 11 "WorthCache" "slots" "[LWorthCache$Slot;", .fieldLink RX1 144 "WorthCache" "removedOver" "I", .methodLink RX1 37 yX1_hasEnded, .instanceMethod yX1_hasEnded, .selects RX1 yX1_hasEnded yX1_hasEnded, .code yX1_hasEnded cX1_hasEnded 2 (some .boolean), .fieldLink RX1 55 "WorthCache" "time" "I"] ++ wsX10 ++ wsX00)
def wsX1_setCapacity_r1 : List Cond := [Cond.classLink RX1 71 "java/lang/IllegalStateException", Cond.initialized "java/lang/IllegalStateException", Cond.fieldLink RX1 15 "WorthCache" "capacity" "I", Cond.methodLink RX1 29 yX1_requireWithin, Cond.static yX1_requireWithin, Cond.initialized RX1, Cond.code yX1_requireWithin cX1_requireWithin 3 none, Cond.classLink RX1 151 "java/lang/IllegalArgumentException", Cond.initialized "java/lang/IllegalArgumentException", Cond.methodLink RX1 68 yX1_bytesThatCannotLeave, Cond.instanceMethod yX1_bytesThatCannotLeave, Cond.selects RX1 yX1_bytesThatCannotLeave yX1_bytesThatCannotLeave, Cond.code yX1_bytesThatCannotLeave cX1_bytesThatCannotLeave 6 (some .int), Cond.fieldLink RX1 11 "WorthCache" "slots" "[LWorthCache$Slot;", Cond.methodLink RX1 37 yX1_hasEnded, Cond.instanceMethod yX1_hasEnded, Cond.selects RX1 yX1_hasEnded yX1_hasEnded, Cond.code yX1_hasEnded cX1_hasEnded 2 (some .boolean), Cond.fieldLink RX1 55 "WorthCache" "time" "I", Cond.methodLink RX1 78 yX1_used, Cond.instanceMethod yX1_used, Cond.selects RX1 yX1_used yX1_used, Cond.code yX1_used cX1_used 6 (some .int), Cond.methodLink RX1 64 yX1_removeAllOver]
def wsX1_setCapacity_r2 : List Cond := [Cond.instanceMethod yX1_removeAllOver, Cond.selects RX1 yX1_removeAllOver yX1_removeAllOver, Cond.code yX1_removeAllOver cX1_removeAllOver 6 (some .int), Cond.fieldLink RX1 144 "WorthCache" "removedOver" "I", Cond.methodLink RX1 81 yX1_leaveDownTo, Cond.instanceMethod yX1_leaveDownTo, Cond.selects RX1 yX1_leaveDownTo yX1_leaveDownTo, Cond.code yX1_leaveDownTo cX1_leaveDownTo 4 (some .int), Cond.fieldLink RX1 123 "WorthCache" "clock" "J", Cond.methodLink RX1 188 Lib.MathLoose.max_long.x, Cond.static Lib.MathLoose.max_long.x, Cond.initialized "java/lang/Math", Cond.code Lib.MathLoose.max_long.x Lib.MathLoose.max_long.code 4 (some .long), Cond.fieldLink RX1 141 "WorthCache" "left" "I", Cond.methodLink RX1 97 yX1_firstInOrder, Cond.instanceMethod yX1_firstInOrder, Cond.selects RX1 yX1_firstInOrder yX1_firstInOrder, Cond.code yX1_firstInOrder cX1_firstInOrder 1 (some (.object "WorthCache$Slot")), Cond.methodLink RX1 101 yX1_nextInOrder, Cond.instanceMethod yX1_nextInOrder, Cond.selects RX1 yX1_nextInOrder yX1_nextInOrder, Cond.code yX1_nextInOrder cX1_nextInOrder 8 (some (.object "WorthCache$Slot")), Cond.methodLink RX1 116 yX1_leavesBefore, Cond.static yX1_leavesBefore]
def wsX1_setCapacity_r3 : List Cond := [Cond.code yX1_leavesBefore cX1_leavesBefore 2 (some .boolean), Cond.methodLink RX1 113 yX1_isInOrder, Cond.static yX1_isInOrder, Cond.code yX1_isInOrder cX1_isInOrder 1 (some .boolean)]
def wsX1_setCapacity : List Cond := .code yX1_setCapacity cX1_setCapacity 2 (some .int) :: ((wsX1_setCapacity_r1 ++ (wsX1_setCapacity_r2 ++ wsX1_setCapacity_r3)) ++ wsX10 ++ wsX00 ++ (vx_atS RX1 75 "java/lang/IllegalStateException" ["java/lang/RuntimeException", "java/lang/Exception"]).filter goodWord ++ (vx_atS RX1 155 "java/lang/IllegalArgumentException" ["java/lang/RuntimeException", "java/lang/Exception"]).filter goodWord)
def wsX1_setThreshold : List Cond := .code yX1_setThreshold cX1_setThreshold 3 (some .int) :: ([.fieldLink RX1 19 "WorthCache" "threshold" "I", .methodLink RX1 29 yX1_requireWithin, .static yX1_requireWithin, .initialized RX1, .code yX1_requireWithin cX1_requireWithin 3 none, .classLink RX1 151 "java/lang/IllegalArgumentException", .initialized "java/lang/IllegalArgumentException"] ++ wsX10 ++ (vx_atS RX1 155 "java/lang/IllegalArgumentException" ["java/lang/RuntimeException", "java/lang/Exception"]).filter goodWord)
def wsX1_has : List Cond := .code yX1_has cX1_has 2 (some .boolean) :: ([.methodLink RX1 25 yX1_slotOf, .instanceMethod yX1_slotOf, .selects RX1 yX1_slotOf yX1_slotOf, .initialized RX1, .code yX1_slotOf cX1_slotOf 2 (some (.object "WorthCache$Slot")), .classLink RX1 105 "java/lang/IndexOutOfBoundsException", .initialized "java/lang/IndexOutOfBoundsException", .fieldLink RX1 11 "WorthCache" "slots" "[LWorthCache$Slot;"] ++ wsX00 ++ wsX10 ++ (vx_atS RX1 109 "java/lang/IndexOutOfBoundsException" ["java/lang/RuntimeException", "java/lang/Exception"]).filter goodWord)
def wsX1_isOver : List Cond := .code yX1_isOver cX1_isOver 3 (some .boolean) :: ([.methodLink RX1 25 yX1_slotOf, .instanceMethod yX1_slotOf, .selects RX1 yX1_slotOf yX1_slotOf, .initialized RX1, .code yX1_slotOf cX1_slotOf 2 (some (.object "WorthCache$Slot")), .classLink RX1 105 "java/lang/IndexOutOfBoundsException", .initialized "java/lang/IndexOutOfBoundsException", .fieldLink RX1 11 "WorthCache" "slots" "[LWorthCache$Slot;", .methodLink RX1 37 yX1_hasEnded, .instanceMethod yX1_hasEnded, .selects RX1 yX1_hasEnded yX1_hasEnded, .code yX1_hasEnded cX1_hasEnded 2 (some .boolean), .fieldLink RX1 55 "WorthCache" "time" "I"] ++ wsX00 ++ wsX10 ++ (vx_atS RX1 109 "java/lang/IndexOutOfBoundsException" ["java/lang/RuntimeException", "java/lang/Exception"]).filter goodWord)
def wsX1_sizeOf : List Cond := .code yX1_sizeOf cX1_sizeOf 3 (some .int) :: ([.methodLink RX1 25 yX1_slotOf, .instanceMethod yX1_slotOf, .selects RX1 yX1_slotOf yX1_slotOf, .initialized RX1, .code yX1_slotOf cX1_slotOf 2 (some (.object "WorthCache$Slot")), .classLink RX1 105 "java/lang/IndexOutOfBoundsException", .initialized "java/lang/IndexOutOfBoundsException", .fieldLink RX1 11 "WorthCache" "slots" "[LWorthCache$Slot;"] ++ wsX00 ++ wsX10 ++ (vx_atS RX1 109 "java/lang/IndexOutOfBoundsException" ["java/lang/RuntimeException", "java/lang/Exception"]).filter goodWord)
def wsX1_frequencyOf : List Cond := .code yX1_frequencyOf cX1_frequencyOf 3 (some .int) :: ([.methodLink RX1 25 yX1_slotOf, .instanceMethod yX1_slotOf, .selects RX1 yX1_slotOf yX1_slotOf, .initialized RX1, .code yX1_slotOf cX1_slotOf 2 (some (.object "WorthCache$Slot")), .classLink RX1 105 "java/lang/IndexOutOfBoundsException", .initialized "java/lang/IndexOutOfBoundsException", .fieldLink RX1 11 "WorthCache" "slots" "[LWorthCache$Slot;"] ++ wsX00 ++ wsX10 ++ (vx_atS RX1 109 "java/lang/IndexOutOfBoundsException" ["java/lang/RuntimeException", "java/lang/Exception"]).filter goodWord)
def wsX1_worthOf : List Cond := .code yX1_worthOf cX1_worthOf 3 (some .long) :: ([.constantLong RX1 92 (-1), .methodLink RX1 25 yX1_slotOf, .instanceMethod yX1_slotOf, .selects RX1 yX1_slotOf yX1_slotOf, .initialized RX1, .code yX1_slotOf cX1_slotOf 2 (some (.object "WorthCache$Slot")), .classLink RX1 105 "java/lang/IndexOutOfBoundsException", .initialized "java/lang/IndexOutOfBoundsException", .fieldLink RX1 11 "WorthCache" "slots" "[LWorthCache$Slot;"] ++ wsX00 ++ wsX10 ++ (vx_atS RX1 109 "java/lang/IndexOutOfBoundsException" ["java/lang/RuntimeException", "java/lang/Exception"]).filter goodWord)
def wsX1_endOf : List Cond := .code yX1_endOf cX1_endOf 3 (some .int) :: ([.methodLink RX1 25 yX1_slotOf, .instanceMethod yX1_slotOf, .selects RX1 yX1_slotOf yX1_slotOf, .initialized RX1, .code yX1_slotOf cX1_slotOf 2 (some (.object "WorthCache$Slot")), .classLink RX1 105 "java/lang/IndexOutOfBoundsException", .initialized "java/lang/IndexOutOfBoundsException", .fieldLink RX1 11 "WorthCache" "slots" "[LWorthCache$Slot;"] ++ wsX00 ++ wsX10 ++ (vx_atS RX1 109 "java/lang/IndexOutOfBoundsException" ["java/lang/RuntimeException", "java/lang/Exception"]).filter goodWord)
def wsX1_leaving : List Cond := .code yX1_leaving cX1_leaving 4 (some .int) :: ([.classLink RX1 105 "java/lang/IndexOutOfBoundsException", .initialized "java/lang/IndexOutOfBoundsException", .methodLink RX1 97 yX1_firstInOrder, .instanceMethod yX1_firstInOrder, .selects RX1 yX1_firstInOrder yX1_firstInOrder, .initialized RX1, .code yX1_firstInOrder cX1_firstInOrder 1 (some (.object "WorthCache$Slot")), .methodLink RX1 101 yX1_nextInOrder, .instanceMethod yX1_nextInOrder, .selects RX1 yX1_nextInOrder yX1_nextInOrder, .code yX1_nextInOrder cX1_nextInOrder 8 (some (.object "WorthCache$Slot")), .fieldLink RX1 11 "WorthCache" "slots" "[LWorthCache$Slot;", .methodLink RX1 116 yX1_leavesBefore, .static yX1_leavesBefore, .code yX1_leavesBefore cX1_leavesBefore 2 (some .boolean), .methodLink RX1 113 yX1_isInOrder, .static yX1_isInOrder, .code yX1_isInOrder cX1_isInOrder 1 (some .boolean)] ++ wsX00 ++ wsX10 ++ (vx_atS RX1 109 "java/lang/IndexOutOfBoundsException" ["java/lang/RuntimeException", "java/lang/Exception"]).filter goodWord)
def wsX1_placeOf : List Cond := .code yX1_placeOf cX1_placeOf 8 (some .int) :: ([.fieldLink RX1 11 "WorthCache" "slots" "[LWorthCache$Slot;", .methodLink RX1 25 yX1_slotOf, .instanceMethod yX1_slotOf, .selects RX1 yX1_slotOf yX1_slotOf, .initialized RX1, .code yX1_slotOf cX1_slotOf 2 (some (.object "WorthCache$Slot")), .classLink RX1 105 "java/lang/IndexOutOfBoundsException", .initialized "java/lang/IndexOutOfBoundsException", .methodLink RX1 113 yX1_isInOrder, .static yX1_isInOrder, .code yX1_isInOrder cX1_isInOrder 1 (some .boolean), .methodLink RX1 116 yX1_leavesBefore, .static yX1_leavesBefore, .code yX1_leavesBefore cX1_leavesBefore 2 (some .boolean)] ++ wsX10 ++ wsX00 ++ (vx_atS RX1 109 "java/lang/IndexOutOfBoundsException" ["java/lang/RuntimeException", "java/lang/Exception"]).filter goodWord)
def wsX1_endsFirst : List Cond := .code yX1_endsFirst cX1_endsFirst 6 (some .int) :: ([.fieldLink RX1 11 "WorthCache" "slots" "[LWorthCache$Slot;"] ++ wsX10 ++ wsX00)
def wsX1_bytesNotOver : List Cond := .code yX1_bytesNotOver cX1_bytesNotOver 6 (some .int) :: ([.fieldLink RX1 11 "WorthCache" "slots" "[LWorthCache$Slot;", .methodLink RX1 37 yX1_hasEnded, .instanceMethod yX1_hasEnded, .selects RX1 yX1_hasEnded yX1_hasEnded, .initialized RX1, .code yX1_hasEnded cX1_hasEnded 2 (some .boolean), .fieldLink RX1 55 "WorthCache" "time" "I"] ++ wsX10 ++ wsX00)
def wsX1_countThatWouldLeave_r1 : List Cond := [Cond.fieldLink RX1 15 "WorthCache" "capacity" "I", Cond.methodLink RX1 194 yX1_bytesNotOver, Cond.instanceMethod yX1_bytesNotOver, Cond.selects RX1 yX1_bytesNotOver yX1_bytesNotOver, Cond.initialized RX1, Cond.code yX1_bytesNotOver cX1_bytesNotOver 6 (some .int), Cond.fieldLink RX1 11 "WorthCache" "slots" "[LWorthCache$Slot;", Cond.methodLink RX1 37 yX1_hasEnded, Cond.instanceMethod yX1_hasEnded, Cond.selects RX1 yX1_hasEnded yX1_hasEnded, Cond.code yX1_hasEnded cX1_hasEnded 2 (some .boolean), Cond.fieldLink RX1 55 "WorthCache" "time" "I", Cond.methodLink RX1 97 yX1_firstInOrder, Cond.instanceMethod yX1_firstInOrder, Cond.selects RX1 yX1_firstInOrder yX1_firstInOrder, Cond.code yX1_firstInOrder cX1_firstInOrder 1 (some (.object "WorthCache$Slot")), Cond.methodLink RX1 101 yX1_nextInOrder, Cond.instanceMethod yX1_nextInOrder, Cond.selects RX1 yX1_nextInOrder yX1_nextInOrder, Cond.code yX1_nextInOrder cX1_nextInOrder 8 (some (.object "WorthCache$Slot")), Cond.methodLink RX1 116 yX1_leavesBefore, Cond.static yX1_leavesBefore, Cond.code yX1_leavesBefore cX1_leavesBefore 2 (some .boolean), Cond.methodLink RX1 113 yX1_isInOrder]
def wsX1_countThatWouldLeave_r2 : List Cond := [Cond.static yX1_isInOrder, Cond.code yX1_isInOrder cX1_isInOrder 1 (some .boolean)]
def wsX1_countThatWouldLeave : List Cond := .code yX1_countThatWouldLeave cX1_countThatWouldLeave 6 (some .int) :: ((wsX1_countThatWouldLeave_r1 ++ wsX1_countThatWouldLeave_r2) ++ wsX10 ++ wsX00)
def wsX1_wouldLeave_r1 : List Cond := [Cond.fieldLink RX1 15 "WorthCache" "capacity" "I", Cond.methodLink RX1 29 yX1_requireWithin, Cond.static yX1_requireWithin, Cond.initialized RX1, Cond.code yX1_requireWithin cX1_requireWithin 3 none, Cond.classLink RX1 151 "java/lang/IllegalArgumentException", Cond.initialized "java/lang/IllegalArgumentException", Cond.methodLink RX1 68 yX1_bytesThatCannotLeave, Cond.instanceMethod yX1_bytesThatCannotLeave, Cond.selects RX1 yX1_bytesThatCannotLeave yX1_bytesThatCannotLeave, Cond.code yX1_bytesThatCannotLeave cX1_bytesThatCannotLeave 6 (some .int), Cond.fieldLink RX1 11 "WorthCache" "slots" "[LWorthCache$Slot;", Cond.methodLink RX1 37 yX1_hasEnded, Cond.instanceMethod yX1_hasEnded, Cond.selects RX1 yX1_hasEnded yX1_hasEnded, Cond.code yX1_hasEnded cX1_hasEnded 2 (some .boolean), Cond.fieldLink RX1 55 "WorthCache" "time" "I", Cond.methodLink RX1 120 yX1_countThatWouldLeave, Cond.instanceMethod yX1_countThatWouldLeave, Cond.selects RX1 yX1_countThatWouldLeave yX1_countThatWouldLeave, Cond.code yX1_countThatWouldLeave cX1_countThatWouldLeave 6 (some .int), Cond.methodLink RX1 194 yX1_bytesNotOver, Cond.instanceMethod yX1_bytesNotOver, Cond.selects RX1 yX1_bytesNotOver yX1_bytesNotOver]
def wsX1_wouldLeave_r2 : List Cond := [Cond.code yX1_bytesNotOver cX1_bytesNotOver 6 (some .int), Cond.methodLink RX1 97 yX1_firstInOrder, Cond.instanceMethod yX1_firstInOrder, Cond.selects RX1 yX1_firstInOrder yX1_firstInOrder, Cond.code yX1_firstInOrder cX1_firstInOrder 1 (some (.object "WorthCache$Slot")), Cond.methodLink RX1 101 yX1_nextInOrder, Cond.instanceMethod yX1_nextInOrder, Cond.selects RX1 yX1_nextInOrder yX1_nextInOrder, Cond.code yX1_nextInOrder cX1_nextInOrder 8 (some (.object "WorthCache$Slot")), Cond.methodLink RX1 116 yX1_leavesBefore, Cond.static yX1_leavesBefore, Cond.code yX1_leavesBefore cX1_leavesBefore 2 (some .boolean), Cond.methodLink RX1 113 yX1_isInOrder, Cond.static yX1_isInOrder, Cond.code yX1_isInOrder cX1_isInOrder 1 (some .boolean)]
def wsX1_wouldLeave : List Cond := .code yX1_wouldLeave cX1_wouldLeave 2 (some .int) :: ((wsX1_wouldLeave_r1 ++ wsX1_wouldLeave_r2) ++ wsX10 ++ wsX00 ++ (vx_atS RX1 155 "java/lang/IllegalArgumentException" ["java/lang/RuntimeException", "java/lang/Exception"]).filter goodWord)
def wsX1_time : List Cond := .code yX1_time cX1_time 1 (some .int) :: ([.fieldLink RX1 55 "WorthCache" "time" "I"] ++ wsX10)
def wsX1_clock : List Cond := .code yX1_clock cX1_clock 1 (some .long) :: ([.fieldLink RX1 123 "WorthCache" "clock" "J"] ++ wsX10)
def wsX1_capacity : List Cond := .code yX1_capacity cX1_capacity 1 (some .int) :: ([.fieldLink RX1 15 "WorthCache" "capacity" "I"] ++ wsX10)
def wsX1_entries : List Cond := .code yX1_entries cX1_entries 6 (some .int) :: ([.fieldLink RX1 11 "WorthCache" "slots" "[LWorthCache$Slot;"] ++ wsX10 ++ wsX00)
def wsX1_hits : List Cond := .code yX1_hits cX1_hits 1 (some .int) :: ([.fieldLink RX1 126 "WorthCache" "hits" "I"] ++ wsX10)
def wsX1_misses : List Cond := .code yX1_misses cX1_misses 1 (some .int) :: ([.fieldLink RX1 129 "WorthCache" "misses" "I"] ++ wsX10)
def wsX1_bytesHit : List Cond := .code yX1_bytesHit cX1_bytesHit 1 (some .long) :: ([.fieldLink RX1 132 "WorthCache" "bytesHit" "J"] ++ wsX10)
def wsX1_saved : List Cond := .code yX1_saved cX1_saved 1 (some .long) :: ([.fieldLink RX1 135 "WorthCache" "saved" "J"] ++ wsX10)
def wsX1_paid : List Cond := .code yX1_paid cX1_paid 1 (some .long) :: ([.fieldLink RX1 138 "WorthCache" "paid" "J"] ++ wsX10)
def wsX1_left : List Cond := .code yX1_left cX1_left 1 (some .int) :: ([.fieldLink RX1 141 "WorthCache" "left" "I"] ++ wsX10)
def wsX1_removedOver : List Cond := .code yX1_removedOver cX1_removedOver 1 (some .int) :: ([.fieldLink RX1 144 "WorthCache" "removedOver" "I"] ++ wsX10)
def wsX2_init : List Cond := .code yX2_init cX2_init 2 none :: ([.methodLink RX2 1 objectInit, .instanceMethod objectInit, .code objectInit ⟨#[0xb1]⟩ 1 none, .arrayClass .boolean, .fieldLink RX2 7 "WorthCacheModel" "isIn" "[Z", .fieldLink RX2 13 "WorthCacheModel" "isPinned" "[Z", .arrayClass .int, .fieldLink RX2 16 "WorthCacheModel" "sizes" "[I", .fieldLink RX2 20 "WorthCacheModel" "prices" "[I", .fieldLink RX2 23 "WorthCacheModel" "frequencies" "[I", .arrayClass .long, .fieldLink RX2 26 "WorthCacheModel" "worths" "[J", .fieldLink RX2 30 "WorthCacheModel" "ends" "[I", .fieldLink RX2 33 "WorthCacheModel" "stamps" "[J", .fieldLink RX2 36 "WorthCacheModel" "missed" "[I", .fieldLink RX2 39 "WorthCacheModel" "capacity" "I", .fieldLink RX2 43 "WorthCacheModel" "threshold" "I"] ++ wsX20)
def wsX2_thrown : List Cond := .code yX2_thrown cX2_thrown 1 (some .int) :: ([.fieldLink RX2 46 "WorthCacheModel" "thrown" "I"] ++ wsX20)
def wsX2_in : List Cond := .code yX2_in cX2_in 3 (some .boolean) :: ([])
def wsX2_isThing : List Cond := .code yX2_isThing cX2_isThing 2 (some .boolean) :: ([.fieldLink RX2 46 "WorthCacheModel" "thrown" "I", .methodLink RX2 49 yX2_in, .static yX2_in, .initialized RX2, .code yX2_in cX2_in 3 (some .boolean)] ++ wsX20)
def wsX2_over : List Cond := .code yX2_over cX2_over 2 (some .boolean) :: ([.fieldLink RX2 7 "WorthCacheModel" "isIn" "[Z", .fieldLink RX2 53 "WorthCacheModel" "now" "I", .fieldLink RX2 30 "WorthCacheModel" "ends" "[I"] ++ wsX20)
def wsX2_usedBytes : List Cond := .code yX2_usedBytes cX2_usedBytes 3 (some .int) :: ([.fieldLink RX2 7 "WorthCacheModel" "isIn" "[Z", .fieldLink RX2 16 "WorthCacheModel" "sizes" "[I"] ++ wsX20)
def wsX2_isAhead : List Cond := .code yX2_isAhead cX2_isAhead 3 (some .boolean) :: ([.fieldLink RX2 26 "WorthCacheModel" "worths" "[J", .fieldLink RX2 33 "WorthCacheModel" "stamps" "[J"] ++ wsX20)
def wsX2_place : List Cond := .code yX2_place cX2_place 4 (some .int) :: ([.fieldLink RX2 7 "WorthCacheModel" "isIn" "[Z", .fieldLink RX2 13 "WorthCacheModel" "isPinned" "[Z", .methodLink RX2 56 yX2_isAhead, .instanceMethod yX2_isAhead, .selects RX2 yX2_isAhead yX2_isAhead, .initialized RX2, .code yX2_isAhead cX2_isAhead 3 (some .boolean), .fieldLink RX2 26 "WorthCacheModel" "worths" "[J", .fieldLink RX2 33 "WorthCacheModel" "stamps" "[J"] ++ wsX20)
def wsX2_at : List Cond := .code yX2_at cX2_at 3 (some .int) :: ([.methodLink RX2 60 yX2_place, .instanceMethod yX2_place, .selects RX2 yX2_place yX2_place, .initialized RX2, .code yX2_place cX2_place 4 (some .int), .fieldLink RX2 7 "WorthCacheModel" "isIn" "[Z", .fieldLink RX2 13 "WorthCacheModel" "isPinned" "[Z", .methodLink RX2 56 yX2_isAhead, .instanceMethod yX2_isAhead, .selects RX2 yX2_isAhead yX2_isAhead, .code yX2_isAhead cX2_isAhead 3 (some .boolean), .fieldLink RX2 26 "WorthCacheModel" "worths" "[J", .fieldLink RX2 33 "WorthCacheModel" "stamps" "[J"] ++ wsX20)
def wsX2_firstLeaves : List Cond := .code yX2_firstLeaves cX2_firstLeaves 2 none :: ([.fieldLink RX2 7 "WorthCacheModel" "isIn" "[Z", .fieldLink RX2 26 "WorthCacheModel" "worths" "[J", .fieldLink RX2 67 "WorthCacheModel" "clockNow" "J", .fieldLink RX2 71 "WorthCacheModel" "leftMany" "I", .methodLink RX2 64 yX2_at, .instanceMethod yX2_at, .selects RX2 yX2_at yX2_at, .initialized RX2, .code yX2_at cX2_at 3 (some .int), .methodLink RX2 60 yX2_place, .instanceMethod yX2_place, .selects RX2 yX2_place yX2_place, .code yX2_place cX2_place 4 (some .int), .fieldLink RX2 13 "WorthCacheModel" "isPinned" "[Z", .methodLink RX2 56 yX2_isAhead, .instanceMethod yX2_isAhead, .selects RX2 yX2_isAhead yX2_isAhead, .code yX2_isAhead cX2_isAhead 3 (some .boolean), .fieldLink RX2 33 "WorthCacheModel" "stamps" "[J"] ++ wsX20)
def wsX2_removeOver : List Cond := .code yX2_removeOver cX2_removeOver 3 (some .int) :: ([.fieldLink RX2 7 "WorthCacheModel" "isIn" "[Z", .fieldLink RX2 78 "WorthCacheModel" "overMany" "I", .methodLink RX2 74 yX2_over, .instanceMethod yX2_over, .selects RX2 yX2_over yX2_over, .initialized RX2, .code yX2_over cX2_over 2 (some .boolean), .fieldLink RX2 53 "WorthCacheModel" "now" "I", .fieldLink RX2 30 "WorthCacheModel" "ends" "[I"] ++ wsX20)
def wsX2_setWorth : List Cond := .code yX2_setWorth cX2_setWorth 2 none :: ([.fieldLink RX2 26 "WorthCacheModel" "worths" "[J", .fieldLink RX2 67 "WorthCacheModel" "clockNow" "J", .constantLong RX2 81 (1000), .fieldLink RX2 23 "WorthCacheModel" "frequencies" "[I", .fieldLink RX2 20 "WorthCacheModel" "prices" "[I", .fieldLink RX2 16 "WorthCacheModel" "sizes" "[I", .fieldLink RX2 83 "WorthCacheModel" "stamp" "J", .fieldLink RX2 33 "WorthCacheModel" "stamps" "[J"] ++ wsX20)
def wsX2_pinnedBytes : List Cond := .code yX2_pinnedBytes cX2_pinnedBytes 4 (some .int) :: ([.fieldLink RX2 7 "WorthCacheModel" "isIn" "[Z", .fieldLink RX2 13 "WorthCacheModel" "isPinned" "[Z", .fieldLink RX2 16 "WorthCacheModel" "sizes" "[I", .methodLink RX2 74 yX2_over, .instanceMethod yX2_over, .selects RX2 yX2_over yX2_over, .initialized RX2, .code yX2_over cX2_over 2 (some .boolean), .fieldLink RX2 53 "WorthCacheModel" "now" "I", .fieldLink RX2 30 "WorthCacheModel" "ends" "[I"] ++ wsX20)
def wsX2_makesRoom_r1 : List Cond := [Cond.fieldLink RX2 39 "WorthCacheModel" "capacity" "I", Cond.methodLink RX2 86 yX2_usedBytes, Cond.instanceMethod yX2_usedBytes, Cond.selects RX2 yX2_usedBytes yX2_usedBytes, Cond.initialized RX2, Cond.code yX2_usedBytes cX2_usedBytes 3 (some .int), Cond.fieldLink RX2 7 "WorthCacheModel" "isIn" "[Z", Cond.fieldLink RX2 16 "WorthCacheModel" "sizes" "[I", Cond.methodLink RX2 90 yX2_removeOver, Cond.instanceMethod yX2_removeOver, Cond.selects RX2 yX2_removeOver yX2_removeOver, Cond.code yX2_removeOver cX2_removeOver 3 (some .int), Cond.fieldLink RX2 78 "WorthCacheModel" "overMany" "I", Cond.methodLink RX2 74 yX2_over, Cond.instanceMethod yX2_over, Cond.selects RX2 yX2_over yX2_over, Cond.code yX2_over cX2_over 2 (some .boolean), Cond.fieldLink RX2 53 "WorthCacheModel" "now" "I", Cond.fieldLink RX2 30 "WorthCacheModel" "ends" "[I", Cond.methodLink RX2 93 yX2_pinnedBytes, Cond.instanceMethod yX2_pinnedBytes, Cond.selects RX2 yX2_pinnedBytes yX2_pinnedBytes, Cond.code yX2_pinnedBytes cX2_pinnedBytes 4 (some .int), Cond.fieldLink RX2 13 "WorthCacheModel" "isPinned" "[Z"]
def wsX2_makesRoom_r2 : List Cond := [Cond.methodLink RX2 97 yX2_firstLeaves, Cond.instanceMethod yX2_firstLeaves, Cond.selects RX2 yX2_firstLeaves yX2_firstLeaves, Cond.code yX2_firstLeaves cX2_firstLeaves 2 none, Cond.fieldLink RX2 26 "WorthCacheModel" "worths" "[J", Cond.fieldLink RX2 67 "WorthCacheModel" "clockNow" "J", Cond.fieldLink RX2 71 "WorthCacheModel" "leftMany" "I", Cond.methodLink RX2 64 yX2_at, Cond.instanceMethod yX2_at, Cond.selects RX2 yX2_at yX2_at, Cond.code yX2_at cX2_at 3 (some .int), Cond.methodLink RX2 60 yX2_place, Cond.instanceMethod yX2_place, Cond.selects RX2 yX2_place yX2_place, Cond.code yX2_place cX2_place 4 (some .int), Cond.methodLink RX2 56 yX2_isAhead, Cond.instanceMethod yX2_isAhead, Cond.selects RX2 yX2_isAhead yX2_isAhead, Cond.code yX2_isAhead cX2_isAhead 3 (some .boolean), Cond.fieldLink RX2 33 "WorthCacheModel" "stamps" "[J"]
def wsX2_makesRoom : List Cond := .code yX2_makesRoom cX2_makesRoom 3 (some .boolean) :: ((wsX2_makesRoom_r1 ++ wsX2_makesRoom_r2) ++ wsX20)
def wsX2_fetch_r1 : List Cond := [Cond.fieldLink RX2 46 "WorthCacheModel" "thrown" "I", Cond.fieldLink RX2 7 "WorthCacheModel" "isIn" "[Z", Cond.fieldLink RX2 16 "WorthCacheModel" "sizes" "[I", Cond.fieldLink RX2 23 "WorthCacheModel" "frequencies" "[I", Cond.fieldLink RX2 20 "WorthCacheModel" "prices" "[I", Cond.fieldLink RX2 107 "WorthCacheModel" "hitMany" "I", Cond.fieldLink RX2 110 "WorthCacheModel" "hitBytes" "J", Cond.fieldLink RX2 113 "WorthCacheModel" "hitPrices" "J", Cond.fieldLink RX2 36 "WorthCacheModel" "missed" "[I", Cond.fieldLink RX2 53 "WorthCacheModel" "now" "I", Cond.fieldLink RX2 116 "WorthCacheModel" "missMany" "I", Cond.fieldLink RX2 119 "WorthCacheModel" "missPrices" "J", Cond.fieldLink RX2 78 "WorthCacheModel" "overMany" "I", Cond.fieldLink RX2 39 "WorthCacheModel" "capacity" "I", Cond.fieldLink RX2 43 "WorthCacheModel" "threshold" "I", Cond.fieldLink RX2 13 "WorthCacheModel" "isPinned" "[Z", Cond.fieldLink RX2 30 "WorthCacheModel" "ends" "[I", Cond.methodLink RX2 100 yX2_isThing, Cond.instanceMethod yX2_isThing, Cond.selects RX2 yX2_isThing yX2_isThing, Cond.initialized RX2, Cond.code yX2_isThing cX2_isThing 2 (some .boolean), Cond.methodLink RX2 49 yX2_in, Cond.static yX2_in]
def wsX2_fetch_r2 : List Cond := [Cond.code yX2_in cX2_in 3 (some .boolean), Cond.methodLink RX2 74 yX2_over, Cond.instanceMethod yX2_over, Cond.selects RX2 yX2_over yX2_over, Cond.code yX2_over cX2_over 2 (some .boolean), Cond.methodLink RX2 103 yX2_setWorth, Cond.instanceMethod yX2_setWorth, Cond.selects RX2 yX2_setWorth yX2_setWorth, Cond.code yX2_setWorth cX2_setWorth 2 none, Cond.fieldLink RX2 26 "WorthCacheModel" "worths" "[J", Cond.fieldLink RX2 67 "WorthCacheModel" "clockNow" "J", Cond.constantLong RX2 81 (1000), Cond.fieldLink RX2 83 "WorthCacheModel" "stamp" "J", Cond.fieldLink RX2 33 "WorthCacheModel" "stamps" "[J", Cond.methodLink RX2 122 yX2_makesRoom, Cond.instanceMethod yX2_makesRoom, Cond.selects RX2 yX2_makesRoom yX2_makesRoom, Cond.code yX2_makesRoom cX2_makesRoom 3 (some .boolean), Cond.methodLink RX2 86 yX2_usedBytes, Cond.instanceMethod yX2_usedBytes, Cond.selects RX2 yX2_usedBytes yX2_usedBytes, Cond.code yX2_usedBytes cX2_usedBytes 3 (some .int), Cond.methodLink RX2 90 yX2_removeOver, Cond.instanceMethod yX2_removeOver]
def wsX2_fetch_r3 : List Cond := [Cond.selects RX2 yX2_removeOver yX2_removeOver, Cond.code yX2_removeOver cX2_removeOver 3 (some .int), Cond.methodLink RX2 93 yX2_pinnedBytes, Cond.instanceMethod yX2_pinnedBytes, Cond.selects RX2 yX2_pinnedBytes yX2_pinnedBytes, Cond.code yX2_pinnedBytes cX2_pinnedBytes 4 (some .int), Cond.methodLink RX2 97 yX2_firstLeaves, Cond.instanceMethod yX2_firstLeaves, Cond.selects RX2 yX2_firstLeaves yX2_firstLeaves, Cond.code yX2_firstLeaves cX2_firstLeaves 2 none, Cond.fieldLink RX2 71 "WorthCacheModel" "leftMany" "I", Cond.methodLink RX2 64 yX2_at, Cond.instanceMethod yX2_at, Cond.selects RX2 yX2_at yX2_at, Cond.code yX2_at cX2_at 3 (some .int), Cond.methodLink RX2 60 yX2_place, Cond.instanceMethod yX2_place, Cond.selects RX2 yX2_place yX2_place, Cond.code yX2_place cX2_place 4 (some .int), Cond.methodLink RX2 56 yX2_isAhead, Cond.instanceMethod yX2_isAhead, Cond.selects RX2 yX2_isAhead yX2_isAhead, Cond.code yX2_isAhead cX2_isAhead 3 (some .boolean)]
def wsX2_fetch : List Cond := .code yX2_fetch cX2_fetch 6 (some .int) :: ((wsX2_fetch_r1 ++ (wsX2_fetch_r2 ++ wsX2_fetch_r3)) ++ wsX20)
def wsX2_pass : List Cond := .code yX2_pass cX2_pass 2 (some .int) :: ([.fieldLink RX2 46 "WorthCacheModel" "thrown" "I", .fieldLink RX2 53 "WorthCacheModel" "now" "I", .methodLink RX2 49 yX2_in, .static yX2_in, .initialized RX2, .code yX2_in cX2_in 3 (some .boolean)] ++ wsX20)
def wsX2_hasEntry : List Cond := .code yX2_hasEntry cX2_hasEntry 2 (some .boolean) :: ([.fieldLink RX2 7 "WorthCacheModel" "isIn" "[Z", .fieldLink RX2 46 "WorthCacheModel" "thrown" "I", .methodLink RX2 100 yX2_isThing, .instanceMethod yX2_isThing, .selects RX2 yX2_isThing yX2_isThing, .initialized RX2, .code yX2_isThing cX2_isThing 2 (some .boolean), .methodLink RX2 49 yX2_in, .static yX2_in, .code yX2_in cX2_in 3 (some .boolean)] ++ wsX20)
def wsX2_pin : List Cond := .code yX2_pin cX2_pin 4 (some .boolean) :: ([.fieldLink RX2 13 "WorthCacheModel" "isPinned" "[Z", .methodLink RX2 125 yX2_hasEntry, .instanceMethod yX2_hasEntry, .selects RX2 yX2_hasEntry yX2_hasEntry, .initialized RX2, .code yX2_hasEntry cX2_hasEntry 2 (some .boolean), .fieldLink RX2 7 "WorthCacheModel" "isIn" "[Z", .fieldLink RX2 46 "WorthCacheModel" "thrown" "I", .methodLink RX2 100 yX2_isThing, .instanceMethod yX2_isThing, .selects RX2 yX2_isThing yX2_isThing, .code yX2_isThing cX2_isThing 2 (some .boolean), .methodLink RX2 49 yX2_in, .static yX2_in, .code yX2_in cX2_in 3 (some .boolean)] ++ wsX20)
def wsX2_drop : List Cond := .code yX2_drop cX2_drop 2 (some .int) :: ([.fieldLink RX2 7 "WorthCacheModel" "isIn" "[Z", .fieldLink RX2 16 "WorthCacheModel" "sizes" "[I", .methodLink RX2 125 yX2_hasEntry, .instanceMethod yX2_hasEntry, .selects RX2 yX2_hasEntry yX2_hasEntry, .initialized RX2, .code yX2_hasEntry cX2_hasEntry 2 (some .boolean), .fieldLink RX2 46 "WorthCacheModel" "thrown" "I", .methodLink RX2 100 yX2_isThing, .instanceMethod yX2_isThing, .selects RX2 yX2_isThing yX2_isThing, .code yX2_isThing cX2_isThing 2 (some .boolean), .methodLink RX2 49 yX2_in, .static yX2_in, .code yX2_in cX2_in 3 (some .boolean)] ++ wsX20)
def wsX2_purge : List Cond := .code yX2_purge cX2_purge 1 (some .int) :: ([.fieldLink RX2 46 "WorthCacheModel" "thrown" "I", .methodLink RX2 90 yX2_removeOver, .instanceMethod yX2_removeOver, .selects RX2 yX2_removeOver yX2_removeOver, .initialized RX2, .code yX2_removeOver cX2_removeOver 3 (some .int), .fieldLink RX2 7 "WorthCacheModel" "isIn" "[Z", .fieldLink RX2 78 "WorthCacheModel" "overMany" "I", .methodLink RX2 74 yX2_over, .instanceMethod yX2_over, .selects RX2 yX2_over yX2_over, .code yX2_over cX2_over 2 (some .boolean), .fieldLink RX2 53 "WorthCacheModel" "now" "I", .fieldLink RX2 30 "WorthCacheModel" "ends" "[I"] ++ wsX20)
def wsX2_setCapacity_r1 : List Cond := [Cond.fieldLink RX2 46 "WorthCacheModel" "thrown" "I", Cond.fieldLink RX2 39 "WorthCacheModel" "capacity" "I", Cond.methodLink RX2 49 yX2_in, Cond.static yX2_in, Cond.initialized RX2, Cond.code yX2_in cX2_in 3 (some .boolean), Cond.methodLink RX2 93 yX2_pinnedBytes, Cond.instanceMethod yX2_pinnedBytes, Cond.selects RX2 yX2_pinnedBytes yX2_pinnedBytes, Cond.code yX2_pinnedBytes cX2_pinnedBytes 4 (some .int), Cond.fieldLink RX2 7 "WorthCacheModel" "isIn" "[Z", Cond.fieldLink RX2 13 "WorthCacheModel" "isPinned" "[Z", Cond.fieldLink RX2 16 "WorthCacheModel" "sizes" "[I", Cond.methodLink RX2 74 yX2_over, Cond.instanceMethod yX2_over, Cond.selects RX2 yX2_over yX2_over, Cond.code yX2_over cX2_over 2 (some .boolean), Cond.fieldLink RX2 53 "WorthCacheModel" "now" "I", Cond.fieldLink RX2 30 "WorthCacheModel" "ends" "[I", Cond.methodLink RX2 86 yX2_usedBytes, Cond.instanceMethod yX2_usedBytes, Cond.selects RX2 yX2_usedBytes yX2_usedBytes, Cond.code yX2_usedBytes cX2_usedBytes 3 (some .int), Cond.methodLink RX2 90 yX2_removeOver]
def wsX2_setCapacity_r2 : List Cond := [Cond.instanceMethod yX2_removeOver, Cond.selects RX2 yX2_removeOver yX2_removeOver, Cond.code yX2_removeOver cX2_removeOver 3 (some .int), Cond.fieldLink RX2 78 "WorthCacheModel" "overMany" "I", Cond.methodLink RX2 97 yX2_firstLeaves, Cond.instanceMethod yX2_firstLeaves, Cond.selects RX2 yX2_firstLeaves yX2_firstLeaves, Cond.code yX2_firstLeaves cX2_firstLeaves 2 none, Cond.fieldLink RX2 26 "WorthCacheModel" "worths" "[J", Cond.fieldLink RX2 67 "WorthCacheModel" "clockNow" "J", Cond.fieldLink RX2 71 "WorthCacheModel" "leftMany" "I", Cond.methodLink RX2 64 yX2_at, Cond.instanceMethod yX2_at, Cond.selects RX2 yX2_at yX2_at, Cond.code yX2_at cX2_at 3 (some .int), Cond.methodLink RX2 60 yX2_place, Cond.instanceMethod yX2_place, Cond.selects RX2 yX2_place yX2_place, Cond.code yX2_place cX2_place 4 (some .int), Cond.methodLink RX2 56 yX2_isAhead, Cond.instanceMethod yX2_isAhead, Cond.selects RX2 yX2_isAhead yX2_isAhead, Cond.code yX2_isAhead cX2_isAhead 3 (some .boolean), Cond.fieldLink RX2 33 "WorthCacheModel" "stamps" "[J"]
def wsX2_setCapacity : List Cond := .code yX2_setCapacity cX2_setCapacity 3 (some .int) :: ((wsX2_setCapacity_r1 ++ wsX2_setCapacity_r2) ++ wsX20)
def wsX2_setThreshold : List Cond := .code yX2_setThreshold cX2_setThreshold 3 (some .int) :: ([.fieldLink RX2 46 "WorthCacheModel" "thrown" "I", .fieldLink RX2 43 "WorthCacheModel" "threshold" "I", .methodLink RX2 49 yX2_in, .static yX2_in, .initialized RX2, .code yX2_in cX2_in 3 (some .boolean)] ++ wsX20)
def wsX2_has : List Cond := .code yX2_has cX2_has 2 (some .boolean) :: ([.fieldLink RX2 7 "WorthCacheModel" "isIn" "[Z", .methodLink RX2 100 yX2_isThing, .instanceMethod yX2_isThing, .selects RX2 yX2_isThing yX2_isThing, .initialized RX2, .code yX2_isThing cX2_isThing 2 (some .boolean), .fieldLink RX2 46 "WorthCacheModel" "thrown" "I", .methodLink RX2 49 yX2_in, .static yX2_in, .code yX2_in cX2_in 3 (some .boolean)] ++ wsX20)
def wsX2_isOver : List Cond := .code yX2_isOver cX2_isOver 2 (some .boolean) :: ([.methodLink RX2 100 yX2_isThing, .instanceMethod yX2_isThing, .selects RX2 yX2_isThing yX2_isThing, .initialized RX2, .code yX2_isThing cX2_isThing 2 (some .boolean), .fieldLink RX2 46 "WorthCacheModel" "thrown" "I", .methodLink RX2 49 yX2_in, .static yX2_in, .code yX2_in cX2_in 3 (some .boolean), .methodLink RX2 74 yX2_over, .instanceMethod yX2_over, .selects RX2 yX2_over yX2_over, .code yX2_over cX2_over 2 (some .boolean), .fieldLink RX2 7 "WorthCacheModel" "isIn" "[Z", .fieldLink RX2 53 "WorthCacheModel" "now" "I", .fieldLink RX2 30 "WorthCacheModel" "ends" "[I"] ++ wsX20)
def wsX2_sizeOf : List Cond := .code yX2_sizeOf cX2_sizeOf 2 (some .int) :: ([.fieldLink RX2 7 "WorthCacheModel" "isIn" "[Z", .fieldLink RX2 16 "WorthCacheModel" "sizes" "[I", .methodLink RX2 100 yX2_isThing, .instanceMethod yX2_isThing, .selects RX2 yX2_isThing yX2_isThing, .initialized RX2, .code yX2_isThing cX2_isThing 2 (some .boolean), .fieldLink RX2 46 "WorthCacheModel" "thrown" "I", .methodLink RX2 49 yX2_in, .static yX2_in, .code yX2_in cX2_in 3 (some .boolean)] ++ wsX20)
def wsX2_frequencyOf : List Cond := .code yX2_frequencyOf cX2_frequencyOf 2 (some .int) :: ([.fieldLink RX2 7 "WorthCacheModel" "isIn" "[Z", .fieldLink RX2 23 "WorthCacheModel" "frequencies" "[I", .methodLink RX2 100 yX2_isThing, .instanceMethod yX2_isThing, .selects RX2 yX2_isThing yX2_isThing, .initialized RX2, .code yX2_isThing cX2_isThing 2 (some .boolean), .fieldLink RX2 46 "WorthCacheModel" "thrown" "I", .methodLink RX2 49 yX2_in, .static yX2_in, .code yX2_in cX2_in 3 (some .boolean)] ++ wsX20)
def wsX2_worthOf : List Cond := .code yX2_worthOf cX2_worthOf 2 (some .long) :: ([.fieldLink RX2 7 "WorthCacheModel" "isIn" "[Z", .fieldLink RX2 26 "WorthCacheModel" "worths" "[J", .constantLong RX2 128 (-1), .methodLink RX2 100 yX2_isThing, .instanceMethod yX2_isThing, .selects RX2 yX2_isThing yX2_isThing, .initialized RX2, .code yX2_isThing cX2_isThing 2 (some .boolean), .fieldLink RX2 46 "WorthCacheModel" "thrown" "I", .methodLink RX2 49 yX2_in, .static yX2_in, .code yX2_in cX2_in 3 (some .boolean)] ++ wsX20)
def wsX2_endOf : List Cond := .code yX2_endOf cX2_endOf 2 (some .int) :: ([.fieldLink RX2 7 "WorthCacheModel" "isIn" "[Z", .fieldLink RX2 30 "WorthCacheModel" "ends" "[I", .methodLink RX2 100 yX2_isThing, .instanceMethod yX2_isThing, .selects RX2 yX2_isThing yX2_isThing, .initialized RX2, .code yX2_isThing cX2_isThing 2 (some .boolean), .fieldLink RX2 46 "WorthCacheModel" "thrown" "I", .methodLink RX2 49 yX2_in, .static yX2_in, .code yX2_in cX2_in 3 (some .boolean)] ++ wsX20)
def wsX2_leaving : List Cond := .code yX2_leaving cX2_leaving 3 (some .int) :: ([.fieldLink RX2 46 "WorthCacheModel" "thrown" "I", .methodLink RX2 64 yX2_at, .instanceMethod yX2_at, .selects RX2 yX2_at yX2_at, .initialized RX2, .code yX2_at cX2_at 3 (some .int), .methodLink RX2 60 yX2_place, .instanceMethod yX2_place, .selects RX2 yX2_place yX2_place, .code yX2_place cX2_place 4 (some .int), .fieldLink RX2 7 "WorthCacheModel" "isIn" "[Z", .fieldLink RX2 13 "WorthCacheModel" "isPinned" "[Z", .methodLink RX2 56 yX2_isAhead, .instanceMethod yX2_isAhead, .selects RX2 yX2_isAhead yX2_isAhead, .code yX2_isAhead cX2_isAhead 3 (some .boolean), .fieldLink RX2 26 "WorthCacheModel" "worths" "[J", .fieldLink RX2 33 "WorthCacheModel" "stamps" "[J"] ++ wsX20)
def wsX2_placeOf : List Cond := .code yX2_placeOf cX2_placeOf 2 (some .int) :: ([.methodLink RX2 100 yX2_isThing, .instanceMethod yX2_isThing, .selects RX2 yX2_isThing yX2_isThing, .initialized RX2, .code yX2_isThing cX2_isThing 2 (some .boolean), .fieldLink RX2 46 "WorthCacheModel" "thrown" "I", .methodLink RX2 49 yX2_in, .static yX2_in, .code yX2_in cX2_in 3 (some .boolean), .methodLink RX2 60 yX2_place, .instanceMethod yX2_place, .selects RX2 yX2_place yX2_place, .code yX2_place cX2_place 4 (some .int), .fieldLink RX2 7 "WorthCacheModel" "isIn" "[Z", .fieldLink RX2 13 "WorthCacheModel" "isPinned" "[Z", .methodLink RX2 56 yX2_isAhead, .instanceMethod yX2_isAhead, .selects RX2 yX2_isAhead yX2_isAhead, .code yX2_isAhead cX2_isAhead 3 (some .boolean), .fieldLink RX2 26 "WorthCacheModel" "worths" "[J", .fieldLink RX2 33 "WorthCacheModel" "stamps" "[J"] ++ wsX20)
def wsX2_endsFirst : List Cond := .code yX2_endsFirst cX2_endsFirst 3 (some .int) :: ([.fieldLink RX2 46 "WorthCacheModel" "thrown" "I", .fieldLink RX2 7 "WorthCacheModel" "isIn" "[Z", .fieldLink RX2 30 "WorthCacheModel" "ends" "[I"] ++ wsX20)
def wsX2_wouldLeave_r1 : List Cond := [Cond.fieldLink RX2 46 "WorthCacheModel" "thrown" "I", Cond.fieldLink RX2 39 "WorthCacheModel" "capacity" "I", Cond.fieldLink RX2 16 "WorthCacheModel" "sizes" "[I", Cond.methodLink RX2 49 yX2_in, Cond.static yX2_in, Cond.initialized RX2, Cond.code yX2_in cX2_in 3 (some .boolean), Cond.methodLink RX2 86 yX2_usedBytes, Cond.instanceMethod yX2_usedBytes, Cond.selects RX2 yX2_usedBytes yX2_usedBytes, Cond.code yX2_usedBytes cX2_usedBytes 3 (some .int), Cond.fieldLink RX2 7 "WorthCacheModel" "isIn" "[Z", Cond.methodLink RX2 93 yX2_pinnedBytes, Cond.instanceMethod yX2_pinnedBytes, Cond.selects RX2 yX2_pinnedBytes yX2_pinnedBytes, Cond.code yX2_pinnedBytes cX2_pinnedBytes 4 (some .int), Cond.fieldLink RX2 13 "WorthCacheModel" "isPinned" "[Z", Cond.methodLink RX2 74 yX2_over, Cond.instanceMethod yX2_over, Cond.selects RX2 yX2_over yX2_over, Cond.code yX2_over cX2_over 2 (some .boolean), Cond.fieldLink RX2 53 "WorthCacheModel" "now" "I", Cond.fieldLink RX2 30 "WorthCacheModel" "ends" "[I", Cond.methodLink RX2 64 yX2_at]
def wsX2_wouldLeave_r2 : List Cond := [Cond.instanceMethod yX2_at, Cond.selects RX2 yX2_at yX2_at, Cond.code yX2_at cX2_at 3 (some .int), Cond.methodLink RX2 60 yX2_place, Cond.instanceMethod yX2_place, Cond.selects RX2 yX2_place yX2_place, Cond.code yX2_place cX2_place 4 (some .int), Cond.methodLink RX2 56 yX2_isAhead, Cond.instanceMethod yX2_isAhead, Cond.selects RX2 yX2_isAhead yX2_isAhead, Cond.code yX2_isAhead cX2_isAhead 3 (some .boolean), Cond.fieldLink RX2 26 "WorthCacheModel" "worths" "[J", Cond.fieldLink RX2 33 "WorthCacheModel" "stamps" "[J"]
def wsX2_wouldLeave : List Cond := .code yX2_wouldLeave cX2_wouldLeave 6 (some .int) :: ((wsX2_wouldLeave_r1 ++ wsX2_wouldLeave_r2) ++ wsX20)
def wsX2_time : List Cond := .code yX2_time cX2_time 1 (some .int) :: ([.fieldLink RX2 46 "WorthCacheModel" "thrown" "I", .fieldLink RX2 53 "WorthCacheModel" "now" "I"] ++ wsX20)
def wsX2_clock : List Cond := .code yX2_clock cX2_clock 1 (some .long) :: ([.fieldLink RX2 46 "WorthCacheModel" "thrown" "I", .fieldLink RX2 67 "WorthCacheModel" "clockNow" "J"] ++ wsX20)
def wsX2_capacity : List Cond := .code yX2_capacity cX2_capacity 1 (some .int) :: ([.fieldLink RX2 46 "WorthCacheModel" "thrown" "I", .fieldLink RX2 39 "WorthCacheModel" "capacity" "I"] ++ wsX20)
def wsX2_entries : List Cond := .code yX2_entries cX2_entries 3 (some .int) :: ([.fieldLink RX2 46 "WorthCacheModel" "thrown" "I", .fieldLink RX2 7 "WorthCacheModel" "isIn" "[Z"] ++ wsX20)
def wsX2_used : List Cond := .code yX2_used cX2_used 1 (some .int) :: ([.fieldLink RX2 46 "WorthCacheModel" "thrown" "I", .methodLink RX2 86 yX2_usedBytes, .instanceMethod yX2_usedBytes, .selects RX2 yX2_usedBytes yX2_usedBytes, .initialized RX2, .code yX2_usedBytes cX2_usedBytes 3 (some .int), .fieldLink RX2 7 "WorthCacheModel" "isIn" "[Z", .fieldLink RX2 16 "WorthCacheModel" "sizes" "[I"] ++ wsX20)
def wsX2_hits : List Cond := .code yX2_hits cX2_hits 1 (some .int) :: ([.fieldLink RX2 46 "WorthCacheModel" "thrown" "I", .fieldLink RX2 107 "WorthCacheModel" "hitMany" "I"] ++ wsX20)
def wsX2_misses : List Cond := .code yX2_misses cX2_misses 1 (some .int) :: ([.fieldLink RX2 46 "WorthCacheModel" "thrown" "I", .fieldLink RX2 116 "WorthCacheModel" "missMany" "I"] ++ wsX20)
def wsX2_bytesHit : List Cond := .code yX2_bytesHit cX2_bytesHit 1 (some .long) :: ([.fieldLink RX2 46 "WorthCacheModel" "thrown" "I", .fieldLink RX2 110 "WorthCacheModel" "hitBytes" "J"] ++ wsX20)
def wsX2_saved : List Cond := .code yX2_saved cX2_saved 1 (some .long) :: ([.fieldLink RX2 46 "WorthCacheModel" "thrown" "I", .fieldLink RX2 113 "WorthCacheModel" "hitPrices" "J"] ++ wsX20)
def wsX2_paid : List Cond := .code yX2_paid cX2_paid 1 (some .long) :: ([.fieldLink RX2 46 "WorthCacheModel" "thrown" "I", .fieldLink RX2 119 "WorthCacheModel" "missPrices" "J"] ++ wsX20)
def wsX2_left : List Cond := .code yX2_left cX2_left 1 (some .int) :: ([.fieldLink RX2 46 "WorthCacheModel" "thrown" "I", .fieldLink RX2 71 "WorthCacheModel" "leftMany" "I"] ++ wsX20)
def wsX2_removedOver : List Cond := .code yX2_removedOver cX2_removedOver 1 (some .int) :: ([.fieldLink RX2 46 "WorthCacheModel" "thrown" "I", .fieldLink RX2 78 "WorthCacheModel" "overMany" "I"] ++ wsX20)
def wsJ9_max_f86c9 : List Cond := .code yJ9_max_f86c9 cJ9_max_f86c9 4 (some .long) :: ([])
def wsL_fetch_r1 : List Cond := [Cond.classLink RL 13 "java/lang/IndexOutOfBoundsException", Cond.classLink RL 15 "java/lang/IllegalArgumentException", Cond.methodLink RL 7 yX1_fetch, Cond.instanceMethod yX1_fetch, Cond.selects RX1 yX1_fetch yX1_fetch, Cond.initialized RX1, Cond.code yX1_fetch cX1_fetch 6 (some .int), Cond.methodLink RX1 25 yX1_slotOf, Cond.instanceMethod yX1_slotOf, Cond.selects RX1 yX1_slotOf yX1_slotOf, Cond.code yX1_slotOf cX1_slotOf 2 (some (.object "WorthCache$Slot")), Cond.classLink RX1 105 "java/lang/IndexOutOfBoundsException", Cond.initialized "java/lang/IndexOutOfBoundsException", Cond.fieldLink RX1 11 "WorthCache" "slots" "[LWorthCache$Slot;", Cond.methodLink RX1 29 yX1_requireWithin, Cond.static yX1_requireWithin, Cond.code yX1_requireWithin cX1_requireWithin 3 none, Cond.classLink RX1 151 "java/lang/IllegalArgumentException", Cond.initialized "java/lang/IllegalArgumentException", Cond.methodLink RX1 37 yX1_hasEnded, Cond.instanceMethod yX1_hasEnded, Cond.selects RX1 yX1_hasEnded yX1_hasEnded, Cond.code yX1_hasEnded cX1_hasEnded 2 (some .boolean), Cond.fieldLink RX1 55 "WorthCache" "time" "I"]
def wsL_fetch_r2 : List Cond := [Cond.methodLink RX1 44 yX1_hit, Cond.instanceMethod yX1_hit, Cond.selects RX1 yX1_hit yX1_hit, Cond.code yX1_hit cX1_hit 3 none, Cond.fieldLink RX1 126 "WorthCache" "hits" "I", Cond.fieldLink RX1 132 "WorthCache" "bytesHit" "J", Cond.fieldLink RX1 135 "WorthCache" "saved" "J", Cond.methodLink RX1 156 yX1_setWorth, Cond.instanceMethod yX1_setWorth, Cond.selects RX1 yX1_setWorth yX1_setWorth, Cond.code yX1_setWorth cX1_setWorth 3 none, Cond.fieldLink RX1 180 "WorthCache" "uses" "J", Cond.fieldLink RX1 123 "WorthCache" "clock" "J", Cond.constantLong RX1 186 (1000), Cond.methodLink RX1 48 yX1_countMiss, Cond.instanceMethod yX1_countMiss, Cond.selects RX1 yX1_countMiss yX1_countMiss, Cond.code yX1_countMiss cX1_countMiss 2 none, Cond.fieldLink RX1 129 "WorthCache" "misses" "I", Cond.fieldLink RX1 138 "WorthCache" "paid" "J", Cond.methodLink RX1 51 yX1_letInIfPossible, Cond.instanceMethod yX1_letInIfPossible, Cond.selects RX1 yX1_letInIfPossible yX1_letInIfPossible, Cond.code yX1_letInIfPossible cX1_letInIfPossible 6 (some .boolean)]
def wsL_fetch_r3 : List Cond := [Cond.fieldLink RX1 15 "WorthCache" "capacity" "I", Cond.fieldLink RX1 19 "WorthCache" "threshold" "I", Cond.methodLink RX1 159 yX1_wasMissedLately, Cond.instanceMethod yX1_wasMissedLately, Cond.selects RX1 yX1_wasMissedLately yX1_wasMissedLately, Cond.code yX1_wasMissedLately cX1_wasMissedLately 2 (some .boolean), Cond.methodLink RX1 165 yX1_removeOwn, Cond.instanceMethod yX1_removeOwn, Cond.selects RX1 yX1_removeOwn yX1_removeOwn, Cond.code yX1_removeOwn cX1_removeOwn 2 none, Cond.fieldLink RX1 144 "WorthCache" "removedOver" "I", Cond.methodLink RX1 169 yX1_makeRoom, Cond.instanceMethod yX1_makeRoom, Cond.selects RX1 yX1_makeRoom yX1_makeRoom, Cond.code yX1_makeRoom cX1_makeRoom 2 (some .boolean), Cond.methodLink RX1 177 yX1_hasRoom, Cond.instanceMethod yX1_hasRoom, Cond.selects RX1 yX1_hasRoom yX1_hasRoom, Cond.code yX1_hasRoom cX1_hasRoom 2 (some .boolean), Cond.methodLink RX1 78 yX1_used, Cond.instanceMethod yX1_used, Cond.selects RX1 yX1_used yX1_used, Cond.code yX1_used cX1_used 6 (some .int), Cond.methodLink RX1 64 yX1_removeAllOver]
def wsL_fetch_r4 : List Cond := [Cond.instanceMethod yX1_removeAllOver, Cond.selects RX1 yX1_removeAllOver yX1_removeAllOver, Cond.code yX1_removeAllOver cX1_removeAllOver 6 (some .int), Cond.methodLink RX1 68 yX1_bytesThatCannotLeave, Cond.instanceMethod yX1_bytesThatCannotLeave, Cond.selects RX1 yX1_bytesThatCannotLeave yX1_bytesThatCannotLeave, Cond.code yX1_bytesThatCannotLeave cX1_bytesThatCannotLeave 6 (some .int), Cond.methodLink RX1 81 yX1_leaveDownTo, Cond.instanceMethod yX1_leaveDownTo, Cond.selects RX1 yX1_leaveDownTo yX1_leaveDownTo, Cond.code yX1_leaveDownTo cX1_leaveDownTo 4 (some .int), Cond.methodLink RX1 188 Lib.MathLoose.max_long.x, Cond.static Lib.MathLoose.max_long.x, Cond.initialized "java/lang/Math", Cond.code Lib.MathLoose.max_long.x Lib.MathLoose.max_long.code 4 (some .long), Cond.fieldLink RX1 141 "WorthCache" "left" "I", Cond.methodLink RX1 97 yX1_firstInOrder, Cond.instanceMethod yX1_firstInOrder, Cond.selects RX1 yX1_firstInOrder yX1_firstInOrder, Cond.code yX1_firstInOrder cX1_firstInOrder 1 (some (.object "WorthCache$Slot")), Cond.methodLink RX1 101 yX1_nextInOrder, Cond.instanceMethod yX1_nextInOrder, Cond.selects RX1 yX1_nextInOrder yX1_nextInOrder, Cond.code yX1_nextInOrder cX1_nextInOrder 8 (some (.object "WorthCache$Slot"))]
def wsL_fetch_r5 : List Cond := [Cond.methodLink RX1 116 yX1_leavesBefore, Cond.static yX1_leavesBefore, Cond.code yX1_leavesBefore cX1_leavesBefore 2 (some .boolean), Cond.methodLink RX1 113 yX1_isInOrder, Cond.static yX1_isInOrder, Cond.code yX1_isInOrder cX1_isInOrder 1 (some .boolean), Cond.methodLink RX1 173 yX1_fill, Cond.instanceMethod yX1_fill, Cond.selects RX1 yX1_fill yX1_fill, Cond.code yX1_fill cX1_fill 5 none]
def wsL_fetch : List Cond := .codeWith yL_fetch cL_fetch 7 (some .int) [(0, 14, 17, 13), (0, 14, 21, 15)] :: ((wsL_fetch_r1 ++ (wsL_fetch_r2 ++ (wsL_fetch_r3 ++ (wsL_fetch_r4 ++ wsL_fetch_r5)))) ++ wsX00 ++ wsX10 ++ (vx_atS RX1 109 "java/lang/IndexOutOfBoundsException" ["java/lang/RuntimeException", "java/lang/Exception"]).filter goodWord ++ (vx_atS RX1 155 "java/lang/IllegalArgumentException" ["java/lang/RuntimeException", "java/lang/Exception"]).filter goodWord)
def wsL_pass : List Cond := .codeWith yL_pass cL_pass 4 (some .int) [(0, 9, 12, 15)] :: ([.classLink RL 15 "java/lang/IllegalArgumentException", .methodLink RL 17 yX1_pass, .instanceMethod yX1_pass, .selects RX1 yX1_pass yX1_pass, .initialized RX1, .code yX1_pass cX1_pass 2 (some .int), .fieldLink RX1 55 "WorthCache" "time" "I", .methodLink RX1 29 yX1_requireWithin, .static yX1_requireWithin, .code yX1_requireWithin cX1_requireWithin 3 none, .classLink RX1 151 "java/lang/IllegalArgumentException", .initialized "java/lang/IllegalArgumentException"] ++ wsX10 ++ (vx_atS RX1 155 "java/lang/IllegalArgumentException" ["java/lang/RuntimeException", "java/lang/Exception"]).filter goodWord)
def wsL_pin : List Cond := .codeWith yL_pin cL_pin 5 (some .int) [(0, 17, 20, 13), (0, 17, 24, 25)] :: ([.classLink RL 13 "java/lang/IndexOutOfBoundsException", .classLink RL 25 "java/lang/IllegalStateException", .methodLink RL 21 yX1_pin, .instanceMethod yX1_pin, .selects RX1 yX1_pin yX1_pin, .initialized RX1, .code yX1_pin cX1_pin 5 (some .boolean), .methodLink RX1 58 yX1_filledSlotOf, .instanceMethod yX1_filledSlotOf, .selects RX1 yX1_filledSlotOf yX1_filledSlotOf, .code yX1_filledSlotOf cX1_filledSlotOf 3 (some (.object "WorthCache$Slot")), .classLink RX1 71 "java/lang/IllegalStateException", .initialized "java/lang/IllegalStateException", .methodLink RX1 25 yX1_slotOf, .instanceMethod yX1_slotOf, .selects RX1 yX1_slotOf yX1_slotOf, .code yX1_slotOf cX1_slotOf 2 (some (.object "WorthCache$Slot")), .classLink RX1 105 "java/lang/IndexOutOfBoundsException", .initialized "java/lang/IndexOutOfBoundsException", .fieldLink RX1 11 "WorthCache" "slots" "[LWorthCache$Slot;"] ++ wsX00 ++ wsX10 ++ (vx_atS RX1 75 "java/lang/IllegalStateException" ["java/lang/RuntimeException", "java/lang/Exception"]).filter goodWord ++ (vx_atS RX1 109 "java/lang/IndexOutOfBoundsException" ["java/lang/RuntimeException", "java/lang/Exception"]).filter goodWord)
def wsL_drop : List Cond := .codeWith yL_drop cL_drop 4 (some .int) [(0, 9, 12, 13), (0, 9, 15, 25)] :: ([.classLink RL 13 "java/lang/IndexOutOfBoundsException", .classLink RL 25 "java/lang/IllegalStateException", .methodLink RL 27 yX1_drop, .instanceMethod yX1_drop, .selects RX1 yX1_drop yX1_drop, .initialized RX1, .code yX1_drop cX1_drop 3 (some .int), .methodLink RX1 58 yX1_filledSlotOf, .instanceMethod yX1_filledSlotOf, .selects RX1 yX1_filledSlotOf yX1_filledSlotOf, .code yX1_filledSlotOf cX1_filledSlotOf 3 (some (.object "WorthCache$Slot")), .classLink RX1 71 "java/lang/IllegalStateException", .initialized "java/lang/IllegalStateException", .methodLink RX1 25 yX1_slotOf, .instanceMethod yX1_slotOf, .selects RX1 yX1_slotOf yX1_slotOf, .code yX1_slotOf cX1_slotOf 2 (some (.object "WorthCache$Slot")), .classLink RX1 105 "java/lang/IndexOutOfBoundsException", .initialized "java/lang/IndexOutOfBoundsException", .fieldLink RX1 11 "WorthCache" "slots" "[LWorthCache$Slot;"] ++ wsX00 ++ wsX10 ++ (vx_atS RX1 75 "java/lang/IllegalStateException" ["java/lang/RuntimeException", "java/lang/Exception"]).filter goodWord ++ (vx_atS RX1 109 "java/lang/IndexOutOfBoundsException" ["java/lang/RuntimeException", "java/lang/Exception"]).filter goodWord)
def wsL_setCapacity_r1 : List Cond := [Cond.classLink RL 15 "java/lang/IllegalArgumentException", Cond.classLink RL 25 "java/lang/IllegalStateException", Cond.methodLink RL 30 yX1_setCapacity, Cond.instanceMethod yX1_setCapacity, Cond.selects RX1 yX1_setCapacity yX1_setCapacity, Cond.initialized RX1, Cond.code yX1_setCapacity cX1_setCapacity 2 (some .int), Cond.classLink RX1 71 "java/lang/IllegalStateException", Cond.initialized "java/lang/IllegalStateException", Cond.fieldLink RX1 15 "WorthCache" "capacity" "I", Cond.methodLink RX1 29 yX1_requireWithin, Cond.static yX1_requireWithin, Cond.code yX1_requireWithin cX1_requireWithin 3 none, Cond.classLink RX1 151 "java/lang/IllegalArgumentException", Cond.initialized "java/lang/IllegalArgumentException", Cond.methodLink RX1 68 yX1_bytesThatCannotLeave, Cond.instanceMethod yX1_bytesThatCannotLeave, Cond.selects RX1 yX1_bytesThatCannotLeave yX1_bytesThatCannotLeave, Cond.code yX1_bytesThatCannotLeave cX1_bytesThatCannotLeave 6 (some .int), Cond.fieldLink RX1 11 "WorthCache" "slots" "[LWorthCache$Slot;", Cond.methodLink RX1 37 yX1_hasEnded, Cond.instanceMethod yX1_hasEnded, Cond.selects RX1 yX1_hasEnded yX1_hasEnded, Cond.code yX1_hasEnded cX1_hasEnded 2 (some .boolean)]
def wsL_setCapacity_r2 : List Cond := [Cond.fieldLink RX1 55 "WorthCache" "time" "I", Cond.methodLink RX1 78 yX1_used, Cond.instanceMethod yX1_used, Cond.selects RX1 yX1_used yX1_used, Cond.code yX1_used cX1_used 6 (some .int), Cond.methodLink RX1 64 yX1_removeAllOver, Cond.instanceMethod yX1_removeAllOver, Cond.selects RX1 yX1_removeAllOver yX1_removeAllOver, Cond.code yX1_removeAllOver cX1_removeAllOver 6 (some .int), Cond.fieldLink RX1 144 "WorthCache" "removedOver" "I", Cond.methodLink RX1 81 yX1_leaveDownTo, Cond.instanceMethod yX1_leaveDownTo, Cond.selects RX1 yX1_leaveDownTo yX1_leaveDownTo, Cond.code yX1_leaveDownTo cX1_leaveDownTo 4 (some .int), Cond.fieldLink RX1 123 "WorthCache" "clock" "J", Cond.methodLink RX1 188 Lib.MathLoose.max_long.x, Cond.static Lib.MathLoose.max_long.x, Cond.initialized "java/lang/Math", Cond.code Lib.MathLoose.max_long.x Lib.MathLoose.max_long.code 4 (some .long), Cond.fieldLink RX1 141 "WorthCache" "left" "I", Cond.methodLink RX1 97 yX1_firstInOrder, Cond.instanceMethod yX1_firstInOrder, Cond.selects RX1 yX1_firstInOrder yX1_firstInOrder, Cond.code yX1_firstInOrder cX1_firstInOrder 1 (some (.object "WorthCache$Slot"))]
def wsL_setCapacity_r3 : List Cond := [Cond.methodLink RX1 101 yX1_nextInOrder, Cond.instanceMethod yX1_nextInOrder, Cond.selects RX1 yX1_nextInOrder yX1_nextInOrder, Cond.code yX1_nextInOrder cX1_nextInOrder 8 (some (.object "WorthCache$Slot")), Cond.methodLink RX1 116 yX1_leavesBefore, Cond.static yX1_leavesBefore, Cond.code yX1_leavesBefore cX1_leavesBefore 2 (some .boolean), Cond.methodLink RX1 113 yX1_isInOrder, Cond.static yX1_isInOrder, Cond.code yX1_isInOrder cX1_isInOrder 1 (some .boolean)]
def wsL_setCapacity : List Cond := .codeWith yL_setCapacity cL_setCapacity 4 (some .int) [(0, 9, 12, 15), (0, 9, 15, 25)] :: ((wsL_setCapacity_r1 ++ (wsL_setCapacity_r2 ++ wsL_setCapacity_r3)) ++ wsX10 ++ wsX00 ++ (vx_atS RX1 75 "java/lang/IllegalStateException" ["java/lang/RuntimeException", "java/lang/Exception"]).filter goodWord ++ (vx_atS RX1 155 "java/lang/IllegalArgumentException" ["java/lang/RuntimeException", "java/lang/Exception"]).filter goodWord)
def wsL_setThreshold : List Cond := .codeWith yL_setThreshold cL_setThreshold 4 (some .int) [(0, 9, 12, 15)] :: ([.classLink RL 15 "java/lang/IllegalArgumentException", .methodLink RL 33 yX1_setThreshold, .instanceMethod yX1_setThreshold, .selects RX1 yX1_setThreshold yX1_setThreshold, .initialized RX1, .code yX1_setThreshold cX1_setThreshold 3 (some .int), .fieldLink RX1 19 "WorthCache" "threshold" "I", .methodLink RX1 29 yX1_requireWithin, .static yX1_requireWithin, .code yX1_requireWithin cX1_requireWithin 3 none, .classLink RX1 151 "java/lang/IllegalArgumentException", .initialized "java/lang/IllegalArgumentException"] ++ wsX10 ++ (vx_atS RX1 155 "java/lang/IllegalArgumentException" ["java/lang/RuntimeException", "java/lang/Exception"]).filter goodWord)
def wsL_has : List Cond := .codeWith yL_has cL_has 4 (some .int) [(0, 16, 19, 13)] :: ([.classLink RL 13 "java/lang/IndexOutOfBoundsException", .methodLink RL 36 yX1_has, .instanceMethod yX1_has, .selects RX1 yX1_has yX1_has, .initialized RX1, .code yX1_has cX1_has 2 (some .boolean), .methodLink RX1 25 yX1_slotOf, .instanceMethod yX1_slotOf, .selects RX1 yX1_slotOf yX1_slotOf, .code yX1_slotOf cX1_slotOf 2 (some (.object "WorthCache$Slot")), .classLink RX1 105 "java/lang/IndexOutOfBoundsException", .initialized "java/lang/IndexOutOfBoundsException", .fieldLink RX1 11 "WorthCache" "slots" "[LWorthCache$Slot;"] ++ wsX00 ++ wsX10 ++ (vx_atS RX1 109 "java/lang/IndexOutOfBoundsException" ["java/lang/RuntimeException", "java/lang/Exception"]).filter goodWord)
def wsL_isOver : List Cond := .codeWith yL_isOver cL_isOver 4 (some .int) [(0, 16, 19, 13)] :: ([.classLink RL 13 "java/lang/IndexOutOfBoundsException", .methodLink RL 40 yX1_isOver, .instanceMethod yX1_isOver, .selects RX1 yX1_isOver yX1_isOver, .initialized RX1, .code yX1_isOver cX1_isOver 3 (some .boolean), .methodLink RX1 25 yX1_slotOf, .instanceMethod yX1_slotOf, .selects RX1 yX1_slotOf yX1_slotOf, .code yX1_slotOf cX1_slotOf 2 (some (.object "WorthCache$Slot")), .classLink RX1 105 "java/lang/IndexOutOfBoundsException", .initialized "java/lang/IndexOutOfBoundsException", .fieldLink RX1 11 "WorthCache" "slots" "[LWorthCache$Slot;", .methodLink RX1 37 yX1_hasEnded, .instanceMethod yX1_hasEnded, .selects RX1 yX1_hasEnded yX1_hasEnded, .code yX1_hasEnded cX1_hasEnded 2 (some .boolean), .fieldLink RX1 55 "WorthCache" "time" "I"] ++ wsX00 ++ wsX10 ++ (vx_atS RX1 109 "java/lang/IndexOutOfBoundsException" ["java/lang/RuntimeException", "java/lang/Exception"]).filter goodWord)
def wsL_sizeOf : List Cond := .codeWith yL_sizeOf cL_sizeOf 4 (some .int) [(0, 9, 12, 13)] :: ([.classLink RL 13 "java/lang/IndexOutOfBoundsException", .methodLink RL 43 yX1_sizeOf, .instanceMethod yX1_sizeOf, .selects RX1 yX1_sizeOf yX1_sizeOf, .initialized RX1, .code yX1_sizeOf cX1_sizeOf 3 (some .int), .methodLink RX1 25 yX1_slotOf, .instanceMethod yX1_slotOf, .selects RX1 yX1_slotOf yX1_slotOf, .code yX1_slotOf cX1_slotOf 2 (some (.object "WorthCache$Slot")), .classLink RX1 105 "java/lang/IndexOutOfBoundsException", .initialized "java/lang/IndexOutOfBoundsException", .fieldLink RX1 11 "WorthCache" "slots" "[LWorthCache$Slot;"] ++ wsX00 ++ wsX10 ++ (vx_atS RX1 109 "java/lang/IndexOutOfBoundsException" ["java/lang/RuntimeException", "java/lang/Exception"]).filter goodWord)
def wsL_frequencyOf : List Cond := .codeWith yL_frequencyOf cL_frequencyOf 4 (some .int) [(0, 9, 12, 13)] :: ([.classLink RL 13 "java/lang/IndexOutOfBoundsException", .methodLink RL 46 yX1_frequencyOf, .instanceMethod yX1_frequencyOf, .selects RX1 yX1_frequencyOf yX1_frequencyOf, .initialized RX1, .code yX1_frequencyOf cX1_frequencyOf 3 (some .int), .methodLink RX1 25 yX1_slotOf, .instanceMethod yX1_slotOf, .selects RX1 yX1_slotOf yX1_slotOf, .code yX1_slotOf cX1_slotOf 2 (some (.object "WorthCache$Slot")), .classLink RX1 105 "java/lang/IndexOutOfBoundsException", .initialized "java/lang/IndexOutOfBoundsException", .fieldLink RX1 11 "WorthCache" "slots" "[LWorthCache$Slot;"] ++ wsX00 ++ wsX10 ++ (vx_atS RX1 109 "java/lang/IndexOutOfBoundsException" ["java/lang/RuntimeException", "java/lang/Exception"]).filter goodWord)
def wsL_worthOf : List Cond := .codeWith yL_worthOf cL_worthOf 4 (some .int) [(0, 8, 11, 13)] :: ([.classLink RL 13 "java/lang/IndexOutOfBoundsException", .methodLink RL 49 yX1_worthOf, .instanceMethod yX1_worthOf, .selects RX1 yX1_worthOf yX1_worthOf, .initialized RX1, .code yX1_worthOf cX1_worthOf 3 (some .long), .constantLong RX1 92 (-1), .methodLink RX1 25 yX1_slotOf, .instanceMethod yX1_slotOf, .selects RX1 yX1_slotOf yX1_slotOf, .code yX1_slotOf cX1_slotOf 2 (some (.object "WorthCache$Slot")), .classLink RX1 105 "java/lang/IndexOutOfBoundsException", .initialized "java/lang/IndexOutOfBoundsException", .fieldLink RX1 11 "WorthCache" "slots" "[LWorthCache$Slot;"] ++ wsX00 ++ wsX10 ++ (vx_atS RX1 109 "java/lang/IndexOutOfBoundsException" ["java/lang/RuntimeException", "java/lang/Exception"]).filter goodWord)
def wsL_endOf : List Cond := .codeWith yL_endOf cL_endOf 4 (some .int) [(0, 9, 12, 13)] :: ([.classLink RL 13 "java/lang/IndexOutOfBoundsException", .methodLink RL 53 yX1_endOf, .instanceMethod yX1_endOf, .selects RX1 yX1_endOf yX1_endOf, .initialized RX1, .code yX1_endOf cX1_endOf 3 (some .int), .methodLink RX1 25 yX1_slotOf, .instanceMethod yX1_slotOf, .selects RX1 yX1_slotOf yX1_slotOf, .code yX1_slotOf cX1_slotOf 2 (some (.object "WorthCache$Slot")), .classLink RX1 105 "java/lang/IndexOutOfBoundsException", .initialized "java/lang/IndexOutOfBoundsException", .fieldLink RX1 11 "WorthCache" "slots" "[LWorthCache$Slot;"] ++ wsX00 ++ wsX10 ++ (vx_atS RX1 109 "java/lang/IndexOutOfBoundsException" ["java/lang/RuntimeException", "java/lang/Exception"]).filter goodWord)
def wsL_leaving : List Cond := .codeWith yL_leaving cL_leaving 4 (some .int) [(0, 9, 12, 13)] :: ([.classLink RL 13 "java/lang/IndexOutOfBoundsException", .methodLink RL 56 yX1_leaving, .instanceMethod yX1_leaving, .selects RX1 yX1_leaving yX1_leaving, .initialized RX1, .code yX1_leaving cX1_leaving 4 (some .int), .classLink RX1 105 "java/lang/IndexOutOfBoundsException", .initialized "java/lang/IndexOutOfBoundsException", .methodLink RX1 97 yX1_firstInOrder, .instanceMethod yX1_firstInOrder, .selects RX1 yX1_firstInOrder yX1_firstInOrder, .code yX1_firstInOrder cX1_firstInOrder 1 (some (.object "WorthCache$Slot")), .methodLink RX1 101 yX1_nextInOrder, .instanceMethod yX1_nextInOrder, .selects RX1 yX1_nextInOrder yX1_nextInOrder, .code yX1_nextInOrder cX1_nextInOrder 8 (some (.object "WorthCache$Slot")), .fieldLink RX1 11 "WorthCache" "slots" "[LWorthCache$Slot;", .methodLink RX1 116 yX1_leavesBefore, .static yX1_leavesBefore, .code yX1_leavesBefore cX1_leavesBefore 2 (some .boolean), .methodLink RX1 113 yX1_isInOrder, .static yX1_isInOrder, .code yX1_isInOrder cX1_isInOrder 1 (some .boolean)] ++ wsX00 ++ wsX10 ++ (vx_atS RX1 109 "java/lang/IndexOutOfBoundsException" ["java/lang/RuntimeException", "java/lang/Exception"]).filter goodWord)
def wsL_placeOf : List Cond := .codeWith yL_placeOf cL_placeOf 4 (some .int) [(0, 9, 12, 13)] :: ([.classLink RL 13 "java/lang/IndexOutOfBoundsException", .methodLink RL 59 yX1_placeOf, .instanceMethod yX1_placeOf, .selects RX1 yX1_placeOf yX1_placeOf, .initialized RX1, .code yX1_placeOf cX1_placeOf 8 (some .int), .fieldLink RX1 11 "WorthCache" "slots" "[LWorthCache$Slot;", .methodLink RX1 25 yX1_slotOf, .instanceMethod yX1_slotOf, .selects RX1 yX1_slotOf yX1_slotOf, .code yX1_slotOf cX1_slotOf 2 (some (.object "WorthCache$Slot")), .classLink RX1 105 "java/lang/IndexOutOfBoundsException", .initialized "java/lang/IndexOutOfBoundsException", .methodLink RX1 113 yX1_isInOrder, .static yX1_isInOrder, .code yX1_isInOrder cX1_isInOrder 1 (some .boolean), .methodLink RX1 116 yX1_leavesBefore, .static yX1_leavesBefore, .code yX1_leavesBefore cX1_leavesBefore 2 (some .boolean)] ++ wsX10 ++ wsX00 ++ (vx_atS RX1 109 "java/lang/IndexOutOfBoundsException" ["java/lang/RuntimeException", "java/lang/Exception"]).filter goodWord)
def wsL_wouldLeave_r1 : List Cond := [Cond.classLink RL 15 "java/lang/IllegalArgumentException", Cond.methodLink RL 62 yX1_wouldLeave, Cond.instanceMethod yX1_wouldLeave, Cond.selects RX1 yX1_wouldLeave yX1_wouldLeave, Cond.initialized RX1, Cond.code yX1_wouldLeave cX1_wouldLeave 2 (some .int), Cond.fieldLink RX1 15 "WorthCache" "capacity" "I", Cond.methodLink RX1 29 yX1_requireWithin, Cond.static yX1_requireWithin, Cond.code yX1_requireWithin cX1_requireWithin 3 none, Cond.classLink RX1 151 "java/lang/IllegalArgumentException", Cond.initialized "java/lang/IllegalArgumentException", Cond.methodLink RX1 68 yX1_bytesThatCannotLeave, Cond.instanceMethod yX1_bytesThatCannotLeave, Cond.selects RX1 yX1_bytesThatCannotLeave yX1_bytesThatCannotLeave, Cond.code yX1_bytesThatCannotLeave cX1_bytesThatCannotLeave 6 (some .int), Cond.fieldLink RX1 11 "WorthCache" "slots" "[LWorthCache$Slot;", Cond.methodLink RX1 37 yX1_hasEnded, Cond.instanceMethod yX1_hasEnded, Cond.selects RX1 yX1_hasEnded yX1_hasEnded, Cond.code yX1_hasEnded cX1_hasEnded 2 (some .boolean), Cond.fieldLink RX1 55 "WorthCache" "time" "I", Cond.methodLink RX1 120 yX1_countThatWouldLeave, Cond.instanceMethod yX1_countThatWouldLeave]
def wsL_wouldLeave_r2 : List Cond := [Cond.selects RX1 yX1_countThatWouldLeave yX1_countThatWouldLeave, Cond.code yX1_countThatWouldLeave cX1_countThatWouldLeave 6 (some .int), Cond.methodLink RX1 194 yX1_bytesNotOver, Cond.instanceMethod yX1_bytesNotOver, Cond.selects RX1 yX1_bytesNotOver yX1_bytesNotOver, Cond.code yX1_bytesNotOver cX1_bytesNotOver 6 (some .int), Cond.methodLink RX1 97 yX1_firstInOrder, Cond.instanceMethod yX1_firstInOrder, Cond.selects RX1 yX1_firstInOrder yX1_firstInOrder, Cond.code yX1_firstInOrder cX1_firstInOrder 1 (some (.object "WorthCache$Slot")), Cond.methodLink RX1 101 yX1_nextInOrder, Cond.instanceMethod yX1_nextInOrder, Cond.selects RX1 yX1_nextInOrder yX1_nextInOrder, Cond.code yX1_nextInOrder cX1_nextInOrder 8 (some (.object "WorthCache$Slot")), Cond.methodLink RX1 116 yX1_leavesBefore, Cond.static yX1_leavesBefore, Cond.code yX1_leavesBefore cX1_leavesBefore 2 (some .boolean), Cond.methodLink RX1 113 yX1_isInOrder, Cond.static yX1_isInOrder, Cond.code yX1_isInOrder cX1_isInOrder 1 (some .boolean)]
def wsL_wouldLeave : List Cond := .codeWith yL_wouldLeave cL_wouldLeave 4 (some .int) [(0, 9, 12, 15)] :: ((wsL_wouldLeave_r1 ++ wsL_wouldLeave_r2) ++ wsX10 ++ wsX00 ++ (vx_atS RX1 155 "java/lang/IllegalArgumentException" ["java/lang/RuntimeException", "java/lang/Exception"]).filter goodWord)
def wsL_law0_r1 : List Cond := [Cond.classLink RL 8 RX1, Cond.instantiable RX1 13, Cond.initialized RX1, Cond.classLink RL 66 RX2, Cond.instantiable RX2 22, Cond.initialized RX2, Cond.arrayClass .long, Cond.methodLink RL 65 yX1_init, Cond.instanceMethod yX1_init, Cond.code yX1_init cX1_init 2 none, Cond.methodLink RX1 1 objectInit, Cond.instanceMethod objectInit, Cond.code objectInit ⟨#[0xb1]⟩ 1 none, Cond.classLink RX1 9 RX0, Cond.fieldLink RX1 11 "WorthCache" "slots" "[LWorthCache$Slot;", Cond.fieldLink RX1 15 "WorthCache" "capacity" "I", Cond.fieldLink RX1 19 "WorthCache" "threshold" "I", Cond.instantiable RX0 9, Cond.initialized RX0, Cond.instanceMethod yX0_init, Cond.code yX0_init cX0_init 2 none, Cond.methodLink RX0 3 objectInit, Cond.fieldLink RX0 9 "WorthCache$Slot" "lastMiss" "I", Cond.fieldLink RX0 15 "WorthCache$Slot" "thing" "I"]
def wsL_law0_r2 : List Cond := [Cond.methodLink RL 68 yX2_init, Cond.instanceMethod yX2_init, Cond.code yX2_init cX2_init 2 none, Cond.methodLink RX2 1 objectInit, Cond.arrayClass .boolean, Cond.fieldLink RX2 7 "WorthCacheModel" "isIn" "[Z", Cond.fieldLink RX2 13 "WorthCacheModel" "isPinned" "[Z", Cond.arrayClass .int, Cond.fieldLink RX2 16 "WorthCacheModel" "sizes" "[I", Cond.fieldLink RX2 20 "WorthCacheModel" "prices" "[I", Cond.fieldLink RX2 23 "WorthCacheModel" "frequencies" "[I", Cond.fieldLink RX2 26 "WorthCacheModel" "worths" "[J", Cond.fieldLink RX2 30 "WorthCacheModel" "ends" "[I", Cond.fieldLink RX2 33 "WorthCacheModel" "stamps" "[J", Cond.fieldLink RX2 36 "WorthCacheModel" "missed" "[I", Cond.fieldLink RX2 39 "WorthCacheModel" "capacity" "I", Cond.fieldLink RX2 43 "WorthCacheModel" "threshold" "I", Cond.methodLink RL 69 yL_fetch, Cond.static yL_fetch, Cond.initialized RL, Cond.codeWith yL_fetch cL_fetch 7 (some .int) [(0, 14, 17, 13), (0, 14, 21, 15)], Cond.classLink RL 13 "java/lang/IndexOutOfBoundsException", Cond.classLink RL 15 "java/lang/IllegalArgumentException", Cond.methodLink RL 7 yX1_fetch]
def wsL_law0_r3 : List Cond := [Cond.instanceMethod yX1_fetch, Cond.selects RX1 yX1_fetch yX1_fetch, Cond.code yX1_fetch cX1_fetch 6 (some .int), Cond.methodLink RX1 25 yX1_slotOf, Cond.instanceMethod yX1_slotOf, Cond.selects RX1 yX1_slotOf yX1_slotOf, Cond.code yX1_slotOf cX1_slotOf 2 (some (.object "WorthCache$Slot")), Cond.classLink RX1 105 "java/lang/IndexOutOfBoundsException", Cond.initialized "java/lang/IndexOutOfBoundsException", Cond.methodLink RX1 29 yX1_requireWithin, Cond.static yX1_requireWithin, Cond.code yX1_requireWithin cX1_requireWithin 3 none, Cond.classLink RX1 151 "java/lang/IllegalArgumentException", Cond.initialized "java/lang/IllegalArgumentException", Cond.methodLink RX1 37 yX1_hasEnded, Cond.instanceMethod yX1_hasEnded, Cond.selects RX1 yX1_hasEnded yX1_hasEnded, Cond.code yX1_hasEnded cX1_hasEnded 2 (some .boolean), Cond.fieldLink RX1 55 "WorthCache" "time" "I", Cond.methodLink RX1 44 yX1_hit, Cond.instanceMethod yX1_hit, Cond.selects RX1 yX1_hit yX1_hit, Cond.code yX1_hit cX1_hit 3 none, Cond.fieldLink RX1 126 "WorthCache" "hits" "I"]
def wsL_law0_r4 : List Cond := [Cond.fieldLink RX1 132 "WorthCache" "bytesHit" "J", Cond.fieldLink RX1 135 "WorthCache" "saved" "J", Cond.methodLink RX1 156 yX1_setWorth, Cond.instanceMethod yX1_setWorth, Cond.selects RX1 yX1_setWorth yX1_setWorth, Cond.code yX1_setWorth cX1_setWorth 3 none, Cond.fieldLink RX1 180 "WorthCache" "uses" "J", Cond.fieldLink RX1 123 "WorthCache" "clock" "J", Cond.constantLong RX1 186 (1000), Cond.methodLink RX1 48 yX1_countMiss, Cond.instanceMethod yX1_countMiss, Cond.selects RX1 yX1_countMiss yX1_countMiss, Cond.code yX1_countMiss cX1_countMiss 2 none, Cond.fieldLink RX1 129 "WorthCache" "misses" "I", Cond.fieldLink RX1 138 "WorthCache" "paid" "J", Cond.methodLink RX1 51 yX1_letInIfPossible, Cond.instanceMethod yX1_letInIfPossible, Cond.selects RX1 yX1_letInIfPossible yX1_letInIfPossible, Cond.code yX1_letInIfPossible cX1_letInIfPossible 6 (some .boolean), Cond.methodLink RX1 159 yX1_wasMissedLately, Cond.instanceMethod yX1_wasMissedLately, Cond.selects RX1 yX1_wasMissedLately yX1_wasMissedLately, Cond.code yX1_wasMissedLately cX1_wasMissedLately 2 (some .boolean), Cond.methodLink RX1 165 yX1_removeOwn]
def wsL_law0_r5 : List Cond := [Cond.instanceMethod yX1_removeOwn, Cond.selects RX1 yX1_removeOwn yX1_removeOwn, Cond.code yX1_removeOwn cX1_removeOwn 2 none, Cond.fieldLink RX1 144 "WorthCache" "removedOver" "I", Cond.methodLink RX1 169 yX1_makeRoom, Cond.instanceMethod yX1_makeRoom, Cond.selects RX1 yX1_makeRoom yX1_makeRoom, Cond.code yX1_makeRoom cX1_makeRoom 2 (some .boolean), Cond.methodLink RX1 177 yX1_hasRoom, Cond.instanceMethod yX1_hasRoom, Cond.selects RX1 yX1_hasRoom yX1_hasRoom, Cond.code yX1_hasRoom cX1_hasRoom 2 (some .boolean), Cond.methodLink RX1 78 yX1_used, Cond.instanceMethod yX1_used, Cond.selects RX1 yX1_used yX1_used, Cond.code yX1_used cX1_used 6 (some .int), Cond.methodLink RX1 64 yX1_removeAllOver, Cond.instanceMethod yX1_removeAllOver, Cond.selects RX1 yX1_removeAllOver yX1_removeAllOver, Cond.code yX1_removeAllOver cX1_removeAllOver 6 (some .int), Cond.methodLink RX1 68 yX1_bytesThatCannotLeave, Cond.instanceMethod yX1_bytesThatCannotLeave, Cond.selects RX1 yX1_bytesThatCannotLeave yX1_bytesThatCannotLeave, Cond.code yX1_bytesThatCannotLeave cX1_bytesThatCannotLeave 6 (some .int)]
def wsL_law0_r6 : List Cond := [Cond.methodLink RX1 81 yX1_leaveDownTo, Cond.instanceMethod yX1_leaveDownTo, Cond.selects RX1 yX1_leaveDownTo yX1_leaveDownTo, Cond.code yX1_leaveDownTo cX1_leaveDownTo 4 (some .int), Cond.methodLink RX1 188 Lib.MathLoose.max_long.x, Cond.static Lib.MathLoose.max_long.x, Cond.initialized "java/lang/Math", Cond.code Lib.MathLoose.max_long.x Lib.MathLoose.max_long.code 4 (some .long), Cond.fieldLink RX1 141 "WorthCache" "left" "I", Cond.methodLink RX1 97 yX1_firstInOrder, Cond.instanceMethod yX1_firstInOrder, Cond.selects RX1 yX1_firstInOrder yX1_firstInOrder, Cond.code yX1_firstInOrder cX1_firstInOrder 1 (some (.object "WorthCache$Slot")), Cond.methodLink RX1 101 yX1_nextInOrder, Cond.instanceMethod yX1_nextInOrder, Cond.selects RX1 yX1_nextInOrder yX1_nextInOrder, Cond.code yX1_nextInOrder cX1_nextInOrder 8 (some (.object "WorthCache$Slot")), Cond.methodLink RX1 116 yX1_leavesBefore, Cond.static yX1_leavesBefore, Cond.code yX1_leavesBefore cX1_leavesBefore 2 (some .boolean), Cond.methodLink RX1 113 yX1_isInOrder, Cond.static yX1_isInOrder, Cond.code yX1_isInOrder cX1_isInOrder 1 (some .boolean), Cond.methodLink RX1 173 yX1_fill]
def wsL_law0_r7 : List Cond := [Cond.instanceMethod yX1_fill, Cond.selects RX1 yX1_fill yX1_fill, Cond.code yX1_fill cX1_fill 5 none, Cond.methodLink RL 74 yX2_fetch, Cond.instanceMethod yX2_fetch, Cond.selects RX2 yX2_fetch yX2_fetch, Cond.code yX2_fetch cX2_fetch 6 (some .int), Cond.fieldLink RX2 46 "WorthCacheModel" "thrown" "I", Cond.fieldLink RX2 107 "WorthCacheModel" "hitMany" "I", Cond.fieldLink RX2 110 "WorthCacheModel" "hitBytes" "J", Cond.fieldLink RX2 113 "WorthCacheModel" "hitPrices" "J", Cond.fieldLink RX2 53 "WorthCacheModel" "now" "I", Cond.fieldLink RX2 116 "WorthCacheModel" "missMany" "I", Cond.fieldLink RX2 119 "WorthCacheModel" "missPrices" "J", Cond.fieldLink RX2 78 "WorthCacheModel" "overMany" "I", Cond.methodLink RX2 100 yX2_isThing, Cond.instanceMethod yX2_isThing, Cond.selects RX2 yX2_isThing yX2_isThing, Cond.code yX2_isThing cX2_isThing 2 (some .boolean), Cond.methodLink RX2 49 yX2_in, Cond.static yX2_in, Cond.code yX2_in cX2_in 3 (some .boolean), Cond.methodLink RX2 74 yX2_over, Cond.instanceMethod yX2_over]
def wsL_law0_r8 : List Cond := [Cond.selects RX2 yX2_over yX2_over, Cond.code yX2_over cX2_over 2 (some .boolean), Cond.methodLink RX2 103 yX2_setWorth, Cond.instanceMethod yX2_setWorth, Cond.selects RX2 yX2_setWorth yX2_setWorth, Cond.code yX2_setWorth cX2_setWorth 2 none, Cond.fieldLink RX2 67 "WorthCacheModel" "clockNow" "J", Cond.constantLong RX2 81 (1000), Cond.fieldLink RX2 83 "WorthCacheModel" "stamp" "J", Cond.methodLink RX2 122 yX2_makesRoom, Cond.instanceMethod yX2_makesRoom, Cond.selects RX2 yX2_makesRoom yX2_makesRoom, Cond.code yX2_makesRoom cX2_makesRoom 3 (some .boolean), Cond.methodLink RX2 86 yX2_usedBytes, Cond.instanceMethod yX2_usedBytes, Cond.selects RX2 yX2_usedBytes yX2_usedBytes, Cond.code yX2_usedBytes cX2_usedBytes 3 (some .int), Cond.methodLink RX2 90 yX2_removeOver, Cond.instanceMethod yX2_removeOver, Cond.selects RX2 yX2_removeOver yX2_removeOver, Cond.code yX2_removeOver cX2_removeOver 3 (some .int), Cond.methodLink RX2 93 yX2_pinnedBytes, Cond.instanceMethod yX2_pinnedBytes, Cond.selects RX2 yX2_pinnedBytes yX2_pinnedBytes]
def wsL_law0_r9 : List Cond := [Cond.code yX2_pinnedBytes cX2_pinnedBytes 4 (some .int), Cond.methodLink RX2 97 yX2_firstLeaves, Cond.instanceMethod yX2_firstLeaves, Cond.selects RX2 yX2_firstLeaves yX2_firstLeaves, Cond.code yX2_firstLeaves cX2_firstLeaves 2 none, Cond.fieldLink RX2 71 "WorthCacheModel" "leftMany" "I", Cond.methodLink RX2 64 yX2_at, Cond.instanceMethod yX2_at, Cond.selects RX2 yX2_at yX2_at, Cond.code yX2_at cX2_at 3 (some .int), Cond.methodLink RX2 60 yX2_place, Cond.instanceMethod yX2_place, Cond.selects RX2 yX2_place yX2_place, Cond.code yX2_place cX2_place 4 (some .int), Cond.methodLink RX2 56 yX2_isAhead, Cond.instanceMethod yX2_isAhead, Cond.selects RX2 yX2_isAhead yX2_isAhead, Cond.code yX2_isAhead cX2_isAhead 3 (some .boolean), Cond.methodLink RL 75 yX2_thrown, Cond.instanceMethod yX2_thrown, Cond.selects RX2 yX2_thrown yX2_thrown, Cond.code yX2_thrown cX2_thrown 1 (some .int), Cond.methodLink RL 79 yL_pass, Cond.static yL_pass]
def wsL_law0_r10 : List Cond := [Cond.codeWith yL_pass cL_pass 4 (some .int) [(0, 9, 12, 15)], Cond.methodLink RL 17 yX1_pass, Cond.instanceMethod yX1_pass, Cond.selects RX1 yX1_pass yX1_pass, Cond.code yX1_pass cX1_pass 2 (some .int), Cond.methodLink RL 82 yX2_pass, Cond.instanceMethod yX2_pass, Cond.selects RX2 yX2_pass yX2_pass, Cond.code yX2_pass cX2_pass 2 (some .int), Cond.methodLink RL 83 yL_pin, Cond.static yL_pin, Cond.codeWith yL_pin cL_pin 5 (some .int) [(0, 17, 20, 13), (0, 17, 24, 25)], Cond.classLink RL 25 "java/lang/IllegalStateException", Cond.methodLink RL 21 yX1_pin, Cond.instanceMethod yX1_pin, Cond.selects RX1 yX1_pin yX1_pin, Cond.code yX1_pin cX1_pin 5 (some .boolean), Cond.methodLink RX1 58 yX1_filledSlotOf, Cond.instanceMethod yX1_filledSlotOf, Cond.selects RX1 yX1_filledSlotOf yX1_filledSlotOf, Cond.code yX1_filledSlotOf cX1_filledSlotOf 3 (some (.object "WorthCache$Slot")), Cond.classLink RX1 71 "java/lang/IllegalStateException", Cond.initialized "java/lang/IllegalStateException", Cond.methodLink RL 86 yX2_pin]
def wsL_law0_r11 : List Cond := [Cond.instanceMethod yX2_pin, Cond.selects RX2 yX2_pin yX2_pin, Cond.code yX2_pin cX2_pin 4 (some .boolean), Cond.methodLink RX2 125 yX2_hasEntry, Cond.instanceMethod yX2_hasEntry, Cond.selects RX2 yX2_hasEntry yX2_hasEntry, Cond.code yX2_hasEntry cX2_hasEntry 2 (some .boolean), Cond.methodLink RL 87 yL_drop, Cond.static yL_drop, Cond.codeWith yL_drop cL_drop 4 (some .int) [(0, 9, 12, 13), (0, 9, 15, 25)], Cond.methodLink RL 27 yX1_drop, Cond.instanceMethod yX1_drop, Cond.selects RX1 yX1_drop yX1_drop, Cond.code yX1_drop cX1_drop 3 (some .int), Cond.methodLink RL 89 yX2_drop, Cond.instanceMethod yX2_drop, Cond.selects RX2 yX2_drop yX2_drop, Cond.code yX2_drop cX2_drop 2 (some .int), Cond.methodLink RL 90 yX1_purge, Cond.instanceMethod yX1_purge, Cond.selects RX1 yX1_purge yX1_purge, Cond.code yX1_purge cX1_purge 1 (some .int), Cond.methodLink RL 93 yX2_purge, Cond.instanceMethod yX2_purge]
def wsL_law0_r12 : List Cond := [Cond.selects RX2 yX2_purge yX2_purge, Cond.code yX2_purge cX2_purge 1 (some .int), Cond.methodLink RL 94 yL_setCapacity, Cond.static yL_setCapacity, Cond.codeWith yL_setCapacity cL_setCapacity 4 (some .int) [(0, 9, 12, 15), (0, 9, 15, 25)], Cond.methodLink RL 30 yX1_setCapacity, Cond.instanceMethod yX1_setCapacity, Cond.selects RX1 yX1_setCapacity yX1_setCapacity, Cond.code yX1_setCapacity cX1_setCapacity 2 (some .int), Cond.methodLink RL 96 yX2_setCapacity, Cond.instanceMethod yX2_setCapacity, Cond.selects RX2 yX2_setCapacity yX2_setCapacity, Cond.code yX2_setCapacity cX2_setCapacity 3 (some .int), Cond.methodLink RL 97 yL_setThreshold, Cond.static yL_setThreshold, Cond.codeWith yL_setThreshold cL_setThreshold 4 (some .int) [(0, 9, 12, 15)], Cond.methodLink RL 33 yX1_setThreshold, Cond.instanceMethod yX1_setThreshold, Cond.selects RX1 yX1_setThreshold yX1_setThreshold, Cond.code yX1_setThreshold cX1_setThreshold 3 (some .int), Cond.methodLink RL 99 yX2_setThreshold, Cond.instanceMethod yX2_setThreshold, Cond.selects RX2 yX2_setThreshold yX2_setThreshold, Cond.code yX2_setThreshold cX2_setThreshold 3 (some .int)]
def wsL_law0_r13 : List Cond := [Cond.methodLink RL 100 yL_has, Cond.static yL_has, Cond.codeWith yL_has cL_has 4 (some .int) [(0, 16, 19, 13)], Cond.methodLink RL 36 yX1_has, Cond.instanceMethod yX1_has, Cond.selects RX1 yX1_has yX1_has, Cond.code yX1_has cX1_has 2 (some .boolean), Cond.methodLink RL 102 yX2_has, Cond.instanceMethod yX2_has, Cond.selects RX2 yX2_has yX2_has, Cond.code yX2_has cX2_has 2 (some .boolean), Cond.methodLink RL 103 yL_isOver, Cond.static yL_isOver, Cond.codeWith yL_isOver cL_isOver 4 (some .int) [(0, 16, 19, 13)], Cond.methodLink RL 40 yX1_isOver, Cond.instanceMethod yX1_isOver, Cond.selects RX1 yX1_isOver yX1_isOver, Cond.code yX1_isOver cX1_isOver 3 (some .boolean), Cond.methodLink RL 105 yX2_isOver, Cond.instanceMethod yX2_isOver, Cond.selects RX2 yX2_isOver yX2_isOver, Cond.code yX2_isOver cX2_isOver 2 (some .boolean), Cond.methodLink RL 106 yL_sizeOf, Cond.static yL_sizeOf]
def wsL_law0_r14 : List Cond := [Cond.codeWith yL_sizeOf cL_sizeOf 4 (some .int) [(0, 9, 12, 13)], Cond.methodLink RL 43 yX1_sizeOf, Cond.instanceMethod yX1_sizeOf, Cond.selects RX1 yX1_sizeOf yX1_sizeOf, Cond.code yX1_sizeOf cX1_sizeOf 3 (some .int), Cond.methodLink RL 108 yX2_sizeOf, Cond.instanceMethod yX2_sizeOf, Cond.selects RX2 yX2_sizeOf yX2_sizeOf, Cond.code yX2_sizeOf cX2_sizeOf 2 (some .int), Cond.methodLink RL 109 yL_frequencyOf, Cond.static yL_frequencyOf, Cond.codeWith yL_frequencyOf cL_frequencyOf 4 (some .int) [(0, 9, 12, 13)], Cond.methodLink RL 46 yX1_frequencyOf, Cond.instanceMethod yX1_frequencyOf, Cond.selects RX1 yX1_frequencyOf yX1_frequencyOf, Cond.code yX1_frequencyOf cX1_frequencyOf 3 (some .int), Cond.methodLink RL 111 yX2_frequencyOf, Cond.instanceMethod yX2_frequencyOf, Cond.selects RX2 yX2_frequencyOf yX2_frequencyOf, Cond.code yX2_frequencyOf cX2_frequencyOf 2 (some .int), Cond.methodLink RL 112 yL_worthOf, Cond.static yL_worthOf, Cond.codeWith yL_worthOf cL_worthOf 4 (some .int) [(0, 8, 11, 13)], Cond.methodLink RL 49 yX1_worthOf]
def wsL_law0_r15 : List Cond := [Cond.instanceMethod yX1_worthOf, Cond.selects RX1 yX1_worthOf yX1_worthOf, Cond.code yX1_worthOf cX1_worthOf 3 (some .long), Cond.constantLong RX1 92 (-1), Cond.methodLink RL 114 yX2_worthOf, Cond.instanceMethod yX2_worthOf, Cond.selects RX2 yX2_worthOf yX2_worthOf, Cond.code yX2_worthOf cX2_worthOf 2 (some .long), Cond.constantLong RX2 128 (-1), Cond.methodLink RL 115 yL_endOf, Cond.static yL_endOf, Cond.codeWith yL_endOf cL_endOf 4 (some .int) [(0, 9, 12, 13)], Cond.methodLink RL 53 yX1_endOf, Cond.instanceMethod yX1_endOf, Cond.selects RX1 yX1_endOf yX1_endOf, Cond.code yX1_endOf cX1_endOf 3 (some .int), Cond.methodLink RL 117 yX2_endOf, Cond.instanceMethod yX2_endOf, Cond.selects RX2 yX2_endOf yX2_endOf, Cond.code yX2_endOf cX2_endOf 2 (some .int), Cond.methodLink RL 118 yL_leaving, Cond.static yL_leaving, Cond.codeWith yL_leaving cL_leaving 4 (some .int) [(0, 9, 12, 13)], Cond.methodLink RL 56 yX1_leaving]
def wsL_law0_r16 : List Cond := [Cond.instanceMethod yX1_leaving, Cond.selects RX1 yX1_leaving yX1_leaving, Cond.code yX1_leaving cX1_leaving 4 (some .int), Cond.methodLink RL 120 yX2_leaving, Cond.instanceMethod yX2_leaving, Cond.selects RX2 yX2_leaving yX2_leaving, Cond.code yX2_leaving cX2_leaving 3 (some .int), Cond.methodLink RL 121 yL_placeOf, Cond.static yL_placeOf, Cond.codeWith yL_placeOf cL_placeOf 4 (some .int) [(0, 9, 12, 13)], Cond.methodLink RL 59 yX1_placeOf, Cond.instanceMethod yX1_placeOf, Cond.selects RX1 yX1_placeOf yX1_placeOf, Cond.code yX1_placeOf cX1_placeOf 8 (some .int), Cond.methodLink RL 123 yX2_placeOf, Cond.instanceMethod yX2_placeOf, Cond.selects RX2 yX2_placeOf yX2_placeOf, Cond.code yX2_placeOf cX2_placeOf 2 (some .int), Cond.methodLink RL 124 yX1_endsFirst, Cond.instanceMethod yX1_endsFirst, Cond.selects RX1 yX1_endsFirst yX1_endsFirst, Cond.code yX1_endsFirst cX1_endsFirst 6 (some .int), Cond.methodLink RL 127 yX2_endsFirst, Cond.instanceMethod yX2_endsFirst]
def wsL_law0_r17 : List Cond := [Cond.selects RX2 yX2_endsFirst yX2_endsFirst, Cond.code yX2_endsFirst cX2_endsFirst 3 (some .int), Cond.methodLink RL 128 yL_wouldLeave, Cond.static yL_wouldLeave, Cond.codeWith yL_wouldLeave cL_wouldLeave 4 (some .int) [(0, 9, 12, 15)], Cond.methodLink RL 62 yX1_wouldLeave, Cond.instanceMethod yX1_wouldLeave, Cond.selects RX1 yX1_wouldLeave yX1_wouldLeave, Cond.code yX1_wouldLeave cX1_wouldLeave 2 (some .int), Cond.methodLink RX1 120 yX1_countThatWouldLeave, Cond.instanceMethod yX1_countThatWouldLeave, Cond.selects RX1 yX1_countThatWouldLeave yX1_countThatWouldLeave, Cond.code yX1_countThatWouldLeave cX1_countThatWouldLeave 6 (some .int), Cond.methodLink RX1 194 yX1_bytesNotOver, Cond.instanceMethod yX1_bytesNotOver, Cond.selects RX1 yX1_bytesNotOver yX1_bytesNotOver, Cond.code yX1_bytesNotOver cX1_bytesNotOver 6 (some .int), Cond.methodLink RL 130 yX2_wouldLeave, Cond.instanceMethod yX2_wouldLeave, Cond.selects RX2 yX2_wouldLeave yX2_wouldLeave, Cond.code yX2_wouldLeave cX2_wouldLeave 6 (some .int), Cond.methodLink RL 131 yX1_time, Cond.instanceMethod yX1_time, Cond.selects RX1 yX1_time yX1_time]
def wsL_law0_r18 : List Cond := [Cond.code yX1_time cX1_time 1 (some .int), Cond.methodLink RL 134 yX2_time, Cond.instanceMethod yX2_time, Cond.selects RX2 yX2_time yX2_time, Cond.code yX2_time cX2_time 1 (some .int), Cond.methodLink RL 135 yX1_clock, Cond.instanceMethod yX1_clock, Cond.selects RX1 yX1_clock yX1_clock, Cond.code yX1_clock cX1_clock 1 (some .long), Cond.methodLink RL 139 yX2_clock, Cond.instanceMethod yX2_clock, Cond.selects RX2 yX2_clock yX2_clock, Cond.code yX2_clock cX2_clock 1 (some .long), Cond.methodLink RL 140 yX1_capacity, Cond.instanceMethod yX1_capacity, Cond.selects RX1 yX1_capacity yX1_capacity, Cond.code yX1_capacity cX1_capacity 1 (some .int), Cond.methodLink RL 143 yX2_capacity, Cond.instanceMethod yX2_capacity, Cond.selects RX2 yX2_capacity yX2_capacity, Cond.code yX2_capacity cX2_capacity 1 (some .int), Cond.methodLink RL 144 yX1_entries, Cond.instanceMethod yX1_entries, Cond.selects RX1 yX1_entries yX1_entries]
def wsL_law0_r19 : List Cond := [Cond.code yX1_entries cX1_entries 6 (some .int), Cond.methodLink RL 147 yX2_entries, Cond.instanceMethod yX2_entries, Cond.selects RX2 yX2_entries yX2_entries, Cond.code yX2_entries cX2_entries 3 (some .int), Cond.methodLink RL 148 yX1_used, Cond.methodLink RL 151 yX2_used, Cond.instanceMethod yX2_used, Cond.selects RX2 yX2_used yX2_used, Cond.code yX2_used cX2_used 1 (some .int), Cond.methodLink RL 152 yX1_hits, Cond.instanceMethod yX1_hits, Cond.selects RX1 yX1_hits yX1_hits, Cond.code yX1_hits cX1_hits 1 (some .int), Cond.methodLink RL 155 yX2_hits, Cond.instanceMethod yX2_hits, Cond.selects RX2 yX2_hits yX2_hits, Cond.code yX2_hits cX2_hits 1 (some .int), Cond.methodLink RL 156 yX1_misses, Cond.instanceMethod yX1_misses, Cond.selects RX1 yX1_misses yX1_misses, Cond.code yX1_misses cX1_misses 1 (some .int), Cond.methodLink RL 159 yX2_misses, Cond.instanceMethod yX2_misses]
def wsL_law0_r20 : List Cond := [Cond.selects RX2 yX2_misses yX2_misses, Cond.code yX2_misses cX2_misses 1 (some .int), Cond.methodLink RL 160 yX1_bytesHit, Cond.instanceMethod yX1_bytesHit, Cond.selects RX1 yX1_bytesHit yX1_bytesHit, Cond.code yX1_bytesHit cX1_bytesHit 1 (some .long), Cond.methodLink RL 163 yX2_bytesHit, Cond.instanceMethod yX2_bytesHit, Cond.selects RX2 yX2_bytesHit yX2_bytesHit, Cond.code yX2_bytesHit cX2_bytesHit 1 (some .long), Cond.methodLink RL 164 yX1_saved, Cond.instanceMethod yX1_saved, Cond.selects RX1 yX1_saved yX1_saved, Cond.code yX1_saved cX1_saved 1 (some .long), Cond.methodLink RL 167 yX2_saved, Cond.instanceMethod yX2_saved, Cond.selects RX2 yX2_saved yX2_saved, Cond.code yX2_saved cX2_saved 1 (some .long), Cond.methodLink RL 168 yX1_paid, Cond.instanceMethod yX1_paid, Cond.selects RX1 yX1_paid yX1_paid, Cond.code yX1_paid cX1_paid 1 (some .long), Cond.methodLink RL 171 yX2_paid, Cond.instanceMethod yX2_paid]
def wsL_law0_r21 : List Cond := [Cond.selects RX2 yX2_paid yX2_paid, Cond.code yX2_paid cX2_paid 1 (some .long), Cond.methodLink RL 172 yX1_left, Cond.instanceMethod yX1_left, Cond.selects RX1 yX1_left yX1_left, Cond.code yX1_left cX1_left 1 (some .int), Cond.methodLink RL 175 yX2_left, Cond.instanceMethod yX2_left, Cond.selects RX2 yX2_left yX2_left, Cond.code yX2_left cX2_left 1 (some .int), Cond.methodLink RL 176 yX1_removedOver, Cond.instanceMethod yX1_removedOver, Cond.selects RX1 yX1_removedOver yX1_removedOver, Cond.code yX1_removedOver cX1_removedOver 1 (some .int), Cond.methodLink RL 179 yX2_removedOver, Cond.instanceMethod yX2_removedOver, Cond.selects RX2 yX2_removedOver yX2_removedOver, Cond.code yX2_removedOver cX2_removedOver 1 (some .int)]
def wsL_law0 : List Cond := (wsL_law0_r1 ++ (wsL_law0_r2 ++ (wsL_law0_r3 ++ (wsL_law0_r4 ++ (wsL_law0_r5 ++ (wsL_law0_r6 ++ (wsL_law0_r7 ++ (wsL_law0_r8 ++ (wsL_law0_r9 ++ (wsL_law0_r10 ++ (wsL_law0_r11 ++ (wsL_law0_r12 ++ (wsL_law0_r13 ++ (wsL_law0_r14 ++ (wsL_law0_r15 ++ (wsL_law0_r16 ++ (wsL_law0_r17 ++ (wsL_law0_r18 ++ (wsL_law0_r19 ++ (wsL_law0_r20 ++ wsL_law0_r21)))))))))))))))))))) ++ wsX10 ++ wsX20 ++ wsX00 ++ ([] : List Cond)
def wsL_law : List Cond := wsL_law0 ++ (vx_atS RX1 109 "java/lang/IndexOutOfBoundsException" ["java/lang/RuntimeException", "java/lang/Exception"]).filter goodWord ++ (vx_atS RX1 155 "java/lang/IllegalArgumentException" ["java/lang/RuntimeException", "java/lang/Exception"]).filter goodWord ++ (vx_atS RX1 75 "java/lang/IllegalStateException" ["java/lang/RuntimeException", "java/lang/Exception"]).filter goodWord
abbrev vwCl : List vw_C := [(RX0, TX0, 9), (RX1, TX1, 13), (RX2, TX2, 22)]
end
section
theorem xin_t {big ws : List Cond} (ps : List Nat) (hp : ws = ps.filterMap (fun i => big[i]?)) : ∀ w ∈ ws, w ∈ big := by
  intro w hw
  rw [hp] at hw
  obtain ⟨i, -, hi⟩ := List.mem_filterMap.mp hw
  exact List.mem_of_getElem? hi
set_option maxRecDepth 20000 in
theorem wsL_law0_r1_t : ∀ w ∈ wsL_law0_r1, w ∈ lw_tbl := xin_t [43, 44, 33, 485, 486, 35, 560, 45, 46, 47, 48, 49, 50, 51, 88, 91, 92, 53, 34, 55, 56, 57, 67, 58] (by decide +kernel)
set_option maxRecDepth 20000 in
theorem wsL_law0_r2_t : ∀ w ∈ wsL_law0_r2, w ∈ lw_tbl := xin_t [487, 488, 489, 490, 558, 496, 497, 559, 498, 499, 500, 501, 502, 503, 504, 491, 492, 192, 193, 32, 194, 195, 196, 197] (by decide +kernel)
set_option maxRecDepth 20000 in
theorem wsL_law0_r3_t : ∀ w ∈ wsL_law0_r3, w ∈ lw_tbl := xin_t [198, 199, 200, 201, 203, 2, 204, 205, 39, 273, 274, 275, 276, 40, 136, 138, 1, 139, 89, 292, 294, 4, 295, 94] (by decide +kernel)
set_option maxRecDepth 20000 in
theorem wsL_law0_r4_t : ∀ w ∈ wsL_law0_r4, w ∈ lw_tbl := xin_t [96, 97, 296, 298, 5, 299, 93, 90, 300, 301, 303, 6, 304, 95, 98, 305, 307, 7, 308, 309, 311, 8, 312, 313] (by decide +kernel)
set_option maxRecDepth 20000 in
theorem wsL_law0_r5_t : ∀ w ∈ wsL_law0_r5, w ∈ lw_tbl := xin_t [315, 9, 316, 100, 317, 319, 10, 320, 321, 323, 11, 324, 325, 161, 162, 163, 132, 134, 0, 135, 326, 328, 12, 329] (by decide +kernel)
set_option maxRecDepth 20000 in
theorem wsL_law0_r6_t : ∀ w ∈ wsL_law0_r6, w ∈ lw_tbl := xin_t [330, 332, 13, 333, 348, 349, 41, 350, 99, 334, 336, 14, 337, 338, 340, 15, 341, 342, 343, 344, 345, 346, 347, 351] (by decide +kernel)
set_option maxRecDepth 20000 in
theorem wsL_law0_r7_t : ∀ w ∈ wsL_law0_r7, w ∈ lw_tbl := xin_t [353, 16, 354, 565, 566, 567, 568, 512, 505, 507, 508, 493, 506, 509, 511, 569, 571, 20, 572, 573, 574, 575, 576, 578] (by decide +kernel)
set_option maxRecDepth 20000 in
theorem wsL_law0_r8_t : ∀ w ∈ wsL_law0_r8, w ∈ lw_tbl := xin_t [21, 579, 580, 582, 22, 583, 494, 584, 495, 585, 587, 23, 588, 589, 591, 24, 592, 593, 595, 25, 596, 597, 599, 26] (by decide +kernel)
set_option maxRecDepth 20000 in
theorem wsL_law0_r9_t : ∀ w ∈ wsL_law0_r9, w ∈ lw_tbl := xin_t [600, 601, 603, 27, 604, 510, 605, 607, 28, 608, 609, 611, 29, 612, 613, 615, 30, 616, 561, 562, 563, 564, 355, 356] (by decide +kernel)
set_option maxRecDepth 20000 in
theorem wsL_law0_r10_t : ∀ w ∈ wsL_law0_r10, w ∈ lw_tbl := xin_t [357, 358, 359, 360, 361, 617, 618, 619, 620, 362, 363, 364, 365, 366, 367, 368, 369, 370, 372, 17, 373, 374, 42, 621] (by decide +kernel)
set_option maxRecDepth 20000 in
theorem wsL_law0_r11_t : ∀ w ∈ wsL_law0_r11, w ∈ lw_tbl := xin_t [622, 623, 624, 625, 627, 31, 628, 390, 391, 392, 393, 394, 395, 396, 629, 630, 631, 632, 128, 129, 130, 131, 633, 634] (by decide +kernel)
set_option maxRecDepth 20000 in
theorem wsL_law0_r12_t : ∀ w ∈ wsL_law0_r12, w ∈ lw_tbl := xin_t [635, 636, 397, 398, 399, 400, 401, 402, 403, 637, 638, 639, 640, 405, 406, 407, 408, 409, 410, 411, 641, 642, 643, 644] (by decide +kernel)
set_option maxRecDepth 20000 in
theorem wsL_law0_r13_t : ∀ w ∈ wsL_law0_r13, w ∈ lw_tbl := xin_t [412, 413, 414, 415, 416, 417, 418, 645, 646, 647, 648, 419, 420, 421, 422, 423, 424, 425, 649, 650, 651, 652, 426, 427] (by decide +kernel)
set_option maxRecDepth 20000 in
theorem wsL_law0_r14_t : ∀ w ∈ wsL_law0_r14, w ∈ lw_tbl := xin_t [428, 429, 430, 431, 432, 653, 654, 655, 656, 433, 434, 435, 436, 437, 438, 439, 657, 658, 659, 660, 440, 441, 442, 443] (by decide +kernel)
set_option maxRecDepth 20000 in
theorem wsL_law0_r15_t : ∀ w ∈ wsL_law0_r15, w ∈ lw_tbl := xin_t [444, 445, 446, 447, 661, 662, 663, 664, 665, 448, 449, 450, 451, 452, 453, 454, 666, 667, 668, 669, 455, 456, 457, 458] (by decide +kernel)
set_option maxRecDepth 20000 in
theorem wsL_law0_r16_t : ∀ w ∈ wsL_law0_r16, w ∈ lw_tbl := xin_t [459, 460, 461, 670, 671, 672, 673, 463, 464, 465, 466, 467, 468, 469, 674, 675, 676, 677, 140, 141, 142, 143, 678, 679] (by decide +kernel)
set_option maxRecDepth 20000 in
theorem wsL_law0_r17_t : ∀ w ∈ wsL_law0_r17, w ∈ lw_tbl := xin_t [680, 681, 470, 471, 472, 473, 474, 475, 476, 477, 479, 18, 480, 481, 483, 19, 484, 682, 683, 684, 685, 144, 145, 146] (by decide +kernel)
set_option maxRecDepth 20000 in
theorem wsL_law0_r18_t : ∀ w ∈ wsL_law0_r18, w ∈ lw_tbl := xin_t [147, 686, 687, 688, 689, 148, 149, 150, 151, 690, 691, 692, 693, 152, 153, 154, 155, 694, 695, 696, 697, 156, 157, 158] (by decide +kernel)
set_option maxRecDepth 20000 in
theorem wsL_law0_r19_t : ∀ w ∈ wsL_law0_r19, w ∈ lw_tbl := xin_t [159, 698, 699, 700, 701, 160, 702, 703, 704, 705, 164, 165, 166, 167, 706, 707, 708, 709, 168, 169, 170, 171, 710, 711] (by decide +kernel)
set_option maxRecDepth 20000 in
theorem wsL_law0_r20_t : ∀ w ∈ wsL_law0_r20, w ∈ lw_tbl := xin_t [712, 713, 172, 173, 174, 175, 714, 715, 716, 717, 176, 177, 178, 179, 718, 719, 720, 721, 180, 181, 182, 183, 722, 723] (by decide +kernel)
set_option maxRecDepth 20000 in
theorem wsL_law0_r21_t : ∀ w ∈ wsL_law0_r21, w ∈ lw_tbl := xin_t [724, 725, 184, 185, 186, 187, 726, 727, 728, 729, 188, 189, 190, 191, 730, 731, 732, 733] (by decide +kernel)
set_option maxRecDepth 20000 in
theorem wsX10_t : ∀ w ∈ wsX10, w ∈ lw_tbl := xin_t [101, 103, 105, 107, 109, 111, 113, 115, 117, 119, 121, 123, 125] (by decide +kernel)
set_option maxRecDepth 20000 in
theorem wsX20_t : ∀ w ∈ wsX20, w ∈ lw_tbl := xin_t [513, 515, 517, 519, 521, 523, 525, 527, 529, 531, 533, 535, 537, 539, 541, 543, 545, 547, 549, 551, 553, 555] (by decide +kernel)
set_option maxRecDepth 20000 in
theorem wsX00_t : ∀ w ∈ wsX00, w ∈ lw_tbl := xin_t [69, 71, 73, 75, 77, 79, 81, 83, 85] (by decide +kernel)
theorem wsL_law_in0 : ∀ w ∈ wsL_law0, w ∈ lw_tbl := fun w h => (List.mem_append.mp h).elim (fun h => (List.mem_append.mp h).elim (fun h => (List.mem_append.mp h).elim (fun h => (List.mem_append.mp h).elim (fun h => (List.mem_append.mp h).elim (fun h => wsL_law0_r1_t w h) (fun h => (List.mem_append.mp h).elim (fun h => wsL_law0_r2_t w h) (fun h => (List.mem_append.mp h).elim (fun h => wsL_law0_r3_t w h) (fun h => (List.mem_append.mp h).elim (fun h => wsL_law0_r4_t w h) (fun h => (List.mem_append.mp h).elim (fun h => wsL_law0_r5_t w h) (fun h => (List.mem_append.mp h).elim (fun h => wsL_law0_r6_t w h) (fun h => (List.mem_append.mp h).elim (fun h => wsL_law0_r7_t w h) (fun h => (List.mem_append.mp h).elim (fun h => wsL_law0_r8_t w h) (fun h => (List.mem_append.mp h).elim (fun h => wsL_law0_r9_t w h) (fun h => (List.mem_append.mp h).elim (fun h => wsL_law0_r10_t w h) (fun h => (List.mem_append.mp h).elim (fun h => wsL_law0_r11_t w h) (fun h => (List.mem_append.mp h).elim (fun h => wsL_law0_r12_t w h) (fun h => (List.mem_append.mp h).elim (fun h => wsL_law0_r13_t w h) (fun h => (List.mem_append.mp h).elim (fun h => wsL_law0_r14_t w h) (fun h => (List.mem_append.mp h).elim (fun h => wsL_law0_r15_t w h) (fun h => (List.mem_append.mp h).elim (fun h => wsL_law0_r16_t w h) (fun h => (List.mem_append.mp h).elim (fun h => wsL_law0_r17_t w h) (fun h => (List.mem_append.mp h).elim (fun h => wsL_law0_r18_t w h) (fun h => (List.mem_append.mp h).elim (fun h => wsL_law0_r19_t w h) (fun h => (List.mem_append.mp h).elim (fun h => wsL_law0_r20_t w h) (fun h => wsL_law0_r21_t w h))))))))))))))))))))) (fun h => wsX10_t w h)) (fun h => wsX20_t w h)) (fun h => wsX00_t w h)) (fun h => absurd h List.not_mem_nil)
set_option maxRecDepth 20000 in
theorem wsL_law_x0 : ∀ w ∈ (vx_atS RX1 109 "java/lang/IndexOutOfBoundsException" ["java/lang/RuntimeException", "java/lang/Exception"]).filter goodWord, w ∈ lw_tbl := xin_t [36, 227, 236, 240, 243, 245, 228, 229, 49, 50, 230, 235, 241, 261, 217, 262, 219, 263, 221, 231, 233, 223, 257, 258, 260, 223, 248, 249, 250, 251, 251, 252, 253, 254, 254, 255, 256, 257, 247, 206, 214, 215, 216, 218, 220, 222, 226, 225, 224] (by decide +kernel)
set_option maxRecDepth 20000 in
theorem wsL_law_x1 : ∀ w ∈ (vx_atS RX1 155 "java/lang/IllegalArgumentException" ["java/lang/RuntimeException", "java/lang/Exception"]).filter goodWord, w ∈ lw_tbl := xin_t [36, 227, 236, 240, 243, 245, 228, 229, 49, 50, 230, 235, 241, 261, 217, 262, 219, 263, 221, 231, 233, 223, 257, 258, 260, 223, 287, 288, 289, 251, 251, 252, 253, 254, 254, 255, 256, 257, 286, 277, 279, 238, 280, 281, 282, 283, 226, 225, 284] (by decide +kernel)
set_option maxRecDepth 20000 in
theorem wsL_law_x2 : ∀ w ∈ (vx_atS RX1 75 "java/lang/IllegalStateException" ["java/lang/RuntimeException", "java/lang/Exception"]).filter goodWord, w ∈ lw_tbl := xin_t [36, 227, 236, 240, 243, 245, 228, 229, 49, 50, 230, 235, 241, 261, 217, 262, 219, 263, 221, 231, 233, 223, 257, 258, 260, 223, 385, 386, 387, 251, 251, 252, 253, 254, 254, 255, 256, 257, 384, 375, 377, 239, 378, 379, 380, 381, 226, 225, 382] (by decide +kernel)
theorem wsL_law_in : ∀ w ∈ wsL_law, w ∈ lw_tbl := fun w h => (List.mem_append.mp h).elim (fun h => (List.mem_append.mp h).elim (fun h => (List.mem_append.mp h).elim (fun h => wsL_law_in0 w h) (fun h => wsL_law_x0 w h)) (fun h => wsL_law_x1 w h)) (fun h => wsL_law_x2 w h)
theorem inlX0 : ∀ w ∈ wsX00, w ∈ wsL_law := fun _ h => List.mem_append_left _ (List.mem_append_left _ (List.mem_append_left _ (List.mem_append_left _ (List.mem_append_right _ h))))
theorem inX0 : ∀ w ∈ wsX00, w ∈ lw_tbl := fun w h => wsL_law_in w (inlX0 w h)
theorem inlX1 : ∀ w ∈ wsX10, w ∈ wsL_law := fun _ h => List.mem_append_left _ (List.mem_append_left _ (List.mem_append_left _ (List.mem_append_left _ (List.mem_append_left _ (List.mem_append_left _ (List.mem_append_right _ h))))))
theorem inX1 : ∀ w ∈ wsX10, w ∈ lw_tbl := fun w h => wsL_law_in w (inlX1 w h)
theorem inlX2 : ∀ w ∈ wsX20, w ∈ wsL_law := fun _ h => List.mem_append_left _ (List.mem_append_left _ (List.mem_append_left _ (List.mem_append_left _ (List.mem_append_left _ (List.mem_append_right _ h)))))
theorem inX2 : ∀ w ∈ wsX20, w ∈ lw_tbl := fun w h => wsL_law_in w (inlX2 w h)
theorem inJ9 : ∀ w ∈ wsJ90, w ∈ lw_tbl := by decide +kernel
theorem inJ0 : ∀ w ∈ wsJ00, w ∈ lw_tbl := by decide +kernel
end
section
theorem dX0_init_0 : decode cX0_init 0 = .ok (.aload_n 0, 1) := by decide +kernel
theorem dX0_init_1 : decode cX0_init 1 = .ok (.invokespecial 3, 3) := by decide +kernel
theorem dX0_init_4 : decode cX0_init 4 = .ok (.aload_n 0, 1) := by decide +kernel
theorem dX0_init_5 : decode cX0_init 5 = .ok (.iconst (-1), 1) := by decide +kernel
theorem dX0_init_6 : decode cX0_init 6 = .ok (.putfield 9, 3) := by decide +kernel
theorem dX0_init_9 : decode cX0_init 9 = .ok (.aload_n 0, 1) := by decide +kernel
theorem dX0_init_10 : decode cX0_init 10 = .ok (.iload_n 1, 1) := by decide +kernel
theorem dX0_init_11 : decode cX0_init 11 = .ok (.putfield 15, 3) := by decide +kernel
theorem dX0_init_14 : decode cX0_init 14 = .ok (.return_, 1) := by decide +kernel
set_option maxRecDepth 20000 in
theorem ggX1_init_X0_init : GoodIn wsX1_init wsX0_init := goodIn_r _ [11, 12, 2, 3, 13, 14, 28, 29, 30, 31, 32, 33, 34, 35, 36] (by decide +kernel) (by decide +kernel)
set_option maxRecDepth 20000 in
theorem gX1_init_X0_init_n22 : GoodIn wsX1_init (wsX0_init) := ggX1_init_X0_init
theorem dX1_init_0 : decode cX1_init 0 = .ok (.aload_n 0, 1) := by decide +kernel
theorem dX1_init_1 : decode cX1_init 1 = .ok (.invokespecial 1, 3) := by decide +kernel
theorem dX1_init_4 : decode cX1_init 4 = .ok (.aload_n 0, 1) := by decide +kernel
theorem dX1_init_5 : decode cX1_init 5 = .ok (.bipush 32, 2) := by decide +kernel
theorem dX1_init_7 : decode cX1_init 7 = .ok (.anewarray 9, 3) := by decide +kernel
theorem dX1_init_10 : decode cX1_init 10 = .ok (.putfield 11, 3) := by decide +kernel
theorem dX1_init_13 : decode cX1_init 13 = .ok (.aload_n 0, 1) := by decide +kernel
theorem dX1_init_14 : decode cX1_init 14 = .ok (.bipush 100, 2) := by decide +kernel
theorem dX1_init_16 : decode cX1_init 16 = .ok (.putfield 15, 3) := by decide +kernel
theorem dX1_init_19 : decode cX1_init 19 = .ok (.aload_n 0, 1) := by decide +kernel
theorem dX1_init_20 : decode cX1_init 20 = .ok (.sipush 1000, 3) := by decide +kernel
theorem dX1_init_23 : decode cX1_init 23 = .ok (.putfield 19, 3) := by decide +kernel
theorem dX1_init_26 : decode cX1_init 26 = .ok (.iconst 0, 1) := by decide +kernel
theorem dX1_init_27 : decode cX1_init 27 = .ok (.istore_n 1, 1) := by decide +kernel
theorem dX1_init_28 : decode cX1_init 28 = .ok (.iload_n 1, 1) := by decide +kernel
theorem dX1_init_29 : decode cX1_init 29 = .ok (.aload_n 0, 1) := by decide +kernel
theorem dX1_init_30 : decode cX1_init 30 = .ok (.getfield 11, 3) := by decide +kernel
theorem dX1_init_33 : decode cX1_init 33 = .ok (.arraylength, 1) := by decide +kernel
theorem dX1_init_34 : decode cX1_init 34 = .ok (.if_icmp .ge 23, 3) := by decide +kernel
theorem dX1_init_37 : decode cX1_init 37 = .ok (.aload_n 0, 1) := by decide +kernel
theorem dX1_init_38 : decode cX1_init 38 = .ok (.getfield 11, 3) := by decide +kernel
theorem dX1_init_41 : decode cX1_init 41 = .ok (.iload_n 1, 1) := by decide +kernel
theorem dX1_init_42 : decode cX1_init 42 = .ok (.new 9, 3) := by decide +kernel
theorem dX1_init_45 : decode cX1_init 45 = .ok (.dup, 1) := by decide +kernel
theorem dX1_init_46 : decode cX1_init 46 = .ok (.iload_n 1, 1) := by decide +kernel
theorem dX1_init_47 : decode cX1_init 47 = .ok (.invokespecial 22, 3) := by decide +kernel
theorem dX1_init_50 : decode cX1_init 50 = .ok (.aastore, 1) := by decide +kernel
theorem dX1_init_51 : decode cX1_init 51 = .ok (.iinc 1 1, 3) := by decide +kernel
theorem dX1_init_54 : decode cX1_init 54 = .ok (.goto (-26), 3) := by decide +kernel
theorem dX1_init_57 : decode cX1_init 57 = .ok (.return_, 1) := by decide +kernel
set_option maxRecDepth 20000 in
theorem ggX1_fetch_X1_slotOf : GoodIn wsX1_fetch wsX1_slotOf := goodIn_ca (goodIn_r _ [5, 6, 7, 8, 110, 111, 112, 113, 114, 115, 116, 117, 118, 119, 120, 121, 122] (by decide +kernel) (by decide +kernel)) (goodIn_sub (fun _ h => List.mem_cons_of_mem _ (List.mem_append_left _ (List.mem_append_right _ h))) (by decide +kernel))
set_option maxRecDepth 20000 in
theorem gX1_fetch_X1_slotOf : GoodIn wsX1_fetch (wsV RX1 25 RX1 yX1_slotOf wsX1_slotOf) := goodIn_app (goodIn_of _ (by decide +kernel)) ggX1_fetch_X1_slotOf
set_option maxRecDepth 20000 in
theorem ggX1_fetch_X1_requireWithin : GoodIn wsX1_fetch wsX1_requireWithin := goodIn_ca (goodIn_r _ [11, 12, 13] (by decide +kernel) (by decide +kernel)) (goodIn_sub (fun _ h => List.mem_cons_of_mem _ (List.mem_append_right _ h)) (by decide +kernel))
set_option maxRecDepth 20000 in
theorem gX1_fetch_X1_requireWithin : GoodIn wsX1_fetch (va_wsS RX1 29 yX1_requireWithin wsX1_requireWithin) := goodIn_app (goodIn_of _ (by decide +kernel)) ggX1_fetch_X1_requireWithin
set_option maxRecDepth 20000 in
theorem ggX1_fetch_X1_hasEnded : GoodIn wsX1_fetch wsX1_hasEnded := goodIn_r _ [17, 18, 110, 111, 112, 113, 114, 115, 116, 117, 118, 119, 120, 121, 122, 101, 102, 103, 104, 105, 106, 107, 108, 109] (by decide +kernel) (by decide +kernel)
set_option maxRecDepth 20000 in
theorem gX1_fetch_X1_hasEnded : GoodIn wsX1_fetch (wsV RX1 37 RX1 yX1_hasEnded wsX1_hasEnded) := goodIn_app (goodIn_of _ (by decide +kernel)) ggX1_fetch_X1_hasEnded
set_option maxRecDepth 20000 in
theorem ggX1_fetch_X1_hit : GoodIn wsX1_fetch wsX1_hit := goodIn_r _ [22, 23, 24, 25, 26, 27, 28, 4, 29, 30, 31, 32, 101, 102, 103, 104, 105, 106, 107, 108, 109, 110, 111, 112, 113, 114, 115, 116, 117, 118, 119, 120, 121, 122] (by decide +kernel) (by decide +kernel)
set_option maxRecDepth 20000 in
theorem gX1_fetch_X1_hit : GoodIn wsX1_fetch (wsV RX1 44 RX1 yX1_hit wsX1_hit) := goodIn_app (goodIn_of _ (by decide +kernel)) ggX1_fetch_X1_hit
set_option maxRecDepth 20000 in
theorem ggX1_fetch_X1_countMiss : GoodIn wsX1_fetch wsX1_countMiss := goodIn_r _ [36, 37, 38, 110, 111, 112, 113, 114, 115, 116, 117, 118, 119, 120, 121, 122] (by decide +kernel) (by decide +kernel)
set_option maxRecDepth 20000 in
theorem gX1_fetch_X1_countMiss : GoodIn wsX1_fetch (wsV RX1 48 RX1 yX1_countMiss wsX1_countMiss) := goodIn_app (goodIn_of _ (by decide +kernel)) ggX1_fetch_X1_countMiss
set_option maxRecDepth 20000 in
theorem ggX1_fetch_X1_letInIfPossible : GoodIn wsX1_fetch wsX1_letInIfPossible := goodIn_r _ [42, 18, 43, 44, 45, 46, 47, 4, 48, 49, 50, 51, 52, 53, 14, 15, 16, 17, 54, 55, 56, 57, 58, 59, 60, 61, 62, 63, 64, 65, 8, 66, 67, 68, 69, 70, 71, 72, 73, 74, 75, 76, 77, 31, 78, 79, 80, 81, 82, 83, 84, 85, 86, 87, 88, 89, 90, 91, 92, 93, 94, 95, 96, 97, 98, 99, 100, 26, 27, 28, 29, 30, 32, 110, 111, 112, 113, 114, 115, 116, 117, 118, 119, 120, 121, 122, 101, 102, 103, 104, 105, 106, 107, 108, 109] (by decide +kernel) (by decide +kernel)
set_option maxRecDepth 20000 in
theorem gX1_fetch_X1_letInIfPossible : GoodIn wsX1_fetch (wsV RX1 51 RX1 yX1_letInIfPossible wsX1_letInIfPossible) := goodIn_app (goodIn_of _ (by decide +kernel)) ggX1_fetch_X1_letInIfPossible
theorem dX1_fetch_0 : decode cX1_fetch 0 = .ok (.aload_n 0, 1) := by decide +kernel
theorem dX1_fetch_1 : decode cX1_fetch 1 = .ok (.iload_n 1, 1) := by decide +kernel
theorem dX1_fetch_2 : decode cX1_fetch 2 = .ok (.invokevirtual 25, 3) := by decide +kernel
theorem dX1_fetch_5 : decode cX1_fetch 5 = .ok (.astore 5, 2) := by decide +kernel
theorem dX1_fetch_7 : decode cX1_fetch 7 = .ok (.iload_n 2, 1) := by decide +kernel
theorem dX1_fetch_8 : decode cX1_fetch 8 = .ok (.iconst 1, 1) := by decide +kernel
theorem dX1_fetch_9 : decode cX1_fetch 9 = .ok (.sipush 1000, 3) := by decide +kernel
theorem dX1_fetch_12 : decode cX1_fetch 12 = .ok (.invokestatic 29, 3) := by decide +kernel
theorem dX1_fetch_15 : decode cX1_fetch 15 = .ok (.iload_n 3, 1) := by decide +kernel
theorem dX1_fetch_16 : decode cX1_fetch 16 = .ok (.iconst 0, 1) := by decide +kernel
theorem dX1_fetch_17 : decode cX1_fetch 17 = .ok (.sipush 1000, 3) := by decide +kernel
theorem dX1_fetch_20 : decode cX1_fetch 20 = .ok (.invokestatic 29, 3) := by decide +kernel
theorem dX1_fetch_23 : decode cX1_fetch 23 = .ok (.iload 4, 2) := by decide +kernel
theorem dX1_fetch_25 : decode cX1_fetch 25 = .ok (.iconst 1, 1) := by decide +kernel
theorem dX1_fetch_26 : decode cX1_fetch 26 = .ok (.sipush 10000, 3) := by decide +kernel
theorem dX1_fetch_29 : decode cX1_fetch 29 = .ok (.invokestatic 29, 3) := by decide +kernel
theorem dX1_fetch_32 : decode cX1_fetch 32 = .ok (.aload 5, 2) := by decide +kernel
theorem dX1_fetch_34 : decode cX1_fetch 34 = .ok (.getfield 33, 3) := by decide +kernel
theorem dX1_fetch_37 : decode cX1_fetch 37 = .ok (.ifCond .eq 30, 3) := by decide +kernel
theorem dX1_fetch_40 : decode cX1_fetch 40 = .ok (.aload_n 0, 1) := by decide +kernel
theorem dX1_fetch_41 : decode cX1_fetch 41 = .ok (.aload 5, 2) := by decide +kernel
theorem dX1_fetch_43 : decode cX1_fetch 43 = .ok (.invokevirtual 37, 3) := by decide +kernel
theorem dX1_fetch_46 : decode cX1_fetch 46 = .ok (.ifCond .ne 21, 3) := by decide +kernel
theorem dX1_fetch_49 : decode cX1_fetch 49 = .ok (.aload 5, 2) := by decide +kernel
theorem dX1_fetch_51 : decode cX1_fetch 51 = .ok (.getfield 41, 3) := by decide +kernel
theorem dX1_fetch_54 : decode cX1_fetch 54 = .ok (.iload_n 2, 1) := by decide +kernel
theorem dX1_fetch_55 : decode cX1_fetch 55 = .ok (.if_icmp .ne 12, 3) := by decide +kernel
theorem dX1_fetch_58 : decode cX1_fetch 58 = .ok (.aload_n 0, 1) := by decide +kernel
theorem dX1_fetch_59 : decode cX1_fetch 59 = .ok (.aload 5, 2) := by decide +kernel
theorem dX1_fetch_61 : decode cX1_fetch 61 = .ok (.iload_n 3, 1) := by decide +kernel
theorem dX1_fetch_62 : decode cX1_fetch 62 = .ok (.invokevirtual 44, 3) := by decide +kernel
theorem dX1_fetch_65 : decode cX1_fetch 65 = .ok (.iconst 0, 1) := by decide +kernel
theorem dX1_fetch_66 : decode cX1_fetch 66 = .ok (.ireturn, 1) := by decide +kernel
theorem dX1_fetch_67 : decode cX1_fetch 67 = .ok (.aload_n 0, 1) := by decide +kernel
theorem dX1_fetch_68 : decode cX1_fetch 68 = .ok (.iload_n 3, 1) := by decide +kernel
theorem dX1_fetch_69 : decode cX1_fetch 69 = .ok (.invokevirtual 48, 3) := by decide +kernel
theorem dX1_fetch_72 : decode cX1_fetch 72 = .ok (.aload_n 0, 1) := by decide +kernel
theorem dX1_fetch_73 : decode cX1_fetch 73 = .ok (.aload 5, 2) := by decide +kernel
theorem dX1_fetch_75 : decode cX1_fetch 75 = .ok (.iload_n 2, 1) := by decide +kernel
theorem dX1_fetch_76 : decode cX1_fetch 76 = .ok (.iload_n 3, 1) := by decide +kernel
theorem dX1_fetch_77 : decode cX1_fetch 77 = .ok (.iload 4, 2) := by decide +kernel
theorem dX1_fetch_79 : decode cX1_fetch 79 = .ok (.invokevirtual 51, 3) := by decide +kernel
theorem dX1_fetch_82 : decode cX1_fetch 82 = .ok (.ifCond .eq 7, 3) := by decide +kernel
theorem dX1_fetch_85 : decode cX1_fetch 85 = .ok (.iconst 1, 1) := by decide +kernel
theorem dX1_fetch_86 : decode cX1_fetch 86 = .ok (.goto 4, 3) := by decide +kernel
theorem dX1_fetch_89 : decode cX1_fetch 89 = .ok (.iconst 2, 1) := by decide +kernel
theorem dX1_fetch_90 : decode cX1_fetch 90 = .ok (.ireturn, 1) := by decide +kernel
set_option maxRecDepth 20000 in
theorem ggX1_pass_X1_requireWithin : GoodIn wsX1_pass wsX1_requireWithin := goodIn_ca (goodIn_r _ [5, 6, 7] (by decide +kernel) (by decide +kernel)) (goodIn_sub (fun _ h => List.mem_cons_of_mem _ (List.mem_append_right _ h)) (by decide +kernel))
set_option maxRecDepth 20000 in
theorem gX1_pass_X1_requireWithin : GoodIn wsX1_pass (va_wsS RX1 29 yX1_requireWithin wsX1_requireWithin) := goodIn_app (goodIn_of _ (by decide +kernel)) ggX1_pass_X1_requireWithin
theorem dX1_pass_0 : decode cX1_pass 0 = .ok (.iload_n 1, 1) := by decide +kernel
theorem dX1_pass_1 : decode cX1_pass 1 = .ok (.iconst 1, 1) := by decide +kernel
theorem dX1_pass_2 : decode cX1_pass 2 = .ok (.sipush 10000, 3) := by decide +kernel
theorem dX1_pass_5 : decode cX1_pass 5 = .ok (.invokestatic 29, 3) := by decide +kernel
theorem dX1_pass_8 : decode cX1_pass 8 = .ok (.aload_n 0, 1) := by decide +kernel
theorem dX1_pass_9 : decode cX1_pass 9 = .ok (.dup, 1) := by decide +kernel
theorem dX1_pass_10 : decode cX1_pass 10 = .ok (.getfield 55, 3) := by decide +kernel
theorem dX1_pass_13 : decode cX1_pass 13 = .ok (.iload_n 1, 1) := by decide +kernel
theorem dX1_pass_14 : decode cX1_pass 14 = .ok (.iadd, 1) := by decide +kernel
theorem dX1_pass_15 : decode cX1_pass 15 = .ok (.putfield 55, 3) := by decide +kernel
theorem dX1_pass_18 : decode cX1_pass 18 = .ok (.aload_n 0, 1) := by decide +kernel
theorem dX1_pass_19 : decode cX1_pass 19 = .ok (.getfield 55, 3) := by decide +kernel
theorem dX1_pass_22 : decode cX1_pass 22 = .ok (.ireturn, 1) := by decide +kernel
set_option maxRecDepth 20000 in
theorem ggX1_pin_X1_filledSlotOf : GoodIn wsX1_pin wsX1_filledSlotOf := goodIn_ca (goodIn_ca (goodIn_r _ [5, 6, 7, 8, 9, 10, 4, 11, 12, 13, 14, 15, 16, 17, 18, 19, 20, 21, 22, 23, 24, 25, 26, 27, 28, 29, 30, 31, 32, 33, 34, 35, 36] (by decide +kernel) (by decide +kernel)) (goodIn_sub (fun _ h => List.mem_cons_of_mem _ (List.mem_append_left _ (List.mem_append_right _ h))) (by decide +kernel))) (goodIn_sub (fun _ h => List.mem_cons_of_mem _ (List.mem_append_right _ h)) (by decide +kernel))
set_option maxRecDepth 20000 in
theorem gX1_pin_X1_filledSlotOf : GoodIn wsX1_pin (wsV RX1 58 RX1 yX1_filledSlotOf wsX1_filledSlotOf) := goodIn_app (goodIn_of _ (by decide +kernel)) ggX1_pin_X1_filledSlotOf
theorem dX1_pin_0 : decode cX1_pin 0 = .ok (.aload_n 0, 1) := by decide +kernel
theorem dX1_pin_1 : decode cX1_pin 1 = .ok (.iload_n 1, 1) := by decide +kernel
theorem dX1_pin_2 : decode cX1_pin 2 = .ok (.invokevirtual 58, 3) := by decide +kernel
theorem dX1_pin_5 : decode cX1_pin 5 = .ok (.astore_n 3, 1) := by decide +kernel
theorem dX1_pin_6 : decode cX1_pin 6 = .ok (.aload_n 3, 1) := by decide +kernel
theorem dX1_pin_7 : decode cX1_pin 7 = .ok (.getfield 61, 3) := by decide +kernel
theorem dX1_pin_10 : decode cX1_pin 10 = .ok (.istore 4, 2) := by decide +kernel
theorem dX1_pin_12 : decode cX1_pin 12 = .ok (.aload_n 3, 1) := by decide +kernel
theorem dX1_pin_13 : decode cX1_pin 13 = .ok (.iload_n 2, 1) := by decide +kernel
theorem dX1_pin_14 : decode cX1_pin 14 = .ok (.putfield 61, 3) := by decide +kernel
theorem dX1_pin_17 : decode cX1_pin 17 = .ok (.iload 4, 2) := by decide +kernel
theorem dX1_pin_19 : decode cX1_pin 19 = .ok (.ireturn, 1) := by decide +kernel
set_option maxRecDepth 20000 in
theorem ggX1_drop_X1_filledSlotOf : GoodIn wsX1_drop wsX1_filledSlotOf := goodIn_ca (goodIn_ca (goodIn_r _ [5, 6, 7, 8, 9, 10, 4, 11, 12, 13, 14, 15, 16, 17, 18, 19, 20, 21, 22, 23, 24, 25, 26, 27, 28, 29, 30, 31, 32, 33, 34, 35, 36] (by decide +kernel) (by decide +kernel)) (goodIn_sub (fun _ h => List.mem_cons_of_mem _ (List.mem_append_left _ (List.mem_append_right _ h))) (by decide +kernel))) (goodIn_sub (fun _ h => List.mem_cons_of_mem _ (List.mem_append_right _ h)) (by decide +kernel))
set_option maxRecDepth 20000 in
theorem gX1_drop_X1_filledSlotOf : GoodIn wsX1_drop (wsV RX1 58 RX1 yX1_filledSlotOf wsX1_filledSlotOf) := goodIn_app (goodIn_of _ (by decide +kernel)) ggX1_drop_X1_filledSlotOf
theorem dX1_drop_0 : decode cX1_drop 0 = .ok (.aload_n 0, 1) := by decide +kernel
theorem dX1_drop_1 : decode cX1_drop 1 = .ok (.iload_n 1, 1) := by decide +kernel
theorem dX1_drop_2 : decode cX1_drop 2 = .ok (.invokevirtual 58, 3) := by decide +kernel
theorem dX1_drop_5 : decode cX1_drop 5 = .ok (.astore_n 2, 1) := by decide +kernel
theorem dX1_drop_6 : decode cX1_drop 6 = .ok (.aload_n 2, 1) := by decide +kernel
theorem dX1_drop_7 : decode cX1_drop 7 = .ok (.iconst 0, 1) := by decide +kernel
theorem dX1_drop_8 : decode cX1_drop 8 = .ok (.putfield 33, 3) := by decide +kernel
theorem dX1_drop_11 : decode cX1_drop 11 = .ok (.aload_n 2, 1) := by decide +kernel
theorem dX1_drop_12 : decode cX1_drop 12 = .ok (.getfield 41, 3) := by decide +kernel
theorem dX1_drop_15 : decode cX1_drop 15 = .ok (.ireturn, 1) := by decide +kernel
set_option maxRecDepth 20000 in
theorem ggX1_purge_X1_removeAllOver : GoodIn wsX1_purge wsX1_removeAllOver := goodIn_r _ [5, 6, 7, 8, 9, 10, 4, 11, 12, 13, 14, 15, 16, 17, 18, 19, 20, 21, 22, 23, 24, 25, 26, 27, 28, 29, 30, 31, 32, 33, 34] (by decide +kernel) (by decide +kernel)
set_option maxRecDepth 20000 in
theorem gX1_purge_X1_removeAllOver : GoodIn wsX1_purge (wsV RX1 64 RX1 yX1_removeAllOver wsX1_removeAllOver) := goodIn_app (goodIn_of _ (by decide +kernel)) ggX1_purge_X1_removeAllOver
theorem dX1_purge_0 : decode cX1_purge 0 = .ok (.aload_n 0, 1) := by decide +kernel
theorem dX1_purge_1 : decode cX1_purge 1 = .ok (.invokevirtual 64, 3) := by decide +kernel
theorem dX1_purge_4 : decode cX1_purge 4 = .ok (.ireturn, 1) := by decide +kernel
set_option maxRecDepth 20000 in
theorem ggX1_setCapacity_X1_requireWithin : GoodIn wsX1_setCapacity wsX1_requireWithin := goodIn_ca (goodIn_r _ [7, 8, 9] (by decide +kernel) (by decide +kernel)) (goodIn_sub (fun _ h => List.mem_cons_of_mem _ (List.mem_append_right _ h)) (by decide +kernel))
set_option maxRecDepth 20000 in
theorem gX1_setCapacity_X1_requireWithin : GoodIn wsX1_setCapacity (va_wsS RX1 29 yX1_requireWithin wsX1_requireWithin) := goodIn_app (goodIn_of _ (by decide +kernel)) ggX1_setCapacity_X1_requireWithin
set_option maxRecDepth 20000 in
theorem ggX1_setCapacity_X1_bytesThatCannotLeave : GoodIn wsX1_setCapacity wsX1_bytesThatCannotLeave := goodIn_r _ [13, 14, 15, 16, 17, 6, 18, 19, 53, 54, 55, 56, 57, 58, 59, 60, 61, 62, 63, 64, 65, 66, 67, 68, 69, 70, 71, 72, 73, 74] (by decide +kernel) (by decide +kernel)
set_option maxRecDepth 20000 in
theorem gX1_setCapacity_X1_bytesThatCannotLeave : GoodIn wsX1_setCapacity (wsV RX1 68 RX1 yX1_bytesThatCannotLeave wsX1_bytesThatCannotLeave) := goodIn_app (goodIn_of _ (by decide +kernel)) ggX1_setCapacity_X1_bytesThatCannotLeave
set_option maxRecDepth 20000 in
theorem ggX1_setCapacity_X1_used : GoodIn wsX1_setCapacity wsX1_used := goodIn_r _ [23, 14, 53, 54, 55, 56, 57, 58, 59, 60, 61, 62, 63, 64, 65, 66, 67, 68, 69, 70, 71, 72, 73, 74] (by decide +kernel) (by decide +kernel)
set_option maxRecDepth 20000 in
theorem gX1_setCapacity_X1_used : GoodIn wsX1_setCapacity (wsV RX1 78 RX1 yX1_used wsX1_used) := goodIn_app (goodIn_of _ (by decide +kernel)) ggX1_setCapacity_X1_used
set_option maxRecDepth 20000 in
theorem ggX1_setCapacity_X1_removeAllOver : GoodIn wsX1_setCapacity wsX1_removeAllOver := goodIn_r _ [27, 14, 28, 15, 16, 17, 6, 18, 19, 53, 54, 55, 56, 57, 58, 59, 60, 61, 62, 63, 64, 65, 66, 67, 68, 69, 70, 71, 72, 73, 74] (by decide +kernel) (by decide +kernel)
set_option maxRecDepth 20000 in
theorem gX1_setCapacity_X1_removeAllOver : GoodIn wsX1_setCapacity (wsV RX1 64 RX1 yX1_removeAllOver wsX1_removeAllOver) := goodIn_app (goodIn_of _ (by decide +kernel)) ggX1_setCapacity_X1_removeAllOver
set_option maxRecDepth 20000 in
theorem ggX1_setCapacity_X1_leaveDownTo : GoodIn wsX1_setCapacity wsX1_leaveDownTo := goodIn_r _ [32, 33, 34, 35, 36, 37, 38, 39, 40, 41, 6, 42, 43, 44, 45, 46, 14, 47, 48, 49, 50, 51, 52, 20, 21, 22, 23, 66, 67, 68, 69, 70, 71, 72, 73, 74, 53, 54, 55, 56, 57, 58, 59, 60, 61, 62, 63, 64, 65] (by decide +kernel) (by decide +kernel)
set_option maxRecDepth 20000 in
theorem gX1_setCapacity_X1_leaveDownTo : GoodIn wsX1_setCapacity (wsV RX1 81 RX1 yX1_leaveDownTo wsX1_leaveDownTo) := goodIn_app (goodIn_of _ (by decide +kernel)) ggX1_setCapacity_X1_leaveDownTo
theorem dX1_setCapacity_0 : decode cX1_setCapacity 0 = .ok (.iload_n 1, 1) := by decide +kernel
theorem dX1_setCapacity_1 : decode cX1_setCapacity 1 = .ok (.iconst 1, 1) := by decide +kernel
theorem dX1_setCapacity_2 : decode cX1_setCapacity 2 = .ok (.sipush 10000, 3) := by decide +kernel
theorem dX1_setCapacity_5 : decode cX1_setCapacity 5 = .ok (.invokestatic 29, 3) := by decide +kernel
theorem dX1_setCapacity_8 : decode cX1_setCapacity 8 = .ok (.aload_n 0, 1) := by decide +kernel
theorem dX1_setCapacity_9 : decode cX1_setCapacity 9 = .ok (.invokevirtual 68, 3) := by decide +kernel
theorem dX1_setCapacity_12 : decode cX1_setCapacity 12 = .ok (.iload_n 1, 1) := by decide +kernel
theorem dX1_setCapacity_13 : decode cX1_setCapacity 13 = .ok (.if_icmp .le 13, 3) := by decide +kernel
theorem dX1_setCapacity_16 : decode cX1_setCapacity 16 = .ok (.new 71, 3) := by decide +kernel
theorem dX1_setCapacity_19 : decode cX1_setCapacity 19 = .ok (.dup, 1) := by decide +kernel
theorem dX1_setCapacity_20 : decode cX1_setCapacity 20 = .ok (.ldc 73, 2) := by decide +kernel
theorem dX1_setCapacity_22 : decode cX1_setCapacity 22 = .ok (.invokespecial 75, 3) := by decide +kernel
theorem dX1_setCapacity_25 : decode cX1_setCapacity 25 = .ok (.athrow, 1) := by decide +kernel
theorem dX1_setCapacity_26 : decode cX1_setCapacity 26 = .ok (.aload_n 0, 1) := by decide +kernel
theorem dX1_setCapacity_27 : decode cX1_setCapacity 27 = .ok (.iload_n 1, 1) := by decide +kernel
theorem dX1_setCapacity_28 : decode cX1_setCapacity 28 = .ok (.putfield 15, 3) := by decide +kernel
theorem dX1_setCapacity_31 : decode cX1_setCapacity 31 = .ok (.aload_n 0, 1) := by decide +kernel
theorem dX1_setCapacity_32 : decode cX1_setCapacity 32 = .ok (.invokevirtual 78, 3) := by decide +kernel
theorem dX1_setCapacity_35 : decode cX1_setCapacity 35 = .ok (.iload_n 1, 1) := by decide +kernel
theorem dX1_setCapacity_36 : decode cX1_setCapacity 36 = .ok (.if_icmp .gt 5, 3) := by decide +kernel
theorem dX1_setCapacity_39 : decode cX1_setCapacity 39 = .ok (.iconst 0, 1) := by decide +kernel
theorem dX1_setCapacity_40 : decode cX1_setCapacity 40 = .ok (.ireturn, 1) := by decide +kernel
theorem dX1_setCapacity_41 : decode cX1_setCapacity 41 = .ok (.aload_n 0, 1) := by decide +kernel
theorem dX1_setCapacity_42 : decode cX1_setCapacity 42 = .ok (.invokevirtual 64, 3) := by decide +kernel
theorem dX1_setCapacity_45 : decode cX1_setCapacity 45 = .ok (.pop, 1) := by decide +kernel
theorem dX1_setCapacity_46 : decode cX1_setCapacity 46 = .ok (.aload_n 0, 1) := by decide +kernel
theorem dX1_setCapacity_47 : decode cX1_setCapacity 47 = .ok (.iload_n 1, 1) := by decide +kernel
theorem dX1_setCapacity_48 : decode cX1_setCapacity 48 = .ok (.invokevirtual 81, 3) := by decide +kernel
theorem dX1_setCapacity_51 : decode cX1_setCapacity 51 = .ok (.ireturn, 1) := by decide +kernel
set_option maxRecDepth 20000 in
theorem ggX1_setThreshold_X1_requireWithin : GoodIn wsX1_setThreshold wsX1_requireWithin := goodIn_ca (goodIn_r _ [5, 6, 7] (by decide +kernel) (by decide +kernel)) (goodIn_sub (fun _ h => List.mem_cons_of_mem _ (List.mem_append_right _ h)) (by decide +kernel))
set_option maxRecDepth 20000 in
theorem gX1_setThreshold_X1_requireWithin : GoodIn wsX1_setThreshold (va_wsS RX1 29 yX1_requireWithin wsX1_requireWithin) := goodIn_app (goodIn_of _ (by decide +kernel)) ggX1_setThreshold_X1_requireWithin
theorem dX1_setThreshold_0 : decode cX1_setThreshold 0 = .ok (.iload_n 1, 1) := by decide +kernel
theorem dX1_setThreshold_1 : decode cX1_setThreshold 1 = .ok (.iconst 1, 1) := by decide +kernel
theorem dX1_setThreshold_2 : decode cX1_setThreshold 2 = .ok (.sipush 1000, 3) := by decide +kernel
theorem dX1_setThreshold_5 : decode cX1_setThreshold 5 = .ok (.invokestatic 29, 3) := by decide +kernel
theorem dX1_setThreshold_8 : decode cX1_setThreshold 8 = .ok (.aload_n 0, 1) := by decide +kernel
theorem dX1_setThreshold_9 : decode cX1_setThreshold 9 = .ok (.getfield 19, 3) := by decide +kernel
theorem dX1_setThreshold_12 : decode cX1_setThreshold 12 = .ok (.istore_n 2, 1) := by decide +kernel
theorem dX1_setThreshold_13 : decode cX1_setThreshold 13 = .ok (.aload_n 0, 1) := by decide +kernel
theorem dX1_setThreshold_14 : decode cX1_setThreshold 14 = .ok (.iload_n 1, 1) := by decide +kernel
theorem dX1_setThreshold_15 : decode cX1_setThreshold 15 = .ok (.putfield 19, 3) := by decide +kernel
theorem dX1_setThreshold_18 : decode cX1_setThreshold 18 = .ok (.iload_n 2, 1) := by decide +kernel
theorem dX1_setThreshold_19 : decode cX1_setThreshold 19 = .ok (.ireturn, 1) := by decide +kernel
set_option maxRecDepth 20000 in
theorem ggX1_has_X1_slotOf : GoodIn wsX1_has wsX1_slotOf := goodIn_ca (goodIn_r _ [5, 6, 7, 8, 18, 19, 20, 21, 22, 23, 24, 25, 26, 27, 28, 29, 30] (by decide +kernel) (by decide +kernel)) (goodIn_sub (fun _ h => List.mem_cons_of_mem _ (List.mem_append_right _ h)) (by decide +kernel))
set_option maxRecDepth 20000 in
theorem gX1_has_X1_slotOf : GoodIn wsX1_has (wsV RX1 25 RX1 yX1_slotOf wsX1_slotOf) := goodIn_app (goodIn_of _ (by decide +kernel)) ggX1_has_X1_slotOf
theorem dX1_has_0 : decode cX1_has 0 = .ok (.aload_n 0, 1) := by decide +kernel
theorem dX1_has_1 : decode cX1_has 1 = .ok (.iload_n 1, 1) := by decide +kernel
theorem dX1_has_2 : decode cX1_has 2 = .ok (.invokevirtual 25, 3) := by decide +kernel
theorem dX1_has_5 : decode cX1_has 5 = .ok (.getfield 33, 3) := by decide +kernel
theorem dX1_has_8 : decode cX1_has 8 = .ok (.ireturn, 1) := by decide +kernel
set_option maxRecDepth 20000 in
theorem ggX1_isOver_X1_slotOf : GoodIn wsX1_isOver wsX1_slotOf := goodIn_ca (goodIn_r _ [5, 6, 7, 8, 23, 24, 25, 26, 27, 28, 29, 30, 31, 32, 33, 34, 35] (by decide +kernel) (by decide +kernel)) (goodIn_sub (fun _ h => List.mem_cons_of_mem _ (List.mem_append_right _ h)) (by decide +kernel))
set_option maxRecDepth 20000 in
theorem gX1_isOver_X1_slotOf : GoodIn wsX1_isOver (wsV RX1 25 RX1 yX1_slotOf wsX1_slotOf) := goodIn_app (goodIn_of _ (by decide +kernel)) ggX1_isOver_X1_slotOf
set_option maxRecDepth 20000 in
theorem ggX1_isOver_X1_hasEnded : GoodIn wsX1_isOver wsX1_hasEnded := goodIn_r _ [12, 13, 23, 24, 25, 26, 27, 28, 29, 30, 31, 32, 33, 34, 35, 14, 15, 16, 17, 18, 19, 20, 21, 22] (by decide +kernel) (by decide +kernel)
set_option maxRecDepth 20000 in
theorem gX1_isOver_X1_hasEnded : GoodIn wsX1_isOver (wsV RX1 37 RX1 yX1_hasEnded wsX1_hasEnded) := goodIn_app (goodIn_of _ (by decide +kernel)) ggX1_isOver_X1_hasEnded
theorem dX1_isOver_0 : decode cX1_isOver 0 = .ok (.aload_n 0, 1) := by decide +kernel
theorem dX1_isOver_1 : decode cX1_isOver 1 = .ok (.iload_n 1, 1) := by decide +kernel
theorem dX1_isOver_2 : decode cX1_isOver 2 = .ok (.invokevirtual 25, 3) := by decide +kernel
theorem dX1_isOver_5 : decode cX1_isOver 5 = .ok (.astore_n 2, 1) := by decide +kernel
theorem dX1_isOver_6 : decode cX1_isOver 6 = .ok (.aload_n 2, 1) := by decide +kernel
theorem dX1_isOver_7 : decode cX1_isOver 7 = .ok (.getfield 33, 3) := by decide +kernel
theorem dX1_isOver_10 : decode cX1_isOver 10 = .ok (.ifCond .eq 15, 3) := by decide +kernel
theorem dX1_isOver_13 : decode cX1_isOver 13 = .ok (.aload_n 0, 1) := by decide +kernel
theorem dX1_isOver_14 : decode cX1_isOver 14 = .ok (.aload_n 2, 1) := by decide +kernel
theorem dX1_isOver_15 : decode cX1_isOver 15 = .ok (.invokevirtual 37, 3) := by decide +kernel
theorem dX1_isOver_18 : decode cX1_isOver 18 = .ok (.ifCond .eq 7, 3) := by decide +kernel
theorem dX1_isOver_21 : decode cX1_isOver 21 = .ok (.iconst 1, 1) := by decide +kernel
theorem dX1_isOver_22 : decode cX1_isOver 22 = .ok (.goto 4, 3) := by decide +kernel
theorem dX1_isOver_25 : decode cX1_isOver 25 = .ok (.iconst 0, 1) := by decide +kernel
theorem dX1_isOver_26 : decode cX1_isOver 26 = .ok (.ireturn, 1) := by decide +kernel
set_option maxRecDepth 20000 in
theorem ggX1_sizeOf_X1_slotOf : GoodIn wsX1_sizeOf wsX1_slotOf := goodIn_ca (goodIn_r _ [5, 6, 7, 8, 18, 19, 20, 21, 22, 23, 24, 25, 26, 27, 28, 29, 30] (by decide +kernel) (by decide +kernel)) (goodIn_sub (fun _ h => List.mem_cons_of_mem _ (List.mem_append_right _ h)) (by decide +kernel))
set_option maxRecDepth 20000 in
theorem gX1_sizeOf_X1_slotOf : GoodIn wsX1_sizeOf (wsV RX1 25 RX1 yX1_slotOf wsX1_slotOf) := goodIn_app (goodIn_of _ (by decide +kernel)) ggX1_sizeOf_X1_slotOf
theorem dX1_sizeOf_0 : decode cX1_sizeOf 0 = .ok (.aload_n 0, 1) := by decide +kernel
theorem dX1_sizeOf_1 : decode cX1_sizeOf 1 = .ok (.iload_n 1, 1) := by decide +kernel
theorem dX1_sizeOf_2 : decode cX1_sizeOf 2 = .ok (.invokevirtual 25, 3) := by decide +kernel
theorem dX1_sizeOf_5 : decode cX1_sizeOf 5 = .ok (.astore_n 2, 1) := by decide +kernel
theorem dX1_sizeOf_6 : decode cX1_sizeOf 6 = .ok (.aload_n 2, 1) := by decide +kernel
theorem dX1_sizeOf_7 : decode cX1_sizeOf 7 = .ok (.getfield 33, 3) := by decide +kernel
theorem dX1_sizeOf_10 : decode cX1_sizeOf 10 = .ok (.ifCond .eq 10, 3) := by decide +kernel
theorem dX1_sizeOf_13 : decode cX1_sizeOf 13 = .ok (.aload_n 2, 1) := by decide +kernel
theorem dX1_sizeOf_14 : decode cX1_sizeOf 14 = .ok (.getfield 41, 3) := by decide +kernel
theorem dX1_sizeOf_17 : decode cX1_sizeOf 17 = .ok (.goto 4, 3) := by decide +kernel
theorem dX1_sizeOf_20 : decode cX1_sizeOf 20 = .ok (.iconst 0, 1) := by decide +kernel
theorem dX1_sizeOf_21 : decode cX1_sizeOf 21 = .ok (.ireturn, 1) := by decide +kernel
set_option maxRecDepth 20000 in
theorem ggX1_frequencyOf_X1_slotOf : GoodIn wsX1_frequencyOf wsX1_slotOf := goodIn_ca (goodIn_r _ [5, 6, 7, 8, 18, 19, 20, 21, 22, 23, 24, 25, 26, 27, 28, 29, 30] (by decide +kernel) (by decide +kernel)) (goodIn_sub (fun _ h => List.mem_cons_of_mem _ (List.mem_append_right _ h)) (by decide +kernel))
set_option maxRecDepth 20000 in
theorem gX1_frequencyOf_X1_slotOf : GoodIn wsX1_frequencyOf (wsV RX1 25 RX1 yX1_slotOf wsX1_slotOf) := goodIn_app (goodIn_of _ (by decide +kernel)) ggX1_frequencyOf_X1_slotOf
theorem dX1_frequencyOf_0 : decode cX1_frequencyOf 0 = .ok (.aload_n 0, 1) := by decide +kernel
theorem dX1_frequencyOf_1 : decode cX1_frequencyOf 1 = .ok (.iload_n 1, 1) := by decide +kernel
theorem dX1_frequencyOf_2 : decode cX1_frequencyOf 2 = .ok (.invokevirtual 25, 3) := by decide +kernel
theorem dX1_frequencyOf_5 : decode cX1_frequencyOf 5 = .ok (.astore_n 2, 1) := by decide +kernel
theorem dX1_frequencyOf_6 : decode cX1_frequencyOf 6 = .ok (.aload_n 2, 1) := by decide +kernel
theorem dX1_frequencyOf_7 : decode cX1_frequencyOf 7 = .ok (.getfield 33, 3) := by decide +kernel
theorem dX1_frequencyOf_10 : decode cX1_frequencyOf 10 = .ok (.ifCond .eq 10, 3) := by decide +kernel
theorem dX1_frequencyOf_13 : decode cX1_frequencyOf 13 = .ok (.aload_n 2, 1) := by decide +kernel
theorem dX1_frequencyOf_14 : decode cX1_frequencyOf 14 = .ok (.getfield 85, 3) := by decide +kernel
theorem dX1_frequencyOf_17 : decode cX1_frequencyOf 17 = .ok (.goto 4, 3) := by decide +kernel
theorem dX1_frequencyOf_20 : decode cX1_frequencyOf 20 = .ok (.iconst 0, 1) := by decide +kernel
theorem dX1_frequencyOf_21 : decode cX1_frequencyOf 21 = .ok (.ireturn, 1) := by decide +kernel
set_option maxRecDepth 20000 in
theorem ggX1_worthOf_X1_slotOf : GoodIn wsX1_worthOf wsX1_slotOf := goodIn_ca (goodIn_r _ [6, 7, 8, 9, 19, 20, 21, 22, 23, 24, 25, 26, 27, 28, 29, 30, 31] (by decide +kernel) (by decide +kernel)) (goodIn_sub (fun _ h => List.mem_cons_of_mem _ (List.mem_append_right _ h)) (by decide +kernel))
set_option maxRecDepth 20000 in
theorem gX1_worthOf_X1_slotOf : GoodIn wsX1_worthOf (wsV RX1 25 RX1 yX1_slotOf wsX1_slotOf) := goodIn_app (goodIn_of _ (by decide +kernel)) ggX1_worthOf_X1_slotOf
theorem dX1_worthOf_0 : decode cX1_worthOf 0 = .ok (.aload_n 0, 1) := by decide +kernel
theorem dX1_worthOf_1 : decode cX1_worthOf 1 = .ok (.iload_n 1, 1) := by decide +kernel
theorem dX1_worthOf_2 : decode cX1_worthOf 2 = .ok (.invokevirtual 25, 3) := by decide +kernel
theorem dX1_worthOf_5 : decode cX1_worthOf 5 = .ok (.astore_n 2, 1) := by decide +kernel
theorem dX1_worthOf_6 : decode cX1_worthOf 6 = .ok (.aload_n 2, 1) := by decide +kernel
theorem dX1_worthOf_7 : decode cX1_worthOf 7 = .ok (.getfield 33, 3) := by decide +kernel
theorem dX1_worthOf_10 : decode cX1_worthOf 10 = .ok (.ifCond .eq 10, 3) := by decide +kernel
theorem dX1_worthOf_13 : decode cX1_worthOf 13 = .ok (.aload_n 2, 1) := by decide +kernel
theorem dX1_worthOf_14 : decode cX1_worthOf 14 = .ok (.getfield 88, 3) := by decide +kernel
theorem dX1_worthOf_17 : decode cX1_worthOf 17 = .ok (.goto 6, 3) := by decide +kernel
theorem dX1_worthOf_20 : decode cX1_worthOf 20 = .ok (.ldc2_w 92, 3) := by decide +kernel
theorem dX1_worthOf_23 : decode cX1_worthOf 23 = .ok (.lreturn, 1) := by decide +kernel
set_option maxRecDepth 20000 in
theorem ggX1_endOf_X1_slotOf : GoodIn wsX1_endOf wsX1_slotOf := goodIn_ca (goodIn_r _ [5, 6, 7, 8, 18, 19, 20, 21, 22, 23, 24, 25, 26, 27, 28, 29, 30] (by decide +kernel) (by decide +kernel)) (goodIn_sub (fun _ h => List.mem_cons_of_mem _ (List.mem_append_right _ h)) (by decide +kernel))
set_option maxRecDepth 20000 in
theorem gX1_endOf_X1_slotOf : GoodIn wsX1_endOf (wsV RX1 25 RX1 yX1_slotOf wsX1_slotOf) := goodIn_app (goodIn_of _ (by decide +kernel)) ggX1_endOf_X1_slotOf
theorem dX1_endOf_0 : decode cX1_endOf 0 = .ok (.aload_n 0, 1) := by decide +kernel
theorem dX1_endOf_1 : decode cX1_endOf 1 = .ok (.iload_n 1, 1) := by decide +kernel
theorem dX1_endOf_2 : decode cX1_endOf 2 = .ok (.invokevirtual 25, 3) := by decide +kernel
theorem dX1_endOf_5 : decode cX1_endOf 5 = .ok (.astore_n 2, 1) := by decide +kernel
theorem dX1_endOf_6 : decode cX1_endOf 6 = .ok (.aload_n 2, 1) := by decide +kernel
theorem dX1_endOf_7 : decode cX1_endOf 7 = .ok (.getfield 33, 3) := by decide +kernel
theorem dX1_endOf_10 : decode cX1_endOf 10 = .ok (.ifCond .eq 10, 3) := by decide +kernel
theorem dX1_endOf_13 : decode cX1_endOf 13 = .ok (.aload_n 2, 1) := by decide +kernel
theorem dX1_endOf_14 : decode cX1_endOf 14 = .ok (.getfield 94, 3) := by decide +kernel
theorem dX1_endOf_17 : decode cX1_endOf 17 = .ok (.goto 4, 3) := by decide +kernel
theorem dX1_endOf_20 : decode cX1_endOf 20 = .ok (.iconst (-1), 1) := by decide +kernel
theorem dX1_endOf_21 : decode cX1_endOf 21 = .ok (.ireturn, 1) := by decide +kernel
set_option maxRecDepth 20000 in
theorem ggX1_leaving_X1_firstInOrder : GoodIn wsX1_leaving wsX1_firstInOrder := goodIn_r _ [7, 8, 9, 10, 6, 11, 12, 13, 14, 15, 16, 17, 18, 28, 29, 30, 31, 32, 33, 34, 35, 36, 37, 38, 39, 40, 19, 20, 21, 22, 23, 24, 25, 26, 27] (by decide +kernel) (by decide +kernel)
set_option maxRecDepth 20000 in
theorem gX1_leaving_X1_firstInOrder : GoodIn wsX1_leaving (wsV RX1 97 RX1 yX1_firstInOrder wsX1_firstInOrder) := goodIn_app (goodIn_of _ (by decide +kernel)) ggX1_leaving_X1_firstInOrder
set_option maxRecDepth 20000 in
theorem ggX1_leaving_X1_nextInOrder : GoodIn wsX1_leaving wsX1_nextInOrder := goodIn_r _ [11, 12, 13, 14, 6, 15, 16, 17, 18, 28, 29, 30, 31, 32, 33, 34, 35, 36, 37, 38, 39, 40, 19, 20, 21, 22, 23, 24, 25, 26, 27] (by decide +kernel) (by decide +kernel)
set_option maxRecDepth 20000 in
theorem gX1_leaving_X1_nextInOrder : GoodIn wsX1_leaving (wsV RX1 101 RX1 yX1_nextInOrder wsX1_nextInOrder) := goodIn_app (goodIn_of _ (by decide +kernel)) ggX1_leaving_X1_nextInOrder
theorem dX1_leaving_0 : decode cX1_leaving 0 = .ok (.iload_n 1, 1) := by decide +kernel
theorem dX1_leaving_1 : decode cX1_leaving 1 = .ok (.ifCond .ge 7, 3) := by decide +kernel
theorem dX1_leaving_4 : decode cX1_leaving 4 = .ok (.aconst_null, 1) := by decide +kernel
theorem dX1_leaving_5 : decode cX1_leaving 5 = .ok (.goto 7, 3) := by decide +kernel
theorem dX1_leaving_8 : decode cX1_leaving 8 = .ok (.aload_n 0, 1) := by decide +kernel
theorem dX1_leaving_9 : decode cX1_leaving 9 = .ok (.invokevirtual 97, 3) := by decide +kernel
theorem dX1_leaving_12 : decode cX1_leaving 12 = .ok (.astore_n 2, 1) := by decide +kernel
theorem dX1_leaving_13 : decode cX1_leaving 13 = .ok (.iconst 0, 1) := by decide +kernel
theorem dX1_leaving_14 : decode cX1_leaving 14 = .ok (.istore_n 3, 1) := by decide +kernel
theorem dX1_leaving_15 : decode cX1_leaving 15 = .ok (.iload_n 3, 1) := by decide +kernel
theorem dX1_leaving_16 : decode cX1_leaving 16 = .ok (.iload_n 1, 1) := by decide +kernel
theorem dX1_leaving_17 : decode cX1_leaving 17 = .ok (.if_icmp .ge 19, 3) := by decide +kernel
theorem dX1_leaving_20 : decode cX1_leaving 20 = .ok (.aload_n 2, 1) := by decide +kernel
theorem dX1_leaving_21 : decode cX1_leaving 21 = .ok (.ifnull 15, 3) := by decide +kernel
theorem dX1_leaving_24 : decode cX1_leaving 24 = .ok (.aload_n 0, 1) := by decide +kernel
theorem dX1_leaving_25 : decode cX1_leaving 25 = .ok (.aload_n 2, 1) := by decide +kernel
theorem dX1_leaving_26 : decode cX1_leaving 26 = .ok (.invokevirtual 101, 3) := by decide +kernel
theorem dX1_leaving_29 : decode cX1_leaving 29 = .ok (.astore_n 2, 1) := by decide +kernel
theorem dX1_leaving_30 : decode cX1_leaving 30 = .ok (.iinc 3 1, 3) := by decide +kernel
theorem dX1_leaving_33 : decode cX1_leaving 33 = .ok (.goto (-18), 3) := by decide +kernel
theorem dX1_leaving_36 : decode cX1_leaving 36 = .ok (.aload_n 2, 1) := by decide +kernel
theorem dX1_leaving_37 : decode cX1_leaving 37 = .ok (.ifnonnull 13, 3) := by decide +kernel
theorem dX1_leaving_40 : decode cX1_leaving 40 = .ok (.new 105, 3) := by decide +kernel
theorem dX1_leaving_43 : decode cX1_leaving 43 = .ok (.dup, 1) := by decide +kernel
theorem dX1_leaving_44 : decode cX1_leaving 44 = .ok (.ldc 107, 2) := by decide +kernel
theorem dX1_leaving_46 : decode cX1_leaving 46 = .ok (.invokespecial 109, 3) := by decide +kernel
theorem dX1_leaving_49 : decode cX1_leaving 49 = .ok (.athrow, 1) := by decide +kernel
theorem dX1_leaving_50 : decode cX1_leaving 50 = .ok (.aload_n 2, 1) := by decide +kernel
theorem dX1_leaving_51 : decode cX1_leaving 51 = .ok (.getfield 110, 3) := by decide +kernel
theorem dX1_leaving_54 : decode cX1_leaving 54 = .ok (.ireturn, 1) := by decide +kernel
set_option maxRecDepth 20000 in
theorem ggX1_placeOf_X1_slotOf : GoodIn wsX1_placeOf wsX1_slotOf := goodIn_ca (goodIn_r _ [6, 7, 8, 1, 15, 16, 17, 18, 19, 20, 21, 22, 23, 24, 25, 26, 27] (by decide +kernel) (by decide +kernel)) (goodIn_sub (fun _ h => List.mem_cons_of_mem _ (List.mem_append_right _ h)) (by decide +kernel))
set_option maxRecDepth 20000 in
theorem gX1_placeOf_X1_slotOf : GoodIn wsX1_placeOf (wsV RX1 25 RX1 yX1_slotOf wsX1_slotOf) := goodIn_app (goodIn_of _ (by decide +kernel)) ggX1_placeOf_X1_slotOf
set_option maxRecDepth 20000 in
theorem ggX1_placeOf_X1_isInOrder : GoodIn wsX1_placeOf wsX1_isInOrder := goodIn_r _ [11, 28, 29, 30, 31, 32, 33, 34, 35, 36] (by decide +kernel) (by decide +kernel)
set_option maxRecDepth 20000 in
theorem gX1_placeOf_X1_isInOrder : GoodIn wsX1_placeOf (va_wsS RX1 113 yX1_isInOrder wsX1_isInOrder) := goodIn_app (goodIn_of _ (by decide +kernel)) ggX1_placeOf_X1_isInOrder
set_option maxRecDepth 20000 in
theorem ggX1_placeOf_X1_leavesBefore : GoodIn wsX1_placeOf wsX1_leavesBefore := goodIn_r _ [14, 28, 29, 30, 31, 32, 33, 34, 35, 36] (by decide +kernel) (by decide +kernel)
set_option maxRecDepth 20000 in
theorem gX1_placeOf_X1_leavesBefore : GoodIn wsX1_placeOf (va_wsS RX1 116 yX1_leavesBefore wsX1_leavesBefore) := goodIn_app (goodIn_of _ (by decide +kernel)) ggX1_placeOf_X1_leavesBefore
theorem dX1_placeOf_0 : decode cX1_placeOf 0 = .ok (.aload_n 0, 1) := by decide +kernel
theorem dX1_placeOf_1 : decode cX1_placeOf 1 = .ok (.iload_n 1, 1) := by decide +kernel
theorem dX1_placeOf_2 : decode cX1_placeOf 2 = .ok (.invokevirtual 25, 3) := by decide +kernel
theorem dX1_placeOf_5 : decode cX1_placeOf 5 = .ok (.astore_n 2, 1) := by decide +kernel
theorem dX1_placeOf_6 : decode cX1_placeOf 6 = .ok (.aload_n 2, 1) := by decide +kernel
theorem dX1_placeOf_7 : decode cX1_placeOf 7 = .ok (.invokestatic 113, 3) := by decide +kernel
theorem dX1_placeOf_10 : decode cX1_placeOf 10 = .ok (.ifCond .ne 5, 3) := by decide +kernel
theorem dX1_placeOf_13 : decode cX1_placeOf 13 = .ok (.iconst (-1), 1) := by decide +kernel
theorem dX1_placeOf_14 : decode cX1_placeOf 14 = .ok (.ireturn, 1) := by decide +kernel
theorem dX1_placeOf_15 : decode cX1_placeOf 15 = .ok (.iconst 0, 1) := by decide +kernel
theorem dX1_placeOf_16 : decode cX1_placeOf 16 = .ok (.istore_n 3, 1) := by decide +kernel
theorem dX1_placeOf_17 : decode cX1_placeOf 17 = .ok (.aload_n 0, 1) := by decide +kernel
theorem dX1_placeOf_18 : decode cX1_placeOf 18 = .ok (.getfield 11, 3) := by decide +kernel
theorem dX1_placeOf_21 : decode cX1_placeOf 21 = .ok (.astore 4, 2) := by decide +kernel
theorem dX1_placeOf_23 : decode cX1_placeOf 23 = .ok (.aload 4, 2) := by decide +kernel
theorem dX1_placeOf_25 : decode cX1_placeOf 25 = .ok (.arraylength, 1) := by decide +kernel
theorem dX1_placeOf_26 : decode cX1_placeOf 26 = .ok (.istore 5, 2) := by decide +kernel
theorem dX1_placeOf_28 : decode cX1_placeOf 28 = .ok (.iconst 0, 1) := by decide +kernel
theorem dX1_placeOf_29 : decode cX1_placeOf 29 = .ok (.istore 6, 2) := by decide +kernel
theorem dX1_placeOf_31 : decode cX1_placeOf 31 = .ok (.iload 6, 2) := by decide +kernel
theorem dX1_placeOf_33 : decode cX1_placeOf 33 = .ok (.iload 5, 2) := by decide +kernel
theorem dX1_placeOf_35 : decode cX1_placeOf 35 = .ok (.if_icmp .ge 36, 3) := by decide +kernel
theorem dX1_placeOf_38 : decode cX1_placeOf 38 = .ok (.aload 4, 2) := by decide +kernel
theorem dX1_placeOf_40 : decode cX1_placeOf 40 = .ok (.iload 6, 2) := by decide +kernel
theorem dX1_placeOf_42 : decode cX1_placeOf 42 = .ok (.aaload, 1) := by decide +kernel
theorem dX1_placeOf_43 : decode cX1_placeOf 43 = .ok (.astore 7, 2) := by decide +kernel
theorem dX1_placeOf_45 : decode cX1_placeOf 45 = .ok (.aload 7, 2) := by decide +kernel
theorem dX1_placeOf_47 : decode cX1_placeOf 47 = .ok (.invokestatic 113, 3) := by decide +kernel
theorem dX1_placeOf_50 : decode cX1_placeOf 50 = .ok (.ifCond .eq 15, 3) := by decide +kernel
theorem dX1_placeOf_53 : decode cX1_placeOf 53 = .ok (.aload 7, 2) := by decide +kernel
theorem dX1_placeOf_55 : decode cX1_placeOf 55 = .ok (.aload_n 2, 1) := by decide +kernel
theorem dX1_placeOf_56 : decode cX1_placeOf 56 = .ok (.invokestatic 116, 3) := by decide +kernel
theorem dX1_placeOf_59 : decode cX1_placeOf 59 = .ok (.ifCond .eq 6, 3) := by decide +kernel
theorem dX1_placeOf_62 : decode cX1_placeOf 62 = .ok (.iinc 3 1, 3) := by decide +kernel
theorem dX1_placeOf_65 : decode cX1_placeOf 65 = .ok (.iinc 6 1, 3) := by decide +kernel
theorem dX1_placeOf_68 : decode cX1_placeOf 68 = .ok (.goto (-37), 3) := by decide +kernel
theorem dX1_placeOf_71 : decode cX1_placeOf 71 = .ok (.iload_n 3, 1) := by decide +kernel
theorem dX1_placeOf_72 : decode cX1_placeOf 72 = .ok (.ireturn, 1) := by decide +kernel
theorem dX1_endsFirst_0 : decode cX1_endsFirst 0 = .ok (.aconst_null, 1) := by decide +kernel
theorem dX1_endsFirst_1 : decode cX1_endsFirst 1 = .ok (.astore_n 1, 1) := by decide +kernel
theorem dX1_endsFirst_2 : decode cX1_endsFirst 2 = .ok (.aload_n 0, 1) := by decide +kernel
theorem dX1_endsFirst_3 : decode cX1_endsFirst 3 = .ok (.getfield 11, 3) := by decide +kernel
theorem dX1_endsFirst_6 : decode cX1_endsFirst 6 = .ok (.astore_n 2, 1) := by decide +kernel
theorem dX1_endsFirst_7 : decode cX1_endsFirst 7 = .ok (.aload_n 2, 1) := by decide +kernel
theorem dX1_endsFirst_8 : decode cX1_endsFirst 8 = .ok (.arraylength, 1) := by decide +kernel
theorem dX1_endsFirst_9 : decode cX1_endsFirst 9 = .ok (.istore_n 3, 1) := by decide +kernel
theorem dX1_endsFirst_10 : decode cX1_endsFirst 10 = .ok (.iconst 0, 1) := by decide +kernel
theorem dX1_endsFirst_11 : decode cX1_endsFirst 11 = .ok (.istore 4, 2) := by decide +kernel
theorem dX1_endsFirst_13 : decode cX1_endsFirst 13 = .ok (.iload 4, 2) := by decide +kernel
theorem dX1_endsFirst_15 : decode cX1_endsFirst 15 = .ok (.iload_n 3, 1) := by decide +kernel
theorem dX1_endsFirst_16 : decode cX1_endsFirst 16 = .ok (.if_icmp .ge 42, 3) := by decide +kernel
theorem dX1_endsFirst_19 : decode cX1_endsFirst 19 = .ok (.aload_n 2, 1) := by decide +kernel
theorem dX1_endsFirst_20 : decode cX1_endsFirst 20 = .ok (.iload 4, 2) := by decide +kernel
theorem dX1_endsFirst_22 : decode cX1_endsFirst 22 = .ok (.aaload, 1) := by decide +kernel
theorem dX1_endsFirst_23 : decode cX1_endsFirst 23 = .ok (.astore 5, 2) := by decide +kernel
theorem dX1_endsFirst_25 : decode cX1_endsFirst 25 = .ok (.aload 5, 2) := by decide +kernel
theorem dX1_endsFirst_27 : decode cX1_endsFirst 27 = .ok (.getfield 33, 3) := by decide +kernel
theorem dX1_endsFirst_30 : decode cX1_endsFirst 30 = .ok (.ifCond .eq 22, 3) := by decide +kernel
theorem dX1_endsFirst_33 : decode cX1_endsFirst 33 = .ok (.aload_n 1, 1) := by decide +kernel
theorem dX1_endsFirst_34 : decode cX1_endsFirst 34 = .ok (.ifnull 15, 3) := by decide +kernel
theorem dX1_endsFirst_37 : decode cX1_endsFirst 37 = .ok (.aload 5, 2) := by decide +kernel
theorem dX1_endsFirst_39 : decode cX1_endsFirst 39 = .ok (.getfield 94, 3) := by decide +kernel
theorem dX1_endsFirst_42 : decode cX1_endsFirst 42 = .ok (.aload_n 1, 1) := by decide +kernel
theorem dX1_endsFirst_43 : decode cX1_endsFirst 43 = .ok (.getfield 94, 3) := by decide +kernel
theorem dX1_endsFirst_46 : decode cX1_endsFirst 46 = .ok (.if_icmp .ge 6, 3) := by decide +kernel
theorem dX1_endsFirst_49 : decode cX1_endsFirst 49 = .ok (.aload 5, 2) := by decide +kernel
theorem dX1_endsFirst_51 : decode cX1_endsFirst 51 = .ok (.astore_n 1, 1) := by decide +kernel
theorem dX1_endsFirst_52 : decode cX1_endsFirst 52 = .ok (.iinc 4 1, 3) := by decide +kernel
theorem dX1_endsFirst_55 : decode cX1_endsFirst 55 = .ok (.goto (-42), 3) := by decide +kernel
theorem dX1_endsFirst_58 : decode cX1_endsFirst 58 = .ok (.aload_n 1, 1) := by decide +kernel
theorem dX1_endsFirst_59 : decode cX1_endsFirst 59 = .ok (.ifnonnull 7, 3) := by decide +kernel
theorem dX1_endsFirst_62 : decode cX1_endsFirst 62 = .ok (.iconst (-1), 1) := by decide +kernel
theorem dX1_endsFirst_63 : decode cX1_endsFirst 63 = .ok (.goto 7, 3) := by decide +kernel
theorem dX1_endsFirst_66 : decode cX1_endsFirst 66 = .ok (.aload_n 1, 1) := by decide +kernel
theorem dX1_endsFirst_67 : decode cX1_endsFirst 67 = .ok (.getfield 110, 3) := by decide +kernel
theorem dX1_endsFirst_70 : decode cX1_endsFirst 70 = .ok (.ireturn, 1) := by decide +kernel
set_option maxRecDepth 20000 in
theorem ggX1_wouldLeave_X1_requireWithin : GoodIn wsX1_wouldLeave wsX1_requireWithin := goodIn_ca (goodIn_r _ [5, 6, 7] (by decide +kernel) (by decide +kernel)) (goodIn_sub (fun _ h => List.mem_cons_of_mem _ (List.mem_append_right _ h)) (by decide +kernel))
set_option maxRecDepth 20000 in
theorem gX1_wouldLeave_X1_requireWithin : GoodIn wsX1_wouldLeave (va_wsS RX1 29 yX1_requireWithin wsX1_requireWithin) := goodIn_app (goodIn_of _ (by decide +kernel)) ggX1_wouldLeave_X1_requireWithin
set_option maxRecDepth 20000 in
theorem ggX1_wouldLeave_X1_bytesThatCannotLeave : GoodIn wsX1_wouldLeave wsX1_bytesThatCannotLeave := goodIn_r _ [11, 12, 13, 14, 15, 4, 16, 17, 40, 41, 42, 43, 44, 45, 46, 47, 48, 49, 50, 51, 52, 53, 54, 55, 56, 57, 58, 59, 60, 61] (by decide +kernel) (by decide +kernel)
set_option maxRecDepth 20000 in
theorem gX1_wouldLeave_X1_bytesThatCannotLeave : GoodIn wsX1_wouldLeave (wsV RX1 68 RX1 yX1_bytesThatCannotLeave wsX1_bytesThatCannotLeave) := goodIn_app (goodIn_of _ (by decide +kernel)) ggX1_wouldLeave_X1_bytesThatCannotLeave
set_option maxRecDepth 20000 in
theorem ggX1_wouldLeave_X1_countThatWouldLeave : GoodIn wsX1_wouldLeave wsX1_countThatWouldLeave := goodIn_r _ [21, 1, 22, 23, 24, 4, 25, 12, 13, 14, 15, 16, 17, 26, 27, 28, 29, 30, 31, 32, 33, 34, 35, 36, 37, 38, 39, 40, 41, 42, 43, 44, 45, 46, 47, 48, 49, 50, 51, 52, 53, 54, 55, 56, 57, 58, 59, 60, 61] (by decide +kernel) (by decide +kernel)
set_option maxRecDepth 20000 in
theorem gX1_wouldLeave_X1_countThatWouldLeave : GoodIn wsX1_wouldLeave (wsV RX1 120 RX1 yX1_countThatWouldLeave wsX1_countThatWouldLeave) := goodIn_app (goodIn_of _ (by decide +kernel)) ggX1_wouldLeave_X1_countThatWouldLeave
theorem dX1_wouldLeave_0 : decode cX1_wouldLeave 0 = .ok (.iload_n 1, 1) := by decide +kernel
theorem dX1_wouldLeave_1 : decode cX1_wouldLeave 1 = .ok (.iconst 1, 1) := by decide +kernel
theorem dX1_wouldLeave_2 : decode cX1_wouldLeave 2 = .ok (.sipush 1000, 3) := by decide +kernel
theorem dX1_wouldLeave_5 : decode cX1_wouldLeave 5 = .ok (.invokestatic 29, 3) := by decide +kernel
theorem dX1_wouldLeave_8 : decode cX1_wouldLeave 8 = .ok (.iload_n 1, 1) := by decide +kernel
theorem dX1_wouldLeave_9 : decode cX1_wouldLeave 9 = .ok (.aload_n 0, 1) := by decide +kernel
theorem dX1_wouldLeave_10 : decode cX1_wouldLeave 10 = .ok (.getfield 15, 3) := by decide +kernel
theorem dX1_wouldLeave_13 : decode cX1_wouldLeave 13 = .ok (.aload_n 0, 1) := by decide +kernel
theorem dX1_wouldLeave_14 : decode cX1_wouldLeave 14 = .ok (.invokevirtual 68, 3) := by decide +kernel
theorem dX1_wouldLeave_17 : decode cX1_wouldLeave 17 = .ok (.isub, 1) := by decide +kernel
theorem dX1_wouldLeave_18 : decode cX1_wouldLeave 18 = .ok (.if_icmp .le 7, 3) := by decide +kernel
theorem dX1_wouldLeave_21 : decode cX1_wouldLeave 21 = .ok (.iconst (-1), 1) := by decide +kernel
theorem dX1_wouldLeave_22 : decode cX1_wouldLeave 22 = .ok (.goto 8, 3) := by decide +kernel
theorem dX1_wouldLeave_25 : decode cX1_wouldLeave 25 = .ok (.aload_n 0, 1) := by decide +kernel
theorem dX1_wouldLeave_26 : decode cX1_wouldLeave 26 = .ok (.iload_n 1, 1) := by decide +kernel
theorem dX1_wouldLeave_27 : decode cX1_wouldLeave 27 = .ok (.invokevirtual 120, 3) := by decide +kernel
theorem dX1_wouldLeave_30 : decode cX1_wouldLeave 30 = .ok (.ireturn, 1) := by decide +kernel
theorem dX1_time_0 : decode cX1_time 0 = .ok (.aload_n 0, 1) := by decide +kernel
theorem dX1_time_1 : decode cX1_time 1 = .ok (.getfield 55, 3) := by decide +kernel
theorem dX1_time_4 : decode cX1_time 4 = .ok (.ireturn, 1) := by decide +kernel
theorem dX1_clock_0 : decode cX1_clock 0 = .ok (.aload_n 0, 1) := by decide +kernel
theorem dX1_clock_1 : decode cX1_clock 1 = .ok (.getfield 123, 3) := by decide +kernel
theorem dX1_clock_4 : decode cX1_clock 4 = .ok (.lreturn, 1) := by decide +kernel
theorem dX1_capacity_0 : decode cX1_capacity 0 = .ok (.aload_n 0, 1) := by decide +kernel
theorem dX1_capacity_1 : decode cX1_capacity 1 = .ok (.getfield 15, 3) := by decide +kernel
theorem dX1_capacity_4 : decode cX1_capacity 4 = .ok (.ireturn, 1) := by decide +kernel
theorem dX1_entries_0 : decode cX1_entries 0 = .ok (.iconst 0, 1) := by decide +kernel
theorem dX1_entries_1 : decode cX1_entries 1 = .ok (.istore_n 1, 1) := by decide +kernel
theorem dX1_entries_2 : decode cX1_entries 2 = .ok (.aload_n 0, 1) := by decide +kernel
theorem dX1_entries_3 : decode cX1_entries 3 = .ok (.getfield 11, 3) := by decide +kernel
theorem dX1_entries_6 : decode cX1_entries 6 = .ok (.astore_n 2, 1) := by decide +kernel
theorem dX1_entries_7 : decode cX1_entries 7 = .ok (.aload_n 2, 1) := by decide +kernel
theorem dX1_entries_8 : decode cX1_entries 8 = .ok (.arraylength, 1) := by decide +kernel
theorem dX1_entries_9 : decode cX1_entries 9 = .ok (.istore_n 3, 1) := by decide +kernel
theorem dX1_entries_10 : decode cX1_entries 10 = .ok (.iconst 0, 1) := by decide +kernel
theorem dX1_entries_11 : decode cX1_entries 11 = .ok (.istore 4, 2) := by decide +kernel
theorem dX1_entries_13 : decode cX1_entries 13 = .ok (.iload 4, 2) := by decide +kernel
theorem dX1_entries_15 : decode cX1_entries 15 = .ok (.iload_n 3, 1) := by decide +kernel
theorem dX1_entries_16 : decode cX1_entries 16 = .ok (.if_icmp .ge 26, 3) := by decide +kernel
theorem dX1_entries_19 : decode cX1_entries 19 = .ok (.aload_n 2, 1) := by decide +kernel
theorem dX1_entries_20 : decode cX1_entries 20 = .ok (.iload 4, 2) := by decide +kernel
theorem dX1_entries_22 : decode cX1_entries 22 = .ok (.aaload, 1) := by decide +kernel
theorem dX1_entries_23 : decode cX1_entries 23 = .ok (.astore 5, 2) := by decide +kernel
theorem dX1_entries_25 : decode cX1_entries 25 = .ok (.aload 5, 2) := by decide +kernel
theorem dX1_entries_27 : decode cX1_entries 27 = .ok (.getfield 33, 3) := by decide +kernel
theorem dX1_entries_30 : decode cX1_entries 30 = .ok (.ifCond .eq 6, 3) := by decide +kernel
theorem dX1_entries_33 : decode cX1_entries 33 = .ok (.iinc 1 1, 3) := by decide +kernel
theorem dX1_entries_36 : decode cX1_entries 36 = .ok (.iinc 4 1, 3) := by decide +kernel
theorem dX1_entries_39 : decode cX1_entries 39 = .ok (.goto (-26), 3) := by decide +kernel
theorem dX1_entries_42 : decode cX1_entries 42 = .ok (.iload_n 1, 1) := by decide +kernel
theorem dX1_entries_43 : decode cX1_entries 43 = .ok (.ireturn, 1) := by decide +kernel
theorem dX1_used_0 : decode cX1_used 0 = .ok (.iconst 0, 1) := by decide +kernel
theorem dX1_used_1 : decode cX1_used 1 = .ok (.istore_n 1, 1) := by decide +kernel
theorem dX1_used_2 : decode cX1_used 2 = .ok (.aload_n 0, 1) := by decide +kernel
theorem dX1_used_3 : decode cX1_used 3 = .ok (.getfield 11, 3) := by decide +kernel
theorem dX1_used_6 : decode cX1_used 6 = .ok (.astore_n 2, 1) := by decide +kernel
theorem dX1_used_7 : decode cX1_used 7 = .ok (.aload_n 2, 1) := by decide +kernel
theorem dX1_used_8 : decode cX1_used 8 = .ok (.arraylength, 1) := by decide +kernel
theorem dX1_used_9 : decode cX1_used 9 = .ok (.istore_n 3, 1) := by decide +kernel
theorem dX1_used_10 : decode cX1_used 10 = .ok (.iconst 0, 1) := by decide +kernel
theorem dX1_used_11 : decode cX1_used 11 = .ok (.istore 4, 2) := by decide +kernel
theorem dX1_used_13 : decode cX1_used 13 = .ok (.iload 4, 2) := by decide +kernel
theorem dX1_used_15 : decode cX1_used 15 = .ok (.iload_n 3, 1) := by decide +kernel
theorem dX1_used_16 : decode cX1_used 16 = .ok (.if_icmp .ge 31, 3) := by decide +kernel
theorem dX1_used_19 : decode cX1_used 19 = .ok (.aload_n 2, 1) := by decide +kernel
theorem dX1_used_20 : decode cX1_used 20 = .ok (.iload 4, 2) := by decide +kernel
theorem dX1_used_22 : decode cX1_used 22 = .ok (.aaload, 1) := by decide +kernel
theorem dX1_used_23 : decode cX1_used 23 = .ok (.astore 5, 2) := by decide +kernel
theorem dX1_used_25 : decode cX1_used 25 = .ok (.aload 5, 2) := by decide +kernel
theorem dX1_used_27 : decode cX1_used 27 = .ok (.getfield 33, 3) := by decide +kernel
theorem dX1_used_30 : decode cX1_used 30 = .ok (.ifCond .eq 11, 3) := by decide +kernel
theorem dX1_used_33 : decode cX1_used 33 = .ok (.iload_n 1, 1) := by decide +kernel
theorem dX1_used_34 : decode cX1_used 34 = .ok (.aload 5, 2) := by decide +kernel
theorem dX1_used_36 : decode cX1_used 36 = .ok (.getfield 41, 3) := by decide +kernel
theorem dX1_used_39 : decode cX1_used 39 = .ok (.iadd, 1) := by decide +kernel
theorem dX1_used_40 : decode cX1_used 40 = .ok (.istore_n 1, 1) := by decide +kernel
theorem dX1_used_41 : decode cX1_used 41 = .ok (.iinc 4 1, 3) := by decide +kernel
theorem dX1_used_44 : decode cX1_used 44 = .ok (.goto (-31), 3) := by decide +kernel
theorem dX1_used_47 : decode cX1_used 47 = .ok (.iload_n 1, 1) := by decide +kernel
theorem dX1_used_48 : decode cX1_used 48 = .ok (.ireturn, 1) := by decide +kernel
theorem dX1_hits_0 : decode cX1_hits 0 = .ok (.aload_n 0, 1) := by decide +kernel
theorem dX1_hits_1 : decode cX1_hits 1 = .ok (.getfield 126, 3) := by decide +kernel
theorem dX1_hits_4 : decode cX1_hits 4 = .ok (.ireturn, 1) := by decide +kernel
theorem dX1_misses_0 : decode cX1_misses 0 = .ok (.aload_n 0, 1) := by decide +kernel
theorem dX1_misses_1 : decode cX1_misses 1 = .ok (.getfield 129, 3) := by decide +kernel
theorem dX1_misses_4 : decode cX1_misses 4 = .ok (.ireturn, 1) := by decide +kernel
theorem dX1_bytesHit_0 : decode cX1_bytesHit 0 = .ok (.aload_n 0, 1) := by decide +kernel
theorem dX1_bytesHit_1 : decode cX1_bytesHit 1 = .ok (.getfield 132, 3) := by decide +kernel
theorem dX1_bytesHit_4 : decode cX1_bytesHit 4 = .ok (.lreturn, 1) := by decide +kernel
theorem dX1_saved_0 : decode cX1_saved 0 = .ok (.aload_n 0, 1) := by decide +kernel
theorem dX1_saved_1 : decode cX1_saved 1 = .ok (.getfield 135, 3) := by decide +kernel
theorem dX1_saved_4 : decode cX1_saved 4 = .ok (.lreturn, 1) := by decide +kernel
theorem dX1_paid_0 : decode cX1_paid 0 = .ok (.aload_n 0, 1) := by decide +kernel
theorem dX1_paid_1 : decode cX1_paid 1 = .ok (.getfield 138, 3) := by decide +kernel
theorem dX1_paid_4 : decode cX1_paid 4 = .ok (.lreturn, 1) := by decide +kernel
theorem dX1_left_0 : decode cX1_left 0 = .ok (.aload_n 0, 1) := by decide +kernel
theorem dX1_left_1 : decode cX1_left 1 = .ok (.getfield 141, 3) := by decide +kernel
theorem dX1_left_4 : decode cX1_left 4 = .ok (.ireturn, 1) := by decide +kernel
theorem dX1_removedOver_0 : decode cX1_removedOver 0 = .ok (.aload_n 0, 1) := by decide +kernel
theorem dX1_removedOver_1 : decode cX1_removedOver 1 = .ok (.getfield 144, 3) := by decide +kernel
theorem dX1_removedOver_4 : decode cX1_removedOver 4 = .ok (.ireturn, 1) := by decide +kernel
theorem dX1_slotOf_0 : decode cX1_slotOf 0 = .ok (.iload_n 1, 1) := by decide +kernel
theorem dX1_slotOf_1 : decode cX1_slotOf 1 = .ok (.ifCond .lt 12, 3) := by decide +kernel
theorem dX1_slotOf_4 : decode cX1_slotOf 4 = .ok (.iload_n 1, 1) := by decide +kernel
theorem dX1_slotOf_5 : decode cX1_slotOf 5 = .ok (.aload_n 0, 1) := by decide +kernel
theorem dX1_slotOf_6 : decode cX1_slotOf 6 = .ok (.getfield 11, 3) := by decide +kernel
theorem dX1_slotOf_9 : decode cX1_slotOf 9 = .ok (.arraylength, 1) := by decide +kernel
theorem dX1_slotOf_10 : decode cX1_slotOf 10 = .ok (.if_icmp .lt 13, 3) := by decide +kernel
theorem dX1_slotOf_13 : decode cX1_slotOf 13 = .ok (.new 105, 3) := by decide +kernel
theorem dX1_slotOf_16 : decode cX1_slotOf 16 = .ok (.dup, 1) := by decide +kernel
theorem dX1_slotOf_17 : decode cX1_slotOf 17 = .ok (.ldc 147, 2) := by decide +kernel
theorem dX1_slotOf_19 : decode cX1_slotOf 19 = .ok (.invokespecial 109, 3) := by decide +kernel
theorem dX1_slotOf_22 : decode cX1_slotOf 22 = .ok (.athrow, 1) := by decide +kernel
theorem dX1_slotOf_23 : decode cX1_slotOf 23 = .ok (.aload_n 0, 1) := by decide +kernel
theorem dX1_slotOf_24 : decode cX1_slotOf 24 = .ok (.getfield 11, 3) := by decide +kernel
theorem dX1_slotOf_27 : decode cX1_slotOf 27 = .ok (.iload_n 1, 1) := by decide +kernel
theorem dX1_slotOf_28 : decode cX1_slotOf 28 = .ok (.aaload, 1) := by decide +kernel
theorem dX1_slotOf_29 : decode cX1_slotOf 29 = .ok (.areturn, 1) := by decide +kernel
set_option maxRecDepth 20000 in
theorem ggX1_filledSlotOf_X1_slotOf : GoodIn wsX1_filledSlotOf wsX1_slotOf := goodIn_ca (goodIn_r _ [7, 8, 9, 10, 20, 21, 22, 23, 24, 25, 26, 27, 28, 29, 30, 31, 32] (by decide +kernel) (by decide +kernel)) (goodIn_sub (fun _ h => List.mem_cons_of_mem _ (List.mem_append_right _ h)) (by decide +kernel))
set_option maxRecDepth 20000 in
theorem gX1_filledSlotOf_X1_slotOf : GoodIn wsX1_filledSlotOf (wsV RX1 25 RX1 yX1_slotOf wsX1_slotOf) := goodIn_app (goodIn_of _ (by decide +kernel)) ggX1_filledSlotOf_X1_slotOf
theorem dX1_filledSlotOf_0 : decode cX1_filledSlotOf 0 = .ok (.aload_n 0, 1) := by decide +kernel
theorem dX1_filledSlotOf_1 : decode cX1_filledSlotOf 1 = .ok (.iload_n 1, 1) := by decide +kernel
theorem dX1_filledSlotOf_2 : decode cX1_filledSlotOf 2 = .ok (.invokevirtual 25, 3) := by decide +kernel
theorem dX1_filledSlotOf_5 : decode cX1_filledSlotOf 5 = .ok (.astore_n 2, 1) := by decide +kernel
theorem dX1_filledSlotOf_6 : decode cX1_filledSlotOf 6 = .ok (.aload_n 2, 1) := by decide +kernel
theorem dX1_filledSlotOf_7 : decode cX1_filledSlotOf 7 = .ok (.getfield 33, 3) := by decide +kernel
theorem dX1_filledSlotOf_10 : decode cX1_filledSlotOf 10 = .ok (.ifCond .ne 13, 3) := by decide +kernel
theorem dX1_filledSlotOf_13 : decode cX1_filledSlotOf 13 = .ok (.new 71, 3) := by decide +kernel
theorem dX1_filledSlotOf_16 : decode cX1_filledSlotOf 16 = .ok (.dup, 1) := by decide +kernel
theorem dX1_filledSlotOf_17 : decode cX1_filledSlotOf 17 = .ok (.ldc 149, 2) := by decide +kernel
theorem dX1_filledSlotOf_19 : decode cX1_filledSlotOf 19 = .ok (.invokespecial 75, 3) := by decide +kernel
theorem dX1_filledSlotOf_22 : decode cX1_filledSlotOf 22 = .ok (.athrow, 1) := by decide +kernel
theorem dX1_filledSlotOf_23 : decode cX1_filledSlotOf 23 = .ok (.aload_n 2, 1) := by decide +kernel
theorem dX1_filledSlotOf_24 : decode cX1_filledSlotOf 24 = .ok (.areturn, 1) := by decide +kernel
theorem dX1_requireWithin_0 : decode cX1_requireWithin 0 = .ok (.iload_n 0, 1) := by decide +kernel
theorem dX1_requireWithin_1 : decode cX1_requireWithin 1 = .ok (.iload_n 1, 1) := by decide +kernel
theorem dX1_requireWithin_2 : decode cX1_requireWithin 2 = .ok (.if_icmp .lt 8, 3) := by decide +kernel
theorem dX1_requireWithin_5 : decode cX1_requireWithin 5 = .ok (.iload_n 0, 1) := by decide +kernel
theorem dX1_requireWithin_6 : decode cX1_requireWithin 6 = .ok (.iload_n 2, 1) := by decide +kernel
theorem dX1_requireWithin_7 : decode cX1_requireWithin 7 = .ok (.if_icmp .le 13, 3) := by decide +kernel
theorem dX1_requireWithin_10 : decode cX1_requireWithin 10 = .ok (.new 151, 3) := by decide +kernel
theorem dX1_requireWithin_13 : decode cX1_requireWithin 13 = .ok (.dup, 1) := by decide +kernel
theorem dX1_requireWithin_14 : decode cX1_requireWithin 14 = .ok (.ldc 153, 2) := by decide +kernel
theorem dX1_requireWithin_16 : decode cX1_requireWithin 16 = .ok (.invokespecial 155, 3) := by decide +kernel
theorem dX1_requireWithin_19 : decode cX1_requireWithin 19 = .ok (.athrow, 1) := by decide +kernel
theorem dX1_requireWithin_20 : decode cX1_requireWithin 20 = .ok (.return_, 1) := by decide +kernel
set_option maxRecDepth 20000 in
theorem ggX1_hit_X1_setWorth : GoodIn wsX1_hit wsX1_setWorth := goodIn_r _ [8, 9, 10, 11, 21, 22, 23, 24, 25, 26, 27, 28, 29, 30, 31, 32, 33, 12, 13, 14, 15, 16, 17, 18, 19, 20] (by decide +kernel) (by decide +kernel)
set_option maxRecDepth 20000 in
theorem gX1_hit_X1_setWorth : GoodIn wsX1_hit (wsV RX1 156 RX1 yX1_setWorth wsX1_setWorth) := goodIn_app (goodIn_of _ (by decide +kernel)) ggX1_hit_X1_setWorth
theorem dX1_hit_0 : decode cX1_hit 0 = .ok (.aload_n 1, 1) := by decide +kernel
theorem dX1_hit_1 : decode cX1_hit 1 = .ok (.dup, 1) := by decide +kernel
theorem dX1_hit_2 : decode cX1_hit 2 = .ok (.getfield 85, 3) := by decide +kernel
theorem dX1_hit_5 : decode cX1_hit 5 = .ok (.iconst 1, 1) := by decide +kernel
theorem dX1_hit_6 : decode cX1_hit 6 = .ok (.iadd, 1) := by decide +kernel
theorem dX1_hit_7 : decode cX1_hit 7 = .ok (.putfield 85, 3) := by decide +kernel
theorem dX1_hit_10 : decode cX1_hit 10 = .ok (.aload_n 0, 1) := by decide +kernel
theorem dX1_hit_11 : decode cX1_hit 11 = .ok (.aload_n 1, 1) := by decide +kernel
theorem dX1_hit_12 : decode cX1_hit 12 = .ok (.iload_n 2, 1) := by decide +kernel
theorem dX1_hit_13 : decode cX1_hit 13 = .ok (.invokevirtual 156, 3) := by decide +kernel
theorem dX1_hit_16 : decode cX1_hit 16 = .ok (.aload_n 0, 1) := by decide +kernel
theorem dX1_hit_17 : decode cX1_hit 17 = .ok (.dup, 1) := by decide +kernel
theorem dX1_hit_18 : decode cX1_hit 18 = .ok (.getfield 126, 3) := by decide +kernel
theorem dX1_hit_21 : decode cX1_hit 21 = .ok (.iconst 1, 1) := by decide +kernel
theorem dX1_hit_22 : decode cX1_hit 22 = .ok (.iadd, 1) := by decide +kernel
theorem dX1_hit_23 : decode cX1_hit 23 = .ok (.putfield 126, 3) := by decide +kernel
theorem dX1_hit_26 : decode cX1_hit 26 = .ok (.aload_n 0, 1) := by decide +kernel
theorem dX1_hit_27 : decode cX1_hit 27 = .ok (.dup, 1) := by decide +kernel
theorem dX1_hit_28 : decode cX1_hit 28 = .ok (.getfield 132, 3) := by decide +kernel
theorem dX1_hit_31 : decode cX1_hit 31 = .ok (.aload_n 1, 1) := by decide +kernel
theorem dX1_hit_32 : decode cX1_hit 32 = .ok (.getfield 41, 3) := by decide +kernel
theorem dX1_hit_35 : decode cX1_hit 35 = .ok (.i2l, 1) := by decide +kernel
theorem dX1_hit_36 : decode cX1_hit 36 = .ok (.ladd, 1) := by decide +kernel
theorem dX1_hit_37 : decode cX1_hit 37 = .ok (.putfield 132, 3) := by decide +kernel
theorem dX1_hit_40 : decode cX1_hit 40 = .ok (.aload_n 0, 1) := by decide +kernel
theorem dX1_hit_41 : decode cX1_hit 41 = .ok (.dup, 1) := by decide +kernel
theorem dX1_hit_42 : decode cX1_hit 42 = .ok (.getfield 135, 3) := by decide +kernel
theorem dX1_hit_45 : decode cX1_hit 45 = .ok (.iload_n 2, 1) := by decide +kernel
theorem dX1_hit_46 : decode cX1_hit 46 = .ok (.i2l, 1) := by decide +kernel
theorem dX1_hit_47 : decode cX1_hit 47 = .ok (.ladd, 1) := by decide +kernel
theorem dX1_hit_48 : decode cX1_hit 48 = .ok (.putfield 135, 3) := by decide +kernel
theorem dX1_hit_51 : decode cX1_hit 51 = .ok (.return_, 1) := by decide +kernel
theorem dX1_countMiss_0 : decode cX1_countMiss 0 = .ok (.aload_n 0, 1) := by decide +kernel
theorem dX1_countMiss_1 : decode cX1_countMiss 1 = .ok (.dup, 1) := by decide +kernel
theorem dX1_countMiss_2 : decode cX1_countMiss 2 = .ok (.getfield 129, 3) := by decide +kernel
theorem dX1_countMiss_5 : decode cX1_countMiss 5 = .ok (.iconst 1, 1) := by decide +kernel
theorem dX1_countMiss_6 : decode cX1_countMiss 6 = .ok (.iadd, 1) := by decide +kernel
theorem dX1_countMiss_7 : decode cX1_countMiss 7 = .ok (.putfield 129, 3) := by decide +kernel
theorem dX1_countMiss_10 : decode cX1_countMiss 10 = .ok (.aload_n 0, 1) := by decide +kernel
theorem dX1_countMiss_11 : decode cX1_countMiss 11 = .ok (.dup, 1) := by decide +kernel
theorem dX1_countMiss_12 : decode cX1_countMiss 12 = .ok (.getfield 138, 3) := by decide +kernel
theorem dX1_countMiss_15 : decode cX1_countMiss 15 = .ok (.iload_n 1, 1) := by decide +kernel
theorem dX1_countMiss_16 : decode cX1_countMiss 16 = .ok (.i2l, 1) := by decide +kernel
theorem dX1_countMiss_17 : decode cX1_countMiss 17 = .ok (.ladd, 1) := by decide +kernel
theorem dX1_countMiss_18 : decode cX1_countMiss 18 = .ok (.putfield 138, 3) := by decide +kernel
theorem dX1_countMiss_21 : decode cX1_countMiss 21 = .ok (.return_, 1) := by decide +kernel
set_option maxRecDepth 20000 in
theorem ggX1_letInIfPossible_X1_wasMissedLately : GoodIn wsX1_letInIfPossible wsX1_wasMissedLately := goodIn_r _ [8, 1, 86, 87, 88, 89, 90, 91, 92, 93, 94, 73, 74, 75, 76, 77, 78, 79, 80, 81, 82, 83, 84, 85] (by decide +kernel) (by decide +kernel)
set_option maxRecDepth 20000 in
theorem gX1_letInIfPossible_X1_wasMissedLately : GoodIn wsX1_letInIfPossible (wsV RX1 159 RX1 yX1_wasMissedLately wsX1_wasMissedLately) := goodIn_app (goodIn_of _ (by decide +kernel)) ggX1_letInIfPossible_X1_wasMissedLately
set_option maxRecDepth 20000 in
theorem ggX1_letInIfPossible_X1_removeOwn : GoodIn wsX1_letInIfPossible wsX1_removeOwn := goodIn_r _ [12, 13, 14, 15, 16, 7, 17, 1, 86, 87, 88, 89, 90, 91, 92, 93, 94, 73, 74, 75, 76, 77, 78, 79, 80, 81, 82, 83, 84, 85] (by decide +kernel) (by decide +kernel)
set_option maxRecDepth 20000 in
theorem gX1_letInIfPossible_X1_removeOwn : GoodIn wsX1_letInIfPossible (wsV RX1 165 RX1 yX1_removeOwn wsX1_removeOwn) := goodIn_app (goodIn_of _ (by decide +kernel)) ggX1_letInIfPossible_X1_removeOwn
set_option maxRecDepth 20000 in
theorem ggX1_letInIfPossible_X1_makeRoom : GoodIn wsX1_letInIfPossible wsX1_makeRoom := goodIn_r _ [21, 2, 22, 23, 24, 7, 25, 26, 27, 28, 29, 30, 31, 32, 33, 34, 13, 14, 15, 16, 17, 1, 35, 36, 37, 38, 39, 40, 41, 42, 43, 44, 45, 46, 47, 48, 49, 50, 51, 52, 53, 54, 55, 56, 57, 58, 59, 60, 61, 62, 73, 74, 75, 76, 77, 78, 79, 80, 81, 82, 83, 84, 85, 86, 87, 88, 89, 90, 91, 92, 93, 94] (by decide +kernel) (by decide +kernel)
set_option maxRecDepth 20000 in
theorem gX1_letInIfPossible_X1_makeRoom : GoodIn wsX1_letInIfPossible (wsV RX1 169 RX1 yX1_makeRoom wsX1_makeRoom) := goodIn_app (goodIn_of _ (by decide +kernel)) ggX1_letInIfPossible_X1_makeRoom
set_option maxRecDepth 20000 in
theorem ggX1_letInIfPossible_X1_fill : GoodIn wsX1_letInIfPossible wsX1_fill := goodIn_r _ [66, 1, 67, 68, 69, 7, 70, 71, 43, 72, 86, 87, 88, 89, 90, 91, 92, 93, 94, 73, 74, 75, 76, 77, 78, 79, 80, 81, 82, 83, 84, 85] (by decide +kernel) (by decide +kernel)
set_option maxRecDepth 20000 in
theorem gX1_letInIfPossible_X1_fill : GoodIn wsX1_letInIfPossible (wsV RX1 173 RX1 yX1_fill wsX1_fill) := goodIn_app (goodIn_of _ (by decide +kernel)) ggX1_letInIfPossible_X1_fill
theorem dX1_letInIfPossible_0 : decode cX1_letInIfPossible 0 = .ok (.aload_n 0, 1) := by decide +kernel
theorem dX1_letInIfPossible_1 : decode cX1_letInIfPossible 1 = .ok (.aload_n 1, 1) := by decide +kernel
theorem dX1_letInIfPossible_2 : decode cX1_letInIfPossible 2 = .ok (.invokevirtual 159, 3) := by decide +kernel
theorem dX1_letInIfPossible_5 : decode cX1_letInIfPossible 5 = .ok (.istore 5, 2) := by decide +kernel
theorem dX1_letInIfPossible_7 : decode cX1_letInIfPossible 7 = .ok (.aload_n 1, 1) := by decide +kernel
theorem dX1_letInIfPossible_8 : decode cX1_letInIfPossible 8 = .ok (.aload_n 0, 1) := by decide +kernel
theorem dX1_letInIfPossible_9 : decode cX1_letInIfPossible 9 = .ok (.getfield 55, 3) := by decide +kernel
theorem dX1_letInIfPossible_12 : decode cX1_letInIfPossible 12 = .ok (.putfield 162, 3) := by decide +kernel
theorem dX1_letInIfPossible_15 : decode cX1_letInIfPossible 15 = .ok (.aload_n 0, 1) := by decide +kernel
theorem dX1_letInIfPossible_16 : decode cX1_letInIfPossible 16 = .ok (.aload_n 1, 1) := by decide +kernel
theorem dX1_letInIfPossible_17 : decode cX1_letInIfPossible 17 = .ok (.invokevirtual 165, 3) := by decide +kernel
theorem dX1_letInIfPossible_20 : decode cX1_letInIfPossible 20 = .ok (.iload_n 2, 1) := by decide +kernel
theorem dX1_letInIfPossible_21 : decode cX1_letInIfPossible 21 = .ok (.aload_n 0, 1) := by decide +kernel
theorem dX1_letInIfPossible_22 : decode cX1_letInIfPossible 22 = .ok (.getfield 15, 3) := by decide +kernel
theorem dX1_letInIfPossible_25 : decode cX1_letInIfPossible 25 = .ok (.if_icmp .gt 24, 3) := by decide +kernel
theorem dX1_letInIfPossible_28 : decode cX1_letInIfPossible 28 = .ok (.iload_n 2, 1) := by decide +kernel
theorem dX1_letInIfPossible_29 : decode cX1_letInIfPossible 29 = .ok (.aload_n 0, 1) := by decide +kernel
theorem dX1_letInIfPossible_30 : decode cX1_letInIfPossible 30 = .ok (.getfield 19, 3) := by decide +kernel
theorem dX1_letInIfPossible_33 : decode cX1_letInIfPossible 33 = .ok (.if_icmp .le 8, 3) := by decide +kernel
theorem dX1_letInIfPossible_36 : decode cX1_letInIfPossible 36 = .ok (.iload 5, 2) := by decide +kernel
theorem dX1_letInIfPossible_38 : decode cX1_letInIfPossible 38 = .ok (.ifCond .eq 11, 3) := by decide +kernel
theorem dX1_letInIfPossible_41 : decode cX1_letInIfPossible 41 = .ok (.aload_n 0, 1) := by decide +kernel
theorem dX1_letInIfPossible_42 : decode cX1_letInIfPossible 42 = .ok (.iload_n 2, 1) := by decide +kernel
theorem dX1_letInIfPossible_43 : decode cX1_letInIfPossible 43 = .ok (.invokevirtual 169, 3) := by decide +kernel
theorem dX1_letInIfPossible_46 : decode cX1_letInIfPossible 46 = .ok (.ifCond .ne 5, 3) := by decide +kernel
theorem dX1_letInIfPossible_49 : decode cX1_letInIfPossible 49 = .ok (.iconst 0, 1) := by decide +kernel
theorem dX1_letInIfPossible_50 : decode cX1_letInIfPossible 50 = .ok (.ireturn, 1) := by decide +kernel
theorem dX1_letInIfPossible_51 : decode cX1_letInIfPossible 51 = .ok (.aload_n 0, 1) := by decide +kernel
theorem dX1_letInIfPossible_52 : decode cX1_letInIfPossible 52 = .ok (.aload_n 1, 1) := by decide +kernel
theorem dX1_letInIfPossible_53 : decode cX1_letInIfPossible 53 = .ok (.iload_n 2, 1) := by decide +kernel
theorem dX1_letInIfPossible_54 : decode cX1_letInIfPossible 54 = .ok (.iload_n 3, 1) := by decide +kernel
theorem dX1_letInIfPossible_55 : decode cX1_letInIfPossible 55 = .ok (.iload 4, 2) := by decide +kernel
theorem dX1_letInIfPossible_57 : decode cX1_letInIfPossible 57 = .ok (.invokevirtual 173, 3) := by decide +kernel
theorem dX1_letInIfPossible_60 : decode cX1_letInIfPossible 60 = .ok (.iconst 1, 1) := by decide +kernel
theorem dX1_letInIfPossible_61 : decode cX1_letInIfPossible 61 = .ok (.ireturn, 1) := by decide +kernel
theorem dX1_wasMissedLately_0 : decode cX1_wasMissedLately 0 = .ok (.aload_n 1, 1) := by decide +kernel
theorem dX1_wasMissedLately_1 : decode cX1_wasMissedLately 1 = .ok (.getfield 162, 3) := by decide +kernel
theorem dX1_wasMissedLately_4 : decode cX1_wasMissedLately 4 = .ok (.iconst (-1), 1) := by decide +kernel
theorem dX1_wasMissedLately_5 : decode cX1_wasMissedLately 5 = .ok (.if_icmp .eq 21, 3) := by decide +kernel
theorem dX1_wasMissedLately_8 : decode cX1_wasMissedLately 8 = .ok (.aload_n 0, 1) := by decide +kernel
theorem dX1_wasMissedLately_9 : decode cX1_wasMissedLately 9 = .ok (.getfield 55, 3) := by decide +kernel
theorem dX1_wasMissedLately_12 : decode cX1_wasMissedLately 12 = .ok (.aload_n 1, 1) := by decide +kernel
theorem dX1_wasMissedLately_13 : decode cX1_wasMissedLately 13 = .ok (.getfield 162, 3) := by decide +kernel
theorem dX1_wasMissedLately_16 : decode cX1_wasMissedLately 16 = .ok (.isub, 1) := by decide +kernel
theorem dX1_wasMissedLately_17 : decode cX1_wasMissedLately 17 = .ok (.bipush 50, 2) := by decide +kernel
theorem dX1_wasMissedLately_19 : decode cX1_wasMissedLately 19 = .ok (.if_icmp .gt 7, 3) := by decide +kernel
theorem dX1_wasMissedLately_22 : decode cX1_wasMissedLately 22 = .ok (.iconst 1, 1) := by decide +kernel
theorem dX1_wasMissedLately_23 : decode cX1_wasMissedLately 23 = .ok (.goto 4, 3) := by decide +kernel
theorem dX1_wasMissedLately_26 : decode cX1_wasMissedLately 26 = .ok (.iconst 0, 1) := by decide +kernel
theorem dX1_wasMissedLately_27 : decode cX1_wasMissedLately 27 = .ok (.ireturn, 1) := by decide +kernel
set_option maxRecDepth 20000 in
theorem ggX1_removeOwn_X1_hasEnded : GoodIn wsX1_removeOwn wsX1_hasEnded := goodIn_r _ [6, 7, 17, 18, 19, 20, 21, 22, 23, 24, 25, 26, 27, 28, 29, 8, 9, 10, 11, 12, 13, 14, 15, 16] (by decide +kernel) (by decide +kernel)
set_option maxRecDepth 20000 in
theorem gX1_removeOwn_X1_hasEnded : GoodIn wsX1_removeOwn (wsV RX1 37 RX1 yX1_hasEnded wsX1_hasEnded) := goodIn_app (goodIn_of _ (by decide +kernel)) ggX1_removeOwn_X1_hasEnded
theorem dX1_removeOwn_0 : decode cX1_removeOwn 0 = .ok (.aload_n 1, 1) := by decide +kernel
theorem dX1_removeOwn_1 : decode cX1_removeOwn 1 = .ok (.getfield 33, 3) := by decide +kernel
theorem dX1_removeOwn_4 : decode cX1_removeOwn 4 = .ok (.ifCond .eq 21, 3) := by decide +kernel
theorem dX1_removeOwn_7 : decode cX1_removeOwn 7 = .ok (.aload_n 0, 1) := by decide +kernel
theorem dX1_removeOwn_8 : decode cX1_removeOwn 8 = .ok (.aload_n 1, 1) := by decide +kernel
theorem dX1_removeOwn_9 : decode cX1_removeOwn 9 = .ok (.invokevirtual 37, 3) := by decide +kernel
theorem dX1_removeOwn_12 : decode cX1_removeOwn 12 = .ok (.ifCond .eq 13, 3) := by decide +kernel
theorem dX1_removeOwn_15 : decode cX1_removeOwn 15 = .ok (.aload_n 0, 1) := by decide +kernel
theorem dX1_removeOwn_16 : decode cX1_removeOwn 16 = .ok (.dup, 1) := by decide +kernel
theorem dX1_removeOwn_17 : decode cX1_removeOwn 17 = .ok (.getfield 144, 3) := by decide +kernel
theorem dX1_removeOwn_20 : decode cX1_removeOwn 20 = .ok (.iconst 1, 1) := by decide +kernel
theorem dX1_removeOwn_21 : decode cX1_removeOwn 21 = .ok (.iadd, 1) := by decide +kernel
theorem dX1_removeOwn_22 : decode cX1_removeOwn 22 = .ok (.putfield 144, 3) := by decide +kernel
theorem dX1_removeOwn_25 : decode cX1_removeOwn 25 = .ok (.aload_n 1, 1) := by decide +kernel
theorem dX1_removeOwn_26 : decode cX1_removeOwn 26 = .ok (.iconst 0, 1) := by decide +kernel
theorem dX1_removeOwn_27 : decode cX1_removeOwn 27 = .ok (.putfield 33, 3) := by decide +kernel
theorem dX1_removeOwn_30 : decode cX1_removeOwn 30 = .ok (.return_, 1) := by decide +kernel
set_option maxRecDepth 20000 in
theorem ggX1_makeRoom_X1_hasRoom : GoodIn wsX1_makeRoom wsX1_hasRoom := goodIn_r _ [6, 1, 7, 8, 9, 5, 10, 11, 50, 51, 52, 53, 54, 55, 56, 57, 58, 59, 60, 61, 62, 63, 64, 65, 66, 67, 68, 69, 70, 71] (by decide +kernel) (by decide +kernel)
set_option maxRecDepth 20000 in
theorem gX1_makeRoom_X1_hasRoom : GoodIn wsX1_makeRoom (wsV RX1 177 RX1 yX1_hasRoom wsX1_hasRoom) := goodIn_app (goodIn_of _ (by decide +kernel)) ggX1_makeRoom_X1_hasRoom
set_option maxRecDepth 20000 in
theorem ggX1_makeRoom_X1_removeAllOver : GoodIn wsX1_makeRoom wsX1_removeAllOver := goodIn_r _ [15, 11, 16, 17, 18, 19, 5, 20, 21, 50, 51, 52, 53, 54, 55, 56, 57, 58, 59, 60, 61, 62, 63, 64, 65, 66, 67, 68, 69, 70, 71] (by decide +kernel) (by decide +kernel)
set_option maxRecDepth 20000 in
theorem gX1_makeRoom_X1_removeAllOver : GoodIn wsX1_makeRoom (wsV RX1 64 RX1 yX1_removeAllOver wsX1_removeAllOver) := goodIn_app (goodIn_of _ (by decide +kernel)) ggX1_makeRoom_X1_removeAllOver
set_option maxRecDepth 20000 in
theorem ggX1_makeRoom_X1_bytesThatCannotLeave : GoodIn wsX1_makeRoom wsX1_bytesThatCannotLeave := goodIn_r _ [25, 11, 17, 18, 19, 5, 20, 21, 50, 51, 52, 53, 54, 55, 56, 57, 58, 59, 60, 61, 62, 63, 64, 65, 66, 67, 68, 69, 70, 71] (by decide +kernel) (by decide +kernel)
set_option maxRecDepth 20000 in
theorem gX1_makeRoom_X1_bytesThatCannotLeave : GoodIn wsX1_makeRoom (wsV RX1 68 RX1 yX1_bytesThatCannotLeave wsX1_bytesThatCannotLeave) := goodIn_app (goodIn_of _ (by decide +kernel)) ggX1_makeRoom_X1_bytesThatCannotLeave
set_option maxRecDepth 20000 in
theorem ggX1_makeRoom_X1_leaveDownTo : GoodIn wsX1_makeRoom wsX1_leaveDownTo := goodIn_r _ [29, 30, 31, 32, 33, 34, 35, 36, 37, 38, 5, 39, 40, 41, 42, 43, 11, 44, 45, 46, 47, 48, 49, 7, 8, 9, 10, 63, 64, 65, 66, 67, 68, 69, 70, 71, 50, 51, 52, 53, 54, 55, 56, 57, 58, 59, 60, 61, 62] (by decide +kernel) (by decide +kernel)
set_option maxRecDepth 20000 in
theorem gX1_makeRoom_X1_leaveDownTo : GoodIn wsX1_makeRoom (wsV RX1 81 RX1 yX1_leaveDownTo wsX1_leaveDownTo) := goodIn_app (goodIn_of _ (by decide +kernel)) ggX1_makeRoom_X1_leaveDownTo
theorem dX1_makeRoom_0 : decode cX1_makeRoom 0 = .ok (.aload_n 0, 1) := by decide +kernel
theorem dX1_makeRoom_1 : decode cX1_makeRoom 1 = .ok (.iload_n 1, 1) := by decide +kernel
theorem dX1_makeRoom_2 : decode cX1_makeRoom 2 = .ok (.invokevirtual 177, 3) := by decide +kernel
theorem dX1_makeRoom_5 : decode cX1_makeRoom 5 = .ok (.ifCond .eq 5, 3) := by decide +kernel
theorem dX1_makeRoom_8 : decode cX1_makeRoom 8 = .ok (.iconst 1, 1) := by decide +kernel
theorem dX1_makeRoom_9 : decode cX1_makeRoom 9 = .ok (.ireturn, 1) := by decide +kernel
theorem dX1_makeRoom_10 : decode cX1_makeRoom 10 = .ok (.aload_n 0, 1) := by decide +kernel
theorem dX1_makeRoom_11 : decode cX1_makeRoom 11 = .ok (.invokevirtual 64, 3) := by decide +kernel
theorem dX1_makeRoom_14 : decode cX1_makeRoom 14 = .ok (.pop, 1) := by decide +kernel
theorem dX1_makeRoom_15 : decode cX1_makeRoom 15 = .ok (.iload_n 1, 1) := by decide +kernel
theorem dX1_makeRoom_16 : decode cX1_makeRoom 16 = .ok (.aload_n 0, 1) := by decide +kernel
theorem dX1_makeRoom_17 : decode cX1_makeRoom 17 = .ok (.getfield 15, 3) := by decide +kernel
theorem dX1_makeRoom_20 : decode cX1_makeRoom 20 = .ok (.aload_n 0, 1) := by decide +kernel
theorem dX1_makeRoom_21 : decode cX1_makeRoom 21 = .ok (.invokevirtual 68, 3) := by decide +kernel
theorem dX1_makeRoom_24 : decode cX1_makeRoom 24 = .ok (.isub, 1) := by decide +kernel
theorem dX1_makeRoom_25 : decode cX1_makeRoom 25 = .ok (.if_icmp .le 5, 3) := by decide +kernel
theorem dX1_makeRoom_28 : decode cX1_makeRoom 28 = .ok (.iconst 0, 1) := by decide +kernel
theorem dX1_makeRoom_29 : decode cX1_makeRoom 29 = .ok (.ireturn, 1) := by decide +kernel
theorem dX1_makeRoom_30 : decode cX1_makeRoom 30 = .ok (.aload_n 0, 1) := by decide +kernel
theorem dX1_makeRoom_31 : decode cX1_makeRoom 31 = .ok (.aload_n 0, 1) := by decide +kernel
theorem dX1_makeRoom_32 : decode cX1_makeRoom 32 = .ok (.getfield 15, 3) := by decide +kernel
theorem dX1_makeRoom_35 : decode cX1_makeRoom 35 = .ok (.iload_n 1, 1) := by decide +kernel
theorem dX1_makeRoom_36 : decode cX1_makeRoom 36 = .ok (.isub, 1) := by decide +kernel
theorem dX1_makeRoom_37 : decode cX1_makeRoom 37 = .ok (.invokevirtual 81, 3) := by decide +kernel
theorem dX1_makeRoom_40 : decode cX1_makeRoom 40 = .ok (.pop, 1) := by decide +kernel
theorem dX1_makeRoom_41 : decode cX1_makeRoom 41 = .ok (.iconst 1, 1) := by decide +kernel
theorem dX1_makeRoom_42 : decode cX1_makeRoom 42 = .ok (.ireturn, 1) := by decide +kernel
set_option maxRecDepth 20000 in
theorem ggX1_fill_X1_setWorth : GoodIn wsX1_fill wsX1_setWorth := goodIn_r _ [6, 7, 8, 9, 19, 20, 21, 22, 23, 24, 25, 26, 27, 28, 29, 30, 31, 10, 11, 12, 13, 14, 15, 16, 17, 18] (by decide +kernel) (by decide +kernel)
set_option maxRecDepth 20000 in
theorem gX1_fill_X1_setWorth : GoodIn wsX1_fill (wsV RX1 156 RX1 yX1_setWorth wsX1_setWorth) := goodIn_app (goodIn_of _ (by decide +kernel)) ggX1_fill_X1_setWorth
theorem dX1_fill_0 : decode cX1_fill 0 = .ok (.aload_n 1, 1) := by decide +kernel
theorem dX1_fill_1 : decode cX1_fill 1 = .ok (.iconst 1, 1) := by decide +kernel
theorem dX1_fill_2 : decode cX1_fill 2 = .ok (.putfield 33, 3) := by decide +kernel
theorem dX1_fill_5 : decode cX1_fill 5 = .ok (.aload_n 1, 1) := by decide +kernel
theorem dX1_fill_6 : decode cX1_fill 6 = .ok (.iconst 0, 1) := by decide +kernel
theorem dX1_fill_7 : decode cX1_fill 7 = .ok (.putfield 61, 3) := by decide +kernel
theorem dX1_fill_10 : decode cX1_fill 10 = .ok (.aload_n 1, 1) := by decide +kernel
theorem dX1_fill_11 : decode cX1_fill 11 = .ok (.iload_n 2, 1) := by decide +kernel
theorem dX1_fill_12 : decode cX1_fill 12 = .ok (.putfield 41, 3) := by decide +kernel
theorem dX1_fill_15 : decode cX1_fill 15 = .ok (.aload_n 1, 1) := by decide +kernel
theorem dX1_fill_16 : decode cX1_fill 16 = .ok (.iconst 1, 1) := by decide +kernel
theorem dX1_fill_17 : decode cX1_fill 17 = .ok (.putfield 85, 3) := by decide +kernel
theorem dX1_fill_20 : decode cX1_fill 20 = .ok (.aload_n 1, 1) := by decide +kernel
theorem dX1_fill_21 : decode cX1_fill 21 = .ok (.aload_n 0, 1) := by decide +kernel
theorem dX1_fill_22 : decode cX1_fill 22 = .ok (.getfield 55, 3) := by decide +kernel
theorem dX1_fill_25 : decode cX1_fill 25 = .ok (.iload 4, 2) := by decide +kernel
theorem dX1_fill_27 : decode cX1_fill 27 = .ok (.iadd, 1) := by decide +kernel
theorem dX1_fill_28 : decode cX1_fill 28 = .ok (.putfield 94, 3) := by decide +kernel
theorem dX1_fill_31 : decode cX1_fill 31 = .ok (.aload_n 0, 1) := by decide +kernel
theorem dX1_fill_32 : decode cX1_fill 32 = .ok (.aload_n 1, 1) := by decide +kernel
theorem dX1_fill_33 : decode cX1_fill 33 = .ok (.iload_n 3, 1) := by decide +kernel
theorem dX1_fill_34 : decode cX1_fill 34 = .ok (.invokevirtual 156, 3) := by decide +kernel
theorem dX1_fill_37 : decode cX1_fill 37 = .ok (.return_, 1) := by decide +kernel
theorem dX1_setWorth_0 : decode cX1_setWorth 0 = .ok (.aload_n 0, 1) := by decide +kernel
theorem dX1_setWorth_1 : decode cX1_setWorth 1 = .ok (.dup, 1) := by decide +kernel
theorem dX1_setWorth_2 : decode cX1_setWorth 2 = .ok (.getfield 180, 3) := by decide +kernel
theorem dX1_setWorth_5 : decode cX1_setWorth 5 = .ok (.lconst 1, 1) := by decide +kernel
theorem dX1_setWorth_6 : decode cX1_setWorth 6 = .ok (.ladd, 1) := by decide +kernel
theorem dX1_setWorth_7 : decode cX1_setWorth 7 = .ok (.putfield 180, 3) := by decide +kernel
theorem dX1_setWorth_10 : decode cX1_setWorth 10 = .ok (.aload_n 1, 1) := by decide +kernel
theorem dX1_setWorth_11 : decode cX1_setWorth 11 = .ok (.aload_n 0, 1) := by decide +kernel
theorem dX1_setWorth_12 : decode cX1_setWorth 12 = .ok (.getfield 180, 3) := by decide +kernel
theorem dX1_setWorth_15 : decode cX1_setWorth 15 = .ok (.putfield 183, 3) := by decide +kernel
theorem dX1_setWorth_18 : decode cX1_setWorth 18 = .ok (.aload_n 1, 1) := by decide +kernel
theorem dX1_setWorth_19 : decode cX1_setWorth 19 = .ok (.aload_n 1, 1) := by decide +kernel
theorem dX1_setWorth_20 : decode cX1_setWorth 20 = .ok (.getfield 41, 3) := by decide +kernel
theorem dX1_setWorth_23 : decode cX1_setWorth 23 = .ok (.iconst 1, 1) := by decide +kernel
theorem dX1_setWorth_24 : decode cX1_setWorth 24 = .ok (.if_icmp .ge 10, 3) := by decide +kernel
theorem dX1_setWorth_27 : decode cX1_setWorth 27 = .ok (.aload_n 0, 1) := by decide +kernel
theorem dX1_setWorth_28 : decode cX1_setWorth 28 = .ok (.getfield 123, 3) := by decide +kernel
theorem dX1_setWorth_31 : decode cX1_setWorth 31 = .ok (.goto 26, 3) := by decide +kernel
theorem dX1_setWorth_34 : decode cX1_setWorth 34 = .ok (.aload_n 0, 1) := by decide +kernel
theorem dX1_setWorth_35 : decode cX1_setWorth 35 = .ok (.getfield 123, 3) := by decide +kernel
theorem dX1_setWorth_38 : decode cX1_setWorth 38 = .ok (.ldc2_w 186, 3) := by decide +kernel
theorem dX1_setWorth_41 : decode cX1_setWorth 41 = .ok (.aload_n 1, 1) := by decide +kernel
theorem dX1_setWorth_42 : decode cX1_setWorth 42 = .ok (.getfield 85, 3) := by decide +kernel
theorem dX1_setWorth_45 : decode cX1_setWorth 45 = .ok (.i2l, 1) := by decide +kernel
theorem dX1_setWorth_46 : decode cX1_setWorth 46 = .ok (.lmul, 1) := by decide +kernel
theorem dX1_setWorth_47 : decode cX1_setWorth 47 = .ok (.iload_n 2, 1) := by decide +kernel
theorem dX1_setWorth_48 : decode cX1_setWorth 48 = .ok (.i2l, 1) := by decide +kernel
theorem dX1_setWorth_49 : decode cX1_setWorth 49 = .ok (.lmul, 1) := by decide +kernel
theorem dX1_setWorth_50 : decode cX1_setWorth 50 = .ok (.aload_n 1, 1) := by decide +kernel
theorem dX1_setWorth_51 : decode cX1_setWorth 51 = .ok (.getfield 41, 3) := by decide +kernel
theorem dX1_setWorth_54 : decode cX1_setWorth 54 = .ok (.i2l, 1) := by decide +kernel
theorem dX1_setWorth_55 : decode cX1_setWorth 55 = .ok (.ldiv, 1) := by decide +kernel
theorem dX1_setWorth_56 : decode cX1_setWorth 56 = .ok (.ladd, 1) := by decide +kernel
theorem dX1_setWorth_57 : decode cX1_setWorth 57 = .ok (.putfield 88, 3) := by decide +kernel
theorem dX1_setWorth_60 : decode cX1_setWorth 60 = .ok (.return_, 1) := by decide +kernel
set_option maxRecDepth 20000 in
theorem ggX1_hasRoom_X1_used : GoodIn wsX1_hasRoom wsX1_used := goodIn_r _ [6, 7, 8, 9, 10, 11, 12, 13, 14, 15, 16, 17, 18, 19, 20, 21, 22, 23, 24, 25, 26, 27, 28, 29] (by decide +kernel) (by decide +kernel)
set_option maxRecDepth 20000 in
theorem gX1_hasRoom_X1_used : GoodIn wsX1_hasRoom (wsV RX1 78 RX1 yX1_used wsX1_used) := goodIn_app (goodIn_of _ (by decide +kernel)) ggX1_hasRoom_X1_used
theorem dX1_hasRoom_0 : decode cX1_hasRoom 0 = .ok (.aload_n 0, 1) := by decide +kernel
theorem dX1_hasRoom_1 : decode cX1_hasRoom 1 = .ok (.invokevirtual 78, 3) := by decide +kernel
theorem dX1_hasRoom_4 : decode cX1_hasRoom 4 = .ok (.aload_n 0, 1) := by decide +kernel
theorem dX1_hasRoom_5 : decode cX1_hasRoom 5 = .ok (.getfield 15, 3) := by decide +kernel
theorem dX1_hasRoom_8 : decode cX1_hasRoom 8 = .ok (.iload_n 1, 1) := by decide +kernel
theorem dX1_hasRoom_9 : decode cX1_hasRoom 9 = .ok (.isub, 1) := by decide +kernel
theorem dX1_hasRoom_10 : decode cX1_hasRoom 10 = .ok (.if_icmp .gt 7, 3) := by decide +kernel
theorem dX1_hasRoom_13 : decode cX1_hasRoom 13 = .ok (.iconst 1, 1) := by decide +kernel
theorem dX1_hasRoom_14 : decode cX1_hasRoom 14 = .ok (.goto 4, 3) := by decide +kernel
theorem dX1_hasRoom_17 : decode cX1_hasRoom 17 = .ok (.iconst 0, 1) := by decide +kernel
theorem dX1_hasRoom_18 : decode cX1_hasRoom 18 = .ok (.ireturn, 1) := by decide +kernel
theorem dX1_hasEnded_0 : decode cX1_hasEnded 0 = .ok (.aload_n 0, 1) := by decide +kernel
theorem dX1_hasEnded_1 : decode cX1_hasEnded 1 = .ok (.getfield 55, 3) := by decide +kernel
theorem dX1_hasEnded_4 : decode cX1_hasEnded 4 = .ok (.aload_n 1, 1) := by decide +kernel
theorem dX1_hasEnded_5 : decode cX1_hasEnded 5 = .ok (.getfield 94, 3) := by decide +kernel
theorem dX1_hasEnded_8 : decode cX1_hasEnded 8 = .ok (.if_icmp .lt 7, 3) := by decide +kernel
theorem dX1_hasEnded_11 : decode cX1_hasEnded 11 = .ok (.iconst 1, 1) := by decide +kernel
theorem dX1_hasEnded_12 : decode cX1_hasEnded 12 = .ok (.goto 4, 3) := by decide +kernel
theorem dX1_hasEnded_15 : decode cX1_hasEnded 15 = .ok (.iconst 0, 1) := by decide +kernel
theorem dX1_hasEnded_16 : decode cX1_hasEnded 16 = .ok (.ireturn, 1) := by decide +kernel
set_option maxRecDepth 20000 in
theorem ggX1_removeAllOver_X1_hasEnded : GoodIn wsX1_removeAllOver wsX1_hasEnded := goodIn_r _ [7, 8, 9, 10, 11, 12, 13, 14, 15, 16, 17, 18, 19, 20, 21, 22, 23, 24, 25, 26, 27, 28, 29, 30] (by decide +kernel) (by decide +kernel)
set_option maxRecDepth 20000 in
theorem gX1_removeAllOver_X1_hasEnded : GoodIn wsX1_removeAllOver (wsV RX1 37 RX1 yX1_hasEnded wsX1_hasEnded) := goodIn_app (goodIn_of _ (by decide +kernel)) ggX1_removeAllOver_X1_hasEnded
theorem dX1_removeAllOver_0 : decode cX1_removeAllOver 0 = .ok (.iconst 0, 1) := by decide +kernel
theorem dX1_removeAllOver_1 : decode cX1_removeAllOver 1 = .ok (.istore_n 1, 1) := by decide +kernel
theorem dX1_removeAllOver_2 : decode cX1_removeAllOver 2 = .ok (.aload_n 0, 1) := by decide +kernel
theorem dX1_removeAllOver_3 : decode cX1_removeAllOver 3 = .ok (.getfield 11, 3) := by decide +kernel
theorem dX1_removeAllOver_6 : decode cX1_removeAllOver 6 = .ok (.astore_n 2, 1) := by decide +kernel
theorem dX1_removeAllOver_7 : decode cX1_removeAllOver 7 = .ok (.aload_n 2, 1) := by decide +kernel
theorem dX1_removeAllOver_8 : decode cX1_removeAllOver 8 = .ok (.arraylength, 1) := by decide +kernel
theorem dX1_removeAllOver_9 : decode cX1_removeAllOver 9 = .ok (.istore_n 3, 1) := by decide +kernel
theorem dX1_removeAllOver_10 : decode cX1_removeAllOver 10 = .ok (.iconst 0, 1) := by decide +kernel
theorem dX1_removeAllOver_11 : decode cX1_removeAllOver 11 = .ok (.istore 4, 2) := by decide +kernel
theorem dX1_removeAllOver_13 : decode cX1_removeAllOver 13 = .ok (.iload 4, 2) := by decide +kernel
theorem dX1_removeAllOver_15 : decode cX1_removeAllOver 15 = .ok (.iload_n 3, 1) := by decide +kernel
theorem dX1_removeAllOver_16 : decode cX1_removeAllOver 16 = .ok (.if_icmp .ge 41, 3) := by decide +kernel
theorem dX1_removeAllOver_19 : decode cX1_removeAllOver 19 = .ok (.aload_n 2, 1) := by decide +kernel
theorem dX1_removeAllOver_20 : decode cX1_removeAllOver 20 = .ok (.iload 4, 2) := by decide +kernel
theorem dX1_removeAllOver_22 : decode cX1_removeAllOver 22 = .ok (.aaload, 1) := by decide +kernel
theorem dX1_removeAllOver_23 : decode cX1_removeAllOver 23 = .ok (.astore 5, 2) := by decide +kernel
theorem dX1_removeAllOver_25 : decode cX1_removeAllOver 25 = .ok (.aload 5, 2) := by decide +kernel
theorem dX1_removeAllOver_27 : decode cX1_removeAllOver 27 = .ok (.getfield 33, 3) := by decide +kernel
theorem dX1_removeAllOver_30 : decode cX1_removeAllOver 30 = .ok (.ifCond .eq 21, 3) := by decide +kernel
theorem dX1_removeAllOver_33 : decode cX1_removeAllOver 33 = .ok (.aload_n 0, 1) := by decide +kernel
theorem dX1_removeAllOver_34 : decode cX1_removeAllOver 34 = .ok (.aload 5, 2) := by decide +kernel
theorem dX1_removeAllOver_36 : decode cX1_removeAllOver 36 = .ok (.invokevirtual 37, 3) := by decide +kernel
theorem dX1_removeAllOver_39 : decode cX1_removeAllOver 39 = .ok (.ifCond .eq 12, 3) := by decide +kernel
theorem dX1_removeAllOver_42 : decode cX1_removeAllOver 42 = .ok (.aload 5, 2) := by decide +kernel
theorem dX1_removeAllOver_44 : decode cX1_removeAllOver 44 = .ok (.iconst 0, 1) := by decide +kernel
theorem dX1_removeAllOver_45 : decode cX1_removeAllOver 45 = .ok (.putfield 33, 3) := by decide +kernel
theorem dX1_removeAllOver_48 : decode cX1_removeAllOver 48 = .ok (.iinc 1 1, 3) := by decide +kernel
theorem dX1_removeAllOver_51 : decode cX1_removeAllOver 51 = .ok (.iinc 4 1, 3) := by decide +kernel
theorem dX1_removeAllOver_54 : decode cX1_removeAllOver 54 = .ok (.goto (-41), 3) := by decide +kernel
theorem dX1_removeAllOver_57 : decode cX1_removeAllOver 57 = .ok (.aload_n 0, 1) := by decide +kernel
theorem dX1_removeAllOver_58 : decode cX1_removeAllOver 58 = .ok (.dup, 1) := by decide +kernel
theorem dX1_removeAllOver_59 : decode cX1_removeAllOver 59 = .ok (.getfield 144, 3) := by decide +kernel
theorem dX1_removeAllOver_62 : decode cX1_removeAllOver 62 = .ok (.iload_n 1, 1) := by decide +kernel
theorem dX1_removeAllOver_63 : decode cX1_removeAllOver 63 = .ok (.iadd, 1) := by decide +kernel
theorem dX1_removeAllOver_64 : decode cX1_removeAllOver 64 = .ok (.putfield 144, 3) := by decide +kernel
theorem dX1_removeAllOver_67 : decode cX1_removeAllOver 67 = .ok (.iload_n 1, 1) := by decide +kernel
theorem dX1_removeAllOver_68 : decode cX1_removeAllOver 68 = .ok (.ireturn, 1) := by decide +kernel
set_option maxRecDepth 20000 in
theorem ggX1_bytesThatCannotLeave_X1_hasEnded : GoodIn wsX1_bytesThatCannotLeave wsX1_hasEnded := goodIn_r _ [6, 7, 8, 9, 10, 11, 12, 13, 14, 15, 16, 17, 18, 19, 20, 21, 22, 23, 24, 25, 26, 27, 28, 29] (by decide +kernel) (by decide +kernel)
set_option maxRecDepth 20000 in
theorem gX1_bytesThatCannotLeave_X1_hasEnded : GoodIn wsX1_bytesThatCannotLeave (wsV RX1 37 RX1 yX1_hasEnded wsX1_hasEnded) := goodIn_app (goodIn_of _ (by decide +kernel)) ggX1_bytesThatCannotLeave_X1_hasEnded
theorem dX1_bytesThatCannotLeave_0 : decode cX1_bytesThatCannotLeave 0 = .ok (.iconst 0, 1) := by decide +kernel
theorem dX1_bytesThatCannotLeave_1 : decode cX1_bytesThatCannotLeave 1 = .ok (.istore_n 1, 1) := by decide +kernel
theorem dX1_bytesThatCannotLeave_2 : decode cX1_bytesThatCannotLeave 2 = .ok (.aload_n 0, 1) := by decide +kernel
theorem dX1_bytesThatCannotLeave_3 : decode cX1_bytesThatCannotLeave 3 = .ok (.getfield 11, 3) := by decide +kernel
theorem dX1_bytesThatCannotLeave_6 : decode cX1_bytesThatCannotLeave 6 = .ok (.astore_n 2, 1) := by decide +kernel
theorem dX1_bytesThatCannotLeave_7 : decode cX1_bytesThatCannotLeave 7 = .ok (.aload_n 2, 1) := by decide +kernel
theorem dX1_bytesThatCannotLeave_8 : decode cX1_bytesThatCannotLeave 8 = .ok (.arraylength, 1) := by decide +kernel
theorem dX1_bytesThatCannotLeave_9 : decode cX1_bytesThatCannotLeave 9 = .ok (.istore_n 3, 1) := by decide +kernel
theorem dX1_bytesThatCannotLeave_10 : decode cX1_bytesThatCannotLeave 10 = .ok (.iconst 0, 1) := by decide +kernel
theorem dX1_bytesThatCannotLeave_11 : decode cX1_bytesThatCannotLeave 11 = .ok (.istore 4, 2) := by decide +kernel
theorem dX1_bytesThatCannotLeave_13 : decode cX1_bytesThatCannotLeave 13 = .ok (.iload 4, 2) := by decide +kernel
theorem dX1_bytesThatCannotLeave_15 : decode cX1_bytesThatCannotLeave 15 = .ok (.iload_n 3, 1) := by decide +kernel
theorem dX1_bytesThatCannotLeave_16 : decode cX1_bytesThatCannotLeave 16 = .ok (.if_icmp .ge 48, 3) := by decide +kernel
theorem dX1_bytesThatCannotLeave_19 : decode cX1_bytesThatCannotLeave 19 = .ok (.aload_n 2, 1) := by decide +kernel
theorem dX1_bytesThatCannotLeave_20 : decode cX1_bytesThatCannotLeave 20 = .ok (.iload 4, 2) := by decide +kernel
theorem dX1_bytesThatCannotLeave_22 : decode cX1_bytesThatCannotLeave 22 = .ok (.aaload, 1) := by decide +kernel
theorem dX1_bytesThatCannotLeave_23 : decode cX1_bytesThatCannotLeave 23 = .ok (.astore 5, 2) := by decide +kernel
theorem dX1_bytesThatCannotLeave_25 : decode cX1_bytesThatCannotLeave 25 = .ok (.aload 5, 2) := by decide +kernel
theorem dX1_bytesThatCannotLeave_27 : decode cX1_bytesThatCannotLeave 27 = .ok (.getfield 33, 3) := by decide +kernel
theorem dX1_bytesThatCannotLeave_30 : decode cX1_bytesThatCannotLeave 30 = .ok (.ifCond .eq 28, 3) := by decide +kernel
theorem dX1_bytesThatCannotLeave_33 : decode cX1_bytesThatCannotLeave 33 = .ok (.aload 5, 2) := by decide +kernel
theorem dX1_bytesThatCannotLeave_35 : decode cX1_bytesThatCannotLeave 35 = .ok (.getfield 61, 3) := by decide +kernel
theorem dX1_bytesThatCannotLeave_38 : decode cX1_bytesThatCannotLeave 38 = .ok (.ifCond .eq 20, 3) := by decide +kernel
theorem dX1_bytesThatCannotLeave_41 : decode cX1_bytesThatCannotLeave 41 = .ok (.aload_n 0, 1) := by decide +kernel
theorem dX1_bytesThatCannotLeave_42 : decode cX1_bytesThatCannotLeave 42 = .ok (.aload 5, 2) := by decide +kernel
theorem dX1_bytesThatCannotLeave_44 : decode cX1_bytesThatCannotLeave 44 = .ok (.invokevirtual 37, 3) := by decide +kernel
theorem dX1_bytesThatCannotLeave_47 : decode cX1_bytesThatCannotLeave 47 = .ok (.ifCond .ne 11, 3) := by decide +kernel
theorem dX1_bytesThatCannotLeave_50 : decode cX1_bytesThatCannotLeave 50 = .ok (.iload_n 1, 1) := by decide +kernel
theorem dX1_bytesThatCannotLeave_51 : decode cX1_bytesThatCannotLeave 51 = .ok (.aload 5, 2) := by decide +kernel
theorem dX1_bytesThatCannotLeave_53 : decode cX1_bytesThatCannotLeave 53 = .ok (.getfield 41, 3) := by decide +kernel
theorem dX1_bytesThatCannotLeave_56 : decode cX1_bytesThatCannotLeave 56 = .ok (.iadd, 1) := by decide +kernel
theorem dX1_bytesThatCannotLeave_57 : decode cX1_bytesThatCannotLeave 57 = .ok (.istore_n 1, 1) := by decide +kernel
theorem dX1_bytesThatCannotLeave_58 : decode cX1_bytesThatCannotLeave 58 = .ok (.iinc 4 1, 3) := by decide +kernel
theorem dX1_bytesThatCannotLeave_61 : decode cX1_bytesThatCannotLeave 61 = .ok (.goto (-48), 3) := by decide +kernel
theorem dX1_bytesThatCannotLeave_64 : decode cX1_bytesThatCannotLeave 64 = .ok (.iload_n 1, 1) := by decide +kernel
theorem dX1_bytesThatCannotLeave_65 : decode cX1_bytesThatCannotLeave 65 = .ok (.ireturn, 1) := by decide +kernel
set_option maxRecDepth 20000 in
theorem ggX1_leaveDownTo_X1_firstInOrder : GoodIn wsX1_leaveDownTo wsX1_firstInOrder := goodIn_r _ [11, 12, 13, 14, 10, 15, 16, 17, 18, 19, 20, 21, 22, 36, 37, 38, 39, 40, 41, 42, 43, 44, 45, 46, 47, 48, 27, 28, 29, 30, 31, 32, 33, 34, 35] (by decide +kernel) (by decide +kernel)
set_option maxRecDepth 20000 in
theorem gX1_leaveDownTo_X1_firstInOrder : GoodIn wsX1_leaveDownTo (wsV RX1 97 RX1 yX1_firstInOrder wsX1_firstInOrder) := goodIn_app (goodIn_of _ (by decide +kernel)) ggX1_leaveDownTo_X1_firstInOrder
set_option maxRecDepth 20000 in
theorem ggX1_leaveDownTo_X1_used : GoodIn wsX1_leaveDownTo wsX1_used := goodIn_r _ [26, 16, 36, 37, 38, 39, 40, 41, 42, 43, 44, 45, 46, 47, 48, 27, 28, 29, 30, 31, 32, 33, 34, 35] (by decide +kernel) (by decide +kernel)
set_option maxRecDepth 20000 in
theorem gX1_leaveDownTo_X1_used : GoodIn wsX1_leaveDownTo (wsV RX1 78 RX1 yX1_used wsX1_used) := goodIn_app (goodIn_of _ (by decide +kernel)) ggX1_leaveDownTo_X1_used
theorem dX1_leaveDownTo_0 : decode cX1_leaveDownTo 0 = .ok (.iconst 0, 1) := by decide +kernel
theorem dX1_leaveDownTo_1 : decode cX1_leaveDownTo 1 = .ok (.istore_n 2, 1) := by decide +kernel
theorem dX1_leaveDownTo_2 : decode cX1_leaveDownTo 2 = .ok (.aload_n 0, 1) := by decide +kernel
theorem dX1_leaveDownTo_3 : decode cX1_leaveDownTo 3 = .ok (.invokevirtual 97, 3) := by decide +kernel
theorem dX1_leaveDownTo_6 : decode cX1_leaveDownTo 6 = .ok (.astore_n 3, 1) := by decide +kernel
theorem dX1_leaveDownTo_7 : decode cX1_leaveDownTo 7 = .ok (.iload_n 2, 1) := by decide +kernel
theorem dX1_leaveDownTo_8 : decode cX1_leaveDownTo 8 = .ok (.bipush 32, 2) := by decide +kernel
theorem dX1_leaveDownTo_10 : decode cX1_leaveDownTo 10 = .ok (.if_icmp .ge 46, 3) := by decide +kernel
theorem dX1_leaveDownTo_13 : decode cX1_leaveDownTo 13 = .ok (.aload_n 3, 1) := by decide +kernel
theorem dX1_leaveDownTo_14 : decode cX1_leaveDownTo 14 = .ok (.ifnull 42, 3) := by decide +kernel
theorem dX1_leaveDownTo_17 : decode cX1_leaveDownTo 17 = .ok (.aload_n 0, 1) := by decide +kernel
theorem dX1_leaveDownTo_18 : decode cX1_leaveDownTo 18 = .ok (.invokevirtual 78, 3) := by decide +kernel
theorem dX1_leaveDownTo_21 : decode cX1_leaveDownTo 21 = .ok (.iload_n 1, 1) := by decide +kernel
theorem dX1_leaveDownTo_22 : decode cX1_leaveDownTo 22 = .ok (.if_icmp .le 34, 3) := by decide +kernel
theorem dX1_leaveDownTo_25 : decode cX1_leaveDownTo 25 = .ok (.aload_n 3, 1) := by decide +kernel
theorem dX1_leaveDownTo_26 : decode cX1_leaveDownTo 26 = .ok (.iconst 0, 1) := by decide +kernel
theorem dX1_leaveDownTo_27 : decode cX1_leaveDownTo 27 = .ok (.putfield 33, 3) := by decide +kernel
theorem dX1_leaveDownTo_30 : decode cX1_leaveDownTo 30 = .ok (.aload_n 0, 1) := by decide +kernel
theorem dX1_leaveDownTo_31 : decode cX1_leaveDownTo 31 = .ok (.aload_n 0, 1) := by decide +kernel
theorem dX1_leaveDownTo_32 : decode cX1_leaveDownTo 32 = .ok (.getfield 123, 3) := by decide +kernel
theorem dX1_leaveDownTo_35 : decode cX1_leaveDownTo 35 = .ok (.aload_n 3, 1) := by decide +kernel
theorem dX1_leaveDownTo_36 : decode cX1_leaveDownTo 36 = .ok (.getfield 88, 3) := by decide +kernel
theorem dX1_leaveDownTo_39 : decode cX1_leaveDownTo 39 = .ok (.invokestatic 188, 3) := by decide +kernel
theorem dX1_leaveDownTo_42 : decode cX1_leaveDownTo 42 = .ok (.putfield 123, 3) := by decide +kernel
theorem dX1_leaveDownTo_45 : decode cX1_leaveDownTo 45 = .ok (.iinc 2 1, 3) := by decide +kernel
theorem dX1_leaveDownTo_48 : decode cX1_leaveDownTo 48 = .ok (.aload_n 0, 1) := by decide +kernel
theorem dX1_leaveDownTo_49 : decode cX1_leaveDownTo 49 = .ok (.invokevirtual 97, 3) := by decide +kernel
theorem dX1_leaveDownTo_52 : decode cX1_leaveDownTo 52 = .ok (.astore_n 3, 1) := by decide +kernel
theorem dX1_leaveDownTo_53 : decode cX1_leaveDownTo 53 = .ok (.goto (-46), 3) := by decide +kernel
theorem dX1_leaveDownTo_56 : decode cX1_leaveDownTo 56 = .ok (.aload_n 0, 1) := by decide +kernel
theorem dX1_leaveDownTo_57 : decode cX1_leaveDownTo 57 = .ok (.dup, 1) := by decide +kernel
theorem dX1_leaveDownTo_58 : decode cX1_leaveDownTo 58 = .ok (.getfield 141, 3) := by decide +kernel
theorem dX1_leaveDownTo_61 : decode cX1_leaveDownTo 61 = .ok (.iload_n 2, 1) := by decide +kernel
theorem dX1_leaveDownTo_62 : decode cX1_leaveDownTo 62 = .ok (.iadd, 1) := by decide +kernel
theorem dX1_leaveDownTo_63 : decode cX1_leaveDownTo 63 = .ok (.putfield 141, 3) := by decide +kernel
theorem dX1_leaveDownTo_66 : decode cX1_leaveDownTo 66 = .ok (.iload_n 2, 1) := by decide +kernel
theorem dX1_leaveDownTo_67 : decode cX1_leaveDownTo 67 = .ok (.ireturn, 1) := by decide +kernel
set_option maxRecDepth 20000 in
theorem ggX1_countThatWouldLeave_X1_bytesNotOver : GoodIn wsX1_countThatWouldLeave wsX1_bytesNotOver := goodIn_r _ [6, 7, 8, 9, 10, 5, 11, 12, 27, 28, 29, 30, 31, 32, 33, 34, 35, 36, 37, 38, 39, 40, 41, 42, 43, 44, 45, 46, 47, 48] (by decide +kernel) (by decide +kernel)
set_option maxRecDepth 20000 in
theorem gX1_countThatWouldLeave_X1_bytesNotOver : GoodIn wsX1_countThatWouldLeave (wsV RX1 194 RX1 yX1_bytesNotOver wsX1_bytesNotOver) := goodIn_app (goodIn_of _ (by decide +kernel)) ggX1_countThatWouldLeave_X1_bytesNotOver
set_option maxRecDepth 20000 in
theorem ggX1_countThatWouldLeave_X1_firstInOrder : GoodIn wsX1_countThatWouldLeave wsX1_firstInOrder := goodIn_r _ [16, 17, 18, 19, 5, 20, 7, 21, 22, 23, 24, 25, 26, 27, 28, 29, 30, 31, 32, 33, 34, 35, 36, 37, 38, 39, 40, 41, 42, 43, 44, 45, 46, 47, 48] (by decide +kernel) (by decide +kernel)
set_option maxRecDepth 20000 in
theorem gX1_countThatWouldLeave_X1_firstInOrder : GoodIn wsX1_countThatWouldLeave (wsV RX1 97 RX1 yX1_firstInOrder wsX1_firstInOrder) := goodIn_app (goodIn_of _ (by decide +kernel)) ggX1_countThatWouldLeave_X1_firstInOrder
set_option maxRecDepth 20000 in
theorem ggX1_countThatWouldLeave_X1_hasEnded : GoodIn wsX1_countThatWouldLeave wsX1_hasEnded := goodIn_r _ [11, 12, 27, 28, 29, 30, 31, 32, 33, 34, 35, 36, 37, 38, 39, 40, 41, 42, 43, 44, 45, 46, 47, 48] (by decide +kernel) (by decide +kernel)
set_option maxRecDepth 20000 in
theorem gX1_countThatWouldLeave_X1_hasEnded : GoodIn wsX1_countThatWouldLeave (wsV RX1 37 RX1 yX1_hasEnded wsX1_hasEnded) := goodIn_app (goodIn_of _ (by decide +kernel)) ggX1_countThatWouldLeave_X1_hasEnded
set_option maxRecDepth 20000 in
theorem ggX1_countThatWouldLeave_X1_nextInOrder : GoodIn wsX1_countThatWouldLeave wsX1_nextInOrder := goodIn_r _ [20, 7, 21, 22, 5, 23, 24, 25, 26, 27, 28, 29, 30, 31, 32, 33, 34, 35, 36, 37, 38, 39, 40, 41, 42, 43, 44, 45, 46, 47, 48] (by decide +kernel) (by decide +kernel)
set_option maxRecDepth 20000 in
theorem gX1_countThatWouldLeave_X1_nextInOrder : GoodIn wsX1_countThatWouldLeave (wsV RX1 101 RX1 yX1_nextInOrder wsX1_nextInOrder) := goodIn_app (goodIn_of _ (by decide +kernel)) ggX1_countThatWouldLeave_X1_nextInOrder
theorem dX1_countThatWouldLeave_0 : decode cX1_countThatWouldLeave 0 = .ok (.aload_n 0, 1) := by decide +kernel
theorem dX1_countThatWouldLeave_1 : decode cX1_countThatWouldLeave 1 = .ok (.invokevirtual 194, 3) := by decide +kernel
theorem dX1_countThatWouldLeave_4 : decode cX1_countThatWouldLeave 4 = .ok (.istore_n 2, 1) := by decide +kernel
theorem dX1_countThatWouldLeave_5 : decode cX1_countThatWouldLeave 5 = .ok (.iconst 0, 1) := by decide +kernel
theorem dX1_countThatWouldLeave_6 : decode cX1_countThatWouldLeave 6 = .ok (.istore_n 3, 1) := by decide +kernel
theorem dX1_countThatWouldLeave_7 : decode cX1_countThatWouldLeave 7 = .ok (.aload_n 0, 1) := by decide +kernel
theorem dX1_countThatWouldLeave_8 : decode cX1_countThatWouldLeave 8 = .ok (.invokevirtual 97, 3) := by decide +kernel
theorem dX1_countThatWouldLeave_11 : decode cX1_countThatWouldLeave 11 = .ok (.astore 4, 2) := by decide +kernel
theorem dX1_countThatWouldLeave_13 : decode cX1_countThatWouldLeave 13 = .ok (.iconst 0, 1) := by decide +kernel
theorem dX1_countThatWouldLeave_14 : decode cX1_countThatWouldLeave 14 = .ok (.istore 5, 2) := by decide +kernel
theorem dX1_countThatWouldLeave_16 : decode cX1_countThatWouldLeave 16 = .ok (.iload 5, 2) := by decide +kernel
theorem dX1_countThatWouldLeave_18 : decode cX1_countThatWouldLeave 18 = .ok (.bipush 32, 2) := by decide +kernel
theorem dX1_countThatWouldLeave_20 : decode cX1_countThatWouldLeave 20 = .ok (.if_icmp .ge 52, 3) := by decide +kernel
theorem dX1_countThatWouldLeave_23 : decode cX1_countThatWouldLeave 23 = .ok (.aload 4, 2) := by decide +kernel
theorem dX1_countThatWouldLeave_25 : decode cX1_countThatWouldLeave 25 = .ok (.ifnull 47, 3) := by decide +kernel
theorem dX1_countThatWouldLeave_28 : decode cX1_countThatWouldLeave 28 = .ok (.iload_n 2, 1) := by decide +kernel
theorem dX1_countThatWouldLeave_29 : decode cX1_countThatWouldLeave 29 = .ok (.aload_n 0, 1) := by decide +kernel
theorem dX1_countThatWouldLeave_30 : decode cX1_countThatWouldLeave 30 = .ok (.getfield 15, 3) := by decide +kernel
theorem dX1_countThatWouldLeave_33 : decode cX1_countThatWouldLeave 33 = .ok (.iload_n 1, 1) := by decide +kernel
theorem dX1_countThatWouldLeave_34 : decode cX1_countThatWouldLeave 34 = .ok (.isub, 1) := by decide +kernel
theorem dX1_countThatWouldLeave_35 : decode cX1_countThatWouldLeave 35 = .ok (.if_icmp .le 37, 3) := by decide +kernel
theorem dX1_countThatWouldLeave_38 : decode cX1_countThatWouldLeave 38 = .ok (.aload_n 0, 1) := by decide +kernel
theorem dX1_countThatWouldLeave_39 : decode cX1_countThatWouldLeave 39 = .ok (.aload 4, 2) := by decide +kernel
theorem dX1_countThatWouldLeave_41 : decode cX1_countThatWouldLeave 41 = .ok (.invokevirtual 37, 3) := by decide +kernel
theorem dX1_countThatWouldLeave_44 : decode cX1_countThatWouldLeave 44 = .ok (.ifCond .ne 14, 3) := by decide +kernel
theorem dX1_countThatWouldLeave_47 : decode cX1_countThatWouldLeave 47 = .ok (.iload_n 2, 1) := by decide +kernel
theorem dX1_countThatWouldLeave_48 : decode cX1_countThatWouldLeave 48 = .ok (.aload 4, 2) := by decide +kernel
theorem dX1_countThatWouldLeave_50 : decode cX1_countThatWouldLeave 50 = .ok (.getfield 41, 3) := by decide +kernel
theorem dX1_countThatWouldLeave_53 : decode cX1_countThatWouldLeave 53 = .ok (.isub, 1) := by decide +kernel
theorem dX1_countThatWouldLeave_54 : decode cX1_countThatWouldLeave 54 = .ok (.istore_n 2, 1) := by decide +kernel
theorem dX1_countThatWouldLeave_55 : decode cX1_countThatWouldLeave 55 = .ok (.iinc 3 1, 3) := by decide +kernel
theorem dX1_countThatWouldLeave_58 : decode cX1_countThatWouldLeave 58 = .ok (.aload_n 0, 1) := by decide +kernel
theorem dX1_countThatWouldLeave_59 : decode cX1_countThatWouldLeave 59 = .ok (.aload 4, 2) := by decide +kernel
theorem dX1_countThatWouldLeave_61 : decode cX1_countThatWouldLeave 61 = .ok (.invokevirtual 101, 3) := by decide +kernel
theorem dX1_countThatWouldLeave_64 : decode cX1_countThatWouldLeave 64 = .ok (.astore 4, 2) := by decide +kernel
theorem dX1_countThatWouldLeave_66 : decode cX1_countThatWouldLeave 66 = .ok (.iinc 5 1, 3) := by decide +kernel
theorem dX1_countThatWouldLeave_69 : decode cX1_countThatWouldLeave 69 = .ok (.goto (-53), 3) := by decide +kernel
theorem dX1_countThatWouldLeave_72 : decode cX1_countThatWouldLeave 72 = .ok (.iload_n 3, 1) := by decide +kernel
theorem dX1_countThatWouldLeave_73 : decode cX1_countThatWouldLeave 73 = .ok (.ireturn, 1) := by decide +kernel
set_option maxRecDepth 20000 in
theorem ggX1_bytesNotOver_X1_hasEnded : GoodIn wsX1_bytesNotOver wsX1_hasEnded := goodIn_r _ [6, 7, 8, 9, 10, 11, 12, 13, 14, 15, 16, 17, 18, 19, 20, 21, 22, 23, 24, 25, 26, 27, 28, 29] (by decide +kernel) (by decide +kernel)
set_option maxRecDepth 20000 in
theorem gX1_bytesNotOver_X1_hasEnded : GoodIn wsX1_bytesNotOver (wsV RX1 37 RX1 yX1_hasEnded wsX1_hasEnded) := goodIn_app (goodIn_of _ (by decide +kernel)) ggX1_bytesNotOver_X1_hasEnded
theorem dX1_bytesNotOver_0 : decode cX1_bytesNotOver 0 = .ok (.iconst 0, 1) := by decide +kernel
theorem dX1_bytesNotOver_1 : decode cX1_bytesNotOver 1 = .ok (.istore_n 1, 1) := by decide +kernel
theorem dX1_bytesNotOver_2 : decode cX1_bytesNotOver 2 = .ok (.aload_n 0, 1) := by decide +kernel
theorem dX1_bytesNotOver_3 : decode cX1_bytesNotOver 3 = .ok (.getfield 11, 3) := by decide +kernel
theorem dX1_bytesNotOver_6 : decode cX1_bytesNotOver 6 = .ok (.astore_n 2, 1) := by decide +kernel
theorem dX1_bytesNotOver_7 : decode cX1_bytesNotOver 7 = .ok (.aload_n 2, 1) := by decide +kernel
theorem dX1_bytesNotOver_8 : decode cX1_bytesNotOver 8 = .ok (.arraylength, 1) := by decide +kernel
theorem dX1_bytesNotOver_9 : decode cX1_bytesNotOver 9 = .ok (.istore_n 3, 1) := by decide +kernel
theorem dX1_bytesNotOver_10 : decode cX1_bytesNotOver 10 = .ok (.iconst 0, 1) := by decide +kernel
theorem dX1_bytesNotOver_11 : decode cX1_bytesNotOver 11 = .ok (.istore 4, 2) := by decide +kernel
theorem dX1_bytesNotOver_13 : decode cX1_bytesNotOver 13 = .ok (.iload 4, 2) := by decide +kernel
theorem dX1_bytesNotOver_15 : decode cX1_bytesNotOver 15 = .ok (.iload_n 3, 1) := by decide +kernel
theorem dX1_bytesNotOver_16 : decode cX1_bytesNotOver 16 = .ok (.if_icmp .ge 40, 3) := by decide +kernel
theorem dX1_bytesNotOver_19 : decode cX1_bytesNotOver 19 = .ok (.aload_n 2, 1) := by decide +kernel
theorem dX1_bytesNotOver_20 : decode cX1_bytesNotOver 20 = .ok (.iload 4, 2) := by decide +kernel
theorem dX1_bytesNotOver_22 : decode cX1_bytesNotOver 22 = .ok (.aaload, 1) := by decide +kernel
theorem dX1_bytesNotOver_23 : decode cX1_bytesNotOver 23 = .ok (.astore 5, 2) := by decide +kernel
theorem dX1_bytesNotOver_25 : decode cX1_bytesNotOver 25 = .ok (.aload 5, 2) := by decide +kernel
theorem dX1_bytesNotOver_27 : decode cX1_bytesNotOver 27 = .ok (.getfield 33, 3) := by decide +kernel
theorem dX1_bytesNotOver_30 : decode cX1_bytesNotOver 30 = .ok (.ifCond .eq 20, 3) := by decide +kernel
theorem dX1_bytesNotOver_33 : decode cX1_bytesNotOver 33 = .ok (.aload_n 0, 1) := by decide +kernel
theorem dX1_bytesNotOver_34 : decode cX1_bytesNotOver 34 = .ok (.aload 5, 2) := by decide +kernel
theorem dX1_bytesNotOver_36 : decode cX1_bytesNotOver 36 = .ok (.invokevirtual 37, 3) := by decide +kernel
theorem dX1_bytesNotOver_39 : decode cX1_bytesNotOver 39 = .ok (.ifCond .ne 11, 3) := by decide +kernel
theorem dX1_bytesNotOver_42 : decode cX1_bytesNotOver 42 = .ok (.iload_n 1, 1) := by decide +kernel
theorem dX1_bytesNotOver_43 : decode cX1_bytesNotOver 43 = .ok (.aload 5, 2) := by decide +kernel
theorem dX1_bytesNotOver_45 : decode cX1_bytesNotOver 45 = .ok (.getfield 41, 3) := by decide +kernel
theorem dX1_bytesNotOver_48 : decode cX1_bytesNotOver 48 = .ok (.iadd, 1) := by decide +kernel
theorem dX1_bytesNotOver_49 : decode cX1_bytesNotOver 49 = .ok (.istore_n 1, 1) := by decide +kernel
theorem dX1_bytesNotOver_50 : decode cX1_bytesNotOver 50 = .ok (.iinc 4 1, 3) := by decide +kernel
theorem dX1_bytesNotOver_53 : decode cX1_bytesNotOver 53 = .ok (.goto (-40), 3) := by decide +kernel
theorem dX1_bytesNotOver_56 : decode cX1_bytesNotOver 56 = .ok (.iload_n 1, 1) := by decide +kernel
theorem dX1_bytesNotOver_57 : decode cX1_bytesNotOver 57 = .ok (.ireturn, 1) := by decide +kernel
theorem dX1_isInOrder_0 : decode cX1_isInOrder 0 = .ok (.aload_n 0, 1) := by decide +kernel
theorem dX1_isInOrder_1 : decode cX1_isInOrder 1 = .ok (.getfield 33, 3) := by decide +kernel
theorem dX1_isInOrder_4 : decode cX1_isInOrder 4 = .ok (.ifCond .eq 14, 3) := by decide +kernel
theorem dX1_isInOrder_7 : decode cX1_isInOrder 7 = .ok (.aload_n 0, 1) := by decide +kernel
theorem dX1_isInOrder_8 : decode cX1_isInOrder 8 = .ok (.getfield 61, 3) := by decide +kernel
theorem dX1_isInOrder_11 : decode cX1_isInOrder 11 = .ok (.ifCond .ne 7, 3) := by decide +kernel
theorem dX1_isInOrder_14 : decode cX1_isInOrder 14 = .ok (.iconst 1, 1) := by decide +kernel
theorem dX1_isInOrder_15 : decode cX1_isInOrder 15 = .ok (.goto 4, 3) := by decide +kernel
theorem dX1_isInOrder_18 : decode cX1_isInOrder 18 = .ok (.iconst 0, 1) := by decide +kernel
theorem dX1_isInOrder_19 : decode cX1_isInOrder 19 = .ok (.ireturn, 1) := by decide +kernel
theorem dX1_leavesBefore_0 : decode cX1_leavesBefore 0 = .ok (.aload_n 0, 1) := by decide +kernel
theorem dX1_leavesBefore_1 : decode cX1_leavesBefore 1 = .ok (.getfield 88, 3) := by decide +kernel
theorem dX1_leavesBefore_4 : decode cX1_leavesBefore 4 = .ok (.aload_n 1, 1) := by decide +kernel
theorem dX1_leavesBefore_5 : decode cX1_leavesBefore 5 = .ok (.getfield 88, 3) := by decide +kernel
theorem dX1_leavesBefore_8 : decode cX1_leavesBefore 8 = .ok (.lcmp, 1) := by decide +kernel
theorem dX1_leavesBefore_9 : decode cX1_leavesBefore 9 = .ok (.ifCond .lt 27, 3) := by decide +kernel
theorem dX1_leavesBefore_12 : decode cX1_leavesBefore 12 = .ok (.aload_n 0, 1) := by decide +kernel
theorem dX1_leavesBefore_13 : decode cX1_leavesBefore 13 = .ok (.getfield 88, 3) := by decide +kernel
theorem dX1_leavesBefore_16 : decode cX1_leavesBefore 16 = .ok (.aload_n 1, 1) := by decide +kernel
theorem dX1_leavesBefore_17 : decode cX1_leavesBefore 17 = .ok (.getfield 88, 3) := by decide +kernel
theorem dX1_leavesBefore_20 : decode cX1_leavesBefore 20 = .ok (.lcmp, 1) := by decide +kernel
theorem dX1_leavesBefore_21 : decode cX1_leavesBefore 21 = .ok (.ifCond .ne 19, 3) := by decide +kernel
theorem dX1_leavesBefore_24 : decode cX1_leavesBefore 24 = .ok (.aload_n 0, 1) := by decide +kernel
theorem dX1_leavesBefore_25 : decode cX1_leavesBefore 25 = .ok (.getfield 183, 3) := by decide +kernel
theorem dX1_leavesBefore_28 : decode cX1_leavesBefore 28 = .ok (.aload_n 1, 1) := by decide +kernel
theorem dX1_leavesBefore_29 : decode cX1_leavesBefore 29 = .ok (.getfield 183, 3) := by decide +kernel
theorem dX1_leavesBefore_32 : decode cX1_leavesBefore 32 = .ok (.lcmp, 1) := by decide +kernel
theorem dX1_leavesBefore_33 : decode cX1_leavesBefore 33 = .ok (.ifCond .ge 7, 3) := by decide +kernel
theorem dX1_leavesBefore_36 : decode cX1_leavesBefore 36 = .ok (.iconst 1, 1) := by decide +kernel
theorem dX1_leavesBefore_37 : decode cX1_leavesBefore 37 = .ok (.goto 4, 3) := by decide +kernel
theorem dX1_leavesBefore_40 : decode cX1_leavesBefore 40 = .ok (.iconst 0, 1) := by decide +kernel
theorem dX1_leavesBefore_41 : decode cX1_leavesBefore 41 = .ok (.ireturn, 1) := by decide +kernel
set_option maxRecDepth 20000 in
theorem ggX1_firstInOrder_X1_nextInOrder : GoodIn wsX1_firstInOrder wsX1_nextInOrder := goodIn_r _ [5, 6, 7, 8, 4, 9, 10, 11, 12, 13, 14, 15, 16, 17, 18, 19, 20, 21, 22, 23, 24, 25, 26, 27, 28, 29, 30, 31, 32, 33, 34] (by decide +kernel) (by decide +kernel)
set_option maxRecDepth 20000 in
theorem gX1_firstInOrder_X1_nextInOrder : GoodIn wsX1_firstInOrder (wsV RX1 101 RX1 yX1_nextInOrder wsX1_nextInOrder) := goodIn_app (goodIn_of _ (by decide +kernel)) ggX1_firstInOrder_X1_nextInOrder
theorem dX1_firstInOrder_0 : decode cX1_firstInOrder 0 = .ok (.aload_n 0, 1) := by decide +kernel
theorem dX1_firstInOrder_1 : decode cX1_firstInOrder 1 = .ok (.aconst_null, 1) := by decide +kernel
theorem dX1_firstInOrder_2 : decode cX1_firstInOrder 2 = .ok (.invokevirtual 101, 3) := by decide +kernel
theorem dX1_firstInOrder_5 : decode cX1_firstInOrder 5 = .ok (.areturn, 1) := by decide +kernel
set_option maxRecDepth 20000 in
theorem ggX1_nextInOrder_X1_leavesBefore : GoodIn wsX1_nextInOrder wsX1_leavesBefore := goodIn_r _ [5, 22, 23, 24, 25, 26, 27, 28, 29, 30] (by decide +kernel) (by decide +kernel)
set_option maxRecDepth 20000 in
theorem gX1_nextInOrder_X1_leavesBefore : GoodIn wsX1_nextInOrder (va_wsS RX1 116 yX1_leavesBefore wsX1_leavesBefore) := goodIn_app (goodIn_of _ (by decide +kernel)) ggX1_nextInOrder_X1_leavesBefore
set_option maxRecDepth 20000 in
theorem ggX1_nextInOrder_X1_isInOrder : GoodIn wsX1_nextInOrder wsX1_isInOrder := goodIn_r _ [8, 22, 23, 24, 25, 26, 27, 28, 29, 30] (by decide +kernel) (by decide +kernel)
set_option maxRecDepth 20000 in
theorem gX1_nextInOrder_X1_isInOrder : GoodIn wsX1_nextInOrder (va_wsS RX1 113 yX1_isInOrder wsX1_isInOrder) := goodIn_app (goodIn_of _ (by decide +kernel)) ggX1_nextInOrder_X1_isInOrder
theorem dX1_nextInOrder_0 : decode cX1_nextInOrder 0 = .ok (.aconst_null, 1) := by decide +kernel
theorem dX1_nextInOrder_1 : decode cX1_nextInOrder 1 = .ok (.astore_n 2, 1) := by decide +kernel
theorem dX1_nextInOrder_2 : decode cX1_nextInOrder 2 = .ok (.aload_n 0, 1) := by decide +kernel
theorem dX1_nextInOrder_3 : decode cX1_nextInOrder 3 = .ok (.getfield 11, 3) := by decide +kernel
theorem dX1_nextInOrder_6 : decode cX1_nextInOrder 6 = .ok (.astore_n 3, 1) := by decide +kernel
theorem dX1_nextInOrder_7 : decode cX1_nextInOrder 7 = .ok (.aload_n 3, 1) := by decide +kernel
theorem dX1_nextInOrder_8 : decode cX1_nextInOrder 8 = .ok (.arraylength, 1) := by decide +kernel
theorem dX1_nextInOrder_9 : decode cX1_nextInOrder 9 = .ok (.istore 4, 2) := by decide +kernel
theorem dX1_nextInOrder_11 : decode cX1_nextInOrder 11 = .ok (.iconst 0, 1) := by decide +kernel
theorem dX1_nextInOrder_12 : decode cX1_nextInOrder 12 = .ok (.istore 5, 2) := by decide +kernel
theorem dX1_nextInOrder_14 : decode cX1_nextInOrder 14 = .ok (.iload 5, 2) := by decide +kernel
theorem dX1_nextInOrder_16 : decode cX1_nextInOrder 16 = .ok (.iload 4, 2) := by decide +kernel
theorem dX1_nextInOrder_18 : decode cX1_nextInOrder 18 = .ok (.if_icmp .ge 64, 3) := by decide +kernel
theorem dX1_nextInOrder_21 : decode cX1_nextInOrder 21 = .ok (.aload_n 3, 1) := by decide +kernel
theorem dX1_nextInOrder_22 : decode cX1_nextInOrder 22 = .ok (.iload 5, 2) := by decide +kernel
theorem dX1_nextInOrder_24 : decode cX1_nextInOrder 24 = .ok (.aaload, 1) := by decide +kernel
theorem dX1_nextInOrder_25 : decode cX1_nextInOrder 25 = .ok (.astore 6, 2) := by decide +kernel
theorem dX1_nextInOrder_27 : decode cX1_nextInOrder 27 = .ok (.aload_n 1, 1) := by decide +kernel
theorem dX1_nextInOrder_28 : decode cX1_nextInOrder 28 = .ok (.ifnull 12, 3) := by decide +kernel
theorem dX1_nextInOrder_31 : decode cX1_nextInOrder 31 = .ok (.aload_n 1, 1) := by decide +kernel
theorem dX1_nextInOrder_32 : decode cX1_nextInOrder 32 = .ok (.aload 6, 2) := by decide +kernel
theorem dX1_nextInOrder_34 : decode cX1_nextInOrder 34 = .ok (.invokestatic 116, 3) := by decide +kernel
theorem dX1_nextInOrder_37 : decode cX1_nextInOrder 37 = .ok (.ifCond .eq 7, 3) := by decide +kernel
theorem dX1_nextInOrder_40 : decode cX1_nextInOrder 40 = .ok (.iconst 1, 1) := by decide +kernel
theorem dX1_nextInOrder_41 : decode cX1_nextInOrder 41 = .ok (.goto 4, 3) := by decide +kernel
theorem dX1_nextInOrder_44 : decode cX1_nextInOrder 44 = .ok (.iconst 0, 1) := by decide +kernel
theorem dX1_nextInOrder_45 : decode cX1_nextInOrder 45 = .ok (.istore 7, 2) := by decide +kernel
theorem dX1_nextInOrder_47 : decode cX1_nextInOrder 47 = .ok (.aload 6, 2) := by decide +kernel
theorem dX1_nextInOrder_49 : decode cX1_nextInOrder 49 = .ok (.invokestatic 113, 3) := by decide +kernel
theorem dX1_nextInOrder_52 : decode cX1_nextInOrder 52 = .ok (.ifCond .eq 24, 3) := by decide +kernel
theorem dX1_nextInOrder_55 : decode cX1_nextInOrder 55 = .ok (.iload 7, 2) := by decide +kernel
theorem dX1_nextInOrder_57 : decode cX1_nextInOrder 57 = .ok (.ifCond .eq 19, 3) := by decide +kernel
theorem dX1_nextInOrder_60 : decode cX1_nextInOrder 60 = .ok (.aload_n 2, 1) := by decide +kernel
theorem dX1_nextInOrder_61 : decode cX1_nextInOrder 61 = .ok (.ifnull 12, 3) := by decide +kernel
theorem dX1_nextInOrder_64 : decode cX1_nextInOrder 64 = .ok (.aload 6, 2) := by decide +kernel
theorem dX1_nextInOrder_66 : decode cX1_nextInOrder 66 = .ok (.aload_n 2, 1) := by decide +kernel
theorem dX1_nextInOrder_67 : decode cX1_nextInOrder 67 = .ok (.invokestatic 116, 3) := by decide +kernel
theorem dX1_nextInOrder_70 : decode cX1_nextInOrder 70 = .ok (.ifCond .eq 6, 3) := by decide +kernel
theorem dX1_nextInOrder_73 : decode cX1_nextInOrder 73 = .ok (.aload 6, 2) := by decide +kernel
theorem dX1_nextInOrder_75 : decode cX1_nextInOrder 75 = .ok (.astore_n 2, 1) := by decide +kernel
theorem dX1_nextInOrder_76 : decode cX1_nextInOrder 76 = .ok (.iinc 5 1, 3) := by decide +kernel
theorem dX1_nextInOrder_79 : decode cX1_nextInOrder 79 = .ok (.goto (-65), 3) := by decide +kernel
theorem dX1_nextInOrder_82 : decode cX1_nextInOrder 82 = .ok (.aload_n 2, 1) := by decide +kernel
theorem dX1_nextInOrder_83 : decode cX1_nextInOrder 83 = .ok (.areturn, 1) := by decide +kernel
end
section
theorem dX2_init_0 : decode cX2_init 0 = .ok (.aload_n 0, 1) := by decide +kernel
theorem dX2_init_1 : decode cX2_init 1 = .ok (.invokespecial 1, 3) := by decide +kernel
theorem dX2_init_4 : decode cX2_init 4 = .ok (.aload_n 0, 1) := by decide +kernel
theorem dX2_init_5 : decode cX2_init 5 = .ok (.bipush 32, 2) := by decide +kernel
theorem dX2_init_7 : decode cX2_init 7 = .ok (.newarray .boolean, 2) := by decide +kernel
theorem dX2_init_9 : decode cX2_init 9 = .ok (.putfield 7, 3) := by decide +kernel
theorem dX2_init_12 : decode cX2_init 12 = .ok (.aload_n 0, 1) := by decide +kernel
theorem dX2_init_13 : decode cX2_init 13 = .ok (.bipush 32, 2) := by decide +kernel
theorem dX2_init_15 : decode cX2_init 15 = .ok (.newarray .boolean, 2) := by decide +kernel
theorem dX2_init_17 : decode cX2_init 17 = .ok (.putfield 13, 3) := by decide +kernel
theorem dX2_init_20 : decode cX2_init 20 = .ok (.aload_n 0, 1) := by decide +kernel
theorem dX2_init_21 : decode cX2_init 21 = .ok (.bipush 32, 2) := by decide +kernel
theorem dX2_init_23 : decode cX2_init 23 = .ok (.newarray .int, 2) := by decide +kernel
theorem dX2_init_25 : decode cX2_init 25 = .ok (.putfield 16, 3) := by decide +kernel
theorem dX2_init_28 : decode cX2_init 28 = .ok (.aload_n 0, 1) := by decide +kernel
theorem dX2_init_29 : decode cX2_init 29 = .ok (.bipush 32, 2) := by decide +kernel
theorem dX2_init_31 : decode cX2_init 31 = .ok (.newarray .int, 2) := by decide +kernel
theorem dX2_init_33 : decode cX2_init 33 = .ok (.putfield 20, 3) := by decide +kernel
theorem dX2_init_36 : decode cX2_init 36 = .ok (.aload_n 0, 1) := by decide +kernel
theorem dX2_init_37 : decode cX2_init 37 = .ok (.bipush 32, 2) := by decide +kernel
theorem dX2_init_39 : decode cX2_init 39 = .ok (.newarray .int, 2) := by decide +kernel
theorem dX2_init_41 : decode cX2_init 41 = .ok (.putfield 23, 3) := by decide +kernel
theorem dX2_init_44 : decode cX2_init 44 = .ok (.aload_n 0, 1) := by decide +kernel
theorem dX2_init_45 : decode cX2_init 45 = .ok (.bipush 32, 2) := by decide +kernel
theorem dX2_init_47 : decode cX2_init 47 = .ok (.newarray .long, 2) := by decide +kernel
theorem dX2_init_49 : decode cX2_init 49 = .ok (.putfield 26, 3) := by decide +kernel
theorem dX2_init_52 : decode cX2_init 52 = .ok (.aload_n 0, 1) := by decide +kernel
theorem dX2_init_53 : decode cX2_init 53 = .ok (.bipush 32, 2) := by decide +kernel
theorem dX2_init_55 : decode cX2_init 55 = .ok (.newarray .int, 2) := by decide +kernel
theorem dX2_init_57 : decode cX2_init 57 = .ok (.putfield 30, 3) := by decide +kernel
theorem dX2_init_60 : decode cX2_init 60 = .ok (.aload_n 0, 1) := by decide +kernel
theorem dX2_init_61 : decode cX2_init 61 = .ok (.bipush 32, 2) := by decide +kernel
theorem dX2_init_63 : decode cX2_init 63 = .ok (.newarray .long, 2) := by decide +kernel
theorem dX2_init_65 : decode cX2_init 65 = .ok (.putfield 33, 3) := by decide +kernel
theorem dX2_init_68 : decode cX2_init 68 = .ok (.aload_n 0, 1) := by decide +kernel
theorem dX2_init_69 : decode cX2_init 69 = .ok (.bipush 32, 2) := by decide +kernel
theorem dX2_init_71 : decode cX2_init 71 = .ok (.newarray .int, 2) := by decide +kernel
theorem dX2_init_73 : decode cX2_init 73 = .ok (.putfield 36, 3) := by decide +kernel
theorem dX2_init_76 : decode cX2_init 76 = .ok (.aload_n 0, 1) := by decide +kernel
theorem dX2_init_77 : decode cX2_init 77 = .ok (.bipush 100, 2) := by decide +kernel
theorem dX2_init_79 : decode cX2_init 79 = .ok (.putfield 39, 3) := by decide +kernel
theorem dX2_init_82 : decode cX2_init 82 = .ok (.aload_n 0, 1) := by decide +kernel
theorem dX2_init_83 : decode cX2_init 83 = .ok (.sipush 1000, 3) := by decide +kernel
theorem dX2_init_86 : decode cX2_init 86 = .ok (.putfield 43, 3) := by decide +kernel
theorem dX2_init_89 : decode cX2_init 89 = .ok (.iconst 0, 1) := by decide +kernel
theorem dX2_init_90 : decode cX2_init 90 = .ok (.istore_n 1, 1) := by decide +kernel
theorem dX2_init_91 : decode cX2_init 91 = .ok (.iload_n 1, 1) := by decide +kernel
theorem dX2_init_92 : decode cX2_init 92 = .ok (.bipush 32, 2) := by decide +kernel
theorem dX2_init_94 : decode cX2_init 94 = .ok (.if_icmp .ge 16, 3) := by decide +kernel
theorem dX2_init_97 : decode cX2_init 97 = .ok (.aload_n 0, 1) := by decide +kernel
theorem dX2_init_98 : decode cX2_init 98 = .ok (.getfield 36, 3) := by decide +kernel
theorem dX2_init_101 : decode cX2_init 101 = .ok (.iload_n 1, 1) := by decide +kernel
theorem dX2_init_102 : decode cX2_init 102 = .ok (.iconst (-1), 1) := by decide +kernel
theorem dX2_init_103 : decode cX2_init 103 = .ok (.iastore, 1) := by decide +kernel
theorem dX2_init_104 : decode cX2_init 104 = .ok (.iinc 1 1, 3) := by decide +kernel
theorem dX2_init_107 : decode cX2_init 107 = .ok (.goto (-16), 3) := by decide +kernel
theorem dX2_init_110 : decode cX2_init 110 = .ok (.return_, 1) := by decide +kernel
theorem dX2_thrown_0 : decode cX2_thrown 0 = .ok (.aload_n 0, 1) := by decide +kernel
theorem dX2_thrown_1 : decode cX2_thrown 1 = .ok (.getfield 46, 3) := by decide +kernel
theorem dX2_thrown_4 : decode cX2_thrown 4 = .ok (.ireturn, 1) := by decide +kernel
theorem dX2_in_0 : decode cX2_in 0 = .ok (.iload_n 0, 1) := by decide +kernel
theorem dX2_in_1 : decode cX2_in 1 = .ok (.iload_n 1, 1) := by decide +kernel
theorem dX2_in_2 : decode cX2_in 2 = .ok (.if_icmp .lt 12, 3) := by decide +kernel
theorem dX2_in_5 : decode cX2_in 5 = .ok (.iload_n 0, 1) := by decide +kernel
theorem dX2_in_6 : decode cX2_in 6 = .ok (.iload_n 2, 1) := by decide +kernel
theorem dX2_in_7 : decode cX2_in 7 = .ok (.if_icmp .gt 7, 3) := by decide +kernel
theorem dX2_in_10 : decode cX2_in 10 = .ok (.iconst 1, 1) := by decide +kernel
theorem dX2_in_11 : decode cX2_in 11 = .ok (.goto 4, 3) := by decide +kernel
theorem dX2_in_14 : decode cX2_in 14 = .ok (.iconst 0, 1) := by decide +kernel
theorem dX2_in_15 : decode cX2_in 15 = .ok (.ireturn, 1) := by decide +kernel
set_option maxRecDepth 20000 in
theorem ggX2_isThing_X2_in : GoodIn wsX2_isThing wsX2_in := goodIn_r _ [5] (by decide +kernel) (by decide +kernel)
set_option maxRecDepth 20000 in
theorem gX2_isThing_X2_in : GoodIn wsX2_isThing (va_wsS RX2 49 yX2_in wsX2_in) := goodIn_app (goodIn_of _ (by decide +kernel)) ggX2_isThing_X2_in
theorem dX2_isThing_0 : decode cX2_isThing 0 = .ok (.aload_n 0, 1) := by decide +kernel
theorem dX2_isThing_1 : decode cX2_isThing 1 = .ok (.iload_n 1, 1) := by decide +kernel
theorem dX2_isThing_2 : decode cX2_isThing 2 = .ok (.iconst 0, 1) := by decide +kernel
theorem dX2_isThing_3 : decode cX2_isThing 3 = .ok (.bipush 31, 2) := by decide +kernel
theorem dX2_isThing_5 : decode cX2_isThing 5 = .ok (.invokestatic 49, 3) := by decide +kernel
theorem dX2_isThing_8 : decode cX2_isThing 8 = .ok (.ifCond .eq 7, 3) := by decide +kernel
theorem dX2_isThing_11 : decode cX2_isThing 11 = .ok (.iconst 0, 1) := by decide +kernel
theorem dX2_isThing_12 : decode cX2_isThing 12 = .ok (.goto 4, 3) := by decide +kernel
theorem dX2_isThing_15 : decode cX2_isThing 15 = .ok (.iconst 1, 1) := by decide +kernel
theorem dX2_isThing_16 : decode cX2_isThing 16 = .ok (.putfield 46, 3) := by decide +kernel
theorem dX2_isThing_19 : decode cX2_isThing 19 = .ok (.aload_n 0, 1) := by decide +kernel
theorem dX2_isThing_20 : decode cX2_isThing 20 = .ok (.getfield 46, 3) := by decide +kernel
theorem dX2_isThing_23 : decode cX2_isThing 23 = .ok (.ifCond .ne 7, 3) := by decide +kernel
theorem dX2_isThing_26 : decode cX2_isThing 26 = .ok (.iconst 1, 1) := by decide +kernel
theorem dX2_isThing_27 : decode cX2_isThing 27 = .ok (.goto 4, 3) := by decide +kernel
theorem dX2_isThing_30 : decode cX2_isThing 30 = .ok (.iconst 0, 1) := by decide +kernel
theorem dX2_isThing_31 : decode cX2_isThing 31 = .ok (.ireturn, 1) := by decide +kernel
theorem dX2_over_0 : decode cX2_over 0 = .ok (.aload_n 0, 1) := by decide +kernel
theorem dX2_over_1 : decode cX2_over 1 = .ok (.getfield 7, 3) := by decide +kernel
theorem dX2_over_4 : decode cX2_over 4 = .ok (.iload_n 1, 1) := by decide +kernel
theorem dX2_over_5 : decode cX2_over 5 = .ok (.baload, 1) := by decide +kernel
theorem dX2_over_6 : decode cX2_over 6 = .ok (.ifCond .eq 20, 3) := by decide +kernel
theorem dX2_over_9 : decode cX2_over 9 = .ok (.aload_n 0, 1) := by decide +kernel
theorem dX2_over_10 : decode cX2_over 10 = .ok (.getfield 53, 3) := by decide +kernel
theorem dX2_over_13 : decode cX2_over 13 = .ok (.aload_n 0, 1) := by decide +kernel
theorem dX2_over_14 : decode cX2_over 14 = .ok (.getfield 30, 3) := by decide +kernel
theorem dX2_over_17 : decode cX2_over 17 = .ok (.iload_n 1, 1) := by decide +kernel
theorem dX2_over_18 : decode cX2_over 18 = .ok (.iaload, 1) := by decide +kernel
theorem dX2_over_19 : decode cX2_over 19 = .ok (.if_icmp .lt 7, 3) := by decide +kernel
theorem dX2_over_22 : decode cX2_over 22 = .ok (.iconst 1, 1) := by decide +kernel
theorem dX2_over_23 : decode cX2_over 23 = .ok (.goto 4, 3) := by decide +kernel
theorem dX2_over_26 : decode cX2_over 26 = .ok (.iconst 0, 1) := by decide +kernel
theorem dX2_over_27 : decode cX2_over 27 = .ok (.ireturn, 1) := by decide +kernel
theorem dX2_usedBytes_0 : decode cX2_usedBytes 0 = .ok (.iconst 0, 1) := by decide +kernel
theorem dX2_usedBytes_1 : decode cX2_usedBytes 1 = .ok (.istore_n 1, 1) := by decide +kernel
theorem dX2_usedBytes_2 : decode cX2_usedBytes 2 = .ok (.iconst 0, 1) := by decide +kernel
theorem dX2_usedBytes_3 : decode cX2_usedBytes 3 = .ok (.istore_n 2, 1) := by decide +kernel
theorem dX2_usedBytes_4 : decode cX2_usedBytes 4 = .ok (.iload_n 2, 1) := by decide +kernel
theorem dX2_usedBytes_5 : decode cX2_usedBytes 5 = .ok (.bipush 32, 2) := by decide +kernel
theorem dX2_usedBytes_7 : decode cX2_usedBytes 7 = .ok (.if_icmp .ge 31, 3) := by decide +kernel
theorem dX2_usedBytes_10 : decode cX2_usedBytes 10 = .ok (.iload_n 1, 1) := by decide +kernel
theorem dX2_usedBytes_11 : decode cX2_usedBytes 11 = .ok (.aload_n 0, 1) := by decide +kernel
theorem dX2_usedBytes_12 : decode cX2_usedBytes 12 = .ok (.getfield 7, 3) := by decide +kernel
theorem dX2_usedBytes_15 : decode cX2_usedBytes 15 = .ok (.iload_n 2, 1) := by decide +kernel
theorem dX2_usedBytes_16 : decode cX2_usedBytes 16 = .ok (.baload, 1) := by decide +kernel
theorem dX2_usedBytes_17 : decode cX2_usedBytes 17 = .ok (.ifCond .eq 12, 3) := by decide +kernel
theorem dX2_usedBytes_20 : decode cX2_usedBytes 20 = .ok (.aload_n 0, 1) := by decide +kernel
theorem dX2_usedBytes_21 : decode cX2_usedBytes 21 = .ok (.getfield 16, 3) := by decide +kernel
theorem dX2_usedBytes_24 : decode cX2_usedBytes 24 = .ok (.iload_n 2, 1) := by decide +kernel
theorem dX2_usedBytes_25 : decode cX2_usedBytes 25 = .ok (.iaload, 1) := by decide +kernel
theorem dX2_usedBytes_26 : decode cX2_usedBytes 26 = .ok (.goto 4, 3) := by decide +kernel
theorem dX2_usedBytes_29 : decode cX2_usedBytes 29 = .ok (.iconst 0, 1) := by decide +kernel
theorem dX2_usedBytes_30 : decode cX2_usedBytes 30 = .ok (.iadd, 1) := by decide +kernel
theorem dX2_usedBytes_31 : decode cX2_usedBytes 31 = .ok (.istore_n 1, 1) := by decide +kernel
theorem dX2_usedBytes_32 : decode cX2_usedBytes 32 = .ok (.iinc 2 1, 3) := by decide +kernel
theorem dX2_usedBytes_35 : decode cX2_usedBytes 35 = .ok (.goto (-31), 3) := by decide +kernel
theorem dX2_usedBytes_38 : decode cX2_usedBytes 38 = .ok (.iload_n 1, 1) := by decide +kernel
theorem dX2_usedBytes_39 : decode cX2_usedBytes 39 = .ok (.ireturn, 1) := by decide +kernel
theorem dX2_isAhead_0 : decode cX2_isAhead 0 = .ok (.aload_n 0, 1) := by decide +kernel
theorem dX2_isAhead_1 : decode cX2_isAhead 1 = .ok (.getfield 26, 3) := by decide +kernel
theorem dX2_isAhead_4 : decode cX2_isAhead 4 = .ok (.iload_n 1, 1) := by decide +kernel
theorem dX2_isAhead_5 : decode cX2_isAhead 5 = .ok (.laload, 1) := by decide +kernel
theorem dX2_isAhead_6 : decode cX2_isAhead 6 = .ok (.aload_n 0, 1) := by decide +kernel
theorem dX2_isAhead_7 : decode cX2_isAhead 7 = .ok (.getfield 26, 3) := by decide +kernel
theorem dX2_isAhead_10 : decode cX2_isAhead 10 = .ok (.iload_n 2, 1) := by decide +kernel
theorem dX2_isAhead_11 : decode cX2_isAhead 11 = .ok (.laload, 1) := by decide +kernel
theorem dX2_isAhead_12 : decode cX2_isAhead 12 = .ok (.lcmp, 1) := by decide +kernel
theorem dX2_isAhead_13 : decode cX2_isAhead 13 = .ok (.ifCond .eq 27, 3) := by decide +kernel
theorem dX2_isAhead_16 : decode cX2_isAhead 16 = .ok (.aload_n 0, 1) := by decide +kernel
theorem dX2_isAhead_17 : decode cX2_isAhead 17 = .ok (.getfield 26, 3) := by decide +kernel
theorem dX2_isAhead_20 : decode cX2_isAhead 20 = .ok (.iload_n 1, 1) := by decide +kernel
theorem dX2_isAhead_21 : decode cX2_isAhead 21 = .ok (.laload, 1) := by decide +kernel
theorem dX2_isAhead_22 : decode cX2_isAhead 22 = .ok (.aload_n 0, 1) := by decide +kernel
theorem dX2_isAhead_23 : decode cX2_isAhead 23 = .ok (.getfield 26, 3) := by decide +kernel
theorem dX2_isAhead_26 : decode cX2_isAhead 26 = .ok (.iload_n 2, 1) := by decide +kernel
theorem dX2_isAhead_27 : decode cX2_isAhead 27 = .ok (.laload, 1) := by decide +kernel
theorem dX2_isAhead_28 : decode cX2_isAhead 28 = .ok (.lcmp, 1) := by decide +kernel
theorem dX2_isAhead_29 : decode cX2_isAhead 29 = .ok (.ifCond .ge 7, 3) := by decide +kernel
theorem dX2_isAhead_32 : decode cX2_isAhead 32 = .ok (.iconst 1, 1) := by decide +kernel
theorem dX2_isAhead_33 : decode cX2_isAhead 33 = .ok (.goto 28, 3) := by decide +kernel
theorem dX2_isAhead_36 : decode cX2_isAhead 36 = .ok (.iconst 0, 1) := by decide +kernel
theorem dX2_isAhead_37 : decode cX2_isAhead 37 = .ok (.goto 24, 3) := by decide +kernel
theorem dX2_isAhead_40 : decode cX2_isAhead 40 = .ok (.aload_n 0, 1) := by decide +kernel
theorem dX2_isAhead_41 : decode cX2_isAhead 41 = .ok (.getfield 33, 3) := by decide +kernel
theorem dX2_isAhead_44 : decode cX2_isAhead 44 = .ok (.iload_n 1, 1) := by decide +kernel
theorem dX2_isAhead_45 : decode cX2_isAhead 45 = .ok (.laload, 1) := by decide +kernel
theorem dX2_isAhead_46 : decode cX2_isAhead 46 = .ok (.aload_n 0, 1) := by decide +kernel
theorem dX2_isAhead_47 : decode cX2_isAhead 47 = .ok (.getfield 33, 3) := by decide +kernel
theorem dX2_isAhead_50 : decode cX2_isAhead 50 = .ok (.iload_n 2, 1) := by decide +kernel
theorem dX2_isAhead_51 : decode cX2_isAhead 51 = .ok (.laload, 1) := by decide +kernel
theorem dX2_isAhead_52 : decode cX2_isAhead 52 = .ok (.lcmp, 1) := by decide +kernel
theorem dX2_isAhead_53 : decode cX2_isAhead 53 = .ok (.ifCond .ge 7, 3) := by decide +kernel
theorem dX2_isAhead_56 : decode cX2_isAhead 56 = .ok (.iconst 1, 1) := by decide +kernel
theorem dX2_isAhead_57 : decode cX2_isAhead 57 = .ok (.goto 4, 3) := by decide +kernel
theorem dX2_isAhead_60 : decode cX2_isAhead 60 = .ok (.iconst 0, 1) := by decide +kernel
theorem dX2_isAhead_61 : decode cX2_isAhead 61 = .ok (.ireturn, 1) := by decide +kernel
set_option maxRecDepth 20000 in
theorem ggX2_place_X2_isAhead : GoodIn wsX2_place wsX2_isAhead := goodIn_r _ [7, 8, 9, 10, 11, 12, 13, 14, 15, 16, 17, 18, 19, 20, 21, 22, 23, 24, 25, 26, 27, 28, 29, 30, 31] (by decide +kernel) (by decide +kernel)
set_option maxRecDepth 20000 in
theorem gX2_place_X2_isAhead : GoodIn wsX2_place (wsV RX2 56 RX2 yX2_isAhead wsX2_isAhead) := goodIn_app (goodIn_of _ (by decide +kernel)) ggX2_place_X2_isAhead
theorem dX2_place_0 : decode cX2_place 0 = .ok (.aload_n 0, 1) := by decide +kernel
theorem dX2_place_1 : decode cX2_place 1 = .ok (.getfield 7, 3) := by decide +kernel
theorem dX2_place_4 : decode cX2_place 4 = .ok (.iload_n 1, 1) := by decide +kernel
theorem dX2_place_5 : decode cX2_place 5 = .ok (.baload, 1) := by decide +kernel
theorem dX2_place_6 : decode cX2_place 6 = .ok (.ifCond .eq 12, 3) := by decide +kernel
theorem dX2_place_9 : decode cX2_place 9 = .ok (.aload_n 0, 1) := by decide +kernel
theorem dX2_place_10 : decode cX2_place 10 = .ok (.getfield 13, 3) := by decide +kernel
theorem dX2_place_13 : decode cX2_place 13 = .ok (.iload_n 1, 1) := by decide +kernel
theorem dX2_place_14 : decode cX2_place 14 = .ok (.baload, 1) := by decide +kernel
theorem dX2_place_15 : decode cX2_place 15 = .ok (.ifCond .eq 5, 3) := by decide +kernel
theorem dX2_place_18 : decode cX2_place 18 = .ok (.iconst (-1), 1) := by decide +kernel
theorem dX2_place_19 : decode cX2_place 19 = .ok (.ireturn, 1) := by decide +kernel
theorem dX2_place_20 : decode cX2_place 20 = .ok (.iconst 0, 1) := by decide +kernel
theorem dX2_place_21 : decode cX2_place 21 = .ok (.istore_n 2, 1) := by decide +kernel
theorem dX2_place_22 : decode cX2_place 22 = .ok (.iconst 0, 1) := by decide +kernel
theorem dX2_place_23 : decode cX2_place 23 = .ok (.istore_n 3, 1) := by decide +kernel
theorem dX2_place_24 : decode cX2_place 24 = .ok (.iload_n 3, 1) := by decide +kernel
theorem dX2_place_25 : decode cX2_place 25 = .ok (.bipush 32, 2) := by decide +kernel
theorem dX2_place_27 : decode cX2_place 27 = .ok (.if_icmp .ge 49, 3) := by decide +kernel
theorem dX2_place_30 : decode cX2_place 30 = .ok (.iload_n 2, 1) := by decide +kernel
theorem dX2_place_31 : decode cX2_place 31 = .ok (.aload_n 0, 1) := by decide +kernel
theorem dX2_place_32 : decode cX2_place 32 = .ok (.getfield 7, 3) := by decide +kernel
theorem dX2_place_35 : decode cX2_place 35 = .ok (.iload_n 3, 1) := by decide +kernel
theorem dX2_place_36 : decode cX2_place 36 = .ok (.baload, 1) := by decide +kernel
theorem dX2_place_37 : decode cX2_place 37 = .ok (.ifCond .eq 30, 3) := by decide +kernel
theorem dX2_place_40 : decode cX2_place 40 = .ok (.aload_n 0, 1) := by decide +kernel
theorem dX2_place_41 : decode cX2_place 41 = .ok (.getfield 13, 3) := by decide +kernel
theorem dX2_place_44 : decode cX2_place 44 = .ok (.iload_n 3, 1) := by decide +kernel
theorem dX2_place_45 : decode cX2_place 45 = .ok (.baload, 1) := by decide +kernel
theorem dX2_place_46 : decode cX2_place 46 = .ok (.ifCond .ne 21, 3) := by decide +kernel
theorem dX2_place_49 : decode cX2_place 49 = .ok (.iload_n 3, 1) := by decide +kernel
theorem dX2_place_50 : decode cX2_place 50 = .ok (.iload_n 1, 1) := by decide +kernel
theorem dX2_place_51 : decode cX2_place 51 = .ok (.if_icmp .eq 16, 3) := by decide +kernel
theorem dX2_place_54 : decode cX2_place 54 = .ok (.aload_n 0, 1) := by decide +kernel
theorem dX2_place_55 : decode cX2_place 55 = .ok (.iload_n 3, 1) := by decide +kernel
theorem dX2_place_56 : decode cX2_place 56 = .ok (.iload_n 1, 1) := by decide +kernel
theorem dX2_place_57 : decode cX2_place 57 = .ok (.invokevirtual 56, 3) := by decide +kernel
theorem dX2_place_60 : decode cX2_place 60 = .ok (.ifCond .eq 7, 3) := by decide +kernel
theorem dX2_place_63 : decode cX2_place 63 = .ok (.iconst 1, 1) := by decide +kernel
theorem dX2_place_64 : decode cX2_place 64 = .ok (.goto 4, 3) := by decide +kernel
theorem dX2_place_67 : decode cX2_place 67 = .ok (.iconst 0, 1) := by decide +kernel
theorem dX2_place_68 : decode cX2_place 68 = .ok (.iadd, 1) := by decide +kernel
theorem dX2_place_69 : decode cX2_place 69 = .ok (.istore_n 2, 1) := by decide +kernel
theorem dX2_place_70 : decode cX2_place 70 = .ok (.iinc 3 1, 3) := by decide +kernel
theorem dX2_place_73 : decode cX2_place 73 = .ok (.goto (-49), 3) := by decide +kernel
theorem dX2_place_76 : decode cX2_place 76 = .ok (.iload_n 2, 1) := by decide +kernel
theorem dX2_place_77 : decode cX2_place 77 = .ok (.ireturn, 1) := by decide +kernel
set_option maxRecDepth 20000 in
theorem ggX2_at_X2_place : GoodIn wsX2_at wsX2_place := goodIn_r _ [5, 6, 7, 8, 9, 10, 4, 11, 12, 13, 14, 15, 16, 17, 18, 19, 20, 21, 22, 23, 24, 25, 26, 27, 28, 29, 30, 31, 32, 33, 34, 35] (by decide +kernel) (by decide +kernel)
set_option maxRecDepth 20000 in
theorem gX2_at_X2_place : GoodIn wsX2_at (wsV RX2 60 RX2 yX2_place wsX2_place) := goodIn_app (goodIn_of _ (by decide +kernel)) ggX2_at_X2_place
theorem dX2_at_0 : decode cX2_at 0 = .ok (.iconst 0, 1) := by decide +kernel
theorem dX2_at_1 : decode cX2_at 1 = .ok (.istore_n 2, 1) := by decide +kernel
theorem dX2_at_2 : decode cX2_at 2 = .ok (.iload_n 2, 1) := by decide +kernel
theorem dX2_at_3 : decode cX2_at 3 = .ok (.bipush 32, 2) := by decide +kernel
theorem dX2_at_5 : decode cX2_at 5 = .ok (.if_icmp .ge 20, 3) := by decide +kernel
theorem dX2_at_8 : decode cX2_at 8 = .ok (.aload_n 0, 1) := by decide +kernel
theorem dX2_at_9 : decode cX2_at 9 = .ok (.iload_n 2, 1) := by decide +kernel
theorem dX2_at_10 : decode cX2_at 10 = .ok (.invokevirtual 60, 3) := by decide +kernel
theorem dX2_at_13 : decode cX2_at 13 = .ok (.iload_n 1, 1) := by decide +kernel
theorem dX2_at_14 : decode cX2_at 14 = .ok (.if_icmp .ne 5, 3) := by decide +kernel
theorem dX2_at_17 : decode cX2_at 17 = .ok (.iload_n 2, 1) := by decide +kernel
theorem dX2_at_18 : decode cX2_at 18 = .ok (.ireturn, 1) := by decide +kernel
theorem dX2_at_19 : decode cX2_at 19 = .ok (.iinc 2 1, 3) := by decide +kernel
theorem dX2_at_22 : decode cX2_at 22 = .ok (.goto (-20), 3) := by decide +kernel
theorem dX2_at_25 : decode cX2_at 25 = .ok (.iconst (-1), 1) := by decide +kernel
theorem dX2_at_26 : decode cX2_at 26 = .ok (.ireturn, 1) := by decide +kernel
set_option maxRecDepth 20000 in
theorem ggX2_firstLeaves_X2_at : GoodIn wsX2_firstLeaves wsX2_at := goodIn_r _ [9, 10, 11, 12, 8, 13, 1, 14, 15, 16, 17, 18, 2, 19, 20, 21, 22, 23, 24, 25, 26, 27, 28, 29, 30, 31, 32, 33, 34, 35, 36, 37, 38, 39, 40, 41] (by decide +kernel) (by decide +kernel)
set_option maxRecDepth 20000 in
theorem gX2_firstLeaves_X2_at : GoodIn wsX2_firstLeaves (wsV RX2 64 RX2 yX2_at wsX2_at) := goodIn_app (goodIn_of _ (by decide +kernel)) ggX2_firstLeaves_X2_at
theorem dX2_firstLeaves_0 : decode cX2_firstLeaves 0 = .ok (.aload_n 0, 1) := by decide +kernel
theorem dX2_firstLeaves_1 : decode cX2_firstLeaves 1 = .ok (.iconst 0, 1) := by decide +kernel
theorem dX2_firstLeaves_2 : decode cX2_firstLeaves 2 = .ok (.invokevirtual 64, 3) := by decide +kernel
theorem dX2_firstLeaves_5 : decode cX2_firstLeaves 5 = .ok (.istore_n 1, 1) := by decide +kernel
theorem dX2_firstLeaves_6 : decode cX2_firstLeaves 6 = .ok (.aload_n 0, 1) := by decide +kernel
theorem dX2_firstLeaves_7 : decode cX2_firstLeaves 7 = .ok (.getfield 7, 3) := by decide +kernel
theorem dX2_firstLeaves_10 : decode cX2_firstLeaves 10 = .ok (.iload_n 1, 1) := by decide +kernel
theorem dX2_firstLeaves_11 : decode cX2_firstLeaves 11 = .ok (.iconst 0, 1) := by decide +kernel
theorem dX2_firstLeaves_12 : decode cX2_firstLeaves 12 = .ok (.bastore, 1) := by decide +kernel
theorem dX2_firstLeaves_13 : decode cX2_firstLeaves 13 = .ok (.aload_n 0, 1) := by decide +kernel
theorem dX2_firstLeaves_14 : decode cX2_firstLeaves 14 = .ok (.aload_n 0, 1) := by decide +kernel
theorem dX2_firstLeaves_15 : decode cX2_firstLeaves 15 = .ok (.getfield 26, 3) := by decide +kernel
theorem dX2_firstLeaves_18 : decode cX2_firstLeaves 18 = .ok (.iload_n 1, 1) := by decide +kernel
theorem dX2_firstLeaves_19 : decode cX2_firstLeaves 19 = .ok (.laload, 1) := by decide +kernel
theorem dX2_firstLeaves_20 : decode cX2_firstLeaves 20 = .ok (.aload_n 0, 1) := by decide +kernel
theorem dX2_firstLeaves_21 : decode cX2_firstLeaves 21 = .ok (.getfield 67, 3) := by decide +kernel
theorem dX2_firstLeaves_24 : decode cX2_firstLeaves 24 = .ok (.lcmp, 1) := by decide +kernel
theorem dX2_firstLeaves_25 : decode cX2_firstLeaves 25 = .ok (.ifCond .le 12, 3) := by decide +kernel
theorem dX2_firstLeaves_28 : decode cX2_firstLeaves 28 = .ok (.aload_n 0, 1) := by decide +kernel
theorem dX2_firstLeaves_29 : decode cX2_firstLeaves 29 = .ok (.getfield 26, 3) := by decide +kernel
theorem dX2_firstLeaves_32 : decode cX2_firstLeaves 32 = .ok (.iload_n 1, 1) := by decide +kernel
theorem dX2_firstLeaves_33 : decode cX2_firstLeaves 33 = .ok (.laload, 1) := by decide +kernel
theorem dX2_firstLeaves_34 : decode cX2_firstLeaves 34 = .ok (.goto 7, 3) := by decide +kernel
theorem dX2_firstLeaves_37 : decode cX2_firstLeaves 37 = .ok (.aload_n 0, 1) := by decide +kernel
theorem dX2_firstLeaves_38 : decode cX2_firstLeaves 38 = .ok (.getfield 67, 3) := by decide +kernel
theorem dX2_firstLeaves_41 : decode cX2_firstLeaves 41 = .ok (.putfield 67, 3) := by decide +kernel
theorem dX2_firstLeaves_44 : decode cX2_firstLeaves 44 = .ok (.aload_n 0, 1) := by decide +kernel
theorem dX2_firstLeaves_45 : decode cX2_firstLeaves 45 = .ok (.dup, 1) := by decide +kernel
theorem dX2_firstLeaves_46 : decode cX2_firstLeaves 46 = .ok (.getfield 71, 3) := by decide +kernel
theorem dX2_firstLeaves_49 : decode cX2_firstLeaves 49 = .ok (.iconst 1, 1) := by decide +kernel
theorem dX2_firstLeaves_50 : decode cX2_firstLeaves 50 = .ok (.iadd, 1) := by decide +kernel
theorem dX2_firstLeaves_51 : decode cX2_firstLeaves 51 = .ok (.putfield 71, 3) := by decide +kernel
theorem dX2_firstLeaves_54 : decode cX2_firstLeaves 54 = .ok (.return_, 1) := by decide +kernel
set_option maxRecDepth 20000 in
theorem ggX2_removeOver_X2_over : GoodIn wsX2_removeOver wsX2_over := goodIn_r _ [7, 1, 8, 9, 10, 11, 12, 13, 14, 15, 16, 17, 18, 19, 20, 21, 22, 23, 24, 25, 26, 27, 28, 29, 30, 31] (by decide +kernel) (by decide +kernel)
set_option maxRecDepth 20000 in
theorem gX2_removeOver_X2_over : GoodIn wsX2_removeOver (wsV RX2 74 RX2 yX2_over wsX2_over) := goodIn_app (goodIn_of _ (by decide +kernel)) ggX2_removeOver_X2_over
theorem dX2_removeOver_0 : decode cX2_removeOver 0 = .ok (.iconst 0, 1) := by decide +kernel
theorem dX2_removeOver_1 : decode cX2_removeOver 1 = .ok (.istore_n 1, 1) := by decide +kernel
theorem dX2_removeOver_2 : decode cX2_removeOver 2 = .ok (.iconst 0, 1) := by decide +kernel
theorem dX2_removeOver_3 : decode cX2_removeOver 3 = .ok (.istore_n 2, 1) := by decide +kernel
theorem dX2_removeOver_4 : decode cX2_removeOver 4 = .ok (.iload_n 2, 1) := by decide +kernel
theorem dX2_removeOver_5 : decode cX2_removeOver 5 = .ok (.bipush 32, 2) := by decide +kernel
theorem dX2_removeOver_7 : decode cX2_removeOver 7 = .ok (.if_icmp .ge 27, 3) := by decide +kernel
theorem dX2_removeOver_10 : decode cX2_removeOver 10 = .ok (.aload_n 0, 1) := by decide +kernel
theorem dX2_removeOver_11 : decode cX2_removeOver 11 = .ok (.iload_n 2, 1) := by decide +kernel
theorem dX2_removeOver_12 : decode cX2_removeOver 12 = .ok (.invokevirtual 74, 3) := by decide +kernel
theorem dX2_removeOver_15 : decode cX2_removeOver 15 = .ok (.ifCond .eq 13, 3) := by decide +kernel
theorem dX2_removeOver_18 : decode cX2_removeOver 18 = .ok (.aload_n 0, 1) := by decide +kernel
theorem dX2_removeOver_19 : decode cX2_removeOver 19 = .ok (.getfield 7, 3) := by decide +kernel
theorem dX2_removeOver_22 : decode cX2_removeOver 22 = .ok (.iload_n 2, 1) := by decide +kernel
theorem dX2_removeOver_23 : decode cX2_removeOver 23 = .ok (.iconst 0, 1) := by decide +kernel
theorem dX2_removeOver_24 : decode cX2_removeOver 24 = .ok (.bastore, 1) := by decide +kernel
theorem dX2_removeOver_25 : decode cX2_removeOver 25 = .ok (.iinc 1 1, 3) := by decide +kernel
theorem dX2_removeOver_28 : decode cX2_removeOver 28 = .ok (.iinc 2 1, 3) := by decide +kernel
theorem dX2_removeOver_31 : decode cX2_removeOver 31 = .ok (.goto (-27), 3) := by decide +kernel
theorem dX2_removeOver_34 : decode cX2_removeOver 34 = .ok (.aload_n 0, 1) := by decide +kernel
theorem dX2_removeOver_35 : decode cX2_removeOver 35 = .ok (.dup, 1) := by decide +kernel
theorem dX2_removeOver_36 : decode cX2_removeOver 36 = .ok (.getfield 78, 3) := by decide +kernel
theorem dX2_removeOver_39 : decode cX2_removeOver 39 = .ok (.iload_n 1, 1) := by decide +kernel
theorem dX2_removeOver_40 : decode cX2_removeOver 40 = .ok (.iadd, 1) := by decide +kernel
theorem dX2_removeOver_41 : decode cX2_removeOver 41 = .ok (.putfield 78, 3) := by decide +kernel
theorem dX2_removeOver_44 : decode cX2_removeOver 44 = .ok (.iload_n 1, 1) := by decide +kernel
theorem dX2_removeOver_45 : decode cX2_removeOver 45 = .ok (.ireturn, 1) := by decide +kernel
theorem dX2_setWorth_0 : decode cX2_setWorth 0 = .ok (.aload_n 0, 1) := by decide +kernel
theorem dX2_setWorth_1 : decode cX2_setWorth 1 = .ok (.getfield 26, 3) := by decide +kernel
theorem dX2_setWorth_4 : decode cX2_setWorth 4 = .ok (.iload_n 1, 1) := by decide +kernel
theorem dX2_setWorth_5 : decode cX2_setWorth 5 = .ok (.aload_n 0, 1) := by decide +kernel
theorem dX2_setWorth_6 : decode cX2_setWorth 6 = .ok (.getfield 67, 3) := by decide +kernel
theorem dX2_setWorth_9 : decode cX2_setWorth 9 = .ok (.ldc2_w 81, 3) := by decide +kernel
theorem dX2_setWorth_12 : decode cX2_setWorth 12 = .ok (.aload_n 0, 1) := by decide +kernel
theorem dX2_setWorth_13 : decode cX2_setWorth 13 = .ok (.getfield 23, 3) := by decide +kernel
theorem dX2_setWorth_16 : decode cX2_setWorth 16 = .ok (.iload_n 1, 1) := by decide +kernel
theorem dX2_setWorth_17 : decode cX2_setWorth 17 = .ok (.iaload, 1) := by decide +kernel
theorem dX2_setWorth_18 : decode cX2_setWorth 18 = .ok (.i2l, 1) := by decide +kernel
theorem dX2_setWorth_19 : decode cX2_setWorth 19 = .ok (.lmul, 1) := by decide +kernel
theorem dX2_setWorth_20 : decode cX2_setWorth 20 = .ok (.aload_n 0, 1) := by decide +kernel
theorem dX2_setWorth_21 : decode cX2_setWorth 21 = .ok (.getfield 20, 3) := by decide +kernel
theorem dX2_setWorth_24 : decode cX2_setWorth 24 = .ok (.iload_n 1, 1) := by decide +kernel
theorem dX2_setWorth_25 : decode cX2_setWorth 25 = .ok (.iaload, 1) := by decide +kernel
theorem dX2_setWorth_26 : decode cX2_setWorth 26 = .ok (.i2l, 1) := by decide +kernel
theorem dX2_setWorth_27 : decode cX2_setWorth 27 = .ok (.lmul, 1) := by decide +kernel
theorem dX2_setWorth_28 : decode cX2_setWorth 28 = .ok (.aload_n 0, 1) := by decide +kernel
theorem dX2_setWorth_29 : decode cX2_setWorth 29 = .ok (.getfield 16, 3) := by decide +kernel
theorem dX2_setWorth_32 : decode cX2_setWorth 32 = .ok (.iload_n 1, 1) := by decide +kernel
theorem dX2_setWorth_33 : decode cX2_setWorth 33 = .ok (.iaload, 1) := by decide +kernel
theorem dX2_setWorth_34 : decode cX2_setWorth 34 = .ok (.i2l, 1) := by decide +kernel
theorem dX2_setWorth_35 : decode cX2_setWorth 35 = .ok (.ldiv, 1) := by decide +kernel
theorem dX2_setWorth_36 : decode cX2_setWorth 36 = .ok (.ladd, 1) := by decide +kernel
theorem dX2_setWorth_37 : decode cX2_setWorth 37 = .ok (.lastore, 1) := by decide +kernel
theorem dX2_setWorth_38 : decode cX2_setWorth 38 = .ok (.aload_n 0, 1) := by decide +kernel
theorem dX2_setWorth_39 : decode cX2_setWorth 39 = .ok (.dup, 1) := by decide +kernel
theorem dX2_setWorth_40 : decode cX2_setWorth 40 = .ok (.getfield 83, 3) := by decide +kernel
theorem dX2_setWorth_43 : decode cX2_setWorth 43 = .ok (.lconst 1, 1) := by decide +kernel
theorem dX2_setWorth_44 : decode cX2_setWorth 44 = .ok (.ladd, 1) := by decide +kernel
theorem dX2_setWorth_45 : decode cX2_setWorth 45 = .ok (.putfield 83, 3) := by decide +kernel
theorem dX2_setWorth_48 : decode cX2_setWorth 48 = .ok (.aload_n 0, 1) := by decide +kernel
theorem dX2_setWorth_49 : decode cX2_setWorth 49 = .ok (.getfield 33, 3) := by decide +kernel
theorem dX2_setWorth_52 : decode cX2_setWorth 52 = .ok (.iload_n 1, 1) := by decide +kernel
theorem dX2_setWorth_53 : decode cX2_setWorth 53 = .ok (.aload_n 0, 1) := by decide +kernel
theorem dX2_setWorth_54 : decode cX2_setWorth 54 = .ok (.getfield 83, 3) := by decide +kernel
theorem dX2_setWorth_57 : decode cX2_setWorth 57 = .ok (.lastore, 1) := by decide +kernel
theorem dX2_setWorth_58 : decode cX2_setWorth 58 = .ok (.return_, 1) := by decide +kernel
set_option maxRecDepth 20000 in
theorem ggX2_pinnedBytes_X2_over : GoodIn wsX2_pinnedBytes wsX2_over := goodIn_r _ [8, 1, 9, 10, 11, 12, 13, 14, 15, 16, 17, 18, 19, 20, 21, 22, 23, 24, 25, 26, 27, 28, 29, 30, 31, 32] (by decide +kernel) (by decide +kernel)
set_option maxRecDepth 20000 in
theorem gX2_pinnedBytes_X2_over : GoodIn wsX2_pinnedBytes (wsV RX2 74 RX2 yX2_over wsX2_over) := goodIn_app (goodIn_of _ (by decide +kernel)) ggX2_pinnedBytes_X2_over
theorem dX2_pinnedBytes_0 : decode cX2_pinnedBytes 0 = .ok (.iconst 0, 1) := by decide +kernel
theorem dX2_pinnedBytes_1 : decode cX2_pinnedBytes 1 = .ok (.istore_n 2, 1) := by decide +kernel
theorem dX2_pinnedBytes_2 : decode cX2_pinnedBytes 2 = .ok (.iconst 0, 1) := by decide +kernel
theorem dX2_pinnedBytes_3 : decode cX2_pinnedBytes 3 = .ok (.istore_n 3, 1) := by decide +kernel
theorem dX2_pinnedBytes_4 : decode cX2_pinnedBytes 4 = .ok (.iload_n 3, 1) := by decide +kernel
theorem dX2_pinnedBytes_5 : decode cX2_pinnedBytes 5 = .ok (.bipush 32, 2) := by decide +kernel
theorem dX2_pinnedBytes_7 : decode cX2_pinnedBytes 7 = .ok (.if_icmp .ge 52, 3) := by decide +kernel
theorem dX2_pinnedBytes_10 : decode cX2_pinnedBytes 10 = .ok (.iload_n 2, 1) := by decide +kernel
theorem dX2_pinnedBytes_11 : decode cX2_pinnedBytes 11 = .ok (.aload_n 0, 1) := by decide +kernel
theorem dX2_pinnedBytes_12 : decode cX2_pinnedBytes 12 = .ok (.getfield 7, 3) := by decide +kernel
theorem dX2_pinnedBytes_15 : decode cX2_pinnedBytes 15 = .ok (.iload_n 3, 1) := by decide +kernel
theorem dX2_pinnedBytes_16 : decode cX2_pinnedBytes 16 = .ok (.baload, 1) := by decide +kernel
theorem dX2_pinnedBytes_17 : decode cX2_pinnedBytes 17 = .ok (.ifCond .eq 33, 3) := by decide +kernel
theorem dX2_pinnedBytes_20 : decode cX2_pinnedBytes 20 = .ok (.aload_n 0, 1) := by decide +kernel
theorem dX2_pinnedBytes_21 : decode cX2_pinnedBytes 21 = .ok (.getfield 13, 3) := by decide +kernel
theorem dX2_pinnedBytes_24 : decode cX2_pinnedBytes 24 = .ok (.iload_n 3, 1) := by decide +kernel
theorem dX2_pinnedBytes_25 : decode cX2_pinnedBytes 25 = .ok (.baload, 1) := by decide +kernel
theorem dX2_pinnedBytes_26 : decode cX2_pinnedBytes 26 = .ok (.ifCond .eq 24, 3) := by decide +kernel
theorem dX2_pinnedBytes_29 : decode cX2_pinnedBytes 29 = .ok (.iload_n 1, 1) := by decide +kernel
theorem dX2_pinnedBytes_30 : decode cX2_pinnedBytes 30 = .ok (.ifCond .ne 11, 3) := by decide +kernel
theorem dX2_pinnedBytes_33 : decode cX2_pinnedBytes 33 = .ok (.aload_n 0, 1) := by decide +kernel
theorem dX2_pinnedBytes_34 : decode cX2_pinnedBytes 34 = .ok (.iload_n 3, 1) := by decide +kernel
theorem dX2_pinnedBytes_35 : decode cX2_pinnedBytes 35 = .ok (.invokevirtual 74, 3) := by decide +kernel
theorem dX2_pinnedBytes_38 : decode cX2_pinnedBytes 38 = .ok (.ifCond .ne 12, 3) := by decide +kernel
theorem dX2_pinnedBytes_41 : decode cX2_pinnedBytes 41 = .ok (.aload_n 0, 1) := by decide +kernel
theorem dX2_pinnedBytes_42 : decode cX2_pinnedBytes 42 = .ok (.getfield 16, 3) := by decide +kernel
theorem dX2_pinnedBytes_45 : decode cX2_pinnedBytes 45 = .ok (.iload_n 3, 1) := by decide +kernel
theorem dX2_pinnedBytes_46 : decode cX2_pinnedBytes 46 = .ok (.iaload, 1) := by decide +kernel
theorem dX2_pinnedBytes_47 : decode cX2_pinnedBytes 47 = .ok (.goto 4, 3) := by decide +kernel
theorem dX2_pinnedBytes_50 : decode cX2_pinnedBytes 50 = .ok (.iconst 0, 1) := by decide +kernel
theorem dX2_pinnedBytes_51 : decode cX2_pinnedBytes 51 = .ok (.iadd, 1) := by decide +kernel
theorem dX2_pinnedBytes_52 : decode cX2_pinnedBytes 52 = .ok (.istore_n 2, 1) := by decide +kernel
theorem dX2_pinnedBytes_53 : decode cX2_pinnedBytes 53 = .ok (.iinc 3 1, 3) := by decide +kernel
theorem dX2_pinnedBytes_56 : decode cX2_pinnedBytes 56 = .ok (.goto (-52), 3) := by decide +kernel
theorem dX2_pinnedBytes_59 : decode cX2_pinnedBytes 59 = .ok (.iload_n 2, 1) := by decide +kernel
theorem dX2_pinnedBytes_60 : decode cX2_pinnedBytes 60 = .ok (.ireturn, 1) := by decide +kernel
set_option maxRecDepth 20000 in
theorem ggX2_makesRoom_X2_usedBytes : GoodIn wsX2_makesRoom wsX2_usedBytes := goodIn_r _ [6, 7, 8, 45, 46, 47, 48, 49, 50, 51, 52, 53, 54, 55, 56, 57, 58, 59, 60, 61, 62, 63, 64, 65, 66] (by decide +kernel) (by decide +kernel)
set_option maxRecDepth 20000 in
theorem gX2_makesRoom_X2_usedBytes : GoodIn wsX2_makesRoom (wsV RX2 86 RX2 yX2_usedBytes wsX2_usedBytes) := goodIn_app (goodIn_of _ (by decide +kernel)) ggX2_makesRoom_X2_usedBytes
set_option maxRecDepth 20000 in
theorem ggX2_makesRoom_X2_removeOver : GoodIn wsX2_makesRoom wsX2_removeOver := goodIn_r _ [12, 7, 13, 14, 15, 16, 5, 17, 18, 19, 45, 46, 47, 48, 49, 50, 51, 52, 53, 54, 55, 56, 57, 58, 59, 60, 61, 62, 63, 64, 65, 66] (by decide +kernel) (by decide +kernel)
set_option maxRecDepth 20000 in
theorem gX2_makesRoom_X2_removeOver : GoodIn wsX2_makesRoom (wsV RX2 90 RX2 yX2_removeOver wsX2_removeOver) := goodIn_app (goodIn_of _ (by decide +kernel)) ggX2_makesRoom_X2_removeOver
set_option maxRecDepth 20000 in
theorem ggX2_makesRoom_X2_pinnedBytes : GoodIn wsX2_makesRoom wsX2_pinnedBytes := goodIn_r _ [23, 7, 24, 8, 14, 15, 16, 5, 17, 18, 19, 45, 46, 47, 48, 49, 50, 51, 52, 53, 54, 55, 56, 57, 58, 59, 60, 61, 62, 63, 64, 65, 66] (by decide +kernel) (by decide +kernel)
set_option maxRecDepth 20000 in
theorem gX2_makesRoom_X2_pinnedBytes : GoodIn wsX2_makesRoom (wsV RX2 93 RX2 yX2_pinnedBytes wsX2_pinnedBytes) := goodIn_app (goodIn_of _ (by decide +kernel)) ggX2_makesRoom_X2_pinnedBytes
set_option maxRecDepth 20000 in
theorem ggX2_makesRoom_X2_firstLeaves : GoodIn wsX2_makesRoom wsX2_firstLeaves := goodIn_r _ [28, 7, 29, 30, 31, 32, 33, 34, 5, 35, 36, 37, 38, 39, 24, 40, 41, 42, 43, 44, 45, 46, 47, 48, 49, 50, 51, 52, 53, 54, 55, 56, 57, 58, 59, 60, 61, 62, 63, 64, 65, 66] (by decide +kernel) (by decide +kernel)
set_option maxRecDepth 20000 in
theorem gX2_makesRoom_X2_firstLeaves : GoodIn wsX2_makesRoom (wsV RX2 97 RX2 yX2_firstLeaves wsX2_firstLeaves) := goodIn_app (goodIn_of _ (by decide +kernel)) ggX2_makesRoom_X2_firstLeaves
theorem dX2_makesRoom_0 : decode cX2_makesRoom 0 = .ok (.aload_n 0, 1) := by decide +kernel
theorem dX2_makesRoom_1 : decode cX2_makesRoom 1 = .ok (.invokevirtual 86, 3) := by decide +kernel
theorem dX2_makesRoom_4 : decode cX2_makesRoom 4 = .ok (.iload_n 1, 1) := by decide +kernel
theorem dX2_makesRoom_5 : decode cX2_makesRoom 5 = .ok (.iadd, 1) := by decide +kernel
theorem dX2_makesRoom_6 : decode cX2_makesRoom 6 = .ok (.aload_n 0, 1) := by decide +kernel
theorem dX2_makesRoom_7 : decode cX2_makesRoom 7 = .ok (.getfield 39, 3) := by decide +kernel
theorem dX2_makesRoom_10 : decode cX2_makesRoom 10 = .ok (.if_icmp .le 8, 3) := by decide +kernel
theorem dX2_makesRoom_13 : decode cX2_makesRoom 13 = .ok (.aload_n 0, 1) := by decide +kernel
theorem dX2_makesRoom_14 : decode cX2_makesRoom 14 = .ok (.invokevirtual 90, 3) := by decide +kernel
theorem dX2_makesRoom_17 : decode cX2_makesRoom 17 = .ok (.istore_n 2, 1) := by decide +kernel
theorem dX2_makesRoom_18 : decode cX2_makesRoom 18 = .ok (.aload_n 0, 1) := by decide +kernel
theorem dX2_makesRoom_19 : decode cX2_makesRoom 19 = .ok (.iconst 1, 1) := by decide +kernel
theorem dX2_makesRoom_20 : decode cX2_makesRoom 20 = .ok (.invokevirtual 93, 3) := by decide +kernel
theorem dX2_makesRoom_23 : decode cX2_makesRoom 23 = .ok (.iload_n 1, 1) := by decide +kernel
theorem dX2_makesRoom_24 : decode cX2_makesRoom 24 = .ok (.iadd, 1) := by decide +kernel
theorem dX2_makesRoom_25 : decode cX2_makesRoom 25 = .ok (.aload_n 0, 1) := by decide +kernel
theorem dX2_makesRoom_26 : decode cX2_makesRoom 26 = .ok (.getfield 39, 3) := by decide +kernel
theorem dX2_makesRoom_29 : decode cX2_makesRoom 29 = .ok (.if_icmp .le 5, 3) := by decide +kernel
theorem dX2_makesRoom_32 : decode cX2_makesRoom 32 = .ok (.iconst 0, 1) := by decide +kernel
theorem dX2_makesRoom_33 : decode cX2_makesRoom 33 = .ok (.ireturn, 1) := by decide +kernel
theorem dX2_makesRoom_34 : decode cX2_makesRoom 34 = .ok (.aload_n 0, 1) := by decide +kernel
theorem dX2_makesRoom_35 : decode cX2_makesRoom 35 = .ok (.invokevirtual 86, 3) := by decide +kernel
theorem dX2_makesRoom_38 : decode cX2_makesRoom 38 = .ok (.iload_n 1, 1) := by decide +kernel
theorem dX2_makesRoom_39 : decode cX2_makesRoom 39 = .ok (.iadd, 1) := by decide +kernel
theorem dX2_makesRoom_40 : decode cX2_makesRoom 40 = .ok (.aload_n 0, 1) := by decide +kernel
theorem dX2_makesRoom_41 : decode cX2_makesRoom 41 = .ok (.getfield 39, 3) := by decide +kernel
theorem dX2_makesRoom_44 : decode cX2_makesRoom 44 = .ok (.if_icmp .le 10, 3) := by decide +kernel
theorem dX2_makesRoom_47 : decode cX2_makesRoom 47 = .ok (.aload_n 0, 1) := by decide +kernel
theorem dX2_makesRoom_48 : decode cX2_makesRoom 48 = .ok (.invokevirtual 97, 3) := by decide +kernel
theorem dX2_makesRoom_51 : decode cX2_makesRoom 51 = .ok (.goto (-17), 3) := by decide +kernel
theorem dX2_makesRoom_54 : decode cX2_makesRoom 54 = .ok (.iconst 1, 1) := by decide +kernel
theorem dX2_makesRoom_55 : decode cX2_makesRoom 55 = .ok (.ireturn, 1) := by decide +kernel
set_option maxRecDepth 20000 in
theorem ggX2_fetch_X2_isThing : GoodIn wsX2_fetch wsX2_isThing := goodIn_r _ [22, 1, 23, 24, 21, 25, 72, 73, 74, 75, 76, 77, 78, 79, 80, 81, 82, 83, 84, 85, 86, 87, 88, 89, 90, 91, 92, 93] (by decide +kernel) (by decide +kernel)
set_option maxRecDepth 20000 in
theorem gX2_fetch_X2_isThing : GoodIn wsX2_fetch (wsV RX2 100 RX2 yX2_isThing wsX2_isThing) := goodIn_app (goodIn_of _ (by decide +kernel)) ggX2_fetch_X2_isThing
set_option maxRecDepth 20000 in
theorem ggX2_fetch_X2_in : GoodIn wsX2_fetch wsX2_in := goodIn_r _ [25] (by decide +kernel) (by decide +kernel)
set_option maxRecDepth 20000 in
theorem gX2_fetch_X2_in : GoodIn wsX2_fetch (va_wsS RX2 49 yX2_in wsX2_in) := goodIn_app (goodIn_of _ (by decide +kernel)) ggX2_fetch_X2_in
set_option maxRecDepth 20000 in
theorem ggX2_fetch_X2_over : GoodIn wsX2_fetch wsX2_over := goodIn_r _ [29, 2, 10, 17, 72, 73, 74, 75, 76, 77, 78, 79, 80, 81, 82, 83, 84, 85, 86, 87, 88, 89, 90, 91, 92, 93] (by decide +kernel) (by decide +kernel)
set_option maxRecDepth 20000 in
theorem gX2_fetch_X2_over : GoodIn wsX2_fetch (wsV RX2 74 RX2 yX2_over wsX2_over) := goodIn_app (goodIn_of _ (by decide +kernel)) ggX2_fetch_X2_over
set_option maxRecDepth 20000 in
theorem ggX2_fetch_X2_setWorth : GoodIn wsX2_fetch wsX2_setWorth := goodIn_r _ [33, 34, 35, 36, 4, 5, 3, 37, 38, 72, 73, 74, 75, 76, 77, 78, 79, 80, 81, 82, 83, 84, 85, 86, 87, 88, 89, 90, 91, 92, 93] (by decide +kernel) (by decide +kernel)
set_option maxRecDepth 20000 in
theorem gX2_fetch_X2_setWorth : GoodIn wsX2_fetch (wsV RX2 103 RX2 yX2_setWorth wsX2_setWorth) := goodIn_app (goodIn_of _ (by decide +kernel)) ggX2_fetch_X2_setWorth
set_option maxRecDepth 20000 in
theorem ggX2_fetch_X2_makesRoom : GoodIn wsX2_fetch wsX2_makesRoom := goodIn_r _ [42, 14, 43, 44, 45, 21, 46, 2, 3, 47, 48, 49, 50, 13, 26, 27, 28, 29, 10, 17, 51, 52, 53, 54, 16, 55, 56, 57, 58, 34, 35, 59, 60, 61, 62, 63, 64, 65, 66, 67, 68, 69, 70, 71, 38, 72, 73, 74, 75, 76, 77, 78, 79, 80, 81, 82, 83, 84, 85, 86, 87, 88, 89, 90, 91, 92, 93] (by decide +kernel) (by decide +kernel)
set_option maxRecDepth 20000 in
theorem gX2_fetch_X2_makesRoom : GoodIn wsX2_fetch (wsV RX2 122 RX2 yX2_makesRoom wsX2_makesRoom) := goodIn_app (goodIn_of _ (by decide +kernel)) ggX2_fetch_X2_makesRoom
theorem dX2_fetch_0 : decode cX2_fetch 0 = .ok (.aload_n 0, 1) := by decide +kernel
theorem dX2_fetch_1 : decode cX2_fetch 1 = .ok (.iload_n 1, 1) := by decide +kernel
theorem dX2_fetch_2 : decode cX2_fetch 2 = .ok (.invokevirtual 100, 3) := by decide +kernel
theorem dX2_fetch_5 : decode cX2_fetch 5 = .ok (.ifCond .ne 5, 3) := by decide +kernel
theorem dX2_fetch_8 : decode cX2_fetch 8 = .ok (.iconst 0, 1) := by decide +kernel
theorem dX2_fetch_9 : decode cX2_fetch 9 = .ok (.ireturn, 1) := by decide +kernel
theorem dX2_fetch_10 : decode cX2_fetch 10 = .ok (.aload_n 0, 1) := by decide +kernel
theorem dX2_fetch_11 : decode cX2_fetch 11 = .ok (.iload_n 2, 1) := by decide +kernel
theorem dX2_fetch_12 : decode cX2_fetch 12 = .ok (.iconst 1, 1) := by decide +kernel
theorem dX2_fetch_13 : decode cX2_fetch 13 = .ok (.sipush 1000, 3) := by decide +kernel
theorem dX2_fetch_16 : decode cX2_fetch 16 = .ok (.invokestatic 49, 3) := by decide +kernel
theorem dX2_fetch_19 : decode cX2_fetch 19 = .ok (.ifCond .eq 30, 3) := by decide +kernel
theorem dX2_fetch_22 : decode cX2_fetch 22 = .ok (.iload_n 3, 1) := by decide +kernel
theorem dX2_fetch_23 : decode cX2_fetch 23 = .ok (.iconst 0, 1) := by decide +kernel
theorem dX2_fetch_24 : decode cX2_fetch 24 = .ok (.sipush 1000, 3) := by decide +kernel
theorem dX2_fetch_27 : decode cX2_fetch 27 = .ok (.invokestatic 49, 3) := by decide +kernel
theorem dX2_fetch_30 : decode cX2_fetch 30 = .ok (.ifCond .eq 19, 3) := by decide +kernel
theorem dX2_fetch_33 : decode cX2_fetch 33 = .ok (.iload 4, 2) := by decide +kernel
theorem dX2_fetch_35 : decode cX2_fetch 35 = .ok (.iconst 1, 1) := by decide +kernel
theorem dX2_fetch_36 : decode cX2_fetch 36 = .ok (.sipush 10000, 3) := by decide +kernel
theorem dX2_fetch_39 : decode cX2_fetch 39 = .ok (.invokestatic 49, 3) := by decide +kernel
theorem dX2_fetch_42 : decode cX2_fetch 42 = .ok (.ifCond .eq 7, 3) := by decide +kernel
theorem dX2_fetch_45 : decode cX2_fetch 45 = .ok (.iconst 0, 1) := by decide +kernel
theorem dX2_fetch_46 : decode cX2_fetch 46 = .ok (.goto 4, 3) := by decide +kernel
theorem dX2_fetch_49 : decode cX2_fetch 49 = .ok (.iconst 2, 1) := by decide +kernel
theorem dX2_fetch_50 : decode cX2_fetch 50 = .ok (.putfield 46, 3) := by decide +kernel
theorem dX2_fetch_53 : decode cX2_fetch 53 = .ok (.aload_n 0, 1) := by decide +kernel
theorem dX2_fetch_54 : decode cX2_fetch 54 = .ok (.getfield 46, 3) := by decide +kernel
theorem dX2_fetch_57 : decode cX2_fetch 57 = .ok (.ifCond .le 5, 3) := by decide +kernel
theorem dX2_fetch_60 : decode cX2_fetch 60 = .ok (.iconst 0, 1) := by decide +kernel
theorem dX2_fetch_61 : decode cX2_fetch 61 = .ok (.ireturn, 1) := by decide +kernel
theorem dX2_fetch_62 : decode cX2_fetch 62 = .ok (.aload_n 0, 1) := by decide +kernel
theorem dX2_fetch_63 : decode cX2_fetch 63 = .ok (.getfield 7, 3) := by decide +kernel
theorem dX2_fetch_66 : decode cX2_fetch 66 = .ok (.iload_n 1, 1) := by decide +kernel
theorem dX2_fetch_67 : decode cX2_fetch 67 = .ok (.baload, 1) := by decide +kernel
theorem dX2_fetch_68 : decode cX2_fetch 68 = .ok (.ifCond .eq 77, 3) := by decide +kernel
theorem dX2_fetch_71 : decode cX2_fetch 71 = .ok (.aload_n 0, 1) := by decide +kernel
theorem dX2_fetch_72 : decode cX2_fetch 72 = .ok (.iload_n 1, 1) := by decide +kernel
theorem dX2_fetch_73 : decode cX2_fetch 73 = .ok (.invokevirtual 74, 3) := by decide +kernel
theorem dX2_fetch_76 : decode cX2_fetch 76 = .ok (.ifCond .ne 69, 3) := by decide +kernel
theorem dX2_fetch_79 : decode cX2_fetch 79 = .ok (.aload_n 0, 1) := by decide +kernel
theorem dX2_fetch_80 : decode cX2_fetch 80 = .ok (.getfield 16, 3) := by decide +kernel
theorem dX2_fetch_83 : decode cX2_fetch 83 = .ok (.iload_n 1, 1) := by decide +kernel
theorem dX2_fetch_84 : decode cX2_fetch 84 = .ok (.iaload, 1) := by decide +kernel
theorem dX2_fetch_85 : decode cX2_fetch 85 = .ok (.iload_n 2, 1) := by decide +kernel
theorem dX2_fetch_86 : decode cX2_fetch 86 = .ok (.if_icmp .ne 59, 3) := by decide +kernel
theorem dX2_fetch_89 : decode cX2_fetch 89 = .ok (.aload_n 0, 1) := by decide +kernel
theorem dX2_fetch_90 : decode cX2_fetch 90 = .ok (.getfield 23, 3) := by decide +kernel
theorem dX2_fetch_93 : decode cX2_fetch 93 = .ok (.iload_n 1, 1) := by decide +kernel
theorem dX2_fetch_94 : decode cX2_fetch 94 = .ok (.dup2, 1) := by decide +kernel
theorem dX2_fetch_95 : decode cX2_fetch 95 = .ok (.iaload, 1) := by decide +kernel
theorem dX2_fetch_96 : decode cX2_fetch 96 = .ok (.iconst 1, 1) := by decide +kernel
theorem dX2_fetch_97 : decode cX2_fetch 97 = .ok (.iadd, 1) := by decide +kernel
theorem dX2_fetch_98 : decode cX2_fetch 98 = .ok (.iastore, 1) := by decide +kernel
theorem dX2_fetch_99 : decode cX2_fetch 99 = .ok (.aload_n 0, 1) := by decide +kernel
theorem dX2_fetch_100 : decode cX2_fetch 100 = .ok (.getfield 20, 3) := by decide +kernel
theorem dX2_fetch_103 : decode cX2_fetch 103 = .ok (.iload_n 1, 1) := by decide +kernel
theorem dX2_fetch_104 : decode cX2_fetch 104 = .ok (.iload_n 3, 1) := by decide +kernel
theorem dX2_fetch_105 : decode cX2_fetch 105 = .ok (.iastore, 1) := by decide +kernel
theorem dX2_fetch_106 : decode cX2_fetch 106 = .ok (.aload_n 0, 1) := by decide +kernel
theorem dX2_fetch_107 : decode cX2_fetch 107 = .ok (.iload_n 1, 1) := by decide +kernel
theorem dX2_fetch_108 : decode cX2_fetch 108 = .ok (.invokevirtual 103, 3) := by decide +kernel
theorem dX2_fetch_111 : decode cX2_fetch 111 = .ok (.aload_n 0, 1) := by decide +kernel
theorem dX2_fetch_112 : decode cX2_fetch 112 = .ok (.dup, 1) := by decide +kernel
theorem dX2_fetch_113 : decode cX2_fetch 113 = .ok (.getfield 107, 3) := by decide +kernel
theorem dX2_fetch_116 : decode cX2_fetch 116 = .ok (.iconst 1, 1) := by decide +kernel
theorem dX2_fetch_117 : decode cX2_fetch 117 = .ok (.iadd, 1) := by decide +kernel
theorem dX2_fetch_118 : decode cX2_fetch 118 = .ok (.putfield 107, 3) := by decide +kernel
theorem dX2_fetch_121 : decode cX2_fetch 121 = .ok (.aload_n 0, 1) := by decide +kernel
theorem dX2_fetch_122 : decode cX2_fetch 122 = .ok (.dup, 1) := by decide +kernel
theorem dX2_fetch_123 : decode cX2_fetch 123 = .ok (.getfield 110, 3) := by decide +kernel
theorem dX2_fetch_126 : decode cX2_fetch 126 = .ok (.iload_n 2, 1) := by decide +kernel
theorem dX2_fetch_127 : decode cX2_fetch 127 = .ok (.i2l, 1) := by decide +kernel
theorem dX2_fetch_128 : decode cX2_fetch 128 = .ok (.ladd, 1) := by decide +kernel
theorem dX2_fetch_129 : decode cX2_fetch 129 = .ok (.putfield 110, 3) := by decide +kernel
theorem dX2_fetch_132 : decode cX2_fetch 132 = .ok (.aload_n 0, 1) := by decide +kernel
theorem dX2_fetch_133 : decode cX2_fetch 133 = .ok (.dup, 1) := by decide +kernel
theorem dX2_fetch_134 : decode cX2_fetch 134 = .ok (.getfield 113, 3) := by decide +kernel
theorem dX2_fetch_137 : decode cX2_fetch 137 = .ok (.iload_n 3, 1) := by decide +kernel
theorem dX2_fetch_138 : decode cX2_fetch 138 = .ok (.i2l, 1) := by decide +kernel
theorem dX2_fetch_139 : decode cX2_fetch 139 = .ok (.ladd, 1) := by decide +kernel
theorem dX2_fetch_140 : decode cX2_fetch 140 = .ok (.putfield 113, 3) := by decide +kernel
theorem dX2_fetch_143 : decode cX2_fetch 143 = .ok (.iconst 0, 1) := by decide +kernel
theorem dX2_fetch_144 : decode cX2_fetch 144 = .ok (.ireturn, 1) := by decide +kernel
theorem dX2_fetch_145 : decode cX2_fetch 145 = .ok (.aload_n 0, 1) := by decide +kernel
theorem dX2_fetch_146 : decode cX2_fetch 146 = .ok (.getfield 36, 3) := by decide +kernel
theorem dX2_fetch_149 : decode cX2_fetch 149 = .ok (.iload_n 1, 1) := by decide +kernel
theorem dX2_fetch_150 : decode cX2_fetch 150 = .ok (.iaload, 1) := by decide +kernel
theorem dX2_fetch_151 : decode cX2_fetch 151 = .ok (.iconst (-1), 1) := by decide +kernel
theorem dX2_fetch_152 : decode cX2_fetch 152 = .ok (.if_icmp .eq 23, 3) := by decide +kernel
theorem dX2_fetch_155 : decode cX2_fetch 155 = .ok (.aload_n 0, 1) := by decide +kernel
theorem dX2_fetch_156 : decode cX2_fetch 156 = .ok (.getfield 53, 3) := by decide +kernel
theorem dX2_fetch_159 : decode cX2_fetch 159 = .ok (.aload_n 0, 1) := by decide +kernel
theorem dX2_fetch_160 : decode cX2_fetch 160 = .ok (.getfield 36, 3) := by decide +kernel
theorem dX2_fetch_163 : decode cX2_fetch 163 = .ok (.iload_n 1, 1) := by decide +kernel
theorem dX2_fetch_164 : decode cX2_fetch 164 = .ok (.iaload, 1) := by decide +kernel
theorem dX2_fetch_165 : decode cX2_fetch 165 = .ok (.isub, 1) := by decide +kernel
theorem dX2_fetch_166 : decode cX2_fetch 166 = .ok (.bipush 50, 2) := by decide +kernel
theorem dX2_fetch_168 : decode cX2_fetch 168 = .ok (.if_icmp .gt 7, 3) := by decide +kernel
theorem dX2_fetch_171 : decode cX2_fetch 171 = .ok (.iconst 1, 1) := by decide +kernel
theorem dX2_fetch_172 : decode cX2_fetch 172 = .ok (.goto 4, 3) := by decide +kernel
theorem dX2_fetch_175 : decode cX2_fetch 175 = .ok (.iconst 0, 1) := by decide +kernel
theorem dX2_fetch_176 : decode cX2_fetch 176 = .ok (.istore 5, 2) := by decide +kernel
theorem dX2_fetch_178 : decode cX2_fetch 178 = .ok (.aload_n 0, 1) := by decide +kernel
theorem dX2_fetch_179 : decode cX2_fetch 179 = .ok (.getfield 36, 3) := by decide +kernel
theorem dX2_fetch_182 : decode cX2_fetch 182 = .ok (.iload_n 1, 1) := by decide +kernel
theorem dX2_fetch_183 : decode cX2_fetch 183 = .ok (.aload_n 0, 1) := by decide +kernel
theorem dX2_fetch_184 : decode cX2_fetch 184 = .ok (.getfield 53, 3) := by decide +kernel
theorem dX2_fetch_187 : decode cX2_fetch 187 = .ok (.iastore, 1) := by decide +kernel
theorem dX2_fetch_188 : decode cX2_fetch 188 = .ok (.aload_n 0, 1) := by decide +kernel
theorem dX2_fetch_189 : decode cX2_fetch 189 = .ok (.dup, 1) := by decide +kernel
theorem dX2_fetch_190 : decode cX2_fetch 190 = .ok (.getfield 116, 3) := by decide +kernel
theorem dX2_fetch_193 : decode cX2_fetch 193 = .ok (.iconst 1, 1) := by decide +kernel
theorem dX2_fetch_194 : decode cX2_fetch 194 = .ok (.iadd, 1) := by decide +kernel
theorem dX2_fetch_195 : decode cX2_fetch 195 = .ok (.putfield 116, 3) := by decide +kernel
theorem dX2_fetch_198 : decode cX2_fetch 198 = .ok (.aload_n 0, 1) := by decide +kernel
theorem dX2_fetch_199 : decode cX2_fetch 199 = .ok (.dup, 1) := by decide +kernel
theorem dX2_fetch_200 : decode cX2_fetch 200 = .ok (.getfield 119, 3) := by decide +kernel
theorem dX2_fetch_203 : decode cX2_fetch 203 = .ok (.iload_n 3, 1) := by decide +kernel
theorem dX2_fetch_204 : decode cX2_fetch 204 = .ok (.i2l, 1) := by decide +kernel
theorem dX2_fetch_205 : decode cX2_fetch 205 = .ok (.ladd, 1) := by decide +kernel
theorem dX2_fetch_206 : decode cX2_fetch 206 = .ok (.putfield 119, 3) := by decide +kernel
theorem dX2_fetch_209 : decode cX2_fetch 209 = .ok (.aload_n 0, 1) := by decide +kernel
theorem dX2_fetch_210 : decode cX2_fetch 210 = .ok (.dup, 1) := by decide +kernel
theorem dX2_fetch_211 : decode cX2_fetch 211 = .ok (.getfield 78, 3) := by decide +kernel
theorem dX2_fetch_214 : decode cX2_fetch 214 = .ok (.aload_n 0, 1) := by decide +kernel
theorem dX2_fetch_215 : decode cX2_fetch 215 = .ok (.iload_n 1, 1) := by decide +kernel
theorem dX2_fetch_216 : decode cX2_fetch 216 = .ok (.invokevirtual 74, 3) := by decide +kernel
theorem dX2_fetch_219 : decode cX2_fetch 219 = .ok (.ifCond .eq 7, 3) := by decide +kernel
theorem dX2_fetch_222 : decode cX2_fetch 222 = .ok (.iconst 1, 1) := by decide +kernel
theorem dX2_fetch_223 : decode cX2_fetch 223 = .ok (.goto 4, 3) := by decide +kernel
theorem dX2_fetch_226 : decode cX2_fetch 226 = .ok (.iconst 0, 1) := by decide +kernel
theorem dX2_fetch_227 : decode cX2_fetch 227 = .ok (.iadd, 1) := by decide +kernel
theorem dX2_fetch_228 : decode cX2_fetch 228 = .ok (.putfield 78, 3) := by decide +kernel
theorem dX2_fetch_231 : decode cX2_fetch 231 = .ok (.aload_n 0, 1) := by decide +kernel
theorem dX2_fetch_232 : decode cX2_fetch 232 = .ok (.getfield 7, 3) := by decide +kernel
theorem dX2_fetch_235 : decode cX2_fetch 235 = .ok (.iload_n 1, 1) := by decide +kernel
theorem dX2_fetch_236 : decode cX2_fetch 236 = .ok (.iconst 0, 1) := by decide +kernel
theorem dX2_fetch_237 : decode cX2_fetch 237 = .ok (.bastore, 1) := by decide +kernel
theorem dX2_fetch_238 : decode cX2_fetch 238 = .ok (.iload_n 2, 1) := by decide +kernel
theorem dX2_fetch_239 : decode cX2_fetch 239 = .ok (.aload_n 0, 1) := by decide +kernel
theorem dX2_fetch_240 : decode cX2_fetch 240 = .ok (.getfield 39, 3) := by decide +kernel
theorem dX2_fetch_243 : decode cX2_fetch 243 = .ok (.if_icmp .gt 24, 3) := by decide +kernel
theorem dX2_fetch_246 : decode cX2_fetch 246 = .ok (.iload_n 2, 1) := by decide +kernel
theorem dX2_fetch_247 : decode cX2_fetch 247 = .ok (.aload_n 0, 1) := by decide +kernel
theorem dX2_fetch_248 : decode cX2_fetch 248 = .ok (.getfield 43, 3) := by decide +kernel
theorem dX2_fetch_251 : decode cX2_fetch 251 = .ok (.if_icmp .le 8, 3) := by decide +kernel
theorem dX2_fetch_254 : decode cX2_fetch 254 = .ok (.iload 5, 2) := by decide +kernel
theorem dX2_fetch_256 : decode cX2_fetch 256 = .ok (.ifCond .eq 11, 3) := by decide +kernel
theorem dX2_fetch_259 : decode cX2_fetch 259 = .ok (.aload_n 0, 1) := by decide +kernel
theorem dX2_fetch_260 : decode cX2_fetch 260 = .ok (.iload_n 2, 1) := by decide +kernel
theorem dX2_fetch_261 : decode cX2_fetch 261 = .ok (.invokevirtual 122, 3) := by decide +kernel
theorem dX2_fetch_264 : decode cX2_fetch 264 = .ok (.ifCond .ne 5, 3) := by decide +kernel
theorem dX2_fetch_267 : decode cX2_fetch 267 = .ok (.iconst 2, 1) := by decide +kernel
theorem dX2_fetch_268 : decode cX2_fetch 268 = .ok (.ireturn, 1) := by decide +kernel
theorem dX2_fetch_269 : decode cX2_fetch 269 = .ok (.aload_n 0, 1) := by decide +kernel
theorem dX2_fetch_270 : decode cX2_fetch 270 = .ok (.getfield 7, 3) := by decide +kernel
theorem dX2_fetch_273 : decode cX2_fetch 273 = .ok (.iload_n 1, 1) := by decide +kernel
theorem dX2_fetch_274 : decode cX2_fetch 274 = .ok (.iconst 1, 1) := by decide +kernel
theorem dX2_fetch_275 : decode cX2_fetch 275 = .ok (.bastore, 1) := by decide +kernel
theorem dX2_fetch_276 : decode cX2_fetch 276 = .ok (.aload_n 0, 1) := by decide +kernel
theorem dX2_fetch_277 : decode cX2_fetch 277 = .ok (.getfield 13, 3) := by decide +kernel
theorem dX2_fetch_280 : decode cX2_fetch 280 = .ok (.iload_n 1, 1) := by decide +kernel
theorem dX2_fetch_281 : decode cX2_fetch 281 = .ok (.iconst 0, 1) := by decide +kernel
theorem dX2_fetch_282 : decode cX2_fetch 282 = .ok (.bastore, 1) := by decide +kernel
theorem dX2_fetch_283 : decode cX2_fetch 283 = .ok (.aload_n 0, 1) := by decide +kernel
theorem dX2_fetch_284 : decode cX2_fetch 284 = .ok (.getfield 16, 3) := by decide +kernel
theorem dX2_fetch_287 : decode cX2_fetch 287 = .ok (.iload_n 1, 1) := by decide +kernel
theorem dX2_fetch_288 : decode cX2_fetch 288 = .ok (.iload_n 2, 1) := by decide +kernel
theorem dX2_fetch_289 : decode cX2_fetch 289 = .ok (.iastore, 1) := by decide +kernel
theorem dX2_fetch_290 : decode cX2_fetch 290 = .ok (.aload_n 0, 1) := by decide +kernel
theorem dX2_fetch_291 : decode cX2_fetch 291 = .ok (.getfield 20, 3) := by decide +kernel
theorem dX2_fetch_294 : decode cX2_fetch 294 = .ok (.iload_n 1, 1) := by decide +kernel
theorem dX2_fetch_295 : decode cX2_fetch 295 = .ok (.iload_n 3, 1) := by decide +kernel
theorem dX2_fetch_296 : decode cX2_fetch 296 = .ok (.iastore, 1) := by decide +kernel
theorem dX2_fetch_297 : decode cX2_fetch 297 = .ok (.aload_n 0, 1) := by decide +kernel
theorem dX2_fetch_298 : decode cX2_fetch 298 = .ok (.getfield 23, 3) := by decide +kernel
theorem dX2_fetch_301 : decode cX2_fetch 301 = .ok (.iload_n 1, 1) := by decide +kernel
theorem dX2_fetch_302 : decode cX2_fetch 302 = .ok (.iconst 1, 1) := by decide +kernel
theorem dX2_fetch_303 : decode cX2_fetch 303 = .ok (.iastore, 1) := by decide +kernel
theorem dX2_fetch_304 : decode cX2_fetch 304 = .ok (.aload_n 0, 1) := by decide +kernel
theorem dX2_fetch_305 : decode cX2_fetch 305 = .ok (.getfield 30, 3) := by decide +kernel
theorem dX2_fetch_308 : decode cX2_fetch 308 = .ok (.iload_n 1, 1) := by decide +kernel
theorem dX2_fetch_309 : decode cX2_fetch 309 = .ok (.aload_n 0, 1) := by decide +kernel
theorem dX2_fetch_310 : decode cX2_fetch 310 = .ok (.getfield 53, 3) := by decide +kernel
theorem dX2_fetch_313 : decode cX2_fetch 313 = .ok (.iload 4, 2) := by decide +kernel
theorem dX2_fetch_315 : decode cX2_fetch 315 = .ok (.iadd, 1) := by decide +kernel
theorem dX2_fetch_316 : decode cX2_fetch 316 = .ok (.iastore, 1) := by decide +kernel
theorem dX2_fetch_317 : decode cX2_fetch 317 = .ok (.aload_n 0, 1) := by decide +kernel
theorem dX2_fetch_318 : decode cX2_fetch 318 = .ok (.iload_n 1, 1) := by decide +kernel
theorem dX2_fetch_319 : decode cX2_fetch 319 = .ok (.invokevirtual 103, 3) := by decide +kernel
theorem dX2_fetch_322 : decode cX2_fetch 322 = .ok (.iconst 1, 1) := by decide +kernel
theorem dX2_fetch_323 : decode cX2_fetch 323 = .ok (.ireturn, 1) := by decide +kernel
set_option maxRecDepth 20000 in
theorem ggX2_pass_X2_in : GoodIn wsX2_pass wsX2_in := goodIn_r _ [6] (by decide +kernel) (by decide +kernel)
set_option maxRecDepth 20000 in
theorem gX2_pass_X2_in : GoodIn wsX2_pass (va_wsS RX2 49 yX2_in wsX2_in) := goodIn_app (goodIn_of _ (by decide +kernel)) ggX2_pass_X2_in
theorem dX2_pass_0 : decode cX2_pass 0 = .ok (.aload_n 0, 1) := by decide +kernel
theorem dX2_pass_1 : decode cX2_pass 1 = .ok (.iload_n 1, 1) := by decide +kernel
theorem dX2_pass_2 : decode cX2_pass 2 = .ok (.iconst 1, 1) := by decide +kernel
theorem dX2_pass_3 : decode cX2_pass 3 = .ok (.sipush 10000, 3) := by decide +kernel
theorem dX2_pass_6 : decode cX2_pass 6 = .ok (.invokestatic 49, 3) := by decide +kernel
theorem dX2_pass_9 : decode cX2_pass 9 = .ok (.ifCond .eq 7, 3) := by decide +kernel
theorem dX2_pass_12 : decode cX2_pass 12 = .ok (.iconst 0, 1) := by decide +kernel
theorem dX2_pass_13 : decode cX2_pass 13 = .ok (.goto 4, 3) := by decide +kernel
theorem dX2_pass_16 : decode cX2_pass 16 = .ok (.iconst 1, 1) := by decide +kernel
theorem dX2_pass_17 : decode cX2_pass 17 = .ok (.putfield 46, 3) := by decide +kernel
theorem dX2_pass_20 : decode cX2_pass 20 = .ok (.aload_n 0, 1) := by decide +kernel
theorem dX2_pass_21 : decode cX2_pass 21 = .ok (.dup, 1) := by decide +kernel
theorem dX2_pass_22 : decode cX2_pass 22 = .ok (.getfield 53, 3) := by decide +kernel
theorem dX2_pass_25 : decode cX2_pass 25 = .ok (.aload_n 0, 1) := by decide +kernel
theorem dX2_pass_26 : decode cX2_pass 26 = .ok (.getfield 46, 3) := by decide +kernel
theorem dX2_pass_29 : decode cX2_pass 29 = .ok (.ifCond .ne 7, 3) := by decide +kernel
theorem dX2_pass_32 : decode cX2_pass 32 = .ok (.iload_n 1, 1) := by decide +kernel
theorem dX2_pass_33 : decode cX2_pass 33 = .ok (.goto 4, 3) := by decide +kernel
theorem dX2_pass_36 : decode cX2_pass 36 = .ok (.iconst 0, 1) := by decide +kernel
theorem dX2_pass_37 : decode cX2_pass 37 = .ok (.iadd, 1) := by decide +kernel
theorem dX2_pass_38 : decode cX2_pass 38 = .ok (.putfield 53, 3) := by decide +kernel
theorem dX2_pass_41 : decode cX2_pass 41 = .ok (.aload_n 0, 1) := by decide +kernel
theorem dX2_pass_42 : decode cX2_pass 42 = .ok (.getfield 46, 3) := by decide +kernel
theorem dX2_pass_45 : decode cX2_pass 45 = .ok (.ifCond .ne 10, 3) := by decide +kernel
theorem dX2_pass_48 : decode cX2_pass 48 = .ok (.aload_n 0, 1) := by decide +kernel
theorem dX2_pass_49 : decode cX2_pass 49 = .ok (.getfield 53, 3) := by decide +kernel
theorem dX2_pass_52 : decode cX2_pass 52 = .ok (.goto 4, 3) := by decide +kernel
theorem dX2_pass_55 : decode cX2_pass 55 = .ok (.iconst 0, 1) := by decide +kernel
theorem dX2_pass_56 : decode cX2_pass 56 = .ok (.ireturn, 1) := by decide +kernel
set_option maxRecDepth 20000 in
theorem ggX2_hasEntry_X2_isThing : GoodIn wsX2_hasEntry wsX2_isThing := goodIn_r _ [7, 2, 8, 9, 6, 10, 11, 12, 13, 14, 15, 16, 17, 18, 19, 20, 21, 22, 23, 24, 25, 26, 27, 28, 29, 30, 31, 32] (by decide +kernel) (by decide +kernel)
set_option maxRecDepth 20000 in
theorem gX2_hasEntry_X2_isThing : GoodIn wsX2_hasEntry (wsV RX2 100 RX2 yX2_isThing wsX2_isThing) := goodIn_app (goodIn_of _ (by decide +kernel)) ggX2_hasEntry_X2_isThing
theorem dX2_hasEntry_0 : decode cX2_hasEntry 0 = .ok (.aload_n 0, 1) := by decide +kernel
theorem dX2_hasEntry_1 : decode cX2_hasEntry 1 = .ok (.iload_n 1, 1) := by decide +kernel
theorem dX2_hasEntry_2 : decode cX2_hasEntry 2 = .ok (.invokevirtual 100, 3) := by decide +kernel
theorem dX2_hasEntry_5 : decode cX2_hasEntry 5 = .ok (.ifCond .eq 21, 3) := by decide +kernel
theorem dX2_hasEntry_8 : decode cX2_hasEntry 8 = .ok (.aload_n 0, 1) := by decide +kernel
theorem dX2_hasEntry_9 : decode cX2_hasEntry 9 = .ok (.aload_n 0, 1) := by decide +kernel
theorem dX2_hasEntry_10 : decode cX2_hasEntry 10 = .ok (.getfield 7, 3) := by decide +kernel
theorem dX2_hasEntry_13 : decode cX2_hasEntry 13 = .ok (.iload_n 1, 1) := by decide +kernel
theorem dX2_hasEntry_14 : decode cX2_hasEntry 14 = .ok (.baload, 1) := by decide +kernel
theorem dX2_hasEntry_15 : decode cX2_hasEntry 15 = .ok (.ifCond .eq 7, 3) := by decide +kernel
theorem dX2_hasEntry_18 : decode cX2_hasEntry 18 = .ok (.iconst 0, 1) := by decide +kernel
theorem dX2_hasEntry_19 : decode cX2_hasEntry 19 = .ok (.goto 4, 3) := by decide +kernel
theorem dX2_hasEntry_22 : decode cX2_hasEntry 22 = .ok (.iconst 2, 1) := by decide +kernel
theorem dX2_hasEntry_23 : decode cX2_hasEntry 23 = .ok (.putfield 46, 3) := by decide +kernel
theorem dX2_hasEntry_26 : decode cX2_hasEntry 26 = .ok (.aload_n 0, 1) := by decide +kernel
theorem dX2_hasEntry_27 : decode cX2_hasEntry 27 = .ok (.getfield 46, 3) := by decide +kernel
theorem dX2_hasEntry_30 : decode cX2_hasEntry 30 = .ok (.ifCond .ne 7, 3) := by decide +kernel
theorem dX2_hasEntry_33 : decode cX2_hasEntry 33 = .ok (.iconst 1, 1) := by decide +kernel
theorem dX2_hasEntry_34 : decode cX2_hasEntry 34 = .ok (.goto 4, 3) := by decide +kernel
theorem dX2_hasEntry_37 : decode cX2_hasEntry 37 = .ok (.iconst 0, 1) := by decide +kernel
theorem dX2_hasEntry_38 : decode cX2_hasEntry 38 = .ok (.ireturn, 1) := by decide +kernel
set_option maxRecDepth 20000 in
theorem ggX2_pin_X2_hasEntry : GoodIn wsX2_pin wsX2_hasEntry := goodIn_r _ [6, 7, 8, 9, 10, 11, 5, 12, 13, 14, 15, 16, 17, 18, 19, 20, 21, 22, 23, 24, 25, 26, 27, 28, 29, 30, 31, 32, 33, 34, 35, 36, 37] (by decide +kernel) (by decide +kernel)
set_option maxRecDepth 20000 in
theorem gX2_pin_X2_hasEntry : GoodIn wsX2_pin (wsV RX2 125 RX2 yX2_hasEntry wsX2_hasEntry) := goodIn_app (goodIn_of _ (by decide +kernel)) ggX2_pin_X2_hasEntry
theorem dX2_pin_0 : decode cX2_pin 0 = .ok (.aload_n 0, 1) := by decide +kernel
theorem dX2_pin_1 : decode cX2_pin 1 = .ok (.iload_n 1, 1) := by decide +kernel
theorem dX2_pin_2 : decode cX2_pin 2 = .ok (.invokevirtual 125, 3) := by decide +kernel
theorem dX2_pin_5 : decode cX2_pin 5 = .ok (.ifCond .ne 5, 3) := by decide +kernel
theorem dX2_pin_8 : decode cX2_pin 8 = .ok (.iconst 0, 1) := by decide +kernel
theorem dX2_pin_9 : decode cX2_pin 9 = .ok (.ireturn, 1) := by decide +kernel
theorem dX2_pin_10 : decode cX2_pin 10 = .ok (.aload_n 0, 1) := by decide +kernel
theorem dX2_pin_11 : decode cX2_pin 11 = .ok (.getfield 13, 3) := by decide +kernel
theorem dX2_pin_14 : decode cX2_pin 14 = .ok (.iload_n 1, 1) := by decide +kernel
theorem dX2_pin_15 : decode cX2_pin 15 = .ok (.baload, 1) := by decide +kernel
theorem dX2_pin_16 : decode cX2_pin 16 = .ok (.istore_n 3, 1) := by decide +kernel
theorem dX2_pin_17 : decode cX2_pin 17 = .ok (.aload_n 0, 1) := by decide +kernel
theorem dX2_pin_18 : decode cX2_pin 18 = .ok (.getfield 13, 3) := by decide +kernel
theorem dX2_pin_21 : decode cX2_pin 21 = .ok (.iload_n 1, 1) := by decide +kernel
theorem dX2_pin_22 : decode cX2_pin 22 = .ok (.iload_n 2, 1) := by decide +kernel
theorem dX2_pin_23 : decode cX2_pin 23 = .ok (.bastore, 1) := by decide +kernel
theorem dX2_pin_24 : decode cX2_pin 24 = .ok (.iload_n 3, 1) := by decide +kernel
theorem dX2_pin_25 : decode cX2_pin 25 = .ok (.ireturn, 1) := by decide +kernel
set_option maxRecDepth 20000 in
theorem ggX2_drop_X2_hasEntry : GoodIn wsX2_drop wsX2_hasEntry := goodIn_r _ [7, 1, 8, 9, 10, 11, 6, 12, 13, 14, 15, 16, 17, 18, 19, 20, 21, 22, 23, 24, 25, 26, 27, 28, 29, 30, 31, 32, 33, 34, 35, 36, 37] (by decide +kernel) (by decide +kernel)
set_option maxRecDepth 20000 in
theorem gX2_drop_X2_hasEntry : GoodIn wsX2_drop (wsV RX2 125 RX2 yX2_hasEntry wsX2_hasEntry) := goodIn_app (goodIn_of _ (by decide +kernel)) ggX2_drop_X2_hasEntry
theorem dX2_drop_0 : decode cX2_drop 0 = .ok (.aload_n 0, 1) := by decide +kernel
theorem dX2_drop_1 : decode cX2_drop 1 = .ok (.iload_n 1, 1) := by decide +kernel
theorem dX2_drop_2 : decode cX2_drop 2 = .ok (.invokevirtual 125, 3) := by decide +kernel
theorem dX2_drop_5 : decode cX2_drop 5 = .ok (.ifCond .ne 5, 3) := by decide +kernel
theorem dX2_drop_8 : decode cX2_drop 8 = .ok (.iconst 0, 1) := by decide +kernel
theorem dX2_drop_9 : decode cX2_drop 9 = .ok (.ireturn, 1) := by decide +kernel
theorem dX2_drop_10 : decode cX2_drop 10 = .ok (.aload_n 0, 1) := by decide +kernel
theorem dX2_drop_11 : decode cX2_drop 11 = .ok (.getfield 7, 3) := by decide +kernel
theorem dX2_drop_14 : decode cX2_drop 14 = .ok (.iload_n 1, 1) := by decide +kernel
theorem dX2_drop_15 : decode cX2_drop 15 = .ok (.iconst 0, 1) := by decide +kernel
theorem dX2_drop_16 : decode cX2_drop 16 = .ok (.bastore, 1) := by decide +kernel
theorem dX2_drop_17 : decode cX2_drop 17 = .ok (.aload_n 0, 1) := by decide +kernel
theorem dX2_drop_18 : decode cX2_drop 18 = .ok (.getfield 16, 3) := by decide +kernel
theorem dX2_drop_21 : decode cX2_drop 21 = .ok (.iload_n 1, 1) := by decide +kernel
theorem dX2_drop_22 : decode cX2_drop 22 = .ok (.iaload, 1) := by decide +kernel
theorem dX2_drop_23 : decode cX2_drop 23 = .ok (.ireturn, 1) := by decide +kernel
set_option maxRecDepth 20000 in
theorem ggX2_purge_X2_removeOver : GoodIn wsX2_purge wsX2_removeOver := goodIn_r _ [6, 7, 8, 9, 10, 11, 5, 12, 13, 14, 15, 16, 17, 18, 19, 20, 21, 22, 23, 24, 25, 26, 27, 28, 29, 30, 31, 32, 33, 34, 35, 36] (by decide +kernel) (by decide +kernel)
set_option maxRecDepth 20000 in
theorem gX2_purge_X2_removeOver : GoodIn wsX2_purge (wsV RX2 90 RX2 yX2_removeOver wsX2_removeOver) := goodIn_app (goodIn_of _ (by decide +kernel)) ggX2_purge_X2_removeOver
theorem dX2_purge_0 : decode cX2_purge 0 = .ok (.aload_n 0, 1) := by decide +kernel
theorem dX2_purge_1 : decode cX2_purge 1 = .ok (.iconst 0, 1) := by decide +kernel
theorem dX2_purge_2 : decode cX2_purge 2 = .ok (.putfield 46, 3) := by decide +kernel
theorem dX2_purge_5 : decode cX2_purge 5 = .ok (.aload_n 0, 1) := by decide +kernel
theorem dX2_purge_6 : decode cX2_purge 6 = .ok (.invokevirtual 90, 3) := by decide +kernel
theorem dX2_purge_9 : decode cX2_purge 9 = .ok (.ireturn, 1) := by decide +kernel
set_option maxRecDepth 20000 in
theorem ggX2_setCapacity_X2_in : GoodIn wsX2_setCapacity wsX2_in := goodIn_r _ [6] (by decide +kernel) (by decide +kernel)
set_option maxRecDepth 20000 in
theorem gX2_setCapacity_X2_in : GoodIn wsX2_setCapacity (va_wsS RX2 49 yX2_in wsX2_in) := goodIn_app (goodIn_of _ (by decide +kernel)) ggX2_setCapacity_X2_in
set_option maxRecDepth 20000 in
theorem ggX2_setCapacity_X2_pinnedBytes : GoodIn wsX2_setCapacity wsX2_pinnedBytes := goodIn_r _ [10, 11, 12, 13, 14, 15, 16, 5, 17, 18, 19, 49, 50, 51, 52, 53, 54, 55, 56, 57, 58, 59, 60, 61, 62, 63, 64, 65, 66, 67, 68, 69, 70] (by decide +kernel) (by decide +kernel)
set_option maxRecDepth 20000 in
theorem gX2_setCapacity_X2_pinnedBytes : GoodIn wsX2_setCapacity (wsV RX2 93 RX2 yX2_pinnedBytes wsX2_pinnedBytes) := goodIn_app (goodIn_of _ (by decide +kernel)) ggX2_setCapacity_X2_pinnedBytes
set_option maxRecDepth 20000 in
theorem ggX2_setCapacity_X2_usedBytes : GoodIn wsX2_setCapacity wsX2_usedBytes := goodIn_r _ [23, 11, 13, 49, 50, 51, 52, 53, 54, 55, 56, 57, 58, 59, 60, 61, 62, 63, 64, 65, 66, 67, 68, 69, 70] (by decide +kernel) (by decide +kernel)
set_option maxRecDepth 20000 in
theorem gX2_setCapacity_X2_usedBytes : GoodIn wsX2_setCapacity (wsV RX2 86 RX2 yX2_usedBytes wsX2_usedBytes) := goodIn_app (goodIn_of _ (by decide +kernel)) ggX2_setCapacity_X2_usedBytes
set_option maxRecDepth 20000 in
theorem ggX2_setCapacity_X2_removeOver : GoodIn wsX2_setCapacity wsX2_removeOver := goodIn_r _ [27, 11, 28, 14, 15, 16, 5, 17, 18, 19, 49, 50, 51, 52, 53, 54, 55, 56, 57, 58, 59, 60, 61, 62, 63, 64, 65, 66, 67, 68, 69, 70] (by decide +kernel) (by decide +kernel)
set_option maxRecDepth 20000 in
theorem gX2_setCapacity_X2_removeOver : GoodIn wsX2_setCapacity (wsV RX2 90 RX2 yX2_removeOver wsX2_removeOver) := goodIn_app (goodIn_of _ (by decide +kernel)) ggX2_setCapacity_X2_removeOver
set_option maxRecDepth 20000 in
theorem ggX2_setCapacity_X2_firstLeaves : GoodIn wsX2_setCapacity wsX2_firstLeaves := goodIn_r _ [32, 11, 33, 34, 35, 36, 37, 38, 5, 39, 40, 41, 42, 43, 12, 44, 45, 46, 47, 48, 49, 50, 51, 52, 53, 54, 55, 56, 57, 58, 59, 60, 61, 62, 63, 64, 65, 66, 67, 68, 69, 70] (by decide +kernel) (by decide +kernel)
set_option maxRecDepth 20000 in
theorem gX2_setCapacity_X2_firstLeaves : GoodIn wsX2_setCapacity (wsV RX2 97 RX2 yX2_firstLeaves wsX2_firstLeaves) := goodIn_app (goodIn_of _ (by decide +kernel)) ggX2_setCapacity_X2_firstLeaves
theorem dX2_setCapacity_0 : decode cX2_setCapacity 0 = .ok (.aload_n 0, 1) := by decide +kernel
theorem dX2_setCapacity_1 : decode cX2_setCapacity 1 = .ok (.iload_n 1, 1) := by decide +kernel
theorem dX2_setCapacity_2 : decode cX2_setCapacity 2 = .ok (.iconst 1, 1) := by decide +kernel
theorem dX2_setCapacity_3 : decode cX2_setCapacity 3 = .ok (.sipush 10000, 3) := by decide +kernel
theorem dX2_setCapacity_6 : decode cX2_setCapacity 6 = .ok (.invokestatic 49, 3) := by decide +kernel
theorem dX2_setCapacity_9 : decode cX2_setCapacity 9 = .ok (.ifCond .ne 7, 3) := by decide +kernel
theorem dX2_setCapacity_12 : decode cX2_setCapacity 12 = .ok (.iconst 1, 1) := by decide +kernel
theorem dX2_setCapacity_13 : decode cX2_setCapacity 13 = .ok (.goto 17, 3) := by decide +kernel
theorem dX2_setCapacity_16 : decode cX2_setCapacity 16 = .ok (.aload_n 0, 1) := by decide +kernel
theorem dX2_setCapacity_17 : decode cX2_setCapacity 17 = .ok (.iconst 0, 1) := by decide +kernel
theorem dX2_setCapacity_18 : decode cX2_setCapacity 18 = .ok (.invokevirtual 93, 3) := by decide +kernel
theorem dX2_setCapacity_21 : decode cX2_setCapacity 21 = .ok (.iload_n 1, 1) := by decide +kernel
theorem dX2_setCapacity_22 : decode cX2_setCapacity 22 = .ok (.if_icmp .le 7, 3) := by decide +kernel
theorem dX2_setCapacity_25 : decode cX2_setCapacity 25 = .ok (.iconst 2, 1) := by decide +kernel
theorem dX2_setCapacity_26 : decode cX2_setCapacity 26 = .ok (.goto 4, 3) := by decide +kernel
theorem dX2_setCapacity_29 : decode cX2_setCapacity 29 = .ok (.iconst 0, 1) := by decide +kernel
theorem dX2_setCapacity_30 : decode cX2_setCapacity 30 = .ok (.putfield 46, 3) := by decide +kernel
theorem dX2_setCapacity_33 : decode cX2_setCapacity 33 = .ok (.aload_n 0, 1) := by decide +kernel
theorem dX2_setCapacity_34 : decode cX2_setCapacity 34 = .ok (.getfield 46, 3) := by decide +kernel
theorem dX2_setCapacity_37 : decode cX2_setCapacity 37 = .ok (.ifCond .le 5, 3) := by decide +kernel
theorem dX2_setCapacity_40 : decode cX2_setCapacity 40 = .ok (.iconst 0, 1) := by decide +kernel
theorem dX2_setCapacity_41 : decode cX2_setCapacity 41 = .ok (.ireturn, 1) := by decide +kernel
theorem dX2_setCapacity_42 : decode cX2_setCapacity 42 = .ok (.aload_n 0, 1) := by decide +kernel
theorem dX2_setCapacity_43 : decode cX2_setCapacity 43 = .ok (.iload_n 1, 1) := by decide +kernel
theorem dX2_setCapacity_44 : decode cX2_setCapacity 44 = .ok (.putfield 39, 3) := by decide +kernel
theorem dX2_setCapacity_47 : decode cX2_setCapacity 47 = .ok (.aload_n 0, 1) := by decide +kernel
theorem dX2_setCapacity_48 : decode cX2_setCapacity 48 = .ok (.invokevirtual 86, 3) := by decide +kernel
theorem dX2_setCapacity_51 : decode cX2_setCapacity 51 = .ok (.iload_n 1, 1) := by decide +kernel
theorem dX2_setCapacity_52 : decode cX2_setCapacity 52 = .ok (.if_icmp .le 8, 3) := by decide +kernel
theorem dX2_setCapacity_55 : decode cX2_setCapacity 55 = .ok (.aload_n 0, 1) := by decide +kernel
theorem dX2_setCapacity_56 : decode cX2_setCapacity 56 = .ok (.invokevirtual 90, 3) := by decide +kernel
theorem dX2_setCapacity_59 : decode cX2_setCapacity 59 = .ok (.istore_n 2, 1) := by decide +kernel
theorem dX2_setCapacity_60 : decode cX2_setCapacity 60 = .ok (.iconst 0, 1) := by decide +kernel
theorem dX2_setCapacity_61 : decode cX2_setCapacity 61 = .ok (.istore_n 2, 1) := by decide +kernel
theorem dX2_setCapacity_62 : decode cX2_setCapacity 62 = .ok (.aload_n 0, 1) := by decide +kernel
theorem dX2_setCapacity_63 : decode cX2_setCapacity 63 = .ok (.invokevirtual 86, 3) := by decide +kernel
theorem dX2_setCapacity_66 : decode cX2_setCapacity 66 = .ok (.iload_n 1, 1) := by decide +kernel
theorem dX2_setCapacity_67 : decode cX2_setCapacity 67 = .ok (.if_icmp .le 13, 3) := by decide +kernel
theorem dX2_setCapacity_70 : decode cX2_setCapacity 70 = .ok (.aload_n 0, 1) := by decide +kernel
theorem dX2_setCapacity_71 : decode cX2_setCapacity 71 = .ok (.invokevirtual 97, 3) := by decide +kernel
theorem dX2_setCapacity_74 : decode cX2_setCapacity 74 = .ok (.iinc 2 1, 3) := by decide +kernel
theorem dX2_setCapacity_77 : decode cX2_setCapacity 77 = .ok (.goto (-15), 3) := by decide +kernel
theorem dX2_setCapacity_80 : decode cX2_setCapacity 80 = .ok (.iload_n 2, 1) := by decide +kernel
theorem dX2_setCapacity_81 : decode cX2_setCapacity 81 = .ok (.ireturn, 1) := by decide +kernel
set_option maxRecDepth 20000 in
theorem ggX2_setThreshold_X2_in : GoodIn wsX2_setThreshold wsX2_in := goodIn_r _ [6] (by decide +kernel) (by decide +kernel)
set_option maxRecDepth 20000 in
theorem gX2_setThreshold_X2_in : GoodIn wsX2_setThreshold (va_wsS RX2 49 yX2_in wsX2_in) := goodIn_app (goodIn_of _ (by decide +kernel)) ggX2_setThreshold_X2_in
theorem dX2_setThreshold_0 : decode cX2_setThreshold 0 = .ok (.aload_n 0, 1) := by decide +kernel
theorem dX2_setThreshold_1 : decode cX2_setThreshold 1 = .ok (.iload_n 1, 1) := by decide +kernel
theorem dX2_setThreshold_2 : decode cX2_setThreshold 2 = .ok (.iconst 1, 1) := by decide +kernel
theorem dX2_setThreshold_3 : decode cX2_setThreshold 3 = .ok (.sipush 1000, 3) := by decide +kernel
theorem dX2_setThreshold_6 : decode cX2_setThreshold 6 = .ok (.invokestatic 49, 3) := by decide +kernel
theorem dX2_setThreshold_9 : decode cX2_setThreshold 9 = .ok (.ifCond .eq 7, 3) := by decide +kernel
theorem dX2_setThreshold_12 : decode cX2_setThreshold 12 = .ok (.iconst 0, 1) := by decide +kernel
theorem dX2_setThreshold_13 : decode cX2_setThreshold 13 = .ok (.goto 4, 3) := by decide +kernel
theorem dX2_setThreshold_16 : decode cX2_setThreshold 16 = .ok (.iconst 1, 1) := by decide +kernel
theorem dX2_setThreshold_17 : decode cX2_setThreshold 17 = .ok (.putfield 46, 3) := by decide +kernel
theorem dX2_setThreshold_20 : decode cX2_setThreshold 20 = .ok (.aload_n 0, 1) := by decide +kernel
theorem dX2_setThreshold_21 : decode cX2_setThreshold 21 = .ok (.getfield 46, 3) := by decide +kernel
theorem dX2_setThreshold_24 : decode cX2_setThreshold 24 = .ok (.ifCond .le 5, 3) := by decide +kernel
theorem dX2_setThreshold_27 : decode cX2_setThreshold 27 = .ok (.iconst 0, 1) := by decide +kernel
theorem dX2_setThreshold_28 : decode cX2_setThreshold 28 = .ok (.ireturn, 1) := by decide +kernel
theorem dX2_setThreshold_29 : decode cX2_setThreshold 29 = .ok (.aload_n 0, 1) := by decide +kernel
theorem dX2_setThreshold_30 : decode cX2_setThreshold 30 = .ok (.getfield 43, 3) := by decide +kernel
theorem dX2_setThreshold_33 : decode cX2_setThreshold 33 = .ok (.istore_n 2, 1) := by decide +kernel
theorem dX2_setThreshold_34 : decode cX2_setThreshold 34 = .ok (.aload_n 0, 1) := by decide +kernel
theorem dX2_setThreshold_35 : decode cX2_setThreshold 35 = .ok (.iload_n 1, 1) := by decide +kernel
theorem dX2_setThreshold_36 : decode cX2_setThreshold 36 = .ok (.putfield 43, 3) := by decide +kernel
theorem dX2_setThreshold_39 : decode cX2_setThreshold 39 = .ok (.iload_n 2, 1) := by decide +kernel
theorem dX2_setThreshold_40 : decode cX2_setThreshold 40 = .ok (.ireturn, 1) := by decide +kernel
set_option maxRecDepth 20000 in
theorem ggX2_has_X2_isThing : GoodIn wsX2_has wsX2_isThing := goodIn_r _ [6, 7, 8, 9, 5, 10, 11, 12, 13, 14, 15, 16, 17, 18, 19, 20, 21, 22, 23, 24, 25, 26, 27, 28, 29, 30, 31, 32] (by decide +kernel) (by decide +kernel)
set_option maxRecDepth 20000 in
theorem gX2_has_X2_isThing : GoodIn wsX2_has (wsV RX2 100 RX2 yX2_isThing wsX2_isThing) := goodIn_app (goodIn_of _ (by decide +kernel)) ggX2_has_X2_isThing
theorem dX2_has_0 : decode cX2_has 0 = .ok (.aload_n 0, 1) := by decide +kernel
theorem dX2_has_1 : decode cX2_has 1 = .ok (.iload_n 1, 1) := by decide +kernel
theorem dX2_has_2 : decode cX2_has 2 = .ok (.invokevirtual 100, 3) := by decide +kernel
theorem dX2_has_5 : decode cX2_has 5 = .ok (.ifCond .eq 16, 3) := by decide +kernel
theorem dX2_has_8 : decode cX2_has 8 = .ok (.aload_n 0, 1) := by decide +kernel
theorem dX2_has_9 : decode cX2_has 9 = .ok (.getfield 7, 3) := by decide +kernel
theorem dX2_has_12 : decode cX2_has 12 = .ok (.iload_n 1, 1) := by decide +kernel
theorem dX2_has_13 : decode cX2_has 13 = .ok (.baload, 1) := by decide +kernel
theorem dX2_has_14 : decode cX2_has 14 = .ok (.ifCond .eq 7, 3) := by decide +kernel
theorem dX2_has_17 : decode cX2_has 17 = .ok (.iconst 1, 1) := by decide +kernel
theorem dX2_has_18 : decode cX2_has 18 = .ok (.goto 4, 3) := by decide +kernel
theorem dX2_has_21 : decode cX2_has 21 = .ok (.iconst 0, 1) := by decide +kernel
theorem dX2_has_22 : decode cX2_has 22 = .ok (.ireturn, 1) := by decide +kernel
set_option maxRecDepth 20000 in
theorem ggX2_isOver_X2_isThing : GoodIn wsX2_isOver wsX2_isThing := goodIn_r _ [5, 6, 7, 8, 4, 9, 17, 18, 19, 20, 21, 22, 23, 24, 25, 26, 27, 28, 29, 30, 31, 32, 33, 34, 35, 36, 37, 38] (by decide +kernel) (by decide +kernel)
set_option maxRecDepth 20000 in
theorem gX2_isOver_X2_isThing : GoodIn wsX2_isOver (wsV RX2 100 RX2 yX2_isThing wsX2_isThing) := goodIn_app (goodIn_of _ (by decide +kernel)) ggX2_isOver_X2_isThing
set_option maxRecDepth 20000 in
theorem ggX2_isOver_X2_over : GoodIn wsX2_isOver wsX2_over := goodIn_r _ [13, 14, 15, 16, 17, 18, 19, 20, 21, 22, 23, 24, 25, 26, 27, 28, 29, 30, 31, 32, 33, 34, 35, 36, 37, 38] (by decide +kernel) (by decide +kernel)
set_option maxRecDepth 20000 in
theorem gX2_isOver_X2_over : GoodIn wsX2_isOver (wsV RX2 74 RX2 yX2_over wsX2_over) := goodIn_app (goodIn_of _ (by decide +kernel)) ggX2_isOver_X2_over
theorem dX2_isOver_0 : decode cX2_isOver 0 = .ok (.aload_n 0, 1) := by decide +kernel
theorem dX2_isOver_1 : decode cX2_isOver 1 = .ok (.iload_n 1, 1) := by decide +kernel
theorem dX2_isOver_2 : decode cX2_isOver 2 = .ok (.invokevirtual 100, 3) := by decide +kernel
theorem dX2_isOver_5 : decode cX2_isOver 5 = .ok (.ifCond .eq 15, 3) := by decide +kernel
theorem dX2_isOver_8 : decode cX2_isOver 8 = .ok (.aload_n 0, 1) := by decide +kernel
theorem dX2_isOver_9 : decode cX2_isOver 9 = .ok (.iload_n 1, 1) := by decide +kernel
theorem dX2_isOver_10 : decode cX2_isOver 10 = .ok (.invokevirtual 74, 3) := by decide +kernel
theorem dX2_isOver_13 : decode cX2_isOver 13 = .ok (.ifCond .eq 7, 3) := by decide +kernel
theorem dX2_isOver_16 : decode cX2_isOver 16 = .ok (.iconst 1, 1) := by decide +kernel
theorem dX2_isOver_17 : decode cX2_isOver 17 = .ok (.goto 4, 3) := by decide +kernel
theorem dX2_isOver_20 : decode cX2_isOver 20 = .ok (.iconst 0, 1) := by decide +kernel
theorem dX2_isOver_21 : decode cX2_isOver 21 = .ok (.ireturn, 1) := by decide +kernel
set_option maxRecDepth 20000 in
theorem ggX2_sizeOf_X2_isThing : GoodIn wsX2_sizeOf wsX2_isThing := goodIn_r _ [7, 8, 9, 10, 6, 11, 12, 13, 14, 15, 16, 17, 18, 19, 20, 21, 22, 23, 24, 25, 26, 27, 28, 29, 30, 31, 32, 33] (by decide +kernel) (by decide +kernel)
set_option maxRecDepth 20000 in
theorem gX2_sizeOf_X2_isThing : GoodIn wsX2_sizeOf (wsV RX2 100 RX2 yX2_isThing wsX2_isThing) := goodIn_app (goodIn_of _ (by decide +kernel)) ggX2_sizeOf_X2_isThing
theorem dX2_sizeOf_0 : decode cX2_sizeOf 0 = .ok (.aload_n 0, 1) := by decide +kernel
theorem dX2_sizeOf_1 : decode cX2_sizeOf 1 = .ok (.iload_n 1, 1) := by decide +kernel
theorem dX2_sizeOf_2 : decode cX2_sizeOf 2 = .ok (.invokevirtual 100, 3) := by decide +kernel
theorem dX2_sizeOf_5 : decode cX2_sizeOf 5 = .ok (.ifCond .eq 21, 3) := by decide +kernel
theorem dX2_sizeOf_8 : decode cX2_sizeOf 8 = .ok (.aload_n 0, 1) := by decide +kernel
theorem dX2_sizeOf_9 : decode cX2_sizeOf 9 = .ok (.getfield 7, 3) := by decide +kernel
theorem dX2_sizeOf_12 : decode cX2_sizeOf 12 = .ok (.iload_n 1, 1) := by decide +kernel
theorem dX2_sizeOf_13 : decode cX2_sizeOf 13 = .ok (.baload, 1) := by decide +kernel
theorem dX2_sizeOf_14 : decode cX2_sizeOf 14 = .ok (.ifCond .eq 12, 3) := by decide +kernel
theorem dX2_sizeOf_17 : decode cX2_sizeOf 17 = .ok (.aload_n 0, 1) := by decide +kernel
theorem dX2_sizeOf_18 : decode cX2_sizeOf 18 = .ok (.getfield 16, 3) := by decide +kernel
theorem dX2_sizeOf_21 : decode cX2_sizeOf 21 = .ok (.iload_n 1, 1) := by decide +kernel
theorem dX2_sizeOf_22 : decode cX2_sizeOf 22 = .ok (.iaload, 1) := by decide +kernel
theorem dX2_sizeOf_23 : decode cX2_sizeOf 23 = .ok (.goto 4, 3) := by decide +kernel
theorem dX2_sizeOf_26 : decode cX2_sizeOf 26 = .ok (.iconst 0, 1) := by decide +kernel
theorem dX2_sizeOf_27 : decode cX2_sizeOf 27 = .ok (.ireturn, 1) := by decide +kernel
set_option maxRecDepth 20000 in
theorem ggX2_frequencyOf_X2_isThing : GoodIn wsX2_frequencyOf wsX2_isThing := goodIn_r _ [7, 8, 9, 10, 6, 11, 12, 13, 14, 15, 16, 17, 18, 19, 20, 21, 22, 23, 24, 25, 26, 27, 28, 29, 30, 31, 32, 33] (by decide +kernel) (by decide +kernel)
set_option maxRecDepth 20000 in
theorem gX2_frequencyOf_X2_isThing : GoodIn wsX2_frequencyOf (wsV RX2 100 RX2 yX2_isThing wsX2_isThing) := goodIn_app (goodIn_of _ (by decide +kernel)) ggX2_frequencyOf_X2_isThing
theorem dX2_frequencyOf_0 : decode cX2_frequencyOf 0 = .ok (.aload_n 0, 1) := by decide +kernel
theorem dX2_frequencyOf_1 : decode cX2_frequencyOf 1 = .ok (.iload_n 1, 1) := by decide +kernel
theorem dX2_frequencyOf_2 : decode cX2_frequencyOf 2 = .ok (.invokevirtual 100, 3) := by decide +kernel
theorem dX2_frequencyOf_5 : decode cX2_frequencyOf 5 = .ok (.ifCond .eq 21, 3) := by decide +kernel
theorem dX2_frequencyOf_8 : decode cX2_frequencyOf 8 = .ok (.aload_n 0, 1) := by decide +kernel
theorem dX2_frequencyOf_9 : decode cX2_frequencyOf 9 = .ok (.getfield 7, 3) := by decide +kernel
theorem dX2_frequencyOf_12 : decode cX2_frequencyOf 12 = .ok (.iload_n 1, 1) := by decide +kernel
theorem dX2_frequencyOf_13 : decode cX2_frequencyOf 13 = .ok (.baload, 1) := by decide +kernel
theorem dX2_frequencyOf_14 : decode cX2_frequencyOf 14 = .ok (.ifCond .eq 12, 3) := by decide +kernel
theorem dX2_frequencyOf_17 : decode cX2_frequencyOf 17 = .ok (.aload_n 0, 1) := by decide +kernel
theorem dX2_frequencyOf_18 : decode cX2_frequencyOf 18 = .ok (.getfield 23, 3) := by decide +kernel
theorem dX2_frequencyOf_21 : decode cX2_frequencyOf 21 = .ok (.iload_n 1, 1) := by decide +kernel
theorem dX2_frequencyOf_22 : decode cX2_frequencyOf 22 = .ok (.iaload, 1) := by decide +kernel
theorem dX2_frequencyOf_23 : decode cX2_frequencyOf 23 = .ok (.goto 4, 3) := by decide +kernel
theorem dX2_frequencyOf_26 : decode cX2_frequencyOf 26 = .ok (.iconst 0, 1) := by decide +kernel
theorem dX2_frequencyOf_27 : decode cX2_frequencyOf 27 = .ok (.ireturn, 1) := by decide +kernel
set_option maxRecDepth 20000 in
theorem ggX2_worthOf_X2_isThing : GoodIn wsX2_worthOf wsX2_isThing := goodIn_r _ [8, 9, 10, 11, 7, 12, 13, 14, 15, 16, 17, 18, 19, 20, 21, 22, 23, 24, 25, 26, 27, 28, 29, 30, 31, 32, 33, 34] (by decide +kernel) (by decide +kernel)
set_option maxRecDepth 20000 in
theorem gX2_worthOf_X2_isThing : GoodIn wsX2_worthOf (wsV RX2 100 RX2 yX2_isThing wsX2_isThing) := goodIn_app (goodIn_of _ (by decide +kernel)) ggX2_worthOf_X2_isThing
theorem dX2_worthOf_0 : decode cX2_worthOf 0 = .ok (.aload_n 0, 1) := by decide +kernel
theorem dX2_worthOf_1 : decode cX2_worthOf 1 = .ok (.iload_n 1, 1) := by decide +kernel
theorem dX2_worthOf_2 : decode cX2_worthOf 2 = .ok (.invokevirtual 100, 3) := by decide +kernel
theorem dX2_worthOf_5 : decode cX2_worthOf 5 = .ok (.ifCond .ne 7, 3) := by decide +kernel
theorem dX2_worthOf_8 : decode cX2_worthOf 8 = .ok (.lconst 0, 1) := by decide +kernel
theorem dX2_worthOf_9 : decode cX2_worthOf 9 = .ok (.goto 24, 3) := by decide +kernel
theorem dX2_worthOf_12 : decode cX2_worthOf 12 = .ok (.aload_n 0, 1) := by decide +kernel
theorem dX2_worthOf_13 : decode cX2_worthOf 13 = .ok (.getfield 7, 3) := by decide +kernel
theorem dX2_worthOf_16 : decode cX2_worthOf 16 = .ok (.iload_n 1, 1) := by decide +kernel
theorem dX2_worthOf_17 : decode cX2_worthOf 17 = .ok (.baload, 1) := by decide +kernel
theorem dX2_worthOf_18 : decode cX2_worthOf 18 = .ok (.ifCond .eq 12, 3) := by decide +kernel
theorem dX2_worthOf_21 : decode cX2_worthOf 21 = .ok (.aload_n 0, 1) := by decide +kernel
theorem dX2_worthOf_22 : decode cX2_worthOf 22 = .ok (.getfield 26, 3) := by decide +kernel
theorem dX2_worthOf_25 : decode cX2_worthOf 25 = .ok (.iload_n 1, 1) := by decide +kernel
theorem dX2_worthOf_26 : decode cX2_worthOf 26 = .ok (.laload, 1) := by decide +kernel
theorem dX2_worthOf_27 : decode cX2_worthOf 27 = .ok (.goto 6, 3) := by decide +kernel
theorem dX2_worthOf_30 : decode cX2_worthOf 30 = .ok (.ldc2_w 128, 3) := by decide +kernel
theorem dX2_worthOf_33 : decode cX2_worthOf 33 = .ok (.lreturn, 1) := by decide +kernel
set_option maxRecDepth 20000 in
theorem ggX2_endOf_X2_isThing : GoodIn wsX2_endOf wsX2_isThing := goodIn_r _ [7, 8, 9, 10, 6, 11, 12, 13, 14, 15, 16, 17, 18, 19, 20, 21, 22, 23, 24, 25, 26, 27, 28, 29, 30, 31, 32, 33] (by decide +kernel) (by decide +kernel)
set_option maxRecDepth 20000 in
theorem gX2_endOf_X2_isThing : GoodIn wsX2_endOf (wsV RX2 100 RX2 yX2_isThing wsX2_isThing) := goodIn_app (goodIn_of _ (by decide +kernel)) ggX2_endOf_X2_isThing
theorem dX2_endOf_0 : decode cX2_endOf 0 = .ok (.aload_n 0, 1) := by decide +kernel
theorem dX2_endOf_1 : decode cX2_endOf 1 = .ok (.iload_n 1, 1) := by decide +kernel
theorem dX2_endOf_2 : decode cX2_endOf 2 = .ok (.invokevirtual 100, 3) := by decide +kernel
theorem dX2_endOf_5 : decode cX2_endOf 5 = .ok (.ifCond .ne 7, 3) := by decide +kernel
theorem dX2_endOf_8 : decode cX2_endOf 8 = .ok (.iconst 0, 1) := by decide +kernel
theorem dX2_endOf_9 : decode cX2_endOf 9 = .ok (.goto 22, 3) := by decide +kernel
theorem dX2_endOf_12 : decode cX2_endOf 12 = .ok (.aload_n 0, 1) := by decide +kernel
theorem dX2_endOf_13 : decode cX2_endOf 13 = .ok (.getfield 7, 3) := by decide +kernel
theorem dX2_endOf_16 : decode cX2_endOf 16 = .ok (.iload_n 1, 1) := by decide +kernel
theorem dX2_endOf_17 : decode cX2_endOf 17 = .ok (.baload, 1) := by decide +kernel
theorem dX2_endOf_18 : decode cX2_endOf 18 = .ok (.ifCond .eq 12, 3) := by decide +kernel
theorem dX2_endOf_21 : decode cX2_endOf 21 = .ok (.aload_n 0, 1) := by decide +kernel
theorem dX2_endOf_22 : decode cX2_endOf 22 = .ok (.getfield 30, 3) := by decide +kernel
theorem dX2_endOf_25 : decode cX2_endOf 25 = .ok (.iload_n 1, 1) := by decide +kernel
theorem dX2_endOf_26 : decode cX2_endOf 26 = .ok (.iaload, 1) := by decide +kernel
theorem dX2_endOf_27 : decode cX2_endOf 27 = .ok (.goto 4, 3) := by decide +kernel
theorem dX2_endOf_30 : decode cX2_endOf 30 = .ok (.iconst (-1), 1) := by decide +kernel
theorem dX2_endOf_31 : decode cX2_endOf 31 = .ok (.ireturn, 1) := by decide +kernel
set_option maxRecDepth 20000 in
theorem ggX2_leaving_X2_at : GoodIn wsX2_leaving wsX2_at := goodIn_r _ [6, 7, 8, 9, 5, 10, 11, 12, 13, 14, 15, 16, 17, 18, 19, 20, 21, 22, 23, 24, 25, 26, 27, 28, 29, 30, 31, 32, 33, 34, 35, 36, 37, 38, 39, 40] (by decide +kernel) (by decide +kernel)
set_option maxRecDepth 20000 in
theorem gX2_leaving_X2_at : GoodIn wsX2_leaving (wsV RX2 64 RX2 yX2_at wsX2_at) := goodIn_app (goodIn_of _ (by decide +kernel)) ggX2_leaving_X2_at
theorem dX2_leaving_0 : decode cX2_leaving 0 = .ok (.iload_n 1, 1) := by decide +kernel
theorem dX2_leaving_1 : decode cX2_leaving 1 = .ok (.ifCond .ge 7, 3) := by decide +kernel
theorem dX2_leaving_4 : decode cX2_leaving 4 = .ok (.iconst (-1), 1) := by decide +kernel
theorem dX2_leaving_5 : decode cX2_leaving 5 = .ok (.goto 8, 3) := by decide +kernel
theorem dX2_leaving_8 : decode cX2_leaving 8 = .ok (.aload_n 0, 1) := by decide +kernel
theorem dX2_leaving_9 : decode cX2_leaving 9 = .ok (.iload_n 1, 1) := by decide +kernel
theorem dX2_leaving_10 : decode cX2_leaving 10 = .ok (.invokevirtual 64, 3) := by decide +kernel
theorem dX2_leaving_13 : decode cX2_leaving 13 = .ok (.istore_n 2, 1) := by decide +kernel
theorem dX2_leaving_14 : decode cX2_leaving 14 = .ok (.aload_n 0, 1) := by decide +kernel
theorem dX2_leaving_15 : decode cX2_leaving 15 = .ok (.iload_n 2, 1) := by decide +kernel
theorem dX2_leaving_16 : decode cX2_leaving 16 = .ok (.iconst (-1), 1) := by decide +kernel
theorem dX2_leaving_17 : decode cX2_leaving 17 = .ok (.if_icmp .ne 7, 3) := by decide +kernel
theorem dX2_leaving_20 : decode cX2_leaving 20 = .ok (.iconst 1, 1) := by decide +kernel
theorem dX2_leaving_21 : decode cX2_leaving 21 = .ok (.goto 4, 3) := by decide +kernel
theorem dX2_leaving_24 : decode cX2_leaving 24 = .ok (.iconst 0, 1) := by decide +kernel
theorem dX2_leaving_25 : decode cX2_leaving 25 = .ok (.putfield 46, 3) := by decide +kernel
theorem dX2_leaving_28 : decode cX2_leaving 28 = .ok (.aload_n 0, 1) := by decide +kernel
theorem dX2_leaving_29 : decode cX2_leaving 29 = .ok (.getfield 46, 3) := by decide +kernel
theorem dX2_leaving_32 : decode cX2_leaving 32 = .ok (.ifCond .ne 7, 3) := by decide +kernel
theorem dX2_leaving_35 : decode cX2_leaving 35 = .ok (.iload_n 2, 1) := by decide +kernel
theorem dX2_leaving_36 : decode cX2_leaving 36 = .ok (.goto 4, 3) := by decide +kernel
theorem dX2_leaving_39 : decode cX2_leaving 39 = .ok (.iconst 0, 1) := by decide +kernel
theorem dX2_leaving_40 : decode cX2_leaving 40 = .ok (.ireturn, 1) := by decide +kernel
set_option maxRecDepth 20000 in
theorem ggX2_placeOf_X2_isThing : GoodIn wsX2_placeOf wsX2_isThing := goodIn_r _ [5, 6, 7, 8, 4, 9, 22, 23, 24, 25, 26, 27, 28, 29, 30, 31, 32, 33, 34, 35, 36, 37, 38, 39, 40, 41, 42, 43] (by decide +kernel) (by decide +kernel)
set_option maxRecDepth 20000 in
theorem gX2_placeOf_X2_isThing : GoodIn wsX2_placeOf (wsV RX2 100 RX2 yX2_isThing wsX2_isThing) := goodIn_app (goodIn_of _ (by decide +kernel)) ggX2_placeOf_X2_isThing
set_option maxRecDepth 20000 in
theorem ggX2_placeOf_X2_place : GoodIn wsX2_placeOf wsX2_place := goodIn_r _ [13, 14, 15, 16, 17, 18, 4, 19, 20, 21, 22, 23, 24, 25, 26, 27, 28, 29, 30, 31, 32, 33, 34, 35, 36, 37, 38, 39, 40, 41, 42, 43] (by decide +kernel) (by decide +kernel)
set_option maxRecDepth 20000 in
theorem gX2_placeOf_X2_place : GoodIn wsX2_placeOf (wsV RX2 60 RX2 yX2_place wsX2_place) := goodIn_app (goodIn_of _ (by decide +kernel)) ggX2_placeOf_X2_place
theorem dX2_placeOf_0 : decode cX2_placeOf 0 = .ok (.aload_n 0, 1) := by decide +kernel
theorem dX2_placeOf_1 : decode cX2_placeOf 1 = .ok (.iload_n 1, 1) := by decide +kernel
theorem dX2_placeOf_2 : decode cX2_placeOf 2 = .ok (.invokevirtual 100, 3) := by decide +kernel
theorem dX2_placeOf_5 : decode cX2_placeOf 5 = .ok (.ifCond .eq 11, 3) := by decide +kernel
theorem dX2_placeOf_8 : decode cX2_placeOf 8 = .ok (.aload_n 0, 1) := by decide +kernel
theorem dX2_placeOf_9 : decode cX2_placeOf 9 = .ok (.iload_n 1, 1) := by decide +kernel
theorem dX2_placeOf_10 : decode cX2_placeOf 10 = .ok (.invokevirtual 60, 3) := by decide +kernel
theorem dX2_placeOf_13 : decode cX2_placeOf 13 = .ok (.goto 4, 3) := by decide +kernel
theorem dX2_placeOf_16 : decode cX2_placeOf 16 = .ok (.iconst 0, 1) := by decide +kernel
theorem dX2_placeOf_17 : decode cX2_placeOf 17 = .ok (.ireturn, 1) := by decide +kernel
theorem dX2_endsFirst_0 : decode cX2_endsFirst 0 = .ok (.aload_n 0, 1) := by decide +kernel
theorem dX2_endsFirst_1 : decode cX2_endsFirst 1 = .ok (.iconst 0, 1) := by decide +kernel
theorem dX2_endsFirst_2 : decode cX2_endsFirst 2 = .ok (.putfield 46, 3) := by decide +kernel
theorem dX2_endsFirst_5 : decode cX2_endsFirst 5 = .ok (.iconst (-1), 1) := by decide +kernel
theorem dX2_endsFirst_6 : decode cX2_endsFirst 6 = .ok (.istore_n 1, 1) := by decide +kernel
theorem dX2_endsFirst_7 : decode cX2_endsFirst 7 = .ok (.iconst 0, 1) := by decide +kernel
theorem dX2_endsFirst_8 : decode cX2_endsFirst 8 = .ok (.istore_n 2, 1) := by decide +kernel
theorem dX2_endsFirst_9 : decode cX2_endsFirst 9 = .ok (.iload_n 2, 1) := by decide +kernel
theorem dX2_endsFirst_10 : decode cX2_endsFirst 10 = .ok (.bipush 32, 2) := by decide +kernel
theorem dX2_endsFirst_12 : decode cX2_endsFirst 12 = .ok (.if_icmp .ge 44, 3) := by decide +kernel
theorem dX2_endsFirst_15 : decode cX2_endsFirst 15 = .ok (.aload_n 0, 1) := by decide +kernel
theorem dX2_endsFirst_16 : decode cX2_endsFirst 16 = .ok (.getfield 7, 3) := by decide +kernel
theorem dX2_endsFirst_19 : decode cX2_endsFirst 19 = .ok (.iload_n 2, 1) := by decide +kernel
theorem dX2_endsFirst_20 : decode cX2_endsFirst 20 = .ok (.baload, 1) := by decide +kernel
theorem dX2_endsFirst_21 : decode cX2_endsFirst 21 = .ok (.ifCond .eq 27, 3) := by decide +kernel
theorem dX2_endsFirst_24 : decode cX2_endsFirst 24 = .ok (.iload_n 1, 1) := by decide +kernel
theorem dX2_endsFirst_25 : decode cX2_endsFirst 25 = .ok (.iconst (-1), 1) := by decide +kernel
theorem dX2_endsFirst_26 : decode cX2_endsFirst 26 = .ok (.if_icmp .eq 18, 3) := by decide +kernel
theorem dX2_endsFirst_29 : decode cX2_endsFirst 29 = .ok (.aload_n 0, 1) := by decide +kernel
theorem dX2_endsFirst_30 : decode cX2_endsFirst 30 = .ok (.getfield 30, 3) := by decide +kernel
theorem dX2_endsFirst_33 : decode cX2_endsFirst 33 = .ok (.iload_n 2, 1) := by decide +kernel
theorem dX2_endsFirst_34 : decode cX2_endsFirst 34 = .ok (.iaload, 1) := by decide +kernel
theorem dX2_endsFirst_35 : decode cX2_endsFirst 35 = .ok (.aload_n 0, 1) := by decide +kernel
theorem dX2_endsFirst_36 : decode cX2_endsFirst 36 = .ok (.getfield 30, 3) := by decide +kernel
theorem dX2_endsFirst_39 : decode cX2_endsFirst 39 = .ok (.iload_n 1, 1) := by decide +kernel
theorem dX2_endsFirst_40 : decode cX2_endsFirst 40 = .ok (.iaload, 1) := by decide +kernel
theorem dX2_endsFirst_41 : decode cX2_endsFirst 41 = .ok (.if_icmp .ge 7, 3) := by decide +kernel
theorem dX2_endsFirst_44 : decode cX2_endsFirst 44 = .ok (.iload_n 2, 1) := by decide +kernel
theorem dX2_endsFirst_45 : decode cX2_endsFirst 45 = .ok (.goto 4, 3) := by decide +kernel
theorem dX2_endsFirst_48 : decode cX2_endsFirst 48 = .ok (.iload_n 1, 1) := by decide +kernel
theorem dX2_endsFirst_49 : decode cX2_endsFirst 49 = .ok (.istore_n 1, 1) := by decide +kernel
theorem dX2_endsFirst_50 : decode cX2_endsFirst 50 = .ok (.iinc 2 1, 3) := by decide +kernel
theorem dX2_endsFirst_53 : decode cX2_endsFirst 53 = .ok (.goto (-44), 3) := by decide +kernel
theorem dX2_endsFirst_56 : decode cX2_endsFirst 56 = .ok (.iload_n 1, 1) := by decide +kernel
theorem dX2_endsFirst_57 : decode cX2_endsFirst 57 = .ok (.ireturn, 1) := by decide +kernel
set_option maxRecDepth 20000 in
theorem ggX2_wouldLeave_X2_in : GoodIn wsX2_wouldLeave wsX2_in := goodIn_r _ [7] (by decide +kernel) (by decide +kernel)
set_option maxRecDepth 20000 in
theorem gX2_wouldLeave_X2_in : GoodIn wsX2_wouldLeave (va_wsS RX2 49 yX2_in wsX2_in) := goodIn_app (goodIn_of _ (by decide +kernel)) ggX2_wouldLeave_X2_in
set_option maxRecDepth 20000 in
theorem ggX2_wouldLeave_X2_usedBytes : GoodIn wsX2_wouldLeave wsX2_usedBytes := goodIn_r _ [11, 12, 3, 38, 39, 40, 41, 42, 43, 44, 45, 46, 47, 48, 49, 50, 51, 52, 53, 54, 55, 56, 57, 58, 59] (by decide +kernel) (by decide +kernel)
set_option maxRecDepth 20000 in
theorem gX2_wouldLeave_X2_usedBytes : GoodIn wsX2_wouldLeave (wsV RX2 86 RX2 yX2_usedBytes wsX2_usedBytes) := goodIn_app (goodIn_of _ (by decide +kernel)) ggX2_wouldLeave_X2_usedBytes
set_option maxRecDepth 20000 in
theorem ggX2_wouldLeave_X2_pinnedBytes : GoodIn wsX2_wouldLeave wsX2_pinnedBytes := goodIn_r _ [16, 12, 17, 3, 18, 19, 20, 6, 21, 22, 23, 38, 39, 40, 41, 42, 43, 44, 45, 46, 47, 48, 49, 50, 51, 52, 53, 54, 55, 56, 57, 58, 59] (by decide +kernel) (by decide +kernel)
set_option maxRecDepth 20000 in
theorem gX2_wouldLeave_X2_pinnedBytes : GoodIn wsX2_wouldLeave (wsV RX2 93 RX2 yX2_pinnedBytes wsX2_pinnedBytes) := goodIn_app (goodIn_of _ (by decide +kernel)) ggX2_wouldLeave_X2_pinnedBytes
set_option maxRecDepth 20000 in
theorem ggX2_wouldLeave_X2_over : GoodIn wsX2_wouldLeave wsX2_over := goodIn_r _ [21, 12, 22, 23, 38, 39, 40, 41, 42, 43, 44, 45, 46, 47, 48, 49, 50, 51, 52, 53, 54, 55, 56, 57, 58, 59] (by decide +kernel) (by decide +kernel)
set_option maxRecDepth 20000 in
theorem gX2_wouldLeave_X2_over : GoodIn wsX2_wouldLeave (wsV RX2 74 RX2 yX2_over wsX2_over) := goodIn_app (goodIn_of _ (by decide +kernel)) ggX2_wouldLeave_X2_over
set_option maxRecDepth 20000 in
theorem ggX2_wouldLeave_X2_at : GoodIn wsX2_wouldLeave wsX2_at := goodIn_r _ [27, 28, 29, 30, 6, 31, 12, 17, 32, 33, 34, 35, 36, 37, 38, 39, 40, 41, 42, 43, 44, 45, 46, 47, 48, 49, 50, 51, 52, 53, 54, 55, 56, 57, 58, 59] (by decide +kernel) (by decide +kernel)
set_option maxRecDepth 20000 in
theorem gX2_wouldLeave_X2_at : GoodIn wsX2_wouldLeave (wsV RX2 64 RX2 yX2_at wsX2_at) := goodIn_app (goodIn_of _ (by decide +kernel)) ggX2_wouldLeave_X2_at
theorem dX2_wouldLeave_0 : decode cX2_wouldLeave 0 = .ok (.aload_n 0, 1) := by decide +kernel
theorem dX2_wouldLeave_1 : decode cX2_wouldLeave 1 = .ok (.iload_n 1, 1) := by decide +kernel
theorem dX2_wouldLeave_2 : decode cX2_wouldLeave 2 = .ok (.iconst 1, 1) := by decide +kernel
theorem dX2_wouldLeave_3 : decode cX2_wouldLeave 3 = .ok (.sipush 1000, 3) := by decide +kernel
theorem dX2_wouldLeave_6 : decode cX2_wouldLeave 6 = .ok (.invokestatic 49, 3) := by decide +kernel
theorem dX2_wouldLeave_9 : decode cX2_wouldLeave 9 = .ok (.ifCond .eq 7, 3) := by decide +kernel
theorem dX2_wouldLeave_12 : decode cX2_wouldLeave 12 = .ok (.iconst 0, 1) := by decide +kernel
theorem dX2_wouldLeave_13 : decode cX2_wouldLeave 13 = .ok (.goto 4, 3) := by decide +kernel
theorem dX2_wouldLeave_16 : decode cX2_wouldLeave 16 = .ok (.iconst 1, 1) := by decide +kernel
theorem dX2_wouldLeave_17 : decode cX2_wouldLeave 17 = .ok (.putfield 46, 3) := by decide +kernel
theorem dX2_wouldLeave_20 : decode cX2_wouldLeave 20 = .ok (.aload_n 0, 1) := by decide +kernel
theorem dX2_wouldLeave_21 : decode cX2_wouldLeave 21 = .ok (.getfield 46, 3) := by decide +kernel
theorem dX2_wouldLeave_24 : decode cX2_wouldLeave 24 = .ok (.ifCond .le 5, 3) := by decide +kernel
theorem dX2_wouldLeave_27 : decode cX2_wouldLeave 27 = .ok (.iconst 0, 1) := by decide +kernel
theorem dX2_wouldLeave_28 : decode cX2_wouldLeave 28 = .ok (.ireturn, 1) := by decide +kernel
theorem dX2_wouldLeave_29 : decode cX2_wouldLeave 29 = .ok (.aload_n 0, 1) := by decide +kernel
theorem dX2_wouldLeave_30 : decode cX2_wouldLeave 30 = .ok (.invokevirtual 86, 3) := by decide +kernel
theorem dX2_wouldLeave_33 : decode cX2_wouldLeave 33 = .ok (.istore_n 2, 1) := by decide +kernel
theorem dX2_wouldLeave_34 : decode cX2_wouldLeave 34 = .ok (.iload_n 2, 1) := by decide +kernel
theorem dX2_wouldLeave_35 : decode cX2_wouldLeave 35 = .ok (.iload_n 1, 1) := by decide +kernel
theorem dX2_wouldLeave_36 : decode cX2_wouldLeave 36 = .ok (.iadd, 1) := by decide +kernel
theorem dX2_wouldLeave_37 : decode cX2_wouldLeave 37 = .ok (.aload_n 0, 1) := by decide +kernel
theorem dX2_wouldLeave_38 : decode cX2_wouldLeave 38 = .ok (.getfield 39, 3) := by decide +kernel
theorem dX2_wouldLeave_41 : decode cX2_wouldLeave 41 = .ok (.if_icmp .gt 5, 3) := by decide +kernel
theorem dX2_wouldLeave_44 : decode cX2_wouldLeave 44 = .ok (.iconst 0, 1) := by decide +kernel
theorem dX2_wouldLeave_45 : decode cX2_wouldLeave 45 = .ok (.ireturn, 1) := by decide +kernel
theorem dX2_wouldLeave_46 : decode cX2_wouldLeave 46 = .ok (.aload_n 0, 1) := by decide +kernel
theorem dX2_wouldLeave_47 : decode cX2_wouldLeave 47 = .ok (.iconst 0, 1) := by decide +kernel
theorem dX2_wouldLeave_48 : decode cX2_wouldLeave 48 = .ok (.invokevirtual 93, 3) := by decide +kernel
theorem dX2_wouldLeave_51 : decode cX2_wouldLeave 51 = .ok (.iload_n 1, 1) := by decide +kernel
theorem dX2_wouldLeave_52 : decode cX2_wouldLeave 52 = .ok (.iadd, 1) := by decide +kernel
theorem dX2_wouldLeave_53 : decode cX2_wouldLeave 53 = .ok (.aload_n 0, 1) := by decide +kernel
theorem dX2_wouldLeave_54 : decode cX2_wouldLeave 54 = .ok (.getfield 39, 3) := by decide +kernel
theorem dX2_wouldLeave_57 : decode cX2_wouldLeave 57 = .ok (.if_icmp .le 5, 3) := by decide +kernel
theorem dX2_wouldLeave_60 : decode cX2_wouldLeave 60 = .ok (.iconst (-1), 1) := by decide +kernel
theorem dX2_wouldLeave_61 : decode cX2_wouldLeave 61 = .ok (.ireturn, 1) := by decide +kernel
theorem dX2_wouldLeave_62 : decode cX2_wouldLeave 62 = .ok (.iconst 0, 1) := by decide +kernel
theorem dX2_wouldLeave_63 : decode cX2_wouldLeave 63 = .ok (.istore_n 3, 1) := by decide +kernel
theorem dX2_wouldLeave_64 : decode cX2_wouldLeave 64 = .ok (.iload_n 3, 1) := by decide +kernel
theorem dX2_wouldLeave_65 : decode cX2_wouldLeave 65 = .ok (.bipush 32, 2) := by decide +kernel
theorem dX2_wouldLeave_67 : decode cX2_wouldLeave 67 = .ok (.if_icmp .ge 30, 3) := by decide +kernel
theorem dX2_wouldLeave_70 : decode cX2_wouldLeave 70 = .ok (.iload_n 2, 1) := by decide +kernel
theorem dX2_wouldLeave_71 : decode cX2_wouldLeave 71 = .ok (.aload_n 0, 1) := by decide +kernel
theorem dX2_wouldLeave_72 : decode cX2_wouldLeave 72 = .ok (.iload_n 3, 1) := by decide +kernel
theorem dX2_wouldLeave_73 : decode cX2_wouldLeave 73 = .ok (.invokevirtual 74, 3) := by decide +kernel
theorem dX2_wouldLeave_76 : decode cX2_wouldLeave 76 = .ok (.ifCond .eq 12, 3) := by decide +kernel
theorem dX2_wouldLeave_79 : decode cX2_wouldLeave 79 = .ok (.aload_n 0, 1) := by decide +kernel
theorem dX2_wouldLeave_80 : decode cX2_wouldLeave 80 = .ok (.getfield 16, 3) := by decide +kernel
theorem dX2_wouldLeave_83 : decode cX2_wouldLeave 83 = .ok (.iload_n 3, 1) := by decide +kernel
theorem dX2_wouldLeave_84 : decode cX2_wouldLeave 84 = .ok (.iaload, 1) := by decide +kernel
theorem dX2_wouldLeave_85 : decode cX2_wouldLeave 85 = .ok (.goto 4, 3) := by decide +kernel
theorem dX2_wouldLeave_88 : decode cX2_wouldLeave 88 = .ok (.iconst 0, 1) := by decide +kernel
theorem dX2_wouldLeave_89 : decode cX2_wouldLeave 89 = .ok (.isub, 1) := by decide +kernel
theorem dX2_wouldLeave_90 : decode cX2_wouldLeave 90 = .ok (.istore_n 2, 1) := by decide +kernel
theorem dX2_wouldLeave_91 : decode cX2_wouldLeave 91 = .ok (.iinc 3 1, 3) := by decide +kernel
theorem dX2_wouldLeave_94 : decode cX2_wouldLeave 94 = .ok (.goto (-30), 3) := by decide +kernel
theorem dX2_wouldLeave_97 : decode cX2_wouldLeave 97 = .ok (.iconst 0, 1) := by decide +kernel
theorem dX2_wouldLeave_98 : decode cX2_wouldLeave 98 = .ok (.istore_n 3, 1) := by decide +kernel
theorem dX2_wouldLeave_99 : decode cX2_wouldLeave 99 = .ok (.iconst 0, 1) := by decide +kernel
theorem dX2_wouldLeave_100 : decode cX2_wouldLeave 100 = .ok (.istore 4, 2) := by decide +kernel
theorem dX2_wouldLeave_102 : decode cX2_wouldLeave 102 = .ok (.iload_n 2, 1) := by decide +kernel
theorem dX2_wouldLeave_103 : decode cX2_wouldLeave 103 = .ok (.iload_n 1, 1) := by decide +kernel
theorem dX2_wouldLeave_104 : decode cX2_wouldLeave 104 = .ok (.iadd, 1) := by decide +kernel
theorem dX2_wouldLeave_105 : decode cX2_wouldLeave 105 = .ok (.aload_n 0, 1) := by decide +kernel
theorem dX2_wouldLeave_106 : decode cX2_wouldLeave 106 = .ok (.getfield 39, 3) := by decide +kernel
theorem dX2_wouldLeave_109 : decode cX2_wouldLeave 109 = .ok (.if_icmp .le 57, 3) := by decide +kernel
theorem dX2_wouldLeave_112 : decode cX2_wouldLeave 112 = .ok (.aload_n 0, 1) := by decide +kernel
theorem dX2_wouldLeave_113 : decode cX2_wouldLeave 113 = .ok (.iload 4, 2) := by decide +kernel
theorem dX2_wouldLeave_115 : decode cX2_wouldLeave 115 = .ok (.invokevirtual 64, 3) := by decide +kernel
theorem dX2_wouldLeave_118 : decode cX2_wouldLeave 118 = .ok (.istore 5, 2) := by decide +kernel
theorem dX2_wouldLeave_120 : decode cX2_wouldLeave 120 = .ok (.iload_n 3, 1) := by decide +kernel
theorem dX2_wouldLeave_121 : decode cX2_wouldLeave 121 = .ok (.aload_n 0, 1) := by decide +kernel
theorem dX2_wouldLeave_122 : decode cX2_wouldLeave 122 = .ok (.iload 5, 2) := by decide +kernel
theorem dX2_wouldLeave_124 : decode cX2_wouldLeave 124 = .ok (.invokevirtual 74, 3) := by decide +kernel
theorem dX2_wouldLeave_127 : decode cX2_wouldLeave 127 = .ok (.ifCond .eq 7, 3) := by decide +kernel
theorem dX2_wouldLeave_130 : decode cX2_wouldLeave 130 = .ok (.iconst 0, 1) := by decide +kernel
theorem dX2_wouldLeave_131 : decode cX2_wouldLeave 131 = .ok (.goto 4, 3) := by decide +kernel
theorem dX2_wouldLeave_134 : decode cX2_wouldLeave 134 = .ok (.iconst 1, 1) := by decide +kernel
theorem dX2_wouldLeave_135 : decode cX2_wouldLeave 135 = .ok (.iadd, 1) := by decide +kernel
theorem dX2_wouldLeave_136 : decode cX2_wouldLeave 136 = .ok (.istore_n 3, 1) := by decide +kernel
theorem dX2_wouldLeave_137 : decode cX2_wouldLeave 137 = .ok (.iload_n 2, 1) := by decide +kernel
theorem dX2_wouldLeave_138 : decode cX2_wouldLeave 138 = .ok (.aload_n 0, 1) := by decide +kernel
theorem dX2_wouldLeave_139 : decode cX2_wouldLeave 139 = .ok (.iload 5, 2) := by decide +kernel
theorem dX2_wouldLeave_141 : decode cX2_wouldLeave 141 = .ok (.invokevirtual 74, 3) := by decide +kernel
theorem dX2_wouldLeave_144 : decode cX2_wouldLeave 144 = .ok (.ifCond .eq 7, 3) := by decide +kernel
theorem dX2_wouldLeave_147 : decode cX2_wouldLeave 147 = .ok (.iconst 0, 1) := by decide +kernel
theorem dX2_wouldLeave_148 : decode cX2_wouldLeave 148 = .ok (.goto 10, 3) := by decide +kernel
theorem dX2_wouldLeave_151 : decode cX2_wouldLeave 151 = .ok (.aload_n 0, 1) := by decide +kernel
theorem dX2_wouldLeave_152 : decode cX2_wouldLeave 152 = .ok (.getfield 16, 3) := by decide +kernel
theorem dX2_wouldLeave_155 : decode cX2_wouldLeave 155 = .ok (.iload 5, 2) := by decide +kernel
theorem dX2_wouldLeave_157 : decode cX2_wouldLeave 157 = .ok (.iaload, 1) := by decide +kernel
theorem dX2_wouldLeave_158 : decode cX2_wouldLeave 158 = .ok (.isub, 1) := by decide +kernel
theorem dX2_wouldLeave_159 : decode cX2_wouldLeave 159 = .ok (.istore_n 2, 1) := by decide +kernel
theorem dX2_wouldLeave_160 : decode cX2_wouldLeave 160 = .ok (.iinc 4 1, 3) := by decide +kernel
theorem dX2_wouldLeave_163 : decode cX2_wouldLeave 163 = .ok (.goto (-61), 3) := by decide +kernel
theorem dX2_wouldLeave_166 : decode cX2_wouldLeave 166 = .ok (.iload_n 3, 1) := by decide +kernel
theorem dX2_wouldLeave_167 : decode cX2_wouldLeave 167 = .ok (.ireturn, 1) := by decide +kernel
theorem dX2_time_0 : decode cX2_time 0 = .ok (.aload_n 0, 1) := by decide +kernel
theorem dX2_time_1 : decode cX2_time 1 = .ok (.iconst 0, 1) := by decide +kernel
theorem dX2_time_2 : decode cX2_time 2 = .ok (.putfield 46, 3) := by decide +kernel
theorem dX2_time_5 : decode cX2_time 5 = .ok (.aload_n 0, 1) := by decide +kernel
theorem dX2_time_6 : decode cX2_time 6 = .ok (.getfield 53, 3) := by decide +kernel
theorem dX2_time_9 : decode cX2_time 9 = .ok (.ireturn, 1) := by decide +kernel
theorem dX2_clock_0 : decode cX2_clock 0 = .ok (.aload_n 0, 1) := by decide +kernel
theorem dX2_clock_1 : decode cX2_clock 1 = .ok (.iconst 0, 1) := by decide +kernel
theorem dX2_clock_2 : decode cX2_clock 2 = .ok (.putfield 46, 3) := by decide +kernel
theorem dX2_clock_5 : decode cX2_clock 5 = .ok (.aload_n 0, 1) := by decide +kernel
theorem dX2_clock_6 : decode cX2_clock 6 = .ok (.getfield 67, 3) := by decide +kernel
theorem dX2_clock_9 : decode cX2_clock 9 = .ok (.lreturn, 1) := by decide +kernel
theorem dX2_capacity_0 : decode cX2_capacity 0 = .ok (.aload_n 0, 1) := by decide +kernel
theorem dX2_capacity_1 : decode cX2_capacity 1 = .ok (.iconst 0, 1) := by decide +kernel
theorem dX2_capacity_2 : decode cX2_capacity 2 = .ok (.putfield 46, 3) := by decide +kernel
theorem dX2_capacity_5 : decode cX2_capacity 5 = .ok (.aload_n 0, 1) := by decide +kernel
theorem dX2_capacity_6 : decode cX2_capacity 6 = .ok (.getfield 39, 3) := by decide +kernel
theorem dX2_capacity_9 : decode cX2_capacity 9 = .ok (.ireturn, 1) := by decide +kernel
theorem dX2_entries_0 : decode cX2_entries 0 = .ok (.aload_n 0, 1) := by decide +kernel
theorem dX2_entries_1 : decode cX2_entries 1 = .ok (.iconst 0, 1) := by decide +kernel
theorem dX2_entries_2 : decode cX2_entries 2 = .ok (.putfield 46, 3) := by decide +kernel
theorem dX2_entries_5 : decode cX2_entries 5 = .ok (.iconst 0, 1) := by decide +kernel
theorem dX2_entries_6 : decode cX2_entries 6 = .ok (.istore_n 1, 1) := by decide +kernel
theorem dX2_entries_7 : decode cX2_entries 7 = .ok (.iconst 0, 1) := by decide +kernel
theorem dX2_entries_8 : decode cX2_entries 8 = .ok (.istore_n 2, 1) := by decide +kernel
theorem dX2_entries_9 : decode cX2_entries 9 = .ok (.iload_n 2, 1) := by decide +kernel
theorem dX2_entries_10 : decode cX2_entries 10 = .ok (.bipush 32, 2) := by decide +kernel
theorem dX2_entries_12 : decode cX2_entries 12 = .ok (.if_icmp .ge 26, 3) := by decide +kernel
theorem dX2_entries_15 : decode cX2_entries 15 = .ok (.iload_n 1, 1) := by decide +kernel
theorem dX2_entries_16 : decode cX2_entries 16 = .ok (.aload_n 0, 1) := by decide +kernel
theorem dX2_entries_17 : decode cX2_entries 17 = .ok (.getfield 7, 3) := by decide +kernel
theorem dX2_entries_20 : decode cX2_entries 20 = .ok (.iload_n 2, 1) := by decide +kernel
theorem dX2_entries_21 : decode cX2_entries 21 = .ok (.baload, 1) := by decide +kernel
theorem dX2_entries_22 : decode cX2_entries 22 = .ok (.ifCond .eq 7, 3) := by decide +kernel
theorem dX2_entries_25 : decode cX2_entries 25 = .ok (.iconst 1, 1) := by decide +kernel
theorem dX2_entries_26 : decode cX2_entries 26 = .ok (.goto 4, 3) := by decide +kernel
theorem dX2_entries_29 : decode cX2_entries 29 = .ok (.iconst 0, 1) := by decide +kernel
theorem dX2_entries_30 : decode cX2_entries 30 = .ok (.iadd, 1) := by decide +kernel
theorem dX2_entries_31 : decode cX2_entries 31 = .ok (.istore_n 1, 1) := by decide +kernel
theorem dX2_entries_32 : decode cX2_entries 32 = .ok (.iinc 2 1, 3) := by decide +kernel
theorem dX2_entries_35 : decode cX2_entries 35 = .ok (.goto (-26), 3) := by decide +kernel
theorem dX2_entries_38 : decode cX2_entries 38 = .ok (.iload_n 1, 1) := by decide +kernel
theorem dX2_entries_39 : decode cX2_entries 39 = .ok (.ireturn, 1) := by decide +kernel
set_option maxRecDepth 20000 in
theorem ggX2_used_X2_usedBytes : GoodIn wsX2_used wsX2_usedBytes := goodIn_r _ [6, 7, 8, 9, 10, 11, 12, 13, 14, 15, 16, 17, 18, 19, 20, 21, 22, 23, 24, 25, 26, 27, 28, 29, 30] (by decide +kernel) (by decide +kernel)
set_option maxRecDepth 20000 in
theorem gX2_used_X2_usedBytes : GoodIn wsX2_used (wsV RX2 86 RX2 yX2_usedBytes wsX2_usedBytes) := goodIn_app (goodIn_of _ (by decide +kernel)) ggX2_used_X2_usedBytes
theorem dX2_used_0 : decode cX2_used 0 = .ok (.aload_n 0, 1) := by decide +kernel
theorem dX2_used_1 : decode cX2_used 1 = .ok (.iconst 0, 1) := by decide +kernel
theorem dX2_used_2 : decode cX2_used 2 = .ok (.putfield 46, 3) := by decide +kernel
theorem dX2_used_5 : decode cX2_used 5 = .ok (.aload_n 0, 1) := by decide +kernel
theorem dX2_used_6 : decode cX2_used 6 = .ok (.invokevirtual 86, 3) := by decide +kernel
theorem dX2_used_9 : decode cX2_used 9 = .ok (.ireturn, 1) := by decide +kernel
theorem dX2_hits_0 : decode cX2_hits 0 = .ok (.aload_n 0, 1) := by decide +kernel
theorem dX2_hits_1 : decode cX2_hits 1 = .ok (.iconst 0, 1) := by decide +kernel
theorem dX2_hits_2 : decode cX2_hits 2 = .ok (.putfield 46, 3) := by decide +kernel
theorem dX2_hits_5 : decode cX2_hits 5 = .ok (.aload_n 0, 1) := by decide +kernel
theorem dX2_hits_6 : decode cX2_hits 6 = .ok (.getfield 107, 3) := by decide +kernel
theorem dX2_hits_9 : decode cX2_hits 9 = .ok (.ireturn, 1) := by decide +kernel
theorem dX2_misses_0 : decode cX2_misses 0 = .ok (.aload_n 0, 1) := by decide +kernel
theorem dX2_misses_1 : decode cX2_misses 1 = .ok (.iconst 0, 1) := by decide +kernel
theorem dX2_misses_2 : decode cX2_misses 2 = .ok (.putfield 46, 3) := by decide +kernel
theorem dX2_misses_5 : decode cX2_misses 5 = .ok (.aload_n 0, 1) := by decide +kernel
theorem dX2_misses_6 : decode cX2_misses 6 = .ok (.getfield 116, 3) := by decide +kernel
theorem dX2_misses_9 : decode cX2_misses 9 = .ok (.ireturn, 1) := by decide +kernel
theorem dX2_bytesHit_0 : decode cX2_bytesHit 0 = .ok (.aload_n 0, 1) := by decide +kernel
theorem dX2_bytesHit_1 : decode cX2_bytesHit 1 = .ok (.iconst 0, 1) := by decide +kernel
theorem dX2_bytesHit_2 : decode cX2_bytesHit 2 = .ok (.putfield 46, 3) := by decide +kernel
theorem dX2_bytesHit_5 : decode cX2_bytesHit 5 = .ok (.aload_n 0, 1) := by decide +kernel
theorem dX2_bytesHit_6 : decode cX2_bytesHit 6 = .ok (.getfield 110, 3) := by decide +kernel
theorem dX2_bytesHit_9 : decode cX2_bytesHit 9 = .ok (.lreturn, 1) := by decide +kernel
theorem dX2_saved_0 : decode cX2_saved 0 = .ok (.aload_n 0, 1) := by decide +kernel
theorem dX2_saved_1 : decode cX2_saved 1 = .ok (.iconst 0, 1) := by decide +kernel
theorem dX2_saved_2 : decode cX2_saved 2 = .ok (.putfield 46, 3) := by decide +kernel
theorem dX2_saved_5 : decode cX2_saved 5 = .ok (.aload_n 0, 1) := by decide +kernel
theorem dX2_saved_6 : decode cX2_saved 6 = .ok (.getfield 113, 3) := by decide +kernel
theorem dX2_saved_9 : decode cX2_saved 9 = .ok (.lreturn, 1) := by decide +kernel
theorem dX2_paid_0 : decode cX2_paid 0 = .ok (.aload_n 0, 1) := by decide +kernel
theorem dX2_paid_1 : decode cX2_paid 1 = .ok (.iconst 0, 1) := by decide +kernel
theorem dX2_paid_2 : decode cX2_paid 2 = .ok (.putfield 46, 3) := by decide +kernel
theorem dX2_paid_5 : decode cX2_paid 5 = .ok (.aload_n 0, 1) := by decide +kernel
theorem dX2_paid_6 : decode cX2_paid 6 = .ok (.getfield 119, 3) := by decide +kernel
theorem dX2_paid_9 : decode cX2_paid 9 = .ok (.lreturn, 1) := by decide +kernel
theorem dX2_left_0 : decode cX2_left 0 = .ok (.aload_n 0, 1) := by decide +kernel
theorem dX2_left_1 : decode cX2_left 1 = .ok (.iconst 0, 1) := by decide +kernel
theorem dX2_left_2 : decode cX2_left 2 = .ok (.putfield 46, 3) := by decide +kernel
theorem dX2_left_5 : decode cX2_left 5 = .ok (.aload_n 0, 1) := by decide +kernel
theorem dX2_left_6 : decode cX2_left 6 = .ok (.getfield 71, 3) := by decide +kernel
theorem dX2_left_9 : decode cX2_left 9 = .ok (.ireturn, 1) := by decide +kernel
theorem dX2_removedOver_0 : decode cX2_removedOver 0 = .ok (.aload_n 0, 1) := by decide +kernel
theorem dX2_removedOver_1 : decode cX2_removedOver 1 = .ok (.iconst 0, 1) := by decide +kernel
theorem dX2_removedOver_2 : decode cX2_removedOver 2 = .ok (.putfield 46, 3) := by decide +kernel
theorem dX2_removedOver_5 : decode cX2_removedOver 5 = .ok (.aload_n 0, 1) := by decide +kernel
theorem dX2_removedOver_6 : decode cX2_removedOver 6 = .ok (.getfield 78, 3) := by decide +kernel
theorem dX2_removedOver_9 : decode cX2_removedOver 9 = .ok (.ireturn, 1) := by decide +kernel
theorem dJ9_max_f86c9_0 : decode cJ9_max_f86c9 0 = .ok (.lload_n 0, 1) := by decide +kernel
theorem dJ9_max_f86c9_1 : decode cJ9_max_f86c9 1 = .ok (.lload_n 2, 1) := by decide +kernel
theorem dJ9_max_f86c9_2 : decode cJ9_max_f86c9 2 = .ok (.lcmp, 1) := by decide +kernel
theorem dJ9_max_f86c9_3 : decode cJ9_max_f86c9 3 = .ok (.ifCond .lt 7, 3) := by decide +kernel
theorem dJ9_max_f86c9_6 : decode cJ9_max_f86c9 6 = .ok (.lload_n 0, 1) := by decide +kernel
theorem dJ9_max_f86c9_7 : decode cJ9_max_f86c9 7 = .ok (.goto 4, 3) := by decide +kernel
theorem dJ9_max_f86c9_10 : decode cJ9_max_f86c9 10 = .ok (.lload_n 2, 1) := by decide +kernel
theorem dJ9_max_f86c9_11 : decode cJ9_max_f86c9 11 = .ok (.lreturn, 1) := by decide +kernel
set_option maxRecDepth 20000 in
theorem ggL_fetch_X1_fetch : GoodIn wsL_fetch wsX1_fetch := goodIn_ca (goodIn_ca (goodIn_r _ [7, 8, 9, 10, 6, 11, 12, 13, 14, 15, 16, 17, 18, 19, 20, 21, 22, 23, 24, 25, 26, 27, 28, 29, 30, 31, 32, 33, 34, 35, 36, 37, 38, 39, 40, 41, 42, 43, 44, 45, 46, 47, 48, 49, 50, 51, 52, 53, 54, 55, 56, 57, 58, 59, 60, 61, 62, 63, 64, 65, 66, 67, 68, 69, 70, 71, 72, 73, 74, 75, 76, 77, 78, 79, 80, 81, 82, 83, 84, 85, 86, 87, 88, 89, 90, 91, 92, 93, 94, 95, 96, 97, 98, 99, 100, 101, 102, 103, 104, 105, 106, 107, 108, 109, 110, 111, 112, 113, 114, 115, 116, 117, 118, 119, 120, 121, 122, 123, 124, 125, 126, 127, 128] (by decide +kernel) (by decide +kernel)) (goodIn_sub (fun _ h => List.mem_cons_of_mem _ (List.mem_append_left _ (List.mem_append_right _ h))) (by decide +kernel))) (goodIn_sub (fun _ h => List.mem_cons_of_mem _ (List.mem_append_right _ h)) (by decide +kernel))
set_option maxRecDepth 20000 in
theorem gL_fetch_X1_fetch : GoodIn wsL_fetch (wsV RL 7 RX1 yX1_fetch wsX1_fetch) := goodIn_app (goodIn_of _ (by decide +kernel)) ggL_fetch_X1_fetch
end
section
theorem dL_fetch_0 : decode cL_fetch 0 = .ok (.aload 5, 2) := by decide +kernel
theorem dL_fetch_2 : decode cL_fetch 2 = .ok (.iconst 0, 1) := by decide +kernel
theorem dL_fetch_3 : decode cL_fetch 3 = .ok (.aload_n 0, 1) := by decide +kernel
theorem dL_fetch_4 : decode cL_fetch 4 = .ok (.iload_n 1, 1) := by decide +kernel
theorem dL_fetch_5 : decode cL_fetch 5 = .ok (.iload_n 2, 1) := by decide +kernel
theorem dL_fetch_6 : decode cL_fetch 6 = .ok (.iload_n 3, 1) := by decide +kernel
theorem dL_fetch_7 : decode cL_fetch 7 = .ok (.iload 4, 2) := by decide +kernel
theorem dL_fetch_9 : decode cL_fetch 9 = .ok (.invokevirtual 7, 3) := by decide +kernel
theorem dL_fetch_12 : decode cL_fetch 12 = .ok (.i2l, 1) := by decide +kernel
theorem dL_fetch_13 : decode cL_fetch 13 = .ok (.lastore, 1) := by decide +kernel
theorem dL_fetch_14 : decode cL_fetch 14 = .ok (.goto 11, 3) := by decide +kernel
theorem dL_fetch_17 : decode cL_fetch 17 = .ok (.astore 6, 2) := by decide +kernel
theorem dL_fetch_19 : decode cL_fetch 19 = .ok (.iconst 1, 1) := by decide +kernel
theorem dL_fetch_20 : decode cL_fetch 20 = .ok (.ireturn, 1) := by decide +kernel
theorem dL_fetch_21 : decode cL_fetch 21 = .ok (.astore 6, 2) := by decide +kernel
theorem dL_fetch_23 : decode cL_fetch 23 = .ok (.iconst 2, 1) := by decide +kernel
theorem dL_fetch_24 : decode cL_fetch 24 = .ok (.ireturn, 1) := by decide +kernel
theorem dL_fetch_25 : decode cL_fetch 25 = .ok (.iconst 0, 1) := by decide +kernel
theorem dL_fetch_26 : decode cL_fetch 26 = .ok (.ireturn, 1) := by decide +kernel
set_option maxRecDepth 20000 in
theorem ggL_pass_X1_pass : GoodIn wsL_pass wsX1_pass := goodIn_ca (goodIn_r _ [6, 7, 8, 9, 5, 10, 11, 12, 13, 14, 15, 16, 17, 18, 19, 20, 21, 22, 23, 24, 25] (by decide +kernel) (by decide +kernel)) (goodIn_sub (fun _ h => List.mem_cons_of_mem _ (List.mem_append_right _ h)) (by decide +kernel))
set_option maxRecDepth 20000 in
theorem gL_pass_X1_pass : GoodIn wsL_pass (wsV RL 17 RX1 yX1_pass wsX1_pass) := goodIn_app (goodIn_of _ (by decide +kernel)) ggL_pass_X1_pass
theorem dL_pass_0 : decode cL_pass 0 = .ok (.aload_n 2, 1) := by decide +kernel
theorem dL_pass_1 : decode cL_pass 1 = .ok (.iconst 0, 1) := by decide +kernel
theorem dL_pass_2 : decode cL_pass 2 = .ok (.aload_n 0, 1) := by decide +kernel
theorem dL_pass_3 : decode cL_pass 3 = .ok (.iload_n 1, 1) := by decide +kernel
theorem dL_pass_4 : decode cL_pass 4 = .ok (.invokevirtual 17, 3) := by decide +kernel
theorem dL_pass_7 : decode cL_pass 7 = .ok (.i2l, 1) := by decide +kernel
theorem dL_pass_8 : decode cL_pass 8 = .ok (.lastore, 1) := by decide +kernel
theorem dL_pass_9 : decode cL_pass 9 = .ok (.goto 6, 3) := by decide +kernel
theorem dL_pass_12 : decode cL_pass 12 = .ok (.astore_n 3, 1) := by decide +kernel
theorem dL_pass_13 : decode cL_pass 13 = .ok (.iconst 1, 1) := by decide +kernel
theorem dL_pass_14 : decode cL_pass 14 = .ok (.ireturn, 1) := by decide +kernel
theorem dL_pass_15 : decode cL_pass 15 = .ok (.iconst 0, 1) := by decide +kernel
theorem dL_pass_16 : decode cL_pass 16 = .ok (.ireturn, 1) := by decide +kernel
set_option maxRecDepth 20000 in
theorem ggL_pin_X1_pin : GoodIn wsL_pin wsX1_pin := goodIn_ca (goodIn_ca (goodIn_r _ [7, 8, 9, 10, 6, 11, 12, 13, 14, 15, 16, 17, 18, 19, 20, 21, 22, 23, 24, 25, 26, 27, 28, 29, 30, 31, 32, 33, 34, 35, 36, 37, 38, 39, 40, 41, 42] (by decide +kernel) (by decide +kernel)) (goodIn_sub (fun _ h => List.mem_cons_of_mem _ (List.mem_append_left _ (List.mem_append_right _ h))) (by decide +kernel))) (goodIn_sub (fun _ h => List.mem_cons_of_mem _ (List.mem_append_right _ h)) (by decide +kernel))
set_option maxRecDepth 20000 in
theorem gL_pin_X1_pin : GoodIn wsL_pin (wsV RL 21 RX1 yX1_pin wsX1_pin) := goodIn_app (goodIn_of _ (by decide +kernel)) ggL_pin_X1_pin
theorem dL_pin_0 : decode cL_pin 0 = .ok (.aload_n 3, 1) := by decide +kernel
theorem dL_pin_1 : decode cL_pin 1 = .ok (.iconst 0, 1) := by decide +kernel
theorem dL_pin_2 : decode cL_pin 2 = .ok (.aload_n 0, 1) := by decide +kernel
theorem dL_pin_3 : decode cL_pin 3 = .ok (.iload_n 1, 1) := by decide +kernel
theorem dL_pin_4 : decode cL_pin 4 = .ok (.iload_n 2, 1) := by decide +kernel
theorem dL_pin_5 : decode cL_pin 5 = .ok (.invokevirtual 21, 3) := by decide +kernel
theorem dL_pin_8 : decode cL_pin 8 = .ok (.ifCond .eq 7, 3) := by decide +kernel
theorem dL_pin_11 : decode cL_pin 11 = .ok (.lconst 1, 1) := by decide +kernel
theorem dL_pin_12 : decode cL_pin 12 = .ok (.goto 4, 3) := by decide +kernel
theorem dL_pin_15 : decode cL_pin 15 = .ok (.lconst 0, 1) := by decide +kernel
theorem dL_pin_16 : decode cL_pin 16 = .ok (.lastore, 1) := by decide +kernel
theorem dL_pin_17 : decode cL_pin 17 = .ok (.goto 11, 3) := by decide +kernel
theorem dL_pin_20 : decode cL_pin 20 = .ok (.astore 4, 2) := by decide +kernel
theorem dL_pin_22 : decode cL_pin 22 = .ok (.iconst 1, 1) := by decide +kernel
theorem dL_pin_23 : decode cL_pin 23 = .ok (.ireturn, 1) := by decide +kernel
theorem dL_pin_24 : decode cL_pin 24 = .ok (.astore 4, 2) := by decide +kernel
theorem dL_pin_26 : decode cL_pin 26 = .ok (.iconst 2, 1) := by decide +kernel
theorem dL_pin_27 : decode cL_pin 27 = .ok (.ireturn, 1) := by decide +kernel
theorem dL_pin_28 : decode cL_pin 28 = .ok (.iconst 0, 1) := by decide +kernel
theorem dL_pin_29 : decode cL_pin 29 = .ok (.ireturn, 1) := by decide +kernel
set_option maxRecDepth 20000 in
theorem ggL_drop_X1_drop : GoodIn wsL_drop wsX1_drop := goodIn_ca (goodIn_ca (goodIn_r _ [7, 8, 9, 10, 6, 11, 12, 13, 14, 15, 16, 17, 18, 19, 20, 21, 22, 23, 24, 25, 26, 27, 28, 29, 30, 31, 32, 33, 34, 35, 36, 37, 38, 39, 40, 41, 42] (by decide +kernel) (by decide +kernel)) (goodIn_sub (fun _ h => List.mem_cons_of_mem _ (List.mem_append_left _ (List.mem_append_right _ h))) (by decide +kernel))) (goodIn_sub (fun _ h => List.mem_cons_of_mem _ (List.mem_append_right _ h)) (by decide +kernel))
set_option maxRecDepth 20000 in
theorem gL_drop_X1_drop : GoodIn wsL_drop (wsV RL 27 RX1 yX1_drop wsX1_drop) := goodIn_app (goodIn_of _ (by decide +kernel)) ggL_drop_X1_drop
theorem dL_drop_0 : decode cL_drop 0 = .ok (.aload_n 2, 1) := by decide +kernel
theorem dL_drop_1 : decode cL_drop 1 = .ok (.iconst 0, 1) := by decide +kernel
theorem dL_drop_2 : decode cL_drop 2 = .ok (.aload_n 0, 1) := by decide +kernel
theorem dL_drop_3 : decode cL_drop 3 = .ok (.iload_n 1, 1) := by decide +kernel
theorem dL_drop_4 : decode cL_drop 4 = .ok (.invokevirtual 27, 3) := by decide +kernel
theorem dL_drop_7 : decode cL_drop 7 = .ok (.i2l, 1) := by decide +kernel
theorem dL_drop_8 : decode cL_drop 8 = .ok (.lastore, 1) := by decide +kernel
theorem dL_drop_9 : decode cL_drop 9 = .ok (.goto 9, 3) := by decide +kernel
theorem dL_drop_12 : decode cL_drop 12 = .ok (.astore_n 3, 1) := by decide +kernel
theorem dL_drop_13 : decode cL_drop 13 = .ok (.iconst 1, 1) := by decide +kernel
theorem dL_drop_14 : decode cL_drop 14 = .ok (.ireturn, 1) := by decide +kernel
theorem dL_drop_15 : decode cL_drop 15 = .ok (.astore_n 3, 1) := by decide +kernel
theorem dL_drop_16 : decode cL_drop 16 = .ok (.iconst 2, 1) := by decide +kernel
theorem dL_drop_17 : decode cL_drop 17 = .ok (.ireturn, 1) := by decide +kernel
theorem dL_drop_18 : decode cL_drop 18 = .ok (.iconst 0, 1) := by decide +kernel
theorem dL_drop_19 : decode cL_drop 19 = .ok (.ireturn, 1) := by decide +kernel
set_option maxRecDepth 20000 in
theorem ggL_setCapacity_X1_setCapacity : GoodIn wsL_setCapacity wsX1_setCapacity := goodIn_ca (goodIn_ca (goodIn_r _ [7, 8, 9, 10, 11, 12, 6, 13, 14, 15, 16, 17, 18, 19, 20, 21, 22, 23, 24, 25, 26, 27, 28, 29, 30, 31, 32, 33, 34, 35, 36, 37, 38, 39, 40, 41, 42, 43, 44, 45, 46, 47, 48, 49, 50, 51, 52, 53, 54, 55, 56, 57, 58, 59, 60, 61, 62, 63, 64, 65, 66, 67, 68, 69, 70, 71, 72, 73, 74, 75, 76, 77, 78, 79, 80] (by decide +kernel) (by decide +kernel)) (goodIn_sub (fun _ h => List.mem_cons_of_mem _ (List.mem_append_left _ (List.mem_append_right _ h))) (by decide +kernel))) (goodIn_sub (fun _ h => List.mem_cons_of_mem _ (List.mem_append_right _ h)) (by decide +kernel))
set_option maxRecDepth 20000 in
theorem gL_setCapacity_X1_setCapacity : GoodIn wsL_setCapacity (wsV RL 30 RX1 yX1_setCapacity wsX1_setCapacity) := goodIn_app (goodIn_of _ (by decide +kernel)) ggL_setCapacity_X1_setCapacity
theorem dL_setCapacity_0 : decode cL_setCapacity 0 = .ok (.aload_n 2, 1) := by decide +kernel
theorem dL_setCapacity_1 : decode cL_setCapacity 1 = .ok (.iconst 0, 1) := by decide +kernel
theorem dL_setCapacity_2 : decode cL_setCapacity 2 = .ok (.aload_n 0, 1) := by decide +kernel
theorem dL_setCapacity_3 : decode cL_setCapacity 3 = .ok (.iload_n 1, 1) := by decide +kernel
theorem dL_setCapacity_4 : decode cL_setCapacity 4 = .ok (.invokevirtual 30, 3) := by decide +kernel
theorem dL_setCapacity_7 : decode cL_setCapacity 7 = .ok (.i2l, 1) := by decide +kernel
theorem dL_setCapacity_8 : decode cL_setCapacity 8 = .ok (.lastore, 1) := by decide +kernel
theorem dL_setCapacity_9 : decode cL_setCapacity 9 = .ok (.goto 9, 3) := by decide +kernel
theorem dL_setCapacity_12 : decode cL_setCapacity 12 = .ok (.astore_n 3, 1) := by decide +kernel
theorem dL_setCapacity_13 : decode cL_setCapacity 13 = .ok (.iconst 1, 1) := by decide +kernel
theorem dL_setCapacity_14 : decode cL_setCapacity 14 = .ok (.ireturn, 1) := by decide +kernel
theorem dL_setCapacity_15 : decode cL_setCapacity 15 = .ok (.astore_n 3, 1) := by decide +kernel
theorem dL_setCapacity_16 : decode cL_setCapacity 16 = .ok (.iconst 2, 1) := by decide +kernel
theorem dL_setCapacity_17 : decode cL_setCapacity 17 = .ok (.ireturn, 1) := by decide +kernel
theorem dL_setCapacity_18 : decode cL_setCapacity 18 = .ok (.iconst 0, 1) := by decide +kernel
theorem dL_setCapacity_19 : decode cL_setCapacity 19 = .ok (.ireturn, 1) := by decide +kernel
set_option maxRecDepth 20000 in
theorem ggL_setThreshold_X1_setThreshold : GoodIn wsL_setThreshold wsX1_setThreshold := goodIn_ca (goodIn_r _ [6, 7, 8, 9, 5, 10, 11, 12, 13, 14, 15, 16, 17, 18, 19, 20, 21, 22, 23, 24, 25] (by decide +kernel) (by decide +kernel)) (goodIn_sub (fun _ h => List.mem_cons_of_mem _ (List.mem_append_right _ h)) (by decide +kernel))
set_option maxRecDepth 20000 in
theorem gL_setThreshold_X1_setThreshold : GoodIn wsL_setThreshold (wsV RL 33 RX1 yX1_setThreshold wsX1_setThreshold) := goodIn_app (goodIn_of _ (by decide +kernel)) ggL_setThreshold_X1_setThreshold
theorem dL_setThreshold_0 : decode cL_setThreshold 0 = .ok (.aload_n 2, 1) := by decide +kernel
theorem dL_setThreshold_1 : decode cL_setThreshold 1 = .ok (.iconst 0, 1) := by decide +kernel
theorem dL_setThreshold_2 : decode cL_setThreshold 2 = .ok (.aload_n 0, 1) := by decide +kernel
theorem dL_setThreshold_3 : decode cL_setThreshold 3 = .ok (.iload_n 1, 1) := by decide +kernel
theorem dL_setThreshold_4 : decode cL_setThreshold 4 = .ok (.invokevirtual 33, 3) := by decide +kernel
theorem dL_setThreshold_7 : decode cL_setThreshold 7 = .ok (.i2l, 1) := by decide +kernel
theorem dL_setThreshold_8 : decode cL_setThreshold 8 = .ok (.lastore, 1) := by decide +kernel
theorem dL_setThreshold_9 : decode cL_setThreshold 9 = .ok (.goto 6, 3) := by decide +kernel
theorem dL_setThreshold_12 : decode cL_setThreshold 12 = .ok (.astore_n 3, 1) := by decide +kernel
theorem dL_setThreshold_13 : decode cL_setThreshold 13 = .ok (.iconst 1, 1) := by decide +kernel
theorem dL_setThreshold_14 : decode cL_setThreshold 14 = .ok (.ireturn, 1) := by decide +kernel
theorem dL_setThreshold_15 : decode cL_setThreshold 15 = .ok (.iconst 0, 1) := by decide +kernel
theorem dL_setThreshold_16 : decode cL_setThreshold 16 = .ok (.ireturn, 1) := by decide +kernel
set_option maxRecDepth 20000 in
theorem ggL_has_X1_has : GoodIn wsL_has wsX1_has := goodIn_ca (goodIn_r _ [6, 7, 8, 9, 5, 10, 11, 12, 13, 14, 15, 16, 17, 18, 19, 20, 21, 22, 23, 24, 25, 26, 27, 28, 29, 30, 31, 32, 33, 34, 35] (by decide +kernel) (by decide +kernel)) (goodIn_sub (fun _ h => List.mem_cons_of_mem _ (List.mem_append_right _ h)) (by decide +kernel))
set_option maxRecDepth 20000 in
theorem gL_has_X1_has : GoodIn wsL_has (wsV RL 36 RX1 yX1_has wsX1_has) := goodIn_app (goodIn_of _ (by decide +kernel)) ggL_has_X1_has
theorem dL_has_0 : decode cL_has 0 = .ok (.aload_n 2, 1) := by decide +kernel
theorem dL_has_1 : decode cL_has 1 = .ok (.iconst 0, 1) := by decide +kernel
theorem dL_has_2 : decode cL_has 2 = .ok (.aload_n 0, 1) := by decide +kernel
theorem dL_has_3 : decode cL_has 3 = .ok (.iload_n 1, 1) := by decide +kernel
theorem dL_has_4 : decode cL_has 4 = .ok (.invokevirtual 36, 3) := by decide +kernel
theorem dL_has_7 : decode cL_has 7 = .ok (.ifCond .eq 7, 3) := by decide +kernel
theorem dL_has_10 : decode cL_has 10 = .ok (.lconst 1, 1) := by decide +kernel
theorem dL_has_11 : decode cL_has 11 = .ok (.goto 4, 3) := by decide +kernel
theorem dL_has_14 : decode cL_has 14 = .ok (.lconst 0, 1) := by decide +kernel
theorem dL_has_15 : decode cL_has 15 = .ok (.lastore, 1) := by decide +kernel
theorem dL_has_16 : decode cL_has 16 = .ok (.goto 6, 3) := by decide +kernel
theorem dL_has_19 : decode cL_has 19 = .ok (.astore_n 3, 1) := by decide +kernel
theorem dL_has_20 : decode cL_has 20 = .ok (.iconst 1, 1) := by decide +kernel
theorem dL_has_21 : decode cL_has 21 = .ok (.ireturn, 1) := by decide +kernel
theorem dL_has_22 : decode cL_has 22 = .ok (.iconst 0, 1) := by decide +kernel
theorem dL_has_23 : decode cL_has 23 = .ok (.ireturn, 1) := by decide +kernel
set_option maxRecDepth 20000 in
theorem ggL_isOver_X1_isOver : GoodIn wsL_isOver wsX1_isOver := goodIn_ca (goodIn_r _ [6, 7, 8, 9, 5, 10, 11, 12, 13, 14, 15, 16, 17, 18, 19, 20, 21, 22, 23, 24, 25, 26, 27, 28, 29, 30, 31, 32, 33, 34, 35, 36, 37, 38, 39, 40] (by decide +kernel) (by decide +kernel)) (goodIn_sub (fun _ h => List.mem_cons_of_mem _ (List.mem_append_right _ h)) (by decide +kernel))
set_option maxRecDepth 20000 in
theorem gL_isOver_X1_isOver : GoodIn wsL_isOver (wsV RL 40 RX1 yX1_isOver wsX1_isOver) := goodIn_app (goodIn_of _ (by decide +kernel)) ggL_isOver_X1_isOver
theorem dL_isOver_0 : decode cL_isOver 0 = .ok (.aload_n 2, 1) := by decide +kernel
theorem dL_isOver_1 : decode cL_isOver 1 = .ok (.iconst 0, 1) := by decide +kernel
theorem dL_isOver_2 : decode cL_isOver 2 = .ok (.aload_n 0, 1) := by decide +kernel
theorem dL_isOver_3 : decode cL_isOver 3 = .ok (.iload_n 1, 1) := by decide +kernel
theorem dL_isOver_4 : decode cL_isOver 4 = .ok (.invokevirtual 40, 3) := by decide +kernel
theorem dL_isOver_7 : decode cL_isOver 7 = .ok (.ifCond .eq 7, 3) := by decide +kernel
theorem dL_isOver_10 : decode cL_isOver 10 = .ok (.lconst 1, 1) := by decide +kernel
theorem dL_isOver_11 : decode cL_isOver 11 = .ok (.goto 4, 3) := by decide +kernel
theorem dL_isOver_14 : decode cL_isOver 14 = .ok (.lconst 0, 1) := by decide +kernel
theorem dL_isOver_15 : decode cL_isOver 15 = .ok (.lastore, 1) := by decide +kernel
theorem dL_isOver_16 : decode cL_isOver 16 = .ok (.goto 6, 3) := by decide +kernel
theorem dL_isOver_19 : decode cL_isOver 19 = .ok (.astore_n 3, 1) := by decide +kernel
theorem dL_isOver_20 : decode cL_isOver 20 = .ok (.iconst 1, 1) := by decide +kernel
theorem dL_isOver_21 : decode cL_isOver 21 = .ok (.ireturn, 1) := by decide +kernel
theorem dL_isOver_22 : decode cL_isOver 22 = .ok (.iconst 0, 1) := by decide +kernel
theorem dL_isOver_23 : decode cL_isOver 23 = .ok (.ireturn, 1) := by decide +kernel
set_option maxRecDepth 20000 in
theorem ggL_sizeOf_X1_sizeOf : GoodIn wsL_sizeOf wsX1_sizeOf := goodIn_ca (goodIn_r _ [6, 7, 8, 9, 5, 10, 11, 12, 13, 14, 15, 16, 17, 18, 19, 20, 21, 22, 23, 24, 25, 26, 27, 28, 29, 30, 31, 32, 33, 34, 35] (by decide +kernel) (by decide +kernel)) (goodIn_sub (fun _ h => List.mem_cons_of_mem _ (List.mem_append_right _ h)) (by decide +kernel))
set_option maxRecDepth 20000 in
theorem gL_sizeOf_X1_sizeOf : GoodIn wsL_sizeOf (wsV RL 43 RX1 yX1_sizeOf wsX1_sizeOf) := goodIn_app (goodIn_of _ (by decide +kernel)) ggL_sizeOf_X1_sizeOf
theorem dL_sizeOf_0 : decode cL_sizeOf 0 = .ok (.aload_n 2, 1) := by decide +kernel
theorem dL_sizeOf_1 : decode cL_sizeOf 1 = .ok (.iconst 0, 1) := by decide +kernel
theorem dL_sizeOf_2 : decode cL_sizeOf 2 = .ok (.aload_n 0, 1) := by decide +kernel
theorem dL_sizeOf_3 : decode cL_sizeOf 3 = .ok (.iload_n 1, 1) := by decide +kernel
theorem dL_sizeOf_4 : decode cL_sizeOf 4 = .ok (.invokevirtual 43, 3) := by decide +kernel
theorem dL_sizeOf_7 : decode cL_sizeOf 7 = .ok (.i2l, 1) := by decide +kernel
theorem dL_sizeOf_8 : decode cL_sizeOf 8 = .ok (.lastore, 1) := by decide +kernel
theorem dL_sizeOf_9 : decode cL_sizeOf 9 = .ok (.goto 6, 3) := by decide +kernel
theorem dL_sizeOf_12 : decode cL_sizeOf 12 = .ok (.astore_n 3, 1) := by decide +kernel
theorem dL_sizeOf_13 : decode cL_sizeOf 13 = .ok (.iconst 1, 1) := by decide +kernel
theorem dL_sizeOf_14 : decode cL_sizeOf 14 = .ok (.ireturn, 1) := by decide +kernel
theorem dL_sizeOf_15 : decode cL_sizeOf 15 = .ok (.iconst 0, 1) := by decide +kernel
theorem dL_sizeOf_16 : decode cL_sizeOf 16 = .ok (.ireturn, 1) := by decide +kernel
set_option maxRecDepth 20000 in
theorem ggL_frequencyOf_X1_frequencyOf : GoodIn wsL_frequencyOf wsX1_frequencyOf := goodIn_ca (goodIn_r _ [6, 7, 8, 9, 5, 10, 11, 12, 13, 14, 15, 16, 17, 18, 19, 20, 21, 22, 23, 24, 25, 26, 27, 28, 29, 30, 31, 32, 33, 34, 35] (by decide +kernel) (by decide +kernel)) (goodIn_sub (fun _ h => List.mem_cons_of_mem _ (List.mem_append_right _ h)) (by decide +kernel))
set_option maxRecDepth 20000 in
theorem gL_frequencyOf_X1_frequencyOf : GoodIn wsL_frequencyOf (wsV RL 46 RX1 yX1_frequencyOf wsX1_frequencyOf) := goodIn_app (goodIn_of _ (by decide +kernel)) ggL_frequencyOf_X1_frequencyOf
theorem dL_frequencyOf_0 : decode cL_frequencyOf 0 = .ok (.aload_n 2, 1) := by decide +kernel
theorem dL_frequencyOf_1 : decode cL_frequencyOf 1 = .ok (.iconst 0, 1) := by decide +kernel
theorem dL_frequencyOf_2 : decode cL_frequencyOf 2 = .ok (.aload_n 0, 1) := by decide +kernel
theorem dL_frequencyOf_3 : decode cL_frequencyOf 3 = .ok (.iload_n 1, 1) := by decide +kernel
theorem dL_frequencyOf_4 : decode cL_frequencyOf 4 = .ok (.invokevirtual 46, 3) := by decide +kernel
theorem dL_frequencyOf_7 : decode cL_frequencyOf 7 = .ok (.i2l, 1) := by decide +kernel
theorem dL_frequencyOf_8 : decode cL_frequencyOf 8 = .ok (.lastore, 1) := by decide +kernel
theorem dL_frequencyOf_9 : decode cL_frequencyOf 9 = .ok (.goto 6, 3) := by decide +kernel
theorem dL_frequencyOf_12 : decode cL_frequencyOf 12 = .ok (.astore_n 3, 1) := by decide +kernel
theorem dL_frequencyOf_13 : decode cL_frequencyOf 13 = .ok (.iconst 1, 1) := by decide +kernel
theorem dL_frequencyOf_14 : decode cL_frequencyOf 14 = .ok (.ireturn, 1) := by decide +kernel
theorem dL_frequencyOf_15 : decode cL_frequencyOf 15 = .ok (.iconst 0, 1) := by decide +kernel
theorem dL_frequencyOf_16 : decode cL_frequencyOf 16 = .ok (.ireturn, 1) := by decide +kernel
set_option maxRecDepth 20000 in
theorem ggL_worthOf_X1_worthOf : GoodIn wsL_worthOf wsX1_worthOf := goodIn_ca (goodIn_r _ [6, 7, 8, 9, 10, 5, 11, 12, 13, 14, 15, 16, 17, 18, 19, 20, 21, 22, 23, 24, 25, 26, 27, 28, 29, 30, 31, 32, 33, 34, 35, 36] (by decide +kernel) (by decide +kernel)) (goodIn_sub (fun _ h => List.mem_cons_of_mem _ (List.mem_append_right _ h)) (by decide +kernel))
set_option maxRecDepth 20000 in
theorem gL_worthOf_X1_worthOf : GoodIn wsL_worthOf (wsV RL 49 RX1 yX1_worthOf wsX1_worthOf) := goodIn_app (goodIn_of _ (by decide +kernel)) ggL_worthOf_X1_worthOf
theorem dL_worthOf_0 : decode cL_worthOf 0 = .ok (.aload_n 2, 1) := by decide +kernel
theorem dL_worthOf_1 : decode cL_worthOf 1 = .ok (.iconst 0, 1) := by decide +kernel
theorem dL_worthOf_2 : decode cL_worthOf 2 = .ok (.aload_n 0, 1) := by decide +kernel
theorem dL_worthOf_3 : decode cL_worthOf 3 = .ok (.iload_n 1, 1) := by decide +kernel
theorem dL_worthOf_4 : decode cL_worthOf 4 = .ok (.invokevirtual 49, 3) := by decide +kernel
theorem dL_worthOf_7 : decode cL_worthOf 7 = .ok (.lastore, 1) := by decide +kernel
theorem dL_worthOf_8 : decode cL_worthOf 8 = .ok (.goto 6, 3) := by decide +kernel
theorem dL_worthOf_11 : decode cL_worthOf 11 = .ok (.astore_n 3, 1) := by decide +kernel
theorem dL_worthOf_12 : decode cL_worthOf 12 = .ok (.iconst 1, 1) := by decide +kernel
theorem dL_worthOf_13 : decode cL_worthOf 13 = .ok (.ireturn, 1) := by decide +kernel
theorem dL_worthOf_14 : decode cL_worthOf 14 = .ok (.iconst 0, 1) := by decide +kernel
theorem dL_worthOf_15 : decode cL_worthOf 15 = .ok (.ireturn, 1) := by decide +kernel
set_option maxRecDepth 20000 in
theorem ggL_endOf_X1_endOf : GoodIn wsL_endOf wsX1_endOf := goodIn_ca (goodIn_r _ [6, 7, 8, 9, 5, 10, 11, 12, 13, 14, 15, 16, 17, 18, 19, 20, 21, 22, 23, 24, 25, 26, 27, 28, 29, 30, 31, 32, 33, 34, 35] (by decide +kernel) (by decide +kernel)) (goodIn_sub (fun _ h => List.mem_cons_of_mem _ (List.mem_append_right _ h)) (by decide +kernel))
set_option maxRecDepth 20000 in
theorem gL_endOf_X1_endOf : GoodIn wsL_endOf (wsV RL 53 RX1 yX1_endOf wsX1_endOf) := goodIn_app (goodIn_of _ (by decide +kernel)) ggL_endOf_X1_endOf
theorem dL_endOf_0 : decode cL_endOf 0 = .ok (.aload_n 2, 1) := by decide +kernel
theorem dL_endOf_1 : decode cL_endOf 1 = .ok (.iconst 0, 1) := by decide +kernel
theorem dL_endOf_2 : decode cL_endOf 2 = .ok (.aload_n 0, 1) := by decide +kernel
theorem dL_endOf_3 : decode cL_endOf 3 = .ok (.iload_n 1, 1) := by decide +kernel
theorem dL_endOf_4 : decode cL_endOf 4 = .ok (.invokevirtual 53, 3) := by decide +kernel
theorem dL_endOf_7 : decode cL_endOf 7 = .ok (.i2l, 1) := by decide +kernel
theorem dL_endOf_8 : decode cL_endOf 8 = .ok (.lastore, 1) := by decide +kernel
theorem dL_endOf_9 : decode cL_endOf 9 = .ok (.goto 6, 3) := by decide +kernel
theorem dL_endOf_12 : decode cL_endOf 12 = .ok (.astore_n 3, 1) := by decide +kernel
theorem dL_endOf_13 : decode cL_endOf 13 = .ok (.iconst 1, 1) := by decide +kernel
theorem dL_endOf_14 : decode cL_endOf 14 = .ok (.ireturn, 1) := by decide +kernel
theorem dL_endOf_15 : decode cL_endOf 15 = .ok (.iconst 0, 1) := by decide +kernel
theorem dL_endOf_16 : decode cL_endOf 16 = .ok (.ireturn, 1) := by decide +kernel
set_option maxRecDepth 20000 in
theorem ggL_leaving_X1_leaving : GoodIn wsL_leaving wsX1_leaving := goodIn_ca (goodIn_r _ [6, 7, 8, 9, 10, 11, 5, 12, 13, 14, 15, 16, 17, 18, 19, 20, 21, 22, 23, 24, 25, 26, 27, 28, 29, 30, 31, 32, 33, 34, 35, 36, 37, 38, 39, 40, 41, 42, 43, 44, 45] (by decide +kernel) (by decide +kernel)) (goodIn_sub (fun _ h => List.mem_cons_of_mem _ (List.mem_append_right _ h)) (by decide +kernel))
set_option maxRecDepth 20000 in
theorem gL_leaving_X1_leaving : GoodIn wsL_leaving (wsV RL 56 RX1 yX1_leaving wsX1_leaving) := goodIn_app (goodIn_of _ (by decide +kernel)) ggL_leaving_X1_leaving
theorem dL_leaving_0 : decode cL_leaving 0 = .ok (.aload_n 2, 1) := by decide +kernel
theorem dL_leaving_1 : decode cL_leaving 1 = .ok (.iconst 0, 1) := by decide +kernel
theorem dL_leaving_2 : decode cL_leaving 2 = .ok (.aload_n 0, 1) := by decide +kernel
theorem dL_leaving_3 : decode cL_leaving 3 = .ok (.iload_n 1, 1) := by decide +kernel
theorem dL_leaving_4 : decode cL_leaving 4 = .ok (.invokevirtual 56, 3) := by decide +kernel
theorem dL_leaving_7 : decode cL_leaving 7 = .ok (.i2l, 1) := by decide +kernel
theorem dL_leaving_8 : decode cL_leaving 8 = .ok (.lastore, 1) := by decide +kernel
theorem dL_leaving_9 : decode cL_leaving 9 = .ok (.goto 6, 3) := by decide +kernel
theorem dL_leaving_12 : decode cL_leaving 12 = .ok (.astore_n 3, 1) := by decide +kernel
theorem dL_leaving_13 : decode cL_leaving 13 = .ok (.iconst 1, 1) := by decide +kernel
theorem dL_leaving_14 : decode cL_leaving 14 = .ok (.ireturn, 1) := by decide +kernel
theorem dL_leaving_15 : decode cL_leaving 15 = .ok (.iconst 0, 1) := by decide +kernel
theorem dL_leaving_16 : decode cL_leaving 16 = .ok (.ireturn, 1) := by decide +kernel
set_option maxRecDepth 20000 in
theorem ggL_placeOf_X1_placeOf : GoodIn wsL_placeOf wsX1_placeOf := goodIn_ca (goodIn_r _ [6, 7, 8, 9, 10, 5, 11, 12, 13, 14, 15, 16, 17, 18, 19, 20, 21, 22, 23, 24, 25, 26, 27, 28, 29, 30, 31, 32, 33, 34, 35, 36, 37, 38, 39, 40, 41] (by decide +kernel) (by decide +kernel)) (goodIn_sub (fun _ h => List.mem_cons_of_mem _ (List.mem_append_right _ h)) (by decide +kernel))
set_option maxRecDepth 20000 in
theorem gL_placeOf_X1_placeOf : GoodIn wsL_placeOf (wsV RL 59 RX1 yX1_placeOf wsX1_placeOf) := goodIn_app (goodIn_of _ (by decide +kernel)) ggL_placeOf_X1_placeOf
theorem dL_placeOf_0 : decode cL_placeOf 0 = .ok (.aload_n 2, 1) := by decide +kernel
theorem dL_placeOf_1 : decode cL_placeOf 1 = .ok (.iconst 0, 1) := by decide +kernel
theorem dL_placeOf_2 : decode cL_placeOf 2 = .ok (.aload_n 0, 1) := by decide +kernel
theorem dL_placeOf_3 : decode cL_placeOf 3 = .ok (.iload_n 1, 1) := by decide +kernel
theorem dL_placeOf_4 : decode cL_placeOf 4 = .ok (.invokevirtual 59, 3) := by decide +kernel
theorem dL_placeOf_7 : decode cL_placeOf 7 = .ok (.i2l, 1) := by decide +kernel
theorem dL_placeOf_8 : decode cL_placeOf 8 = .ok (.lastore, 1) := by decide +kernel
theorem dL_placeOf_9 : decode cL_placeOf 9 = .ok (.goto 6, 3) := by decide +kernel
theorem dL_placeOf_12 : decode cL_placeOf 12 = .ok (.astore_n 3, 1) := by decide +kernel
theorem dL_placeOf_13 : decode cL_placeOf 13 = .ok (.iconst 1, 1) := by decide +kernel
theorem dL_placeOf_14 : decode cL_placeOf 14 = .ok (.ireturn, 1) := by decide +kernel
theorem dL_placeOf_15 : decode cL_placeOf 15 = .ok (.iconst 0, 1) := by decide +kernel
theorem dL_placeOf_16 : decode cL_placeOf 16 = .ok (.ireturn, 1) := by decide +kernel
set_option maxRecDepth 20000 in
theorem ggL_wouldLeave_X1_wouldLeave : GoodIn wsL_wouldLeave wsX1_wouldLeave := goodIn_ca (goodIn_r _ [6, 7, 8, 9, 5, 10, 11, 12, 13, 14, 15, 16, 17, 18, 19, 20, 21, 22, 23, 24, 25, 26, 27, 28, 29, 30, 31, 32, 33, 34, 35, 36, 37, 38, 39, 40, 41, 42, 43, 44, 45, 46, 47, 48, 49, 50, 51, 52, 53, 54, 55, 56, 57, 58, 59, 60, 61, 62, 63, 64, 65, 66] (by decide +kernel) (by decide +kernel)) (goodIn_sub (fun _ h => List.mem_cons_of_mem _ (List.mem_append_right _ h)) (by decide +kernel))
set_option maxRecDepth 20000 in
theorem gL_wouldLeave_X1_wouldLeave : GoodIn wsL_wouldLeave (wsV RL 62 RX1 yX1_wouldLeave wsX1_wouldLeave) := goodIn_app (goodIn_of _ (by decide +kernel)) ggL_wouldLeave_X1_wouldLeave
theorem dL_wouldLeave_0 : decode cL_wouldLeave 0 = .ok (.aload_n 2, 1) := by decide +kernel
theorem dL_wouldLeave_1 : decode cL_wouldLeave 1 = .ok (.iconst 0, 1) := by decide +kernel
theorem dL_wouldLeave_2 : decode cL_wouldLeave 2 = .ok (.aload_n 0, 1) := by decide +kernel
theorem dL_wouldLeave_3 : decode cL_wouldLeave 3 = .ok (.iload_n 1, 1) := by decide +kernel
theorem dL_wouldLeave_4 : decode cL_wouldLeave 4 = .ok (.invokevirtual 62, 3) := by decide +kernel
theorem dL_wouldLeave_7 : decode cL_wouldLeave 7 = .ok (.i2l, 1) := by decide +kernel
theorem dL_wouldLeave_8 : decode cL_wouldLeave 8 = .ok (.lastore, 1) := by decide +kernel
theorem dL_wouldLeave_9 : decode cL_wouldLeave 9 = .ok (.goto 6, 3) := by decide +kernel
theorem dL_wouldLeave_12 : decode cL_wouldLeave 12 = .ok (.astore_n 3, 1) := by decide +kernel
theorem dL_wouldLeave_13 : decode cL_wouldLeave 13 = .ok (.iconst 1, 1) := by decide +kernel
theorem dL_wouldLeave_14 : decode cL_wouldLeave 14 = .ok (.ireturn, 1) := by decide +kernel
theorem dL_wouldLeave_15 : decode cL_wouldLeave 15 = .ok (.iconst 0, 1) := by decide +kernel
theorem dL_wouldLeave_16 : decode cL_wouldLeave 16 = .ok (.ireturn, 1) := by decide +kernel
set_option maxRecDepth 20000 in
theorem ggL_law_X1_init : GoodIn wsL_law wsX1_init := goodIn_r _ [9, 10, 11, 12, 13, 14, 15, 16, 17, 18, 19, 20, 21, 22, 23, 498, 499, 500, 501, 502, 503, 504, 505, 506, 507, 508, 509, 510, 533, 534, 535, 536, 537, 538, 539, 540, 541] (by decide +kernel) (by decide +kernel)
set_option maxRecDepth 20000 in
theorem gL_law_X1_init : GoodIn wsL_law (wsX1_init) := ggL_law_X1_init
set_option maxRecDepth 20000 in
theorem ggL_law_X2_init : GoodIn wsL_law wsX2_init := goodIn_r _ [26, 27, 11, 12, 28, 29, 30, 31, 32, 33, 34, 6, 35, 36, 37, 38, 39, 40, 511, 512, 513, 514, 515, 516, 517, 518, 519, 520, 521, 522, 523, 524, 525, 526, 527, 528, 529, 530, 531, 532] (by decide +kernel) (by decide +kernel)
set_option maxRecDepth 20000 in
theorem gL_law_X2_init : GoodIn wsL_law (wsX2_init) := ggL_law_X2_init
set_option maxRecDepth 20000 in
theorem ggL_law_L_fetch : GoodIn wsL_law wsL_fetch := goodIn_ca (goodIn_ca (goodIn_r _ [44, 45, 46, 47, 48, 49, 2, 50, 51, 52, 53, 54, 55, 56, 14, 57, 58, 59, 60, 61, 62, 63, 64, 65, 66, 67, 68, 69, 70, 71, 72, 73, 74, 75, 76, 77, 78, 79, 80, 81, 82, 83, 84, 85, 86, 87, 88, 89, 90, 15, 16, 91, 92, 93, 94, 95, 96, 97, 98, 99, 100, 101, 102, 103, 104, 105, 106, 107, 108, 109, 110, 111, 112, 113, 114, 115, 116, 117, 118, 119, 120, 121, 122, 123, 124, 125, 126, 127, 128, 129, 130, 131, 132, 133, 134, 135, 136, 137, 138, 139, 140, 141, 142, 143, 144, 145, 146, 533, 534, 535, 536, 537, 538, 539, 540, 541, 498, 499, 500, 501, 502, 503, 504, 505, 506, 507, 508, 509, 510] (by decide +kernel) (by decide +kernel)) (goodIn_sub (fun _ h => List.mem_append_left _ (List.mem_append_left _ (List.mem_append_right _ h))) (by decide +kernel))) (goodIn_sub (fun _ h => List.mem_append_left _ (List.mem_append_right _ h)) (by decide +kernel))
set_option maxRecDepth 20000 in
theorem gL_law_L_fetch : GoodIn wsL_law (va_wsS RL 69 yL_fetch wsL_fetch) := goodIn_app (goodIn_of _ (by decide +kernel)) ggL_law_L_fetch
set_option maxRecDepth 20000 in
theorem ggL_law_X2_fetch : GoodIn wsL_law wsX2_fetch := goodIn_r _ [150, 151, 29, 32, 34, 33, 152, 153, 154, 38, 155, 156, 157, 158, 39, 40, 30, 36, 159, 160, 161, 5, 162, 163, 164, 165, 166, 167, 168, 169, 170, 171, 172, 173, 35, 174, 175, 176, 37, 177, 178, 179, 180, 181, 182, 183, 184, 185, 186, 187, 188, 189, 190, 191, 192, 193, 194, 195, 196, 197, 198, 199, 200, 201, 202, 203, 204, 205, 206, 207, 208, 209, 511, 512, 513, 514, 515, 516, 517, 518, 519, 520, 521, 522, 523, 524, 525, 526, 527, 528, 529, 530, 531, 532] (by decide +kernel) (by decide +kernel)
set_option maxRecDepth 20000 in
theorem gL_law_X2_fetch : GoodIn wsL_law (wsV RL 74 RX2 yX2_fetch wsX2_fetch) := goodIn_app (goodIn_of _ (by decide +kernel)) ggL_law_X2_fetch
set_option maxRecDepth 20000 in
theorem ggL_law_X2_thrown : GoodIn wsL_law wsX2_thrown := goodIn_r _ [213, 151, 511, 512, 513, 514, 515, 516, 517, 518, 519, 520, 521, 522, 523, 524, 525, 526, 527, 528, 529, 530, 531, 532] (by decide +kernel) (by decide +kernel)
set_option maxRecDepth 20000 in
theorem gL_law_X2_thrown : GoodIn wsL_law (wsV RL 75 RX2 yX2_thrown wsX2_thrown) := goodIn_app (goodIn_of _ (by decide +kernel)) ggL_law_X2_thrown
set_option maxRecDepth 20000 in
theorem ggL_law_L_pass : GoodIn wsL_law wsL_pass := goodIn_ca (goodIn_r _ [216, 46, 217, 218, 219, 2, 220, 66, 57, 58, 59, 60, 61, 498, 499, 500, 501, 502, 503, 504, 505, 506, 507, 508, 509, 510] (by decide +kernel) (by decide +kernel)) (goodIn_sub (fun _ h => List.mem_append_left _ (List.mem_append_right _ h)) (by decide +kernel))
set_option maxRecDepth 20000 in
theorem gL_law_L_pass : GoodIn wsL_law (va_wsS RL 79 yL_pass wsL_pass) := goodIn_app (goodIn_of _ (by decide +kernel)) ggL_law_L_pass
set_option maxRecDepth 20000 in
theorem ggL_law_X2_pass : GoodIn wsL_law wsX2_pass := goodIn_r _ [224, 151, 155, 163, 164, 5, 165, 511, 512, 513, 514, 515, 516, 517, 518, 519, 520, 521, 522, 523, 524, 525, 526, 527, 528, 529, 530, 531, 532] (by decide +kernel) (by decide +kernel)
set_option maxRecDepth 20000 in
theorem gL_law_X2_pass : GoodIn wsL_law (wsV RL 82 RX2 yX2_pass wsX2_pass) := goodIn_app (goodIn_of _ (by decide +kernel)) ggL_law_X2_pass
set_option maxRecDepth 20000 in
theorem ggL_law_L_pin : GoodIn wsL_law wsL_pin := goodIn_ca (goodIn_ca (goodIn_r _ [227, 45, 228, 229, 230, 231, 2, 232, 233, 234, 235, 236, 237, 238, 51, 52, 53, 54, 55, 56, 14, 533, 534, 535, 536, 537, 538, 539, 540, 541, 498, 499, 500, 501, 502, 503, 504, 505, 506, 507, 508, 509, 510] (by decide +kernel) (by decide +kernel)) (goodIn_sub (fun _ h => List.mem_append_right _ h) (by decide +kernel))) (goodIn_sub (fun _ h => List.mem_append_left _ (List.mem_append_left _ (List.mem_append_right _ h))) (by decide +kernel))
set_option maxRecDepth 20000 in
theorem gL_law_L_pin : GoodIn wsL_law (va_wsS RL 83 yL_pin wsL_pin) := goodIn_app (goodIn_of _ (by decide +kernel)) ggL_law_L_pin
set_option maxRecDepth 20000 in
theorem ggL_law_X2_pin : GoodIn wsL_law wsX2_pin := goodIn_r _ [242, 30, 243, 244, 245, 5, 246, 29, 151, 159, 160, 161, 162, 163, 164, 165, 511, 512, 513, 514, 515, 516, 517, 518, 519, 520, 521, 522, 523, 524, 525, 526, 527, 528, 529, 530, 531, 532] (by decide +kernel) (by decide +kernel)
set_option maxRecDepth 20000 in
theorem gL_law_X2_pin : GoodIn wsL_law (wsV RL 86 RX2 yX2_pin wsX2_pin) := goodIn_app (goodIn_of _ (by decide +kernel)) ggL_law_X2_pin
set_option maxRecDepth 20000 in
theorem ggL_law_L_drop : GoodIn wsL_law wsL_drop := goodIn_ca (goodIn_ca (goodIn_r _ [249, 45, 228, 250, 251, 252, 2, 253, 233, 234, 235, 236, 237, 238, 51, 52, 53, 54, 55, 56, 14, 533, 534, 535, 536, 537, 538, 539, 540, 541, 498, 499, 500, 501, 502, 503, 504, 505, 506, 507, 508, 509, 510] (by decide +kernel) (by decide +kernel)) (goodIn_sub (fun _ h => List.mem_append_right _ h) (by decide +kernel))) (goodIn_sub (fun _ h => List.mem_append_left _ (List.mem_append_left _ (List.mem_append_right _ h))) (by decide +kernel))
set_option maxRecDepth 20000 in
theorem gL_law_L_drop : GoodIn wsL_law (va_wsS RL 87 yL_drop wsL_drop) := goodIn_app (goodIn_of _ (by decide +kernel)) ggL_law_L_drop
set_option maxRecDepth 20000 in
theorem ggL_law_X2_drop : GoodIn wsL_law wsX2_drop := goodIn_r _ [257, 29, 32, 243, 244, 245, 5, 246, 151, 159, 160, 161, 162, 163, 164, 165, 511, 512, 513, 514, 515, 516, 517, 518, 519, 520, 521, 522, 523, 524, 525, 526, 527, 528, 529, 530, 531, 532] (by decide +kernel) (by decide +kernel)
set_option maxRecDepth 20000 in
theorem gL_law_X2_drop : GoodIn wsL_law (wsV RL 89 RX2 yX2_drop wsX2_drop) := goodIn_app (goodIn_of _ (by decide +kernel)) ggL_law_X2_drop
set_option maxRecDepth 20000 in
theorem ggL_law_X1_purge : GoodIn wsL_law wsX1_purge := goodIn_r _ [261, 112, 113, 114, 2, 115, 14, 99, 62, 63, 64, 65, 66, 498, 499, 500, 501, 502, 503, 504, 505, 506, 507, 508, 509, 510, 533, 534, 535, 536, 537, 538, 539, 540, 541] (by decide +kernel) (by decide +kernel)
set_option maxRecDepth 20000 in
theorem gL_law_X1_purge : GoodIn wsL_law (wsV RL 90 RX1 yX1_purge wsX1_purge) := goodIn_app (goodIn_of _ (by decide +kernel)) ggL_law_X1_purge
set_option maxRecDepth 20000 in
theorem ggL_law_X2_purge : GoodIn wsL_law wsX2_purge := goodIn_r _ [265, 151, 185, 186, 187, 5, 188, 29, 158, 166, 167, 168, 169, 155, 36, 511, 512, 513, 514, 515, 516, 517, 518, 519, 520, 521, 522, 523, 524, 525, 526, 527, 528, 529, 530, 531, 532] (by decide +kernel) (by decide +kernel)
set_option maxRecDepth 20000 in
theorem gL_law_X2_purge : GoodIn wsL_law (wsV RL 93 RX2 yX2_purge wsX2_purge) := goodIn_app (goodIn_of _ (by decide +kernel)) ggL_law_X2_purge
set_option maxRecDepth 20000 in
theorem ggL_law_L_setCapacity : GoodIn wsL_law wsL_setCapacity := goodIn_ca (goodIn_ca (goodIn_r _ [268, 46, 228, 269, 270, 271, 2, 272, 237, 238, 15, 57, 58, 59, 60, 61, 116, 117, 118, 119, 14, 62, 63, 64, 65, 66, 108, 109, 110, 111, 112, 113, 114, 115, 99, 120, 121, 122, 123, 79, 124, 125, 126, 127, 128, 129, 130, 131, 132, 133, 134, 135, 136, 137, 138, 139, 140, 141, 142, 498, 499, 500, 501, 502, 503, 504, 505, 506, 507, 508, 509, 510, 533, 534, 535, 536, 537, 538, 539, 540, 541] (by decide +kernel) (by decide +kernel)) (goodIn_sub (fun _ h => List.mem_append_right _ h) (by decide +kernel))) (goodIn_sub (fun _ h => List.mem_append_left _ (List.mem_append_right _ h)) (by decide +kernel))
set_option maxRecDepth 20000 in
theorem gL_law_L_setCapacity : GoodIn wsL_law (va_wsS RL 94 yL_setCapacity wsL_setCapacity) := goodIn_app (goodIn_of _ (by decide +kernel)) ggL_law_L_setCapacity
set_option maxRecDepth 20000 in
theorem ggL_law_X2_setCapacity : GoodIn wsL_law wsX2_setCapacity := goodIn_r _ [276, 151, 39, 163, 164, 5, 165, 189, 190, 191, 192, 29, 30, 32, 166, 167, 168, 169, 155, 36, 181, 182, 183, 184, 185, 186, 187, 188, 158, 193, 194, 195, 196, 35, 174, 197, 198, 199, 200, 201, 202, 203, 204, 205, 206, 207, 208, 209, 37, 511, 512, 513, 514, 515, 516, 517, 518, 519, 520, 521, 522, 523, 524, 525, 526, 527, 528, 529, 530, 531, 532] (by decide +kernel) (by decide +kernel)
set_option maxRecDepth 20000 in
theorem gL_law_X2_setCapacity : GoodIn wsL_law (wsV RL 96 RX2 yX2_setCapacity wsX2_setCapacity) := goodIn_app (goodIn_of _ (by decide +kernel)) ggL_law_X2_setCapacity
set_option maxRecDepth 20000 in
theorem ggL_law_L_setThreshold : GoodIn wsL_law wsL_setThreshold := goodIn_ca (goodIn_r _ [279, 46, 280, 281, 282, 2, 283, 16, 57, 58, 59, 60, 61, 498, 499, 500, 501, 502, 503, 504, 505, 506, 507, 508, 509, 510] (by decide +kernel) (by decide +kernel)) (goodIn_sub (fun _ h => List.mem_append_left _ (List.mem_append_right _ h)) (by decide +kernel))
set_option maxRecDepth 20000 in
theorem gL_law_L_setThreshold : GoodIn wsL_law (va_wsS RL 97 yL_setThreshold wsL_setThreshold) := goodIn_app (goodIn_of _ (by decide +kernel)) ggL_law_L_setThreshold
set_option maxRecDepth 20000 in
theorem ggL_law_X2_setThreshold : GoodIn wsL_law wsX2_setThreshold := goodIn_r _ [287, 151, 40, 163, 164, 5, 165, 511, 512, 513, 514, 515, 516, 517, 518, 519, 520, 521, 522, 523, 524, 525, 526, 527, 528, 529, 530, 531, 532] (by decide +kernel) (by decide +kernel)
set_option maxRecDepth 20000 in
theorem gL_law_X2_setThreshold : GoodIn wsL_law (wsV RL 99 RX2 yX2_setThreshold wsX2_setThreshold) := goodIn_app (goodIn_of _ (by decide +kernel)) ggL_law_X2_setThreshold
set_option maxRecDepth 20000 in
theorem ggL_law_L_has : GoodIn wsL_law wsL_has := goodIn_ca (goodIn_r _ [290, 45, 291, 292, 293, 2, 294, 51, 52, 53, 54, 55, 56, 14, 533, 534, 535, 536, 537, 538, 539, 540, 541, 498, 499, 500, 501, 502, 503, 504, 505, 506, 507, 508, 509, 510] (by decide +kernel) (by decide +kernel)) (goodIn_sub (fun _ h => List.mem_append_left _ (List.mem_append_left _ (List.mem_append_right _ h))) (by decide +kernel))
set_option maxRecDepth 20000 in
theorem gL_law_L_has : GoodIn wsL_law (va_wsS RL 100 yL_has wsL_has) := goodIn_app (goodIn_of _ (by decide +kernel)) ggL_law_L_has
set_option maxRecDepth 20000 in
theorem ggL_law_X2_has : GoodIn wsL_law wsX2_has := goodIn_r _ [298, 29, 159, 160, 161, 5, 162, 151, 163, 164, 165, 511, 512, 513, 514, 515, 516, 517, 518, 519, 520, 521, 522, 523, 524, 525, 526, 527, 528, 529, 530, 531, 532] (by decide +kernel) (by decide +kernel)
set_option maxRecDepth 20000 in
theorem gL_law_X2_has : GoodIn wsL_law (wsV RL 102 RX2 yX2_has wsX2_has) := goodIn_app (goodIn_of _ (by decide +kernel)) ggL_law_X2_has
set_option maxRecDepth 20000 in
theorem ggL_law_L_isOver : GoodIn wsL_law wsL_isOver := goodIn_ca (goodIn_r _ [301, 45, 302, 303, 304, 2, 305, 51, 52, 53, 54, 55, 56, 14, 62, 63, 64, 65, 66, 533, 534, 535, 536, 537, 538, 539, 540, 541, 498, 499, 500, 501, 502, 503, 504, 505, 506, 507, 508, 509, 510] (by decide +kernel) (by decide +kernel)) (goodIn_sub (fun _ h => List.mem_append_left _ (List.mem_append_left _ (List.mem_append_right _ h))) (by decide +kernel))
set_option maxRecDepth 20000 in
theorem gL_law_L_isOver : GoodIn wsL_law (va_wsS RL 103 yL_isOver wsL_isOver) := goodIn_app (goodIn_of _ (by decide +kernel)) ggL_law_L_isOver
set_option maxRecDepth 20000 in
theorem ggL_law_X2_isOver : GoodIn wsL_law wsX2_isOver := goodIn_r _ [309, 159, 160, 161, 5, 162, 151, 163, 164, 165, 166, 167, 168, 169, 29, 155, 36, 511, 512, 513, 514, 515, 516, 517, 518, 519, 520, 521, 522, 523, 524, 525, 526, 527, 528, 529, 530, 531, 532] (by decide +kernel) (by decide +kernel)
set_option maxRecDepth 20000 in
theorem gL_law_X2_isOver : GoodIn wsL_law (wsV RL 105 RX2 yX2_isOver wsX2_isOver) := goodIn_app (goodIn_of _ (by decide +kernel)) ggL_law_X2_isOver
set_option maxRecDepth 20000 in
theorem ggL_law_L_sizeOf : GoodIn wsL_law wsL_sizeOf := goodIn_ca (goodIn_r _ [312, 45, 313, 314, 315, 2, 316, 51, 52, 53, 54, 55, 56, 14, 533, 534, 535, 536, 537, 538, 539, 540, 541, 498, 499, 500, 501, 502, 503, 504, 505, 506, 507, 508, 509, 510] (by decide +kernel) (by decide +kernel)) (goodIn_sub (fun _ h => List.mem_append_left _ (List.mem_append_left _ (List.mem_append_right _ h))) (by decide +kernel))
set_option maxRecDepth 20000 in
theorem gL_law_L_sizeOf : GoodIn wsL_law (va_wsS RL 106 yL_sizeOf wsL_sizeOf) := goodIn_app (goodIn_of _ (by decide +kernel)) ggL_law_L_sizeOf
set_option maxRecDepth 20000 in
theorem ggL_law_X2_sizeOf : GoodIn wsL_law wsX2_sizeOf := goodIn_r _ [320, 29, 32, 159, 160, 161, 5, 162, 151, 163, 164, 165, 511, 512, 513, 514, 515, 516, 517, 518, 519, 520, 521, 522, 523, 524, 525, 526, 527, 528, 529, 530, 531, 532] (by decide +kernel) (by decide +kernel)
set_option maxRecDepth 20000 in
theorem gL_law_X2_sizeOf : GoodIn wsL_law (wsV RL 108 RX2 yX2_sizeOf wsX2_sizeOf) := goodIn_app (goodIn_of _ (by decide +kernel)) ggL_law_X2_sizeOf
set_option maxRecDepth 20000 in
theorem ggL_law_L_frequencyOf : GoodIn wsL_law wsL_frequencyOf := goodIn_ca (goodIn_r _ [323, 45, 324, 325, 326, 2, 327, 51, 52, 53, 54, 55, 56, 14, 533, 534, 535, 536, 537, 538, 539, 540, 541, 498, 499, 500, 501, 502, 503, 504, 505, 506, 507, 508, 509, 510] (by decide +kernel) (by decide +kernel)) (goodIn_sub (fun _ h => List.mem_append_left _ (List.mem_append_left _ (List.mem_append_right _ h))) (by decide +kernel))
set_option maxRecDepth 20000 in
theorem gL_law_L_frequencyOf : GoodIn wsL_law (va_wsS RL 109 yL_frequencyOf wsL_frequencyOf) := goodIn_app (goodIn_of _ (by decide +kernel)) ggL_law_L_frequencyOf
set_option maxRecDepth 20000 in
theorem ggL_law_X2_frequencyOf : GoodIn wsL_law wsX2_frequencyOf := goodIn_r _ [331, 29, 34, 159, 160, 161, 5, 162, 151, 163, 164, 165, 511, 512, 513, 514, 515, 516, 517, 518, 519, 520, 521, 522, 523, 524, 525, 526, 527, 528, 529, 530, 531, 532] (by decide +kernel) (by decide +kernel)
set_option maxRecDepth 20000 in
theorem gL_law_X2_frequencyOf : GoodIn wsL_law (wsV RL 111 RX2 yX2_frequencyOf wsX2_frequencyOf) := goodIn_app (goodIn_of _ (by decide +kernel)) ggL_law_X2_frequencyOf
set_option maxRecDepth 20000 in
theorem ggL_law_L_worthOf : GoodIn wsL_law wsL_worthOf := goodIn_ca (goodIn_r _ [334, 45, 335, 336, 337, 2, 338, 339, 51, 52, 53, 54, 55, 56, 14, 533, 534, 535, 536, 537, 538, 539, 540, 541, 498, 499, 500, 501, 502, 503, 504, 505, 506, 507, 508, 509, 510] (by decide +kernel) (by decide +kernel)) (goodIn_sub (fun _ h => List.mem_append_left _ (List.mem_append_left _ (List.mem_append_right _ h))) (by decide +kernel))
set_option maxRecDepth 20000 in
theorem gL_law_L_worthOf : GoodIn wsL_law (va_wsS RL 112 yL_worthOf wsL_worthOf) := goodIn_app (goodIn_of _ (by decide +kernel)) ggL_law_L_worthOf
set_option maxRecDepth 20000 in
theorem ggL_law_X2_worthOf : GoodIn wsL_law wsX2_worthOf := goodIn_r _ [343, 29, 35, 344, 159, 160, 161, 5, 162, 151, 163, 164, 165, 511, 512, 513, 514, 515, 516, 517, 518, 519, 520, 521, 522, 523, 524, 525, 526, 527, 528, 529, 530, 531, 532] (by decide +kernel) (by decide +kernel)
set_option maxRecDepth 20000 in
theorem gL_law_X2_worthOf : GoodIn wsL_law (wsV RL 114 RX2 yX2_worthOf wsX2_worthOf) := goodIn_app (goodIn_of _ (by decide +kernel)) ggL_law_X2_worthOf
set_option maxRecDepth 20000 in
theorem ggL_law_L_endOf : GoodIn wsL_law wsL_endOf := goodIn_ca (goodIn_r _ [347, 45, 348, 349, 350, 2, 351, 51, 52, 53, 54, 55, 56, 14, 533, 534, 535, 536, 537, 538, 539, 540, 541, 498, 499, 500, 501, 502, 503, 504, 505, 506, 507, 508, 509, 510] (by decide +kernel) (by decide +kernel)) (goodIn_sub (fun _ h => List.mem_append_left _ (List.mem_append_left _ (List.mem_append_right _ h))) (by decide +kernel))
set_option maxRecDepth 20000 in
theorem gL_law_L_endOf : GoodIn wsL_law (va_wsS RL 115 yL_endOf wsL_endOf) := goodIn_app (goodIn_of _ (by decide +kernel)) ggL_law_L_endOf
set_option maxRecDepth 20000 in
theorem ggL_law_X2_endOf : GoodIn wsL_law wsX2_endOf := goodIn_r _ [355, 29, 36, 159, 160, 161, 5, 162, 151, 163, 164, 165, 511, 512, 513, 514, 515, 516, 517, 518, 519, 520, 521, 522, 523, 524, 525, 526, 527, 528, 529, 530, 531, 532] (by decide +kernel) (by decide +kernel)
set_option maxRecDepth 20000 in
theorem gL_law_X2_endOf : GoodIn wsL_law (wsV RL 117 RX2 yX2_endOf wsX2_endOf) := goodIn_app (goodIn_of _ (by decide +kernel)) ggL_law_X2_endOf
set_option maxRecDepth 20000 in
theorem ggL_law_L_leaving : GoodIn wsL_law wsL_leaving := goodIn_ca (goodIn_r _ [358, 45, 359, 360, 361, 2, 362, 55, 56, 129, 130, 131, 132, 133, 134, 135, 136, 14, 137, 138, 139, 140, 141, 142, 533, 534, 535, 536, 537, 538, 539, 540, 541, 498, 499, 500, 501, 502, 503, 504, 505, 506, 507, 508, 509, 510] (by decide +kernel) (by decide +kernel)) (goodIn_sub (fun _ h => List.mem_append_left _ (List.mem_append_left _ (List.mem_append_right _ h))) (by decide +kernel))
set_option maxRecDepth 20000 in
theorem gL_law_L_leaving : GoodIn wsL_law (va_wsS RL 118 yL_leaving wsL_leaving) := goodIn_app (goodIn_of _ (by decide +kernel)) ggL_law_L_leaving
set_option maxRecDepth 20000 in
theorem ggL_law_X2_leaving : GoodIn wsL_law wsX2_leaving := goodIn_r _ [366, 151, 198, 199, 200, 5, 201, 202, 203, 204, 205, 29, 30, 206, 207, 208, 209, 35, 37, 511, 512, 513, 514, 515, 516, 517, 518, 519, 520, 521, 522, 523, 524, 525, 526, 527, 528, 529, 530, 531, 532] (by decide +kernel) (by decide +kernel)
set_option maxRecDepth 20000 in
theorem gL_law_X2_leaving : GoodIn wsL_law (wsV RL 120 RX2 yX2_leaving wsX2_leaving) := goodIn_app (goodIn_of _ (by decide +kernel)) ggL_law_X2_leaving
set_option maxRecDepth 20000 in
theorem ggL_law_L_placeOf : GoodIn wsL_law wsL_placeOf := goodIn_ca (goodIn_r _ [369, 45, 370, 371, 372, 2, 373, 14, 51, 52, 53, 54, 55, 56, 140, 141, 142, 137, 138, 139, 498, 499, 500, 501, 502, 503, 504, 505, 506, 507, 508, 509, 510, 533, 534, 535, 536, 537, 538, 539, 540, 541] (by decide +kernel) (by decide +kernel)) (goodIn_sub (fun _ h => List.mem_append_left _ (List.mem_append_left _ (List.mem_append_right _ h))) (by decide +kernel))
set_option maxRecDepth 20000 in
theorem gL_law_L_placeOf : GoodIn wsL_law (va_wsS RL 121 yL_placeOf wsL_placeOf) := goodIn_app (goodIn_of _ (by decide +kernel)) ggL_law_L_placeOf
set_option maxRecDepth 20000 in
theorem ggL_law_X2_placeOf : GoodIn wsL_law wsX2_placeOf := goodIn_r _ [377, 159, 160, 161, 5, 162, 151, 163, 164, 165, 202, 203, 204, 205, 29, 30, 206, 207, 208, 209, 35, 37, 511, 512, 513, 514, 515, 516, 517, 518, 519, 520, 521, 522, 523, 524, 525, 526, 527, 528, 529, 530, 531, 532] (by decide +kernel) (by decide +kernel)
set_option maxRecDepth 20000 in
theorem gL_law_X2_placeOf : GoodIn wsL_law (wsV RL 123 RX2 yX2_placeOf wsX2_placeOf) := goodIn_app (goodIn_of _ (by decide +kernel)) ggL_law_X2_placeOf
set_option maxRecDepth 20000 in
theorem ggL_law_X1_endsFirst : GoodIn wsL_law wsX1_endsFirst := goodIn_r _ [381, 14, 498, 499, 500, 501, 502, 503, 504, 505, 506, 507, 508, 509, 510, 533, 534, 535, 536, 537, 538, 539, 540, 541] (by decide +kernel) (by decide +kernel)
set_option maxRecDepth 20000 in
theorem gL_law_X1_endsFirst : GoodIn wsL_law (wsV RL 124 RX1 yX1_endsFirst wsX1_endsFirst) := goodIn_app (goodIn_of _ (by decide +kernel)) ggL_law_X1_endsFirst
set_option maxRecDepth 20000 in
theorem ggL_law_X2_endsFirst : GoodIn wsL_law wsX2_endsFirst := goodIn_r _ [385, 151, 29, 36, 511, 512, 513, 514, 515, 516, 517, 518, 519, 520, 521, 522, 523, 524, 525, 526, 527, 528, 529, 530, 531, 532] (by decide +kernel) (by decide +kernel)
set_option maxRecDepth 20000 in
theorem gL_law_X2_endsFirst : GoodIn wsL_law (wsV RL 127 RX2 yX2_endsFirst wsX2_endsFirst) := goodIn_app (goodIn_of _ (by decide +kernel)) ggL_law_X2_endsFirst
set_option maxRecDepth 20000 in
theorem ggL_law_L_wouldLeave : GoodIn wsL_law wsL_wouldLeave := goodIn_ca (goodIn_r _ [388, 46, 389, 390, 391, 2, 392, 15, 57, 58, 59, 60, 61, 116, 117, 118, 119, 14, 62, 63, 64, 65, 66, 393, 394, 395, 396, 397, 398, 399, 400, 129, 130, 131, 132, 133, 134, 135, 136, 137, 138, 139, 140, 141, 142, 498, 499, 500, 501, 502, 503, 504, 505, 506, 507, 508, 509, 510, 533, 534, 535, 536, 537, 538, 539, 540, 541] (by decide +kernel) (by decide +kernel)) (goodIn_sub (fun _ h => List.mem_append_left _ (List.mem_append_right _ h)) (by decide +kernel))
set_option maxRecDepth 20000 in
theorem gL_law_L_wouldLeave : GoodIn wsL_law (va_wsS RL 128 yL_wouldLeave wsL_wouldLeave) := goodIn_app (goodIn_of _ (by decide +kernel)) ggL_law_L_wouldLeave
set_option maxRecDepth 20000 in
theorem ggL_law_X2_wouldLeave : GoodIn wsL_law wsX2_wouldLeave := goodIn_r _ [404, 151, 39, 32, 163, 164, 5, 165, 181, 182, 183, 184, 29, 189, 190, 191, 192, 30, 166, 167, 168, 169, 155, 36, 198, 199, 200, 201, 202, 203, 204, 205, 206, 207, 208, 209, 35, 37, 511, 512, 513, 514, 515, 516, 517, 518, 519, 520, 521, 522, 523, 524, 525, 526, 527, 528, 529, 530, 531, 532] (by decide +kernel) (by decide +kernel)
set_option maxRecDepth 20000 in
theorem gL_law_X2_wouldLeave : GoodIn wsL_law (wsV RL 130 RX2 yX2_wouldLeave wsX2_wouldLeave) := goodIn_app (goodIn_of _ (by decide +kernel)) ggL_law_X2_wouldLeave
set_option maxRecDepth 20000 in
theorem ggL_law_X1_time : GoodIn wsL_law wsX1_time := goodIn_r _ [408, 66, 498, 499, 500, 501, 502, 503, 504, 505, 506, 507, 508, 509, 510] (by decide +kernel) (by decide +kernel)
set_option maxRecDepth 20000 in
theorem gL_law_X1_time : GoodIn wsL_law (wsV RL 131 RX1 yX1_time wsX1_time) := goodIn_app (goodIn_of _ (by decide +kernel)) ggL_law_X1_time
set_option maxRecDepth 20000 in
theorem ggL_law_X2_time : GoodIn wsL_law wsX2_time := goodIn_r _ [412, 151, 155, 511, 512, 513, 514, 515, 516, 517, 518, 519, 520, 521, 522, 523, 524, 525, 526, 527, 528, 529, 530, 531, 532] (by decide +kernel) (by decide +kernel)
set_option maxRecDepth 20000 in
theorem gL_law_X2_time : GoodIn wsL_law (wsV RL 134 RX2 yX2_time wsX2_time) := goodIn_app (goodIn_of _ (by decide +kernel)) ggL_law_X2_time
set_option maxRecDepth 20000 in
theorem ggL_law_X1_clock : GoodIn wsL_law wsX1_clock := goodIn_r _ [416, 79, 498, 499, 500, 501, 502, 503, 504, 505, 506, 507, 508, 509, 510] (by decide +kernel) (by decide +kernel)
set_option maxRecDepth 20000 in
theorem gL_law_X1_clock : GoodIn wsL_law (wsV RL 135 RX1 yX1_clock wsX1_clock) := goodIn_app (goodIn_of _ (by decide +kernel)) ggL_law_X1_clock
set_option maxRecDepth 20000 in
theorem ggL_law_X2_clock : GoodIn wsL_law wsX2_clock := goodIn_r _ [420, 151, 174, 511, 512, 513, 514, 515, 516, 517, 518, 519, 520, 521, 522, 523, 524, 525, 526, 527, 528, 529, 530, 531, 532] (by decide +kernel) (by decide +kernel)
set_option maxRecDepth 20000 in
theorem gL_law_X2_clock : GoodIn wsL_law (wsV RL 139 RX2 yX2_clock wsX2_clock) := goodIn_app (goodIn_of _ (by decide +kernel)) ggL_law_X2_clock
set_option maxRecDepth 20000 in
theorem ggL_law_X1_capacity : GoodIn wsL_law wsX1_capacity := goodIn_r _ [424, 15, 498, 499, 500, 501, 502, 503, 504, 505, 506, 507, 508, 509, 510] (by decide +kernel) (by decide +kernel)
set_option maxRecDepth 20000 in
theorem gL_law_X1_capacity : GoodIn wsL_law (wsV RL 140 RX1 yX1_capacity wsX1_capacity) := goodIn_app (goodIn_of _ (by decide +kernel)) ggL_law_X1_capacity
set_option maxRecDepth 20000 in
theorem ggL_law_X2_capacity : GoodIn wsL_law wsX2_capacity := goodIn_r _ [428, 151, 39, 511, 512, 513, 514, 515, 516, 517, 518, 519, 520, 521, 522, 523, 524, 525, 526, 527, 528, 529, 530, 531, 532] (by decide +kernel) (by decide +kernel)
set_option maxRecDepth 20000 in
theorem gL_law_X2_capacity : GoodIn wsL_law (wsV RL 143 RX2 yX2_capacity wsX2_capacity) := goodIn_app (goodIn_of _ (by decide +kernel)) ggL_law_X2_capacity
set_option maxRecDepth 20000 in
theorem ggL_law_X1_entries : GoodIn wsL_law wsX1_entries := goodIn_r _ [432, 14, 498, 499, 500, 501, 502, 503, 504, 505, 506, 507, 508, 509, 510, 533, 534, 535, 536, 537, 538, 539, 540, 541] (by decide +kernel) (by decide +kernel)
set_option maxRecDepth 20000 in
theorem gL_law_X1_entries : GoodIn wsL_law (wsV RL 144 RX1 yX1_entries wsX1_entries) := goodIn_app (goodIn_of _ (by decide +kernel)) ggL_law_X1_entries
set_option maxRecDepth 20000 in
theorem ggL_law_X2_entries : GoodIn wsL_law wsX2_entries := goodIn_r _ [436, 151, 29, 511, 512, 513, 514, 515, 516, 517, 518, 519, 520, 521, 522, 523, 524, 525, 526, 527, 528, 529, 530, 531, 532] (by decide +kernel) (by decide +kernel)
set_option maxRecDepth 20000 in
theorem gL_law_X2_entries : GoodIn wsL_law (wsV RL 147 RX2 yX2_entries wsX2_entries) := goodIn_app (goodIn_of _ (by decide +kernel)) ggL_law_X2_entries
set_option maxRecDepth 20000 in
theorem ggL_law_X1_used : GoodIn wsL_law wsX1_used := goodIn_r _ [111, 14, 498, 499, 500, 501, 502, 503, 504, 505, 506, 507, 508, 509, 510, 533, 534, 535, 536, 537, 538, 539, 540, 541] (by decide +kernel) (by decide +kernel)
set_option maxRecDepth 20000 in
theorem gL_law_X1_used : GoodIn wsL_law (wsV RL 148 RX1 yX1_used wsX1_used) := goodIn_app (goodIn_of _ (by decide +kernel)) ggL_law_X1_used
set_option maxRecDepth 20000 in
theorem ggL_law_X2_used : GoodIn wsL_law wsX2_used := goodIn_r _ [441, 151, 181, 182, 183, 5, 184, 29, 32, 511, 512, 513, 514, 515, 516, 517, 518, 519, 520, 521, 522, 523, 524, 525, 526, 527, 528, 529, 530, 531, 532] (by decide +kernel) (by decide +kernel)
set_option maxRecDepth 20000 in
theorem gL_law_X2_used : GoodIn wsL_law (wsV RL 151 RX2 yX2_used wsX2_used) := goodIn_app (goodIn_of _ (by decide +kernel)) ggL_law_X2_used
set_option maxRecDepth 20000 in
theorem ggL_law_X1_hits : GoodIn wsL_law wsX1_hits := goodIn_r _ [445, 71, 498, 499, 500, 501, 502, 503, 504, 505, 506, 507, 508, 509, 510] (by decide +kernel) (by decide +kernel)
set_option maxRecDepth 20000 in
theorem gL_law_X1_hits : GoodIn wsL_law (wsV RL 152 RX1 yX1_hits wsX1_hits) := goodIn_app (goodIn_of _ (by decide +kernel)) ggL_law_X1_hits
set_option maxRecDepth 20000 in
theorem ggL_law_X2_hits : GoodIn wsL_law wsX2_hits := goodIn_r _ [449, 151, 152, 511, 512, 513, 514, 515, 516, 517, 518, 519, 520, 521, 522, 523, 524, 525, 526, 527, 528, 529, 530, 531, 532] (by decide +kernel) (by decide +kernel)
set_option maxRecDepth 20000 in
theorem gL_law_X2_hits : GoodIn wsL_law (wsV RL 155 RX2 yX2_hits wsX2_hits) := goodIn_app (goodIn_of _ (by decide +kernel)) ggL_law_X2_hits
set_option maxRecDepth 20000 in
theorem ggL_law_X1_misses : GoodIn wsL_law wsX1_misses := goodIn_r _ [453, 85, 498, 499, 500, 501, 502, 503, 504, 505, 506, 507, 508, 509, 510] (by decide +kernel) (by decide +kernel)
set_option maxRecDepth 20000 in
theorem gL_law_X1_misses : GoodIn wsL_law (wsV RL 156 RX1 yX1_misses wsX1_misses) := goodIn_app (goodIn_of _ (by decide +kernel)) ggL_law_X1_misses
set_option maxRecDepth 20000 in
theorem ggL_law_X2_misses : GoodIn wsL_law wsX2_misses := goodIn_r _ [457, 151, 156, 511, 512, 513, 514, 515, 516, 517, 518, 519, 520, 521, 522, 523, 524, 525, 526, 527, 528, 529, 530, 531, 532] (by decide +kernel) (by decide +kernel)
set_option maxRecDepth 20000 in
theorem gL_law_X2_misses : GoodIn wsL_law (wsV RL 159 RX2 yX2_misses wsX2_misses) := goodIn_app (goodIn_of _ (by decide +kernel)) ggL_law_X2_misses
set_option maxRecDepth 20000 in
theorem ggL_law_X1_bytesHit : GoodIn wsL_law wsX1_bytesHit := goodIn_r _ [461, 72, 498, 499, 500, 501, 502, 503, 504, 505, 506, 507, 508, 509, 510] (by decide +kernel) (by decide +kernel)
set_option maxRecDepth 20000 in
theorem gL_law_X1_bytesHit : GoodIn wsL_law (wsV RL 160 RX1 yX1_bytesHit wsX1_bytesHit) := goodIn_app (goodIn_of _ (by decide +kernel)) ggL_law_X1_bytesHit
set_option maxRecDepth 20000 in
theorem ggL_law_X2_bytesHit : GoodIn wsL_law wsX2_bytesHit := goodIn_r _ [465, 151, 153, 511, 512, 513, 514, 515, 516, 517, 518, 519, 520, 521, 522, 523, 524, 525, 526, 527, 528, 529, 530, 531, 532] (by decide +kernel) (by decide +kernel)
set_option maxRecDepth 20000 in
theorem gL_law_X2_bytesHit : GoodIn wsL_law (wsV RL 163 RX2 yX2_bytesHit wsX2_bytesHit) := goodIn_app (goodIn_of _ (by decide +kernel)) ggL_law_X2_bytesHit
set_option maxRecDepth 20000 in
theorem ggL_law_X1_saved : GoodIn wsL_law wsX1_saved := goodIn_r _ [469, 73, 498, 499, 500, 501, 502, 503, 504, 505, 506, 507, 508, 509, 510] (by decide +kernel) (by decide +kernel)
set_option maxRecDepth 20000 in
theorem gL_law_X1_saved : GoodIn wsL_law (wsV RL 164 RX1 yX1_saved wsX1_saved) := goodIn_app (goodIn_of _ (by decide +kernel)) ggL_law_X1_saved
set_option maxRecDepth 20000 in
theorem ggL_law_X2_saved : GoodIn wsL_law wsX2_saved := goodIn_r _ [473, 151, 154, 511, 512, 513, 514, 515, 516, 517, 518, 519, 520, 521, 522, 523, 524, 525, 526, 527, 528, 529, 530, 531, 532] (by decide +kernel) (by decide +kernel)
set_option maxRecDepth 20000 in
theorem gL_law_X2_saved : GoodIn wsL_law (wsV RL 167 RX2 yX2_saved wsX2_saved) := goodIn_app (goodIn_of _ (by decide +kernel)) ggL_law_X2_saved
set_option maxRecDepth 20000 in
theorem ggL_law_X1_paid : GoodIn wsL_law wsX1_paid := goodIn_r _ [477, 86, 498, 499, 500, 501, 502, 503, 504, 505, 506, 507, 508, 509, 510] (by decide +kernel) (by decide +kernel)
set_option maxRecDepth 20000 in
theorem gL_law_X1_paid : GoodIn wsL_law (wsV RL 168 RX1 yX1_paid wsX1_paid) := goodIn_app (goodIn_of _ (by decide +kernel)) ggL_law_X1_paid
set_option maxRecDepth 20000 in
theorem ggL_law_X2_paid : GoodIn wsL_law wsX2_paid := goodIn_r _ [481, 151, 157, 511, 512, 513, 514, 515, 516, 517, 518, 519, 520, 521, 522, 523, 524, 525, 526, 527, 528, 529, 530, 531, 532] (by decide +kernel) (by decide +kernel)
set_option maxRecDepth 20000 in
theorem gL_law_X2_paid : GoodIn wsL_law (wsV RL 171 RX2 yX2_paid wsX2_paid) := goodIn_app (goodIn_of _ (by decide +kernel)) ggL_law_X2_paid
set_option maxRecDepth 20000 in
theorem ggL_law_X1_left : GoodIn wsL_law wsX1_left := goodIn_r _ [485, 128, 498, 499, 500, 501, 502, 503, 504, 505, 506, 507, 508, 509, 510] (by decide +kernel) (by decide +kernel)
set_option maxRecDepth 20000 in
theorem gL_law_X1_left : GoodIn wsL_law (wsV RL 172 RX1 yX1_left wsX1_left) := goodIn_app (goodIn_of _ (by decide +kernel)) ggL_law_X1_left
set_option maxRecDepth 20000 in
theorem ggL_law_X2_left : GoodIn wsL_law wsX2_left := goodIn_r _ [489, 151, 197, 511, 512, 513, 514, 515, 516, 517, 518, 519, 520, 521, 522, 523, 524, 525, 526, 527, 528, 529, 530, 531, 532] (by decide +kernel) (by decide +kernel)
set_option maxRecDepth 20000 in
theorem gL_law_X2_left : GoodIn wsL_law (wsV RL 175 RX2 yX2_left wsX2_left) := goodIn_app (goodIn_of _ (by decide +kernel)) ggL_law_X2_left
set_option maxRecDepth 20000 in
theorem ggL_law_X1_removedOver : GoodIn wsL_law wsX1_removedOver := goodIn_r _ [493, 99, 498, 499, 500, 501, 502, 503, 504, 505, 506, 507, 508, 509, 510] (by decide +kernel) (by decide +kernel)
set_option maxRecDepth 20000 in
theorem gL_law_X1_removedOver : GoodIn wsL_law (wsV RL 176 RX1 yX1_removedOver wsX1_removedOver) := goodIn_app (goodIn_of _ (by decide +kernel)) ggL_law_X1_removedOver
set_option maxRecDepth 20000 in
theorem ggL_law_X2_removedOver : GoodIn wsL_law wsX2_removedOver := goodIn_r _ [497, 151, 158, 511, 512, 513, 514, 515, 516, 517, 518, 519, 520, 521, 522, 523, 524, 525, 526, 527, 528, 529, 530, 531, 532] (by decide +kernel) (by decide +kernel)
set_option maxRecDepth 20000 in
theorem gL_law_X2_removedOver : GoodIn wsL_law (wsV RL 179 RX2 yX2_removedOver wsX2_removedOver) := goodIn_app (goodIn_of _ (by decide +kernel)) ggL_law_X2_removedOver
end
section
theorem dL_law_0 : decode cL_law 0 = .ok (.new 8, 3) := by decide +kernel
theorem dL_law_3 : decode cL_law 3 = .ok (.dup, 1) := by decide +kernel
theorem dL_law_4 : decode cL_law 4 = .ok (.invokespecial 65, 3) := by decide +kernel
theorem dL_law_7 : decode cL_law 7 = .ok (.astore_n 1, 1) := by decide +kernel
theorem dL_law_8 : decode cL_law 8 = .ok (.new 66, 3) := by decide +kernel
theorem dL_law_11 : decode cL_law 11 = .ok (.dup, 1) := by decide +kernel
theorem dL_law_12 : decode cL_law 12 = .ok (.invokespecial 68, 3) := by decide +kernel
theorem dL_law_15 : decode cL_law 15 = .ok (.astore_n 2, 1) := by decide +kernel
theorem dL_law_16 : decode cL_law 16 = .ok (.iconst 1, 1) := by decide +kernel
theorem dL_law_17 : decode cL_law 17 = .ok (.newarray .long, 2) := by decide +kernel
theorem dL_law_19 : decode cL_law 19 = .ok (.astore_n 3, 1) := by decide +kernel
theorem dL_law_20 : decode cL_law 20 = .ok (.iconst 0, 1) := by decide +kernel
theorem dL_law_21 : decode cL_law 21 = .ok (.istore 4, 2) := by decide +kernel
theorem dL_law_23 : decode cL_law 23 = .ok (.iload 4, 2) := by decide +kernel
theorem dL_law_25 : decode cL_law 25 = .ok (.aload_n 0, 1) := by decide +kernel
theorem dL_law_26 : decode cL_law 26 = .ok (.arraylength, 1) := by decide +kernel
theorem dL_law_27 : decode cL_law 27 = .ok (.iconst 5, 1) := by decide +kernel
theorem dL_law_28 : decode cL_law 28 = .ok (.isub, 1) := by decide +kernel
theorem dL_law_29 : decode cL_law 29 = .ok (.if_icmp .gt 1255, 3) := by decide +kernel
theorem dL_law_32 : decode cL_law 32 = .ok (.aload_n 0, 1) := by decide +kernel
theorem dL_law_33 : decode cL_law 33 = .ok (.iload 4, 2) := by decide +kernel
theorem dL_law_35 : decode cL_law 35 = .ok (.iaload, 1) := by decide +kernel
theorem dL_law_36 : decode cL_law 36 = .ok (.bipush 31, 2) := by decide +kernel
theorem dL_law_38 : decode cL_law 38 = .ok (.iand, 1) := by decide +kernel
theorem dL_law_39 : decode cL_law 39 = .ok (.tableswitch 1239 0 28 #[129, 221, 277, 368, 424, 437, 493, 549, 612, 675, 731, 787, 842, 898, 954, 1010, 1023, 1079, 1092, 1106, 1119, 1132, 1145, 1158, 1171, 1185, 1199, 1213, 1226], 129) := by decide +kernel
theorem dL_law_168 : decode cL_law 168 = .ok (.aload_n 1, 1) := by decide +kernel
theorem dL_law_169 : decode cL_law 169 = .ok (.aload_n 0, 1) := by decide +kernel
theorem dL_law_170 : decode cL_law 170 = .ok (.iload 4, 2) := by decide +kernel
theorem dL_law_172 : decode cL_law 172 = .ok (.iconst 1, 1) := by decide +kernel
theorem dL_law_173 : decode cL_law 173 = .ok (.iadd, 1) := by decide +kernel
theorem dL_law_174 : decode cL_law 174 = .ok (.iaload, 1) := by decide +kernel
theorem dL_law_175 : decode cL_law 175 = .ok (.aload_n 0, 1) := by decide +kernel
theorem dL_law_176 : decode cL_law 176 = .ok (.iload 4, 2) := by decide +kernel
theorem dL_law_178 : decode cL_law 178 = .ok (.iconst 2, 1) := by decide +kernel
theorem dL_law_179 : decode cL_law 179 = .ok (.iadd, 1) := by decide +kernel
theorem dL_law_180 : decode cL_law 180 = .ok (.iaload, 1) := by decide +kernel
theorem dL_law_181 : decode cL_law 181 = .ok (.aload_n 0, 1) := by decide +kernel
theorem dL_law_182 : decode cL_law 182 = .ok (.iload 4, 2) := by decide +kernel
theorem dL_law_184 : decode cL_law 184 = .ok (.iconst 3, 1) := by decide +kernel
theorem dL_law_185 : decode cL_law 185 = .ok (.iadd, 1) := by decide +kernel
theorem dL_law_186 : decode cL_law 186 = .ok (.iaload, 1) := by decide +kernel
theorem dL_law_187 : decode cL_law 187 = .ok (.aload_n 0, 1) := by decide +kernel
theorem dL_law_188 : decode cL_law 188 = .ok (.iload 4, 2) := by decide +kernel
theorem dL_law_190 : decode cL_law 190 = .ok (.iconst 4, 1) := by decide +kernel
theorem dL_law_191 : decode cL_law 191 = .ok (.iadd, 1) := by decide +kernel
theorem dL_law_192 : decode cL_law 192 = .ok (.iaload, 1) := by decide +kernel
theorem dL_law_193 : decode cL_law 193 = .ok (.aload_n 3, 1) := by decide +kernel
theorem dL_law_194 : decode cL_law 194 = .ok (.invokestatic 69, 3) := by decide +kernel
theorem dL_law_197 : decode cL_law 197 = .ok (.istore 5, 2) := by decide +kernel
theorem dL_law_199 : decode cL_law 199 = .ok (.aload_n 2, 1) := by decide +kernel
theorem dL_law_200 : decode cL_law 200 = .ok (.aload_n 0, 1) := by decide +kernel
theorem dL_law_201 : decode cL_law 201 = .ok (.iload 4, 2) := by decide +kernel
theorem dL_law_203 : decode cL_law 203 = .ok (.iconst 1, 1) := by decide +kernel
theorem dL_law_204 : decode cL_law 204 = .ok (.iadd, 1) := by decide +kernel
theorem dL_law_205 : decode cL_law 205 = .ok (.iaload, 1) := by decide +kernel
theorem dL_law_206 : decode cL_law 206 = .ok (.aload_n 0, 1) := by decide +kernel
theorem dL_law_207 : decode cL_law 207 = .ok (.iload 4, 2) := by decide +kernel
theorem dL_law_209 : decode cL_law 209 = .ok (.iconst 2, 1) := by decide +kernel
theorem dL_law_210 : decode cL_law 210 = .ok (.iadd, 1) := by decide +kernel
theorem dL_law_211 : decode cL_law 211 = .ok (.iaload, 1) := by decide +kernel
theorem dL_law_212 : decode cL_law 212 = .ok (.aload_n 0, 1) := by decide +kernel
theorem dL_law_213 : decode cL_law 213 = .ok (.iload 4, 2) := by decide +kernel
theorem dL_law_215 : decode cL_law 215 = .ok (.iconst 3, 1) := by decide +kernel
theorem dL_law_216 : decode cL_law 216 = .ok (.iadd, 1) := by decide +kernel
theorem dL_law_217 : decode cL_law 217 = .ok (.iaload, 1) := by decide +kernel
theorem dL_law_218 : decode cL_law 218 = .ok (.aload_n 0, 1) := by decide +kernel
theorem dL_law_219 : decode cL_law 219 = .ok (.iload 4, 2) := by decide +kernel
theorem dL_law_221 : decode cL_law 221 = .ok (.iconst 4, 1) := by decide +kernel
theorem dL_law_222 : decode cL_law 222 = .ok (.iadd, 1) := by decide +kernel
theorem dL_law_223 : decode cL_law 223 = .ok (.iaload, 1) := by decide +kernel
theorem dL_law_224 : decode cL_law 224 = .ok (.invokevirtual 74, 3) := by decide +kernel
theorem dL_law_227 : decode cL_law 227 = .ok (.istore 6, 2) := by decide +kernel
theorem dL_law_229 : decode cL_law 229 = .ok (.aload_n 2, 1) := by decide +kernel
theorem dL_law_230 : decode cL_law 230 = .ok (.invokevirtual 75, 3) := by decide +kernel
theorem dL_law_233 : decode cL_law 233 = .ok (.iload 5, 2) := by decide +kernel
theorem dL_law_235 : decode cL_law 235 = .ok (.if_icmp .eq 5, 3) := by decide +kernel
theorem dL_law_238 : decode cL_law 238 = .ok (.iconst 0, 1) := by decide +kernel
theorem dL_law_239 : decode cL_law 239 = .ok (.ireturn, 1) := by decide +kernel
theorem dL_law_240 : decode cL_law 240 = .ok (.iload 5, 2) := by decide +kernel
theorem dL_law_242 : decode cL_law 242 = .ok (.ifCond .ne 15, 3) := by decide +kernel
theorem dL_law_245 : decode cL_law 245 = .ok (.aload_n 3, 1) := by decide +kernel
theorem dL_law_246 : decode cL_law 246 = .ok (.iconst 0, 1) := by decide +kernel
theorem dL_law_247 : decode cL_law 247 = .ok (.laload, 1) := by decide +kernel
theorem dL_law_248 : decode cL_law 248 = .ok (.iload 6, 2) := by decide +kernel
theorem dL_law_250 : decode cL_law 250 = .ok (.i2l, 1) := by decide +kernel
theorem dL_law_251 : decode cL_law 251 = .ok (.lcmp, 1) := by decide +kernel
theorem dL_law_252 : decode cL_law 252 = .ok (.ifCond .eq 5, 3) := by decide +kernel
theorem dL_law_255 : decode cL_law 255 = .ok (.iconst 0, 1) := by decide +kernel
theorem dL_law_256 : decode cL_law 256 = .ok (.ireturn, 1) := by decide +kernel
theorem dL_law_257 : decode cL_law 257 = .ok (.goto 1021, 3) := by decide +kernel
theorem dL_law_260 : decode cL_law 260 = .ok (.aload_n 1, 1) := by decide +kernel
theorem dL_law_261 : decode cL_law 261 = .ok (.aload_n 0, 1) := by decide +kernel
theorem dL_law_262 : decode cL_law 262 = .ok (.iload 4, 2) := by decide +kernel
theorem dL_law_264 : decode cL_law 264 = .ok (.iconst 1, 1) := by decide +kernel
theorem dL_law_265 : decode cL_law 265 = .ok (.iadd, 1) := by decide +kernel
theorem dL_law_266 : decode cL_law 266 = .ok (.iaload, 1) := by decide +kernel
theorem dL_law_267 : decode cL_law 267 = .ok (.aload_n 3, 1) := by decide +kernel
theorem dL_law_268 : decode cL_law 268 = .ok (.invokestatic 79, 3) := by decide +kernel
theorem dL_law_271 : decode cL_law 271 = .ok (.istore 5, 2) := by decide +kernel
theorem dL_law_273 : decode cL_law 273 = .ok (.aload_n 2, 1) := by decide +kernel
theorem dL_law_274 : decode cL_law 274 = .ok (.aload_n 0, 1) := by decide +kernel
theorem dL_law_275 : decode cL_law 275 = .ok (.iload 4, 2) := by decide +kernel
theorem dL_law_277 : decode cL_law 277 = .ok (.iconst 1, 1) := by decide +kernel
theorem dL_law_278 : decode cL_law 278 = .ok (.iadd, 1) := by decide +kernel
theorem dL_law_279 : decode cL_law 279 = .ok (.iaload, 1) := by decide +kernel
theorem dL_law_280 : decode cL_law 280 = .ok (.invokevirtual 82, 3) := by decide +kernel
theorem dL_law_283 : decode cL_law 283 = .ok (.istore 6, 2) := by decide +kernel
theorem dL_law_285 : decode cL_law 285 = .ok (.aload_n 2, 1) := by decide +kernel
theorem dL_law_286 : decode cL_law 286 = .ok (.invokevirtual 75, 3) := by decide +kernel
theorem dL_law_289 : decode cL_law 289 = .ok (.iload 5, 2) := by decide +kernel
theorem dL_law_291 : decode cL_law 291 = .ok (.if_icmp .eq 5, 3) := by decide +kernel
theorem dL_law_294 : decode cL_law 294 = .ok (.iconst 0, 1) := by decide +kernel
theorem dL_law_295 : decode cL_law 295 = .ok (.ireturn, 1) := by decide +kernel
theorem dL_law_296 : decode cL_law 296 = .ok (.iload 5, 2) := by decide +kernel
theorem dL_law_298 : decode cL_law 298 = .ok (.ifCond .ne 15, 3) := by decide +kernel
theorem dL_law_301 : decode cL_law 301 = .ok (.aload_n 3, 1) := by decide +kernel
theorem dL_law_302 : decode cL_law 302 = .ok (.iconst 0, 1) := by decide +kernel
theorem dL_law_303 : decode cL_law 303 = .ok (.laload, 1) := by decide +kernel
theorem dL_law_304 : decode cL_law 304 = .ok (.iload 6, 2) := by decide +kernel
theorem dL_law_306 : decode cL_law 306 = .ok (.i2l, 1) := by decide +kernel
theorem dL_law_307 : decode cL_law 307 = .ok (.lcmp, 1) := by decide +kernel
theorem dL_law_308 : decode cL_law 308 = .ok (.ifCond .eq 5, 3) := by decide +kernel
theorem dL_law_311 : decode cL_law 311 = .ok (.iconst 0, 1) := by decide +kernel
theorem dL_law_312 : decode cL_law 312 = .ok (.ireturn, 1) := by decide +kernel
theorem dL_law_313 : decode cL_law 313 = .ok (.goto 965, 3) := by decide +kernel
theorem dL_law_316 : decode cL_law 316 = .ok (.aload_n 1, 1) := by decide +kernel
theorem dL_law_317 : decode cL_law 317 = .ok (.aload_n 0, 1) := by decide +kernel
theorem dL_law_318 : decode cL_law 318 = .ok (.iload 4, 2) := by decide +kernel
theorem dL_law_320 : decode cL_law 320 = .ok (.iconst 1, 1) := by decide +kernel
theorem dL_law_321 : decode cL_law 321 = .ok (.iadd, 1) := by decide +kernel
theorem dL_law_322 : decode cL_law 322 = .ok (.iaload, 1) := by decide +kernel
theorem dL_law_323 : decode cL_law 323 = .ok (.aload_n 0, 1) := by decide +kernel
theorem dL_law_324 : decode cL_law 324 = .ok (.iload 4, 2) := by decide +kernel
theorem dL_law_326 : decode cL_law 326 = .ok (.iconst 2, 1) := by decide +kernel
theorem dL_law_327 : decode cL_law 327 = .ok (.iadd, 1) := by decide +kernel
theorem dL_law_328 : decode cL_law 328 = .ok (.iaload, 1) := by decide +kernel
theorem dL_law_329 : decode cL_law 329 = .ok (.ifCond .eq 7, 3) := by decide +kernel
theorem dL_law_332 : decode cL_law 332 = .ok (.iconst 1, 1) := by decide +kernel
theorem dL_law_333 : decode cL_law 333 = .ok (.goto 4, 3) := by decide +kernel
theorem dL_law_336 : decode cL_law 336 = .ok (.iconst 0, 1) := by decide +kernel
theorem dL_law_337 : decode cL_law 337 = .ok (.aload_n 3, 1) := by decide +kernel
theorem dL_law_338 : decode cL_law 338 = .ok (.invokestatic 83, 3) := by decide +kernel
theorem dL_law_341 : decode cL_law 341 = .ok (.istore 5, 2) := by decide +kernel
theorem dL_law_343 : decode cL_law 343 = .ok (.aload_n 2, 1) := by decide +kernel
theorem dL_law_344 : decode cL_law 344 = .ok (.aload_n 0, 1) := by decide +kernel
theorem dL_law_345 : decode cL_law 345 = .ok (.iload 4, 2) := by decide +kernel
theorem dL_law_347 : decode cL_law 347 = .ok (.iconst 1, 1) := by decide +kernel
theorem dL_law_348 : decode cL_law 348 = .ok (.iadd, 1) := by decide +kernel
theorem dL_law_349 : decode cL_law 349 = .ok (.iaload, 1) := by decide +kernel
theorem dL_law_350 : decode cL_law 350 = .ok (.aload_n 0, 1) := by decide +kernel
theorem dL_law_351 : decode cL_law 351 = .ok (.iload 4, 2) := by decide +kernel
theorem dL_law_353 : decode cL_law 353 = .ok (.iconst 2, 1) := by decide +kernel
theorem dL_law_354 : decode cL_law 354 = .ok (.iadd, 1) := by decide +kernel
theorem dL_law_355 : decode cL_law 355 = .ok (.iaload, 1) := by decide +kernel
theorem dL_law_356 : decode cL_law 356 = .ok (.ifCond .eq 7, 3) := by decide +kernel
theorem dL_law_359 : decode cL_law 359 = .ok (.iconst 1, 1) := by decide +kernel
theorem dL_law_360 : decode cL_law 360 = .ok (.goto 4, 3) := by decide +kernel
theorem dL_law_363 : decode cL_law 363 = .ok (.iconst 0, 1) := by decide +kernel
theorem dL_law_364 : decode cL_law 364 = .ok (.invokevirtual 86, 3) := by decide +kernel
theorem dL_law_367 : decode cL_law 367 = .ok (.istore 6, 2) := by decide +kernel
theorem dL_law_369 : decode cL_law 369 = .ok (.aload_n 2, 1) := by decide +kernel
theorem dL_law_370 : decode cL_law 370 = .ok (.invokevirtual 75, 3) := by decide +kernel
theorem dL_law_373 : decode cL_law 373 = .ok (.iload 5, 2) := by decide +kernel
theorem dL_law_375 : decode cL_law 375 = .ok (.if_icmp .eq 5, 3) := by decide +kernel
theorem dL_law_378 : decode cL_law 378 = .ok (.iconst 0, 1) := by decide +kernel
theorem dL_law_379 : decode cL_law 379 = .ok (.ireturn, 1) := by decide +kernel
theorem dL_law_380 : decode cL_law 380 = .ok (.iload 5, 2) := by decide +kernel
theorem dL_law_382 : decode cL_law 382 = .ok (.ifCond .ne 22, 3) := by decide +kernel
theorem dL_law_385 : decode cL_law 385 = .ok (.aload_n 3, 1) := by decide +kernel
theorem dL_law_386 : decode cL_law 386 = .ok (.iconst 0, 1) := by decide +kernel
theorem dL_law_387 : decode cL_law 387 = .ok (.laload, 1) := by decide +kernel
theorem dL_law_388 : decode cL_law 388 = .ok (.iload 6, 2) := by decide +kernel
theorem dL_law_390 : decode cL_law 390 = .ok (.ifCond .eq 7, 3) := by decide +kernel
theorem dL_law_393 : decode cL_law 393 = .ok (.lconst 1, 1) := by decide +kernel
theorem dL_law_394 : decode cL_law 394 = .ok (.goto 4, 3) := by decide +kernel
theorem dL_law_397 : decode cL_law 397 = .ok (.lconst 0, 1) := by decide +kernel
theorem dL_law_398 : decode cL_law 398 = .ok (.lcmp, 1) := by decide +kernel
theorem dL_law_399 : decode cL_law 399 = .ok (.ifCond .eq 5, 3) := by decide +kernel
theorem dL_law_402 : decode cL_law 402 = .ok (.iconst 0, 1) := by decide +kernel
theorem dL_law_403 : decode cL_law 403 = .ok (.ireturn, 1) := by decide +kernel
theorem dL_law_404 : decode cL_law 404 = .ok (.goto 874, 3) := by decide +kernel
theorem dL_law_407 : decode cL_law 407 = .ok (.aload_n 1, 1) := by decide +kernel
theorem dL_law_408 : decode cL_law 408 = .ok (.aload_n 0, 1) := by decide +kernel
theorem dL_law_409 : decode cL_law 409 = .ok (.iload 4, 2) := by decide +kernel
theorem dL_law_411 : decode cL_law 411 = .ok (.iconst 1, 1) := by decide +kernel
theorem dL_law_412 : decode cL_law 412 = .ok (.iadd, 1) := by decide +kernel
theorem dL_law_413 : decode cL_law 413 = .ok (.iaload, 1) := by decide +kernel
theorem dL_law_414 : decode cL_law 414 = .ok (.aload_n 3, 1) := by decide +kernel
theorem dL_law_415 : decode cL_law 415 = .ok (.invokestatic 87, 3) := by decide +kernel
theorem dL_law_418 : decode cL_law 418 = .ok (.istore 5, 2) := by decide +kernel
theorem dL_law_420 : decode cL_law 420 = .ok (.aload_n 2, 1) := by decide +kernel
theorem dL_law_421 : decode cL_law 421 = .ok (.aload_n 0, 1) := by decide +kernel
theorem dL_law_422 : decode cL_law 422 = .ok (.iload 4, 2) := by decide +kernel
theorem dL_law_424 : decode cL_law 424 = .ok (.iconst 1, 1) := by decide +kernel
theorem dL_law_425 : decode cL_law 425 = .ok (.iadd, 1) := by decide +kernel
theorem dL_law_426 : decode cL_law 426 = .ok (.iaload, 1) := by decide +kernel
theorem dL_law_427 : decode cL_law 427 = .ok (.invokevirtual 89, 3) := by decide +kernel
theorem dL_law_430 : decode cL_law 430 = .ok (.istore 6, 2) := by decide +kernel
theorem dL_law_432 : decode cL_law 432 = .ok (.aload_n 2, 1) := by decide +kernel
theorem dL_law_433 : decode cL_law 433 = .ok (.invokevirtual 75, 3) := by decide +kernel
theorem dL_law_436 : decode cL_law 436 = .ok (.iload 5, 2) := by decide +kernel
theorem dL_law_438 : decode cL_law 438 = .ok (.if_icmp .eq 5, 3) := by decide +kernel
theorem dL_law_441 : decode cL_law 441 = .ok (.iconst 0, 1) := by decide +kernel
theorem dL_law_442 : decode cL_law 442 = .ok (.ireturn, 1) := by decide +kernel
theorem dL_law_443 : decode cL_law 443 = .ok (.iload 5, 2) := by decide +kernel
theorem dL_law_445 : decode cL_law 445 = .ok (.ifCond .ne 15, 3) := by decide +kernel
theorem dL_law_448 : decode cL_law 448 = .ok (.aload_n 3, 1) := by decide +kernel
theorem dL_law_449 : decode cL_law 449 = .ok (.iconst 0, 1) := by decide +kernel
theorem dL_law_450 : decode cL_law 450 = .ok (.laload, 1) := by decide +kernel
theorem dL_law_451 : decode cL_law 451 = .ok (.iload 6, 2) := by decide +kernel
theorem dL_law_453 : decode cL_law 453 = .ok (.i2l, 1) := by decide +kernel
theorem dL_law_454 : decode cL_law 454 = .ok (.lcmp, 1) := by decide +kernel
theorem dL_law_455 : decode cL_law 455 = .ok (.ifCond .eq 5, 3) := by decide +kernel
theorem dL_law_458 : decode cL_law 458 = .ok (.iconst 0, 1) := by decide +kernel
theorem dL_law_459 : decode cL_law 459 = .ok (.ireturn, 1) := by decide +kernel
theorem dL_law_460 : decode cL_law 460 = .ok (.goto 818, 3) := by decide +kernel
theorem dL_law_463 : decode cL_law 463 = .ok (.aload_n 1, 1) := by decide +kernel
theorem dL_law_464 : decode cL_law 464 = .ok (.invokevirtual 90, 3) := by decide +kernel
theorem dL_law_467 : decode cL_law 467 = .ok (.aload_n 2, 1) := by decide +kernel
theorem dL_law_468 : decode cL_law 468 = .ok (.invokevirtual 93, 3) := by decide +kernel
theorem dL_law_471 : decode cL_law 471 = .ok (.if_icmp .eq 807, 3) := by decide +kernel
theorem dL_law_474 : decode cL_law 474 = .ok (.iconst 0, 1) := by decide +kernel
theorem dL_law_475 : decode cL_law 475 = .ok (.ireturn, 1) := by decide +kernel
theorem dL_law_476 : decode cL_law 476 = .ok (.aload_n 1, 1) := by decide +kernel
theorem dL_law_477 : decode cL_law 477 = .ok (.aload_n 0, 1) := by decide +kernel
theorem dL_law_478 : decode cL_law 478 = .ok (.iload 4, 2) := by decide +kernel
theorem dL_law_480 : decode cL_law 480 = .ok (.iconst 1, 1) := by decide +kernel
theorem dL_law_481 : decode cL_law 481 = .ok (.iadd, 1) := by decide +kernel
theorem dL_law_482 : decode cL_law 482 = .ok (.iaload, 1) := by decide +kernel
theorem dL_law_483 : decode cL_law 483 = .ok (.aload_n 3, 1) := by decide +kernel
theorem dL_law_484 : decode cL_law 484 = .ok (.invokestatic 94, 3) := by decide +kernel
theorem dL_law_487 : decode cL_law 487 = .ok (.istore 5, 2) := by decide +kernel
theorem dL_law_489 : decode cL_law 489 = .ok (.aload_n 2, 1) := by decide +kernel
theorem dL_law_490 : decode cL_law 490 = .ok (.aload_n 0, 1) := by decide +kernel
theorem dL_law_491 : decode cL_law 491 = .ok (.iload 4, 2) := by decide +kernel
theorem dL_law_493 : decode cL_law 493 = .ok (.iconst 1, 1) := by decide +kernel
theorem dL_law_494 : decode cL_law 494 = .ok (.iadd, 1) := by decide +kernel
theorem dL_law_495 : decode cL_law 495 = .ok (.iaload, 1) := by decide +kernel
theorem dL_law_496 : decode cL_law 496 = .ok (.invokevirtual 96, 3) := by decide +kernel
theorem dL_law_499 : decode cL_law 499 = .ok (.istore 6, 2) := by decide +kernel
theorem dL_law_501 : decode cL_law 501 = .ok (.aload_n 2, 1) := by decide +kernel
theorem dL_law_502 : decode cL_law 502 = .ok (.invokevirtual 75, 3) := by decide +kernel
theorem dL_law_505 : decode cL_law 505 = .ok (.iload 5, 2) := by decide +kernel
theorem dL_law_507 : decode cL_law 507 = .ok (.if_icmp .eq 5, 3) := by decide +kernel
theorem dL_law_510 : decode cL_law 510 = .ok (.iconst 0, 1) := by decide +kernel
theorem dL_law_511 : decode cL_law 511 = .ok (.ireturn, 1) := by decide +kernel
theorem dL_law_512 : decode cL_law 512 = .ok (.iload 5, 2) := by decide +kernel
theorem dL_law_514 : decode cL_law 514 = .ok (.ifCond .ne 15, 3) := by decide +kernel
theorem dL_law_517 : decode cL_law 517 = .ok (.aload_n 3, 1) := by decide +kernel
theorem dL_law_518 : decode cL_law 518 = .ok (.iconst 0, 1) := by decide +kernel
theorem dL_law_519 : decode cL_law 519 = .ok (.laload, 1) := by decide +kernel
theorem dL_law_520 : decode cL_law 520 = .ok (.iload 6, 2) := by decide +kernel
theorem dL_law_522 : decode cL_law 522 = .ok (.i2l, 1) := by decide +kernel
theorem dL_law_523 : decode cL_law 523 = .ok (.lcmp, 1) := by decide +kernel
theorem dL_law_524 : decode cL_law 524 = .ok (.ifCond .eq 5, 3) := by decide +kernel
theorem dL_law_527 : decode cL_law 527 = .ok (.iconst 0, 1) := by decide +kernel
theorem dL_law_528 : decode cL_law 528 = .ok (.ireturn, 1) := by decide +kernel
theorem dL_law_529 : decode cL_law 529 = .ok (.goto 749, 3) := by decide +kernel
theorem dL_law_532 : decode cL_law 532 = .ok (.aload_n 1, 1) := by decide +kernel
theorem dL_law_533 : decode cL_law 533 = .ok (.aload_n 0, 1) := by decide +kernel
theorem dL_law_534 : decode cL_law 534 = .ok (.iload 4, 2) := by decide +kernel
theorem dL_law_536 : decode cL_law 536 = .ok (.iconst 1, 1) := by decide +kernel
theorem dL_law_537 : decode cL_law 537 = .ok (.iadd, 1) := by decide +kernel
theorem dL_law_538 : decode cL_law 538 = .ok (.iaload, 1) := by decide +kernel
theorem dL_law_539 : decode cL_law 539 = .ok (.aload_n 3, 1) := by decide +kernel
theorem dL_law_540 : decode cL_law 540 = .ok (.invokestatic 97, 3) := by decide +kernel
theorem dL_law_543 : decode cL_law 543 = .ok (.istore 5, 2) := by decide +kernel
theorem dL_law_545 : decode cL_law 545 = .ok (.aload_n 2, 1) := by decide +kernel
theorem dL_law_546 : decode cL_law 546 = .ok (.aload_n 0, 1) := by decide +kernel
theorem dL_law_547 : decode cL_law 547 = .ok (.iload 4, 2) := by decide +kernel
theorem dL_law_549 : decode cL_law 549 = .ok (.iconst 1, 1) := by decide +kernel
theorem dL_law_550 : decode cL_law 550 = .ok (.iadd, 1) := by decide +kernel
theorem dL_law_551 : decode cL_law 551 = .ok (.iaload, 1) := by decide +kernel
theorem dL_law_552 : decode cL_law 552 = .ok (.invokevirtual 99, 3) := by decide +kernel
theorem dL_law_555 : decode cL_law 555 = .ok (.istore 6, 2) := by decide +kernel
theorem dL_law_557 : decode cL_law 557 = .ok (.aload_n 2, 1) := by decide +kernel
theorem dL_law_558 : decode cL_law 558 = .ok (.invokevirtual 75, 3) := by decide +kernel
theorem dL_law_561 : decode cL_law 561 = .ok (.iload 5, 2) := by decide +kernel
theorem dL_law_563 : decode cL_law 563 = .ok (.if_icmp .eq 5, 3) := by decide +kernel
theorem dL_law_566 : decode cL_law 566 = .ok (.iconst 0, 1) := by decide +kernel
theorem dL_law_567 : decode cL_law 567 = .ok (.ireturn, 1) := by decide +kernel
theorem dL_law_568 : decode cL_law 568 = .ok (.iload 5, 2) := by decide +kernel
theorem dL_law_570 : decode cL_law 570 = .ok (.ifCond .ne 15, 3) := by decide +kernel
theorem dL_law_573 : decode cL_law 573 = .ok (.aload_n 3, 1) := by decide +kernel
theorem dL_law_574 : decode cL_law 574 = .ok (.iconst 0, 1) := by decide +kernel
theorem dL_law_575 : decode cL_law 575 = .ok (.laload, 1) := by decide +kernel
theorem dL_law_576 : decode cL_law 576 = .ok (.iload 6, 2) := by decide +kernel
theorem dL_law_578 : decode cL_law 578 = .ok (.i2l, 1) := by decide +kernel
theorem dL_law_579 : decode cL_law 579 = .ok (.lcmp, 1) := by decide +kernel
theorem dL_law_580 : decode cL_law 580 = .ok (.ifCond .eq 5, 3) := by decide +kernel
theorem dL_law_583 : decode cL_law 583 = .ok (.iconst 0, 1) := by decide +kernel
theorem dL_law_584 : decode cL_law 584 = .ok (.ireturn, 1) := by decide +kernel
theorem dL_law_585 : decode cL_law 585 = .ok (.goto 693, 3) := by decide +kernel
theorem dL_law_588 : decode cL_law 588 = .ok (.aload_n 1, 1) := by decide +kernel
theorem dL_law_589 : decode cL_law 589 = .ok (.aload_n 0, 1) := by decide +kernel
theorem dL_law_590 : decode cL_law 590 = .ok (.iload 4, 2) := by decide +kernel
theorem dL_law_592 : decode cL_law 592 = .ok (.iconst 1, 1) := by decide +kernel
theorem dL_law_593 : decode cL_law 593 = .ok (.iadd, 1) := by decide +kernel
theorem dL_law_594 : decode cL_law 594 = .ok (.iaload, 1) := by decide +kernel
theorem dL_law_595 : decode cL_law 595 = .ok (.aload_n 3, 1) := by decide +kernel
theorem dL_law_596 : decode cL_law 596 = .ok (.invokestatic 100, 3) := by decide +kernel
theorem dL_law_599 : decode cL_law 599 = .ok (.istore 5, 2) := by decide +kernel
theorem dL_law_601 : decode cL_law 601 = .ok (.aload_n 2, 1) := by decide +kernel
theorem dL_law_602 : decode cL_law 602 = .ok (.aload_n 0, 1) := by decide +kernel
theorem dL_law_603 : decode cL_law 603 = .ok (.iload 4, 2) := by decide +kernel
theorem dL_law_605 : decode cL_law 605 = .ok (.iconst 1, 1) := by decide +kernel
theorem dL_law_606 : decode cL_law 606 = .ok (.iadd, 1) := by decide +kernel
theorem dL_law_607 : decode cL_law 607 = .ok (.iaload, 1) := by decide +kernel
theorem dL_law_608 : decode cL_law 608 = .ok (.invokevirtual 102, 3) := by decide +kernel
theorem dL_law_611 : decode cL_law 611 = .ok (.istore 6, 2) := by decide +kernel
theorem dL_law_613 : decode cL_law 613 = .ok (.aload_n 2, 1) := by decide +kernel
theorem dL_law_614 : decode cL_law 614 = .ok (.invokevirtual 75, 3) := by decide +kernel
theorem dL_law_617 : decode cL_law 617 = .ok (.iload 5, 2) := by decide +kernel
theorem dL_law_619 : decode cL_law 619 = .ok (.if_icmp .eq 5, 3) := by decide +kernel
theorem dL_law_622 : decode cL_law 622 = .ok (.iconst 0, 1) := by decide +kernel
theorem dL_law_623 : decode cL_law 623 = .ok (.ireturn, 1) := by decide +kernel
theorem dL_law_624 : decode cL_law 624 = .ok (.iload 5, 2) := by decide +kernel
theorem dL_law_626 : decode cL_law 626 = .ok (.ifCond .ne 22, 3) := by decide +kernel
theorem dL_law_629 : decode cL_law 629 = .ok (.aload_n 3, 1) := by decide +kernel
theorem dL_law_630 : decode cL_law 630 = .ok (.iconst 0, 1) := by decide +kernel
theorem dL_law_631 : decode cL_law 631 = .ok (.laload, 1) := by decide +kernel
theorem dL_law_632 : decode cL_law 632 = .ok (.iload 6, 2) := by decide +kernel
theorem dL_law_634 : decode cL_law 634 = .ok (.ifCond .eq 7, 3) := by decide +kernel
theorem dL_law_637 : decode cL_law 637 = .ok (.lconst 1, 1) := by decide +kernel
theorem dL_law_638 : decode cL_law 638 = .ok (.goto 4, 3) := by decide +kernel
theorem dL_law_641 : decode cL_law 641 = .ok (.lconst 0, 1) := by decide +kernel
theorem dL_law_642 : decode cL_law 642 = .ok (.lcmp, 1) := by decide +kernel
theorem dL_law_643 : decode cL_law 643 = .ok (.ifCond .eq 5, 3) := by decide +kernel
theorem dL_law_646 : decode cL_law 646 = .ok (.iconst 0, 1) := by decide +kernel
theorem dL_law_647 : decode cL_law 647 = .ok (.ireturn, 1) := by decide +kernel
theorem dL_law_648 : decode cL_law 648 = .ok (.goto 630, 3) := by decide +kernel
theorem dL_law_651 : decode cL_law 651 = .ok (.aload_n 1, 1) := by decide +kernel
theorem dL_law_652 : decode cL_law 652 = .ok (.aload_n 0, 1) := by decide +kernel
theorem dL_law_653 : decode cL_law 653 = .ok (.iload 4, 2) := by decide +kernel
theorem dL_law_655 : decode cL_law 655 = .ok (.iconst 1, 1) := by decide +kernel
theorem dL_law_656 : decode cL_law 656 = .ok (.iadd, 1) := by decide +kernel
theorem dL_law_657 : decode cL_law 657 = .ok (.iaload, 1) := by decide +kernel
theorem dL_law_658 : decode cL_law 658 = .ok (.aload_n 3, 1) := by decide +kernel
theorem dL_law_659 : decode cL_law 659 = .ok (.invokestatic 103, 3) := by decide +kernel
theorem dL_law_662 : decode cL_law 662 = .ok (.istore 5, 2) := by decide +kernel
theorem dL_law_664 : decode cL_law 664 = .ok (.aload_n 2, 1) := by decide +kernel
theorem dL_law_665 : decode cL_law 665 = .ok (.aload_n 0, 1) := by decide +kernel
theorem dL_law_666 : decode cL_law 666 = .ok (.iload 4, 2) := by decide +kernel
theorem dL_law_668 : decode cL_law 668 = .ok (.iconst 1, 1) := by decide +kernel
theorem dL_law_669 : decode cL_law 669 = .ok (.iadd, 1) := by decide +kernel
theorem dL_law_670 : decode cL_law 670 = .ok (.iaload, 1) := by decide +kernel
theorem dL_law_671 : decode cL_law 671 = .ok (.invokevirtual 105, 3) := by decide +kernel
theorem dL_law_674 : decode cL_law 674 = .ok (.istore 6, 2) := by decide +kernel
theorem dL_law_676 : decode cL_law 676 = .ok (.aload_n 2, 1) := by decide +kernel
theorem dL_law_677 : decode cL_law 677 = .ok (.invokevirtual 75, 3) := by decide +kernel
theorem dL_law_680 : decode cL_law 680 = .ok (.iload 5, 2) := by decide +kernel
theorem dL_law_682 : decode cL_law 682 = .ok (.if_icmp .eq 5, 3) := by decide +kernel
theorem dL_law_685 : decode cL_law 685 = .ok (.iconst 0, 1) := by decide +kernel
theorem dL_law_686 : decode cL_law 686 = .ok (.ireturn, 1) := by decide +kernel
theorem dL_law_687 : decode cL_law 687 = .ok (.iload 5, 2) := by decide +kernel
theorem dL_law_689 : decode cL_law 689 = .ok (.ifCond .ne 22, 3) := by decide +kernel
theorem dL_law_692 : decode cL_law 692 = .ok (.aload_n 3, 1) := by decide +kernel
theorem dL_law_693 : decode cL_law 693 = .ok (.iconst 0, 1) := by decide +kernel
theorem dL_law_694 : decode cL_law 694 = .ok (.laload, 1) := by decide +kernel
theorem dL_law_695 : decode cL_law 695 = .ok (.iload 6, 2) := by decide +kernel
theorem dL_law_697 : decode cL_law 697 = .ok (.ifCond .eq 7, 3) := by decide +kernel
theorem dL_law_700 : decode cL_law 700 = .ok (.lconst 1, 1) := by decide +kernel
theorem dL_law_701 : decode cL_law 701 = .ok (.goto 4, 3) := by decide +kernel
theorem dL_law_704 : decode cL_law 704 = .ok (.lconst 0, 1) := by decide +kernel
theorem dL_law_705 : decode cL_law 705 = .ok (.lcmp, 1) := by decide +kernel
theorem dL_law_706 : decode cL_law 706 = .ok (.ifCond .eq 5, 3) := by decide +kernel
theorem dL_law_709 : decode cL_law 709 = .ok (.iconst 0, 1) := by decide +kernel
theorem dL_law_710 : decode cL_law 710 = .ok (.ireturn, 1) := by decide +kernel
theorem dL_law_711 : decode cL_law 711 = .ok (.goto 567, 3) := by decide +kernel
theorem dL_law_714 : decode cL_law 714 = .ok (.aload_n 1, 1) := by decide +kernel
theorem dL_law_715 : decode cL_law 715 = .ok (.aload_n 0, 1) := by decide +kernel
theorem dL_law_716 : decode cL_law 716 = .ok (.iload 4, 2) := by decide +kernel
theorem dL_law_718 : decode cL_law 718 = .ok (.iconst 1, 1) := by decide +kernel
theorem dL_law_719 : decode cL_law 719 = .ok (.iadd, 1) := by decide +kernel
theorem dL_law_720 : decode cL_law 720 = .ok (.iaload, 1) := by decide +kernel
theorem dL_law_721 : decode cL_law 721 = .ok (.aload_n 3, 1) := by decide +kernel
theorem dL_law_722 : decode cL_law 722 = .ok (.invokestatic 106, 3) := by decide +kernel
theorem dL_law_725 : decode cL_law 725 = .ok (.istore 5, 2) := by decide +kernel
theorem dL_law_727 : decode cL_law 727 = .ok (.aload_n 2, 1) := by decide +kernel
theorem dL_law_728 : decode cL_law 728 = .ok (.aload_n 0, 1) := by decide +kernel
theorem dL_law_729 : decode cL_law 729 = .ok (.iload 4, 2) := by decide +kernel
theorem dL_law_731 : decode cL_law 731 = .ok (.iconst 1, 1) := by decide +kernel
theorem dL_law_732 : decode cL_law 732 = .ok (.iadd, 1) := by decide +kernel
theorem dL_law_733 : decode cL_law 733 = .ok (.iaload, 1) := by decide +kernel
theorem dL_law_734 : decode cL_law 734 = .ok (.invokevirtual 108, 3) := by decide +kernel
theorem dL_law_737 : decode cL_law 737 = .ok (.istore 6, 2) := by decide +kernel
theorem dL_law_739 : decode cL_law 739 = .ok (.aload_n 2, 1) := by decide +kernel
theorem dL_law_740 : decode cL_law 740 = .ok (.invokevirtual 75, 3) := by decide +kernel
theorem dL_law_743 : decode cL_law 743 = .ok (.iload 5, 2) := by decide +kernel
theorem dL_law_745 : decode cL_law 745 = .ok (.if_icmp .eq 5, 3) := by decide +kernel
theorem dL_law_748 : decode cL_law 748 = .ok (.iconst 0, 1) := by decide +kernel
theorem dL_law_749 : decode cL_law 749 = .ok (.ireturn, 1) := by decide +kernel
theorem dL_law_750 : decode cL_law 750 = .ok (.iload 5, 2) := by decide +kernel
theorem dL_law_752 : decode cL_law 752 = .ok (.ifCond .ne 15, 3) := by decide +kernel
theorem dL_law_755 : decode cL_law 755 = .ok (.aload_n 3, 1) := by decide +kernel
theorem dL_law_756 : decode cL_law 756 = .ok (.iconst 0, 1) := by decide +kernel
theorem dL_law_757 : decode cL_law 757 = .ok (.laload, 1) := by decide +kernel
theorem dL_law_758 : decode cL_law 758 = .ok (.iload 6, 2) := by decide +kernel
theorem dL_law_760 : decode cL_law 760 = .ok (.i2l, 1) := by decide +kernel
theorem dL_law_761 : decode cL_law 761 = .ok (.lcmp, 1) := by decide +kernel
theorem dL_law_762 : decode cL_law 762 = .ok (.ifCond .eq 5, 3) := by decide +kernel
theorem dL_law_765 : decode cL_law 765 = .ok (.iconst 0, 1) := by decide +kernel
theorem dL_law_766 : decode cL_law 766 = .ok (.ireturn, 1) := by decide +kernel
theorem dL_law_767 : decode cL_law 767 = .ok (.goto 511, 3) := by decide +kernel
theorem dL_law_770 : decode cL_law 770 = .ok (.aload_n 1, 1) := by decide +kernel
theorem dL_law_771 : decode cL_law 771 = .ok (.aload_n 0, 1) := by decide +kernel
theorem dL_law_772 : decode cL_law 772 = .ok (.iload 4, 2) := by decide +kernel
theorem dL_law_774 : decode cL_law 774 = .ok (.iconst 1, 1) := by decide +kernel
theorem dL_law_775 : decode cL_law 775 = .ok (.iadd, 1) := by decide +kernel
theorem dL_law_776 : decode cL_law 776 = .ok (.iaload, 1) := by decide +kernel
theorem dL_law_777 : decode cL_law 777 = .ok (.aload_n 3, 1) := by decide +kernel
theorem dL_law_778 : decode cL_law 778 = .ok (.invokestatic 109, 3) := by decide +kernel
theorem dL_law_781 : decode cL_law 781 = .ok (.istore 5, 2) := by decide +kernel
theorem dL_law_783 : decode cL_law 783 = .ok (.aload_n 2, 1) := by decide +kernel
theorem dL_law_784 : decode cL_law 784 = .ok (.aload_n 0, 1) := by decide +kernel
theorem dL_law_785 : decode cL_law 785 = .ok (.iload 4, 2) := by decide +kernel
theorem dL_law_787 : decode cL_law 787 = .ok (.iconst 1, 1) := by decide +kernel
theorem dL_law_788 : decode cL_law 788 = .ok (.iadd, 1) := by decide +kernel
theorem dL_law_789 : decode cL_law 789 = .ok (.iaload, 1) := by decide +kernel
theorem dL_law_790 : decode cL_law 790 = .ok (.invokevirtual 111, 3) := by decide +kernel
theorem dL_law_793 : decode cL_law 793 = .ok (.istore 6, 2) := by decide +kernel
theorem dL_law_795 : decode cL_law 795 = .ok (.aload_n 2, 1) := by decide +kernel
theorem dL_law_796 : decode cL_law 796 = .ok (.invokevirtual 75, 3) := by decide +kernel
theorem dL_law_799 : decode cL_law 799 = .ok (.iload 5, 2) := by decide +kernel
theorem dL_law_801 : decode cL_law 801 = .ok (.if_icmp .eq 5, 3) := by decide +kernel
theorem dL_law_804 : decode cL_law 804 = .ok (.iconst 0, 1) := by decide +kernel
theorem dL_law_805 : decode cL_law 805 = .ok (.ireturn, 1) := by decide +kernel
theorem dL_law_806 : decode cL_law 806 = .ok (.iload 5, 2) := by decide +kernel
theorem dL_law_808 : decode cL_law 808 = .ok (.ifCond .ne 15, 3) := by decide +kernel
theorem dL_law_811 : decode cL_law 811 = .ok (.aload_n 3, 1) := by decide +kernel
theorem dL_law_812 : decode cL_law 812 = .ok (.iconst 0, 1) := by decide +kernel
theorem dL_law_813 : decode cL_law 813 = .ok (.laload, 1) := by decide +kernel
theorem dL_law_814 : decode cL_law 814 = .ok (.iload 6, 2) := by decide +kernel
theorem dL_law_816 : decode cL_law 816 = .ok (.i2l, 1) := by decide +kernel
theorem dL_law_817 : decode cL_law 817 = .ok (.lcmp, 1) := by decide +kernel
theorem dL_law_818 : decode cL_law 818 = .ok (.ifCond .eq 5, 3) := by decide +kernel
theorem dL_law_821 : decode cL_law 821 = .ok (.iconst 0, 1) := by decide +kernel
theorem dL_law_822 : decode cL_law 822 = .ok (.ireturn, 1) := by decide +kernel
theorem dL_law_823 : decode cL_law 823 = .ok (.goto 455, 3) := by decide +kernel
theorem dL_law_826 : decode cL_law 826 = .ok (.aload_n 1, 1) := by decide +kernel
theorem dL_law_827 : decode cL_law 827 = .ok (.aload_n 0, 1) := by decide +kernel
theorem dL_law_828 : decode cL_law 828 = .ok (.iload 4, 2) := by decide +kernel
theorem dL_law_830 : decode cL_law 830 = .ok (.iconst 1, 1) := by decide +kernel
theorem dL_law_831 : decode cL_law 831 = .ok (.iadd, 1) := by decide +kernel
theorem dL_law_832 : decode cL_law 832 = .ok (.iaload, 1) := by decide +kernel
theorem dL_law_833 : decode cL_law 833 = .ok (.aload_n 3, 1) := by decide +kernel
theorem dL_law_834 : decode cL_law 834 = .ok (.invokestatic 112, 3) := by decide +kernel
theorem dL_law_837 : decode cL_law 837 = .ok (.istore 5, 2) := by decide +kernel
theorem dL_law_839 : decode cL_law 839 = .ok (.aload_n 2, 1) := by decide +kernel
theorem dL_law_840 : decode cL_law 840 = .ok (.aload_n 0, 1) := by decide +kernel
theorem dL_law_841 : decode cL_law 841 = .ok (.iload 4, 2) := by decide +kernel
theorem dL_law_843 : decode cL_law 843 = .ok (.iconst 1, 1) := by decide +kernel
theorem dL_law_844 : decode cL_law 844 = .ok (.iadd, 1) := by decide +kernel
theorem dL_law_845 : decode cL_law 845 = .ok (.iaload, 1) := by decide +kernel
theorem dL_law_846 : decode cL_law 846 = .ok (.invokevirtual 114, 3) := by decide +kernel
theorem dL_law_849 : decode cL_law 849 = .ok (.lstore 6, 2) := by decide +kernel
theorem dL_law_851 : decode cL_law 851 = .ok (.aload_n 2, 1) := by decide +kernel
theorem dL_law_852 : decode cL_law 852 = .ok (.invokevirtual 75, 3) := by decide +kernel
theorem dL_law_855 : decode cL_law 855 = .ok (.iload 5, 2) := by decide +kernel
theorem dL_law_857 : decode cL_law 857 = .ok (.if_icmp .eq 5, 3) := by decide +kernel
theorem dL_law_860 : decode cL_law 860 = .ok (.iconst 0, 1) := by decide +kernel
theorem dL_law_861 : decode cL_law 861 = .ok (.ireturn, 1) := by decide +kernel
theorem dL_law_862 : decode cL_law 862 = .ok (.iload 5, 2) := by decide +kernel
theorem dL_law_864 : decode cL_law 864 = .ok (.ifCond .ne 14, 3) := by decide +kernel
theorem dL_law_867 : decode cL_law 867 = .ok (.aload_n 3, 1) := by decide +kernel
theorem dL_law_868 : decode cL_law 868 = .ok (.iconst 0, 1) := by decide +kernel
theorem dL_law_869 : decode cL_law 869 = .ok (.laload, 1) := by decide +kernel
theorem dL_law_870 : decode cL_law 870 = .ok (.lload 6, 2) := by decide +kernel
theorem dL_law_872 : decode cL_law 872 = .ok (.lcmp, 1) := by decide +kernel
theorem dL_law_873 : decode cL_law 873 = .ok (.ifCond .eq 5, 3) := by decide +kernel
theorem dL_law_876 : decode cL_law 876 = .ok (.iconst 0, 1) := by decide +kernel
theorem dL_law_877 : decode cL_law 877 = .ok (.ireturn, 1) := by decide +kernel
theorem dL_law_878 : decode cL_law 878 = .ok (.goto 400, 3) := by decide +kernel
theorem dL_law_881 : decode cL_law 881 = .ok (.aload_n 1, 1) := by decide +kernel
theorem dL_law_882 : decode cL_law 882 = .ok (.aload_n 0, 1) := by decide +kernel
theorem dL_law_883 : decode cL_law 883 = .ok (.iload 4, 2) := by decide +kernel
theorem dL_law_885 : decode cL_law 885 = .ok (.iconst 1, 1) := by decide +kernel
theorem dL_law_886 : decode cL_law 886 = .ok (.iadd, 1) := by decide +kernel
theorem dL_law_887 : decode cL_law 887 = .ok (.iaload, 1) := by decide +kernel
theorem dL_law_888 : decode cL_law 888 = .ok (.aload_n 3, 1) := by decide +kernel
theorem dL_law_889 : decode cL_law 889 = .ok (.invokestatic 115, 3) := by decide +kernel
theorem dL_law_892 : decode cL_law 892 = .ok (.istore 5, 2) := by decide +kernel
theorem dL_law_894 : decode cL_law 894 = .ok (.aload_n 2, 1) := by decide +kernel
theorem dL_law_895 : decode cL_law 895 = .ok (.aload_n 0, 1) := by decide +kernel
theorem dL_law_896 : decode cL_law 896 = .ok (.iload 4, 2) := by decide +kernel
theorem dL_law_898 : decode cL_law 898 = .ok (.iconst 1, 1) := by decide +kernel
theorem dL_law_899 : decode cL_law 899 = .ok (.iadd, 1) := by decide +kernel
theorem dL_law_900 : decode cL_law 900 = .ok (.iaload, 1) := by decide +kernel
theorem dL_law_901 : decode cL_law 901 = .ok (.invokevirtual 117, 3) := by decide +kernel
theorem dL_law_904 : decode cL_law 904 = .ok (.istore 6, 2) := by decide +kernel
theorem dL_law_906 : decode cL_law 906 = .ok (.aload_n 2, 1) := by decide +kernel
theorem dL_law_907 : decode cL_law 907 = .ok (.invokevirtual 75, 3) := by decide +kernel
theorem dL_law_910 : decode cL_law 910 = .ok (.iload 5, 2) := by decide +kernel
theorem dL_law_912 : decode cL_law 912 = .ok (.if_icmp .eq 5, 3) := by decide +kernel
theorem dL_law_915 : decode cL_law 915 = .ok (.iconst 0, 1) := by decide +kernel
theorem dL_law_916 : decode cL_law 916 = .ok (.ireturn, 1) := by decide +kernel
theorem dL_law_917 : decode cL_law 917 = .ok (.iload 5, 2) := by decide +kernel
theorem dL_law_919 : decode cL_law 919 = .ok (.ifCond .ne 15, 3) := by decide +kernel
theorem dL_law_922 : decode cL_law 922 = .ok (.aload_n 3, 1) := by decide +kernel
theorem dL_law_923 : decode cL_law 923 = .ok (.iconst 0, 1) := by decide +kernel
theorem dL_law_924 : decode cL_law 924 = .ok (.laload, 1) := by decide +kernel
theorem dL_law_925 : decode cL_law 925 = .ok (.iload 6, 2) := by decide +kernel
theorem dL_law_927 : decode cL_law 927 = .ok (.i2l, 1) := by decide +kernel
theorem dL_law_928 : decode cL_law 928 = .ok (.lcmp, 1) := by decide +kernel
theorem dL_law_929 : decode cL_law 929 = .ok (.ifCond .eq 5, 3) := by decide +kernel
theorem dL_law_932 : decode cL_law 932 = .ok (.iconst 0, 1) := by decide +kernel
theorem dL_law_933 : decode cL_law 933 = .ok (.ireturn, 1) := by decide +kernel
theorem dL_law_934 : decode cL_law 934 = .ok (.goto 344, 3) := by decide +kernel
theorem dL_law_937 : decode cL_law 937 = .ok (.aload_n 1, 1) := by decide +kernel
theorem dL_law_938 : decode cL_law 938 = .ok (.aload_n 0, 1) := by decide +kernel
theorem dL_law_939 : decode cL_law 939 = .ok (.iload 4, 2) := by decide +kernel
theorem dL_law_941 : decode cL_law 941 = .ok (.iconst 1, 1) := by decide +kernel
theorem dL_law_942 : decode cL_law 942 = .ok (.iadd, 1) := by decide +kernel
theorem dL_law_943 : decode cL_law 943 = .ok (.iaload, 1) := by decide +kernel
theorem dL_law_944 : decode cL_law 944 = .ok (.aload_n 3, 1) := by decide +kernel
theorem dL_law_945 : decode cL_law 945 = .ok (.invokestatic 118, 3) := by decide +kernel
theorem dL_law_948 : decode cL_law 948 = .ok (.istore 5, 2) := by decide +kernel
theorem dL_law_950 : decode cL_law 950 = .ok (.aload_n 2, 1) := by decide +kernel
theorem dL_law_951 : decode cL_law 951 = .ok (.aload_n 0, 1) := by decide +kernel
theorem dL_law_952 : decode cL_law 952 = .ok (.iload 4, 2) := by decide +kernel
theorem dL_law_954 : decode cL_law 954 = .ok (.iconst 1, 1) := by decide +kernel
theorem dL_law_955 : decode cL_law 955 = .ok (.iadd, 1) := by decide +kernel
theorem dL_law_956 : decode cL_law 956 = .ok (.iaload, 1) := by decide +kernel
theorem dL_law_957 : decode cL_law 957 = .ok (.invokevirtual 120, 3) := by decide +kernel
theorem dL_law_960 : decode cL_law 960 = .ok (.istore 6, 2) := by decide +kernel
theorem dL_law_962 : decode cL_law 962 = .ok (.aload_n 2, 1) := by decide +kernel
theorem dL_law_963 : decode cL_law 963 = .ok (.invokevirtual 75, 3) := by decide +kernel
theorem dL_law_966 : decode cL_law 966 = .ok (.iload 5, 2) := by decide +kernel
theorem dL_law_968 : decode cL_law 968 = .ok (.if_icmp .eq 5, 3) := by decide +kernel
theorem dL_law_971 : decode cL_law 971 = .ok (.iconst 0, 1) := by decide +kernel
theorem dL_law_972 : decode cL_law 972 = .ok (.ireturn, 1) := by decide +kernel
theorem dL_law_973 : decode cL_law 973 = .ok (.iload 5, 2) := by decide +kernel
theorem dL_law_975 : decode cL_law 975 = .ok (.ifCond .ne 15, 3) := by decide +kernel
theorem dL_law_978 : decode cL_law 978 = .ok (.aload_n 3, 1) := by decide +kernel
theorem dL_law_979 : decode cL_law 979 = .ok (.iconst 0, 1) := by decide +kernel
theorem dL_law_980 : decode cL_law 980 = .ok (.laload, 1) := by decide +kernel
theorem dL_law_981 : decode cL_law 981 = .ok (.iload 6, 2) := by decide +kernel
theorem dL_law_983 : decode cL_law 983 = .ok (.i2l, 1) := by decide +kernel
theorem dL_law_984 : decode cL_law 984 = .ok (.lcmp, 1) := by decide +kernel
theorem dL_law_985 : decode cL_law 985 = .ok (.ifCond .eq 5, 3) := by decide +kernel
theorem dL_law_988 : decode cL_law 988 = .ok (.iconst 0, 1) := by decide +kernel
theorem dL_law_989 : decode cL_law 989 = .ok (.ireturn, 1) := by decide +kernel
theorem dL_law_990 : decode cL_law 990 = .ok (.goto 288, 3) := by decide +kernel
theorem dL_law_993 : decode cL_law 993 = .ok (.aload_n 1, 1) := by decide +kernel
theorem dL_law_994 : decode cL_law 994 = .ok (.aload_n 0, 1) := by decide +kernel
theorem dL_law_995 : decode cL_law 995 = .ok (.iload 4, 2) := by decide +kernel
theorem dL_law_997 : decode cL_law 997 = .ok (.iconst 1, 1) := by decide +kernel
theorem dL_law_998 : decode cL_law 998 = .ok (.iadd, 1) := by decide +kernel
theorem dL_law_999 : decode cL_law 999 = .ok (.iaload, 1) := by decide +kernel
theorem dL_law_1000 : decode cL_law 1000 = .ok (.aload_n 3, 1) := by decide +kernel
theorem dL_law_1001 : decode cL_law 1001 = .ok (.invokestatic 121, 3) := by decide +kernel
theorem dL_law_1004 : decode cL_law 1004 = .ok (.istore 5, 2) := by decide +kernel
theorem dL_law_1006 : decode cL_law 1006 = .ok (.aload_n 2, 1) := by decide +kernel
theorem dL_law_1007 : decode cL_law 1007 = .ok (.aload_n 0, 1) := by decide +kernel
theorem dL_law_1008 : decode cL_law 1008 = .ok (.iload 4, 2) := by decide +kernel
theorem dL_law_1010 : decode cL_law 1010 = .ok (.iconst 1, 1) := by decide +kernel
theorem dL_law_1011 : decode cL_law 1011 = .ok (.iadd, 1) := by decide +kernel
theorem dL_law_1012 : decode cL_law 1012 = .ok (.iaload, 1) := by decide +kernel
theorem dL_law_1013 : decode cL_law 1013 = .ok (.invokevirtual 123, 3) := by decide +kernel
theorem dL_law_1016 : decode cL_law 1016 = .ok (.istore 6, 2) := by decide +kernel
theorem dL_law_1018 : decode cL_law 1018 = .ok (.aload_n 2, 1) := by decide +kernel
theorem dL_law_1019 : decode cL_law 1019 = .ok (.invokevirtual 75, 3) := by decide +kernel
theorem dL_law_1022 : decode cL_law 1022 = .ok (.iload 5, 2) := by decide +kernel
theorem dL_law_1024 : decode cL_law 1024 = .ok (.if_icmp .eq 5, 3) := by decide +kernel
theorem dL_law_1027 : decode cL_law 1027 = .ok (.iconst 0, 1) := by decide +kernel
theorem dL_law_1028 : decode cL_law 1028 = .ok (.ireturn, 1) := by decide +kernel
theorem dL_law_1029 : decode cL_law 1029 = .ok (.iload 5, 2) := by decide +kernel
theorem dL_law_1031 : decode cL_law 1031 = .ok (.ifCond .ne 15, 3) := by decide +kernel
theorem dL_law_1034 : decode cL_law 1034 = .ok (.aload_n 3, 1) := by decide +kernel
theorem dL_law_1035 : decode cL_law 1035 = .ok (.iconst 0, 1) := by decide +kernel
theorem dL_law_1036 : decode cL_law 1036 = .ok (.laload, 1) := by decide +kernel
theorem dL_law_1037 : decode cL_law 1037 = .ok (.iload 6, 2) := by decide +kernel
theorem dL_law_1039 : decode cL_law 1039 = .ok (.i2l, 1) := by decide +kernel
theorem dL_law_1040 : decode cL_law 1040 = .ok (.lcmp, 1) := by decide +kernel
theorem dL_law_1041 : decode cL_law 1041 = .ok (.ifCond .eq 5, 3) := by decide +kernel
theorem dL_law_1044 : decode cL_law 1044 = .ok (.iconst 0, 1) := by decide +kernel
theorem dL_law_1045 : decode cL_law 1045 = .ok (.ireturn, 1) := by decide +kernel
theorem dL_law_1046 : decode cL_law 1046 = .ok (.goto 232, 3) := by decide +kernel
theorem dL_law_1049 : decode cL_law 1049 = .ok (.aload_n 1, 1) := by decide +kernel
theorem dL_law_1050 : decode cL_law 1050 = .ok (.invokevirtual 124, 3) := by decide +kernel
theorem dL_law_1053 : decode cL_law 1053 = .ok (.aload_n 2, 1) := by decide +kernel
theorem dL_law_1054 : decode cL_law 1054 = .ok (.invokevirtual 127, 3) := by decide +kernel
theorem dL_law_1057 : decode cL_law 1057 = .ok (.if_icmp .eq 221, 3) := by decide +kernel
theorem dL_law_1060 : decode cL_law 1060 = .ok (.iconst 0, 1) := by decide +kernel
theorem dL_law_1061 : decode cL_law 1061 = .ok (.ireturn, 1) := by decide +kernel
theorem dL_law_1062 : decode cL_law 1062 = .ok (.aload_n 1, 1) := by decide +kernel
theorem dL_law_1063 : decode cL_law 1063 = .ok (.aload_n 0, 1) := by decide +kernel
theorem dL_law_1064 : decode cL_law 1064 = .ok (.iload 4, 2) := by decide +kernel
theorem dL_law_1066 : decode cL_law 1066 = .ok (.iconst 1, 1) := by decide +kernel
theorem dL_law_1067 : decode cL_law 1067 = .ok (.iadd, 1) := by decide +kernel
theorem dL_law_1068 : decode cL_law 1068 = .ok (.iaload, 1) := by decide +kernel
theorem dL_law_1069 : decode cL_law 1069 = .ok (.aload_n 3, 1) := by decide +kernel
theorem dL_law_1070 : decode cL_law 1070 = .ok (.invokestatic 128, 3) := by decide +kernel
theorem dL_law_1073 : decode cL_law 1073 = .ok (.istore 5, 2) := by decide +kernel
theorem dL_law_1075 : decode cL_law 1075 = .ok (.aload_n 2, 1) := by decide +kernel
theorem dL_law_1076 : decode cL_law 1076 = .ok (.aload_n 0, 1) := by decide +kernel
theorem dL_law_1077 : decode cL_law 1077 = .ok (.iload 4, 2) := by decide +kernel
theorem dL_law_1079 : decode cL_law 1079 = .ok (.iconst 1, 1) := by decide +kernel
theorem dL_law_1080 : decode cL_law 1080 = .ok (.iadd, 1) := by decide +kernel
theorem dL_law_1081 : decode cL_law 1081 = .ok (.iaload, 1) := by decide +kernel
theorem dL_law_1082 : decode cL_law 1082 = .ok (.invokevirtual 130, 3) := by decide +kernel
theorem dL_law_1085 : decode cL_law 1085 = .ok (.istore 6, 2) := by decide +kernel
theorem dL_law_1087 : decode cL_law 1087 = .ok (.aload_n 2, 1) := by decide +kernel
theorem dL_law_1088 : decode cL_law 1088 = .ok (.invokevirtual 75, 3) := by decide +kernel
theorem dL_law_1091 : decode cL_law 1091 = .ok (.iload 5, 2) := by decide +kernel
theorem dL_law_1093 : decode cL_law 1093 = .ok (.if_icmp .eq 5, 3) := by decide +kernel
theorem dL_law_1096 : decode cL_law 1096 = .ok (.iconst 0, 1) := by decide +kernel
theorem dL_law_1097 : decode cL_law 1097 = .ok (.ireturn, 1) := by decide +kernel
theorem dL_law_1098 : decode cL_law 1098 = .ok (.iload 5, 2) := by decide +kernel
theorem dL_law_1100 : decode cL_law 1100 = .ok (.ifCond .ne 15, 3) := by decide +kernel
theorem dL_law_1103 : decode cL_law 1103 = .ok (.aload_n 3, 1) := by decide +kernel
theorem dL_law_1104 : decode cL_law 1104 = .ok (.iconst 0, 1) := by decide +kernel
theorem dL_law_1105 : decode cL_law 1105 = .ok (.laload, 1) := by decide +kernel
theorem dL_law_1106 : decode cL_law 1106 = .ok (.iload 6, 2) := by decide +kernel
theorem dL_law_1108 : decode cL_law 1108 = .ok (.i2l, 1) := by decide +kernel
theorem dL_law_1109 : decode cL_law 1109 = .ok (.lcmp, 1) := by decide +kernel
theorem dL_law_1110 : decode cL_law 1110 = .ok (.ifCond .eq 5, 3) := by decide +kernel
theorem dL_law_1113 : decode cL_law 1113 = .ok (.iconst 0, 1) := by decide +kernel
theorem dL_law_1114 : decode cL_law 1114 = .ok (.ireturn, 1) := by decide +kernel
theorem dL_law_1115 : decode cL_law 1115 = .ok (.goto 163, 3) := by decide +kernel
theorem dL_law_1118 : decode cL_law 1118 = .ok (.aload_n 1, 1) := by decide +kernel
theorem dL_law_1119 : decode cL_law 1119 = .ok (.invokevirtual 131, 3) := by decide +kernel
theorem dL_law_1122 : decode cL_law 1122 = .ok (.aload_n 2, 1) := by decide +kernel
theorem dL_law_1123 : decode cL_law 1123 = .ok (.invokevirtual 134, 3) := by decide +kernel
theorem dL_law_1126 : decode cL_law 1126 = .ok (.if_icmp .eq 152, 3) := by decide +kernel
theorem dL_law_1129 : decode cL_law 1129 = .ok (.iconst 0, 1) := by decide +kernel
theorem dL_law_1130 : decode cL_law 1130 = .ok (.ireturn, 1) := by decide +kernel
theorem dL_law_1131 : decode cL_law 1131 = .ok (.aload_n 1, 1) := by decide +kernel
theorem dL_law_1132 : decode cL_law 1132 = .ok (.invokevirtual 135, 3) := by decide +kernel
theorem dL_law_1135 : decode cL_law 1135 = .ok (.aload_n 2, 1) := by decide +kernel
theorem dL_law_1136 : decode cL_law 1136 = .ok (.invokevirtual 139, 3) := by decide +kernel
theorem dL_law_1139 : decode cL_law 1139 = .ok (.lcmp, 1) := by decide +kernel
theorem dL_law_1140 : decode cL_law 1140 = .ok (.ifCond .eq 138, 3) := by decide +kernel
theorem dL_law_1143 : decode cL_law 1143 = .ok (.iconst 0, 1) := by decide +kernel
theorem dL_law_1144 : decode cL_law 1144 = .ok (.ireturn, 1) := by decide +kernel
theorem dL_law_1145 : decode cL_law 1145 = .ok (.aload_n 1, 1) := by decide +kernel
theorem dL_law_1146 : decode cL_law 1146 = .ok (.invokevirtual 140, 3) := by decide +kernel
theorem dL_law_1149 : decode cL_law 1149 = .ok (.aload_n 2, 1) := by decide +kernel
theorem dL_law_1150 : decode cL_law 1150 = .ok (.invokevirtual 143, 3) := by decide +kernel
theorem dL_law_1153 : decode cL_law 1153 = .ok (.if_icmp .eq 125, 3) := by decide +kernel
theorem dL_law_1156 : decode cL_law 1156 = .ok (.iconst 0, 1) := by decide +kernel
theorem dL_law_1157 : decode cL_law 1157 = .ok (.ireturn, 1) := by decide +kernel
theorem dL_law_1158 : decode cL_law 1158 = .ok (.aload_n 1, 1) := by decide +kernel
theorem dL_law_1159 : decode cL_law 1159 = .ok (.invokevirtual 144, 3) := by decide +kernel
theorem dL_law_1162 : decode cL_law 1162 = .ok (.aload_n 2, 1) := by decide +kernel
theorem dL_law_1163 : decode cL_law 1163 = .ok (.invokevirtual 147, 3) := by decide +kernel
theorem dL_law_1166 : decode cL_law 1166 = .ok (.if_icmp .eq 112, 3) := by decide +kernel
theorem dL_law_1169 : decode cL_law 1169 = .ok (.iconst 0, 1) := by decide +kernel
theorem dL_law_1170 : decode cL_law 1170 = .ok (.ireturn, 1) := by decide +kernel
theorem dL_law_1171 : decode cL_law 1171 = .ok (.aload_n 1, 1) := by decide +kernel
theorem dL_law_1172 : decode cL_law 1172 = .ok (.invokevirtual 148, 3) := by decide +kernel
theorem dL_law_1175 : decode cL_law 1175 = .ok (.aload_n 2, 1) := by decide +kernel
theorem dL_law_1176 : decode cL_law 1176 = .ok (.invokevirtual 151, 3) := by decide +kernel
theorem dL_law_1179 : decode cL_law 1179 = .ok (.if_icmp .eq 99, 3) := by decide +kernel
theorem dL_law_1182 : decode cL_law 1182 = .ok (.iconst 0, 1) := by decide +kernel
theorem dL_law_1183 : decode cL_law 1183 = .ok (.ireturn, 1) := by decide +kernel
theorem dL_law_1184 : decode cL_law 1184 = .ok (.aload_n 1, 1) := by decide +kernel
theorem dL_law_1185 : decode cL_law 1185 = .ok (.invokevirtual 152, 3) := by decide +kernel
theorem dL_law_1188 : decode cL_law 1188 = .ok (.aload_n 2, 1) := by decide +kernel
theorem dL_law_1189 : decode cL_law 1189 = .ok (.invokevirtual 155, 3) := by decide +kernel
theorem dL_law_1192 : decode cL_law 1192 = .ok (.if_icmp .eq 86, 3) := by decide +kernel
theorem dL_law_1195 : decode cL_law 1195 = .ok (.iconst 0, 1) := by decide +kernel
theorem dL_law_1196 : decode cL_law 1196 = .ok (.ireturn, 1) := by decide +kernel
theorem dL_law_1197 : decode cL_law 1197 = .ok (.aload_n 1, 1) := by decide +kernel
theorem dL_law_1198 : decode cL_law 1198 = .ok (.invokevirtual 156, 3) := by decide +kernel
theorem dL_law_1201 : decode cL_law 1201 = .ok (.aload_n 2, 1) := by decide +kernel
theorem dL_law_1202 : decode cL_law 1202 = .ok (.invokevirtual 159, 3) := by decide +kernel
theorem dL_law_1205 : decode cL_law 1205 = .ok (.if_icmp .eq 73, 3) := by decide +kernel
theorem dL_law_1208 : decode cL_law 1208 = .ok (.iconst 0, 1) := by decide +kernel
theorem dL_law_1209 : decode cL_law 1209 = .ok (.ireturn, 1) := by decide +kernel
theorem dL_law_1210 : decode cL_law 1210 = .ok (.aload_n 1, 1) := by decide +kernel
theorem dL_law_1211 : decode cL_law 1211 = .ok (.invokevirtual 160, 3) := by decide +kernel
theorem dL_law_1214 : decode cL_law 1214 = .ok (.aload_n 2, 1) := by decide +kernel
theorem dL_law_1215 : decode cL_law 1215 = .ok (.invokevirtual 163, 3) := by decide +kernel
theorem dL_law_1218 : decode cL_law 1218 = .ok (.lcmp, 1) := by decide +kernel
theorem dL_law_1219 : decode cL_law 1219 = .ok (.ifCond .eq 59, 3) := by decide +kernel
theorem dL_law_1222 : decode cL_law 1222 = .ok (.iconst 0, 1) := by decide +kernel
theorem dL_law_1223 : decode cL_law 1223 = .ok (.ireturn, 1) := by decide +kernel
theorem dL_law_1224 : decode cL_law 1224 = .ok (.aload_n 1, 1) := by decide +kernel
theorem dL_law_1225 : decode cL_law 1225 = .ok (.invokevirtual 164, 3) := by decide +kernel
theorem dL_law_1228 : decode cL_law 1228 = .ok (.aload_n 2, 1) := by decide +kernel
theorem dL_law_1229 : decode cL_law 1229 = .ok (.invokevirtual 167, 3) := by decide +kernel
theorem dL_law_1232 : decode cL_law 1232 = .ok (.lcmp, 1) := by decide +kernel
theorem dL_law_1233 : decode cL_law 1233 = .ok (.ifCond .eq 45, 3) := by decide +kernel
theorem dL_law_1236 : decode cL_law 1236 = .ok (.iconst 0, 1) := by decide +kernel
theorem dL_law_1237 : decode cL_law 1237 = .ok (.ireturn, 1) := by decide +kernel
theorem dL_law_1238 : decode cL_law 1238 = .ok (.aload_n 1, 1) := by decide +kernel
theorem dL_law_1239 : decode cL_law 1239 = .ok (.invokevirtual 168, 3) := by decide +kernel
theorem dL_law_1242 : decode cL_law 1242 = .ok (.aload_n 2, 1) := by decide +kernel
theorem dL_law_1243 : decode cL_law 1243 = .ok (.invokevirtual 171, 3) := by decide +kernel
theorem dL_law_1246 : decode cL_law 1246 = .ok (.lcmp, 1) := by decide +kernel
theorem dL_law_1247 : decode cL_law 1247 = .ok (.ifCond .eq 31, 3) := by decide +kernel
theorem dL_law_1250 : decode cL_law 1250 = .ok (.iconst 0, 1) := by decide +kernel
theorem dL_law_1251 : decode cL_law 1251 = .ok (.ireturn, 1) := by decide +kernel
theorem dL_law_1252 : decode cL_law 1252 = .ok (.aload_n 1, 1) := by decide +kernel
theorem dL_law_1253 : decode cL_law 1253 = .ok (.invokevirtual 172, 3) := by decide +kernel
theorem dL_law_1256 : decode cL_law 1256 = .ok (.aload_n 2, 1) := by decide +kernel
theorem dL_law_1257 : decode cL_law 1257 = .ok (.invokevirtual 175, 3) := by decide +kernel
theorem dL_law_1260 : decode cL_law 1260 = .ok (.if_icmp .eq 18, 3) := by decide +kernel
theorem dL_law_1263 : decode cL_law 1263 = .ok (.iconst 0, 1) := by decide +kernel
theorem dL_law_1264 : decode cL_law 1264 = .ok (.ireturn, 1) := by decide +kernel
theorem dL_law_1265 : decode cL_law 1265 = .ok (.aload_n 1, 1) := by decide +kernel
theorem dL_law_1266 : decode cL_law 1266 = .ok (.invokevirtual 176, 3) := by decide +kernel
theorem dL_law_1269 : decode cL_law 1269 = .ok (.aload_n 2, 1) := by decide +kernel
theorem dL_law_1270 : decode cL_law 1270 = .ok (.invokevirtual 179, 3) := by decide +kernel
theorem dL_law_1273 : decode cL_law 1273 = .ok (.if_icmp .eq 5, 3) := by decide +kernel
theorem dL_law_1276 : decode cL_law 1276 = .ok (.iconst 0, 1) := by decide +kernel
theorem dL_law_1277 : decode cL_law 1277 = .ok (.ireturn, 1) := by decide +kernel
theorem dL_law_1278 : decode cL_law 1278 = .ok (.iinc 4 5, 3) := by decide +kernel
theorem dL_law_1281 : decode cL_law 1281 = .ok (.goto (-1258), 3) := by decide +kernel
theorem dL_law_1284 : decode cL_law 1284 = .ok (.iconst 1, 1) := by decide +kernel
theorem dL_law_1285 : decode cL_law 1285 = .ok (.ireturn, 1) := by decide +kernel
end
section
/-! ===== the state that both sides hold, by fields' numbers; its updates ===== -/
abbrev St : Type := (Nat → Int32) × (Nat → Int64) × (Nat → Nat → Int32) × (Nat → Nat → Int64) × (Nat → Nat → Bool)
def bI (b : Bool) : Int32 := if b then 1 else 0
def gI (σ : St) (j : Nat) : Int32 := σ.1 j
def gL (σ : St) (j : Nat) : Int64 := σ.2.1 j
def gS (σ : St) (j k : Nat) : Int32 := σ.2.2.1 j k
def gT (σ : St) (j k : Nat) : Int64 := σ.2.2.2.1 j k
def gB (σ : St) (j k : Nat) : Bool := σ.2.2.2.2 j k
def uI (σ : St) (j : Nat) (v : Int32) : St := (va_up σ.1 j v, σ.2)
def uL (σ : St) (j : Nat) (v : Int64) : St := (σ.1, va_up σ.2.1 j v, σ.2.2)
def uS (σ : St) (j k : Nat) (v : Int32) : St := (σ.1, σ.2.1, va_up σ.2.2.1 j (va_up (σ.2.2.1 j) k v), σ.2.2.2)
def uT (σ : St) (j k : Nat) (v : Int64) : St := (σ.1, σ.2.1, σ.2.2.1, va_up σ.2.2.2.1 j (va_up (σ.2.2.2.1 j) k v), σ.2.2.2.2)
def uB (σ : St) (j k : Nat) (v : Bool) : St := (σ.1, σ.2.1, σ.2.2.1, σ.2.2.2.1, va_up σ.2.2.2.2 j (va_up (σ.2.2.2.2 j) k v))
theorem bI_t : bI true = 1 := rfl
theorem bI_f : bI false = 0 := rfl
theorem bI_0 {b : Bool} : bI b = 0 ↔ b = false := by cases b <;> decide
theorem bI_n0 {b : Bool} : ¬ bI b = 0 ↔ b = true := by cases b <;> decide
theorem bI_nar (b : Bool) : narrow .boolean (.int (bI b)) = .int (bI b) := by cases b <;> rfl
theorem bI_fit (b : Bool) : fits .boolean (.int (bI b)) = true := by cases b <;> rfl
theorem bI_vp (b : Bool) : vp_nar .boolean (bI b) = bI b := by cases b <;> rfl
theorem bI_or (b : Bool) : bI b = 0 ∨ bI b = 1 := by cases b <;> decide
theorem bI_of {x : Int32} (h : x = 0 ∨ x = 1) : x = bI (decide (x = 1)) := by rcases h with rfl | rfl <;> decide
theorem bI_inj {a b : Bool} (h : bI a = bI b) : a = b := by revert h; cases a <;> cases b <;> decide
theorem bI_eqL {a b : Bool} : (bI a).toInt64 = (if b then (1 : Int64) else 0) ↔ a = b := by cases a <;> cases b <;> decide
/-! ===== the worlds ===== -/
def cF (ar : Nat) (σ : St) : List Value := [.ref ar, .int (gI σ 1), .long (gL σ 2), .int (gI σ 3), .int (gI σ 4), .long (gL σ 5), .int (gI σ 6), .int (gI σ 7), .long (gL σ 8), .long (gL σ 9), .long (gL σ 10), .int (gI σ 11), .int (gI σ 12)]
def sF (σ : St) (k : Nat) : List Value := [.int (gS σ 0 k), .int (bI (gB σ 1 k)), .int (bI (gB σ 2 k)), .int (gS σ 3 k), .int (gS σ 4 k), .int (gS σ 5 k), .long (gT σ 6 k), .long (gT σ 7 k), .int (gS σ 8 k)]
def mF (ba : Nat → Nat) (σ : St) : List Value := [.int (gI σ 3), .int (gI σ 4), .int (gI σ 1), .long (gL σ 2), .long (gL σ 5), .ref (ba 0), .ref (ba 1), .ref (ba 2), .ref (ba 3), .ref (ba 4), .ref (ba 5), .ref (ba 6), .ref (ba 7), .ref (ba 8), .int (gI σ 6), .int (gI σ 7), .long (gL σ 8), .long (gL σ 9), .long (gL σ 10), .int (gI σ 11), .int (gI σ 12), .int (gI σ 20)]
def xQ (f : Nat → Option Nat) : (Nat → Int32) ⊕ (Nat → Int64) ⊕ (Nat → UInt32) ⊕ (Nat → UInt64) ⊕ (Nat → Option Nat) := .inr (.inr (.inr (.inr f)))
def cPl (ad : Nat → Nat) (σ : St) : va_W := (List.range 32).map (fun k => (ad k, .inr (0, sF σ k)))
def cW (ax ar : Nat) (ad : Nat → Nat) (cO : ClassId) (σ : St) : va_W := (ax, .inr (1, cF ar σ)) :: (ar, .inl (cO, 32, .inr (.inr (.inr (.inr (fun k => some (ad k))))))) :: cPl ad σ
def mW (bx : Nat) (ba : Nat → Nat) (cI cJ cZ : ClassId) (σ : St) : va_W :=
  [(bx, .inr (2, mF ba σ)), (ba 0, .inl (cZ, 32, .inl (fun k => bI (gB σ 1 k)))), (ba 1, .inl (cZ, 32, .inl (fun k => bI (gB σ 2 k)))), (ba 2, .inl (cI, 32, .inl (gS σ 3))), (ba 3, .inl (cI, 32, .inl (gS σ 9))), (ba 4, .inl (cI, 32, .inl (gS σ 4))), (ba 5, .inl (cJ, 32, .inr (.inl (gT σ 6)))), (ba 6, .inl (cI, 32, .inl (gS σ 5))), (ba 7, .inl (cJ, 32, .inr (.inl (gT σ 7)))), (ba 8, .inl (cI, 32, .inl (gS σ 8)))]
theorem cPl_get (ad : Nat → Nat) (σ : St) {k : Nat} (h : k < 32) : (cPl ad σ)[k]? = some (ad k, .inr (0, sF σ k)) := by simp [cPl, h]
theorem cW_slot {ax ar : Nat} {ad : Nat → Nat} {cO : ClassId} (σ : St) {k : Nat} (h : k < 32) : (cW ax ar ad cO σ)[k + 2]? = some (ad k, .inr (0, sF σ k)) := by
  show (cPl ad σ)[k]? = _
  exact cPl_get ad σ h
theorem cPl_set (ad : Nat → Nat) (σ τ : St) {k : Nat} (h : k < 32) {e : va_E} (he : e = .inr (0, sF τ k)) (ho : ∀ j, j ≠ k → sF τ j = sF σ j) : (cPl ad σ).set k (ad k, e) = cPl ad τ := by
  apply List.ext_getElem?
  intro j
  by_cases hj : j = k
  · subst hj
    rw [List.getElem?_set_self (by simpa [cPl] using h), cPl_get ad τ h, he]
  · rw [List.getElem?_set_ne (Ne.symm hj)]
    simp only [cPl, List.getElem?_map]
    cases hr : (List.range 32)[j]? with
    | none => rfl
    | some b =>
      have hb : b = j := by
        have h9 := List.getElem?_eq_some_iff.mp hr
        obtain ⟨h10, h11⟩ := h9
        simpa using h11.symm
      subst hb
      simp [ho b hj]
theorem cW_setS {ax ar : Nat} {ad : Nat → Nat} {cO : ClassId} (σ τ : St) {k : Nat} (h : k < 32) {e : va_E} (he : e = .inr (0, sF τ k)) (ho : ∀ j, j ≠ k → sF τ j = sF σ j) (hc : cF ar τ = cF ar σ) : (cW ax ar ad cO σ).set (k + 2) (ad k, e) = cW ax ar ad cO τ := by
  show (ax, Sum.inr (1, cF ar σ)) :: (ar, Sum.inl (cO, 32, .inr (.inr (.inr (.inr (fun k => some (ad k))))))) :: (cPl ad σ).set k (ad k, e) = _
  rw [cPl_set ad σ τ h he ho]
  unfold cW
  rw [hc]
theorem cW_setC {ax ar : Nat} {ad : Nat → Nat} {cO : ClassId} (σ τ : St) {e : va_E} (he : e = .inr (1, cF ar τ)) (ho : ∀ j, sF τ j = sF σ j) : (cW ax ar ad cO σ).set 0 (ax, e) = cW ax ar ad cO τ := by
  show (ax, e) :: (ar, Sum.inl (cO, 32, .inr (.inr (.inr (.inr (fun k => some (ad k))))))) :: cPl ad σ = _
  unfold cW cPl
  rw [he, show (fun k => (ad k, (Sum.inr (0, sF τ k) : va_E))) = (fun k => (ad k, Sum.inr (0, sF σ k))) from funext fun k => by rw [ho k]]
theorem cW_fst (ax ar : Nat) (ad : Nat → Nat) (cO : ClassId) (σ τ : St) : (cW ax ar ad cO σ).map Prod.fst = (cW ax ar ad cO τ).map Prod.fst := by
  simp [cW, cPl]
theorem mW_fst (bx : Nat) (ba : Nat → Nat) (cI cJ cZ : ClassId) (σ τ : St) : (mW bx ba cI cJ cZ σ).map Prod.fst = (mW bx ba cI cJ cZ τ).map Prod.fst := rfl
theorem va_D_same {A : Nat → Prop} {w w' : va_W} (h : va_D A w) (e : w'.map Prod.fst = w.map Prod.fst) : va_D A w' := by
  have key : ∀ (i : Nat) (p : Nat × va_E), w'[i]? = some p → ∃ q, w[i]? = some q ∧ q.1 = p.1 := by
    intro i p hp
    have h1 : (w'.map Prod.fst)[i]? = some p.1 := by rw [List.getElem?_map, hp]; rfl
    rw [e, List.getElem?_map] at h1
    cases hq : w[i]? with
    | none => rw [hq] at h1; cases h1
    | some q => rw [hq] at h1; exact ⟨q, rfl, Option.some.inj h1⟩
  refine ⟨fun i j p q hp hq hpq => ?_, fun k q hq => ?_⟩
  · obtain ⟨p0, h1, h2⟩ := key i p hp
    obtain ⟨q0, h3, h4⟩ := key j q hq
    exact h.1 i j p0 q0 h1 h3 (h2.trans (hpq.trans h4.symm))
  · obtain ⟨q0, h1, h2⟩ := key k q hq
    rw [← h2]
    exact h.2 k q0 h1
/-! ===== contracts: start, end ===== -/
/-- what a method's start says beside its world: closed under what a caller does before the call -/
def xEok (E : (Nat → Prop) → State → Heap → Prop) : Prop := ∀ (A B : Nat → Prop) (u U : State) (H H1 : Heap), u.WarmedH U.vm → (∀ a : Nat, a < H.size → ¬ A a → H1[a]? = H[a]?) → (∀ q, B q → A q) → E A u H → E B U H1
def xPre {S : Type} (D : va_G) (tys : List (ClassId × FieldType)) (E : (Nat → Prop) → State → Heap → Prop) (w : S → va_W) (σ : S) (sz : Nat) (U : State) : Prop :=
  U.heap.size = sz ∧ va_P D vwCl (w σ) U.heap ∧ va_K D vwCl tys U ∧ va_D (fun _ => True) (w σ) ∧ E (va_A (w σ) sz) U U.heap
def xB {S : Type} (D : va_G) (tys : List (ClassId × FieldType)) (w : S → va_W) (A : Nat → Prop) (u : S) (t : State) : Prop :=
  va_P D vwCl (w u) t.heap ∧ va_K D vwCl tys t ∧ va_D A (w u)
def xXC {S : Type} (D : va_G) (tys : List (ClassId × FieldType)) (w : S → va_W) (A : Nat → Prop) (σ : S) (xc : String → Prop) : String → State → State → Prop :=
  vx_X (fun _ : Unit => True) (fun E _ t => xc E ∧ xB D tys w A σ t) A
theorem xPre_blind {S : Type} {D : va_G} {tys : List (ClassId × FieldType)} {E : (Nat → Prop) → State → Heap → Prop} {w : S → va_W} {σ : S} {sz : Nat} {av : List Value} (hE : xEok E) : FrameBlind (va_Pc av (xPre D tys E w σ sz)) := by
  intro a U g mk q
  obtain ⟨q0, q1, q2, q3, q4, q5⟩ := q
  exact ⟨q0, q1, q2, va_K.moved (u := U) (U := U.calling g mk a) (Vm.Alike.refl U.vm) q3, q4, hE (va_A (w σ) sz) (va_A (w σ) sz) U (U.calling g mk a) U.heap U.heap (State.WarmedH.refl U) (fun _ _ _ => rfl) (fun _ h => h) q5⟩
theorem xA_in {S : Type} {A0 : Nat → Prop} {w : S → va_W} {σ : S} {H0 H : Heap} {locs : List Loc} (hD : va_D A0 (w σ)) (hS : va_S A0 H0 H locs) (hA : ∀ q, H0.size ≤ q → A0 q) : ∀ q, va_A (w σ) H.size q → A0 q := by
  intro q h
  rcases h with ⟨k, e, h⟩ | h
  · exact hD.2 k (q, e) h
  · exact hA q (Nat.le_trans hS.1 h)
theorem xPre_ok {S : Type} {s : State} {D : va_G} {tys : List (ClassId × FieldType)} {E : (Nat → Prop) → State → Heap → Prop} {w : S → va_W} {σ : S} {A0 : Nat → Prop} {H : Heap} {locs : List Loc} {av : List Value} (hE : xEok E) (hE0 : E A0 s s.heap) (hK : va_K D vwCl tys s) (hA : ∀ q, s.heap.size ≤ q → A0 q)
    (hP : va_P D vwCl (w σ) H) (hD : va_D A0 (w σ)) (hS : va_S A0 s.heap H locs) : ∀ U : State, U.heap = H → s.WarmedH U.vm → va_Pc av (xPre D tys E w σ H.size) av.toArray U := by
  intro U hU hW
  refine ⟨rfl, by rw [hU], by rw [hU]; exact hP, va_K.moved hW.alike hK, hD.weaken (fun _ _ _ _ => trivial), ?_⟩
  rw [hU]
  exact hE A0 _ s U s.heap H hW hS.2.1 (xA_in hD hS hA) hE0
theorem xPreS {S : Type} {s : State} {D : va_G} {tys : List (ClassId × FieldType)} {E : (Nat → Prop) → State → Heap → Prop} {w : S → va_W} {σ : S} {A0 : Nat → Prop} {H : Heap} {locs : List Loc} {av : List Value} (hE : xEok E) (hE0 : E A0 s s.heap) (hK : va_K D vwCl tys s) (hA : ∀ q, s.heap.size ≤ q → A0 q)
    (hP : va_P D vwCl (w σ) H) (hD : va_D A0 (w σ)) (hS : va_S A0 s.heap H locs) : PreS s H (va_Pc av (xPre D tys E w σ H.size)) av := ⟨xPre_blind hE, xPre_ok hE hE0 hK hA hP hD hS⟩
theorem xPreV {S : Type} {s : State} {D : va_G} {tys : List (ClassId × FieldType)} {E : (Nat → Prop) → State → Heap → Prop} {w : S → va_W} {σ : S} {A0 : Nat → Prop} {H : Heap} {locs : List Loc} {b : Nat} {As : List Value} {C : String} (hE : xEok E) (hE0 : E A0 s s.heap) (hK : va_K D vwCl tys s) (hA : ∀ q, s.heap.size ≤ q → A0 q)
    (hP : va_P D vwCl (w σ) H) (hD : va_D A0 (w σ)) (hS : va_S A0 s.heap H locs) {q0 ci : Nat} {r : vw_C} {fs : List Value} (hc : vwCl[ci]? = some r) (he : (w σ)[q0]? = some (b, .inr (ci, fs))) (hC : r.1 = C) : PreV s H C b (va_Pc (.ref b :: As) (xPre D tys E w σ H.size)) As := by
  subst hC
  exact ⟨xPre_blind hE, va_recv hK hP hc he, xPre_ok hE hE0 hK hA hP hD hS⟩
/-- a method's body, opened: it returns -/
theorem xOpen {S : Type} {l : Launch} {y : MethodName} {ws ws' : List Cond} {rm : Room} {cc : ByteArray} {maxL : Nat} {ret : Option FieldType} {D : va_G} {tys : List (ClassId × FieldType)} {E : (Nat → Prop) → State → Heap → Prop} {w : S → va_W} {σ : S} {av : List Value} {sz mc ms : Nat} {QQ : (Nat → Prop) → Array Value → State → Outcome → State → Prop}
    (hy : plainName y.cls = true) (hw : ws = Cond.code y cc maxL ret :: ws') (hn : (lg_sl av).length ≤ maxL)
    (body : ∀ (p : Program) (e : Env) (s : State) (m : MethodId) (below : List Frame) (meth : Method) (c : Code) (A : Nat → Prop), p.tables.exec = Jvm.exec → c.code = cc → meth.sig.returnType = ret → c.maxLocals = maxL → s.vm.findClass y.cls = some m.cls → (∀ w ∈ ws, w.before av.toArray s = true) → meth.locks = false → meth.name = y.name →
      va_K D vwCl tys s → E A s s.heap → (∀ q, s.heap.size ≤ q → A q) → va_P D vwCl (w σ) s.heap → va_D A (w σ) → va_S A s.heap s.heap [] → ∀ ls : Array Slot, lv_has ls maxL (lv_args 0 av) →
      W p l e (headSpec ws rm).room s m av.toArray below meth c s.heap [] 0 0 (MQ below (QQ A) av.toArray s mc ms A) (F0 m 0 ls [])) :
    Met l y ws rm (va_Pc av (xPre D tys E w σ sz)) (QQ (va_A (w σ) sz)) mc ms (va_A (w σ) sz) := by
  refine Met.ofW (cc := cc) (maxL := maxL) (ret := ret) hy hw ?_
  intro p e s m args below meth c s₁ B hml hv
  obtain ⟨rfl, hsz, hP, hK, hD0, hE⟩ := hv
  subst hsz
  have hl := lv_entry av (n := maxL) hn
  rw [lg_entry_eq]
  have hD := hD0.self (sz := s.heap.size)
  exact body p e s m below meth c (va_A (w σ) s.heap.size) B.exec B.bytes B.returns hml (findClass_of_methodNamed B.named) (atoms_spec (ws := ws) B.pre) B.notSynchronized (name_of_methodNamed B.named B.method).1 hK hE (fun q h => Or.inr h) hP hD va_S.rf _ hl
/-- .. it returns or throws -/
theorem xxOpen {S : Type} {l : Launch} {y : MethodName} {ws ws' : List Cond} {rm : Room} {cc : ByteArray} {maxL : Nat} {ret : Option FieldType} {D : va_G} {tys : List (ClassId × FieldType)} {E : (Nat → Prop) → State → Heap → Prop} {w : S → va_W} {σ : S} {av : List Value} {sz mc ms : Nat} {QQ : (Nat → Prop) → Array Value → State → Outcome → State → Prop} {XX : (Nat → Prop) → String → State → State → Prop}
    (hy : plainName y.cls = true) (hw : ws = Cond.code y cc maxL ret :: ws') (hn : (lg_sl av).length ≤ maxL)
    (body : ∀ (p : Program) (e : Env) (s : State) (m : MethodId) (below : List Frame) (meth : Method) (c : Code) (A : Nat → Prop), p.tables.exec = Jvm.exec → c.code = cc → meth.sig.returnType = ret → c.maxLocals = maxL → s.vm.findClass y.cls = some m.cls → (∀ w ∈ ws, w.before av.toArray s = true) → meth.locks = false → (∀ x ∈ c.exceptionTable.toList, False) →
      va_K D vwCl tys s → E A s s.heap → (∀ q, s.heap.size ≤ q → A q) → va_P D vwCl (w σ) s.heap → va_D A (w σ) → va_S A s.heap s.heap [] → ∀ ls : Array Slot, lv_has ls maxL (lv_args 0 av) →
      W p l e (headSpec ws rm).room s m av.toArray below meth c s.heap [] 0 0 (vx_MQ below (QQ A) (XX A) av.toArray s mc ms A) (F0 m 0 ls [])) :
    vx_Met l y ws rm (va_Pc av (xPre D tys E w σ sz)) (QQ (va_A (w σ) sz)) (XX (va_A (w σ) sz)) mc ms (va_A (w σ) sz) := by
  refine vx_ofW (cc := cc) (maxL := maxL) (ret := ret) hy hw ?_
  intro p e s m args below meth c s₁ B hml ht hv
  obtain ⟨rfl, hsz, hP, hK, hD0, hE⟩ := hv
  subst hsz
  have hl := lv_entry av (n := maxL) hn
  rw [lg_entry_eq]
  have hD := hD0.self (sz := s.heap.size)
  exact body p e s m below meth c (va_A (w σ) s.heap.size) B.exec B.bytes B.returns hml (findClass_of_methodNamed B.named) (atoms_spec (ws := ws) B.pre) B.notSynchronized ht hK hE (fun q h => Or.inr h) hP hD va_S.rf _ hl
end
section
section XR
variable {p : Program} {l : Launch} {e : Env} {R : Room} {s : State} {m : MethodId} {args : Array Value} {below : List Frame} {meth : Method} {c : Code} {H : Heap} {locs : List Loc} {cells slots : Nat} {Q : State → Prop}
variable {cc : ByteArray} {pc : Nat} {ls : Array Slot} {rest st0 : List Value} {D : va_G} {tys : List (ClassId × FieldType)} {A0 : Nat → Prop} {E : (Nat → Prop) → State → Heap → Prop}
/-! ===== branches over truth values, long comparisons, references that may be null ===== -/
theorem x_ifeq (hx : p.tables.exec = Jvm.exec) (hb : c.code = cc) {b : Bool} {off : Int} {tgt : Nat} (hdg : decode cc pc = .ok (.ifCond .eq off, 3)) (ht : (pc : Int) + off = (tgt : Int))
    (kt : b = false → W p l e R s m args below meth c H locs cells slots Q (F0 m tgt ls rest)) (kf : b = true → W p l e R s m args below meth c H locs cells slots Q (F0 m (pc + 3) ls rest)) : W p l e R s m args below meth c H locs cells slots Q (F0 m pc ls (.int (bI b) :: rest)) :=
  lv_if_eq hx hb hdg ht (fun h => kt (bI_0.mp h)) (fun h => kf (bI_n0.mp h))
theorem x_ifne (hx : p.tables.exec = Jvm.exec) (hb : c.code = cc) {b : Bool} {off : Int} {tgt : Nat} (hdg : decode cc pc = .ok (.ifCond .ne off, 3)) (ht : (pc : Int) + off = (tgt : Int))
    (kt : b = true → W p l e R s m args below meth c H locs cells slots Q (F0 m tgt ls rest)) (kf : b = false → W p l e R s m args below meth c H locs cells slots Q (F0 m (pc + 3) ls rest)) : W p l e R s m args below meth c H locs cells slots Q (F0 m pc ls (.int (bI b) :: rest)) :=
  lv_if_ne hx hb hdg ht (fun h => kt (bI_n0.mp h)) (fun h => kf (bI_0.mp h))
theorem lgc_lt {x y : Int64} : lg_cmp x y < 0 ↔ x < y := by
  unfold lg_cmp
  by_cases h1 : y < x
  · simp only [h1, if_true]
    exact ⟨fun h => absurd h (by decide), fun h => absurd (Int64.lt_iff_toInt_lt.mp h1) (Int.not_lt.mpr (Int.le_of_lt (Int64.lt_iff_toInt_lt.mp h)))⟩
  · by_cases h2 : x = y
    · subst h2
      simp only [h1, if_false, if_true]
      exact ⟨fun h => absurd h (by decide), fun h => absurd h (by simp)⟩
    · simp only [h1, h2, if_false]
      refine ⟨fun _ => ?_, fun _ => by decide⟩
      rw [Int64.lt_iff_toInt_lt] at h1 ⊢
      have h3 : x.toInt ≠ y.toInt := fun q => h2 (Int64.toInt_inj.mp q)
      omega
theorem lgc_eq {x y : Int64} : lg_cmp x y = 0 ↔ x = y := by
  unfold lg_cmp
  by_cases h1 : y < x
  · simp only [h1, if_true]
    exact ⟨fun h => absurd h (by decide), fun h => by subst h; exact absurd (Int64.lt_iff_toInt_lt.mp h1) (Int.lt_irrefl _)⟩
  · by_cases h2 : x = y
    · subst h2
      simp only [h1, if_false, if_true]
    · simp only [h1, h2, if_false]
      exact ⟨fun h => absurd h (by decide), fun h => h.elim⟩
theorem lgc_gt {x y : Int64} : 0 < lg_cmp x y ↔ y < x := by
  unfold lg_cmp
  by_cases h1 : y < x
  · simp only [h1, if_true]
    exact ⟨fun _ => trivial, fun _ => by decide⟩
  · by_cases h2 : x = y
    · subst h2
      simp only [h1, if_false, if_true]
      exact ⟨fun h => absurd h (by decide), fun h => h.elim⟩
    · simp only [h1, h2, if_false]
      exact ⟨fun h => absurd h (by decide), fun h => h.elim⟩
theorem i_lt_ge {x y : Int32} : x ≤ y ↔ ¬ y < x := by
  rw [Int32.lt_iff_toInt_lt, Int32.le_iff_toInt_le]; omega
theorem x_lt (hx : p.tables.exec = Jvm.exec) (hb : c.code = cc) {x y : Int64} {off : Int} {tgt : Nat} (hd0 : decode cc pc = .ok (.lcmp, 1)) (hdg : decode cc (pc + 1) = .ok (.ifCond .lt off, 3)) (ht : ((pc + 1 : Nat) : Int) + off = (tgt : Int))
    (kt : x < y → W p l e R s m args below meth c H locs cells slots Q (F0 m tgt ls rest)) (kf : ¬ x < y → W p l e R s m args below meth c H locs cells slots Q (F0 m (pc + 1 + 3) ls rest)) : W p l e R s m args below meth c H locs cells slots Q (F0 m pc ls (.long y :: .long x :: rest)) :=
  W.lcmp hx hb hd0 (lv_if_lt hx hb hdg ht (fun h => kt (lgc_lt.mp h)) (fun h => kf (fun q => h (lgc_lt.mpr q))))
theorem x_ge (hx : p.tables.exec = Jvm.exec) (hb : c.code = cc) {x y : Int64} {off : Int} {tgt : Nat} (hd0 : decode cc pc = .ok (.lcmp, 1)) (hdg : decode cc (pc + 1) = .ok (.ifCond .ge off, 3)) (ht : ((pc + 1 : Nat) : Int) + off = (tgt : Int))
    (kt : ¬ x < y → W p l e R s m args below meth c H locs cells slots Q (F0 m tgt ls rest)) (kf : x < y → W p l e R s m args below meth c H locs cells slots Q (F0 m (pc + 1 + 3) ls rest)) : W p l e R s m args below meth c H locs cells slots Q (F0 m pc ls (.long y :: .long x :: rest)) :=
  W.lcmp hx hb hd0 (lv_if_ge hx hb hdg ht (fun h => kt (fun q => (i_lt_ge.mp h) (lgc_lt.mpr q))) (fun h => kf (lgc_lt.mp (Classical.byContradiction fun q => h (i_lt_ge.mpr q)))))
theorem x_le (hx : p.tables.exec = Jvm.exec) (hb : c.code = cc) {x y : Int64} {off : Int} {tgt : Nat} (hd0 : decode cc pc = .ok (.lcmp, 1)) (hdg : decode cc (pc + 1) = .ok (.ifCond .le off, 3)) (ht : ((pc + 1 : Nat) : Int) + off = (tgt : Int))
    (kt : ¬ y < x → W p l e R s m args below meth c H locs cells slots Q (F0 m tgt ls rest)) (kf : y < x → W p l e R s m args below meth c H locs cells slots Q (F0 m (pc + 1 + 3) ls rest)) : W p l e R s m args below meth c H locs cells slots Q (F0 m pc ls (.long y :: .long x :: rest)) :=
  W.lcmp hx hb hd0 (lv_if_le hx hb hdg ht (fun h => kt (fun q => (i_lt_ge.mp h) (lgc_gt.mpr q))) (fun h => kf (lgc_gt.mp (Classical.byContradiction fun q => h (i_lt_ge.mpr q)))))
theorem x_eq (hx : p.tables.exec = Jvm.exec) (hb : c.code = cc) {x y : Int64} {off : Int} {tgt : Nat} (hd0 : decode cc pc = .ok (.lcmp, 1)) (hdg : decode cc (pc + 1) = .ok (.ifCond .eq off, 3)) (ht : ((pc + 1 : Nat) : Int) + off = (tgt : Int))
    (kt : x = y → W p l e R s m args below meth c H locs cells slots Q (F0 m tgt ls rest)) (kf : ¬ x = y → W p l e R s m args below meth c H locs cells slots Q (F0 m (pc + 1 + 3) ls rest)) : W p l e R s m args below meth c H locs cells slots Q (F0 m pc ls (.long y :: .long x :: rest)) :=
  W.lcmp hx hb hd0 (lv_if_eq hx hb hdg ht (fun h => kt (lgc_eq.mp h)) (fun h => kf (fun q => h (lgc_eq.mpr q))))
theorem x_ne (hx : p.tables.exec = Jvm.exec) (hb : c.code = cc) {x y : Int64} {off : Int} {tgt : Nat} (hd0 : decode cc pc = .ok (.lcmp, 1)) (hdg : decode cc (pc + 1) = .ok (.ifCond .ne off, 3)) (ht : ((pc + 1 : Nat) : Int) + off = (tgt : Int))
    (kt : ¬ x = y → W p l e R s m args below meth c H locs cells slots Q (F0 m tgt ls rest)) (kf : x = y → W p l e R s m args below meth c H locs cells slots Q (F0 m (pc + 1 + 3) ls rest)) : W p l e R s m args below meth c H locs cells slots Q (F0 m pc ls (.long y :: .long x :: rest)) :=
  W.lcmp hx hb hd0 (lv_if_ne hx hb hdg ht (fun h => kt (fun q => h (lgc_eq.mpr q))) (fun h => kf (lgc_eq.mp h)))
theorem x_icmp_ge (hx : p.tables.exec = Jvm.exec) (hb : c.code = cc) {x y : Int32} {off : Int} {tgt : Nat} (hdg : decode cc pc = .ok (.if_icmp .ge off, 3)) (ht : (pc : Int) + off = (tgt : Int))
    (kt : ¬ x < y → W p l e R s m args below meth c H locs cells slots Q (F0 m tgt ls rest)) (kf : x < y → W p l e R s m args below meth c H locs cells slots Q (F0 m (pc + 3) ls rest)) : W p l e R s m args below meth c H locs cells slots Q (F0 m pc ls (.int y :: .int x :: rest)) :=
  lv_icmp_ge hx hb hdg ht (fun h => kt (i_lt_ge.mp h)) (fun h => kf (Classical.byContradiction fun q => h (i_lt_ge.mpr q)))
theorem x_icmp_le (hx : p.tables.exec = Jvm.exec) (hb : c.code = cc) {x y : Int32} {off : Int} {tgt : Nat} (hdg : decode cc pc = .ok (.if_icmp .le off, 3)) (ht : (pc : Int) + off = (tgt : Int))
    (kt : ¬ y < x → W p l e R s m args below meth c H locs cells slots Q (F0 m tgt ls rest)) (kf : y < x → W p l e R s m args below meth c H locs cells slots Q (F0 m (pc + 3) ls rest)) : W p l e R s m args below meth c H locs cells slots Q (F0 m pc ls (.int y :: .int x :: rest)) :=
  lv_icmp_le hx hb hdg ht (fun h => kt (i_lt_ge.mp h)) (fun h => kf (Classical.byContradiction fun q => h (i_lt_ge.mpr q)))
theorem x_if_ge (hx : p.tables.exec = Jvm.exec) (hb : c.code = cc) {x : Int32} {off : Int} {tgt : Nat} (hdg : decode cc pc = .ok (.ifCond .ge off, 3)) (ht : (pc : Int) + off = (tgt : Int))
    (kt : ¬ x < 0 → W p l e R s m args below meth c H locs cells slots Q (F0 m tgt ls rest)) (kf : x < 0 → W p l e R s m args below meth c H locs cells slots Q (F0 m (pc + 3) ls rest)) : W p l e R s m args below meth c H locs cells slots Q (F0 m pc ls (.int x :: rest)) :=
  lv_if_ge hx hb hdg ht (fun h => kt (i_lt_ge.mp h)) (fun h => kf (Classical.byContradiction fun q => h (i_lt_ge.mpr q)))
theorem x_if_le (hx : p.tables.exec = Jvm.exec) (hb : c.code = cc) {x : Int32} {off : Int} {tgt : Nat} (hdg : decode cc pc = .ok (.ifCond .le off, 3)) (ht : (pc : Int) + off = (tgt : Int))
    (kt : ¬ 0 < x → W p l e R s m args below meth c H locs cells slots Q (F0 m tgt ls rest)) (kf : 0 < x → W p l e R s m args below meth c H locs cells slots Q (F0 m (pc + 3) ls rest)) : W p l e R s m args below meth c H locs cells slots Q (F0 m pc ls (.int x :: rest)) :=
  lv_if_le hx hb hdg ht (fun h => kt (i_lt_ge.mp h)) (fun h => kf (Classical.byContradiction fun q => h (i_lt_ge.mpr q)))
/-! ===== returns ===== -/
theorem x_iret {S : Type} {w : S → va_W} {post : Int32 → S → Prop} (hx : p.tables.exec = Jvm.exec) (hb : c.code = cc) (hr : meth.sig.returnType = some .int) (hlocks : meth.locks = false) (hK : va_K D vwCl tys s)
    (u : S) {v : Int32} (hP : va_P D vwCl (w u) H) (hD : va_D A0 (w u)) (hS : va_S A0 s.heap H locs) (hp : post v u) (hdg : decode cc pc = .ok (.ireturn, 1)) :
    W p l e R s m args below meth c H locs cells slots (MQ below (va_Qi post (xB D tys w A0) A0 ) args s cells slots A0) (F0 m pc ls [.int v]) :=
  W.iret (v := v) hx hb hr (fun t ht hW => ⟨⟨v, u, rfl, hp, by rw [ht]; exact hP, va_K.moved hW.alike hK, hD⟩, hS.F ht⟩) hS.2.2 hdg hlocks
theorem x_zret {S : Type} {w : S → va_W} {post : Int32 → S → Prop} (hx : p.tables.exec = Jvm.exec) (hb : c.code = cc) (hr : meth.sig.returnType = some .boolean) (hlocks : meth.locks = false) (hK : va_K D vwCl tys s)
    (u : S) {b : Bool} (hP : va_P D vwCl (w u) H) (hD : va_D A0 (w u)) (hS : va_S A0 s.heap H locs) (hp : post (bI b) u) (hdg : decode cc pc = .ok (.ireturn, 1)) :
    W p l e R s m args below meth c H locs cells slots (MQ below (va_Qi post (xB D tys w A0) A0) args s cells slots A0) (F0 m pc ls [.int (bI b)]) :=
  W.zret (v := bI b) hx hb hr (bI_nar b) (fun t ht hW => ⟨⟨bI b, u, rfl, hp, by rw [ht]; exact hP, va_K.moved hW.alike hK, hD⟩, hS.F ht⟩) hS.2.2 hdg hlocks
theorem x_lret {S : Type} {w : S → va_W} {post : Int64 → S → Prop} (hx : p.tables.exec = Jvm.exec) (hb : c.code = cc) (hr : meth.sig.returnType = some .long) (hlocks : meth.locks = false) (hK : va_K D vwCl tys s)
    (u : S) {v : Int64} (hP : va_P D vwCl (w u) H) (hD : va_D A0 (w u)) (hS : va_S A0 s.heap H locs) (hp : post v u) (hdg : decode cc pc = .ok (.lreturn, 1)) :
    W p l e R s m args below meth c H locs cells slots (MQ below (va_Ql post (xB D tys w A0) A0) args s cells slots A0) (F0 m pc ls [.long v]) :=
  W.lret (v := v) hx hb hr (fun t ht hW => ⟨⟨v, u, rfl, hp, by rw [ht]; exact hP, va_K.moved hW.alike hK, hD⟩, hS.F ht⟩) hS.2.2 hdg hlocks
theorem x_vret {S : Type} {w : S → va_W} {post : S → Prop} (hx : p.tables.exec = Jvm.exec) (hb : c.code = cc) (hr : meth.sig.returnType = none) (hlocks : meth.locks = false) (hK : va_K D vwCl tys s)
    (u : S) (hP : va_P D vwCl (w u) H) (hD : va_D A0 (w u)) (hS : va_S A0 s.heap H locs) (hp : post u) (hdg : decode cc pc = .ok (.return_, 1)) :
    W p l e R s m args below meth c H locs cells slots (MQ below (va_Qv post (xB D tys w A0) A0) args s cells slots A0) (F0 m pc ls []) :=
  W.vret hx hb hr (fun t ht hW => ⟨⟨u, rfl, hp, by rw [ht]; exact hP, va_K.moved hW.alike hK, hD⟩, hS.F ht⟩) hS.2.2 hdg hlocks
theorem x_qret {S : Type} {w : S → va_W} {post : Option Nat → S → Prop} {nm : String} (hx : p.tables.exec = Jvm.exec) (hb : c.code = cc) (hr : meth.sig.returnType = some (.object nm)) (hlocks : meth.locks = false) (hK : va_K D vwCl tys s)
    (u : S) {r : Option Nat} (hP : va_P D vwCl (w u) H) (hD : va_D A0 (w u)) (hS : va_S A0 s.heap H locs) (hp : post r u) (hdg : decode cc pc = .ok (.areturn, 1)) :
    W p l e R s m args below meth c H locs cells slots (MQ below (va_Qq post (xB D tys w A0) A0) args s cells slots A0) (F0 m pc ls [va_rf r]) :=
  W.aret (v := va_rf r) hx hb hr (Or.inl ⟨nm, rfl⟩) (va_rf_or r) (fun t ht hW => ⟨⟨r, u, rfl, hp, by rw [ht]; exact hP, va_K.moved hW.alike hK, hD⟩, hS.F ht⟩) hS.2.2 hdg hlocks
/-! ===== calls with the whole world ===== -/
theorem x_calli {S : Type} {w : S → va_W} {σ : S} {post : Int32 → S → Prop} {mc ms : Nat} {av : Array Value} (hr : va_Run p l e R s m args below meth c H locs cells slots mc ms (F0 m pc ls st0) rest (va_Qi post (xB D tys w (va_A (w σ) H.size)) (va_A (w σ) H.size) av) (va_A (w σ) H.size)) (hD : va_D A0 (w σ)) (hS : va_S A0 s.heap H locs) (hA : ∀ q, s.heap.size ≤ q → A0 q)
    (kk : ∀ (r : Int32) (u : S) (H1 : Heap) (locs1 : List Loc), post r u → va_P D vwCl (w u) H1 → va_D A0 (w u) → va_S A0 s.heap H1 locs1 → W p l e R s m args below meth c H1 locs1 (cells + mc) (slots + ms) Q (F0 m (pc + 3) ls (.int r :: rest))) : W p l e R s m args below meth c H locs cells slots Q (F0 m pc ls st0) :=
  va_calli hr hS (fun q _ h => xA_in hD hS hA q h) (xA_in hD hS hA) (fun r u t H1 locs1 ht hvm hp hB hz hk hS1 => by
    obtain ⟨hP1, -, hD1⟩ := hB
    rw [ht] at hP1
    exact kk r u H1 locs1 hp hP1 (hD1.weaken (fun k q _ h => xA_in hD hS hA q.1 h)) hS1)
theorem x_calll {S : Type} {w : S → va_W} {σ : S} {post : Int64 → S → Prop} {mc ms : Nat} {av : Array Value} (hr : va_Run p l e R s m args below meth c H locs cells slots mc ms (F0 m pc ls st0) rest (va_Ql post (xB D tys w (va_A (w σ) H.size)) (va_A (w σ) H.size) av) (va_A (w σ) H.size)) (hD : va_D A0 (w σ)) (hS : va_S A0 s.heap H locs) (hA : ∀ q, s.heap.size ≤ q → A0 q)
    (kk : ∀ (r : Int64) (u : S) (H1 : Heap) (locs1 : List Loc), post r u → va_P D vwCl (w u) H1 → va_D A0 (w u) → va_S A0 s.heap H1 locs1 → W p l e R s m args below meth c H1 locs1 (cells + mc) (slots + ms) Q (F0 m (pc + 3) ls (.long r :: rest))) : W p l e R s m args below meth c H locs cells slots Q (F0 m pc ls st0) :=
  va_calll hr hS (fun q _ h => xA_in hD hS hA q h) (xA_in hD hS hA) (fun r u t H1 locs1 ht hvm hp hB hz hk hS1 => by
    obtain ⟨hP1, -, hD1⟩ := hB
    rw [ht] at hP1
    exact kk r u H1 locs1 hp hP1 (hD1.weaken (fun k q _ h => xA_in hD hS hA q.1 h)) hS1)
theorem x_callv {S : Type} {w : S → va_W} {σ : S} {post : S → Prop} {mc ms : Nat} {av : Array Value} (hr : va_Run p l e R s m args below meth c H locs cells slots mc ms (F0 m pc ls st0) rest (va_Qv post (xB D tys w (va_A (w σ) H.size)) (va_A (w σ) H.size) av) (va_A (w σ) H.size)) (hD : va_D A0 (w σ)) (hS : va_S A0 s.heap H locs) (hA : ∀ q, s.heap.size ≤ q → A0 q)
    (kk : ∀ (u : S) (H1 : Heap) (locs1 : List Loc), post u → va_P D vwCl (w u) H1 → va_D A0 (w u) → va_S A0 s.heap H1 locs1 → W p l e R s m args below meth c H1 locs1 (cells + mc) (slots + ms) Q (F0 m (pc + 3) ls rest)) : W p l e R s m args below meth c H locs cells slots Q (F0 m pc ls st0) :=
  va_callv hr hS (fun q _ h => xA_in hD hS hA q h) (xA_in hD hS hA) (fun u t H1 locs1 ht hvm hp hB hz hk hS1 => by
    obtain ⟨hP1, -, hD1⟩ := hB
    rw [ht] at hP1
    exact kk u H1 locs1 hp hP1 (hD1.weaken (fun k q _ h => xA_in hD hS hA q.1 h)) hS1)
theorem x_callq {S : Type} {w : S → va_W} {σ : S} {post : Option Nat → S → Prop} {mc ms : Nat} {av : Array Value} (hr : va_Run p l e R s m args below meth c H locs cells slots mc ms (F0 m pc ls st0) rest (va_Qq post (xB D tys w (va_A (w σ) H.size)) (va_A (w σ) H.size) av) (va_A (w σ) H.size)) (hD : va_D A0 (w σ)) (hS : va_S A0 s.heap H locs) (hA : ∀ q, s.heap.size ≤ q → A0 q)
    (kk : ∀ (r : Option Nat) (u : S) (H1 : Heap) (locs1 : List Loc), post r u → va_P D vwCl (w u) H1 → va_D A0 (w u) → va_S A0 s.heap H1 locs1 → W p l e R s m args below meth c H1 locs1 (cells + mc) (slots + ms) Q (F0 m (pc + 3) ls (va_rf r :: rest))) : W p l e R s m args below meth c H locs cells slots Q (F0 m pc ls st0) :=
  va_callq hr hS (fun q _ h => xA_in hD hS hA q h) (xA_in hD hS hA) (fun r u t H1 locs1 ht hvm hp hB hz hk hS1 => by
    obtain ⟨hP1, -, hD1⟩ := hB
    rw [ht] at hP1
    exact kk r u H1 locs1 hp hP1 (hD1.weaken (fun k q _ h => xA_in hD hS hA q.1 h)) hS1)
/-! .. that may throw -/
theorem xx_calli {S : Type} {w : S → va_W} {σ : S} {post : Int32 → S → Prop} {xc : String → Prop} {mc ms : Nat} {av : Array Value} (hr : vx_Run p l e R s m args below meth c H locs cells slots mc ms (F0 m pc ls st0) rest (va_Qi post (xB D tys w (va_A (w σ) H.size)) (va_A (w σ) H.size) av) (xXC D tys w (va_A (w σ) H.size) σ xc) (va_A (w σ) H.size)) (hD : va_D A0 (w σ)) (hS : va_S A0 s.heap H locs) (hA : ∀ q, s.heap.size ≤ q → A0 q)
    (kx : ∀ (En : String) (ce : Cell) (q9 : Addr) (H1 : Heap) (locs1 : List Loc), xc En → va_P D vwCl (w σ) H1 → va_S A0 s.heap H1 locs1 → H1[q9]? = some ce → ce.vm = .none → s.vm.findClass En = some ce.cls → vx_W p l e R s m args below meth c H1 locs1 (cells + mc) (slots + ms) Q (F0 m pc ls rest) q9)
    (kk : ∀ (r : Int32) (u : S) (H1 : Heap) (locs1 : List Loc), post r u → va_P D vwCl (w u) H1 → va_D A0 (w u) → va_S A0 s.heap H1 locs1 → W p l e R s m args below meth c H1 locs1 (cells + mc) (slots + ms) Q (F0 m (pc + 3) ls (.int r :: rest))) : W p l e R s m args below meth c H locs cells slots Q (F0 m pc ls st0) :=
  vx_calli hr hS (fun q _ h => xA_in hD hS hA q h) (xA_in hD hS hA) (fun q _ h => xA_in hD hS hA q h) (fun En ce q9 u t H1 locs1 ht hvm _ hB hz hk hS1 h1 h2 h3 => by
    obtain ⟨hxc, hP1, -, -⟩ := hB
    rw [ht] at hP1
    exact kx En ce q9 H1 locs1 hxc hP1 hS1 h1 h2 h3) (fun r u t H1 locs1 ht hvm hp hB hz hk hS1 => by
    obtain ⟨hP1, -, hD1⟩ := hB
    rw [ht] at hP1
    exact kk r u H1 locs1 hp hP1 (hD1.weaken (fun k q _ h => xA_in hD hS hA q.1 h)) hS1)
theorem xx_calll {S : Type} {w : S → va_W} {σ : S} {post : Int64 → S → Prop} {xc : String → Prop} {mc ms : Nat} {av : Array Value} (hr : vx_Run p l e R s m args below meth c H locs cells slots mc ms (F0 m pc ls st0) rest (va_Ql post (xB D tys w (va_A (w σ) H.size)) (va_A (w σ) H.size) av) (xXC D tys w (va_A (w σ) H.size) σ xc) (va_A (w σ) H.size)) (hD : va_D A0 (w σ)) (hS : va_S A0 s.heap H locs) (hA : ∀ q, s.heap.size ≤ q → A0 q)
    (kx : ∀ (En : String) (ce : Cell) (q9 : Addr) (H1 : Heap) (locs1 : List Loc), xc En → va_P D vwCl (w σ) H1 → va_S A0 s.heap H1 locs1 → H1[q9]? = some ce → ce.vm = .none → s.vm.findClass En = some ce.cls → vx_W p l e R s m args below meth c H1 locs1 (cells + mc) (slots + ms) Q (F0 m pc ls rest) q9)
    (kk : ∀ (r : Int64) (u : S) (H1 : Heap) (locs1 : List Loc), post r u → va_P D vwCl (w u) H1 → va_D A0 (w u) → va_S A0 s.heap H1 locs1 → W p l e R s m args below meth c H1 locs1 (cells + mc) (slots + ms) Q (F0 m (pc + 3) ls (.long r :: rest))) : W p l e R s m args below meth c H locs cells slots Q (F0 m pc ls st0) :=
  vx_calll hr hS (fun q _ h => xA_in hD hS hA q h) (xA_in hD hS hA) (fun q _ h => xA_in hD hS hA q h) (fun En ce q9 u t H1 locs1 ht hvm _ hB hz hk hS1 h1 h2 h3 => by
    obtain ⟨hxc, hP1, -, -⟩ := hB
    rw [ht] at hP1
    exact kx En ce q9 H1 locs1 hxc hP1 hS1 h1 h2 h3) (fun r u t H1 locs1 ht hvm hp hB hz hk hS1 => by
    obtain ⟨hP1, -, hD1⟩ := hB
    rw [ht] at hP1
    exact kk r u H1 locs1 hp hP1 (hD1.weaken (fun k q _ h => xA_in hD hS hA q.1 h)) hS1)
theorem xx_callv {S : Type} {w : S → va_W} {σ : S} {post : S → Prop} {xc : String → Prop} {mc ms : Nat} {av : Array Value} (hr : vx_Run p l e R s m args below meth c H locs cells slots mc ms (F0 m pc ls st0) rest (va_Qv post (xB D tys w (va_A (w σ) H.size)) (va_A (w σ) H.size) av) (xXC D tys w (va_A (w σ) H.size) σ xc) (va_A (w σ) H.size)) (hD : va_D A0 (w σ)) (hS : va_S A0 s.heap H locs) (hA : ∀ q, s.heap.size ≤ q → A0 q)
    (kx : ∀ (En : String) (ce : Cell) (q9 : Addr) (H1 : Heap) (locs1 : List Loc), xc En → va_P D vwCl (w σ) H1 → va_S A0 s.heap H1 locs1 → H1[q9]? = some ce → ce.vm = .none → s.vm.findClass En = some ce.cls → vx_W p l e R s m args below meth c H1 locs1 (cells + mc) (slots + ms) Q (F0 m pc ls rest) q9)
    (kk : ∀ (u : S) (H1 : Heap) (locs1 : List Loc), post u → va_P D vwCl (w u) H1 → va_D A0 (w u) → va_S A0 s.heap H1 locs1 → W p l e R s m args below meth c H1 locs1 (cells + mc) (slots + ms) Q (F0 m (pc + 3) ls rest)) : W p l e R s m args below meth c H locs cells slots Q (F0 m pc ls st0) :=
  vx_callv hr hS (fun q _ h => xA_in hD hS hA q h) (xA_in hD hS hA) (fun q _ h => xA_in hD hS hA q h) (fun En ce q9 u t H1 locs1 ht hvm _ hB hz hk hS1 h1 h2 h3 => by
    obtain ⟨hxc, hP1, -, -⟩ := hB
    rw [ht] at hP1
    exact kx En ce q9 H1 locs1 hxc hP1 hS1 h1 h2 h3) (fun u t H1 locs1 ht hvm hp hB hz hk hS1 => by
    obtain ⟨hP1, -, hD1⟩ := hB
    rw [ht] at hP1
    exact kk u H1 locs1 hp hP1 (hD1.weaken (fun k q _ h => xA_in hD hS hA q.1 h)) hS1)
theorem xx_callq {S : Type} {w : S → va_W} {σ : S} {post : Option Nat → S → Prop} {xc : String → Prop} {mc ms : Nat} {av : Array Value} (hr : vx_Run p l e R s m args below meth c H locs cells slots mc ms (F0 m pc ls st0) rest (va_Qq post (xB D tys w (va_A (w σ) H.size)) (va_A (w σ) H.size) av) (xXC D tys w (va_A (w σ) H.size) σ xc) (va_A (w σ) H.size)) (hD : va_D A0 (w σ)) (hS : va_S A0 s.heap H locs) (hA : ∀ q, s.heap.size ≤ q → A0 q)
    (kx : ∀ (En : String) (ce : Cell) (q9 : Addr) (H1 : Heap) (locs1 : List Loc), xc En → va_P D vwCl (w σ) H1 → va_S A0 s.heap H1 locs1 → H1[q9]? = some ce → ce.vm = .none → s.vm.findClass En = some ce.cls → vx_W p l e R s m args below meth c H1 locs1 (cells + mc) (slots + ms) Q (F0 m pc ls rest) q9)
    (kk : ∀ (r : Option Nat) (u : S) (H1 : Heap) (locs1 : List Loc), post r u → va_P D vwCl (w u) H1 → va_D A0 (w u) → va_S A0 s.heap H1 locs1 → W p l e R s m args below meth c H1 locs1 (cells + mc) (slots + ms) Q (F0 m (pc + 3) ls (va_rf r :: rest))) : W p l e R s m args below meth c H locs cells slots Q (F0 m pc ls st0) := by
  have hA9 := xA_in hD hS hA
  intro T hT X
  rcases hr T hT X with ⟨v, st₀, t, T', L, h0, X', hL, e1, e2, ⟨⟨r, u, hv, hp, hb⟩, hF⟩, st⟩ | ⟨q, st₀, t, T', L, En, ce, h0, X', hL, e1, e2, ⟨u, hp, hb, hF⟩, hce, hcv, hcl, st⟩
  · cases hv
    obtain ⟨k1, k2, k3⟩ := vx_keep h0 e1 hS (fun q _ h => hA9 q h) hA9 hL hF
    obtain ⟨hP1, -, hD1⟩ := hb
    obtain ⟨t2, a1, b1⟩ := kk r u T'.heap (locs ++ L) hp (by rw [e1]; exact hP1) (hD1.weaken (fun k q _ h => hA9 q.1 h)) k3 T' rfl X'
    exact ⟨t2, st t2 a1, b1⟩
  · obtain ⟨k1, k2, k3⟩ := vx_keep h0 e1 hS (fun q _ h => hA9 q h) hA9 hL hF
    obtain ⟨hxc, hP1, -, -⟩ := hb
    obtain ⟨t2, a1, b1⟩ := kx En ce q T'.heap (locs ++ L) hxc (by rw [e1]; exact hP1) k3 (by rw [e1]; exact hce) hcv hcl T' rfl X'
    exact ⟨t2, st.trans a1, b1⟩
/-- an exception goes on to the caller: the world is the start's -/
theorem xx_out {S : Type} {w : S → va_W} {σ : S} {xc : String → Prop} {QC : Array Value → State → Outcome → State → Prop} {mc ms : Nat} {En : String} {ce : Cell} {q9 : Addr} (htab : ∀ x ∈ c.exceptionTable.toList, False) (hlocks : meth.locks = false) (hK : va_K D vwCl tys s) (hc : H[q9]? = some ce) (hv : ce.vm = .none) (hcl : s.vm.findClass En = some ce.cls)
    (hP : va_P D vwCl (w σ) H) (hD : va_D A0 (w σ)) (hS : va_S A0 s.heap H locs) (h : xc En) (h1 : cells ≤ mc) (h2 : slots ≤ ms) :
    vx_W p l e R s m args below meth c H locs cells slots (vx_MQ below QC (xXC D tys w A0 σ xc) args s mc ms A0) (F0 m pc ls rest) q9 :=
  vx_out (fun x hx => (htab x hx).elim) hlocks hc hv hcl (fun t ht hvm => ⟨(), trivial, ⟨h, by rw [ht]; exact hP, va_K.moved hvm hK, hD⟩, hS.F ht⟩) hS.2.2 h1 h2
end XR
end
section
/-! ===== what every method of the class may rely on, beside its world ===== -/
def xNs (k : Nat) : Nat := match k with
  | 0 => 110
  | 1 => 33
  | 2 => 61
  | 3 => 41
  | 4 => 85
  | 5 => 94
  | 6 => 88
  | 7 => 183
  | _ => 162
def xIO : String := "java/lang/IndexOutOfBoundsException"
def xIA : String := "java/lang/IllegalArgumentException"
def xIS : String := "java/lang/IllegalStateException"
def xStr : List (Nat × String) := [(147, "no such thing"), (153, "an argument is out of its range"), (149, "the thing has no entry"), (73, "the pinned entries are greater than the capacity"), (107, "the order has no such place")]
def xDec : List MethodName := [⟨"java/lang/RuntimeException", "<init>", "(Ljava/lang/String;)V"⟩, ⟨"java/lang/Exception", "<init>", "(Ljava/lang/String;)V"⟩, ⟨"java/lang/Throwable", "<init>", "(Ljava/lang/String;)V"⟩, ⟨"java/lang/RuntimeException", "<init>", "()V"⟩, ⟨"java/lang/Exception", "<init>", "()V"⟩, ⟨"java/lang/Throwable", "<init>", "()V"⟩]
def xNc : List (String × String) := [(xIA, xIO), (xIS, xIO), (xIO, xIA), (xIS, xIA), (xIO, xIS), (xIA, xIS)]
def xV (U : State) : Prop := (∀ k, k < 9 → va_Nw (.fieldLinkNest RX1 (xNs k) RX0 (TX0 k).2.1 (TX0 k).2.2.1 RX1) U) ∧ (∀ q ∈ xStr, ∃ a, vk_R RX1 q.1 q.2 a U) ∧ (∀ q ∈ xDec, va_Nw (.declares q) U) ∧ (∀ q ∈ [xIO, xIA, xIS], va_Nw (.castable q q) U) ∧ (∀ q ∈ xNc, va_Nc q.1 q.2 U)
def xE (A : Nat → Prop) (U : State) (H : Heap) : Prop := xV U ∧ vx_Zq Bundle.tN "UNASSIGNED_STACK" Bundle.steD A U H ∧ vx_Zq Bundle.tN "SUPPRESSED_SENTINEL" Bundle.listD A U H
theorem xV_warm {u U : State} (hW : u.WarmedH U.vm) (h : xV u) : xV U := by
  obtain ⟨h1, h2, h3, h4, h5⟩ := h
  refine ⟨fun k hk => va_Nw.warmF hW (h1 k hk), fun q hq => ?_, fun q hq => va_Nw.warmD hW (h3 q hq), fun q hq => va_Nw.warmC hW (h4 q hq), fun q hq => va_Nc.moved hW.alike (h5 q hq)⟩
  obtain ⟨a, ha⟩ := h2 q hq
  exact ⟨a, vk_R.warm hW ha⟩
theorem xE_ok : xEok xE := by
  intro A B u U H H1 hW hq hAB h
  obtain ⟨h1, h2, h3⟩ := h
  exact ⟨xV_warm hW h1, vx_Zq.moved hW.alike ((h2.kept hq).narrow hAB), vx_Zq.moved hW.alike ((h3.kept hq).narrow hAB)⟩
def mE (_ : Nat → Prop) (_ : State) (_ : Heap) : Prop := True
theorem mE_ok : xEok mE := fun _ _ _ _ _ _ _ _ _ _ => trivial
section XF
variable {p : Program} {l : Launch} {e : Env} {R : Room} {s : State} {m : MethodId} {args : Array Value} {below : List Frame} {meth : Method} {c : Code} {H : Heap} {locs : List Loc} {cells slots : Nat} {Q : State → Prop}
variable {cc : ByteArray} {pc : Nat} {ls : Array Slot} {rest st0 : List Value} {D : va_G} {A0 : Nat → Prop} {tys : List (ClassId × FieldType)} {Ts : List Cond} {σ : St}
variable {ax ar : Nat} {ad : Nat → Nat} {cO : ClassId} {bx : Nat} {ba : Nat → Nat} {cI cJ cZ : ClassId}
/-! ===== references that may be null: a place of the row, or none ===== -/
theorem x_aload_nQ (hx : p.tables.exec = Jvm.exec) (hb : c.code = cc) {k : Fin 4} {i : Nat} {r : Option Nat} (hdg : decode cc pc = .ok (.aload_n k, 1)) (hi : (k : Nat) = i) (hl : ls[i]? = some (.val (va_rf r)))
    (kk : W p l e R s m args below meth c H locs cells slots Q (F0 m (pc + 1) ls (va_rf r :: rest))) : W p l e R s m args below meth c H locs cells slots Q (F0 m pc ls rest) := by
  cases r with
  | none => exact lv_aload_nN hx hb hdg hi hl kk
  | some a => exact lv_aload_n hx hb hdg hi hl kk
theorem x_aloadQ (hx : p.tables.exec = Jvm.exec) (hb : c.code = cc) {i : Nat} {r : Option Nat} (hdg : decode cc pc = .ok (.aload i, 2)) (hl : ls[i]? = some (.val (va_rf r)))
    (kk : W p l e R s m args below meth c H locs cells slots Q (F0 m (pc + 2) ls (va_rf r :: rest))) : W p l e R s m args below meth c H locs cells slots Q (F0 m pc ls rest) := by
  cases r with
  | none => exact lv_aloadN hx hb hdg hl kk
  | some a => exact lv_aload hx hb hdg hl kk
theorem x_astore_nQ (hx : p.tables.exec = Jvm.exec) (hb : c.code = cc) {k : Fin 4} {i nL : Nat} {r : Option Nat} {lv lv' : List (Nat × Value)} (hdg : decode cc pc = .ok (.astore_n k, 1)) (hi : (k : Nat) = i) (h : lv_has ls nL lv) (hn : i < nL) (hl : (i, va_rf r) :: lv.filter (fun q => !(q.1 == i) && !(q.1 + 1 == i && q.2.category == 2)) = lv')
    (kk : ∀ ls' : Array Slot, lv_has ls' nL lv' → W p l e R s m args below meth c H locs cells slots Q (F0 m (pc + 1) ls' rest)) : W p l e R s m args below meth c H locs cells slots Q (F0 m pc ls (va_rf r :: rest)) := by
  cases r with
  | none => exact lv_astore_nN hx hb hdg hi h hn hl kk
  | some a => exact lv_astore_n hx hb hdg hi h hn hl kk
theorem x_astoreQ (hx : p.tables.exec = Jvm.exec) (hb : c.code = cc) {i nL : Nat} {r : Option Nat} {lv lv' : List (Nat × Value)} (hdg : decode cc pc = .ok (.astore i, 2)) (h : lv_has ls nL lv) (hn : i < nL) (hl : (i, va_rf r) :: lv.filter (fun q => !(q.1 == i) && !(q.1 + 1 == i && q.2.category == 2)) = lv')
    (kk : ∀ ls' : Array Slot, lv_has ls' nL lv' → W p l e R s m args below meth c H locs cells slots Q (F0 m (pc + 2) ls' rest)) : W p l e R s m args below meth c H locs cells slots Q (F0 m pc ls (va_rf r :: rest)) := by
  cases r with
  | none => exact lv_astoreN hx hb hdg h hn hl kk
  | some a => exact lv_astore hx hb hdg h hn hl kk
theorem x_ifnullQ (hx : p.tables.exec = Jvm.exec) (hb : c.code = cc) {r : Option Nat} {off : Int} {tgt : Nat} (hdg : decode cc pc = .ok (.ifnull off, 3)) (ht : (pc : Int) + off = (tgt : Int))
    (kt : r = none → W p l e R s m args below meth c H locs cells slots Q (F0 m tgt ls rest)) (kf : ∀ k, r = some k → W p l e R s m args below meth c H locs cells slots Q (F0 m (pc + 3) ls rest)) : W p l e R s m args below meth c H locs cells slots Q (F0 m pc ls (va_rf (r.map ad) :: rest)) := by
  cases r with
  | none => exact lv_ifnullN hx hb hdg ht (kt rfl)
  | some a => exact lv_ifnull hx hb hdg (kf a rfl)
theorem x_ifnonnullQ (hx : p.tables.exec = Jvm.exec) (hb : c.code = cc) {r : Option Nat} {off : Int} {tgt : Nat} (hdg : decode cc pc = .ok (.ifnonnull off, 3)) (ht : (pc : Int) + off = (tgt : Int))
    (kt : ∀ k, r = some k → W p l e R s m args below meth c H locs cells slots Q (F0 m tgt ls rest)) (kf : r = none → W p l e R s m args below meth c H locs cells slots Q (F0 m (pc + 3) ls rest)) : W p l e R s m args below meth c H locs cells slots Q (F0 m pc ls (va_rf (r.map ad) :: rest)) := by
  cases r with
  | none => exact lv_ifnonnullN hx hb hdg (kf rfl)
  | some a => exact lv_ifnonnull hx hb hdg ht (kt a rfl)
/-! ===== the class's own fields ===== -/
theorem c_get (hx : p.tables.exec = Jvm.exec) (hb : c.code = cc) (hts : ∀ w ∈ Ts, w.before args s = true) (hin : ∀ w ∈ wsX10, w ∈ Ts) (hown : s.vm.findClass RX1 = some m.cls) (hK : va_K D vwCl tys s) (hP : va_P D vwCl (cW ax ar ad cO σ) H) (k : Nat) (hk : k < 13) {index : Nat} (hlink : Cond.fieldLink RX1 index RX1 (TX1 k).2.1 (TX1 k).2.2.1 ∈ Ts) {v : Value} (hv : (cF ar σ)[k]? = some v) (hdg : decode cc pc = .ok (.getfield index, 3))
    (hsame : ∀ x, s.fieldFound? (TX1 k).1 (TX1 k).2.1 (TX1 k).2.2.1 = some x → s.fieldFound? RX1 (TX1 k).2.1 (TX1 k).2.2.1 = some x)
    (kk : W p l e R s m args below meth c H locs cells slots Q (F0 m (pc + 3) ls (v :: rest))) : W p l e R s m args below meth c H locs cells slots Q (F0 m pc ls (.ref ax :: rest)) :=
  va_get (C := RX1) (T := TX1) (N := 13) (ci := 1) hx hb hts hin hown hK hP 0 rfl rfl k hk (hts _ hlink) hsame hv hdg kk
theorem c_put (hx : p.tables.exec = Jvm.exec) (hb : c.code = cc) (hts : ∀ w ∈ Ts, w.before args s = true) (hin : ∀ w ∈ wsX10, w ∈ Ts) (hown : s.vm.findClass RX1 = some m.cls) (hK : va_K D vwCl tys s) (hP : va_P D vwCl (cW ax ar ad cO σ) H) (hD : va_D A0 (cW ax ar ad cO σ)) (hS : va_S A0 s.heap H locs) (k : Nat) (hk : k < 13) {index : Nat} (hlink : Cond.fieldLink RX1 index RX1 (TX1 k).2.1 (TX1 k).2.2.1 ∈ Ts) {v : Value} {ty : FieldType} (τ : St) (hτ : (cF ar σ).set k v = cF ar τ) (ho : ∀ j, sF τ j = sF σ j) (hl : k < 13)
    (hfin : (TX1 k).2.2.2 = false) (hd : parseFieldDescriptor (TX1 k).2.2.1 = some ty) (hn : narrow ty v = v) (hfit : fits ty v = true) (hdg : decode cc pc = .ok (.putfield index, 3))
    (hsame : ∀ x, s.fieldFound? (TX1 k).1 (TX1 k).2.1 (TX1 k).2.2.1 = some x → s.fieldFound? RX1 (TX1 k).2.1 (TX1 k).2.2.1 = some x)
    (kk : ∀ (H1 : Heap) (locs1 : List Loc), va_P D vwCl (cW ax ar ad cO τ) H1 → va_D A0 (cW ax ar ad cO τ) → va_S A0 s.heap H1 locs1 → W p l e R s m args below meth c H1 locs1 cells slots Q (F0 m (pc + 3) ls rest)) : W p l e R s m args below meth c H locs cells slots Q (F0 m pc ls (v :: .ref ax :: rest)) :=
  va_put (C := RX1) (T := TX1) (N := 13) (ci := 1) hx hb hts hin tyX1 tyX1_ok nmX1 hown hK hP hD hS 0 rfl rfl k hk (hts _ hlink) hsame hfin hd hn hfit hl hdg (fun H1 locs1 h1 h2 h3 => by
    rw [cW_setC σ τ (by rw [hτ]) ho] at h1 h2
    exact kk H1 locs1 h1 h2 h3)
/-! ===== a slot's fields, from the class that it is nested in ===== -/
theorem s_get (hx : p.tables.exec = Jvm.exec) (hb : c.code = cc) (hts : ∀ w ∈ Ts, w.before args s = true) (hin : ∀ w ∈ wsX00, w ∈ Ts) (hown : s.vm.findClass RX1 = some m.cls) (hK : va_K D vwCl tys s) (hE : xE A0 s s.heap) (hP : va_P D vwCl (cW ax ar ad cO σ) H) {k : Nat} (hk : k < 32) (j : Nat) (hj : j < 9) {index : Nat} (hi : xNs j = index) {v : Value} (hv : (sF σ k)[j]? = some v) (hdg : decode cc pc = .ok (.getfield index, 3))
    (hsame : ∀ x, s.fieldFound? (TX0 j).1 (TX0 j).2.1 (TX0 j).2.2.1 = some x → s.fieldFound? RX0 (TX0 j).2.1 (TX0 j).2.2.1 = some x)
    (kk : W p l e R s m args below meth c H locs cells slots Q (F0 m (pc + 3) ls (v :: rest))) : W p l e R s m args below meth c H locs cells slots Q (F0 m pc ls (.ref (ad k) :: rest)) := by
  subst hi
  exact va_getN (C := RX0) (T := TX0) (N := 9) (ci := 0) hx hb hts hin hown hK hP (k + 2) (cW_slot σ hk) rfl j hj (va_Nw.use rfl (hE.1.1 j hj)) hsame hv hdg kk
theorem s_put (hx : p.tables.exec = Jvm.exec) (hb : c.code = cc) (hts : ∀ w ∈ Ts, w.before args s = true) (hin : ∀ w ∈ wsX00, w ∈ Ts) (hown : s.vm.findClass RX1 = some m.cls) (hK : va_K D vwCl tys s) (hE : xE A0 s s.heap) (hP : va_P D vwCl (cW ax ar ad cO σ) H) (hD : va_D A0 (cW ax ar ad cO σ)) (hS : va_S A0 s.heap H locs) {k : Nat} (hk : k < 32) (j : Nat) (hj : j < 9) {index : Nat} (hi : xNs j = index) {v : Value} {ty : FieldType} (τ : St) (hτ : (sF σ k).set j v = sF τ k) (ho : ∀ i, i ≠ k → sF τ i = sF σ i) (hc : cF ar τ = cF ar σ)
    (hfin : (TX0 j).2.2.2 = false) (hd : parseFieldDescriptor (TX0 j).2.2.1 = some ty) (hn : narrow ty v = v) (hfit : fits ty v = true) (hdg : decode cc pc = .ok (.putfield index, 3))
    (hsame : ∀ x, s.fieldFound? (TX0 j).1 (TX0 j).2.1 (TX0 j).2.2.1 = some x → s.fieldFound? RX0 (TX0 j).2.1 (TX0 j).2.2.1 = some x)
    (kk : ∀ (H1 : Heap) (locs1 : List Loc), va_P D vwCl (cW ax ar ad cO τ) H1 → va_D A0 (cW ax ar ad cO τ) → va_S A0 s.heap H1 locs1 → W p l e R s m args below meth c H1 locs1 cells slots Q (F0 m (pc + 3) ls rest)) : W p l e R s m args below meth c H locs cells slots Q (F0 m pc ls (v :: .ref (ad k) :: rest)) := by
  subst hi
  exact va_putN (C := RX0) (T := TX0) (N := 9) (ci := 0) hx hb hts hin tyX0 tyX0_ok nmX0 hown hK hP hD hS (k + 2) (cW_slot σ hk) rfl j hj (va_Nw.use rfl (hE.1.1 j hj)) hsame hfin hd hn hfit hj hdg (fun H1 locs1 h1 h2 h3 => by
    rw [cW_setS σ τ hk (by rw [hτ]) ho hc] at h1 h2
    exact kk H1 locs1 h1 h2 h3)
/-! ===== the row of slots ===== -/
theorem c_alen (hx : p.tables.exec = Jvm.exec) (hb : c.code = cc) (hK : va_K D vwCl [(cO, .object RX0)] s) (hP : va_P D vwCl (cW ax ar ad cO σ) H) (hdg : decode cc pc = .ok (.arraylength, 1))
    (kk : W p l e R s m args below meth c H locs cells slots Q (F0 m (pc + 1) ls (.int 32 :: rest))) : W p l e R s m args below meth c H locs cells slots Q (F0 m pc ls (.ref ar :: rest)) :=
  va_alen hx hb hK hP 1 0 rfl rfl rfl hdg kk
theorem c_aald (hx : p.tables.exec = Jvm.exec) (hb : c.code = cc) (hK : va_K D vwCl [(cO, .object RX0)] s) (hP : va_P D vwCl (cW ax ar ad cO σ) H) {k : Nat} (hk : k < 32) (hdg : decode cc pc = .ok (.aaload, 1))
    (kk : W p l e R s m args below meth c H locs cells slots Q (F0 m (pc + 1) ls (.ref (ad k) :: rest))) : W p l e R s m args below meth c H locs cells slots Q (F0 m pc ls (.int (nI k) :: .ref ar :: rest)) := by
  refine va_aldq hx hb hK hP 1 0 rfl rfl (vp_in_nI hk (by decide)) hdg ?_
  show W p l e R s m args below meth c H locs cells slots Q (F0 m (pc + 1) ls (va_rf (some (ad (nI k).toNatClampNeg)) :: rest))
  rw [nI_clamp (Nat.lt_trans hk (by decide))]
  exact kk
/-! ===== the reference's fields and rows ===== -/
theorem m_get (hx : p.tables.exec = Jvm.exec) (hb : c.code = cc) (hts : ∀ w ∈ Ts, w.before args s = true) (hin : ∀ w ∈ wsX20, w ∈ Ts) (hown : s.vm.findClass RX2 = some m.cls) (hK : va_K D vwCl tys s) (hP : va_P D vwCl (mW bx ba cI cJ cZ σ) H) (k : Nat) (hk : k < 22) {index : Nat} (hlink : Cond.fieldLink RX2 index RX2 (TX2 k).2.1 (TX2 k).2.2.1 ∈ Ts) {v : Value} (hv : (mF ba σ)[k]? = some v) (hdg : decode cc pc = .ok (.getfield index, 3))
    (hsame : ∀ x, s.fieldFound? (TX2 k).1 (TX2 k).2.1 (TX2 k).2.2.1 = some x → s.fieldFound? RX2 (TX2 k).2.1 (TX2 k).2.2.1 = some x)
    (kk : W p l e R s m args below meth c H locs cells slots Q (F0 m (pc + 3) ls (v :: rest))) : W p l e R s m args below meth c H locs cells slots Q (F0 m pc ls (.ref bx :: rest)) :=
  va_get (C := RX2) (T := TX2) (N := 22) (ci := 2) hx hb hts hin hown hK hP 0 rfl rfl k hk (hts _ hlink) hsame hv hdg kk
theorem m_put (hx : p.tables.exec = Jvm.exec) (hb : c.code = cc) (hts : ∀ w ∈ Ts, w.before args s = true) (hin : ∀ w ∈ wsX20, w ∈ Ts) (hown : s.vm.findClass RX2 = some m.cls) (hK : va_K D vwCl tys s) (hP : va_P D vwCl (mW bx ba cI cJ cZ σ) H) (hD : va_D A0 (mW bx ba cI cJ cZ σ)) (hS : va_S A0 s.heap H locs) (k : Nat) (hk : k < 22) {index : Nat} (hlink : Cond.fieldLink RX2 index RX2 (TX2 k).2.1 (TX2 k).2.2.1 ∈ Ts) {v : Value} {ty : FieldType} (τ : St) (hτ : (mW bx ba cI cJ cZ σ).set 0 (bx, .inr (2, (mF ba σ).set k v)) = mW bx ba cI cJ cZ τ)
    (hfin : (TX2 k).2.2.2 = false) (hd : parseFieldDescriptor (TX2 k).2.2.1 = some ty) (hn : narrow ty v = v) (hfit : fits ty v = true) (hdg : decode cc pc = .ok (.putfield index, 3))
    (hsame : ∀ x, s.fieldFound? (TX2 k).1 (TX2 k).2.1 (TX2 k).2.2.1 = some x → s.fieldFound? RX2 (TX2 k).2.1 (TX2 k).2.2.1 = some x)
    (kk : ∀ (H1 : Heap) (locs1 : List Loc), va_P D vwCl (mW bx ba cI cJ cZ τ) H1 → va_D A0 (mW bx ba cI cJ cZ τ) → va_S A0 s.heap H1 locs1 → W p l e R s m args below meth c H1 locs1 cells slots Q (F0 m (pc + 3) ls rest)) : W p l e R s m args below meth c H locs cells slots Q (F0 m pc ls (v :: .ref bx :: rest)) :=
  va_put (C := RX2) (T := TX2) (N := 22) (ci := 2) hx hb hts hin tyX2 tyX2_ok nmX2 hown hK hP hD hS 0 rfl rfl k hk (hts _ hlink) hsame hfin hd hn hfit hk hdg (fun H1 locs1 h1 h2 h3 => by
    rw [hτ] at h1 h2
    exact kk H1 locs1 h1 h2 h3)
abbrev mT (cI cJ cZ : ClassId) : List (ClassId × FieldType) := [(cI, .int), (cJ, .long), (cZ, .boolean)]
theorem m_ld0 (hx : p.tables.exec = Jvm.exec) (hb : c.code = cc) (hK : va_K D vwCl (mT cI cJ cZ) s) (hP : va_P D vwCl (mW bx ba cI cJ cZ σ) H) {k : Nat} (hk : k < 32) (hdg : decode cc pc = .ok (.baload, 1))
    (kk : W p l e R s m args below meth c H locs cells slots Q (F0 m (pc + 1) ls (.int (bI (gB σ 1 k)) :: rest))) : W p l e R s m args below meth c H locs cells slots Q (F0 m pc ls (.int (nI k) :: .ref (ba 0) :: rest)) := by
  refine va_zald hx hb hK hP 1 2 rfl rfl (vp_in_nI hk (by decide)) hdg ?_
  rw [nI_clamp (Nat.lt_trans hk (by decide))]
  exact kk
theorem m_set0 (k : Nat) (v : Bool) : (mW bx ba cI cJ cZ σ).set 1 (ba 0, .inl (cZ, 32, .inl (upd (fun k => bI (gB σ 1 k)) k (bI v)))) = mW bx ba cI cJ cZ (uB σ 1 k v) := by
  have h : upd (fun j => bI (gB σ 1 j)) k (bI v) = fun j => bI (gB (uB σ 1 k v) 1 j) := by
    funext j
    by_cases h : j = k <;> simp [upd, gB, uB, va_up, h]
  rw [h]
  rfl
theorem m_st0 (hx : p.tables.exec = Jvm.exec) (hb : c.code = cc) (hK : va_K D vwCl (mT cI cJ cZ) s) (hP : va_P D vwCl (mW bx ba cI cJ cZ σ) H) (hD : va_D A0 (mW bx ba cI cJ cZ σ)) (hS : va_S A0 s.heap H locs) {k : Nat} (hk : k < 32) {v : Bool} (hdg : decode cc pc = .ok (.bastore, 1))
    (kk : ∀ (H1 : Heap) (locs1 : List Loc), va_P D vwCl (mW bx ba cI cJ cZ (uB σ 1 k v)) H1 → va_D A0 (mW bx ba cI cJ cZ (uB σ 1 k v)) → va_S A0 s.heap H1 locs1 → W p l e R s m args below meth c H1 locs1 cells slots Q (F0 m (pc + 1) ls rest)) : W p l e R s m args below meth c H locs cells slots Q (F0 m pc ls (.int (bI v) :: .int (nI k) :: .ref (ba 0) :: rest)) := by
  refine va_zast hx hb hK hP hD hS 1 2 rfl rfl (vp_in_nI hk (by decide)) hdg (fun H1 locs1 h1 h2 h3 => ?_)
  rw [nI_clamp (Nat.lt_trans hk (by decide)), bI_vp, m_set0] at h1 h2
  exact kk H1 locs1 h1 h2 h3
theorem m_ld1 (hx : p.tables.exec = Jvm.exec) (hb : c.code = cc) (hK : va_K D vwCl (mT cI cJ cZ) s) (hP : va_P D vwCl (mW bx ba cI cJ cZ σ) H) {k : Nat} (hk : k < 32) (hdg : decode cc pc = .ok (.baload, 1))
    (kk : W p l e R s m args below meth c H locs cells slots Q (F0 m (pc + 1) ls (.int (bI (gB σ 2 k)) :: rest))) : W p l e R s m args below meth c H locs cells slots Q (F0 m pc ls (.int (nI k) :: .ref (ba 1) :: rest)) := by
  refine va_zald hx hb hK hP 2 2 rfl rfl (vp_in_nI hk (by decide)) hdg ?_
  rw [nI_clamp (Nat.lt_trans hk (by decide))]
  exact kk
theorem m_set1 (k : Nat) (v : Bool) : (mW bx ba cI cJ cZ σ).set 2 (ba 1, .inl (cZ, 32, .inl (upd (fun k => bI (gB σ 2 k)) k (bI v)))) = mW bx ba cI cJ cZ (uB σ 2 k v) := by
  have h : upd (fun j => bI (gB σ 2 j)) k (bI v) = fun j => bI (gB (uB σ 2 k v) 2 j) := by
    funext j
    by_cases h : j = k <;> simp [upd, gB, uB, va_up, h]
  rw [h]
  rfl
theorem m_st1 (hx : p.tables.exec = Jvm.exec) (hb : c.code = cc) (hK : va_K D vwCl (mT cI cJ cZ) s) (hP : va_P D vwCl (mW bx ba cI cJ cZ σ) H) (hD : va_D A0 (mW bx ba cI cJ cZ σ)) (hS : va_S A0 s.heap H locs) {k : Nat} (hk : k < 32) {v : Bool} (hdg : decode cc pc = .ok (.bastore, 1))
    (kk : ∀ (H1 : Heap) (locs1 : List Loc), va_P D vwCl (mW bx ba cI cJ cZ (uB σ 2 k v)) H1 → va_D A0 (mW bx ba cI cJ cZ (uB σ 2 k v)) → va_S A0 s.heap H1 locs1 → W p l e R s m args below meth c H1 locs1 cells slots Q (F0 m (pc + 1) ls rest)) : W p l e R s m args below meth c H locs cells slots Q (F0 m pc ls (.int (bI v) :: .int (nI k) :: .ref (ba 1) :: rest)) := by
  refine va_zast hx hb hK hP hD hS 2 2 rfl rfl (vp_in_nI hk (by decide)) hdg (fun H1 locs1 h1 h2 h3 => ?_)
  rw [nI_clamp (Nat.lt_trans hk (by decide)), bI_vp, m_set1] at h1 h2
  exact kk H1 locs1 h1 h2 h3
theorem m_ld2 (hx : p.tables.exec = Jvm.exec) (hb : c.code = cc) (hK : va_K D vwCl (mT cI cJ cZ) s) (hP : va_P D vwCl (mW bx ba cI cJ cZ σ) H) {k : Nat} (hk : k < 32) (hdg : decode cc pc = .ok (.iaload, 1))
    (kk : W p l e R s m args below meth c H locs cells slots Q (F0 m (pc + 1) ls (.int (gS σ 3 k) :: rest))) : W p l e R s m args below meth c H locs cells slots Q (F0 m pc ls (.int (nI k) :: .ref (ba 2) :: rest)) := by
  refine va_iald hx hb hK hP 3 0 rfl rfl (vp_in_nI hk (by decide)) hdg ?_
  rw [nI_clamp (Nat.lt_trans hk (by decide))]
  exact kk
theorem m_set2 (k : Nat) (v : Int32) : (mW bx ba cI cJ cZ σ).set 3 (ba 2, .inl (cI, 32, .inl (upd (gS σ 3) k v))) = mW bx ba cI cJ cZ (uS σ 3 k v) := by
  rfl
theorem m_st2 (hx : p.tables.exec = Jvm.exec) (hb : c.code = cc) (hK : va_K D vwCl (mT cI cJ cZ) s) (hP : va_P D vwCl (mW bx ba cI cJ cZ σ) H) (hD : va_D A0 (mW bx ba cI cJ cZ σ)) (hS : va_S A0 s.heap H locs) {k : Nat} (hk : k < 32) {v : Int32} (hdg : decode cc pc = .ok (.iastore, 1))
    (kk : ∀ (H1 : Heap) (locs1 : List Loc), va_P D vwCl (mW bx ba cI cJ cZ (uS σ 3 k v)) H1 → va_D A0 (mW bx ba cI cJ cZ (uS σ 3 k v)) → va_S A0 s.heap H1 locs1 → W p l e R s m args below meth c H1 locs1 cells slots Q (F0 m (pc + 1) ls rest)) : W p l e R s m args below meth c H locs cells slots Q (F0 m pc ls (.int v :: .int (nI k) :: .ref (ba 2) :: rest)) := by
  refine va_iast hx hb hK hP hD hS 3 0 rfl rfl (vp_in_nI hk (by decide)) hdg (fun H1 locs1 h1 h2 h3 => ?_)
  rw [nI_clamp (Nat.lt_trans hk (by decide)), m_set2] at h1 h2
  exact kk H1 locs1 h1 h2 h3
theorem m_ld3 (hx : p.tables.exec = Jvm.exec) (hb : c.code = cc) (hK : va_K D vwCl (mT cI cJ cZ) s) (hP : va_P D vwCl (mW bx ba cI cJ cZ σ) H) {k : Nat} (hk : k < 32) (hdg : decode cc pc = .ok (.iaload, 1))
    (kk : W p l e R s m args below meth c H locs cells slots Q (F0 m (pc + 1) ls (.int (gS σ 9 k) :: rest))) : W p l e R s m args below meth c H locs cells slots Q (F0 m pc ls (.int (nI k) :: .ref (ba 3) :: rest)) := by
  refine va_iald hx hb hK hP 4 0 rfl rfl (vp_in_nI hk (by decide)) hdg ?_
  rw [nI_clamp (Nat.lt_trans hk (by decide))]
  exact kk
theorem m_set3 (k : Nat) (v : Int32) : (mW bx ba cI cJ cZ σ).set 4 (ba 3, .inl (cI, 32, .inl (upd (gS σ 9) k v))) = mW bx ba cI cJ cZ (uS σ 9 k v) := by
  rfl
theorem m_st3 (hx : p.tables.exec = Jvm.exec) (hb : c.code = cc) (hK : va_K D vwCl (mT cI cJ cZ) s) (hP : va_P D vwCl (mW bx ba cI cJ cZ σ) H) (hD : va_D A0 (mW bx ba cI cJ cZ σ)) (hS : va_S A0 s.heap H locs) {k : Nat} (hk : k < 32) {v : Int32} (hdg : decode cc pc = .ok (.iastore, 1))
    (kk : ∀ (H1 : Heap) (locs1 : List Loc), va_P D vwCl (mW bx ba cI cJ cZ (uS σ 9 k v)) H1 → va_D A0 (mW bx ba cI cJ cZ (uS σ 9 k v)) → va_S A0 s.heap H1 locs1 → W p l e R s m args below meth c H1 locs1 cells slots Q (F0 m (pc + 1) ls rest)) : W p l e R s m args below meth c H locs cells slots Q (F0 m pc ls (.int v :: .int (nI k) :: .ref (ba 3) :: rest)) := by
  refine va_iast hx hb hK hP hD hS 4 0 rfl rfl (vp_in_nI hk (by decide)) hdg (fun H1 locs1 h1 h2 h3 => ?_)
  rw [nI_clamp (Nat.lt_trans hk (by decide)), m_set3] at h1 h2
  exact kk H1 locs1 h1 h2 h3
theorem m_ld4 (hx : p.tables.exec = Jvm.exec) (hb : c.code = cc) (hK : va_K D vwCl (mT cI cJ cZ) s) (hP : va_P D vwCl (mW bx ba cI cJ cZ σ) H) {k : Nat} (hk : k < 32) (hdg : decode cc pc = .ok (.iaload, 1))
    (kk : W p l e R s m args below meth c H locs cells slots Q (F0 m (pc + 1) ls (.int (gS σ 4 k) :: rest))) : W p l e R s m args below meth c H locs cells slots Q (F0 m pc ls (.int (nI k) :: .ref (ba 4) :: rest)) := by
  refine va_iald hx hb hK hP 5 0 rfl rfl (vp_in_nI hk (by decide)) hdg ?_
  rw [nI_clamp (Nat.lt_trans hk (by decide))]
  exact kk
theorem m_set4 (k : Nat) (v : Int32) : (mW bx ba cI cJ cZ σ).set 5 (ba 4, .inl (cI, 32, .inl (upd (gS σ 4) k v))) = mW bx ba cI cJ cZ (uS σ 4 k v) := by
  rfl
theorem m_st4 (hx : p.tables.exec = Jvm.exec) (hb : c.code = cc) (hK : va_K D vwCl (mT cI cJ cZ) s) (hP : va_P D vwCl (mW bx ba cI cJ cZ σ) H) (hD : va_D A0 (mW bx ba cI cJ cZ σ)) (hS : va_S A0 s.heap H locs) {k : Nat} (hk : k < 32) {v : Int32} (hdg : decode cc pc = .ok (.iastore, 1))
    (kk : ∀ (H1 : Heap) (locs1 : List Loc), va_P D vwCl (mW bx ba cI cJ cZ (uS σ 4 k v)) H1 → va_D A0 (mW bx ba cI cJ cZ (uS σ 4 k v)) → va_S A0 s.heap H1 locs1 → W p l e R s m args below meth c H1 locs1 cells slots Q (F0 m (pc + 1) ls rest)) : W p l e R s m args below meth c H locs cells slots Q (F0 m pc ls (.int v :: .int (nI k) :: .ref (ba 4) :: rest)) := by
  refine va_iast hx hb hK hP hD hS 5 0 rfl rfl (vp_in_nI hk (by decide)) hdg (fun H1 locs1 h1 h2 h3 => ?_)
  rw [nI_clamp (Nat.lt_trans hk (by decide)), m_set4] at h1 h2
  exact kk H1 locs1 h1 h2 h3
theorem m_ld5 (hx : p.tables.exec = Jvm.exec) (hb : c.code = cc) (hK : va_K D vwCl (mT cI cJ cZ) s) (hP : va_P D vwCl (mW bx ba cI cJ cZ σ) H) {k : Nat} (hk : k < 32) (hdg : decode cc pc = .ok (.laload, 1))
    (kk : W p l e R s m args below meth c H locs cells slots Q (F0 m (pc + 1) ls (.long (gT σ 6 k) :: rest))) : W p l e R s m args below meth c H locs cells slots Q (F0 m pc ls (.int (nI k) :: .ref (ba 5) :: rest)) := by
  refine va_lald hx hb hK hP 6 1 rfl rfl (vp_in_nI hk (by decide)) hdg ?_
  rw [nI_clamp (Nat.lt_trans hk (by decide))]
  exact kk
theorem m_set5 (k : Nat) (v : Int64) : (mW bx ba cI cJ cZ σ).set 6 (ba 5, .inl (cJ, 32, .inr (.inl (vp_updL (gT σ 6) k v)))) = mW bx ba cI cJ cZ (uT σ 6 k v) := by
  rfl
theorem m_st5 (hx : p.tables.exec = Jvm.exec) (hb : c.code = cc) (hK : va_K D vwCl (mT cI cJ cZ) s) (hP : va_P D vwCl (mW bx ba cI cJ cZ σ) H) (hD : va_D A0 (mW bx ba cI cJ cZ σ)) (hS : va_S A0 s.heap H locs) {k : Nat} (hk : k < 32) {v : Int64} (hdg : decode cc pc = .ok (.lastore, 1))
    (kk : ∀ (H1 : Heap) (locs1 : List Loc), va_P D vwCl (mW bx ba cI cJ cZ (uT σ 6 k v)) H1 → va_D A0 (mW bx ba cI cJ cZ (uT σ 6 k v)) → va_S A0 s.heap H1 locs1 → W p l e R s m args below meth c H1 locs1 cells slots Q (F0 m (pc + 1) ls rest)) : W p l e R s m args below meth c H locs cells slots Q (F0 m pc ls (.long v :: .int (nI k) :: .ref (ba 5) :: rest)) := by
  refine va_last hx hb hK hP hD hS 6 1 rfl rfl (vp_in_nI hk (by decide)) hdg (fun H1 locs1 h1 h2 h3 => ?_)
  rw [nI_clamp (Nat.lt_trans hk (by decide)), m_set5] at h1 h2
  exact kk H1 locs1 h1 h2 h3
theorem m_ld6 (hx : p.tables.exec = Jvm.exec) (hb : c.code = cc) (hK : va_K D vwCl (mT cI cJ cZ) s) (hP : va_P D vwCl (mW bx ba cI cJ cZ σ) H) {k : Nat} (hk : k < 32) (hdg : decode cc pc = .ok (.iaload, 1))
    (kk : W p l e R s m args below meth c H locs cells slots Q (F0 m (pc + 1) ls (.int (gS σ 5 k) :: rest))) : W p l e R s m args below meth c H locs cells slots Q (F0 m pc ls (.int (nI k) :: .ref (ba 6) :: rest)) := by
  refine va_iald hx hb hK hP 7 0 rfl rfl (vp_in_nI hk (by decide)) hdg ?_
  rw [nI_clamp (Nat.lt_trans hk (by decide))]
  exact kk
theorem m_set6 (k : Nat) (v : Int32) : (mW bx ba cI cJ cZ σ).set 7 (ba 6, .inl (cI, 32, .inl (upd (gS σ 5) k v))) = mW bx ba cI cJ cZ (uS σ 5 k v) := by
  rfl
theorem m_st6 (hx : p.tables.exec = Jvm.exec) (hb : c.code = cc) (hK : va_K D vwCl (mT cI cJ cZ) s) (hP : va_P D vwCl (mW bx ba cI cJ cZ σ) H) (hD : va_D A0 (mW bx ba cI cJ cZ σ)) (hS : va_S A0 s.heap H locs) {k : Nat} (hk : k < 32) {v : Int32} (hdg : decode cc pc = .ok (.iastore, 1))
    (kk : ∀ (H1 : Heap) (locs1 : List Loc), va_P D vwCl (mW bx ba cI cJ cZ (uS σ 5 k v)) H1 → va_D A0 (mW bx ba cI cJ cZ (uS σ 5 k v)) → va_S A0 s.heap H1 locs1 → W p l e R s m args below meth c H1 locs1 cells slots Q (F0 m (pc + 1) ls rest)) : W p l e R s m args below meth c H locs cells slots Q (F0 m pc ls (.int v :: .int (nI k) :: .ref (ba 6) :: rest)) := by
  refine va_iast hx hb hK hP hD hS 7 0 rfl rfl (vp_in_nI hk (by decide)) hdg (fun H1 locs1 h1 h2 h3 => ?_)
  rw [nI_clamp (Nat.lt_trans hk (by decide)), m_set6] at h1 h2
  exact kk H1 locs1 h1 h2 h3
theorem m_ld7 (hx : p.tables.exec = Jvm.exec) (hb : c.code = cc) (hK : va_K D vwCl (mT cI cJ cZ) s) (hP : va_P D vwCl (mW bx ba cI cJ cZ σ) H) {k : Nat} (hk : k < 32) (hdg : decode cc pc = .ok (.laload, 1))
    (kk : W p l e R s m args below meth c H locs cells slots Q (F0 m (pc + 1) ls (.long (gT σ 7 k) :: rest))) : W p l e R s m args below meth c H locs cells slots Q (F0 m pc ls (.int (nI k) :: .ref (ba 7) :: rest)) := by
  refine va_lald hx hb hK hP 8 1 rfl rfl (vp_in_nI hk (by decide)) hdg ?_
  rw [nI_clamp (Nat.lt_trans hk (by decide))]
  exact kk
theorem m_set7 (k : Nat) (v : Int64) : (mW bx ba cI cJ cZ σ).set 8 (ba 7, .inl (cJ, 32, .inr (.inl (vp_updL (gT σ 7) k v)))) = mW bx ba cI cJ cZ (uT σ 7 k v) := by
  rfl
theorem m_st7 (hx : p.tables.exec = Jvm.exec) (hb : c.code = cc) (hK : va_K D vwCl (mT cI cJ cZ) s) (hP : va_P D vwCl (mW bx ba cI cJ cZ σ) H) (hD : va_D A0 (mW bx ba cI cJ cZ σ)) (hS : va_S A0 s.heap H locs) {k : Nat} (hk : k < 32) {v : Int64} (hdg : decode cc pc = .ok (.lastore, 1))
    (kk : ∀ (H1 : Heap) (locs1 : List Loc), va_P D vwCl (mW bx ba cI cJ cZ (uT σ 7 k v)) H1 → va_D A0 (mW bx ba cI cJ cZ (uT σ 7 k v)) → va_S A0 s.heap H1 locs1 → W p l e R s m args below meth c H1 locs1 cells slots Q (F0 m (pc + 1) ls rest)) : W p l e R s m args below meth c H locs cells slots Q (F0 m pc ls (.long v :: .int (nI k) :: .ref (ba 7) :: rest)) := by
  refine va_last hx hb hK hP hD hS 8 1 rfl rfl (vp_in_nI hk (by decide)) hdg (fun H1 locs1 h1 h2 h3 => ?_)
  rw [nI_clamp (Nat.lt_trans hk (by decide)), m_set7] at h1 h2
  exact kk H1 locs1 h1 h2 h3
theorem m_ld8 (hx : p.tables.exec = Jvm.exec) (hb : c.code = cc) (hK : va_K D vwCl (mT cI cJ cZ) s) (hP : va_P D vwCl (mW bx ba cI cJ cZ σ) H) {k : Nat} (hk : k < 32) (hdg : decode cc pc = .ok (.iaload, 1))
    (kk : W p l e R s m args below meth c H locs cells slots Q (F0 m (pc + 1) ls (.int (gS σ 8 k) :: rest))) : W p l e R s m args below meth c H locs cells slots Q (F0 m pc ls (.int (nI k) :: .ref (ba 8) :: rest)) := by
  refine va_iald hx hb hK hP 9 0 rfl rfl (vp_in_nI hk (by decide)) hdg ?_
  rw [nI_clamp (Nat.lt_trans hk (by decide))]
  exact kk
theorem m_set8 (k : Nat) (v : Int32) : (mW bx ba cI cJ cZ σ).set 9 (ba 8, .inl (cI, 32, .inl (upd (gS σ 8) k v))) = mW bx ba cI cJ cZ (uS σ 8 k v) := by
  rfl
theorem m_st8 (hx : p.tables.exec = Jvm.exec) (hb : c.code = cc) (hK : va_K D vwCl (mT cI cJ cZ) s) (hP : va_P D vwCl (mW bx ba cI cJ cZ σ) H) (hD : va_D A0 (mW bx ba cI cJ cZ σ)) (hS : va_S A0 s.heap H locs) {k : Nat} (hk : k < 32) {v : Int32} (hdg : decode cc pc = .ok (.iastore, 1))
    (kk : ∀ (H1 : Heap) (locs1 : List Loc), va_P D vwCl (mW bx ba cI cJ cZ (uS σ 8 k v)) H1 → va_D A0 (mW bx ba cI cJ cZ (uS σ 8 k v)) → va_S A0 s.heap H1 locs1 → W p l e R s m args below meth c H1 locs1 cells slots Q (F0 m (pc + 1) ls rest)) : W p l e R s m args below meth c H locs cells slots Q (F0 m pc ls (.int v :: .int (nI k) :: .ref (ba 8) :: rest)) := by
  refine va_iast hx hb hK hP hD hS 9 0 rfl rfl (vp_in_nI hk (by decide)) hdg (fun H1 locs1 h1 h2 h3 => ?_)
  rw [nI_clamp (Nat.lt_trans hk (by decide)), m_set8] at h1 h2
  exact kk H1 locs1 h1 h2 h3
end XF
theorem cF_uI (ar : Nat) (σ : St) (v : Int32) : (cF ar σ).set 1 (.int v) = cF ar (uI σ 1 v) ∧ (cF ar σ).set 3 (.int v) = cF ar (uI σ 3 v) ∧ (cF ar σ).set 4 (.int v) = cF ar (uI σ 4 v) ∧ (cF ar σ).set 6 (.int v) = cF ar (uI σ 6 v) ∧ (cF ar σ).set 7 (.int v) = cF ar (uI σ 7 v) ∧ (cF ar σ).set 11 (.int v) = cF ar (uI σ 11 v) ∧ (cF ar σ).set 12 (.int v) = cF ar (uI σ 12 v) := by
  refine ⟨?_, ?_, ?_, ?_, ?_, ?_, ?_⟩ <;> rfl
theorem cF_uL (ar : Nat) (σ : St) (v : Int64) : (cF ar σ).set 2 (.long v) = cF ar (uL σ 2 v) ∧ (cF ar σ).set 5 (.long v) = cF ar (uL σ 5 v) ∧ (cF ar σ).set 8 (.long v) = cF ar (uL σ 8 v) ∧ (cF ar σ).set 9 (.long v) = cF ar (uL σ 9 v) ∧ (cF ar σ).set 10 (.long v) = cF ar (uL σ 10 v) := by
  refine ⟨?_, ?_, ?_, ?_, ?_⟩ <;> rfl
theorem sF_self (σ : St) (k : Nat) : (∀ v : Int32, (sF σ k).set 3 (.int v) = sF (uS σ 3 k v) k) ∧ (∀ v : Int32, (sF σ k).set 4 (.int v) = sF (uS σ 4 k v) k) ∧ (∀ v : Int32, (sF σ k).set 5 (.int v) = sF (uS σ 5 k v) k) ∧ (∀ v : Int32, (sF σ k).set 8 (.int v) = sF (uS σ 8 k v) k) ∧ (∀ v : Int64, (sF σ k).set 6 (.long v) = sF (uT σ 6 k v) k) ∧ (∀ v : Int64, (sF σ k).set 7 (.long v) = sF (uT σ 7 k v) k) ∧ (∀ v : Bool, (sF σ k).set 1 (.int (bI v)) = sF (uB σ 1 k v) k) ∧ (∀ v : Bool, (sF σ k).set 2 (.int (bI v)) = sF (uB σ 2 k v) k) := by
  refine ⟨?_, ?_, ?_, ?_, ?_, ?_, ?_, ?_⟩ <;> intro v <;> simp [sF, gS, gT, gB, uS, uT, uB, va_up]
theorem sF_other (σ : St) {k i : Nat} (h : i ≠ k) : (∀ v : Int32, sF (uS σ 3 k v) i = sF σ i) ∧ (∀ v : Int32, sF (uS σ 4 k v) i = sF σ i) ∧ (∀ v : Int32, sF (uS σ 5 k v) i = sF σ i) ∧ (∀ v : Int32, sF (uS σ 8 k v) i = sF σ i) ∧ (∀ v : Int64, sF (uT σ 6 k v) i = sF σ i) ∧ (∀ v : Int64, sF (uT σ 7 k v) i = sF σ i) ∧ (∀ v : Bool, sF (uB σ 1 k v) i = sF σ i) ∧ (∀ v : Bool, sF (uB σ 2 k v) i = sF σ i) := by
  refine ⟨?_, ?_, ?_, ?_, ?_, ?_, ?_, ?_⟩ <;> intro v <;> simp [sF, gS, gT, gB, uS, uT, uB, va_up, h]
theorem mF_0 (bx : Nat) (ba : Nat → Nat) (cI cJ cZ : ClassId) (σ : St) (v : Int32) : (mW bx ba cI cJ cZ σ).set 0 (bx, .inr (2, (mF ba σ).set 0 (.int v))) = mW bx ba cI cJ cZ (uI σ 3 v) := rfl
theorem mF_1 (bx : Nat) (ba : Nat → Nat) (cI cJ cZ : ClassId) (σ : St) (v : Int32) : (mW bx ba cI cJ cZ σ).set 0 (bx, .inr (2, (mF ba σ).set 1 (.int v))) = mW bx ba cI cJ cZ (uI σ 4 v) := rfl
theorem mF_2 (bx : Nat) (ba : Nat → Nat) (cI cJ cZ : ClassId) (σ : St) (v : Int32) : (mW bx ba cI cJ cZ σ).set 0 (bx, .inr (2, (mF ba σ).set 2 (.int v))) = mW bx ba cI cJ cZ (uI σ 1 v) := rfl
theorem mF_14 (bx : Nat) (ba : Nat → Nat) (cI cJ cZ : ClassId) (σ : St) (v : Int32) : (mW bx ba cI cJ cZ σ).set 0 (bx, .inr (2, (mF ba σ).set 14 (.int v))) = mW bx ba cI cJ cZ (uI σ 6 v) := rfl
theorem mF_15 (bx : Nat) (ba : Nat → Nat) (cI cJ cZ : ClassId) (σ : St) (v : Int32) : (mW bx ba cI cJ cZ σ).set 0 (bx, .inr (2, (mF ba σ).set 15 (.int v))) = mW bx ba cI cJ cZ (uI σ 7 v) := rfl
theorem mF_19 (bx : Nat) (ba : Nat → Nat) (cI cJ cZ : ClassId) (σ : St) (v : Int32) : (mW bx ba cI cJ cZ σ).set 0 (bx, .inr (2, (mF ba σ).set 19 (.int v))) = mW bx ba cI cJ cZ (uI σ 11 v) := rfl
theorem mF_20 (bx : Nat) (ba : Nat → Nat) (cI cJ cZ : ClassId) (σ : St) (v : Int32) : (mW bx ba cI cJ cZ σ).set 0 (bx, .inr (2, (mF ba σ).set 20 (.int v))) = mW bx ba cI cJ cZ (uI σ 12 v) := rfl
theorem mF_21 (bx : Nat) (ba : Nat → Nat) (cI cJ cZ : ClassId) (σ : St) (v : Int32) : (mW bx ba cI cJ cZ σ).set 0 (bx, .inr (2, (mF ba σ).set 21 (.int v))) = mW bx ba cI cJ cZ (uI σ 20 v) := rfl
theorem mF_3 (bx : Nat) (ba : Nat → Nat) (cI cJ cZ : ClassId) (σ : St) (v : Int64) : (mW bx ba cI cJ cZ σ).set 0 (bx, .inr (2, (mF ba σ).set 3 (.long v))) = mW bx ba cI cJ cZ (uL σ 2 v) := rfl
theorem mF_4 (bx : Nat) (ba : Nat → Nat) (cI cJ cZ : ClassId) (σ : St) (v : Int64) : (mW bx ba cI cJ cZ σ).set 0 (bx, .inr (2, (mF ba σ).set 4 (.long v))) = mW bx ba cI cJ cZ (uL σ 5 v) := rfl
theorem mF_16 (bx : Nat) (ba : Nat → Nat) (cI cJ cZ : ClassId) (σ : St) (v : Int64) : (mW bx ba cI cJ cZ σ).set 0 (bx, .inr (2, (mF ba σ).set 16 (.long v))) = mW bx ba cI cJ cZ (uL σ 8 v) := rfl
theorem mF_17 (bx : Nat) (ba : Nat → Nat) (cI cJ cZ : ClassId) (σ : St) (v : Int64) : (mW bx ba cI cJ cZ σ).set 0 (bx, .inr (2, (mF ba σ).set 17 (.long v))) = mW bx ba cI cJ cZ (uL σ 9 v) := rfl
theorem mF_18 (bx : Nat) (ba : Nat → Nat) (cI cJ cZ : ClassId) (σ : St) (v : Int64) : (mW bx ba cI cJ cZ σ).set 0 (bx, .inr (2, (mF ba σ).set 18 (.long v))) = mW bx ba cI cJ cZ (uL σ 10 v) := rfl
end
section
/-! ===== what the class's methods do to a state: in the state's words ===== -/
def inR (x a b : Int32) : Bool := !decide (x < a) && !decide (b < x)
def isT (x : Int32) : Bool := !decide (x < 0) && decide (x < 32)
def sumI (f : Nat → Int32) : Nat → Int32
  | 0 => 0
  | n + 1 => sumI f n + f n
def ended (σ : St) (k : Nat) : Bool := !decide (gI σ 1 < gS σ 5 k)
def inO (σ : St) (k : Nat) : Bool := gB σ 1 k && !gB σ 2 k
def uF (σ : St) (k : Nat) : Int32 := if gB σ 1 k then gS σ 3 k else 0
def pF (σ : St) (k : Nat) : Int32 := if gB σ 1 k && gB σ 2 k && !ended σ k then gS σ 3 k else 0
def nF (σ : St) (k : Nat) : Int32 := if gB σ 1 k && !ended σ k then gS σ 3 k else 0
def eF (σ : St) (k : Nat) : Int32 := if gB σ 1 k then 1 else 0
def used (σ : St) : Int32 := sumI (uF σ) 32
def pinA (σ : St) : Int32 := sumI (pF σ) 32
def notO (σ : St) : Int32 := sumI (nF σ) 32
def ents (σ : St) : Int32 := sumI (eF σ) 32
def rmS (σ : St) : Nat → St
  | 0 => σ
  | n + 1 => if gB (rmS σ n) 1 n && ended (rmS σ n) n then uB (rmS σ n) 1 n false else rmS σ n
def rmC (σ : St) : Nat → Int32
  | 0 => 0
  | n + 1 => if gB (rmS σ n) 1 n && ended (rmS σ n) n then rmC σ n + 1 else rmC σ n
def rmO (σ : St) : St := uI (rmS σ 32) 12 (gI (rmS σ 32) 12 + rmC σ 32)
def bef (σ : St) (i j : Nat) : Bool := decide (gT σ 6 i < gT σ 6 j) || (decide (gT σ 6 i = gT σ 6 j) && decide (gT σ 7 i < gT σ 7 j))
def beh (σ : St) (b : Option Nat) (i : Nat) : Bool := match b with
  | none => true
  | some k => bef σ k i
def befO (σ : St) (i : Nat) (r : Option Nat) : Bool := match r with
  | none => true
  | some m => bef σ i m
def nxtR (σ : St) (b : Option Nat) : Nat → Option Nat
  | 0 => none
  | i + 1 => if inO σ i && beh σ b i && befO σ i (nxtR σ b i) then some i else nxtR σ b i
def nxt (σ : St) (b : Option Nat) : Option Nat := nxtR σ b 32
theorem nxtR_lt (σ : St) (b : Option Nat) : ∀ (i k : Nat), nxtR σ b i = some k → k < i
  | 0, _, h => by cases h
  | i + 1, k, h => by
    unfold nxtR at h
    by_cases c : (inO σ i && beh σ b i && befO σ i (nxtR σ b i)) = true
    · rw [if_pos c] at h
      cases h
      exact Nat.lt_succ_self i
    · rw [if_neg c] at h
      exact Nat.lt_succ_of_lt (nxtR_lt σ b i k h)
theorem nxt_lt {σ : St} {b : Option Nat} {k : Nat} (h : nxt σ b = some k) : k < 32 := nxtR_lt σ b 32 k h
def cSetW (σ : St) (k : Nat) (pr : Int32) : St :=
  uT (uT (uL σ 5 (gL σ 5 + 1)) 7 k (gL σ 5 + 1)) 6 k (if gS σ 3 k < 1 then gL σ 2 else gL σ 2 + 1000 * (gS σ 4 k).toInt64 * pr.toInt64 / (gS σ 3 k).toInt64)
def cHit (σ : St) (k : Nat) (pr : Int32) : St :=
  let a := cSetW (uS σ 4 k (gS σ 4 k + 1)) k pr
  uL (uL (uI a 6 (gI a 6 + 1)) 8 (gL a 8 + (gS a 3 k).toInt64)) 9 (gL a 9 + pr.toInt64)
def cMiss (σ : St) (pr : Int32) : St := uL (uI σ 7 (gI σ 7 + 1)) 10 (gL σ 10 + pr.toInt64)
def cLate (σ : St) (k : Nat) : Bool := !decide (gS σ 8 k = -1) && !decide (50 < gI σ 1 - gS σ 8 k)
def cRmOwn (σ : St) (k : Nat) : St := uB (if gB σ 1 k && ended σ k then uI σ 12 (gI σ 12 + 1) else σ) 1 k false
def lv1 (σ : St) (k : Nat) : St := uL (uB σ 1 k false) 2 (if gT σ 6 k < gL σ 2 then gL σ 2 else gT σ 6 k)
def lvI (σ : St) : Nat → St
  | 0 => σ
  | n + 1 => match nxt (lvI σ n) none with
    | none => lvI σ n
    | some k => lv1 (lvI σ n) k
def lvOk (b : Int32) (σ : St) (j : Nat) : Bool := (nxt (lvI σ j) none).isSome && decide (b < used (lvI σ j))
/-- the first place from j on, at most n on, where p does not hold -/
def stopN (q : Nat → Bool) : Nat → Nat → Nat
  | 0, j => j
  | n + 1, j => if q j then stopN q n (j + 1) else j
theorem stopN_spec (q : Nat → Bool) : ∀ (n j : Nat), j ≤ stopN q n j ∧ stopN q n j ≤ j + n ∧ (∀ i, j ≤ i → i < stopN q n j → q i = true) ∧ (stopN q n j = j + n ∨ q (stopN q n j) = false)
  | 0, j => ⟨Nat.le_refl _, Nat.le_refl _, fun i h1 h2 => absurd h2 (by unfold stopN; omega), Or.inl rfl⟩
  | n + 1, j => by
    unfold stopN
    by_cases h : q j = true
    · rw [if_pos h]
      obtain ⟨h1, h2, h3, h4⟩ := stopN_spec q n (j + 1)
      refine ⟨by omega, by omega, fun i g1 g2 => ?_, ?_⟩
      · rcases Nat.eq_or_lt_of_le g1 with g | g
        · rw [← g]; exact h
        · exact h3 i g g2
      · rcases h4 with h4 | h4
        · exact Or.inl (by omega)
        · exact Or.inr h4
    · rw [if_neg h]
      refine ⟨Nat.le_refl _, by omega, fun i g1 g2 => absurd g2 (by omega), Or.inr ?_⟩
      cases hq : q j with
      | true => exact absurd hq h
      | false => rfl
def lvE (b : Int32) (σ : St) : Nat := stopN (lvOk b σ) 32 0
def lvD (b : Int32) (σ : St) : St := uI (lvI σ (lvE b σ)) 11 (gI (lvI σ (lvE b σ)) 11 + nI (lvE b σ))
def cHasRoom (σ : St) (sz : Int32) : Bool := !decide (gI σ 3 - sz < used σ)
def cRoom (σ : St) (sz : Int32) : Bool × St := if cHasRoom σ sz then (true, σ) else if gI (rmO σ) 3 - pinA (rmO σ) < sz then (false, rmO σ) else (true, lvD (gI (rmO σ) 3 - sz) (rmO σ))
def cFill (σ : St) (k : Nat) (sz pr lf : Int32) : St := cSetW (uS (uS (uS (uB (uB σ 1 k true) 2 k false) 3 k sz) 4 k 1) 5 k (gI σ 1 + lf)) k pr
def cLetIn (σ : St) (k : Nat) (sz pr lf : Int32) : Bool × St :=
  let τ := cRmOwn (uS σ 8 k (gI σ 1)) k
  if gI τ 3 < sz then (false, τ) else if decide (gI τ 4 < sz) && !cLate σ k then (false, τ) else if (cRoom τ sz).1 then (true, cFill (cRoom τ sz).2 k sz pr lf) else (false, (cRoom τ sz).2)
def cFetch (σ : St) (k : Nat) (sz pr lf : Int32) : Int32 × St :=
  if gB σ 1 k && !ended σ k && decide (gS σ 3 k = sz) then (0, cHit σ k pr) else (if (cLetIn (cMiss σ pr) k sz pr lf).1 then 1 else 2, (cLetIn (cMiss σ pr) k sz pr lf).2)
def cSetCap (σ : St) (cp : Int32) : Int32 × St :=
  let τ := uI σ 3 cp
  if cp < used τ then (nI (lvE cp (rmO τ)), lvD cp (rmO τ)) else (0, τ)
def wlI (σ : St) : Nat → Int32 × Int32 × Option Nat
  | 0 => (notO σ, 0, nxt σ none)
  | n + 1 => match (wlI σ n).2.2 with
    | none => wlI σ n
    | some k => (if ended σ k then (wlI σ n).1 else (wlI σ n).1 - gS σ 3 k, if ended σ k then (wlI σ n).2.1 else (wlI σ n).2.1 + 1, nxt σ (some k))
def wlOk (σ : St) (sz : Int32) (j : Nat) : Bool := (wlI σ j).2.2.isSome && decide (gI σ 3 - sz < (wlI σ j).1)
def wlE (σ : St) (sz : Int32) : Nat := stopN (wlOk σ sz) 32 0
def cCount (σ : St) (sz : Int32) : Int32 := (wlI σ (wlE σ sz)).2.1
def cWould (σ : St) (sz : Int32) : Int32 := if gI σ 3 - pinA σ < sz then -1 else cCount σ sz
def endO (σ : St) (i : Nat) (r : Option Nat) : Bool := match r with
  | none => true
  | some m => decide (gS σ 5 i < gS σ 5 m)
def efR (σ : St) : Nat → Option Nat
  | 0 => none
  | i + 1 => if gB σ 1 i && endO σ i (efR σ i) then some i else efR σ i
theorem efR_lt (σ : St) : ∀ (i k : Nat), efR σ i = some k → k < i
  | 0, _, h => by cases h
  | i + 1, k, h => by
    unfold efR at h
    by_cases c : (gB σ 1 i && endO σ i (efR σ i)) = true
    · rw [if_pos c] at h
      cases h
      exact Nat.lt_succ_self i
    · rw [if_neg c] at h
      exact Nat.lt_succ_of_lt (efR_lt σ i k h)
def cEnds (σ : St) : Int32 := match efR σ 32 with
  | none => -1
  | some k => gS σ 0 k
def nth (σ : St) : Nat → Option Nat
  | 0 => nxt σ none
  | n + 1 => match nth σ n with
    | none => none
    | some k => nxt σ (some k)
def placeF (σ : St) (k i : Nat) : Int32 := if inO σ i && bef σ i k then 1 else 0
def cPlace (σ : St) (k : Nat) : Int32 := if inO σ k then sumI (placeF σ k) 32 else -1
end
section
abbrev cT (cO : ClassId) : List (ClassId × FieldType) := [(cO, .object RX0)]
abbrev xNm : List String := ["java/lang/RuntimeException", "java/lang/Exception"]
theorem nI_inj32 {a b : Nat} (ha : a < 32) (hb : b < 32) (h : nI a = nI b) : a = b := (nI_eq (Nat.lt_trans ha (by decide)) (Nat.lt_trans hb (by decide))).mp h
theorem nI_lt32 {i : Nat} (h : i ≤ 32) : nI i < 32 ↔ i < 32 := nI_ltI (b := 32) (Nat.lt_of_le_of_lt h (by decide)) (by decide)
theorem isT_nI {x : Int32} (h : isT x = true) : ∃ k, k < 32 ∧ x = nI k := by
  simp only [isT, Bool.and_eq_true, Bool.not_eq_true', decide_eq_false_iff_not, decide_eq_true_eq] at h
  obtain ⟨j, hj, rfl⟩ := nI_of h.1
  exact ⟨j, (nI_ltI (b := 32) hj (by decide)).mp h.2, rfl⟩
theorem isT_of {k : Nat} (h : k < 32) : isT (nI k) = true := by
  have h1 : ¬ nI k < 0 := nI_pos (Nat.lt_trans h (by decide))
  have h2 : nI k < 32 := nI_lt (b := 32) h (by decide)
  simp [isT, h1, h2]
theorem x_thr {S : Type} {s : State} {D : va_G} {tys : List (ClassId × FieldType)} {w : S → va_W} {σ : S} {A0 : Nat → Prop} {H : Heap} {locs : List Loc} {xc : String → Prop} {En : String} (hK : va_K D vwCl tys s) (hP : va_P D vwCl (w σ) H) (hD : va_D A0 (w σ)) (hS : va_S A0 s.heap H locs) (h : xc En) {t : State} (hvm : s.vm.Alike t.vm) (hz : H.size ≤ t.heap.size) (hk : ∀ q : Nat, q < H.size → t.heap[q]? = H[q]?) : xXC D tys w A0 σ xc En s t :=
  ⟨(), trivial, ⟨h, hP.kept (fun k q hq => hk q.1 ((hP k q hq).lt)), va_K.moved hvm hK, hD⟩, Nat.le_trans hS.1 hz, fun q h1 h2 => (hk q (Nat.lt_of_lt_of_le h1 hS.1)).trans (hS.2.1 q h1 h2)⟩
theorem hat_IO {args : Array Value} {s : State} (h1 : ∀ w ∈ (vx_atS RX1 109 "java/lang/IndexOutOfBoundsException" ["java/lang/RuntimeException", "java/lang/Exception"]).filter goodWord, w.before args s = true) (hV : xV s) : ∀ w ∈ vx_atS RX1 109 "java/lang/IndexOutOfBoundsException" ["java/lang/RuntimeException", "java/lang/Exception"], w.before args s = true :=
  vx_hat (B := [.declares ⟨"java/lang/RuntimeException", "<init>", "(Ljava/lang/String;)V"⟩, .declares ⟨"java/lang/Exception", "<init>", "(Ljava/lang/String;)V"⟩, .declares ⟨"java/lang/Throwable", "<init>", "(Ljava/lang/String;)V"⟩, .castable "java/lang/IndexOutOfBoundsException" "java/lang/IndexOutOfBoundsException"]) h1 (by decide +kernel)
    (vx_c (va_Nw.use rfl (hV.2.2.1 _ (List.mem_of_getElem? (i := 0) rfl))) (vx_c (va_Nw.use rfl (hV.2.2.1 _ (List.mem_of_getElem? (i := 1) rfl))) (vx_c (va_Nw.use rfl (hV.2.2.1 _ (List.mem_of_getElem? (i := 2) rfl))) (vx_c (va_Nw.use rfl (hV.2.2.2.1 _ (List.mem_of_getElem? (i := 0) rfl))) vx_n))))
theorem hat_IA {args : Array Value} {s : State} (h1 : ∀ w ∈ (vx_atS RX1 155 "java/lang/IllegalArgumentException" ["java/lang/RuntimeException", "java/lang/Exception"]).filter goodWord, w.before args s = true) (hV : xV s) : ∀ w ∈ vx_atS RX1 155 "java/lang/IllegalArgumentException" ["java/lang/RuntimeException", "java/lang/Exception"], w.before args s = true :=
  vx_hat (B := [.declares ⟨"java/lang/RuntimeException", "<init>", "(Ljava/lang/String;)V"⟩, .declares ⟨"java/lang/Exception", "<init>", "(Ljava/lang/String;)V"⟩, .declares ⟨"java/lang/Throwable", "<init>", "(Ljava/lang/String;)V"⟩, .castable "java/lang/IllegalArgumentException" "java/lang/IllegalArgumentException"]) h1 (by decide +kernel)
    (vx_c (va_Nw.use rfl (hV.2.2.1 _ (List.mem_of_getElem? (i := 0) rfl))) (vx_c (va_Nw.use rfl (hV.2.2.1 _ (List.mem_of_getElem? (i := 1) rfl))) (vx_c (va_Nw.use rfl (hV.2.2.1 _ (List.mem_of_getElem? (i := 2) rfl))) (vx_c (va_Nw.use rfl (hV.2.2.2.1 _ (List.mem_of_getElem? (i := 1) rfl))) vx_n))))
theorem hat_IS {args : Array Value} {s : State} (h1 : ∀ w ∈ (vx_atS RX1 75 "java/lang/IllegalStateException" ["java/lang/RuntimeException", "java/lang/Exception"]).filter goodWord, w.before args s = true) (hV : xV s) : ∀ w ∈ vx_atS RX1 75 "java/lang/IllegalStateException" ["java/lang/RuntimeException", "java/lang/Exception"], w.before args s = true :=
  vx_hat (B := [.declares ⟨"java/lang/RuntimeException", "<init>", "(Ljava/lang/String;)V"⟩, .declares ⟨"java/lang/Exception", "<init>", "(Ljava/lang/String;)V"⟩, .declares ⟨"java/lang/Throwable", "<init>", "(Ljava/lang/String;)V"⟩, .castable "java/lang/IllegalStateException" "java/lang/IllegalStateException"]) h1 (by decide +kernel)
    (vx_c (va_Nw.use rfl (hV.2.2.1 _ (List.mem_of_getElem? (i := 0) rfl))) (vx_c (va_Nw.use rfl (hV.2.2.1 _ (List.mem_of_getElem? (i := 1) rfl))) (vx_c (va_Nw.use rfl (hV.2.2.1 _ (List.mem_of_getElem? (i := 2) rfl))) (vx_c (va_Nw.use rfl (hV.2.2.2.1 _ (List.mem_of_getElem? (i := 2) rfl))) vx_n))))
theorem hgd_IO : ∀ w ∈ Cond.classLink RX1 105 "java/lang/IndexOutOfBoundsException" :: Cond.initialized "java/lang/IndexOutOfBoundsException" :: vx_atS RX1 109 "java/lang/IndexOutOfBoundsException" ["java/lang/RuntimeException", "java/lang/Exception"], vx_ot w = true := by decide +kernel
theorem hgd_IA : ∀ w ∈ Cond.classLink RX1 151 "java/lang/IllegalArgumentException" :: Cond.initialized "java/lang/IllegalArgumentException" :: vx_atS RX1 155 "java/lang/IllegalArgumentException" ["java/lang/RuntimeException", "java/lang/Exception"], vx_ot w = true := by decide +kernel
theorem hgd_IS : ∀ w ∈ Cond.classLink RX1 71 "java/lang/IllegalStateException" :: Cond.initialized "java/lang/IllegalStateException" :: vx_atS RX1 75 "java/lang/IllegalStateException" ["java/lang/RuntimeException", "java/lang/Exception"], vx_ot w = true := by decide +kernel
theorem toI64_0 {x : Int32} (h : x.toInt64 = 0) : x = 0 := by
  apply Int32.toInt_inj.mp
  have h1 : x.toInt64.toInt = (0 : Int64).toInt := by rw [h]
  rw [Int32.toInt_toInt64] at h1
  exact h1
theorem va_rf_cat (r : Option Nat) : (va_rf r).category = 1 := by cases r <;> rfl
theorem nxtR_s (σ : St) (b : Option Nat) (i : Nat) : nxtR σ b (i + 1) = if inO σ i && beh σ b i && befO σ i (nxtR σ b i) then some i else nxtR σ b i := rfl
theorem efR_s (σ : St) (i : Nat) : efR σ (i + 1) = if gB σ 1 i && endO σ i (efR σ i) then some i else efR σ i := rfl
theorem sF_uI (σ : St) (j : Nat) (v : Int32) (k : Nat) : sF (uI σ j v) k = sF σ k := rfl
theorem sF_uL (σ : St) (j : Nat) (v : Int64) (k : Nat) : sF (uL σ j v) k = sF σ k := rfl
theorem cF_uS (ar : Nat) (σ : St) (j k : Nat) (v : Int32) : cF ar (uS σ j k v) = cF ar σ := rfl
theorem cF_uT (ar : Nat) (σ : St) (j k : Nat) (v : Int64) : cF ar (uT σ j k v) = cF ar σ := rfl
theorem cF_uB (ar : Nat) (σ : St) (j k : Nat) (v : Bool) : cF ar (uB σ j k v) = cF ar σ := rfl
theorem wlI_s (σ : St) (n : Nat) : wlI σ (n + 1) = match (wlI σ n).2.2 with
    | none => wlI σ n
    | some k => (if ended σ k then (wlI σ n).1 else (wlI σ n).1 - gS σ 3 k, if ended σ k then (wlI σ n).2.1 else (wlI σ n).2.1 + 1, nxt σ (some k)) := rfl
theorem wlI_lt {σ : St} {k : Nat} : ∀ {n : Nat}, (wlI σ n).2.2 = some k → k < 32
  | 0, h => nxt_lt h
  | n + 1, h => by
    rw [wlI_s] at h
    cases hc : (wlI σ n).2.2 with
    | none => rw [hc] at h; exact wlI_lt (n := n) h
    | some j => rw [hc] at h; exact nxt_lt h
theorem nth_s (σ : St) (n : Nat) : nth σ (n + 1) = match nth σ n with
    | none => none
    | some k => nxt σ (some k) := rfl
theorem nth_lt {σ : St} {k : Nat} : ∀ {n : Nat}, nth σ n = some k → k < 32
  | 0, h => nxt_lt h
  | n + 1, h => by
    rw [nth_s] at h
    cases hc : nth σ n with
    | none => rw [hc] at h; cases h
    | some j => rw [hc] at h; exact nxt_lt h
end
section
set_option maxHeartbeats 4000000 in
set_option maxRecDepth 100000 in
theorem k_X1_hasEnded (l : Launch) (D : va_G) (ax ar : Nat) (ad : Nat → Nat) (cO : ClassId) (sz : Nat) (σ : St) {k : Nat} (hk : k < 32) : Met l yX1_hasEnded wsX1_hasEnded ({ frames := 0, cells := 0, slots := 0, locals := 0 } : Room) (va_Pc [.ref ax, .ref (ad k)] (xPre D (cT cO) xE (cW ax ar ad cO) σ sz)) (va_Qi (fun (r : Int32) (u : St) => r = bI (ended σ k) ∧ u = σ) (xB D (cT cO) (cW ax ar ad cO) (va_A (cW ax ar ad cO σ) sz)) (va_A (cW ax ar ad cO σ) sz)) 0 0 (va_A (cW ax ar ad cO σ) sz) := by
  refine xOpen (w := (cW ax ar ad cO)) (σ := σ) (cc := cX1_hasEnded) (maxL := 2) (ret := some .boolean) (QQ := fun A => va_Qi (fun (r : Int32) (u : St) => r = bI (ended σ k) ∧ u = σ) (xB D (cT cO) (cW ax ar ad cO) A) A) (by decide) rfl (Nat.le_of_ble_eq_true rfl) ?_
  intro p e s m below meth c A hx hb hr hml hown hts hlocks hname hK hE hA hP hD hS ls hl
  have hl : lv_has ls 2 [(0, .ref ax), (1, .ref (ad k))] := hl
  have hown : s.vm.findClass RX1 = some m.cls := hown
  have hi0 : ∀ w ∈ wsX00, w ∈ wsX1_hasEnded := (fun _ h => List.mem_cons_of_mem _ (List.mem_append_right _ h))
  have hi1 : ∀ w ∈ wsX10, w ∈ wsX1_hasEnded := (fun _ h => List.mem_cons_of_mem _ (List.mem_append_left _ (List.mem_append_right _ h)))
  generalize hH : s.heap = H at hP
  have hS : va_S A s.heap H [] := by rw [← hH]; exact va_S.rf
  generalize hlo : ([] : List Loc) = locs at hS
  refine lv_aload_n hx hb dX1_hasEnded_0 rfl (lv_at hl 0 rfl) ?_
  refine c_get hx hb hts hi1 hown hK hP 1 (by decide) (List.mem_of_getElem? (i := 1) rfl) (v := .int (gI σ 1)) rfl dX1_hasEnded_1 (fun _ h => h) ?_
  refine lv_aload_n hx hb dX1_hasEnded_4 rfl (lv_at hl 1 rfl) ?_
  refine s_get hx hb hts hi0 hown hK hE hP hk 5 (by decide) rfl (v := .int (gS σ 5 k)) rfl dX1_hasEnded_5 (fun _ h => h) ?_
  refine lv_icmp_lt (tgt := 15) hx hb dX1_hasEnded_8 (by decide) (fun c_1 => ?_) (fun c_1 => ?_)
  · refine lv_iconst (v := 0) hx hb dX1_hasEnded_15 (by decide) ?_
    exact x_zret (b := false) hx hb hr hlocks hK (σ) hP hD hS ⟨by simp only [ended]; simp [c_1], rfl⟩ dX1_hasEnded_16
  · refine lv_iconst (v := 1) hx hb dX1_hasEnded_11 (by decide) ?_
    refine lv_goto (tgt := 16) hx hb dX1_hasEnded_12 (by decide) ?_
    exact x_zret (b := true) hx hb hr hlocks hK (σ) hP hD hS ⟨by simp only [ended]; simp [c_1], rfl⟩ dX1_hasEnded_16
set_option maxHeartbeats 4000000 in
set_option maxRecDepth 100000 in
theorem k_X1_isInOrder (l : Launch) (D : va_G) (ax ar : Nat) (ad : Nat → Nat) (cO : ClassId) (sz : Nat) (σ : St) {k : Nat} (hk : k < 32) : Met l yX1_isInOrder wsX1_isInOrder ({ frames := 0, cells := 0, slots := 0, locals := 0 } : Room) (va_Pc [.ref (ad k)] (xPre D (cT cO) xE (cW ax ar ad cO) σ sz)) (va_Qi (fun (r : Int32) (u : St) => r = bI (inO σ k) ∧ u = σ) (xB D (cT cO) (cW ax ar ad cO) (va_A (cW ax ar ad cO σ) sz)) (va_A (cW ax ar ad cO σ) sz)) 0 0 (va_A (cW ax ar ad cO σ) sz) := by
  refine xOpen (w := (cW ax ar ad cO)) (σ := σ) (cc := cX1_isInOrder) (maxL := 1) (ret := some .boolean) (QQ := fun A => va_Qi (fun (r : Int32) (u : St) => r = bI (inO σ k) ∧ u = σ) (xB D (cT cO) (cW ax ar ad cO) A) A) (by decide) rfl (Nat.le_of_ble_eq_true rfl) ?_
  intro p e s m below meth c A hx hb hr hml hown hts hlocks hname hK hE hA hP hD hS ls hl
  have hl : lv_has ls 1 [(0, .ref (ad k))] := hl
  have hown : s.vm.findClass RX1 = some m.cls := hown
  have hi0 : ∀ w ∈ wsX00, w ∈ wsX1_isInOrder := (fun _ h => List.mem_cons_of_mem _ (List.mem_append_right _ h))
  generalize hH : s.heap = H at hP
  have hS : va_S A s.heap H [] := by rw [← hH]; exact va_S.rf
  generalize hlo : ([] : List Loc) = locs at hS
  refine lv_aload_n hx hb dX1_isInOrder_0 rfl (lv_at hl 0 rfl) ?_
  refine s_get hx hb hts hi0 hown hK hE hP hk 1 (by decide) rfl (v := .int (bI (gB σ 1 k))) rfl dX1_isInOrder_1 (fun _ h => h) ?_
  refine x_ifeq (tgt := 18) hx hb dX1_isInOrder_4 (by decide) (fun c_1 => ?_) (fun c_1 => ?_)
  · refine lv_iconst (v := 0) hx hb dX1_isInOrder_18 (by decide) ?_
    exact x_zret (b := false) hx hb hr hlocks hK (σ) hP hD hS ⟨by simp only [inO]; simp [c_1], rfl⟩ dX1_isInOrder_19
  · refine lv_aload_n hx hb dX1_isInOrder_7 rfl (lv_at hl 0 rfl) ?_
    refine s_get hx hb hts hi0 hown hK hE hP hk 2 (by decide) rfl (v := .int (bI (gB σ 2 k))) rfl dX1_isInOrder_8 (fun _ h => h) ?_
    refine x_ifne (tgt := 18) hx hb dX1_isInOrder_11 (by decide) (fun c_2 => ?_) (fun c_2 => ?_)
    · refine lv_iconst (v := 0) hx hb dX1_isInOrder_18 (by decide) ?_
      exact x_zret (b := false) hx hb hr hlocks hK (σ) hP hD hS ⟨by simp only [inO]; simp [c_1, c_2], rfl⟩ dX1_isInOrder_19
    · refine lv_iconst (v := 1) hx hb dX1_isInOrder_14 (by decide) ?_
      refine lv_goto (tgt := 19) hx hb dX1_isInOrder_15 (by decide) ?_
      exact x_zret (b := true) hx hb hr hlocks hK (σ) hP hD hS ⟨by simp only [inO]; simp [c_1, c_2], rfl⟩ dX1_isInOrder_19
set_option maxHeartbeats 4000000 in
set_option maxRecDepth 100000 in
theorem k_X1_leavesBefore (l : Launch) (D : va_G) (ax ar : Nat) (ad : Nat → Nat) (cO : ClassId) (sz : Nat) (σ : St) {i j : Nat} (hi : i < 32) (hj : j < 32) : Met l yX1_leavesBefore wsX1_leavesBefore ({ frames := 0, cells := 0, slots := 0, locals := 0 } : Room) (va_Pc [.ref (ad i), .ref (ad j)] (xPre D (cT cO) xE (cW ax ar ad cO) σ sz)) (va_Qi (fun (r : Int32) (u : St) => r = bI (bef σ i j) ∧ u = σ) (xB D (cT cO) (cW ax ar ad cO) (va_A (cW ax ar ad cO σ) sz)) (va_A (cW ax ar ad cO σ) sz)) 0 0 (va_A (cW ax ar ad cO σ) sz) := by
  refine xOpen (w := (cW ax ar ad cO)) (σ := σ) (cc := cX1_leavesBefore) (maxL := 2) (ret := some .boolean) (QQ := fun A => va_Qi (fun (r : Int32) (u : St) => r = bI (bef σ i j) ∧ u = σ) (xB D (cT cO) (cW ax ar ad cO) A) A) (by decide) rfl (Nat.le_of_ble_eq_true rfl) ?_
  intro p e s m below meth c A hx hb hr hml hown hts hlocks hname hK hE hA hP hD hS ls hl
  have hl : lv_has ls 2 [(0, .ref (ad i)), (1, .ref (ad j))] := hl
  have hown : s.vm.findClass RX1 = some m.cls := hown
  have hi0 : ∀ w ∈ wsX00, w ∈ wsX1_leavesBefore := (fun _ h => List.mem_cons_of_mem _ (List.mem_append_right _ h))
  generalize hH : s.heap = H at hP
  have hS : va_S A s.heap H [] := by rw [← hH]; exact va_S.rf
  generalize hlo : ([] : List Loc) = locs at hS
  refine lv_aload_n hx hb dX1_leavesBefore_0 rfl (lv_at hl 0 rfl) ?_
  refine s_get hx hb hts hi0 hown hK hE hP hi 6 (by decide) rfl (v := .long (gT σ 6 i)) rfl dX1_leavesBefore_1 (fun _ h => h) ?_
  refine lv_aload_n hx hb dX1_leavesBefore_4 rfl (lv_at hl 1 rfl) ?_
  refine s_get hx hb hts hi0 hown hK hE hP hj 6 (by decide) rfl (v := .long (gT σ 6 j)) rfl dX1_leavesBefore_5 (fun _ h => h) ?_
  refine x_lt (tgt := 36) hx hb dX1_leavesBefore_8 dX1_leavesBefore_9 (by decide) (fun c_1 => ?_) (fun c_1 => ?_)
  · refine lv_iconst (v := 1) hx hb dX1_leavesBefore_36 (by decide) ?_
    refine lv_goto (tgt := 41) hx hb dX1_leavesBefore_37 (by decide) ?_
    exact x_zret (b := true) hx hb hr hlocks hK (σ) hP hD hS ⟨by simp only [bef]; simp [c_1], rfl⟩ dX1_leavesBefore_41
  · refine lv_aload_n hx hb dX1_leavesBefore_12 rfl (lv_at hl 0 rfl) ?_
    refine s_get hx hb hts hi0 hown hK hE hP hi 6 (by decide) rfl (v := .long (gT σ 6 i)) rfl dX1_leavesBefore_13 (fun _ h => h) ?_
    refine lv_aload_n hx hb dX1_leavesBefore_16 rfl (lv_at hl 1 rfl) ?_
    refine s_get hx hb hts hi0 hown hK hE hP hj 6 (by decide) rfl (v := .long (gT σ 6 j)) rfl dX1_leavesBefore_17 (fun _ h => h) ?_
    refine x_ne (tgt := 40) hx hb dX1_leavesBefore_20 dX1_leavesBefore_21 (by decide) (fun c_2 => ?_) (fun c_2 => ?_)
    · refine lv_iconst (v := 0) hx hb dX1_leavesBefore_40 (by decide) ?_
      exact x_zret (b := false) hx hb hr hlocks hK (σ) hP hD hS ⟨by simp only [bef]; simp [c_1, c_2], rfl⟩ dX1_leavesBefore_41
    · refine lv_aload_n hx hb dX1_leavesBefore_24 rfl (lv_at hl 0 rfl) ?_
      refine s_get hx hb hts hi0 hown hK hE hP hi 7 (by decide) rfl (v := .long (gT σ 7 i)) rfl dX1_leavesBefore_25 (fun _ h => h) ?_
      refine lv_aload_n hx hb dX1_leavesBefore_28 rfl (lv_at hl 1 rfl) ?_
      refine s_get hx hb hts hi0 hown hK hE hP hj 7 (by decide) rfl (v := .long (gT σ 7 j)) rfl dX1_leavesBefore_29 (fun _ h => h) ?_
      refine x_ge (tgt := 40) hx hb dX1_leavesBefore_32 dX1_leavesBefore_33 (by decide) (fun c_3 => ?_) (fun c_3 => ?_)
      · refine lv_iconst (v := 0) hx hb dX1_leavesBefore_40 (by decide) ?_
        exact x_zret (b := false) hx hb hr hlocks hK (σ) hP hD hS ⟨by simp only [bef]; simp [c_1, c_2, c_3], rfl⟩ dX1_leavesBefore_41
      · refine lv_iconst (v := 1) hx hb dX1_leavesBefore_36 (by decide) ?_
        refine lv_goto (tgt := 41) hx hb dX1_leavesBefore_37 (by decide) ?_
        exact x_zret (b := true) hx hb hr hlocks hK (σ) hP hD hS ⟨by simp only [bef]; simp [c_1, c_2, c_3], rfl⟩ dX1_leavesBefore_41
end
section
set_option maxHeartbeats 4000000 in
set_option maxRecDepth 100000 in
theorem k_X1_used (l : Launch) (D : va_G) (ax ar : Nat) (ad : Nat → Nat) (cO : ClassId) (sz : Nat) (σ : St) : Met l yX1_used wsX1_used ({ frames := 1, cells := 0, slots := 0, locals := 30 } : Room) (va_Pc [.ref ax] (xPre D (cT cO) xE (cW ax ar ad cO) σ sz)) (va_Qi (fun (r : Int32) (u : St) => r = used σ ∧ u = σ) (xB D (cT cO) (cW ax ar ad cO) (va_A (cW ax ar ad cO σ) sz)) (va_A (cW ax ar ad cO σ) sz)) 0 0 (va_A (cW ax ar ad cO σ) sz) := by
  refine xOpen (w := (cW ax ar ad cO)) (σ := σ) (cc := cX1_used) (maxL := 6) (ret := some .int) (QQ := fun A => va_Qi (fun (r : Int32) (u : St) => r = used σ ∧ u = σ) (xB D (cT cO) (cW ax ar ad cO) A) A) (by decide) rfl (Nat.le_of_ble_eq_true rfl) ?_
  intro p e s m below meth c A hx hb hr hml hown hts hlocks hname hK hE hA hP hD hS ls hl
  have hl : lv_has ls 6 [(0, .ref ax)] := hl
  have hown : s.vm.findClass RX1 = some m.cls := hown
  have hi0 : ∀ w ∈ wsX00, w ∈ wsX1_used := (fun _ h => List.mem_cons_of_mem _ (List.mem_append_right _ h))
  have hi1 : ∀ w ∈ wsX10, w ∈ wsX1_used := (fun _ h => List.mem_cons_of_mem _ (List.mem_append_left _ (List.mem_append_right _ h)))
  generalize hH : s.heap = H at hP
  have hS : va_S A s.heap H [] := by rw [← hH]; exact va_S.rf
  generalize hlo : ([] : List Loc) = locs at hS
  refine lv_iconst (v := 0) hx hb dX1_used_0 (by decide) ?_
  refine lv_istore_n (lv' := [(1, .int 0), (0, .ref ax)]) hx hb dX1_used_1 rfl hl (by decide) rfl (fun ls hl => ?_)
  refine lv_aload_n hx hb dX1_used_2 rfl (lv_at hl 1 rfl) ?_
  refine c_get hx hb hts hi1 hown hK hP 0 (by decide) (List.mem_of_getElem? (i := 1) rfl) (v := .ref ar) rfl dX1_used_3 (fun _ h => h) ?_
  refine lv_astore_n (lv' := [(2, .ref ar), (1, .int 0), (0, .ref ax)]) hx hb dX1_used_6 rfl hl (by decide) rfl (fun ls hl => ?_)
  refine lv_aload_n hx hb dX1_used_7 rfl (lv_at hl 0 rfl) ?_
  refine c_alen hx hb hK hP dX1_used_8 ?_
  refine lv_istore_n (lv' := [(3, .int 32), (2, .ref ar), (1, .int 0), (0, .ref ax)]) hx hb dX1_used_9 rfl hl (by decide) rfl (fun ls hl => ?_)
  refine lv_iconst (v := 0) hx hb dX1_used_10 (by decide) ?_
  refine lv_istore (lv' := [(4, .int 0), (3, .int 32), (2, .ref ar), (1, .int 0), (0, .ref ax)]) hx hb dX1_used_11 hl (by decide) rfl (fun ls hl => ?_)
  have loop : ∀ (n i : Nat) (ls : Array Slot), i ≤ 32 → 32 - i < n → lv_has ls 6 [(0, .ref ax), (1, .int (sumI (uF σ) i)), (2, .ref ar), (3, .int 32), (4, .int (nI i))] → W p l e (headSpec wsX1_used ({ frames := 1, cells := 0, slots := 0, locals := 30 } : Room)).room s m [.ref ax].toArray below meth c H locs 0 0 (MQ below (va_Qi (fun (r : Int32) (u : St) => r = used σ ∧ u = σ) (xB D (cT cO) (cW ax ar ad cO) A) A) [.ref ax].toArray s 0 0 A) (F0 m 13 ls []) := by
    intro n
    induction n with
    | zero =>
      intro i ls h1 h2
      exact absurd h2 (by omega)
    | succ n ih =>
      intro i ls hi hn hl
      refine lv_iload hx hb dX1_used_13 (lv_at hl 4 rfl) ?_
      refine lv_iload_n hx hb dX1_used_15 rfl (lv_at hl 3 rfl) ?_
      refine x_icmp_ge (tgt := 47) hx hb dX1_used_16 (by decide) (fun c_1 => ?_) (fun c_1 => ?_)
      · have hi9 : i = 32 := by
          rcases Nat.lt_or_ge i 32 with q | q
          · exact absurd ((nI_lt32 hi).mpr q) c_1
          · omega
        subst hi9
        refine lv_iload_n hx hb dX1_used_47 rfl (lv_at hl 1 rfl) ?_
        exact x_iret hx hb hr hlocks hK (σ) hP hD hS ⟨rfl, rfl⟩ dX1_used_48
      · have hlt : i < 32 := (nI_lt32 hi).mp c_1
        refine lv_aload_n hx hb dX1_used_19 rfl (lv_at hl 2 rfl) ?_
        refine lv_iload hx hb dX1_used_20 (lv_at hl 4 rfl) ?_
        refine c_aald hx hb hK hP hlt dX1_used_22 ?_
        refine lv_astore (lv' := [(5, .ref (ad i)), (0, .ref ax), (1, .int (sumI (uF σ) i)), (2, .ref ar), (3, .int 32), (4, .int (nI i))]) hx hb dX1_used_23 hl (by decide) rfl (fun ls hl => ?_)
        refine lv_aload hx hb dX1_used_25 (lv_at hl 0 rfl) ?_
        refine s_get hx hb hts hi0 hown hK hE hP hlt 1 (by decide) rfl (v := .int (bI (gB σ 1 i))) rfl dX1_used_27 (fun _ h => h) ?_
        refine x_ifeq (tgt := 41) hx hb dX1_used_30 (by decide) (fun c_2 => ?_) (fun c_2 => ?_)
        · refine lv_iinc (v := (nI i) + 1) (lv' := [(4, .int ((nI i) + 1)), (5, .ref (ad i)), (0, .ref ax), (1, .int (sumI (uF σ) i)), (2, .ref ar), (3, .int 32)]) hx hb dX1_used_41 hl (k := 5) rfl rfl (by decide) rfl (fun ls hl => ?_)
          refine lv_goto (tgt := 13) hx hb dX1_used_44 (by decide) ?_
          have e9_0 : sumI (uF σ) (i + 1) = sumI (uF σ) i := by simp [sumI, uF, Int32.add_zero, c_1, c_2]
          exact ih (i + 1) ls (by omega) (by omega) (by rw [e9_0, nI_succ]; exact lv_sub hl [2, 3, 4, 5, 0] rfl)
        · refine lv_iload_n hx hb dX1_used_33 rfl (lv_at hl 2 rfl) ?_
          refine lv_aload hx hb dX1_used_34 (lv_at hl 0 rfl) ?_
          refine s_get hx hb hts hi0 hown hK hE hP hlt 3 (by decide) rfl (v := .int (gS σ 3 i)) rfl dX1_used_36 (fun _ h => h) ?_
          refine lv_iadd hx hb dX1_used_39 ?_
          refine lv_istore_n (lv' := [(1, .int ((sumI (uF σ) i) + (gS σ 3 i))), (5, .ref (ad i)), (0, .ref ax), (2, .ref ar), (3, .int 32), (4, .int (nI i))]) hx hb dX1_used_40 rfl hl (by decide) rfl (fun ls hl => ?_)
          refine lv_iinc (v := (nI i) + 1) (lv' := [(4, .int ((nI i) + 1)), (1, .int ((sumI (uF σ) i) + (gS σ 3 i))), (5, .ref (ad i)), (0, .ref ax), (2, .ref ar), (3, .int 32)]) hx hb dX1_used_41 hl (k := 5) rfl rfl (by decide) rfl (fun ls hl => ?_)
          refine lv_goto (tgt := 13) hx hb dX1_used_44 (by decide) ?_
          have e9_0 : sumI (uF σ) (i + 1) = (sumI (uF σ) i) + (gS σ 3 i) := by simp [sumI, uF, Int32.add_zero, c_1, c_2]
          exact ih (i + 1) ls (by omega) (by omega) (by rw [e9_0, nI_succ]; exact lv_sub hl [3, 1, 4, 5, 0] rfl)
  exact loop 33 0 _ (Nat.zero_le _) (by decide) (lv_sub hl [4, 3, 2, 1, 0] rfl)
set_option maxHeartbeats 4000000 in
set_option maxRecDepth 100000 in
theorem k_X1_bytesThatCannotLeave (l : Launch) (D : va_G) (ax ar : Nat) (ad : Nat → Nat) (cO : ClassId) (sz : Nat) (σ : St) : Met l yX1_bytesThatCannotLeave wsX1_bytesThatCannotLeave ({ frames := 1, cells := 0, slots := 0, locals := 30 } : Room) (va_Pc [.ref ax] (xPre D (cT cO) xE (cW ax ar ad cO) σ sz)) (va_Qi (fun (r : Int32) (u : St) => r = pinA σ ∧ u = σ) (xB D (cT cO) (cW ax ar ad cO) (va_A (cW ax ar ad cO σ) sz)) (va_A (cW ax ar ad cO σ) sz)) 0 0 (va_A (cW ax ar ad cO σ) sz) := by
  refine xOpen (w := (cW ax ar ad cO)) (σ := σ) (cc := cX1_bytesThatCannotLeave) (maxL := 6) (ret := some .int) (QQ := fun A => va_Qi (fun (r : Int32) (u : St) => r = pinA σ ∧ u = σ) (xB D (cT cO) (cW ax ar ad cO) A) A) (by decide) rfl (Nat.le_of_ble_eq_true rfl) ?_
  intro p e s m below meth c A hx hb hr hml hown hts hlocks hname hK hE hA hP hD hS ls hl
  have hl : lv_has ls 6 [(0, .ref ax)] := hl
  have hown : s.vm.findClass RX1 = some m.cls := hown
  have hi0 : ∀ w ∈ wsX00, w ∈ wsX1_bytesThatCannotLeave := (fun _ h => List.mem_cons_of_mem _ (List.mem_append_right _ h))
  have hi1 : ∀ w ∈ wsX10, w ∈ wsX1_bytesThatCannotLeave := (fun _ h => List.mem_cons_of_mem _ (List.mem_append_left _ (List.mem_append_right _ h)))
  generalize hH : s.heap = H at hP
  have hS : va_S A s.heap H [] := by rw [← hH]; exact va_S.rf
  generalize hlo : ([] : List Loc) = locs at hS
  refine lv_iconst (v := 0) hx hb dX1_bytesThatCannotLeave_0 (by decide) ?_
  refine lv_istore_n (lv' := [(1, .int 0), (0, .ref ax)]) hx hb dX1_bytesThatCannotLeave_1 rfl hl (by decide) rfl (fun ls hl => ?_)
  refine lv_aload_n hx hb dX1_bytesThatCannotLeave_2 rfl (lv_at hl 1 rfl) ?_
  refine c_get hx hb hts hi1 hown hK hP 0 (by decide) (List.mem_of_getElem? (i := 1) rfl) (v := .ref ar) rfl dX1_bytesThatCannotLeave_3 (fun _ h => h) ?_
  refine lv_astore_n (lv' := [(2, .ref ar), (1, .int 0), (0, .ref ax)]) hx hb dX1_bytesThatCannotLeave_6 rfl hl (by decide) rfl (fun ls hl => ?_)
  refine lv_aload_n hx hb dX1_bytesThatCannotLeave_7 rfl (lv_at hl 0 rfl) ?_
  refine c_alen hx hb hK hP dX1_bytesThatCannotLeave_8 ?_
  refine lv_istore_n (lv' := [(3, .int 32), (2, .ref ar), (1, .int 0), (0, .ref ax)]) hx hb dX1_bytesThatCannotLeave_9 rfl hl (by decide) rfl (fun ls hl => ?_)
  refine lv_iconst (v := 0) hx hb dX1_bytesThatCannotLeave_10 (by decide) ?_
  refine lv_istore (lv' := [(4, .int 0), (3, .int 32), (2, .ref ar), (1, .int 0), (0, .ref ax)]) hx hb dX1_bytesThatCannotLeave_11 hl (by decide) rfl (fun ls hl => ?_)
  have loop : ∀ (n i : Nat) (ls : Array Slot) (H : Heap) (locs : List Loc), i ≤ 32 → 32 - i < n → va_P D vwCl (cW ax ar ad cO (σ)) H → va_D A (cW ax ar ad cO (σ)) → va_S A s.heap H locs → lv_has ls 6 [(0, .ref ax), (1, .int (sumI (pF σ) i)), (2, .ref ar), (3, .int 32), (4, .int (nI i))] → W p l e (headSpec wsX1_bytesThatCannotLeave ({ frames := 1, cells := 0, slots := 0, locals := 30 } : Room)).room s m [.ref ax].toArray below meth c H locs 0 0 (MQ below (va_Qi (fun (r : Int32) (u : St) => r = pinA σ ∧ u = σ) (xB D (cT cO) (cW ax ar ad cO) A) A) [.ref ax].toArray s 0 0 A) (F0 m 13 ls []) := by
    intro n
    induction n with
    | zero =>
      intro i ls H locs h1 h2
      exact absurd h2 (by omega)
    | succ n ih =>
      intro i ls H locs hi hn hP hD hS hl
      refine lv_iload hx hb dX1_bytesThatCannotLeave_13 (lv_at hl 4 rfl) ?_
      refine lv_iload_n hx hb dX1_bytesThatCannotLeave_15 rfl (lv_at hl 3 rfl) ?_
      refine x_icmp_ge (tgt := 64) hx hb dX1_bytesThatCannotLeave_16 (by decide) (fun c_1 => ?_) (fun c_1 => ?_)
      · have hi9 : i = 32 := by
          rcases Nat.lt_or_ge i 32 with q | q
          · exact absurd ((nI_lt32 hi).mpr q) c_1
          · omega
        subst hi9
        refine lv_iload_n hx hb dX1_bytesThatCannotLeave_64 rfl (lv_at hl 1 rfl) ?_
        exact x_iret hx hb hr hlocks hK (σ) hP hD hS ⟨rfl, rfl⟩ dX1_bytesThatCannotLeave_65
      · have hlt : i < 32 := (nI_lt32 hi).mp c_1
        refine lv_aload_n hx hb dX1_bytesThatCannotLeave_19 rfl (lv_at hl 2 rfl) ?_
        refine lv_iload hx hb dX1_bytesThatCannotLeave_20 (lv_at hl 4 rfl) ?_
        refine c_aald hx hb hK hP hlt dX1_bytesThatCannotLeave_22 ?_
        refine lv_astore (lv' := [(5, .ref (ad i)), (0, .ref ax), (1, .int (sumI (pF σ) i)), (2, .ref ar), (3, .int 32), (4, .int (nI i))]) hx hb dX1_bytesThatCannotLeave_23 hl (by decide) rfl (fun ls hl => ?_)
        refine lv_aload hx hb dX1_bytesThatCannotLeave_25 (lv_at hl 0 rfl) ?_
        refine s_get hx hb hts hi0 hown hK hE hP hlt 1 (by decide) rfl (v := .int (bI (gB σ 1 i))) rfl dX1_bytesThatCannotLeave_27 (fun _ h => h) ?_
        refine x_ifeq (tgt := 58) hx hb dX1_bytesThatCannotLeave_30 (by decide) (fun c_2 => ?_) (fun c_2 => ?_)
        · refine lv_iinc (v := (nI i) + 1) (lv' := [(4, .int ((nI i) + 1)), (5, .ref (ad i)), (0, .ref ax), (1, .int (sumI (pF σ) i)), (2, .ref ar), (3, .int 32)]) hx hb dX1_bytesThatCannotLeave_58 hl (k := 5) rfl rfl (by decide) rfl (fun ls hl => ?_)
          refine lv_goto (tgt := 13) hx hb dX1_bytesThatCannotLeave_61 (by decide) ?_
          have e9_0 : sumI (pF σ) (i + 1) = sumI (pF σ) i := by simp [sumI, pF, Int32.add_zero, c_1, c_2]
          exact ih (i + 1) ls H locs (by omega) (by omega) hP hD hS (by rw [e9_0, nI_succ]; exact lv_sub hl [2, 3, 4, 5, 0] rfl)
        · refine lv_aload hx hb dX1_bytesThatCannotLeave_33 (lv_at hl 0 rfl) ?_
          refine s_get hx hb hts hi0 hown hK hE hP hlt 2 (by decide) rfl (v := .int (bI (gB σ 2 i))) rfl dX1_bytesThatCannotLeave_35 (fun _ h => h) ?_
          refine x_ifeq (tgt := 58) hx hb dX1_bytesThatCannotLeave_38 (by decide) (fun c_3 => ?_) (fun c_3 => ?_)
          · refine lv_iinc (v := (nI i) + 1) (lv' := [(4, .int ((nI i) + 1)), (5, .ref (ad i)), (0, .ref ax), (1, .int (sumI (pF σ) i)), (2, .ref ar), (3, .int 32)]) hx hb dX1_bytesThatCannotLeave_58 hl (k := 5) rfl rfl (by decide) rfl (fun ls hl => ?_)
            refine lv_goto (tgt := 13) hx hb dX1_bytesThatCannotLeave_61 (by decide) ?_
            have e9_0 : sumI (pF σ) (i + 1) = sumI (pF σ) i := by simp [sumI, pF, Int32.add_zero, c_1, c_2, c_3]
            exact ih (i + 1) ls H locs (by omega) (by omega) hP hD hS (by rw [e9_0, nI_succ]; exact lv_sub hl [2, 3, 4, 5, 0] rfl)
          · refine lv_aload_n hx hb dX1_bytesThatCannotLeave_41 rfl (lv_at hl 1 rfl) ?_
            refine lv_aload hx hb dX1_bytesThatCannotLeave_42 (lv_at hl 0 rfl) ?_
            refine x_calli (va_runV (As := [.ref (ad i)]) (rest := []) ⟨hx, hb, hml, hown, hts⟩ (k_X1_hasEnded l D ax ar ad cO H.size σ hlt) (cwV 1 hts gX1_bytesThatCannotLeave_X1_hasEnded rfl rfl rfl (by decide +kernel) ⟨Nat.le_of_ble_eq_true rfl, Nat.le_of_ble_eq_true rfl⟩) (xPreV xE_ok hE hK hA hP hD hS (q0 := 0) (ci := 1) rfl rfl rfl) rfl rfl hl.1 rfl (lv_room (Nat.le_of_ble_eq_true rfl)) dX1_bytesThatCannotLeave_44 ⟨Nat.le_of_ble_eq_true rfl, Nat.le_of_ble_eq_true rfl⟩) hD hS hA (fun r u H locs hp hP hD hS => ?_)
            obtain ⟨rfl, hu9⟩ := hp
            rw [hu9] at hP hD
            refine x_ifne (tgt := 58) hx hb dX1_bytesThatCannotLeave_47 (by decide) (fun c_4 => ?_) (fun c_4 => ?_)
            · refine lv_iinc (v := (nI i) + 1) (lv' := [(4, .int ((nI i) + 1)), (5, .ref (ad i)), (0, .ref ax), (1, .int (sumI (pF σ) i)), (2, .ref ar), (3, .int 32)]) hx hb dX1_bytesThatCannotLeave_58 hl (k := 5) rfl rfl (by decide) rfl (fun ls hl => ?_)
              refine lv_goto (tgt := 13) hx hb dX1_bytesThatCannotLeave_61 (by decide) ?_
              have e9_0 : sumI (pF σ) (i + 1) = sumI (pF σ) i := by simp [sumI, pF, Int32.add_zero, c_1, c_2, c_3, c_4]
              exact ih (i + 1) ls H locs (by omega) (by omega) hP hD hS (by rw [e9_0, nI_succ]; exact lv_sub hl [2, 3, 4, 5, 0] rfl)
            · refine lv_iload_n hx hb dX1_bytesThatCannotLeave_50 rfl (lv_at hl 2 rfl) ?_
              refine lv_aload hx hb dX1_bytesThatCannotLeave_51 (lv_at hl 0 rfl) ?_
              refine s_get hx hb hts hi0 hown hK hE hP hlt 3 (by decide) rfl (v := .int (gS σ 3 i)) rfl dX1_bytesThatCannotLeave_53 (fun _ h => h) ?_
              refine lv_iadd hx hb dX1_bytesThatCannotLeave_56 ?_
              refine lv_istore_n (lv' := [(1, .int ((sumI (pF σ) i) + (gS σ 3 i))), (5, .ref (ad i)), (0, .ref ax), (2, .ref ar), (3, .int 32), (4, .int (nI i))]) hx hb dX1_bytesThatCannotLeave_57 rfl hl (by decide) rfl (fun ls hl => ?_)
              refine lv_iinc (v := (nI i) + 1) (lv' := [(4, .int ((nI i) + 1)), (1, .int ((sumI (pF σ) i) + (gS σ 3 i))), (5, .ref (ad i)), (0, .ref ax), (2, .ref ar), (3, .int 32)]) hx hb dX1_bytesThatCannotLeave_58 hl (k := 5) rfl rfl (by decide) rfl (fun ls hl => ?_)
              refine lv_goto (tgt := 13) hx hb dX1_bytesThatCannotLeave_61 (by decide) ?_
              have e9_0 : sumI (pF σ) (i + 1) = (sumI (pF σ) i) + (gS σ 3 i) := by simp [sumI, pF, Int32.add_zero, c_1, c_2, c_3, c_4]
              exact ih (i + 1) ls H locs (by omega) (by omega) hP hD hS (by rw [e9_0, nI_succ]; exact lv_sub hl [3, 1, 4, 5, 0] rfl)
  exact loop 33 0 _ _ _ (Nat.zero_le _) (by decide) hP hD hS (lv_sub hl [4, 3, 2, 1, 0] rfl)
set_option maxHeartbeats 4000000 in
set_option maxRecDepth 100000 in
theorem k_X1_bytesNotOver (l : Launch) (D : va_G) (ax ar : Nat) (ad : Nat → Nat) (cO : ClassId) (sz : Nat) (σ : St) : Met l yX1_bytesNotOver wsX1_bytesNotOver ({ frames := 1, cells := 0, slots := 0, locals := 30 } : Room) (va_Pc [.ref ax] (xPre D (cT cO) xE (cW ax ar ad cO) σ sz)) (va_Qi (fun (r : Int32) (u : St) => r = notO σ ∧ u = σ) (xB D (cT cO) (cW ax ar ad cO) (va_A (cW ax ar ad cO σ) sz)) (va_A (cW ax ar ad cO σ) sz)) 0 0 (va_A (cW ax ar ad cO σ) sz) := by
  refine xOpen (w := (cW ax ar ad cO)) (σ := σ) (cc := cX1_bytesNotOver) (maxL := 6) (ret := some .int) (QQ := fun A => va_Qi (fun (r : Int32) (u : St) => r = notO σ ∧ u = σ) (xB D (cT cO) (cW ax ar ad cO) A) A) (by decide) rfl (Nat.le_of_ble_eq_true rfl) ?_
  intro p e s m below meth c A hx hb hr hml hown hts hlocks hname hK hE hA hP hD hS ls hl
  have hl : lv_has ls 6 [(0, .ref ax)] := hl
  have hown : s.vm.findClass RX1 = some m.cls := hown
  have hi0 : ∀ w ∈ wsX00, w ∈ wsX1_bytesNotOver := (fun _ h => List.mem_cons_of_mem _ (List.mem_append_right _ h))
  have hi1 : ∀ w ∈ wsX10, w ∈ wsX1_bytesNotOver := (fun _ h => List.mem_cons_of_mem _ (List.mem_append_left _ (List.mem_append_right _ h)))
  generalize hH : s.heap = H at hP
  have hS : va_S A s.heap H [] := by rw [← hH]; exact va_S.rf
  generalize hlo : ([] : List Loc) = locs at hS
  refine lv_iconst (v := 0) hx hb dX1_bytesNotOver_0 (by decide) ?_
  refine lv_istore_n (lv' := [(1, .int 0), (0, .ref ax)]) hx hb dX1_bytesNotOver_1 rfl hl (by decide) rfl (fun ls hl => ?_)
  refine lv_aload_n hx hb dX1_bytesNotOver_2 rfl (lv_at hl 1 rfl) ?_
  refine c_get hx hb hts hi1 hown hK hP 0 (by decide) (List.mem_of_getElem? (i := 1) rfl) (v := .ref ar) rfl dX1_bytesNotOver_3 (fun _ h => h) ?_
  refine lv_astore_n (lv' := [(2, .ref ar), (1, .int 0), (0, .ref ax)]) hx hb dX1_bytesNotOver_6 rfl hl (by decide) rfl (fun ls hl => ?_)
  refine lv_aload_n hx hb dX1_bytesNotOver_7 rfl (lv_at hl 0 rfl) ?_
  refine c_alen hx hb hK hP dX1_bytesNotOver_8 ?_
  refine lv_istore_n (lv' := [(3, .int 32), (2, .ref ar), (1, .int 0), (0, .ref ax)]) hx hb dX1_bytesNotOver_9 rfl hl (by decide) rfl (fun ls hl => ?_)
  refine lv_iconst (v := 0) hx hb dX1_bytesNotOver_10 (by decide) ?_
  refine lv_istore (lv' := [(4, .int 0), (3, .int 32), (2, .ref ar), (1, .int 0), (0, .ref ax)]) hx hb dX1_bytesNotOver_11 hl (by decide) rfl (fun ls hl => ?_)
  have loop : ∀ (n i : Nat) (ls : Array Slot) (H : Heap) (locs : List Loc), i ≤ 32 → 32 - i < n → va_P D vwCl (cW ax ar ad cO (σ)) H → va_D A (cW ax ar ad cO (σ)) → va_S A s.heap H locs → lv_has ls 6 [(0, .ref ax), (1, .int (sumI (nF σ) i)), (2, .ref ar), (3, .int 32), (4, .int (nI i))] → W p l e (headSpec wsX1_bytesNotOver ({ frames := 1, cells := 0, slots := 0, locals := 30 } : Room)).room s m [.ref ax].toArray below meth c H locs 0 0 (MQ below (va_Qi (fun (r : Int32) (u : St) => r = notO σ ∧ u = σ) (xB D (cT cO) (cW ax ar ad cO) A) A) [.ref ax].toArray s 0 0 A) (F0 m 13 ls []) := by
    intro n
    induction n with
    | zero =>
      intro i ls H locs h1 h2
      exact absurd h2 (by omega)
    | succ n ih =>
      intro i ls H locs hi hn hP hD hS hl
      refine lv_iload hx hb dX1_bytesNotOver_13 (lv_at hl 4 rfl) ?_
      refine lv_iload_n hx hb dX1_bytesNotOver_15 rfl (lv_at hl 3 rfl) ?_
      refine x_icmp_ge (tgt := 56) hx hb dX1_bytesNotOver_16 (by decide) (fun c_1 => ?_) (fun c_1 => ?_)
      · have hi9 : i = 32 := by
          rcases Nat.lt_or_ge i 32 with q | q
          · exact absurd ((nI_lt32 hi).mpr q) c_1
          · omega
        subst hi9
        refine lv_iload_n hx hb dX1_bytesNotOver_56 rfl (lv_at hl 1 rfl) ?_
        exact x_iret hx hb hr hlocks hK (σ) hP hD hS ⟨rfl, rfl⟩ dX1_bytesNotOver_57
      · have hlt : i < 32 := (nI_lt32 hi).mp c_1
        refine lv_aload_n hx hb dX1_bytesNotOver_19 rfl (lv_at hl 2 rfl) ?_
        refine lv_iload hx hb dX1_bytesNotOver_20 (lv_at hl 4 rfl) ?_
        refine c_aald hx hb hK hP hlt dX1_bytesNotOver_22 ?_
        refine lv_astore (lv' := [(5, .ref (ad i)), (0, .ref ax), (1, .int (sumI (nF σ) i)), (2, .ref ar), (3, .int 32), (4, .int (nI i))]) hx hb dX1_bytesNotOver_23 hl (by decide) rfl (fun ls hl => ?_)
        refine lv_aload hx hb dX1_bytesNotOver_25 (lv_at hl 0 rfl) ?_
        refine s_get hx hb hts hi0 hown hK hE hP hlt 1 (by decide) rfl (v := .int (bI (gB σ 1 i))) rfl dX1_bytesNotOver_27 (fun _ h => h) ?_
        refine x_ifeq (tgt := 50) hx hb dX1_bytesNotOver_30 (by decide) (fun c_2 => ?_) (fun c_2 => ?_)
        · refine lv_iinc (v := (nI i) + 1) (lv' := [(4, .int ((nI i) + 1)), (5, .ref (ad i)), (0, .ref ax), (1, .int (sumI (nF σ) i)), (2, .ref ar), (3, .int 32)]) hx hb dX1_bytesNotOver_50 hl (k := 5) rfl rfl (by decide) rfl (fun ls hl => ?_)
          refine lv_goto (tgt := 13) hx hb dX1_bytesNotOver_53 (by decide) ?_
          have e9_0 : sumI (nF σ) (i + 1) = sumI (nF σ) i := by simp [sumI, nF, Int32.add_zero, c_1, c_2]
          exact ih (i + 1) ls H locs (by omega) (by omega) hP hD hS (by rw [e9_0, nI_succ]; exact lv_sub hl [2, 3, 4, 5, 0] rfl)
        · refine lv_aload_n hx hb dX1_bytesNotOver_33 rfl (lv_at hl 1 rfl) ?_
          refine lv_aload hx hb dX1_bytesNotOver_34 (lv_at hl 0 rfl) ?_
          refine x_calli (va_runV (As := [.ref (ad i)]) (rest := []) ⟨hx, hb, hml, hown, hts⟩ (k_X1_hasEnded l D ax ar ad cO H.size σ hlt) (cwV 1 hts gX1_bytesNotOver_X1_hasEnded rfl rfl rfl (by decide +kernel) ⟨Nat.le_of_ble_eq_true rfl, Nat.le_of_ble_eq_true rfl⟩) (xPreV xE_ok hE hK hA hP hD hS (q0 := 0) (ci := 1) rfl rfl rfl) rfl rfl hl.1 rfl (lv_room (Nat.le_of_ble_eq_true rfl)) dX1_bytesNotOver_36 ⟨Nat.le_of_ble_eq_true rfl, Nat.le_of_ble_eq_true rfl⟩) hD hS hA (fun r u H locs hp hP hD hS => ?_)
          obtain ⟨rfl, hu9⟩ := hp
          rw [hu9] at hP hD
          refine x_ifne (tgt := 50) hx hb dX1_bytesNotOver_39 (by decide) (fun c_3 => ?_) (fun c_3 => ?_)
          · refine lv_iinc (v := (nI i) + 1) (lv' := [(4, .int ((nI i) + 1)), (5, .ref (ad i)), (0, .ref ax), (1, .int (sumI (nF σ) i)), (2, .ref ar), (3, .int 32)]) hx hb dX1_bytesNotOver_50 hl (k := 5) rfl rfl (by decide) rfl (fun ls hl => ?_)
            refine lv_goto (tgt := 13) hx hb dX1_bytesNotOver_53 (by decide) ?_
            have e9_0 : sumI (nF σ) (i + 1) = sumI (nF σ) i := by simp [sumI, nF, Int32.add_zero, c_1, c_2, c_3]
            exact ih (i + 1) ls H locs (by omega) (by omega) hP hD hS (by rw [e9_0, nI_succ]; exact lv_sub hl [2, 3, 4, 5, 0] rfl)
          · refine lv_iload_n hx hb dX1_bytesNotOver_42 rfl (lv_at hl 2 rfl) ?_
            refine lv_aload hx hb dX1_bytesNotOver_43 (lv_at hl 0 rfl) ?_
            refine s_get hx hb hts hi0 hown hK hE hP hlt 3 (by decide) rfl (v := .int (gS σ 3 i)) rfl dX1_bytesNotOver_45 (fun _ h => h) ?_
            refine lv_iadd hx hb dX1_bytesNotOver_48 ?_
            refine lv_istore_n (lv' := [(1, .int ((sumI (nF σ) i) + (gS σ 3 i))), (5, .ref (ad i)), (0, .ref ax), (2, .ref ar), (3, .int 32), (4, .int (nI i))]) hx hb dX1_bytesNotOver_49 rfl hl (by decide) rfl (fun ls hl => ?_)
            refine lv_iinc (v := (nI i) + 1) (lv' := [(4, .int ((nI i) + 1)), (1, .int ((sumI (nF σ) i) + (gS σ 3 i))), (5, .ref (ad i)), (0, .ref ax), (2, .ref ar), (3, .int 32)]) hx hb dX1_bytesNotOver_50 hl (k := 5) rfl rfl (by decide) rfl (fun ls hl => ?_)
            refine lv_goto (tgt := 13) hx hb dX1_bytesNotOver_53 (by decide) ?_
            have e9_0 : sumI (nF σ) (i + 1) = (sumI (nF σ) i) + (gS σ 3 i) := by simp [sumI, nF, Int32.add_zero, c_1, c_2, c_3]
            exact ih (i + 1) ls H locs (by omega) (by omega) hP hD hS (by rw [e9_0, nI_succ]; exact lv_sub hl [3, 1, 4, 5, 0] rfl)
  exact loop 33 0 _ _ _ (Nat.zero_le _) (by decide) hP hD hS (lv_sub hl [4, 3, 2, 1, 0] rfl)
end
section
set_option maxHeartbeats 4000000 in
set_option maxRecDepth 100000 in
theorem k_X1_entries (l : Launch) (D : va_G) (ax ar : Nat) (ad : Nat → Nat) (cO : ClassId) (sz : Nat) (σ : St) : Met l yX1_entries wsX1_entries ({ frames := 1, cells := 0, slots := 0, locals := 30 } : Room) (va_Pc [.ref ax] (xPre D (cT cO) xE (cW ax ar ad cO) σ sz)) (va_Qi (fun (r : Int32) (u : St) => r = ents σ ∧ u = σ) (xB D (cT cO) (cW ax ar ad cO) (va_A (cW ax ar ad cO σ) sz)) (va_A (cW ax ar ad cO σ) sz)) 0 0 (va_A (cW ax ar ad cO σ) sz) := by
  refine xOpen (w := (cW ax ar ad cO)) (σ := σ) (cc := cX1_entries) (maxL := 6) (ret := some .int) (QQ := fun A => va_Qi (fun (r : Int32) (u : St) => r = ents σ ∧ u = σ) (xB D (cT cO) (cW ax ar ad cO) A) A) (by decide) rfl (Nat.le_of_ble_eq_true rfl) ?_
  intro p e s m below meth c A hx hb hr hml hown hts hlocks hname hK hE hA hP hD hS ls hl
  have hl : lv_has ls 6 [(0, .ref ax)] := hl
  have hown : s.vm.findClass RX1 = some m.cls := hown
  have hi0 : ∀ w ∈ wsX00, w ∈ wsX1_entries := (fun _ h => List.mem_cons_of_mem _ (List.mem_append_right _ h))
  have hi1 : ∀ w ∈ wsX10, w ∈ wsX1_entries := (fun _ h => List.mem_cons_of_mem _ (List.mem_append_left _ (List.mem_append_right _ h)))
  generalize hH : s.heap = H at hP
  have hS : va_S A s.heap H [] := by rw [← hH]; exact va_S.rf
  generalize hlo : ([] : List Loc) = locs at hS
  refine lv_iconst (v := 0) hx hb dX1_entries_0 (by decide) ?_
  refine lv_istore_n (lv' := [(1, .int 0), (0, .ref ax)]) hx hb dX1_entries_1 rfl hl (by decide) rfl (fun ls hl => ?_)
  refine lv_aload_n hx hb dX1_entries_2 rfl (lv_at hl 1 rfl) ?_
  refine c_get hx hb hts hi1 hown hK hP 0 (by decide) (List.mem_of_getElem? (i := 1) rfl) (v := .ref ar) rfl dX1_entries_3 (fun _ h => h) ?_
  refine lv_astore_n (lv' := [(2, .ref ar), (1, .int 0), (0, .ref ax)]) hx hb dX1_entries_6 rfl hl (by decide) rfl (fun ls hl => ?_)
  refine lv_aload_n hx hb dX1_entries_7 rfl (lv_at hl 0 rfl) ?_
  refine c_alen hx hb hK hP dX1_entries_8 ?_
  refine lv_istore_n (lv' := [(3, .int 32), (2, .ref ar), (1, .int 0), (0, .ref ax)]) hx hb dX1_entries_9 rfl hl (by decide) rfl (fun ls hl => ?_)
  refine lv_iconst (v := 0) hx hb dX1_entries_10 (by decide) ?_
  refine lv_istore (lv' := [(4, .int 0), (3, .int 32), (2, .ref ar), (1, .int 0), (0, .ref ax)]) hx hb dX1_entries_11 hl (by decide) rfl (fun ls hl => ?_)
  have loop : ∀ (n i : Nat) (ls : Array Slot), i ≤ 32 → 32 - i < n → lv_has ls 6 [(0, .ref ax), (1, .int (sumI (eF σ) i)), (2, .ref ar), (3, .int 32), (4, .int (nI i))] → W p l e (headSpec wsX1_entries ({ frames := 1, cells := 0, slots := 0, locals := 30 } : Room)).room s m [.ref ax].toArray below meth c H locs 0 0 (MQ below (va_Qi (fun (r : Int32) (u : St) => r = ents σ ∧ u = σ) (xB D (cT cO) (cW ax ar ad cO) A) A) [.ref ax].toArray s 0 0 A) (F0 m 13 ls []) := by
    intro n
    induction n with
    | zero =>
      intro i ls h1 h2
      exact absurd h2 (by omega)
    | succ n ih =>
      intro i ls hi hn hl
      refine lv_iload hx hb dX1_entries_13 (lv_at hl 4 rfl) ?_
      refine lv_iload_n hx hb dX1_entries_15 rfl (lv_at hl 3 rfl) ?_
      refine x_icmp_ge (tgt := 42) hx hb dX1_entries_16 (by decide) (fun c_1 => ?_) (fun c_1 => ?_)
      · have hi9 : i = 32 := by
          rcases Nat.lt_or_ge i 32 with q | q
          · exact absurd ((nI_lt32 hi).mpr q) c_1
          · omega
        subst hi9
        refine lv_iload_n hx hb dX1_entries_42 rfl (lv_at hl 1 rfl) ?_
        exact x_iret hx hb hr hlocks hK (σ) hP hD hS ⟨rfl, rfl⟩ dX1_entries_43
      · have hlt : i < 32 := (nI_lt32 hi).mp c_1
        refine lv_aload_n hx hb dX1_entries_19 rfl (lv_at hl 2 rfl) ?_
        refine lv_iload hx hb dX1_entries_20 (lv_at hl 4 rfl) ?_
        refine c_aald hx hb hK hP hlt dX1_entries_22 ?_
        refine lv_astore (lv' := [(5, .ref (ad i)), (0, .ref ax), (1, .int (sumI (eF σ) i)), (2, .ref ar), (3, .int 32), (4, .int (nI i))]) hx hb dX1_entries_23 hl (by decide) rfl (fun ls hl => ?_)
        refine lv_aload hx hb dX1_entries_25 (lv_at hl 0 rfl) ?_
        refine s_get hx hb hts hi0 hown hK hE hP hlt 1 (by decide) rfl (v := .int (bI (gB σ 1 i))) rfl dX1_entries_27 (fun _ h => h) ?_
        refine x_ifeq (tgt := 36) hx hb dX1_entries_30 (by decide) (fun c_2 => ?_) (fun c_2 => ?_)
        · refine lv_iinc (v := (nI i) + 1) (lv' := [(4, .int ((nI i) + 1)), (5, .ref (ad i)), (0, .ref ax), (1, .int (sumI (eF σ) i)), (2, .ref ar), (3, .int 32)]) hx hb dX1_entries_36 hl (k := 5) rfl rfl (by decide) rfl (fun ls hl => ?_)
          refine lv_goto (tgt := 13) hx hb dX1_entries_39 (by decide) ?_
          have e9_0 : sumI (eF σ) (i + 1) = sumI (eF σ) i := by simp [sumI, eF, Int32.add_zero, c_1, c_2]
          exact ih (i + 1) ls (by omega) (by omega) (by rw [e9_0, nI_succ]; exact lv_sub hl [2, 3, 4, 5, 0] rfl)
        · refine lv_iinc (v := (sumI (eF σ) i) + 1) (lv' := [(1, .int ((sumI (eF σ) i) + 1)), (5, .ref (ad i)), (0, .ref ax), (2, .ref ar), (3, .int 32), (4, .int (nI i))]) hx hb dX1_entries_33 hl (k := 2) rfl rfl (by decide) rfl (fun ls hl => ?_)
          refine lv_iinc (v := (nI i) + 1) (lv' := [(4, .int ((nI i) + 1)), (1, .int ((sumI (eF σ) i) + 1)), (5, .ref (ad i)), (0, .ref ax), (2, .ref ar), (3, .int 32)]) hx hb dX1_entries_36 hl (k := 5) rfl rfl (by decide) rfl (fun ls hl => ?_)
          refine lv_goto (tgt := 13) hx hb dX1_entries_39 (by decide) ?_
          have e9_0 : sumI (eF σ) (i + 1) = (sumI (eF σ) i) + 1 := by simp [sumI, eF, Int32.add_zero, c_1, c_2]
          exact ih (i + 1) ls (by omega) (by omega) (by rw [e9_0, nI_succ]; exact lv_sub hl [3, 1, 4, 5, 0] rfl)
  exact loop 33 0 _ (Nat.zero_le _) (by decide) (lv_sub hl [4, 3, 2, 1, 0] rfl)
set_option maxHeartbeats 4000000 in
set_option maxRecDepth 100000 in
theorem k_X1_removeAllOver (l : Launch) (D : va_G) (ax ar : Nat) (ad : Nat → Nat) (cO : ClassId) (sz : Nat) (σ : St) : Met l yX1_removeAllOver wsX1_removeAllOver ({ frames := 1, cells := 0, slots := 0, locals := 30 } : Room) (va_Pc [.ref ax] (xPre D (cT cO) xE (cW ax ar ad cO) σ sz)) (va_Qi (fun (r : Int32) (u : St) => r = rmC σ 32 ∧ u = rmO σ) (xB D (cT cO) (cW ax ar ad cO) (va_A (cW ax ar ad cO σ) sz)) (va_A (cW ax ar ad cO σ) sz)) 0 0 (va_A (cW ax ar ad cO σ) sz) := by
  refine xOpen (w := (cW ax ar ad cO)) (σ := σ) (cc := cX1_removeAllOver) (maxL := 6) (ret := some .int) (QQ := fun A => va_Qi (fun (r : Int32) (u : St) => r = rmC σ 32 ∧ u = rmO σ) (xB D (cT cO) (cW ax ar ad cO) A) A) (by decide) rfl (Nat.le_of_ble_eq_true rfl) ?_
  intro p e s m below meth c A hx hb hr hml hown hts hlocks hname hK hE hA hP hD hS ls hl
  have hl : lv_has ls 6 [(0, .ref ax)] := hl
  have hown : s.vm.findClass RX1 = some m.cls := hown
  have hi0 : ∀ w ∈ wsX00, w ∈ wsX1_removeAllOver := (fun _ h => List.mem_cons_of_mem _ (List.mem_append_right _ h))
  have hi1 : ∀ w ∈ wsX10, w ∈ wsX1_removeAllOver := (fun _ h => List.mem_cons_of_mem _ (List.mem_append_left _ (List.mem_append_right _ h)))
  generalize hH : s.heap = H at hP
  have hS : va_S A s.heap H [] := by rw [← hH]; exact va_S.rf
  generalize hlo : ([] : List Loc) = locs at hS
  refine lv_iconst (v := 0) hx hb dX1_removeAllOver_0 (by decide) ?_
  refine lv_istore_n (lv' := [(1, .int 0), (0, .ref ax)]) hx hb dX1_removeAllOver_1 rfl hl (by decide) rfl (fun ls hl => ?_)
  refine lv_aload_n hx hb dX1_removeAllOver_2 rfl (lv_at hl 1 rfl) ?_
  refine c_get hx hb hts hi1 hown hK hP 0 (by decide) (List.mem_of_getElem? (i := 1) rfl) (v := .ref ar) rfl dX1_removeAllOver_3 (fun _ h => h) ?_
  refine lv_astore_n (lv' := [(2, .ref ar), (1, .int 0), (0, .ref ax)]) hx hb dX1_removeAllOver_6 rfl hl (by decide) rfl (fun ls hl => ?_)
  refine lv_aload_n hx hb dX1_removeAllOver_7 rfl (lv_at hl 0 rfl) ?_
  refine c_alen hx hb hK hP dX1_removeAllOver_8 ?_
  refine lv_istore_n (lv' := [(3, .int 32), (2, .ref ar), (1, .int 0), (0, .ref ax)]) hx hb dX1_removeAllOver_9 rfl hl (by decide) rfl (fun ls hl => ?_)
  refine lv_iconst (v := 0) hx hb dX1_removeAllOver_10 (by decide) ?_
  refine lv_istore (lv' := [(4, .int 0), (3, .int 32), (2, .ref ar), (1, .int 0), (0, .ref ax)]) hx hb dX1_removeAllOver_11 hl (by decide) rfl (fun ls hl => ?_)
  have loop : ∀ (n i : Nat) (ls : Array Slot) (H : Heap) (locs : List Loc), i ≤ 32 → 32 - i < n → va_P D vwCl (cW ax ar ad cO (rmS σ i)) H → va_D A (cW ax ar ad cO (rmS σ i)) → va_S A s.heap H locs → lv_has ls 6 [(0, .ref ax), (1, .int (rmC σ i)), (2, .ref ar), (3, .int 32), (4, .int (nI i))] → W p l e (headSpec wsX1_removeAllOver ({ frames := 1, cells := 0, slots := 0, locals := 30 } : Room)).room s m [.ref ax].toArray below meth c H locs 0 0 (MQ below (va_Qi (fun (r : Int32) (u : St) => r = rmC σ 32 ∧ u = rmO σ) (xB D (cT cO) (cW ax ar ad cO) A) A) [.ref ax].toArray s 0 0 A) (F0 m 13 ls []) := by
    intro n
    induction n with
    | zero =>
      intro i ls H locs h1 h2
      exact absurd h2 (by omega)
    | succ n ih =>
      intro i ls H locs hi hn hP hD hS hl
      refine lv_iload hx hb dX1_removeAllOver_13 (lv_at hl 4 rfl) ?_
      refine lv_iload_n hx hb dX1_removeAllOver_15 rfl (lv_at hl 3 rfl) ?_
      refine x_icmp_ge (tgt := 57) hx hb dX1_removeAllOver_16 (by decide) (fun c_1 => ?_) (fun c_1 => ?_)
      · have hi9 : i = 32 := by
          rcases Nat.lt_or_ge i 32 with q | q
          · exact absurd ((nI_lt32 hi).mpr q) c_1
          · omega
        subst hi9
        refine lv_aload_n hx hb dX1_removeAllOver_57 rfl (lv_at hl 0 rfl) ?_
        refine lv_dup hx hb dX1_removeAllOver_58 rfl ?_
        refine c_get hx hb hts hi1 hown hK hP 12 (by decide) (List.mem_of_getElem? (i := 2) rfl) (v := .int (gI (rmS σ 32) 12)) rfl dX1_removeAllOver_59 (fun _ h => h) ?_
        refine lv_iload_n hx hb dX1_removeAllOver_62 rfl (lv_at hl 1 rfl) ?_
        refine lv_iadd hx hb dX1_removeAllOver_63 ?_
        refine c_put hx hb hts hi1 hown hK hP hD hS 12 (by decide) (List.mem_of_getElem? (i := 2) rfl) (v := .int ((gI (rmS σ 32) 12) + (rmC σ 32))) (ty := .int) (uI (rmS σ 32) 12 ((gI (rmS σ 32) 12) + (rmC σ 32))) (cF_uI ar (rmS σ 32) ((gI (rmS σ 32) 12) + (rmC σ 32))).2.2.2.2.2.2 (fun _ => sF_uI _ _ _ _) (by decide) rfl (by decide +kernel) rfl rfl dX1_removeAllOver_64 (fun _ h => h) (fun H locs hP hD hS => ?_)
        refine lv_iload_n hx hb dX1_removeAllOver_67 rfl (lv_at hl 1 rfl) ?_
        exact x_iret hx hb hr hlocks hK (uI (rmS σ 32) 12 ((gI (rmS σ 32) 12) + (rmC σ 32))) hP hD hS ⟨rfl, rfl⟩ dX1_removeAllOver_68
      · have hlt : i < 32 := (nI_lt32 hi).mp c_1
        refine lv_aload_n hx hb dX1_removeAllOver_19 rfl (lv_at hl 2 rfl) ?_
        refine lv_iload hx hb dX1_removeAllOver_20 (lv_at hl 4 rfl) ?_
        refine c_aald hx hb hK hP hlt dX1_removeAllOver_22 ?_
        refine lv_astore (lv' := [(5, .ref (ad i)), (0, .ref ax), (1, .int (rmC σ i)), (2, .ref ar), (3, .int 32), (4, .int (nI i))]) hx hb dX1_removeAllOver_23 hl (by decide) rfl (fun ls hl => ?_)
        refine lv_aload hx hb dX1_removeAllOver_25 (lv_at hl 0 rfl) ?_
        refine s_get hx hb hts hi0 hown hK hE hP hlt 1 (by decide) rfl (v := .int (bI (gB (rmS σ i) 1 i))) rfl dX1_removeAllOver_27 (fun _ h => h) ?_
        refine x_ifeq (tgt := 51) hx hb dX1_removeAllOver_30 (by decide) (fun c_2 => ?_) (fun c_2 => ?_)
        · refine lv_iinc (v := (nI i) + 1) (lv' := [(4, .int ((nI i) + 1)), (5, .ref (ad i)), (0, .ref ax), (1, .int (rmC σ i)), (2, .ref ar), (3, .int 32)]) hx hb dX1_removeAllOver_51 hl (k := 5) rfl rfl (by decide) rfl (fun ls hl => ?_)
          refine lv_goto (tgt := 13) hx hb dX1_removeAllOver_54 (by decide) ?_
          have e9_0 : rmS σ (i + 1) = rmS σ i := by simp [rmS, c_1, c_2]
          have e9_1 : rmC σ (i + 1) = rmC σ i := by simp [rmC, c_1, c_2]
          exact ih (i + 1) ls H locs (by omega) (by omega) (by rw [e9_0]; exact hP) (by rw [e9_0]; exact hD) hS (by rw [e9_1, nI_succ]; exact lv_sub hl [2, 3, 4, 5, 0] rfl)
        · refine lv_aload_n hx hb dX1_removeAllOver_33 rfl (lv_at hl 1 rfl) ?_
          refine lv_aload hx hb dX1_removeAllOver_34 (lv_at hl 0 rfl) ?_
          refine x_calli (va_runV (As := [.ref (ad i)]) (rest := []) ⟨hx, hb, hml, hown, hts⟩ (k_X1_hasEnded l D ax ar ad cO H.size (rmS σ i) hlt) (cwV 1 hts gX1_removeAllOver_X1_hasEnded rfl rfl rfl (by decide +kernel) ⟨Nat.le_of_ble_eq_true rfl, Nat.le_of_ble_eq_true rfl⟩) (xPreV xE_ok hE hK hA hP hD hS (q0 := 0) (ci := 1) rfl rfl rfl) rfl rfl hl.1 rfl (lv_room (Nat.le_of_ble_eq_true rfl)) dX1_removeAllOver_36 ⟨Nat.le_of_ble_eq_true rfl, Nat.le_of_ble_eq_true rfl⟩) hD hS hA (fun r u H locs hp hP hD hS => ?_)
          obtain ⟨rfl, hu9⟩ := hp
          rw [hu9] at hP hD
          refine x_ifeq (tgt := 51) hx hb dX1_removeAllOver_39 (by decide) (fun c_3 => ?_) (fun c_3 => ?_)
          · refine lv_iinc (v := (nI i) + 1) (lv' := [(4, .int ((nI i) + 1)), (5, .ref (ad i)), (0, .ref ax), (1, .int (rmC σ i)), (2, .ref ar), (3, .int 32)]) hx hb dX1_removeAllOver_51 hl (k := 5) rfl rfl (by decide) rfl (fun ls hl => ?_)
            refine lv_goto (tgt := 13) hx hb dX1_removeAllOver_54 (by decide) ?_
            have e9_0 : rmS σ (i + 1) = rmS σ i := by simp [rmS, c_1, c_2, c_3]
            have e9_1 : rmC σ (i + 1) = rmC σ i := by simp [rmC, c_1, c_2, c_3]
            exact ih (i + 1) ls H locs (by omega) (by omega) (by rw [e9_0]; exact hP) (by rw [e9_0]; exact hD) hS (by rw [e9_1, nI_succ]; exact lv_sub hl [2, 3, 4, 5, 0] rfl)
          · refine lv_aload hx hb dX1_removeAllOver_42 (lv_at hl 0 rfl) ?_
            refine lv_iconst (v := 0) hx hb dX1_removeAllOver_44 (by decide) ?_
            refine s_put hx hb hts hi0 hown hK hE hP hD hS hlt 1 (by decide) rfl (v := .int (bI false)) (ty := .boolean) (uB (rmS σ i) 1 i false) ((sF_self (rmS σ i) i).2.2.2.2.2.2.1 _) (fun i9 hi9 => (sF_other (rmS σ i) hi9).2.2.2.2.2.2.1 _) (cF_uB _ _ _ _ _) rfl (by decide +kernel) (bI_nar _) (bI_fit _) dX1_removeAllOver_45 (fun _ h => h) (fun H locs hP hD hS => ?_)
            refine lv_iinc (v := (rmC σ i) + 1) (lv' := [(1, .int ((rmC σ i) + 1)), (5, .ref (ad i)), (0, .ref ax), (2, .ref ar), (3, .int 32), (4, .int (nI i))]) hx hb dX1_removeAllOver_48 hl (k := 2) rfl rfl (by decide) rfl (fun ls hl => ?_)
            refine lv_iinc (v := (nI i) + 1) (lv' := [(4, .int ((nI i) + 1)), (1, .int ((rmC σ i) + 1)), (5, .ref (ad i)), (0, .ref ax), (2, .ref ar), (3, .int 32)]) hx hb dX1_removeAllOver_51 hl (k := 5) rfl rfl (by decide) rfl (fun ls hl => ?_)
            refine lv_goto (tgt := 13) hx hb dX1_removeAllOver_54 (by decide) ?_
            have e9_0 : rmS σ (i + 1) = uB (rmS σ i) 1 i false := by simp [rmS, c_1, c_2, c_3]
            have e9_1 : rmC σ (i + 1) = (rmC σ i) + 1 := by simp [rmC, c_1, c_2, c_3]
            exact ih (i + 1) ls H locs (by omega) (by omega) (by rw [e9_0]; exact hP) (by rw [e9_0]; exact hD) hS (by rw [e9_1, nI_succ]; exact lv_sub hl [3, 1, 4, 5, 0] rfl)
  exact loop 33 0 _ _ _ (Nat.zero_le _) (by decide) hP hD hS (lv_sub hl [4, 3, 2, 1, 0] rfl)
set_option maxHeartbeats 4000000 in
set_option maxRecDepth 100000 in
theorem k_X1_nextInOrder (l : Launch) (D : va_G) (ax ar : Nat) (ad : Nat → Nat) (cO : ClassId) (sz : Nat) (σ : St) (b : Option Nat) (hb32 : ∀ k, b = some k → k < 32) : Met l yX1_nextInOrder wsX1_nextInOrder ({ frames := 1, cells := 0, slots := 0, locals := 30 } : Room) (va_Pc [.ref ax, va_rf ((b).map ad)] (xPre D (cT cO) xE (cW ax ar ad cO) σ sz)) (va_Qq (fun (r : Option Nat) (u : St) => r = (nxt σ b).map ad ∧ u = σ) (xB D (cT cO) (cW ax ar ad cO) (va_A (cW ax ar ad cO σ) sz)) (va_A (cW ax ar ad cO σ) sz)) 0 0 (va_A (cW ax ar ad cO σ) sz) := by
  refine xOpen (w := (cW ax ar ad cO)) (σ := σ) (cc := cX1_nextInOrder) (maxL := 8) (ret := some (.object "WorthCache$Slot")) (QQ := fun A => va_Qq (fun (r : Option Nat) (u : St) => r = (nxt σ b).map ad ∧ u = σ) (xB D (cT cO) (cW ax ar ad cO) A) A) (by decide) rfl (by cases b <;> exact Nat.le_of_ble_eq_true rfl) ?_
  intro p e s m below meth c A hx hb hr hml hown hts hlocks hname hK hE hA hP hD hS ls hl
  have hl : lv_has ls 8 [(0, .ref ax), (1, va_rf ((b).map ad))] := hl
  have hown : s.vm.findClass RX1 = some m.cls := hown
  have hi0 : ∀ w ∈ wsX00, w ∈ wsX1_nextInOrder := (fun _ h => List.mem_cons_of_mem _ (List.mem_append_right _ h))
  have hi1 : ∀ w ∈ wsX10, w ∈ wsX1_nextInOrder := (fun _ h => List.mem_cons_of_mem _ (List.mem_append_left _ (List.mem_append_right _ h)))
  generalize hH : s.heap = H at hP
  have hS : va_S A s.heap H [] := by rw [← hH]; exact va_S.rf
  generalize hlo : ([] : List Loc) = locs at hS
  refine lv_null hx hb dX1_nextInOrder_0 ?_
  refine lv_astore_nN (lv' := [(2, .null), (0, .ref ax), (1, va_rf ((b).map ad))]) hx hb dX1_nextInOrder_1 rfl hl (by decide) (by cases (b) <;> rfl) (fun ls hl => ?_)
  refine lv_aload_n hx hb dX1_nextInOrder_2 rfl (lv_at hl 1 rfl) ?_
  refine c_get hx hb hts hi1 hown hK hP 0 (by decide) (List.mem_of_getElem? (i := 1) rfl) (v := .ref ar) rfl dX1_nextInOrder_3 (fun _ h => h) ?_
  refine lv_astore_n (lv' := [(3, .ref ar), (2, .null), (0, .ref ax), (1, va_rf ((b).map ad))]) hx hb dX1_nextInOrder_6 rfl hl (by decide) rfl (fun ls hl => ?_)
  refine lv_aload_n hx hb dX1_nextInOrder_7 rfl (lv_at hl 0 rfl) ?_
  refine c_alen hx hb hK hP dX1_nextInOrder_8 ?_
  refine lv_istore (lv' := [(4, .int 32), (3, .ref ar), (2, .null), (0, .ref ax), (1, va_rf ((b).map ad))]) hx hb dX1_nextInOrder_9 hl (by decide) rfl (fun ls hl => ?_)
  refine lv_iconst (v := 0) hx hb dX1_nextInOrder_11 (by decide) ?_
  refine lv_istore (lv' := [(5, .int 0), (4, .int 32), (3, .ref ar), (2, .null), (0, .ref ax), (1, va_rf ((b).map ad))]) hx hb dX1_nextInOrder_12 hl (by decide) rfl (fun ls hl => ?_)
  have loop : ∀ (n i : Nat) (ls : Array Slot) (H : Heap) (locs : List Loc), i ≤ 32 → 32 - i < n → va_P D vwCl (cW ax ar ad cO (σ)) H → va_D A (cW ax ar ad cO (σ)) → va_S A s.heap H locs → lv_has ls 8 [(0, .ref ax), (1, va_rf ((b).map ad)), (2, va_rf ((nxtR σ b i).map ad)), (3, .ref ar), (4, .int 32), (5, .int (nI i))] → W p l e (headSpec wsX1_nextInOrder ({ frames := 1, cells := 0, slots := 0, locals := 30 } : Room)).room s m [.ref ax, va_rf ((b).map ad)].toArray below meth c H locs 0 0 (MQ below (va_Qq (fun (r : Option Nat) (u : St) => r = (nxt σ b).map ad ∧ u = σ) (xB D (cT cO) (cW ax ar ad cO) A) A) [.ref ax, va_rf ((b).map ad)].toArray s 0 0 A) (F0 m 14 ls []) := by
    intro n
    induction n with
    | zero =>
      intro i ls H locs h1 h2
      exact absurd h2 (by omega)
    | succ n ih =>
      intro i ls H locs hi hn hP hD hS hl
      refine lv_iload hx hb dX1_nextInOrder_14 (lv_at hl 5 rfl) ?_
      refine lv_iload hx hb dX1_nextInOrder_16 (lv_at hl 4 rfl) ?_
      refine x_icmp_ge (tgt := 82) hx hb dX1_nextInOrder_18 (by decide) (fun c_1 => ?_) (fun c_1 => ?_)
      · have hi9 : i = 32 := by
          rcases Nat.lt_or_ge i 32 with q | q
          · exact absurd ((nI_lt32 hi).mpr q) c_1
          · omega
        subst hi9
        refine x_aload_nQ hx hb dX1_nextInOrder_82 rfl (lv_at hl 2 rfl) ?_
        exact x_qret (r := (nxtR σ b 32).map ad) hx hb hr hlocks hK (σ) hP hD hS ⟨rfl, rfl⟩ dX1_nextInOrder_83
      · have hlt : i < 32 := (nI_lt32 hi).mp c_1
        refine lv_aload_n hx hb dX1_nextInOrder_21 rfl (lv_at hl 3 rfl) ?_
        refine lv_iload hx hb dX1_nextInOrder_22 (lv_at hl 5 rfl) ?_
        refine c_aald hx hb hK hP hlt dX1_nextInOrder_24 ?_
        refine lv_astore (lv' := [(6, .ref (ad i)), (0, .ref ax), (1, va_rf ((b).map ad)), (2, va_rf ((nxtR σ b i).map ad)), (3, .ref ar), (4, .int 32), (5, .int (nI i))]) hx hb dX1_nextInOrder_25 hl (by decide) rfl (fun ls hl => ?_)
        refine x_aload_nQ hx hb dX1_nextInOrder_27 rfl (lv_at hl 2 rfl) ?_
        refine x_ifnullQ (tgt := 40) hx hb dX1_nextInOrder_28 (by decide) (fun c_2 => ?_) (fun k_3 c_2 => ?_)
        · refine lv_iconst (v := 1) hx hb dX1_nextInOrder_40 (by decide) ?_
          refine lv_goto (tgt := 45) hx hb dX1_nextInOrder_41 (by decide) ?_
          refine lv_istore (lv' := [(7, .int 1), (6, .ref (ad i)), (0, .ref ax), (1, va_rf ((b).map ad)), (2, va_rf ((nxtR σ b i).map ad)), (3, .ref ar), (4, .int 32), (5, .int (nI i))]) hx hb dX1_nextInOrder_45 hl (by decide) rfl (fun ls hl => ?_)
          refine lv_aload hx hb dX1_nextInOrder_47 (lv_at hl 1 rfl) ?_
          refine x_calli (va_runS (As := [.ref (ad i)]) (rest := []) ⟨hx, hb, hml, hown, hts⟩ (k_X1_isInOrder l D ax ar ad cO H.size σ hlt) (va_cwS 1 hts gX1_nextInOrder_X1_isInOrder rfl rfl rfl (by decide +kernel) ⟨Nat.le_of_ble_eq_true rfl, Nat.le_of_ble_eq_true rfl⟩) (xPreS xE_ok hE hK hA hP hD hS) rfl rfl hl.1 rfl (lv_room (Nat.le_of_ble_eq_true rfl)) dX1_nextInOrder_49 ⟨Nat.le_of_ble_eq_true rfl, Nat.le_of_ble_eq_true rfl⟩) hD hS hA (fun r u H locs hp hP hD hS => ?_)
          obtain ⟨rfl, hu9⟩ := hp
          rw [hu9] at hP hD
          refine x_ifeq (tgt := 76) hx hb dX1_nextInOrder_52 (by decide) (fun c_4 => ?_) (fun c_4 => ?_)
          · refine lv_iinc (v := (nI i) + 1) (lv' := [(5, .int ((nI i) + 1)), (7, .int 1), (6, .ref (ad i)), (0, .ref ax), (1, va_rf ((b).map ad)), (2, va_rf ((nxtR σ b i).map ad)), (3, .ref ar), (4, .int 32)]) hx hb dX1_nextInOrder_76 hl (k := 7) rfl rfl (by decide) rfl (fun ls hl => ?_)
            refine lv_goto (tgt := 14) hx hb dX1_nextInOrder_79 (by decide) ?_
            have e9_0 : nxtR σ b (i + 1) = nxtR σ b i := by rw [nxtR_s]; simp [beh, befO, c_1, c_2, c_4]
            exact ih (i + 1) ls H locs (by omega) (by omega) hP hD hS (by rw [e9_0, nI_succ]; exact lv_sub hl [3, 4, 5, 6, 7, 0] rfl)
          · refine lv_iload hx hb dX1_nextInOrder_55 (lv_at hl 0 rfl) ?_
            refine lv_if_eq (tgt := 76) hx hb dX1_nextInOrder_57 (by decide) (fun c_5 => absurd c_5 (by decide)) (fun _ => ?_)
            refine x_aload_nQ hx hb dX1_nextInOrder_60 rfl (lv_at hl 4 rfl) ?_
            refine x_ifnullQ (tgt := 73) hx hb dX1_nextInOrder_61 (by decide) (fun c_6 => ?_) (fun k_7 c_6 => ?_)
            · refine lv_aload hx hb dX1_nextInOrder_73 (lv_at hl 1 rfl) ?_
              refine lv_astore_n (lv' := [(2, .ref (ad i)), (7, .int 1), (6, .ref (ad i)), (0, .ref ax), (1, va_rf ((b).map ad)), (3, .ref ar), (4, .int 32), (5, .int (nI i))]) hx hb dX1_nextInOrder_75 rfl hl (by decide) (by cases (b) <;> rfl) (fun ls hl => ?_)
              refine lv_iinc (v := (nI i) + 1) (lv' := [(5, .int ((nI i) + 1)), (2, .ref (ad i)), (7, .int 1), (6, .ref (ad i)), (0, .ref ax), (1, va_rf ((b).map ad)), (3, .ref ar), (4, .int 32)]) hx hb dX1_nextInOrder_76 hl (k := 7) rfl rfl (by decide) rfl (fun ls hl => ?_)
              refine lv_goto (tgt := 14) hx hb dX1_nextInOrder_79 (by decide) ?_
              have e9_0 : nxtR σ b (i + 1) = some i := by rw [nxtR_s, c_6]; simp [beh, befO, c_1, c_2, c_4]
              exact ih (i + 1) ls H locs (by omega) (by omega) hP hD hS (by rw [e9_0, nI_succ]; exact lv_sub hl [4, 5, 1, 6, 7, 0] rfl)
            · have hk_7 : k_7 < 32 := Nat.lt_trans (nxtR_lt _ _ _ _ c_6) hlt
              refine lv_aload hx hb dX1_nextInOrder_64 (lv_at hl 1 rfl) ?_
              refine x_aload_nQ hx hb dX1_nextInOrder_66 rfl (lv_at hl 4 rfl) ?_
              refine W.eq (g2 := F0 m 67 ls [.ref (ad k_7), .ref (ad i)]) (by rw [c_6]; rfl) ?_
              refine x_calli (va_runS (As := [.ref (ad i), .ref (ad k_7)]) (rest := []) ⟨hx, hb, hml, hown, hts⟩ (k_X1_leavesBefore l D ax ar ad cO H.size σ hlt hk_7) (va_cwS 2 hts gX1_nextInOrder_X1_leavesBefore rfl rfl rfl (by decide +kernel) ⟨Nat.le_of_ble_eq_true rfl, Nat.le_of_ble_eq_true rfl⟩) (xPreS xE_ok hE hK hA hP hD hS) rfl rfl hl.1 rfl (lv_room (Nat.le_of_ble_eq_true rfl)) dX1_nextInOrder_67 ⟨Nat.le_of_ble_eq_true rfl, Nat.le_of_ble_eq_true rfl⟩) hD hS hA (fun r u H locs hp hP hD hS => ?_)
              obtain ⟨rfl, hu9⟩ := hp
              rw [hu9] at hP hD
              refine x_ifeq (tgt := 76) hx hb dX1_nextInOrder_70 (by decide) (fun c_8 => ?_) (fun c_8 => ?_)
              · refine lv_iinc (v := (nI i) + 1) (lv' := [(5, .int ((nI i) + 1)), (7, .int 1), (6, .ref (ad i)), (0, .ref ax), (1, va_rf ((b).map ad)), (2, va_rf ((nxtR σ b i).map ad)), (3, .ref ar), (4, .int 32)]) hx hb dX1_nextInOrder_76 hl (k := 7) rfl rfl (by decide) rfl (fun ls hl => ?_)
                refine lv_goto (tgt := 14) hx hb dX1_nextInOrder_79 (by decide) ?_
                have e9_0 : nxtR σ b (i + 1) = nxtR σ b i := by rw [nxtR_s, c_6]; simp [beh, befO, c_1, c_2, c_4, c_8]
                exact ih (i + 1) ls H locs (by omega) (by omega) hP hD hS (by rw [e9_0, nI_succ]; exact lv_sub hl [3, 4, 5, 6, 7, 0] rfl)
              · refine lv_aload hx hb dX1_nextInOrder_73 (lv_at hl 1 rfl) ?_
                refine lv_astore_n (lv' := [(2, .ref (ad i)), (7, .int 1), (6, .ref (ad i)), (0, .ref ax), (1, va_rf ((b).map ad)), (3, .ref ar), (4, .int 32), (5, .int (nI i))]) hx hb dX1_nextInOrder_75 rfl hl (by decide) (by cases (b) <;> rfl) (fun ls hl => ?_)
                refine lv_iinc (v := (nI i) + 1) (lv' := [(5, .int ((nI i) + 1)), (2, .ref (ad i)), (7, .int 1), (6, .ref (ad i)), (0, .ref ax), (1, va_rf ((b).map ad)), (3, .ref ar), (4, .int 32)]) hx hb dX1_nextInOrder_76 hl (k := 7) rfl rfl (by decide) rfl (fun ls hl => ?_)
                refine lv_goto (tgt := 14) hx hb dX1_nextInOrder_79 (by decide) ?_
                have e9_0 : nxtR σ b (i + 1) = some i := by rw [nxtR_s, c_6]; simp [beh, befO, c_1, c_2, c_4, c_8]
                exact ih (i + 1) ls H locs (by omega) (by omega) hP hD hS (by rw [e9_0, nI_succ]; exact lv_sub hl [4, 5, 1, 6, 7, 0] rfl)
        · have hk_3 : k_3 < 32 := hb32 _ c_2
          refine x_aload_nQ hx hb dX1_nextInOrder_31 rfl (lv_at hl 2 rfl) ?_
          refine W.eq (g2 := F0 m 32 ls [.ref (ad k_3)]) (by rw [c_2]; rfl) ?_
          refine lv_aload hx hb dX1_nextInOrder_32 (lv_at hl 0 rfl) ?_
          refine x_calli (va_runS (As := [.ref (ad k_3), .ref (ad i)]) (rest := []) ⟨hx, hb, hml, hown, hts⟩ (k_X1_leavesBefore l D ax ar ad cO H.size σ hk_3 hlt) (va_cwS 2 hts gX1_nextInOrder_X1_leavesBefore rfl rfl rfl (by decide +kernel) ⟨Nat.le_of_ble_eq_true rfl, Nat.le_of_ble_eq_true rfl⟩) (xPreS xE_ok hE hK hA hP hD hS) rfl rfl hl.1 rfl (lv_room (Nat.le_of_ble_eq_true rfl)) dX1_nextInOrder_34 ⟨Nat.le_of_ble_eq_true rfl, Nat.le_of_ble_eq_true rfl⟩) hD hS hA (fun r u H locs hp hP hD hS => ?_)
          obtain ⟨rfl, hu9⟩ := hp
          rw [hu9] at hP hD
          refine x_ifeq (tgt := 44) hx hb dX1_nextInOrder_37 (by decide) (fun c_9 => ?_) (fun c_9 => ?_)
          · refine lv_iconst (v := 0) hx hb dX1_nextInOrder_44 (by decide) ?_
            refine lv_istore (lv' := [(7, .int 0), (6, .ref (ad i)), (0, .ref ax), (1, va_rf ((b).map ad)), (2, va_rf ((nxtR σ b i).map ad)), (3, .ref ar), (4, .int 32), (5, .int (nI i))]) hx hb dX1_nextInOrder_45 hl (by decide) rfl (fun ls hl => ?_)
            refine lv_aload hx hb dX1_nextInOrder_47 (lv_at hl 1 rfl) ?_
            refine x_calli (va_runS (As := [.ref (ad i)]) (rest := []) ⟨hx, hb, hml, hown, hts⟩ (k_X1_isInOrder l D ax ar ad cO H.size σ hlt) (va_cwS 1 hts gX1_nextInOrder_X1_isInOrder rfl rfl rfl (by decide +kernel) ⟨Nat.le_of_ble_eq_true rfl, Nat.le_of_ble_eq_true rfl⟩) (xPreS xE_ok hE hK hA hP hD hS) rfl rfl hl.1 rfl (lv_room (Nat.le_of_ble_eq_true rfl)) dX1_nextInOrder_49 ⟨Nat.le_of_ble_eq_true rfl, Nat.le_of_ble_eq_true rfl⟩) hD hS hA (fun r u H locs hp hP hD hS => ?_)
            obtain ⟨rfl, hu9⟩ := hp
            rw [hu9] at hP hD
            refine x_ifeq (tgt := 76) hx hb dX1_nextInOrder_52 (by decide) (fun c_10 => ?_) (fun c_10 => ?_)
            · refine lv_iinc (v := (nI i) + 1) (lv' := [(5, .int ((nI i) + 1)), (7, .int 0), (6, .ref (ad i)), (0, .ref ax), (1, va_rf ((b).map ad)), (2, va_rf ((nxtR σ b i).map ad)), (3, .ref ar), (4, .int 32)]) hx hb dX1_nextInOrder_76 hl (k := 7) rfl rfl (by decide) rfl (fun ls hl => ?_)
              refine lv_goto (tgt := 14) hx hb dX1_nextInOrder_79 (by decide) ?_
              have e9_0 : nxtR σ b (i + 1) = nxtR σ b i := by rw [nxtR_s]; simp [beh, befO, c_1, c_2, c_9, c_10]
              exact ih (i + 1) ls H locs (by omega) (by omega) hP hD hS (by rw [e9_0, nI_succ]; exact lv_sub hl [3, 4, 5, 6, 7, 0] rfl)
            · refine lv_iload hx hb dX1_nextInOrder_55 (lv_at hl 0 rfl) ?_
              refine lv_if_eq (tgt := 76) hx hb dX1_nextInOrder_57 (by decide) (fun _ => ?_) (fun c_11 => absurd (by decide) c_11)
              refine lv_iinc (v := (nI i) + 1) (lv' := [(5, .int ((nI i) + 1)), (7, .int 0), (6, .ref (ad i)), (0, .ref ax), (1, va_rf ((b).map ad)), (2, va_rf ((nxtR σ b i).map ad)), (3, .ref ar), (4, .int 32)]) hx hb dX1_nextInOrder_76 hl (k := 7) rfl rfl (by decide) rfl (fun ls hl => ?_)
              refine lv_goto (tgt := 14) hx hb dX1_nextInOrder_79 (by decide) ?_
              have e9_0 : nxtR σ b (i + 1) = nxtR σ b i := by rw [nxtR_s]; simp [beh, befO, c_1, c_2, c_9, c_10]
              exact ih (i + 1) ls H locs (by omega) (by omega) hP hD hS (by rw [e9_0, nI_succ]; exact lv_sub hl [3, 4, 5, 6, 7, 0] rfl)
          · refine lv_iconst (v := 1) hx hb dX1_nextInOrder_40 (by decide) ?_
            refine lv_goto (tgt := 45) hx hb dX1_nextInOrder_41 (by decide) ?_
            refine lv_istore (lv' := [(7, .int 1), (6, .ref (ad i)), (0, .ref ax), (1, va_rf ((b).map ad)), (2, va_rf ((nxtR σ b i).map ad)), (3, .ref ar), (4, .int 32), (5, .int (nI i))]) hx hb dX1_nextInOrder_45 hl (by decide) rfl (fun ls hl => ?_)
            refine lv_aload hx hb dX1_nextInOrder_47 (lv_at hl 1 rfl) ?_
            refine x_calli (va_runS (As := [.ref (ad i)]) (rest := []) ⟨hx, hb, hml, hown, hts⟩ (k_X1_isInOrder l D ax ar ad cO H.size σ hlt) (va_cwS 1 hts gX1_nextInOrder_X1_isInOrder rfl rfl rfl (by decide +kernel) ⟨Nat.le_of_ble_eq_true rfl, Nat.le_of_ble_eq_true rfl⟩) (xPreS xE_ok hE hK hA hP hD hS) rfl rfl hl.1 rfl (lv_room (Nat.le_of_ble_eq_true rfl)) dX1_nextInOrder_49 ⟨Nat.le_of_ble_eq_true rfl, Nat.le_of_ble_eq_true rfl⟩) hD hS hA (fun r u H locs hp hP hD hS => ?_)
            obtain ⟨rfl, hu9⟩ := hp
            rw [hu9] at hP hD
            refine x_ifeq (tgt := 76) hx hb dX1_nextInOrder_52 (by decide) (fun c_12 => ?_) (fun c_12 => ?_)
            · refine lv_iinc (v := (nI i) + 1) (lv' := [(5, .int ((nI i) + 1)), (7, .int 1), (6, .ref (ad i)), (0, .ref ax), (1, va_rf ((b).map ad)), (2, va_rf ((nxtR σ b i).map ad)), (3, .ref ar), (4, .int 32)]) hx hb dX1_nextInOrder_76 hl (k := 7) rfl rfl (by decide) rfl (fun ls hl => ?_)
              refine lv_goto (tgt := 14) hx hb dX1_nextInOrder_79 (by decide) ?_
              have e9_0 : nxtR σ b (i + 1) = nxtR σ b i := by rw [nxtR_s]; simp [beh, befO, c_1, c_2, c_9, c_12]
              exact ih (i + 1) ls H locs (by omega) (by omega) hP hD hS (by rw [e9_0, nI_succ]; exact lv_sub hl [3, 4, 5, 6, 7, 0] rfl)
            · refine lv_iload hx hb dX1_nextInOrder_55 (lv_at hl 0 rfl) ?_
              refine lv_if_eq (tgt := 76) hx hb dX1_nextInOrder_57 (by decide) (fun c_13 => absurd c_13 (by decide)) (fun _ => ?_)
              refine x_aload_nQ hx hb dX1_nextInOrder_60 rfl (lv_at hl 4 rfl) ?_
              refine x_ifnullQ (tgt := 73) hx hb dX1_nextInOrder_61 (by decide) (fun c_14 => ?_) (fun k_15 c_14 => ?_)
              · refine lv_aload hx hb dX1_nextInOrder_73 (lv_at hl 1 rfl) ?_
                refine lv_astore_n (lv' := [(2, .ref (ad i)), (7, .int 1), (6, .ref (ad i)), (0, .ref ax), (1, va_rf ((b).map ad)), (3, .ref ar), (4, .int 32), (5, .int (nI i))]) hx hb dX1_nextInOrder_75 rfl hl (by decide) (by cases (b) <;> rfl) (fun ls hl => ?_)
                refine lv_iinc (v := (nI i) + 1) (lv' := [(5, .int ((nI i) + 1)), (2, .ref (ad i)), (7, .int 1), (6, .ref (ad i)), (0, .ref ax), (1, va_rf ((b).map ad)), (3, .ref ar), (4, .int 32)]) hx hb dX1_nextInOrder_76 hl (k := 7) rfl rfl (by decide) rfl (fun ls hl => ?_)
                refine lv_goto (tgt := 14) hx hb dX1_nextInOrder_79 (by decide) ?_
                have e9_0 : nxtR σ b (i + 1) = some i := by rw [nxtR_s, c_14]; simp [beh, befO, c_1, c_2, c_9, c_12]
                exact ih (i + 1) ls H locs (by omega) (by omega) hP hD hS (by rw [e9_0, nI_succ]; exact lv_sub hl [4, 5, 1, 6, 7, 0] rfl)
              · have hk_15 : k_15 < 32 := Nat.lt_trans (nxtR_lt _ _ _ _ c_14) hlt
                refine lv_aload hx hb dX1_nextInOrder_64 (lv_at hl 1 rfl) ?_
                refine x_aload_nQ hx hb dX1_nextInOrder_66 rfl (lv_at hl 4 rfl) ?_
                refine W.eq (g2 := F0 m 67 ls [.ref (ad k_15), .ref (ad i)]) (by rw [c_14]; rfl) ?_
                refine x_calli (va_runS (As := [.ref (ad i), .ref (ad k_15)]) (rest := []) ⟨hx, hb, hml, hown, hts⟩ (k_X1_leavesBefore l D ax ar ad cO H.size σ hlt hk_15) (va_cwS 2 hts gX1_nextInOrder_X1_leavesBefore rfl rfl rfl (by decide +kernel) ⟨Nat.le_of_ble_eq_true rfl, Nat.le_of_ble_eq_true rfl⟩) (xPreS xE_ok hE hK hA hP hD hS) rfl rfl hl.1 rfl (lv_room (Nat.le_of_ble_eq_true rfl)) dX1_nextInOrder_67 ⟨Nat.le_of_ble_eq_true rfl, Nat.le_of_ble_eq_true rfl⟩) hD hS hA (fun r u H locs hp hP hD hS => ?_)
                obtain ⟨rfl, hu9⟩ := hp
                rw [hu9] at hP hD
                refine x_ifeq (tgt := 76) hx hb dX1_nextInOrder_70 (by decide) (fun c_16 => ?_) (fun c_16 => ?_)
                · refine lv_iinc (v := (nI i) + 1) (lv' := [(5, .int ((nI i) + 1)), (7, .int 1), (6, .ref (ad i)), (0, .ref ax), (1, va_rf ((b).map ad)), (2, va_rf ((nxtR σ b i).map ad)), (3, .ref ar), (4, .int 32)]) hx hb dX1_nextInOrder_76 hl (k := 7) rfl rfl (by decide) rfl (fun ls hl => ?_)
                  refine lv_goto (tgt := 14) hx hb dX1_nextInOrder_79 (by decide) ?_
                  have e9_0 : nxtR σ b (i + 1) = nxtR σ b i := by rw [nxtR_s, c_14]; simp [beh, befO, c_1, c_2, c_9, c_12, c_16]
                  exact ih (i + 1) ls H locs (by omega) (by omega) hP hD hS (by rw [e9_0, nI_succ]; exact lv_sub hl [3, 4, 5, 6, 7, 0] rfl)
                · refine lv_aload hx hb dX1_nextInOrder_73 (lv_at hl 1 rfl) ?_
                  refine lv_astore_n (lv' := [(2, .ref (ad i)), (7, .int 1), (6, .ref (ad i)), (0, .ref ax), (1, va_rf ((b).map ad)), (3, .ref ar), (4, .int 32), (5, .int (nI i))]) hx hb dX1_nextInOrder_75 rfl hl (by decide) (by cases (b) <;> rfl) (fun ls hl => ?_)
                  refine lv_iinc (v := (nI i) + 1) (lv' := [(5, .int ((nI i) + 1)), (2, .ref (ad i)), (7, .int 1), (6, .ref (ad i)), (0, .ref ax), (1, va_rf ((b).map ad)), (3, .ref ar), (4, .int 32)]) hx hb dX1_nextInOrder_76 hl (k := 7) rfl rfl (by decide) rfl (fun ls hl => ?_)
                  refine lv_goto (tgt := 14) hx hb dX1_nextInOrder_79 (by decide) ?_
                  have e9_0 : nxtR σ b (i + 1) = some i := by rw [nxtR_s, c_14]; simp [beh, befO, c_1, c_2, c_9, c_12, c_16]
                  exact ih (i + 1) ls H locs (by omega) (by omega) hP hD hS (by rw [e9_0, nI_succ]; exact lv_sub hl [4, 5, 1, 6, 7, 0] rfl)
  exact loop 33 0 _ _ _ (Nat.zero_le _) (by decide) hP hD hS (lv_sub hl [4, 5, 3, 2, 1, 0] rfl)
end
section
set_option maxHeartbeats 4000000 in
set_option maxRecDepth 100000 in
theorem k_X1_firstInOrder (l : Launch) (D : va_G) (ax ar : Nat) (ad : Nat → Nat) (cO : ClassId) (sz : Nat) (σ : St) : Met l yX1_firstInOrder wsX1_firstInOrder ({ frames := 2, cells := 0, slots := 0, locals := 60 } : Room) (va_Pc [.ref ax] (xPre D (cT cO) xE (cW ax ar ad cO) σ sz)) (va_Qq (fun (r : Option Nat) (u : St) => r = (nxt σ none).map ad ∧ u = σ) (xB D (cT cO) (cW ax ar ad cO) (va_A (cW ax ar ad cO σ) sz)) (va_A (cW ax ar ad cO σ) sz)) 0 0 (va_A (cW ax ar ad cO σ) sz) := by
  refine xOpen (w := (cW ax ar ad cO)) (σ := σ) (cc := cX1_firstInOrder) (maxL := 1) (ret := some (.object "WorthCache$Slot")) (QQ := fun A => va_Qq (fun (r : Option Nat) (u : St) => r = (nxt σ none).map ad ∧ u = σ) (xB D (cT cO) (cW ax ar ad cO) A) A) (by decide) rfl (Nat.le_of_ble_eq_true rfl) ?_
  intro p e s m below meth c A hx hb hr hml hown hts hlocks hname hK hE hA hP hD hS ls hl
  have hl : lv_has ls 1 [(0, .ref ax)] := hl
  have hown : s.vm.findClass RX1 = some m.cls := hown
  have hi0 : ∀ w ∈ wsX00, w ∈ wsX1_firstInOrder := (fun _ h => List.mem_cons_of_mem _ (List.mem_append_right _ h))
  have hi1 : ∀ w ∈ wsX10, w ∈ wsX1_firstInOrder := (fun _ h => List.mem_cons_of_mem _ (List.mem_append_left _ (List.mem_append_right _ h)))
  generalize hH : s.heap = H at hP
  have hS : va_S A s.heap H [] := by rw [← hH]; exact va_S.rf
  generalize hlo : ([] : List Loc) = locs at hS
  refine lv_aload_n hx hb dX1_firstInOrder_0 rfl (lv_at hl 0 rfl) ?_
  refine lv_null hx hb dX1_firstInOrder_1 ?_
  refine x_callq (va_runV (As := [.null]) (rest := []) ⟨hx, hb, hml, hown, hts⟩ (k_X1_nextInOrder l D ax ar ad cO H.size σ none (fun _ h => nomatch h)) (cwV 1 hts gX1_firstInOrder_X1_nextInOrder rfl rfl rfl (by decide +kernel) ⟨Nat.le_of_ble_eq_true rfl, Nat.le_of_ble_eq_true rfl⟩) (xPreV xE_ok hE hK hA hP hD hS (q0 := 0) (ci := 1) rfl rfl rfl) rfl rfl hl.1 rfl (lv_room (Nat.le_of_ble_eq_true rfl)) dX1_firstInOrder_2 ⟨Nat.le_of_ble_eq_true rfl, Nat.le_of_ble_eq_true rfl⟩) hD hS hA (fun r u H locs hp hP hD hS => ?_)
  obtain ⟨rfl, hu9⟩ := hp
  rw [hu9] at hP hD
  exact x_qret (r := (nxt σ none).map ad) hx hb hr hlocks hK (σ) hP hD hS ⟨rfl, rfl⟩ dX1_firstInOrder_5
set_option maxHeartbeats 4000000 in
set_option maxRecDepth 100000 in
theorem k_X1_setWorth (l : Launch) (D : va_G) (ax ar : Nat) (ad : Nat → Nat) (cO : ClassId) (sz : Nat) (σ : St) {k : Nat} (pr : Int32) (hk : k < 32) : Met l yX1_setWorth wsX1_setWorth ({ frames := 0, cells := 0, slots := 0, locals := 0 } : Room) (va_Pc [.ref ax, .ref (ad k), .int pr] (xPre D (cT cO) xE (cW ax ar ad cO) σ sz)) (va_Qv (fun (u : St) => u = cSetW σ k pr) (xB D (cT cO) (cW ax ar ad cO) (va_A (cW ax ar ad cO σ) sz)) (va_A (cW ax ar ad cO σ) sz)) 0 0 (va_A (cW ax ar ad cO σ) sz) := by
  refine xOpen (w := (cW ax ar ad cO)) (σ := σ) (cc := cX1_setWorth) (maxL := 3) (ret := none) (QQ := fun A => va_Qv (fun (u : St) => u = cSetW σ k pr) (xB D (cT cO) (cW ax ar ad cO) A) A) (by decide) rfl (Nat.le_of_ble_eq_true rfl) ?_
  intro p e s m below meth c A hx hb hr hml hown hts hlocks hname hK hE hA hP hD hS ls hl
  have hl : lv_has ls 3 [(0, .ref ax), (1, .ref (ad k)), (2, .int pr)] := hl
  have hown : s.vm.findClass RX1 = some m.cls := hown
  have hi0 : ∀ w ∈ wsX00, w ∈ wsX1_setWorth := (fun _ h => List.mem_cons_of_mem _ (List.mem_append_right _ h))
  have hi1 : ∀ w ∈ wsX10, w ∈ wsX1_setWorth := (fun _ h => List.mem_cons_of_mem _ (List.mem_append_left _ (List.mem_append_right _ h)))
  generalize hH : s.heap = H at hP
  have hS : va_S A s.heap H [] := by rw [← hH]; exact va_S.rf
  generalize hlo : ([] : List Loc) = locs at hS
  refine lv_aload_n hx hb dX1_setWorth_0 rfl (lv_at hl 0 rfl) ?_
  refine lv_dup hx hb dX1_setWorth_1 rfl ?_
  refine c_get hx hb hts hi1 hown hK hP 5 (by decide) (List.mem_of_getElem? (i := 1) rfl) (v := .long (gL σ 5)) rfl dX1_setWorth_2 (fun _ h => h) ?_
  refine lv_lconst (v := 1) hx hb dX1_setWorth_5 (by decide) ?_
  refine lv_ladd hx hb dX1_setWorth_6 ?_
  refine c_put hx hb hts hi1 hown hK hP hD hS 5 (by decide) (List.mem_of_getElem? (i := 1) rfl) (v := .long ((gL σ 5) + 1)) (ty := .long) (uL σ 5 ((gL σ 5) + 1)) (cF_uL ar σ ((gL σ 5) + 1)).2.1 (fun _ => sF_uL _ _ _ _) (by decide) rfl (by decide +kernel) rfl rfl dX1_setWorth_7 (fun _ h => h) (fun H locs hP hD hS => ?_)
  refine lv_aload_n hx hb dX1_setWorth_10 rfl (lv_at hl 1 rfl) ?_
  refine lv_aload_n hx hb dX1_setWorth_11 rfl (lv_at hl 0 rfl) ?_
  refine c_get hx hb hts hi1 hown hK hP 5 (by decide) (List.mem_of_getElem? (i := 1) rfl) (v := .long ((gL σ 5) + 1)) rfl dX1_setWorth_12 (fun _ h => h) ?_
  refine s_put hx hb hts hi0 hown hK hE hP hD hS hk 7 (by decide) rfl (v := .long ((gL σ 5) + 1)) (ty := .long) (uT (uL σ 5 ((gL σ 5) + 1)) 7 k ((gL σ 5) + 1)) ((sF_self (uL σ 5 ((gL σ 5) + 1)) k).2.2.2.2.2.1 _) (fun i9 hi9 => (sF_other (uL σ 5 ((gL σ 5) + 1)) hi9).2.2.2.2.2.1 _) (cF_uT _ _ _ _ _) rfl (by decide +kernel) rfl rfl dX1_setWorth_15 (fun _ h => h) (fun H locs hP hD hS => ?_)
  refine lv_aload_n hx hb dX1_setWorth_18 rfl (lv_at hl 1 rfl) ?_
  refine lv_aload_n hx hb dX1_setWorth_19 rfl (lv_at hl 1 rfl) ?_
  refine s_get hx hb hts hi0 hown hK hE hP hk 3 (by decide) rfl (v := .int (gS σ 3 k)) rfl dX1_setWorth_20 (fun _ h => h) ?_
  refine lv_iconst (v := 1) hx hb dX1_setWorth_23 (by decide) ?_
  refine x_icmp_ge (tgt := 34) hx hb dX1_setWorth_24 (by decide) (fun c_1 => ?_) (fun c_1 => ?_)
  · have hz9 : ¬ (gS σ 3 k).toInt64 = 0 := fun q => c_1 (by rw [toI64_0 q]; decide)
    refine lv_aload_n hx hb dX1_setWorth_34 rfl (lv_at hl 0 rfl) ?_
    refine c_get hx hb hts hi1 hown hK hP 2 (by decide) (List.mem_of_getElem? (i := 2) rfl) (v := .long (gL σ 2)) rfl dX1_setWorth_35 (fun _ h => h) ?_
    refine lv_ldc2 (v := 1000) hx hb hown (hts _ (List.mem_of_getElem? (i := 3) rfl)) dX1_setWorth_38 ?_
    refine lv_aload_n hx hb dX1_setWorth_41 rfl (lv_at hl 1 rfl) ?_
    refine s_get hx hb hts hi0 hown hK hE hP hk 4 (by decide) rfl (v := .int (gS σ 4 k)) rfl dX1_setWorth_42 (fun _ h => h) ?_
    refine lv_i2l (v := (gS σ 4 k).toInt64) hx hb dX1_setWorth_45 rfl ?_
    refine lv_lmul hx hb dX1_setWorth_46 ?_
    refine lv_iload_n hx hb dX1_setWorth_47 rfl (lv_at hl 2 rfl) ?_
    refine lv_i2l (v := pr.toInt64) hx hb dX1_setWorth_48 rfl ?_
    refine lv_lmul hx hb dX1_setWorth_49 ?_
    refine lv_aload_n hx hb dX1_setWorth_50 rfl (lv_at hl 1 rfl) ?_
    refine s_get hx hb hts hi0 hown hK hE hP hk 3 (by decide) rfl (v := .int (gS σ 3 k)) rfl dX1_setWorth_51 (fun _ h => h) ?_
    refine lv_i2l (v := (gS σ 3 k).toInt64) hx hb dX1_setWorth_54 rfl ?_
    refine lv_ldiv hx hb dX1_setWorth_55 (hz9) ?_
    refine lv_ladd hx hb dX1_setWorth_56 ?_
    refine s_put hx hb hts hi0 hown hK hE hP hD hS hk 6 (by decide) rfl (v := .long ((gL σ 2) + (((1000 * ((gS σ 4 k).toInt64)) * pr.toInt64) / ((gS σ 3 k).toInt64)))) (ty := .long) (uT (uT (uL σ 5 ((gL σ 5) + 1)) 7 k ((gL σ 5) + 1)) 6 k ((gL σ 2) + (((1000 * ((gS σ 4 k).toInt64)) * pr.toInt64) / ((gS σ 3 k).toInt64)))) ((sF_self (uT (uL σ 5 ((gL σ 5) + 1)) 7 k ((gL σ 5) + 1)) k).2.2.2.2.1 _) (fun i9 hi9 => (sF_other (uT (uL σ 5 ((gL σ 5) + 1)) 7 k ((gL σ 5) + 1)) hi9).2.2.2.2.1 _) (cF_uT _ _ _ _ _) rfl (by decide +kernel) rfl rfl dX1_setWorth_57 (fun _ h => h) (fun H locs hP hD hS => ?_)
    exact x_vret hx hb hr hlocks hK (uT (uT (uL σ 5 ((gL σ 5) + 1)) 7 k ((gL σ 5) + 1)) 6 k ((gL σ 2) + (((1000 * ((gS σ 4 k).toInt64)) * pr.toInt64) / ((gS σ 3 k).toInt64)))) hP hD hS (by unfold cSetW; simp [c_1]) dX1_setWorth_60
  · refine lv_aload_n hx hb dX1_setWorth_27 rfl (lv_at hl 0 rfl) ?_
    refine c_get hx hb hts hi1 hown hK hP 2 (by decide) (List.mem_of_getElem? (i := 2) rfl) (v := .long (gL σ 2)) rfl dX1_setWorth_28 (fun _ h => h) ?_
    refine lv_goto (tgt := 57) hx hb dX1_setWorth_31 (by decide) ?_
    refine s_put hx hb hts hi0 hown hK hE hP hD hS hk 6 (by decide) rfl (v := .long (gL σ 2)) (ty := .long) (uT (uT (uL σ 5 ((gL σ 5) + 1)) 7 k ((gL σ 5) + 1)) 6 k (gL σ 2)) ((sF_self (uT (uL σ 5 ((gL σ 5) + 1)) 7 k ((gL σ 5) + 1)) k).2.2.2.2.1 _) (fun i9 hi9 => (sF_other (uT (uL σ 5 ((gL σ 5) + 1)) 7 k ((gL σ 5) + 1)) hi9).2.2.2.2.1 _) (cF_uT _ _ _ _ _) rfl (by decide +kernel) rfl rfl dX1_setWorth_57 (fun _ h => h) (fun H locs hP hD hS => ?_)
    exact x_vret hx hb hr hlocks hK (uT (uT (uL σ 5 ((gL σ 5) + 1)) 7 k ((gL σ 5) + 1)) 6 k (gL σ 2)) hP hD hS (by unfold cSetW; simp [c_1]) dX1_setWorth_60
set_option maxHeartbeats 4000000 in
set_option maxRecDepth 100000 in
theorem k_X1_hit (l : Launch) (D : va_G) (ax ar : Nat) (ad : Nat → Nat) (cO : ClassId) (sz : Nat) (σ : St) {k : Nat} (pr : Int32) (hk : k < 32) : Met l yX1_hit wsX1_hit ({ frames := 1, cells := 0, slots := 0, locals := 40 } : Room) (va_Pc [.ref ax, .ref (ad k), .int pr] (xPre D (cT cO) xE (cW ax ar ad cO) σ sz)) (va_Qv (fun (u : St) => u = cHit σ k pr) (xB D (cT cO) (cW ax ar ad cO) (va_A (cW ax ar ad cO σ) sz)) (va_A (cW ax ar ad cO σ) sz)) 0 0 (va_A (cW ax ar ad cO σ) sz) := by
  refine xOpen (w := (cW ax ar ad cO)) (σ := σ) (cc := cX1_hit) (maxL := 3) (ret := none) (QQ := fun A => va_Qv (fun (u : St) => u = cHit σ k pr) (xB D (cT cO) (cW ax ar ad cO) A) A) (by decide) rfl (Nat.le_of_ble_eq_true rfl) ?_
  intro p e s m below meth c A hx hb hr hml hown hts hlocks hname hK hE hA hP hD hS ls hl
  have hl : lv_has ls 3 [(0, .ref ax), (1, .ref (ad k)), (2, .int pr)] := hl
  have hown : s.vm.findClass RX1 = some m.cls := hown
  have hi0 : ∀ w ∈ wsX00, w ∈ wsX1_hit := (fun _ h => List.mem_cons_of_mem _ (List.mem_append_left _ (List.mem_append_right _ h)))
  have hi1 : ∀ w ∈ wsX10, w ∈ wsX1_hit := (fun _ h => List.mem_cons_of_mem _ (List.mem_append_right _ h))
  generalize hH : s.heap = H at hP
  have hS : va_S A s.heap H [] := by rw [← hH]; exact va_S.rf
  generalize hlo : ([] : List Loc) = locs at hS
  refine lv_aload_n hx hb dX1_hit_0 rfl (lv_at hl 1 rfl) ?_
  refine lv_dup hx hb dX1_hit_1 rfl ?_
  refine s_get hx hb hts hi0 hown hK hE hP hk 4 (by decide) rfl (v := .int (gS σ 4 k)) rfl dX1_hit_2 (fun _ h => h) ?_
  refine lv_iconst (v := 1) hx hb dX1_hit_5 (by decide) ?_
  refine lv_iadd hx hb dX1_hit_6 ?_
  refine s_put hx hb hts hi0 hown hK hE hP hD hS hk 4 (by decide) rfl (v := .int ((gS σ 4 k) + 1)) (ty := .int) (uS σ 4 k ((gS σ 4 k) + 1)) ((sF_self σ k).2.1 _) (fun i9 hi9 => (sF_other σ hi9).2.1 _) (cF_uS _ _ _ _ _) rfl (by decide +kernel) rfl rfl dX1_hit_7 (fun _ h => h) (fun H locs hP hD hS => ?_)
  refine lv_aload_n hx hb dX1_hit_10 rfl (lv_at hl 0 rfl) ?_
  refine lv_aload_n hx hb dX1_hit_11 rfl (lv_at hl 1 rfl) ?_
  refine lv_iload_n hx hb dX1_hit_12 rfl (lv_at hl 2 rfl) ?_
  refine x_callv (va_runV (As := [.ref (ad k), .int pr]) (rest := []) ⟨hx, hb, hml, hown, hts⟩ (k_X1_setWorth l D ax ar ad cO H.size (uS σ 4 k ((gS σ 4 k) + 1)) pr hk) (cwV 2 hts gX1_hit_X1_setWorth rfl rfl rfl (by decide +kernel) ⟨Nat.le_of_ble_eq_true rfl, Nat.le_of_ble_eq_true rfl⟩) (xPreV xE_ok hE hK hA hP hD hS (q0 := 0) (ci := 1) rfl rfl rfl) rfl rfl hl.1 rfl (lv_room (Nat.le_of_ble_eq_true rfl)) dX1_hit_13 ⟨Nat.le_of_ble_eq_true rfl, Nat.le_of_ble_eq_true rfl⟩) hD hS hA (fun u H locs hp hP hD hS => ?_)
  rw [hp] at hP hD
  refine lv_aload_n hx hb dX1_hit_16 rfl (lv_at hl 0 rfl) ?_
  refine lv_dup hx hb dX1_hit_17 rfl ?_
  refine c_get hx hb hts hi1 hown hK hP 6 (by decide) (List.mem_of_getElem? (i := 1) rfl) (v := .int (gI (cSetW (uS σ 4 k ((gS σ 4 k) + 1)) k pr) 6)) rfl dX1_hit_18 (fun _ h => h) ?_
  refine lv_iconst (v := 1) hx hb dX1_hit_21 (by decide) ?_
  refine lv_iadd hx hb dX1_hit_22 ?_
  refine c_put hx hb hts hi1 hown hK hP hD hS 6 (by decide) (List.mem_of_getElem? (i := 1) rfl) (v := .int ((gI (cSetW (uS σ 4 k ((gS σ 4 k) + 1)) k pr) 6) + 1)) (ty := .int) (uI (cSetW (uS σ 4 k ((gS σ 4 k) + 1)) k pr) 6 ((gI (cSetW (uS σ 4 k ((gS σ 4 k) + 1)) k pr) 6) + 1)) (cF_uI ar (cSetW (uS σ 4 k ((gS σ 4 k) + 1)) k pr) ((gI (cSetW (uS σ 4 k ((gS σ 4 k) + 1)) k pr) 6) + 1)).2.2.2.1 (fun _ => sF_uI _ _ _ _) (by decide) rfl (by decide +kernel) rfl rfl dX1_hit_23 (fun _ h => h) (fun H locs hP hD hS => ?_)
  refine lv_aload_n hx hb dX1_hit_26 rfl (lv_at hl 0 rfl) ?_
  refine lv_dup hx hb dX1_hit_27 rfl ?_
  refine c_get hx hb hts hi1 hown hK hP 8 (by decide) (List.mem_of_getElem? (i := 2) rfl) (v := .long (gL (cSetW (uS σ 4 k ((gS σ 4 k) + 1)) k pr) 8)) rfl dX1_hit_28 (fun _ h => h) ?_
  refine lv_aload_n hx hb dX1_hit_31 rfl (lv_at hl 1 rfl) ?_
  refine s_get hx hb hts hi0 hown hK hE hP hk 3 (by decide) rfl (v := .int (gS (cSetW (uS σ 4 k ((gS σ 4 k) + 1)) k pr) 3 k)) rfl dX1_hit_32 (fun _ h => h) ?_
  refine lv_i2l (v := (gS (cSetW (uS σ 4 k ((gS σ 4 k) + 1)) k pr) 3 k).toInt64) hx hb dX1_hit_35 rfl ?_
  refine lv_ladd hx hb dX1_hit_36 ?_
  refine c_put hx hb hts hi1 hown hK hP hD hS 8 (by decide) (List.mem_of_getElem? (i := 2) rfl) (v := .long ((gL (cSetW (uS σ 4 k ((gS σ 4 k) + 1)) k pr) 8) + ((gS (cSetW (uS σ 4 k ((gS σ 4 k) + 1)) k pr) 3 k).toInt64))) (ty := .long) (uL (uI (cSetW (uS σ 4 k ((gS σ 4 k) + 1)) k pr) 6 ((gI (cSetW (uS σ 4 k ((gS σ 4 k) + 1)) k pr) 6) + 1)) 8 ((gL (cSetW (uS σ 4 k ((gS σ 4 k) + 1)) k pr) 8) + ((gS (cSetW (uS σ 4 k ((gS σ 4 k) + 1)) k pr) 3 k).toInt64))) (cF_uL ar (uI (cSetW (uS σ 4 k ((gS σ 4 k) + 1)) k pr) 6 ((gI (cSetW (uS σ 4 k ((gS σ 4 k) + 1)) k pr) 6) + 1)) ((gL (cSetW (uS σ 4 k ((gS σ 4 k) + 1)) k pr) 8) + ((gS (cSetW (uS σ 4 k ((gS σ 4 k) + 1)) k pr) 3 k).toInt64))).2.2.1 (fun _ => sF_uL _ _ _ _) (by decide) rfl (by decide +kernel) rfl rfl dX1_hit_37 (fun _ h => h) (fun H locs hP hD hS => ?_)
  refine lv_aload_n hx hb dX1_hit_40 rfl (lv_at hl 0 rfl) ?_
  refine lv_dup hx hb dX1_hit_41 rfl ?_
  refine c_get hx hb hts hi1 hown hK hP 9 (by decide) (List.mem_of_getElem? (i := 3) rfl) (v := .long (gL (cSetW (uS σ 4 k ((gS σ 4 k) + 1)) k pr) 9)) rfl dX1_hit_42 (fun _ h => h) ?_
  refine lv_iload_n hx hb dX1_hit_45 rfl (lv_at hl 2 rfl) ?_
  refine lv_i2l (v := pr.toInt64) hx hb dX1_hit_46 rfl ?_
  refine lv_ladd hx hb dX1_hit_47 ?_
  refine c_put hx hb hts hi1 hown hK hP hD hS 9 (by decide) (List.mem_of_getElem? (i := 3) rfl) (v := .long ((gL (cSetW (uS σ 4 k ((gS σ 4 k) + 1)) k pr) 9) + pr.toInt64)) (ty := .long) (uL (uL (uI (cSetW (uS σ 4 k ((gS σ 4 k) + 1)) k pr) 6 ((gI (cSetW (uS σ 4 k ((gS σ 4 k) + 1)) k pr) 6) + 1)) 8 ((gL (cSetW (uS σ 4 k ((gS σ 4 k) + 1)) k pr) 8) + ((gS (cSetW (uS σ 4 k ((gS σ 4 k) + 1)) k pr) 3 k).toInt64))) 9 ((gL (cSetW (uS σ 4 k ((gS σ 4 k) + 1)) k pr) 9) + pr.toInt64)) (cF_uL ar (uL (uI (cSetW (uS σ 4 k ((gS σ 4 k) + 1)) k pr) 6 ((gI (cSetW (uS σ 4 k ((gS σ 4 k) + 1)) k pr) 6) + 1)) 8 ((gL (cSetW (uS σ 4 k ((gS σ 4 k) + 1)) k pr) 8) + ((gS (cSetW (uS σ 4 k ((gS σ 4 k) + 1)) k pr) 3 k).toInt64))) ((gL (cSetW (uS σ 4 k ((gS σ 4 k) + 1)) k pr) 9) + pr.toInt64)).2.2.2.1 (fun _ => sF_uL _ _ _ _) (by decide) rfl (by decide +kernel) rfl rfl dX1_hit_48 (fun _ h => h) (fun H locs hP hD hS => ?_)
  exact x_vret hx hb hr hlocks hK (uL (uL (uI (cSetW (uS σ 4 k ((gS σ 4 k) + 1)) k pr) 6 ((gI (cSetW (uS σ 4 k ((gS σ 4 k) + 1)) k pr) 6) + 1)) 8 ((gL (cSetW (uS σ 4 k ((gS σ 4 k) + 1)) k pr) 8) + ((gS (cSetW (uS σ 4 k ((gS σ 4 k) + 1)) k pr) 3 k).toInt64))) 9 ((gL (cSetW (uS σ 4 k ((gS σ 4 k) + 1)) k pr) 9) + pr.toInt64)) hP hD hS rfl dX1_hit_51
end
section
set_option maxHeartbeats 4000000 in
set_option maxRecDepth 100000 in
theorem k_X1_countMiss (l : Launch) (D : va_G) (ax ar : Nat) (ad : Nat → Nat) (cO : ClassId) (sz : Nat) (σ : St) (pr : Int32) : Met l yX1_countMiss wsX1_countMiss ({ frames := 0, cells := 0, slots := 0, locals := 0 } : Room) (va_Pc [.ref ax, .int pr] (xPre D (cT cO) xE (cW ax ar ad cO) σ sz)) (va_Qv (fun (u : St) => u = cMiss σ pr) (xB D (cT cO) (cW ax ar ad cO) (va_A (cW ax ar ad cO σ) sz)) (va_A (cW ax ar ad cO σ) sz)) 0 0 (va_A (cW ax ar ad cO σ) sz) := by
  refine xOpen (w := (cW ax ar ad cO)) (σ := σ) (cc := cX1_countMiss) (maxL := 2) (ret := none) (QQ := fun A => va_Qv (fun (u : St) => u = cMiss σ pr) (xB D (cT cO) (cW ax ar ad cO) A) A) (by decide) rfl (Nat.le_of_ble_eq_true rfl) ?_
  intro p e s m below meth c A hx hb hr hml hown hts hlocks hname hK hE hA hP hD hS ls hl
  have hl : lv_has ls 2 [(0, .ref ax), (1, .int pr)] := hl
  have hown : s.vm.findClass RX1 = some m.cls := hown
  have hi1 : ∀ w ∈ wsX10, w ∈ wsX1_countMiss := (fun _ h => List.mem_cons_of_mem _ (List.mem_append_right _ h))
  generalize hH : s.heap = H at hP
  have hS : va_S A s.heap H [] := by rw [← hH]; exact va_S.rf
  generalize hlo : ([] : List Loc) = locs at hS
  refine lv_aload_n hx hb dX1_countMiss_0 rfl (lv_at hl 0 rfl) ?_
  refine lv_dup hx hb dX1_countMiss_1 rfl ?_
  refine c_get hx hb hts hi1 hown hK hP 7 (by decide) (List.mem_of_getElem? (i := 1) rfl) (v := .int (gI σ 7)) rfl dX1_countMiss_2 (fun _ h => h) ?_
  refine lv_iconst (v := 1) hx hb dX1_countMiss_5 (by decide) ?_
  refine lv_iadd hx hb dX1_countMiss_6 ?_
  refine c_put hx hb hts hi1 hown hK hP hD hS 7 (by decide) (List.mem_of_getElem? (i := 1) rfl) (v := .int ((gI σ 7) + 1)) (ty := .int) (uI σ 7 ((gI σ 7) + 1)) (cF_uI ar σ ((gI σ 7) + 1)).2.2.2.2.1 (fun _ => sF_uI _ _ _ _) (by decide) rfl (by decide +kernel) rfl rfl dX1_countMiss_7 (fun _ h => h) (fun H locs hP hD hS => ?_)
  refine lv_aload_n hx hb dX1_countMiss_10 rfl (lv_at hl 0 rfl) ?_
  refine lv_dup hx hb dX1_countMiss_11 rfl ?_
  refine c_get hx hb hts hi1 hown hK hP 10 (by decide) (List.mem_of_getElem? (i := 2) rfl) (v := .long (gL σ 10)) rfl dX1_countMiss_12 (fun _ h => h) ?_
  refine lv_iload_n hx hb dX1_countMiss_15 rfl (lv_at hl 1 rfl) ?_
  refine lv_i2l (v := pr.toInt64) hx hb dX1_countMiss_16 rfl ?_
  refine lv_ladd hx hb dX1_countMiss_17 ?_
  refine c_put hx hb hts hi1 hown hK hP hD hS 10 (by decide) (List.mem_of_getElem? (i := 2) rfl) (v := .long ((gL σ 10) + pr.toInt64)) (ty := .long) (uL (uI σ 7 ((gI σ 7) + 1)) 10 ((gL σ 10) + pr.toInt64)) (cF_uL ar (uI σ 7 ((gI σ 7) + 1)) ((gL σ 10) + pr.toInt64)).2.2.2.2 (fun _ => sF_uL _ _ _ _) (by decide) rfl (by decide +kernel) rfl rfl dX1_countMiss_18 (fun _ h => h) (fun H locs hP hD hS => ?_)
  exact x_vret hx hb hr hlocks hK (uL (uI σ 7 ((gI σ 7) + 1)) 10 ((gL σ 10) + pr.toInt64)) hP hD hS rfl dX1_countMiss_21
set_option maxHeartbeats 4000000 in
set_option maxRecDepth 100000 in
theorem k_X1_wasMissedLately (l : Launch) (D : va_G) (ax ar : Nat) (ad : Nat → Nat) (cO : ClassId) (sz : Nat) (σ : St) {k : Nat} (hk : k < 32) : Met l yX1_wasMissedLately wsX1_wasMissedLately ({ frames := 0, cells := 0, slots := 0, locals := 0 } : Room) (va_Pc [.ref ax, .ref (ad k)] (xPre D (cT cO) xE (cW ax ar ad cO) σ sz)) (va_Qi (fun (r : Int32) (u : St) => r = bI (cLate σ k) ∧ u = σ) (xB D (cT cO) (cW ax ar ad cO) (va_A (cW ax ar ad cO σ) sz)) (va_A (cW ax ar ad cO σ) sz)) 0 0 (va_A (cW ax ar ad cO σ) sz) := by
  refine xOpen (w := (cW ax ar ad cO)) (σ := σ) (cc := cX1_wasMissedLately) (maxL := 2) (ret := some .boolean) (QQ := fun A => va_Qi (fun (r : Int32) (u : St) => r = bI (cLate σ k) ∧ u = σ) (xB D (cT cO) (cW ax ar ad cO) A) A) (by decide) rfl (Nat.le_of_ble_eq_true rfl) ?_
  intro p e s m below meth c A hx hb hr hml hown hts hlocks hname hK hE hA hP hD hS ls hl
  have hl : lv_has ls 2 [(0, .ref ax), (1, .ref (ad k))] := hl
  have hown : s.vm.findClass RX1 = some m.cls := hown
  have hi0 : ∀ w ∈ wsX00, w ∈ wsX1_wasMissedLately := (fun _ h => List.mem_cons_of_mem _ (List.mem_append_left _ (List.mem_append_right _ h)))
  have hi1 : ∀ w ∈ wsX10, w ∈ wsX1_wasMissedLately := (fun _ h => List.mem_cons_of_mem _ (List.mem_append_right _ h))
  generalize hH : s.heap = H at hP
  have hS : va_S A s.heap H [] := by rw [← hH]; exact va_S.rf
  generalize hlo : ([] : List Loc) = locs at hS
  refine lv_aload_n hx hb dX1_wasMissedLately_0 rfl (lv_at hl 1 rfl) ?_
  refine s_get hx hb hts hi0 hown hK hE hP hk 8 (by decide) rfl (v := .int (gS σ 8 k)) rfl dX1_wasMissedLately_1 (fun _ h => h) ?_
  refine lv_iconst (v := (-1)) hx hb dX1_wasMissedLately_4 (by decide) ?_
  refine lv_icmp_eq (tgt := 26) hx hb dX1_wasMissedLately_5 (by decide) (fun c_1 => ?_) (fun c_1 => ?_)
  · refine lv_iconst (v := 0) hx hb dX1_wasMissedLately_26 (by decide) ?_
    exact x_zret (b := false) hx hb hr hlocks hK (σ) hP hD hS ⟨by simp only [cLate]; simp [c_1], rfl⟩ dX1_wasMissedLately_27
  · refine lv_aload_n hx hb dX1_wasMissedLately_8 rfl (lv_at hl 0 rfl) ?_
    refine c_get hx hb hts hi1 hown hK hP 1 (by decide) (List.mem_of_getElem? (i := 1) rfl) (v := .int (gI σ 1)) rfl dX1_wasMissedLately_9 (fun _ h => h) ?_
    refine lv_aload_n hx hb dX1_wasMissedLately_12 rfl (lv_at hl 1 rfl) ?_
    refine s_get hx hb hts hi0 hown hK hE hP hk 8 (by decide) rfl (v := .int (gS σ 8 k)) rfl dX1_wasMissedLately_13 (fun _ h => h) ?_
    refine lv_isub hx hb dX1_wasMissedLately_16 ?_
    refine lv_bipush (v := 50) hx hb dX1_wasMissedLately_17 (by decide) ?_
    refine lv_icmp_gt (tgt := 26) hx hb dX1_wasMissedLately_19 (by decide) (fun c_2 => ?_) (fun c_2 => ?_)
    · refine lv_iconst (v := 0) hx hb dX1_wasMissedLately_26 (by decide) ?_
      exact x_zret (b := false) hx hb hr hlocks hK (σ) hP hD hS ⟨by simp only [cLate]; simp [c_1, c_2], rfl⟩ dX1_wasMissedLately_27
    · refine lv_iconst (v := 1) hx hb dX1_wasMissedLately_22 (by decide) ?_
      refine lv_goto (tgt := 27) hx hb dX1_wasMissedLately_23 (by decide) ?_
      exact x_zret (b := true) hx hb hr hlocks hK (σ) hP hD hS ⟨by simp only [cLate]; simp [c_1, c_2], rfl⟩ dX1_wasMissedLately_27
set_option maxHeartbeats 4000000 in
set_option maxRecDepth 100000 in
theorem k_X1_removeOwn (l : Launch) (D : va_G) (ax ar : Nat) (ad : Nat → Nat) (cO : ClassId) (sz : Nat) (σ : St) {k : Nat} (hk : k < 32) : Met l yX1_removeOwn wsX1_removeOwn ({ frames := 1, cells := 0, slots := 0, locals := 40 } : Room) (va_Pc [.ref ax, .ref (ad k)] (xPre D (cT cO) xE (cW ax ar ad cO) σ sz)) (va_Qv (fun (u : St) => u = cRmOwn σ k) (xB D (cT cO) (cW ax ar ad cO) (va_A (cW ax ar ad cO σ) sz)) (va_A (cW ax ar ad cO σ) sz)) 0 0 (va_A (cW ax ar ad cO σ) sz) := by
  refine xOpen (w := (cW ax ar ad cO)) (σ := σ) (cc := cX1_removeOwn) (maxL := 2) (ret := none) (QQ := fun A => va_Qv (fun (u : St) => u = cRmOwn σ k) (xB D (cT cO) (cW ax ar ad cO) A) A) (by decide) rfl (Nat.le_of_ble_eq_true rfl) ?_
  intro p e s m below meth c A hx hb hr hml hown hts hlocks hname hK hE hA hP hD hS ls hl
  have hl : lv_has ls 2 [(0, .ref ax), (1, .ref (ad k))] := hl
  have hown : s.vm.findClass RX1 = some m.cls := hown
  have hi0 : ∀ w ∈ wsX00, w ∈ wsX1_removeOwn := (fun _ h => List.mem_cons_of_mem _ (List.mem_append_left _ (List.mem_append_right _ h)))
  have hi1 : ∀ w ∈ wsX10, w ∈ wsX1_removeOwn := (fun _ h => List.mem_cons_of_mem _ (List.mem_append_right _ h))
  generalize hH : s.heap = H at hP
  have hS : va_S A s.heap H [] := by rw [← hH]; exact va_S.rf
  generalize hlo : ([] : List Loc) = locs at hS
  refine lv_aload_n hx hb dX1_removeOwn_0 rfl (lv_at hl 1 rfl) ?_
  refine s_get hx hb hts hi0 hown hK hE hP hk 1 (by decide) rfl (v := .int (bI (gB σ 1 k))) rfl dX1_removeOwn_1 (fun _ h => h) ?_
  refine x_ifeq (tgt := 25) hx hb dX1_removeOwn_4 (by decide) (fun c_1 => ?_) (fun c_1 => ?_)
  · refine lv_aload_n hx hb dX1_removeOwn_25 rfl (lv_at hl 1 rfl) ?_
    refine lv_iconst (v := 0) hx hb dX1_removeOwn_26 (by decide) ?_
    refine s_put hx hb hts hi0 hown hK hE hP hD hS hk 1 (by decide) rfl (v := .int (bI false)) (ty := .boolean) (uB σ 1 k false) ((sF_self σ k).2.2.2.2.2.2.1 _) (fun i9 hi9 => (sF_other σ hi9).2.2.2.2.2.2.1 _) (cF_uB _ _ _ _ _) rfl (by decide +kernel) (bI_nar _) (bI_fit _) dX1_removeOwn_27 (fun _ h => h) (fun H locs hP hD hS => ?_)
    exact x_vret hx hb hr hlocks hK (uB σ 1 k false) hP hD hS (by simp [cRmOwn, c_1]) dX1_removeOwn_30
  · refine lv_aload_n hx hb dX1_removeOwn_7 rfl (lv_at hl 0 rfl) ?_
    refine lv_aload_n hx hb dX1_removeOwn_8 rfl (lv_at hl 1 rfl) ?_
    refine x_calli (va_runV (As := [.ref (ad k)]) (rest := []) ⟨hx, hb, hml, hown, hts⟩ (k_X1_hasEnded l D ax ar ad cO H.size σ hk) (cwV 1 hts gX1_removeOwn_X1_hasEnded rfl rfl rfl (by decide +kernel) ⟨Nat.le_of_ble_eq_true rfl, Nat.le_of_ble_eq_true rfl⟩) (xPreV xE_ok hE hK hA hP hD hS (q0 := 0) (ci := 1) rfl rfl rfl) rfl rfl hl.1 rfl (lv_room (Nat.le_of_ble_eq_true rfl)) dX1_removeOwn_9 ⟨Nat.le_of_ble_eq_true rfl, Nat.le_of_ble_eq_true rfl⟩) hD hS hA (fun r u H locs hp hP hD hS => ?_)
    obtain ⟨rfl, hu9⟩ := hp
    rw [hu9] at hP hD
    refine x_ifeq (tgt := 25) hx hb dX1_removeOwn_12 (by decide) (fun c_2 => ?_) (fun c_2 => ?_)
    · refine lv_aload_n hx hb dX1_removeOwn_25 rfl (lv_at hl 1 rfl) ?_
      refine lv_iconst (v := 0) hx hb dX1_removeOwn_26 (by decide) ?_
      refine s_put hx hb hts hi0 hown hK hE hP hD hS hk 1 (by decide) rfl (v := .int (bI false)) (ty := .boolean) (uB σ 1 k false) ((sF_self σ k).2.2.2.2.2.2.1 _) (fun i9 hi9 => (sF_other σ hi9).2.2.2.2.2.2.1 _) (cF_uB _ _ _ _ _) rfl (by decide +kernel) (bI_nar _) (bI_fit _) dX1_removeOwn_27 (fun _ h => h) (fun H locs hP hD hS => ?_)
      exact x_vret hx hb hr hlocks hK (uB σ 1 k false) hP hD hS (by simp [cRmOwn, c_1, c_2]) dX1_removeOwn_30
    · refine lv_aload_n hx hb dX1_removeOwn_15 rfl (lv_at hl 0 rfl) ?_
      refine lv_dup hx hb dX1_removeOwn_16 rfl ?_
      refine c_get hx hb hts hi1 hown hK hP 12 (by decide) (List.mem_of_getElem? (i := 1) rfl) (v := .int (gI σ 12)) rfl dX1_removeOwn_17 (fun _ h => h) ?_
      refine lv_iconst (v := 1) hx hb dX1_removeOwn_20 (by decide) ?_
      refine lv_iadd hx hb dX1_removeOwn_21 ?_
      refine c_put hx hb hts hi1 hown hK hP hD hS 12 (by decide) (List.mem_of_getElem? (i := 1) rfl) (v := .int ((gI σ 12) + 1)) (ty := .int) (uI σ 12 ((gI σ 12) + 1)) (cF_uI ar σ ((gI σ 12) + 1)).2.2.2.2.2.2 (fun _ => sF_uI _ _ _ _) (by decide) rfl (by decide +kernel) rfl rfl dX1_removeOwn_22 (fun _ h => h) (fun H locs hP hD hS => ?_)
      refine lv_aload_n hx hb dX1_removeOwn_25 rfl (lv_at hl 1 rfl) ?_
      refine lv_iconst (v := 0) hx hb dX1_removeOwn_26 (by decide) ?_
      refine s_put hx hb hts hi0 hown hK hE hP hD hS hk 1 (by decide) rfl (v := .int (bI false)) (ty := .boolean) (uB (uI σ 12 ((gI σ 12) + 1)) 1 k false) ((sF_self (uI σ 12 ((gI σ 12) + 1)) k).2.2.2.2.2.2.1 _) (fun i9 hi9 => (sF_other (uI σ 12 ((gI σ 12) + 1)) hi9).2.2.2.2.2.2.1 _) (cF_uB _ _ _ _ _) rfl (by decide +kernel) (bI_nar _) (bI_fit _) dX1_removeOwn_27 (fun _ h => h) (fun H locs hP hD hS => ?_)
      exact x_vret hx hb hr hlocks hK (uB (uI σ 12 ((gI σ 12) + 1)) 1 k false) hP hD hS (by simp [cRmOwn, c_1, c_2]) dX1_removeOwn_30
end
section
set_option maxHeartbeats 4000000 in
set_option maxRecDepth 100000 in
theorem k_X1_fill (l : Launch) (D : va_G) (ax ar : Nat) (ad : Nat → Nat) (cO : ClassId) (sz : Nat) (σ : St) {k : Nat} (sz9 pr lf : Int32) (hk : k < 32) : Met l yX1_fill wsX1_fill ({ frames := 1, cells := 0, slots := 0, locals := 40 } : Room) (va_Pc [.ref ax, .ref (ad k), .int sz9, .int pr, .int lf] (xPre D (cT cO) xE (cW ax ar ad cO) σ sz)) (va_Qv (fun (u : St) => u = cFill σ k sz9 pr lf) (xB D (cT cO) (cW ax ar ad cO) (va_A (cW ax ar ad cO σ) sz)) (va_A (cW ax ar ad cO σ) sz)) 0 0 (va_A (cW ax ar ad cO σ) sz) := by
  refine xOpen (w := (cW ax ar ad cO)) (σ := σ) (cc := cX1_fill) (maxL := 5) (ret := none) (QQ := fun A => va_Qv (fun (u : St) => u = cFill σ k sz9 pr lf) (xB D (cT cO) (cW ax ar ad cO) A) A) (by decide) rfl (Nat.le_of_ble_eq_true rfl) ?_
  intro p e s m below meth c A hx hb hr hml hown hts hlocks hname hK hE hA hP hD hS ls hl
  have hl : lv_has ls 5 [(0, .ref ax), (1, .ref (ad k)), (2, .int sz9), (3, .int pr), (4, .int lf)] := hl
  have hown : s.vm.findClass RX1 = some m.cls := hown
  have hi0 : ∀ w ∈ wsX00, w ∈ wsX1_fill := (fun _ h => List.mem_cons_of_mem _ (List.mem_append_left _ (List.mem_append_right _ h)))
  have hi1 : ∀ w ∈ wsX10, w ∈ wsX1_fill := (fun _ h => List.mem_cons_of_mem _ (List.mem_append_right _ h))
  generalize hH : s.heap = H at hP
  have hS : va_S A s.heap H [] := by rw [← hH]; exact va_S.rf
  generalize hlo : ([] : List Loc) = locs at hS
  refine lv_aload_n hx hb dX1_fill_0 rfl (lv_at hl 1 rfl) ?_
  refine lv_iconst (v := 1) hx hb dX1_fill_1 (by decide) ?_
  refine s_put hx hb hts hi0 hown hK hE hP hD hS hk 1 (by decide) rfl (v := .int (bI true)) (ty := .boolean) (uB σ 1 k true) ((sF_self σ k).2.2.2.2.2.2.1 _) (fun i9 hi9 => (sF_other σ hi9).2.2.2.2.2.2.1 _) (cF_uB _ _ _ _ _) rfl (by decide +kernel) (bI_nar _) (bI_fit _) dX1_fill_2 (fun _ h => h) (fun H locs hP hD hS => ?_)
  refine lv_aload_n hx hb dX1_fill_5 rfl (lv_at hl 1 rfl) ?_
  refine lv_iconst (v := 0) hx hb dX1_fill_6 (by decide) ?_
  refine s_put hx hb hts hi0 hown hK hE hP hD hS hk 2 (by decide) rfl (v := .int (bI false)) (ty := .boolean) (uB (uB σ 1 k true) 2 k false) ((sF_self (uB σ 1 k true) k).2.2.2.2.2.2.2 _) (fun i9 hi9 => (sF_other (uB σ 1 k true) hi9).2.2.2.2.2.2.2 _) (cF_uB _ _ _ _ _) rfl (by decide +kernel) (bI_nar _) (bI_fit _) dX1_fill_7 (fun _ h => h) (fun H locs hP hD hS => ?_)
  refine lv_aload_n hx hb dX1_fill_10 rfl (lv_at hl 1 rfl) ?_
  refine lv_iload_n hx hb dX1_fill_11 rfl (lv_at hl 2 rfl) ?_
  refine s_put hx hb hts hi0 hown hK hE hP hD hS hk 3 (by decide) rfl (v := .int sz9) (ty := .int) (uS (uB (uB σ 1 k true) 2 k false) 3 k sz9) ((sF_self (uB (uB σ 1 k true) 2 k false) k).1 _) (fun i9 hi9 => (sF_other (uB (uB σ 1 k true) 2 k false) hi9).1 _) (cF_uS _ _ _ _ _) rfl (by decide +kernel) rfl rfl dX1_fill_12 (fun _ h => h) (fun H locs hP hD hS => ?_)
  refine lv_aload_n hx hb dX1_fill_15 rfl (lv_at hl 1 rfl) ?_
  refine lv_iconst (v := 1) hx hb dX1_fill_16 (by decide) ?_
  refine s_put hx hb hts hi0 hown hK hE hP hD hS hk 4 (by decide) rfl (v := .int 1) (ty := .int) (uS (uS (uB (uB σ 1 k true) 2 k false) 3 k sz9) 4 k 1) ((sF_self (uS (uB (uB σ 1 k true) 2 k false) 3 k sz9) k).2.1 _) (fun i9 hi9 => (sF_other (uS (uB (uB σ 1 k true) 2 k false) 3 k sz9) hi9).2.1 _) (cF_uS _ _ _ _ _) rfl (by decide +kernel) rfl rfl dX1_fill_17 (fun _ h => h) (fun H locs hP hD hS => ?_)
  refine lv_aload_n hx hb dX1_fill_20 rfl (lv_at hl 1 rfl) ?_
  refine lv_aload_n hx hb dX1_fill_21 rfl (lv_at hl 0 rfl) ?_
  refine c_get hx hb hts hi1 hown hK hP 1 (by decide) (List.mem_of_getElem? (i := 1) rfl) (v := .int (gI σ 1)) rfl dX1_fill_22 (fun _ h => h) ?_
  refine lv_iload hx hb dX1_fill_25 (lv_at hl 4 rfl) ?_
  refine lv_iadd hx hb dX1_fill_27 ?_
  refine s_put hx hb hts hi0 hown hK hE hP hD hS hk 5 (by decide) rfl (v := .int ((gI σ 1) + lf)) (ty := .int) (uS (uS (uS (uB (uB σ 1 k true) 2 k false) 3 k sz9) 4 k 1) 5 k ((gI σ 1) + lf)) ((sF_self (uS (uS (uB (uB σ 1 k true) 2 k false) 3 k sz9) 4 k 1) k).2.2.1 _) (fun i9 hi9 => (sF_other (uS (uS (uB (uB σ 1 k true) 2 k false) 3 k sz9) 4 k 1) hi9).2.2.1 _) (cF_uS _ _ _ _ _) rfl (by decide +kernel) rfl rfl dX1_fill_28 (fun _ h => h) (fun H locs hP hD hS => ?_)
  refine lv_aload_n hx hb dX1_fill_31 rfl (lv_at hl 0 rfl) ?_
  refine lv_aload_n hx hb dX1_fill_32 rfl (lv_at hl 1 rfl) ?_
  refine lv_iload_n hx hb dX1_fill_33 rfl (lv_at hl 3 rfl) ?_
  refine x_callv (va_runV (As := [.ref (ad k), .int pr]) (rest := []) ⟨hx, hb, hml, hown, hts⟩ (k_X1_setWorth l D ax ar ad cO H.size (uS (uS (uS (uB (uB σ 1 k true) 2 k false) 3 k sz9) 4 k 1) 5 k ((gI σ 1) + lf)) pr hk) (cwV 2 hts gX1_fill_X1_setWorth rfl rfl rfl (by decide +kernel) ⟨Nat.le_of_ble_eq_true rfl, Nat.le_of_ble_eq_true rfl⟩) (xPreV xE_ok hE hK hA hP hD hS (q0 := 0) (ci := 1) rfl rfl rfl) rfl rfl hl.1 rfl (lv_room (Nat.le_of_ble_eq_true rfl)) dX1_fill_34 ⟨Nat.le_of_ble_eq_true rfl, Nat.le_of_ble_eq_true rfl⟩) hD hS hA (fun u H locs hp hP hD hS => ?_)
  rw [hp] at hP hD
  exact x_vret hx hb hr hlocks hK (cSetW (uS (uS (uS (uB (uB σ 1 k true) 2 k false) 3 k sz9) 4 k 1) 5 k ((gI σ 1) + lf)) k pr) hP hD hS rfl dX1_fill_37
set_option maxHeartbeats 4000000 in
set_option maxRecDepth 100000 in
theorem k_X1_hasRoom (l : Launch) (D : va_G) (ax ar : Nat) (ad : Nat → Nat) (cO : ClassId) (sz : Nat) (σ : St) (sz9 : Int32) : Met l yX1_hasRoom wsX1_hasRoom ({ frames := 2, cells := 0, slots := 0, locals := 60 } : Room) (va_Pc [.ref ax, .int sz9] (xPre D (cT cO) xE (cW ax ar ad cO) σ sz)) (va_Qi (fun (r : Int32) (u : St) => r = bI (cHasRoom σ sz9) ∧ u = σ) (xB D (cT cO) (cW ax ar ad cO) (va_A (cW ax ar ad cO σ) sz)) (va_A (cW ax ar ad cO σ) sz)) 0 0 (va_A (cW ax ar ad cO σ) sz) := by
  refine xOpen (w := (cW ax ar ad cO)) (σ := σ) (cc := cX1_hasRoom) (maxL := 2) (ret := some .boolean) (QQ := fun A => va_Qi (fun (r : Int32) (u : St) => r = bI (cHasRoom σ sz9) ∧ u = σ) (xB D (cT cO) (cW ax ar ad cO) A) A) (by decide) rfl (Nat.le_of_ble_eq_true rfl) ?_
  intro p e s m below meth c A hx hb hr hml hown hts hlocks hname hK hE hA hP hD hS ls hl
  have hl : lv_has ls 2 [(0, .ref ax), (1, .int sz9)] := hl
  have hown : s.vm.findClass RX1 = some m.cls := hown
  have hi0 : ∀ w ∈ wsX00, w ∈ wsX1_hasRoom := (fun _ h => List.mem_cons_of_mem _ (List.mem_append_right _ h))
  have hi1 : ∀ w ∈ wsX10, w ∈ wsX1_hasRoom := (fun _ h => List.mem_cons_of_mem _ (List.mem_append_left _ (List.mem_append_right _ h)))
  generalize hH : s.heap = H at hP
  have hS : va_S A s.heap H [] := by rw [← hH]; exact va_S.rf
  generalize hlo : ([] : List Loc) = locs at hS
  refine lv_aload_n hx hb dX1_hasRoom_0 rfl (lv_at hl 0 rfl) ?_
  refine x_calli (va_runV (As := []) (rest := []) ⟨hx, hb, hml, hown, hts⟩ (k_X1_used l D ax ar ad cO H.size σ) (cwV 0 hts gX1_hasRoom_X1_used rfl rfl rfl (by decide +kernel) ⟨Nat.le_of_ble_eq_true rfl, Nat.le_of_ble_eq_true rfl⟩) (xPreV xE_ok hE hK hA hP hD hS (q0 := 0) (ci := 1) rfl rfl rfl) rfl rfl hl.1 rfl (lv_room (Nat.le_of_ble_eq_true rfl)) dX1_hasRoom_1 ⟨Nat.le_of_ble_eq_true rfl, Nat.le_of_ble_eq_true rfl⟩) hD hS hA (fun r u H locs hp hP hD hS => ?_)
  obtain ⟨rfl, hu9⟩ := hp
  rw [hu9] at hP hD
  refine lv_aload_n hx hb dX1_hasRoom_4 rfl (lv_at hl 0 rfl) ?_
  refine c_get hx hb hts hi1 hown hK hP 3 (by decide) (List.mem_of_getElem? (i := 1) rfl) (v := .int (gI σ 3)) rfl dX1_hasRoom_5 (fun _ h => h) ?_
  refine lv_iload_n hx hb dX1_hasRoom_8 rfl (lv_at hl 1 rfl) ?_
  refine lv_isub hx hb dX1_hasRoom_9 ?_
  refine lv_icmp_gt (tgt := 17) hx hb dX1_hasRoom_10 (by decide) (fun c_1 => ?_) (fun c_1 => ?_)
  · refine lv_iconst (v := 0) hx hb dX1_hasRoom_17 (by decide) ?_
    exact x_zret (b := false) hx hb hr hlocks hK (σ) hP hD hS ⟨by simp only [cHasRoom]; simp [c_1], rfl⟩ dX1_hasRoom_18
  · refine lv_iconst (v := 1) hx hb dX1_hasRoom_13 (by decide) ?_
    refine lv_goto (tgt := 18) hx hb dX1_hasRoom_14 (by decide) ?_
    exact x_zret (b := true) hx hb hr hlocks hK (σ) hP hD hS ⟨by simp only [cHasRoom]; simp [c_1], rfl⟩ dX1_hasRoom_18
set_option maxHeartbeats 4000000 in
set_option maxRecDepth 100000 in
theorem k_X1_leaveDownTo (l : Launch) (D : va_G) (ax ar : Nat) (ad : Nat → Nat) (cO : ClassId) (sz : Nat) (σ : St) (by9 : Int32) : Met l yX1_leaveDownTo wsX1_leaveDownTo ({ frames := 3, cells := 0, slots := 0, locals := 90 } : Room) (va_Pc [.ref ax, .int by9] (xPre D (cT cO) xE (cW ax ar ad cO) σ sz)) (va_Qi (fun (r : Int32) (u : St) => r = nI (lvE by9 σ) ∧ u = lvD by9 σ) (xB D (cT cO) (cW ax ar ad cO) (va_A (cW ax ar ad cO σ) sz)) (va_A (cW ax ar ad cO σ) sz)) 0 0 (va_A (cW ax ar ad cO σ) sz) := by
  refine xOpen (w := (cW ax ar ad cO)) (σ := σ) (cc := cX1_leaveDownTo) (maxL := 4) (ret := some .int) (QQ := fun A => va_Qi (fun (r : Int32) (u : St) => r = nI (lvE by9 σ) ∧ u = lvD by9 σ) (xB D (cT cO) (cW ax ar ad cO) A) A) (by decide) rfl (Nat.le_of_ble_eq_true rfl) ?_
  intro p e s m below meth c A hx hb hr hml hown hts hlocks hname hK hE hA hP hD hS ls hl
  have hl : lv_has ls 4 [(0, .ref ax), (1, .int by9)] := hl
  have hown : s.vm.findClass RX1 = some m.cls := hown
  have hi0 : ∀ w ∈ wsX00, w ∈ wsX1_leaveDownTo := (fun _ h => List.mem_cons_of_mem _ (List.mem_append_left _ (List.mem_append_right _ h)))
  have hi1 : ∀ w ∈ wsX10, w ∈ wsX1_leaveDownTo := (fun _ h => List.mem_cons_of_mem _ (List.mem_append_right _ h))
  generalize hH : s.heap = H at hP
  have hS : va_S A s.heap H [] := by rw [← hH]; exact va_S.rf
  generalize hlo : ([] : List Loc) = locs at hS
  refine lv_iconst (v := 0) hx hb dX1_leaveDownTo_0 (by decide) ?_
  refine lv_istore_n (lv' := [(2, .int 0), (0, .ref ax), (1, .int by9)]) hx hb dX1_leaveDownTo_1 rfl hl (by decide) rfl (fun ls hl => ?_)
  refine lv_aload_n hx hb dX1_leaveDownTo_2 rfl (lv_at hl 1 rfl) ?_
  refine x_callq (va_runV (As := []) (rest := []) ⟨hx, hb, hml, hown, hts⟩ (k_X1_firstInOrder l D ax ar ad cO H.size σ) (cwV 0 hts gX1_leaveDownTo_X1_firstInOrder rfl rfl rfl (by decide +kernel) ⟨Nat.le_of_ble_eq_true rfl, Nat.le_of_ble_eq_true rfl⟩) (xPreV xE_ok hE hK hA hP hD hS (q0 := 0) (ci := 1) rfl rfl rfl) rfl rfl hl.1 rfl (lv_room (Nat.le_of_ble_eq_true rfl)) dX1_leaveDownTo_3 ⟨Nat.le_of_ble_eq_true rfl, Nat.le_of_ble_eq_true rfl⟩) hD hS hA (fun r u H locs hp hP hD hS => ?_)
  obtain ⟨rfl, hu9⟩ := hp
  rw [hu9] at hP hD
  refine x_astore_nQ (lv' := [(3, va_rf ((nxt σ none).map ad)), (2, .int 0), (0, .ref ax), (1, .int by9)]) hx hb dX1_leaveDownTo_6 rfl hl (by decide) rfl (fun ls hl => ?_)
  obtain ⟨-, hN1, hN2, hN3⟩ := stopN_spec (lvOk by9 σ) 32 0
  have hN1 : lvE by9 σ ≤ 32 := by have h := hN1; unfold lvE; omega
  have hN2 : ∀ j, j < lvE by9 σ → lvOk by9 σ j = true := fun j h => hN2 j (Nat.zero_le _) h
  have hN3 : lvE by9 σ = 32 ∨ lvOk by9 σ (lvE by9 σ) = false := by rw [Nat.zero_add] at hN3; exact hN3
  have loop : ∀ (n j : Nat) (ls : Array Slot) (H : Heap) (locs : List Loc), j ≤ lvE by9 σ → lvE by9 σ - j < n → va_P D vwCl (cW ax ar ad cO (lvI σ j)) H → va_D A (cW ax ar ad cO (lvI σ j)) → va_S A s.heap H locs → lv_has ls 4 [(0, .ref ax), (1, .int by9), (2, .int (nI j)), (3, va_rf ((nxt (lvI σ j) none).map ad))] → W p l e (headSpec wsX1_leaveDownTo ({ frames := 3, cells := 0, slots := 0, locals := 90 } : Room)).room s m [.ref ax, .int by9].toArray below meth c H locs 0 0 (MQ below (va_Qi (fun (r : Int32) (u : St) => r = nI (lvE by9 σ) ∧ u = lvD by9 σ) (xB D (cT cO) (cW ax ar ad cO) A) A) [.ref ax, .int by9].toArray s 0 0 A) (F0 m 7 ls []) := by
    intro n
    induction n with
    | zero =>
      intro j ls H locs h1 h2
      exact absurd h2 (by omega)
    | succ n ih =>
      intro j ls H locs hj hn hP hD hS hl
      have hj32 : j ≤ 32 := Nat.le_trans hj hN1
      refine lv_iload_n hx hb dX1_leaveDownTo_7 rfl (lv_at hl 2 rfl) ?_
      refine lv_bipush (v := 32) hx hb dX1_leaveDownTo_8 (by decide) ?_
      refine x_icmp_ge (tgt := 56) hx hb dX1_leaveDownTo_10 (by decide) (fun c_1 => ?_) (fun c_1 => ?_)
      · have hjN : j = lvE by9 σ := by
          rcases Nat.lt_or_ge j (lvE by9 σ) with q | q
          · exact absurd ((nI_lt32 hj32).mpr (Nat.lt_of_lt_of_le q hN1)) c_1
          · omega
        refine lv_aload_n hx hb dX1_leaveDownTo_56 rfl (lv_at hl 0 rfl) ?_
        refine lv_dup hx hb dX1_leaveDownTo_57 rfl ?_
        refine c_get hx hb hts hi1 hown hK hP 11 (by decide) (List.mem_of_getElem? (i := 6) rfl) (v := .int (gI (lvI σ j) 11)) rfl dX1_leaveDownTo_58 (fun _ h => h) ?_
        refine lv_iload_n hx hb dX1_leaveDownTo_61 rfl (lv_at hl 2 rfl) ?_
        refine lv_iadd hx hb dX1_leaveDownTo_62 ?_
        refine c_put hx hb hts hi1 hown hK hP hD hS 11 (by decide) (List.mem_of_getElem? (i := 6) rfl) (v := .int ((gI (lvI σ j) 11) + (nI j))) (ty := .int) (uI (lvI σ j) 11 ((gI (lvI σ j) 11) + (nI j))) (cF_uI ar (lvI σ j) ((gI (lvI σ j) 11) + (nI j))).2.2.2.2.2.1 (fun _ => sF_uI _ _ _ _) (by decide) rfl (by decide +kernel) rfl rfl dX1_leaveDownTo_63 (fun _ h => h) (fun H locs hP hD hS => ?_)
        refine lv_iload_n hx hb dX1_leaveDownTo_66 rfl (lv_at hl 2 rfl) ?_
        exact x_iret hx hb hr hlocks hK (uI (lvI σ j) 11 ((gI (lvI σ j) 11) + (nI j))) hP hD hS ⟨by rw [hjN], by rw [lvD, ← hjN]⟩ dX1_leaveDownTo_67
      · refine x_aload_nQ hx hb dX1_leaveDownTo_13 rfl (lv_at hl 3 rfl) ?_
        refine x_ifnullQ (tgt := 56) hx hb dX1_leaveDownTo_14 (by decide) (fun c_2 => ?_) (fun k_3 c_2 => ?_)
        · have hjN : j = lvE by9 σ := by
            rcases Nat.lt_or_ge j (lvE by9 σ) with q | q
            · have h9 := hN2 j q
              rw [lvOk, c_2] at h9
              simp at h9
            · omega
          refine lv_aload_n hx hb dX1_leaveDownTo_56 rfl (lv_at hl 0 rfl) ?_
          refine lv_dup hx hb dX1_leaveDownTo_57 rfl ?_
          refine c_get hx hb hts hi1 hown hK hP 11 (by decide) (List.mem_of_getElem? (i := 6) rfl) (v := .int (gI (lvI σ j) 11)) rfl dX1_leaveDownTo_58 (fun _ h => h) ?_
          refine lv_iload_n hx hb dX1_leaveDownTo_61 rfl (lv_at hl 2 rfl) ?_
          refine lv_iadd hx hb dX1_leaveDownTo_62 ?_
          refine c_put hx hb hts hi1 hown hK hP hD hS 11 (by decide) (List.mem_of_getElem? (i := 6) rfl) (v := .int ((gI (lvI σ j) 11) + (nI j))) (ty := .int) (uI (lvI σ j) 11 ((gI (lvI σ j) 11) + (nI j))) (cF_uI ar (lvI σ j) ((gI (lvI σ j) 11) + (nI j))).2.2.2.2.2.1 (fun _ => sF_uI _ _ _ _) (by decide) rfl (by decide +kernel) rfl rfl dX1_leaveDownTo_63 (fun _ h => h) (fun H locs hP hD hS => ?_)
          refine lv_iload_n hx hb dX1_leaveDownTo_66 rfl (lv_at hl 2 rfl) ?_
          exact x_iret hx hb hr hlocks hK (uI (lvI σ j) 11 ((gI (lvI σ j) 11) + (nI j))) hP hD hS ⟨by rw [hjN], by rw [lvD, ← hjN]⟩ dX1_leaveDownTo_67
        · have hk_3 : k_3 < 32 := nxt_lt c_2
          refine lv_aload_n hx hb dX1_leaveDownTo_17 rfl (lv_at hl 0 rfl) ?_
          refine x_calli (va_runV (As := []) (rest := []) ⟨hx, hb, hml, hown, hts⟩ (k_X1_used l D ax ar ad cO H.size (lvI σ j)) (cwV 0 hts gX1_leaveDownTo_X1_used rfl rfl rfl (by decide +kernel) ⟨Nat.le_of_ble_eq_true rfl, Nat.le_of_ble_eq_true rfl⟩) (xPreV xE_ok hE hK hA hP hD hS (q0 := 0) (ci := 1) rfl rfl rfl) rfl rfl hl.1 rfl (lv_room (Nat.le_of_ble_eq_true rfl)) dX1_leaveDownTo_18 ⟨Nat.le_of_ble_eq_true rfl, Nat.le_of_ble_eq_true rfl⟩) hD hS hA (fun r u H locs hp hP hD hS => ?_)
          obtain ⟨rfl, hu9⟩ := hp
          rw [hu9] at hP hD
          refine lv_iload_n hx hb dX1_leaveDownTo_21 rfl (lv_at hl 1 rfl) ?_
          refine x_icmp_le (tgt := 56) hx hb dX1_leaveDownTo_22 (by decide) (fun c_4 => ?_) (fun c_4 => ?_)
          · have hjN : j = lvE by9 σ := by
              rcases Nat.lt_or_ge j (lvE by9 σ) with q | q
              · have h9 := hN2 j q
                rw [lvOk, c_2] at h9
                simp [c_4] at h9
              · omega
            refine lv_aload_n hx hb dX1_leaveDownTo_56 rfl (lv_at hl 0 rfl) ?_
            refine lv_dup hx hb dX1_leaveDownTo_57 rfl ?_
            refine c_get hx hb hts hi1 hown hK hP 11 (by decide) (List.mem_of_getElem? (i := 6) rfl) (v := .int (gI (lvI σ j) 11)) rfl dX1_leaveDownTo_58 (fun _ h => h) ?_
            refine lv_iload_n hx hb dX1_leaveDownTo_61 rfl (lv_at hl 2 rfl) ?_
            refine lv_iadd hx hb dX1_leaveDownTo_62 ?_
            refine c_put hx hb hts hi1 hown hK hP hD hS 11 (by decide) (List.mem_of_getElem? (i := 6) rfl) (v := .int ((gI (lvI σ j) 11) + (nI j))) (ty := .int) (uI (lvI σ j) 11 ((gI (lvI σ j) 11) + (nI j))) (cF_uI ar (lvI σ j) ((gI (lvI σ j) 11) + (nI j))).2.2.2.2.2.1 (fun _ => sF_uI _ _ _ _) (by decide) rfl (by decide +kernel) rfl rfl dX1_leaveDownTo_63 (fun _ h => h) (fun H locs hP hD hS => ?_)
            refine lv_iload_n hx hb dX1_leaveDownTo_66 rfl (lv_at hl 2 rfl) ?_
            exact x_iret hx hb hr hlocks hK (uI (lvI σ j) 11 ((gI (lvI σ j) 11) + (nI j))) hP hD hS ⟨by rw [hjN], by rw [lvD, ← hjN]⟩ dX1_leaveDownTo_67
          · refine x_aload_nQ hx hb dX1_leaveDownTo_25 rfl (lv_at hl 3 rfl) ?_
            refine W.eq (g2 := F0 m 26 ls [.ref (ad k_3)]) (by rw [c_2]; rfl) ?_
            refine lv_iconst (v := 0) hx hb dX1_leaveDownTo_26 (by decide) ?_
            refine s_put hx hb hts hi0 hown hK hE hP hD hS hk_3 1 (by decide) rfl (v := .int (bI false)) (ty := .boolean) (uB (lvI σ j) 1 k_3 false) ((sF_self (lvI σ j) k_3).2.2.2.2.2.2.1 _) (fun i9 hi9 => (sF_other (lvI σ j) hi9).2.2.2.2.2.2.1 _) (cF_uB _ _ _ _ _) rfl (by decide +kernel) (bI_nar _) (bI_fit _) dX1_leaveDownTo_27 (fun _ h => h) (fun H locs hP hD hS => ?_)
            refine lv_aload_n hx hb dX1_leaveDownTo_30 rfl (lv_at hl 0 rfl) ?_
            refine lv_aload_n hx hb dX1_leaveDownTo_31 rfl (lv_at hl 0 rfl) ?_
            refine c_get hx hb hts hi1 hown hK hP 2 (by decide) (List.mem_of_getElem? (i := 1) rfl) (v := .long (gL (lvI σ j) 2)) rfl dX1_leaveDownTo_32 (fun _ h => h) ?_
            refine x_aload_nQ hx hb dX1_leaveDownTo_35 rfl (lv_at hl 3 rfl) ?_
            refine W.eq (g2 := F0 m 36 ls [.ref (ad k_3), .long (gL (lvI σ j) 2), .ref ax]) (by rw [c_2]; rfl) ?_
            refine s_get hx hb hts hi0 hown hK hE hP hk_3 6 (by decide) rfl (v := .long (gT (lvI σ j) 6 k_3)) rfl dX1_leaveDownTo_36 (fun _ h => h) ?_
            refine va_mmax_long hx hb (hml.trans hl.1.symm) hown (hts _ (List.mem_of_getElem? (i := 2) rfl)) (hts _ (List.mem_of_getElem? (i := 3) rfl)) (hts _ (List.mem_of_getElem? (i := 4) rfl)) (hts _ (List.mem_of_getElem? (i := 5) rfl)) (Nat.le_of_ble_eq_true rfl) (Nat.le_of_ble_eq_true rfl) (Nat.le_of_ble_eq_true rfl) (Nat.le_of_ble_eq_true rfl) dX1_leaveDownTo_39 ?_
            refine c_put hx hb hts hi1 hown hK hP hD hS 2 (by decide) (List.mem_of_getElem? (i := 1) rfl) (v := .long (if gT (lvI σ j) 6 k_3 < gL (lvI σ j) 2 then gL (lvI σ j) 2 else gT (lvI σ j) 6 k_3)) (ty := .long) (uL (uB (lvI σ j) 1 k_3 false) 2 (if gT (lvI σ j) 6 k_3 < gL (lvI σ j) 2 then gL (lvI σ j) 2 else gT (lvI σ j) 6 k_3)) (cF_uL ar (uB (lvI σ j) 1 k_3 false) (if gT (lvI σ j) 6 k_3 < gL (lvI σ j) 2 then gL (lvI σ j) 2 else gT (lvI σ j) 6 k_3)).1 (fun _ => sF_uL _ _ _ _) (by decide) rfl (by decide +kernel) rfl rfl dX1_leaveDownTo_42 (fun _ h => h) (fun H locs hP hD hS => ?_)
            have e9 : lvI σ (j + 1) = uL (uB (lvI σ j) 1 k_3 false) 2 (if gT (lvI σ j) 6 k_3 < gL (lvI σ j) 2 then gL (lvI σ j) 2 else gT (lvI σ j) 6 k_3) := by
              show (match nxt (lvI σ j) none with | none => lvI σ j | some k => lv1 (lvI σ j) k) = _
              rw [c_2]
              rfl
            rw [← e9] at hP hD
            refine lv_iinc (v := (nI j) + 1) (lv' := [(2, .int ((nI j) + 1)), (0, .ref ax), (1, .int by9), (3, va_rf ((nxt (lvI σ j) none).map ad))]) hx hb dX1_leaveDownTo_45 hl (k := 2) rfl rfl (by decide) rfl (fun ls hl => ?_)
            refine lv_aload_n hx hb dX1_leaveDownTo_48 rfl (lv_at hl 1 rfl) ?_
            refine x_callq (va_runV (As := []) (rest := []) ⟨hx, hb, hml, hown, hts⟩ (k_X1_firstInOrder l D ax ar ad cO H.size (lvI σ (j + 1))) (cwV 0 hts gX1_leaveDownTo_X1_firstInOrder rfl rfl rfl (by decide +kernel) ⟨Nat.le_of_ble_eq_true rfl, Nat.le_of_ble_eq_true rfl⟩) (xPreV xE_ok hE hK hA hP hD hS (q0 := 0) (ci := 1) rfl rfl rfl) rfl rfl hl.1 rfl (lv_room (Nat.le_of_ble_eq_true rfl)) dX1_leaveDownTo_49 ⟨Nat.le_of_ble_eq_true rfl, Nat.le_of_ble_eq_true rfl⟩) hD hS hA (fun r u H locs hp hP hD hS => ?_)
            obtain ⟨rfl, hu9⟩ := hp
            rw [hu9] at hP hD
            refine x_astore_nQ (lv' := [(3, va_rf ((nxt (lvI σ (j + 1)) none).map ad)), (2, .int ((nI j) + 1)), (0, .ref ax), (1, .int by9)]) hx hb dX1_leaveDownTo_52 rfl hl (by decide) rfl (fun ls hl => ?_)
            refine lv_goto (tgt := 7) hx hb dX1_leaveDownTo_53 (by decide) ?_
            have hlt : j < lvE by9 σ := by
              rcases Nat.lt_or_ge j (lvE by9 σ) with q | q
              · exact q
              · have hjN : j = lvE by9 σ := by omega
                rcases hN3 with h9 | h9
                · exact absurd ((nI_lt32 hj32).mp c_1) (by omega)
                · rw [← hjN, lvOk, c_2] at h9
                  simp [c_4] at h9
            exact ih (j + 1) ls H locs hlt (by omega) hP hD hS (by rw [nI_succ]; exact lv_sub hl [2, 3, 1, 0] rfl)
  exact loop (lvE by9 σ + 1) 0 _ _ _ (Nat.zero_le _) (by omega) hP hD hS (lv_sub hl [2, 3, 1, 0] rfl)
end
section
set_option maxHeartbeats 4000000 in
set_option maxRecDepth 100000 in
theorem k_X1_countThatWouldLeave (l : Launch) (D : va_G) (ax ar : Nat) (ad : Nat → Nat) (cO : ClassId) (sz : Nat) (σ : St) (sz9 : Int32) : Met l yX1_countThatWouldLeave wsX1_countThatWouldLeave ({ frames := 3, cells := 0, slots := 0, locals := 90 } : Room) (va_Pc [.ref ax, .int sz9] (xPre D (cT cO) xE (cW ax ar ad cO) σ sz)) (va_Qi (fun (r : Int32) (u : St) => r = cCount σ sz9 ∧ u = σ) (xB D (cT cO) (cW ax ar ad cO) (va_A (cW ax ar ad cO σ) sz)) (va_A (cW ax ar ad cO σ) sz)) 0 0 (va_A (cW ax ar ad cO σ) sz) := by
  refine xOpen (w := (cW ax ar ad cO)) (σ := σ) (cc := cX1_countThatWouldLeave) (maxL := 6) (ret := some .int) (QQ := fun A => va_Qi (fun (r : Int32) (u : St) => r = cCount σ sz9 ∧ u = σ) (xB D (cT cO) (cW ax ar ad cO) A) A) (by decide) rfl (Nat.le_of_ble_eq_true rfl) ?_
  intro p e s m below meth c A hx hb hr hml hown hts hlocks hname hK hE hA hP hD hS ls hl
  have hl : lv_has ls 6 [(0, .ref ax), (1, .int sz9)] := hl
  have hown : s.vm.findClass RX1 = some m.cls := hown
  have hi0 : ∀ w ∈ wsX00, w ∈ wsX1_countThatWouldLeave := (fun _ h => List.mem_cons_of_mem _ (List.mem_append_right _ h))
  have hi1 : ∀ w ∈ wsX10, w ∈ wsX1_countThatWouldLeave := (fun _ h => List.mem_cons_of_mem _ (List.mem_append_left _ (List.mem_append_right _ h)))
  generalize hH : s.heap = H at hP
  have hS : va_S A s.heap H [] := by rw [← hH]; exact va_S.rf
  generalize hlo : ([] : List Loc) = locs at hS
  refine lv_aload_n hx hb dX1_countThatWouldLeave_0 rfl (lv_at hl 0 rfl) ?_
  refine x_calli (va_runV (As := []) (rest := []) ⟨hx, hb, hml, hown, hts⟩ (k_X1_bytesNotOver l D ax ar ad cO H.size σ) (cwV 0 hts gX1_countThatWouldLeave_X1_bytesNotOver rfl rfl rfl (by decide +kernel) ⟨Nat.le_of_ble_eq_true rfl, Nat.le_of_ble_eq_true rfl⟩) (xPreV xE_ok hE hK hA hP hD hS (q0 := 0) (ci := 1) rfl rfl rfl) rfl rfl hl.1 rfl (lv_room (Nat.le_of_ble_eq_true rfl)) dX1_countThatWouldLeave_1 ⟨Nat.le_of_ble_eq_true rfl, Nat.le_of_ble_eq_true rfl⟩) hD hS hA (fun r u H locs hp hP hD hS => ?_)
  obtain ⟨rfl, hu9⟩ := hp
  rw [hu9] at hP hD
  refine lv_istore_n (lv' := [(2, .int (notO σ)), (0, .ref ax), (1, .int sz9)]) hx hb dX1_countThatWouldLeave_4 rfl hl (by decide) rfl (fun ls hl => ?_)
  refine lv_iconst (v := 0) hx hb dX1_countThatWouldLeave_5 (by decide) ?_
  refine lv_istore_n (lv' := [(3, .int 0), (2, .int (notO σ)), (0, .ref ax), (1, .int sz9)]) hx hb dX1_countThatWouldLeave_6 rfl hl (by decide) rfl (fun ls hl => ?_)
  refine lv_aload_n hx hb dX1_countThatWouldLeave_7 rfl (lv_at hl 2 rfl) ?_
  refine x_callq (va_runV (As := []) (rest := []) ⟨hx, hb, hml, hown, hts⟩ (k_X1_firstInOrder l D ax ar ad cO H.size σ) (cwV 0 hts gX1_countThatWouldLeave_X1_firstInOrder rfl rfl rfl (by decide +kernel) ⟨Nat.le_of_ble_eq_true rfl, Nat.le_of_ble_eq_true rfl⟩) (xPreV xE_ok hE hK hA hP hD hS (q0 := 0) (ci := 1) rfl rfl rfl) rfl rfl hl.1 rfl (lv_room (Nat.le_of_ble_eq_true rfl)) dX1_countThatWouldLeave_8 ⟨Nat.le_of_ble_eq_true rfl, Nat.le_of_ble_eq_true rfl⟩) hD hS hA (fun r u H locs hp hP hD hS => ?_)
  obtain ⟨rfl, hu9⟩ := hp
  rw [hu9] at hP hD
  refine x_astoreQ (lv' := [(4, va_rf ((nxt σ none).map ad)), (3, .int 0), (2, .int (notO σ)), (0, .ref ax), (1, .int sz9)]) hx hb dX1_countThatWouldLeave_11 hl (by decide) rfl (fun ls hl => ?_)
  refine lv_iconst (v := 0) hx hb dX1_countThatWouldLeave_13 (by decide) ?_
  refine lv_istore (lv' := [(5, .int 0), (4, va_rf ((nxt σ none).map ad)), (3, .int 0), (2, .int (notO σ)), (0, .ref ax), (1, .int sz9)]) hx hb dX1_countThatWouldLeave_14 hl (by decide) (by cases (nxt σ none) <;> rfl) (fun ls hl => ?_)
  obtain ⟨-, hN1, hN2, hN3⟩ := stopN_spec (wlOk σ sz9) 32 0
  have hN1 : wlE σ sz9 ≤ 32 := by have h := hN1; unfold wlE; omega
  have hN2 : ∀ j, j < wlE σ sz9 → wlOk σ sz9 j = true := fun j h => hN2 j (Nat.zero_le _) h
  have hN3 : wlE σ sz9 = 32 ∨ wlOk σ sz9 (wlE σ sz9) = false := by rw [Nat.zero_add] at hN3; exact hN3
  have loop : ∀ (n j : Nat) (ls : Array Slot) (H : Heap) (locs : List Loc), j ≤ wlE σ sz9 → wlE σ sz9 - j < n → va_P D vwCl (cW ax ar ad cO σ) H → va_D A (cW ax ar ad cO σ) → va_S A s.heap H locs → lv_has ls 6 [(0, .ref ax), (1, .int sz9), (2, .int ((wlI σ j).1)), (3, .int ((wlI σ j).2.1)), (4, va_rf (((wlI σ j).2.2).map ad)), (5, .int (nI j))] → W p l e (headSpec wsX1_countThatWouldLeave ({ frames := 3, cells := 0, slots := 0, locals := 90 } : Room)).room s m [.ref ax, .int sz9].toArray below meth c H locs 0 0 (MQ below (va_Qi (fun (r : Int32) (u : St) => r = cCount σ sz9 ∧ u = σ) (xB D (cT cO) (cW ax ar ad cO) A) A) [.ref ax, .int sz9].toArray s 0 0 A) (F0 m 16 ls []) := by
    intro n
    induction n with
    | zero =>
      intro j ls H locs h1 h2
      exact absurd h2 (by omega)
    | succ n ih =>
      intro j ls H locs hj hn hP hD hS hl
      have hj32 : j ≤ 32 := Nat.le_trans hj hN1
      refine lv_iload hx hb dX1_countThatWouldLeave_16 (lv_at hl 5 rfl) ?_
      refine lv_bipush (v := 32) hx hb dX1_countThatWouldLeave_18 (by decide) ?_
      refine x_icmp_ge (tgt := 72) hx hb dX1_countThatWouldLeave_20 (by decide) (fun c_1 => ?_) (fun c_1 => ?_)
      · have hjN : j = wlE σ sz9 := by
          rcases Nat.lt_or_ge j (wlE σ sz9) with q | q
          · exact absurd ((nI_lt32 hj32).mpr (Nat.lt_of_lt_of_le q hN1)) c_1
          · omega
        refine lv_iload_n hx hb dX1_countThatWouldLeave_72 rfl (lv_at hl 3 rfl) ?_
        exact x_iret hx hb hr hlocks hK (σ) hP hD hS ⟨by rw [cCount, ← hjN], rfl⟩ dX1_countThatWouldLeave_73
      · refine x_aloadQ hx hb dX1_countThatWouldLeave_23 (lv_at hl 4 rfl) ?_
        refine x_ifnullQ (tgt := 72) hx hb dX1_countThatWouldLeave_25 (by decide) (fun c_2 => ?_) (fun k_3 c_2 => ?_)
        · have hjN : j = wlE σ sz9 := by
            rcases Nat.lt_or_ge j (wlE σ sz9) with q | q
            · have h9 := hN2 j q
              rw [wlOk, c_2] at h9
              simp at h9
            · omega
          refine lv_iload_n hx hb dX1_countThatWouldLeave_72 rfl (lv_at hl 3 rfl) ?_
          exact x_iret hx hb hr hlocks hK (σ) hP hD hS ⟨by rw [cCount, ← hjN], rfl⟩ dX1_countThatWouldLeave_73
        · have hk_3 : k_3 < 32 := wlI_lt c_2
          refine lv_iload_n hx hb dX1_countThatWouldLeave_28 rfl (lv_at hl 2 rfl) ?_
          refine lv_aload_n hx hb dX1_countThatWouldLeave_29 rfl (lv_at hl 0 rfl) ?_
          refine c_get hx hb hts hi1 hown hK hP 3 (by decide) (List.mem_of_getElem? (i := 1) rfl) (v := .int (gI σ 3)) rfl dX1_countThatWouldLeave_30 (fun _ h => h) ?_
          refine lv_iload_n hx hb dX1_countThatWouldLeave_33 rfl (lv_at hl 1 rfl) ?_
          refine lv_isub hx hb dX1_countThatWouldLeave_34 ?_
          refine x_icmp_le (tgt := 72) hx hb dX1_countThatWouldLeave_35 (by decide) (fun c_4 => ?_) (fun c_4 => ?_)
          · have hjN : j = wlE σ sz9 := by
              rcases Nat.lt_or_ge j (wlE σ sz9) with q | q
              · have h9 := hN2 j q
                rw [wlOk, c_2] at h9
                simp [c_4] at h9
              · omega
            refine lv_iload_n hx hb dX1_countThatWouldLeave_72 rfl (lv_at hl 3 rfl) ?_
            exact x_iret hx hb hr hlocks hK (σ) hP hD hS ⟨by rw [cCount, ← hjN], rfl⟩ dX1_countThatWouldLeave_73
          · refine lv_aload_n hx hb dX1_countThatWouldLeave_38 rfl (lv_at hl 0 rfl) ?_
            refine x_aloadQ hx hb dX1_countThatWouldLeave_39 (lv_at hl 4 rfl) ?_
            refine W.eq (g2 := F0 m 41 ls [.ref (ad k_3), .ref ax]) (by rw [c_2]; rfl) ?_
            refine x_calli (va_runV (As := [.ref (ad k_3)]) (rest := []) ⟨hx, hb, hml, hown, hts⟩ (k_X1_hasEnded l D ax ar ad cO H.size σ hk_3) (cwV 1 hts gX1_countThatWouldLeave_X1_hasEnded rfl rfl rfl (by decide +kernel) ⟨Nat.le_of_ble_eq_true rfl, Nat.le_of_ble_eq_true rfl⟩) (xPreV xE_ok hE hK hA hP hD hS (q0 := 0) (ci := 1) rfl rfl rfl) rfl rfl hl.1 rfl (lv_room (Nat.le_of_ble_eq_true rfl)) dX1_countThatWouldLeave_41 ⟨Nat.le_of_ble_eq_true rfl, Nat.le_of_ble_eq_true rfl⟩) hD hS hA (fun r u H locs hp hP hD hS => ?_)
            obtain ⟨rfl, hu9⟩ := hp
            rw [hu9] at hP hD
            refine x_ifne (tgt := 58) hx hb dX1_countThatWouldLeave_44 (by decide) (fun c_5 => ?_) (fun c_5 => ?_)
            · refine lv_aload_n hx hb dX1_countThatWouldLeave_58 rfl (lv_at hl 0 rfl) ?_
              refine x_aloadQ hx hb dX1_countThatWouldLeave_59 (lv_at hl 4 rfl) ?_
              refine W.eq (g2 := F0 m 61 ls [.ref (ad k_3), .ref ax]) (by rw [c_2]; rfl) ?_
              refine x_callq (va_runV (As := [.ref (ad k_3)]) (rest := []) ⟨hx, hb, hml, hown, hts⟩ (k_X1_nextInOrder l D ax ar ad cO H.size σ (some k_3) (fun _ h => by cases h; exact hk_3)) (cwV 1 hts gX1_countThatWouldLeave_X1_nextInOrder rfl rfl rfl (by decide +kernel) ⟨Nat.le_of_ble_eq_true rfl, Nat.le_of_ble_eq_true rfl⟩) (xPreV xE_ok hE hK hA hP hD hS (q0 := 0) (ci := 1) rfl rfl rfl) rfl rfl hl.1 rfl (lv_room (Nat.le_of_ble_eq_true rfl)) dX1_countThatWouldLeave_61 ⟨Nat.le_of_ble_eq_true rfl, Nat.le_of_ble_eq_true rfl⟩) hD hS hA (fun r u H locs hp hP hD hS => ?_)
              obtain ⟨rfl, hu9⟩ := hp
              rw [hu9] at hP hD
              refine x_astoreQ (lv' := [(4, va_rf ((nxt σ (some k_3)).map ad)), (0, .ref ax), (1, .int sz9), (2, .int ((wlI σ j).1)), (3, .int ((wlI σ j).2.1)), (5, .int (nI j))]) hx hb dX1_countThatWouldLeave_64 hl (by decide) rfl (fun ls hl => ?_)
              refine lv_iinc (v := (nI j) + 1) (lv' := [(5, .int ((nI j) + 1)), (4, va_rf ((nxt σ (some k_3)).map ad)), (0, .ref ax), (1, .int sz9), (2, .int ((wlI σ j).1)), (3, .int ((wlI σ j).2.1))]) hx hb dX1_countThatWouldLeave_66 hl (k := 5) rfl rfl (by decide) (by cases (nxt σ (some k_3)) <;> rfl) (fun ls hl => ?_)
              refine lv_goto (tgt := 16) hx hb dX1_countThatWouldLeave_69 (by decide) ?_
              have hlt : j < wlE σ sz9 := by
                rcases Nat.lt_or_ge j (wlE σ sz9) with q | q
                · exact q
                · have hjN : j = wlE σ sz9 := by omega
                  rcases hN3 with h9 | h9
                  · exact absurd ((nI_lt32 hj32).mp c_1) (by omega)
                  · rw [← hjN, wlOk, c_2] at h9
                    simp [c_4] at h9
              have e9 : wlI σ (j + 1) = ((wlI σ j).1, (wlI σ j).2.1, nxt σ (some k_3)) := by
                rw [wlI_s, c_2]
                simp [c_5]
              exact ih (j + 1) ls H locs hlt (by omega) hP hD hS (by rw [nI_succ, e9]; exact lv_sub hl [2, 3, 4, 5, 1, 0] rfl)
            · refine lv_iload_n hx hb dX1_countThatWouldLeave_47 rfl (lv_at hl 2 rfl) ?_
              refine x_aloadQ hx hb dX1_countThatWouldLeave_48 (lv_at hl 4 rfl) ?_
              refine W.eq (g2 := F0 m 50 ls [.ref (ad k_3), .int ((wlI σ j).1)]) (by rw [c_2]; rfl) ?_
              refine s_get hx hb hts hi0 hown hK hE hP hk_3 3 (by decide) rfl (v := .int (gS σ 3 k_3)) rfl dX1_countThatWouldLeave_50 (fun _ h => h) ?_
              refine lv_isub hx hb dX1_countThatWouldLeave_53 ?_
              refine lv_istore_n (lv' := [(2, .int (((wlI σ j).1) - (gS σ 3 k_3))), (0, .ref ax), (1, .int sz9), (3, .int ((wlI σ j).2.1)), (4, va_rf (((wlI σ j).2.2).map ad)), (5, .int (nI j))]) hx hb dX1_countThatWouldLeave_54 rfl hl (by decide) rfl (fun ls hl => ?_)
              refine lv_iinc (v := ((wlI σ j).2.1) + 1) (lv' := [(3, .int (((wlI σ j).2.1) + 1)), (2, .int (((wlI σ j).1) - (gS σ 3 k_3))), (0, .ref ax), (1, .int sz9), (4, va_rf (((wlI σ j).2.2).map ad)), (5, .int (nI j))]) hx hb dX1_countThatWouldLeave_55 hl (k := 3) rfl rfl (by decide) rfl (fun ls hl => ?_)
              refine lv_aload_n hx hb dX1_countThatWouldLeave_58 rfl (lv_at hl 2 rfl) ?_
              refine x_aloadQ hx hb dX1_countThatWouldLeave_59 (lv_at hl 4 rfl) ?_
              refine W.eq (g2 := F0 m 61 ls [.ref (ad k_3), .ref ax]) (by rw [c_2]; rfl) ?_
              refine x_callq (va_runV (As := [.ref (ad k_3)]) (rest := []) ⟨hx, hb, hml, hown, hts⟩ (k_X1_nextInOrder l D ax ar ad cO H.size σ (some k_3) (fun _ h => by cases h; exact hk_3)) (cwV 1 hts gX1_countThatWouldLeave_X1_nextInOrder rfl rfl rfl (by decide +kernel) ⟨Nat.le_of_ble_eq_true rfl, Nat.le_of_ble_eq_true rfl⟩) (xPreV xE_ok hE hK hA hP hD hS (q0 := 0) (ci := 1) rfl rfl rfl) rfl rfl hl.1 rfl (lv_room (Nat.le_of_ble_eq_true rfl)) dX1_countThatWouldLeave_61 ⟨Nat.le_of_ble_eq_true rfl, Nat.le_of_ble_eq_true rfl⟩) hD hS hA (fun r u H locs hp hP hD hS => ?_)
              obtain ⟨rfl, hu9⟩ := hp
              rw [hu9] at hP hD
              refine x_astoreQ (lv' := [(4, va_rf ((nxt σ (some k_3)).map ad)), (3, .int (((wlI σ j).2.1) + 1)), (2, .int (((wlI σ j).1) - (gS σ 3 k_3))), (0, .ref ax), (1, .int sz9), (5, .int (nI j))]) hx hb dX1_countThatWouldLeave_64 hl (by decide) rfl (fun ls hl => ?_)
              refine lv_iinc (v := (nI j) + 1) (lv' := [(5, .int ((nI j) + 1)), (4, va_rf ((nxt σ (some k_3)).map ad)), (3, .int (((wlI σ j).2.1) + 1)), (2, .int (((wlI σ j).1) - (gS σ 3 k_3))), (0, .ref ax), (1, .int sz9)]) hx hb dX1_countThatWouldLeave_66 hl (k := 5) rfl rfl (by decide) (by cases (nxt σ (some k_3)) <;> rfl) (fun ls hl => ?_)
              refine lv_goto (tgt := 16) hx hb dX1_countThatWouldLeave_69 (by decide) ?_
              have hlt : j < wlE σ sz9 := by
                rcases Nat.lt_or_ge j (wlE σ sz9) with q | q
                · exact q
                · have hjN : j = wlE σ sz9 := by omega
                  rcases hN3 with h9 | h9
                  · exact absurd ((nI_lt32 hj32).mp c_1) (by omega)
                  · rw [← hjN, wlOk, c_2] at h9
                    simp [c_4] at h9
              have e9 : wlI σ (j + 1) = (((wlI σ j).1) - (gS σ 3 k_3), ((wlI σ j).2.1) + 1, nxt σ (some k_3)) := by
                rw [wlI_s, c_2]
                simp [c_5]
              exact ih (j + 1) ls H locs hlt (by omega) hP hD hS (by rw [nI_succ, e9]; exact lv_sub hl [4, 5, 3, 2, 1, 0] rfl)
  exact loop (wlE σ sz9 + 1) 0 _ _ _ (Nat.zero_le _) (by omega) hP hD hS (lv_sub hl [4, 5, 3, 2, 1, 0] rfl)
set_option maxHeartbeats 4000000 in
set_option maxRecDepth 100000 in
theorem k_X1_makeRoom (l : Launch) (D : va_G) (ax ar : Nat) (ad : Nat → Nat) (cO : ClassId) (sz : Nat) (σ : St) (sz9 : Int32) : Met l yX1_makeRoom wsX1_makeRoom ({ frames := 4, cells := 0, slots := 0, locals := 120 } : Room) (va_Pc [.ref ax, .int sz9] (xPre D (cT cO) xE (cW ax ar ad cO) σ sz)) (va_Qi (fun (r : Int32) (u : St) => r = bI (cRoom σ sz9).1 ∧ u = (cRoom σ sz9).2) (xB D (cT cO) (cW ax ar ad cO) (va_A (cW ax ar ad cO σ) sz)) (va_A (cW ax ar ad cO σ) sz)) 0 0 (va_A (cW ax ar ad cO σ) sz) := by
  refine xOpen (w := (cW ax ar ad cO)) (σ := σ) (cc := cX1_makeRoom) (maxL := 2) (ret := some .boolean) (QQ := fun A => va_Qi (fun (r : Int32) (u : St) => r = bI (cRoom σ sz9).1 ∧ u = (cRoom σ sz9).2) (xB D (cT cO) (cW ax ar ad cO) A) A) (by decide) rfl (Nat.le_of_ble_eq_true rfl) ?_
  intro p e s m below meth c A hx hb hr hml hown hts hlocks hname hK hE hA hP hD hS ls hl
  have hl : lv_has ls 2 [(0, .ref ax), (1, .int sz9)] := hl
  have hown : s.vm.findClass RX1 = some m.cls := hown
  have hi0 : ∀ w ∈ wsX00, w ∈ wsX1_makeRoom := (fun _ h => List.mem_cons_of_mem _ (List.mem_append_right _ h))
  have hi1 : ∀ w ∈ wsX10, w ∈ wsX1_makeRoom := (fun _ h => List.mem_cons_of_mem _ (List.mem_append_left _ (List.mem_append_right _ h)))
  generalize hH : s.heap = H at hP
  have hS : va_S A s.heap H [] := by rw [← hH]; exact va_S.rf
  generalize hlo : ([] : List Loc) = locs at hS
  refine lv_aload_n hx hb dX1_makeRoom_0 rfl (lv_at hl 0 rfl) ?_
  refine lv_iload_n hx hb dX1_makeRoom_1 rfl (lv_at hl 1 rfl) ?_
  refine x_calli (va_runV (As := [.int sz9]) (rest := []) ⟨hx, hb, hml, hown, hts⟩ (k_X1_hasRoom l D ax ar ad cO H.size σ sz9) (cwV 1 hts gX1_makeRoom_X1_hasRoom rfl rfl rfl (by decide +kernel) ⟨Nat.le_of_ble_eq_true rfl, Nat.le_of_ble_eq_true rfl⟩) (xPreV xE_ok hE hK hA hP hD hS (q0 := 0) (ci := 1) rfl rfl rfl) rfl rfl hl.1 rfl (lv_room (Nat.le_of_ble_eq_true rfl)) dX1_makeRoom_2 ⟨Nat.le_of_ble_eq_true rfl, Nat.le_of_ble_eq_true rfl⟩) hD hS hA (fun r u H locs hp hP hD hS => ?_)
  obtain ⟨rfl, hu9⟩ := hp
  rw [hu9] at hP hD
  refine x_ifeq (tgt := 10) hx hb dX1_makeRoom_5 (by decide) (fun c_1 => ?_) (fun c_1 => ?_)
  · refine lv_aload_n hx hb dX1_makeRoom_10 rfl (lv_at hl 0 rfl) ?_
    refine x_calli (va_runV (As := []) (rest := []) ⟨hx, hb, hml, hown, hts⟩ (k_X1_removeAllOver l D ax ar ad cO H.size σ) (cwV 0 hts gX1_makeRoom_X1_removeAllOver rfl rfl rfl (by decide +kernel) ⟨Nat.le_of_ble_eq_true rfl, Nat.le_of_ble_eq_true rfl⟩) (xPreV xE_ok hE hK hA hP hD hS (q0 := 0) (ci := 1) rfl rfl rfl) rfl rfl hl.1 rfl (lv_room (Nat.le_of_ble_eq_true rfl)) dX1_makeRoom_11 ⟨Nat.le_of_ble_eq_true rfl, Nat.le_of_ble_eq_true rfl⟩) hD hS hA (fun r u H locs hp hP hD hS => ?_)
    obtain ⟨rfl, hu9⟩ := hp
    rw [hu9] at hP hD
    refine lv_pop hx hb dX1_makeRoom_14 rfl ?_
    refine lv_iload_n hx hb dX1_makeRoom_15 rfl (lv_at hl 1 rfl) ?_
    refine lv_aload_n hx hb dX1_makeRoom_16 rfl (lv_at hl 0 rfl) ?_
    refine c_get hx hb hts hi1 hown hK hP 3 (by decide) (List.mem_of_getElem? (i := 1) rfl) (v := .int (gI (rmO σ) 3)) rfl dX1_makeRoom_17 (fun _ h => h) ?_
    refine lv_aload_n hx hb dX1_makeRoom_20 rfl (lv_at hl 0 rfl) ?_
    refine x_calli (va_runV (As := []) (rest := [.int (gI (rmO σ) 3), .int sz9]) ⟨hx, hb, hml, hown, hts⟩ (k_X1_bytesThatCannotLeave l D ax ar ad cO H.size (rmO σ)) (cwV 0 hts gX1_makeRoom_X1_bytesThatCannotLeave rfl rfl rfl (by decide +kernel) ⟨Nat.le_of_ble_eq_true rfl, Nat.le_of_ble_eq_true rfl⟩) (xPreV xE_ok hE hK hA hP hD hS (q0 := 0) (ci := 1) rfl rfl rfl) rfl rfl hl.1 rfl (lv_room (Nat.le_of_ble_eq_true rfl)) dX1_makeRoom_21 ⟨Nat.le_of_ble_eq_true rfl, Nat.le_of_ble_eq_true rfl⟩) hD hS hA (fun r u H locs hp hP hD hS => ?_)
    obtain ⟨rfl, hu9⟩ := hp
    rw [hu9] at hP hD
    refine lv_isub hx hb dX1_makeRoom_24 ?_
    refine x_icmp_le (tgt := 30) hx hb dX1_makeRoom_25 (by decide) (fun c_2 => ?_) (fun c_2 => ?_)
    · refine lv_aload_n hx hb dX1_makeRoom_30 rfl (lv_at hl 0 rfl) ?_
      refine lv_aload_n hx hb dX1_makeRoom_31 rfl (lv_at hl 0 rfl) ?_
      refine c_get hx hb hts hi1 hown hK hP 3 (by decide) (List.mem_of_getElem? (i := 1) rfl) (v := .int (gI (rmO σ) 3)) rfl dX1_makeRoom_32 (fun _ h => h) ?_
      refine lv_iload_n hx hb dX1_makeRoom_35 rfl (lv_at hl 1 rfl) ?_
      refine lv_isub hx hb dX1_makeRoom_36 ?_
      refine x_calli (va_runV (As := [.int ((gI (rmO σ) 3) - sz9)]) (rest := []) ⟨hx, hb, hml, hown, hts⟩ (k_X1_leaveDownTo l D ax ar ad cO H.size (rmO σ) ((gI (rmO σ) 3) - sz9)) (cwV 1 hts gX1_makeRoom_X1_leaveDownTo rfl rfl rfl (by decide +kernel) ⟨Nat.le_of_ble_eq_true rfl, Nat.le_of_ble_eq_true rfl⟩) (xPreV xE_ok hE hK hA hP hD hS (q0 := 0) (ci := 1) rfl rfl rfl) rfl rfl hl.1 rfl (lv_room (Nat.le_of_ble_eq_true rfl)) dX1_makeRoom_37 ⟨Nat.le_of_ble_eq_true rfl, Nat.le_of_ble_eq_true rfl⟩) hD hS hA (fun r u H locs hp hP hD hS => ?_)
      obtain ⟨rfl, hu9⟩ := hp
      rw [hu9] at hP hD
      refine lv_pop hx hb dX1_makeRoom_40 rfl ?_
      refine lv_iconst (v := 1) hx hb dX1_makeRoom_41 (by decide) ?_
      exact x_zret (b := true) hx hb hr hlocks hK (lvD ((gI (rmO σ) 3) - sz9) (rmO σ)) hP hD hS ⟨by simp [cRoom, c_1, c_2], by simp [cRoom, c_1, c_2]⟩ dX1_makeRoom_42
    · refine lv_iconst (v := 0) hx hb dX1_makeRoom_28 (by decide) ?_
      exact x_zret (b := false) hx hb hr hlocks hK (rmO σ) hP hD hS ⟨by simp [cRoom, c_1, c_2], by simp [cRoom, c_1, c_2]⟩ dX1_makeRoom_29
  · refine lv_iconst (v := 1) hx hb dX1_makeRoom_8 (by decide) ?_
    exact x_zret (b := true) hx hb hr hlocks hK (σ) hP hD hS ⟨by simp [cRoom, c_1], by simp [cRoom, c_1]⟩ dX1_makeRoom_9
set_option maxHeartbeats 4000000 in
set_option maxRecDepth 100000 in
theorem k_X1_letInIfPossible (l : Launch) (D : va_G) (ax ar : Nat) (ad : Nat → Nat) (cO : ClassId) (sz : Nat) (σ : St) {k : Nat} (sz9 pr lf : Int32) (hk : k < 32) : Met l yX1_letInIfPossible wsX1_letInIfPossible ({ frames := 5, cells := 0, slots := 0, locals := 150 } : Room) (va_Pc [.ref ax, .ref (ad k), .int sz9, .int pr, .int lf] (xPre D (cT cO) xE (cW ax ar ad cO) σ sz)) (va_Qi (fun (r : Int32) (u : St) => r = bI (cLetIn σ k sz9 pr lf).1 ∧ u = (cLetIn σ k sz9 pr lf).2) (xB D (cT cO) (cW ax ar ad cO) (va_A (cW ax ar ad cO σ) sz)) (va_A (cW ax ar ad cO σ) sz)) 0 0 (va_A (cW ax ar ad cO σ) sz) := by
  refine xOpen (w := (cW ax ar ad cO)) (σ := σ) (cc := cX1_letInIfPossible) (maxL := 6) (ret := some .boolean) (QQ := fun A => va_Qi (fun (r : Int32) (u : St) => r = bI (cLetIn σ k sz9 pr lf).1 ∧ u = (cLetIn σ k sz9 pr lf).2) (xB D (cT cO) (cW ax ar ad cO) A) A) (by decide) rfl (Nat.le_of_ble_eq_true rfl) ?_
  intro p e s m below meth c A hx hb hr hml hown hts hlocks hname hK hE hA hP hD hS ls hl
  have hl : lv_has ls 6 [(0, .ref ax), (1, .ref (ad k)), (2, .int sz9), (3, .int pr), (4, .int lf)] := hl
  have hown : s.vm.findClass RX1 = some m.cls := hown
  have hi0 : ∀ w ∈ wsX00, w ∈ wsX1_letInIfPossible := (fun _ h => List.mem_cons_of_mem _ (List.mem_append_right _ h))
  have hi1 : ∀ w ∈ wsX10, w ∈ wsX1_letInIfPossible := (fun _ h => List.mem_cons_of_mem _ (List.mem_append_left _ (List.mem_append_right _ h)))
  generalize hH : s.heap = H at hP
  have hS : va_S A s.heap H [] := by rw [← hH]; exact va_S.rf
  generalize hlo : ([] : List Loc) = locs at hS
  refine lv_aload_n hx hb dX1_letInIfPossible_0 rfl (lv_at hl 0 rfl) ?_
  refine lv_aload_n hx hb dX1_letInIfPossible_1 rfl (lv_at hl 1 rfl) ?_
  refine x_calli (va_runV (As := [.ref (ad k)]) (rest := []) ⟨hx, hb, hml, hown, hts⟩ (k_X1_wasMissedLately l D ax ar ad cO H.size σ hk) (cwV 1 hts gX1_letInIfPossible_X1_wasMissedLately rfl rfl rfl (by decide +kernel) ⟨Nat.le_of_ble_eq_true rfl, Nat.le_of_ble_eq_true rfl⟩) (xPreV xE_ok hE hK hA hP hD hS (q0 := 0) (ci := 1) rfl rfl rfl) rfl rfl hl.1 rfl (lv_room (Nat.le_of_ble_eq_true rfl)) dX1_letInIfPossible_2 ⟨Nat.le_of_ble_eq_true rfl, Nat.le_of_ble_eq_true rfl⟩) hD hS hA (fun r u H locs hp hP hD hS => ?_)
  obtain ⟨rfl, hu9⟩ := hp
  rw [hu9] at hP hD
  refine lv_istore (lv' := [(5, .int (bI (cLate σ k))), (0, .ref ax), (1, .ref (ad k)), (2, .int sz9), (3, .int pr), (4, .int lf)]) hx hb dX1_letInIfPossible_5 hl (by decide) rfl (fun ls hl => ?_)
  refine lv_aload_n hx hb dX1_letInIfPossible_7 rfl (lv_at hl 2 rfl) ?_
  refine lv_aload_n hx hb dX1_letInIfPossible_8 rfl (lv_at hl 1 rfl) ?_
  refine c_get hx hb hts hi1 hown hK hP 1 (by decide) (List.mem_of_getElem? (i := 1) rfl) (v := .int (gI σ 1)) rfl dX1_letInIfPossible_9 (fun _ h => h) ?_
  refine s_put hx hb hts hi0 hown hK hE hP hD hS hk 8 (by decide) rfl (v := .int (gI σ 1)) (ty := .int) (uS σ 8 k (gI σ 1)) ((sF_self σ k).2.2.2.1 _) (fun i9 hi9 => (sF_other σ hi9).2.2.2.1 _) (cF_uS _ _ _ _ _) rfl (by decide +kernel) rfl rfl dX1_letInIfPossible_12 (fun _ h => h) (fun H locs hP hD hS => ?_)
  refine lv_aload_n hx hb dX1_letInIfPossible_15 rfl (lv_at hl 1 rfl) ?_
  refine lv_aload_n hx hb dX1_letInIfPossible_16 rfl (lv_at hl 2 rfl) ?_
  refine x_callv (va_runV (As := [.ref (ad k)]) (rest := []) ⟨hx, hb, hml, hown, hts⟩ (k_X1_removeOwn l D ax ar ad cO H.size (uS σ 8 k (gI σ 1)) hk) (cwV 1 hts gX1_letInIfPossible_X1_removeOwn rfl rfl rfl (by decide +kernel) ⟨Nat.le_of_ble_eq_true rfl, Nat.le_of_ble_eq_true rfl⟩) (xPreV xE_ok hE hK hA hP hD hS (q0 := 0) (ci := 1) rfl rfl rfl) rfl rfl hl.1 rfl (lv_room (Nat.le_of_ble_eq_true rfl)) dX1_letInIfPossible_17 ⟨Nat.le_of_ble_eq_true rfl, Nat.le_of_ble_eq_true rfl⟩) hD hS hA (fun u H locs hp hP hD hS => ?_)
  rw [hp] at hP hD
  refine lv_iload_n hx hb dX1_letInIfPossible_20 rfl (lv_at hl 3 rfl) ?_
  refine lv_aload_n hx hb dX1_letInIfPossible_21 rfl (lv_at hl 1 rfl) ?_
  refine c_get hx hb hts hi1 hown hK hP 3 (by decide) (List.mem_of_getElem? (i := 2) rfl) (v := .int (gI (cRmOwn (uS σ 8 k (gI σ 1)) k) 3)) rfl dX1_letInIfPossible_22 (fun _ h => h) ?_
  refine lv_icmp_gt (tgt := 49) hx hb dX1_letInIfPossible_25 (by decide) (fun c_1 => ?_) (fun c_1 => ?_)
  · refine lv_iconst (v := 0) hx hb dX1_letInIfPossible_49 (by decide) ?_
    exact x_zret (b := false) hx hb hr hlocks hK (cRmOwn (uS σ 8 k (gI σ 1)) k) hP hD hS ⟨by simp [cLetIn, c_1], by simp [cLetIn, c_1]⟩ dX1_letInIfPossible_50
  · refine lv_iload_n hx hb dX1_letInIfPossible_28 rfl (lv_at hl 3 rfl) ?_
    refine lv_aload_n hx hb dX1_letInIfPossible_29 rfl (lv_at hl 1 rfl) ?_
    refine c_get hx hb hts hi1 hown hK hP 4 (by decide) (List.mem_of_getElem? (i := 3) rfl) (v := .int (gI (cRmOwn (uS σ 8 k (gI σ 1)) k) 4)) rfl dX1_letInIfPossible_30 (fun _ h => h) ?_
    refine x_icmp_le (tgt := 41) hx hb dX1_letInIfPossible_33 (by decide) (fun c_2 => ?_) (fun c_2 => ?_)
    · refine lv_aload_n hx hb dX1_letInIfPossible_41 rfl (lv_at hl 1 rfl) ?_
      refine lv_iload_n hx hb dX1_letInIfPossible_42 rfl (lv_at hl 3 rfl) ?_
      refine x_calli (va_runV (As := [.int sz9]) (rest := []) ⟨hx, hb, hml, hown, hts⟩ (k_X1_makeRoom l D ax ar ad cO H.size (cRmOwn (uS σ 8 k (gI σ 1)) k) sz9) (cwV 1 hts gX1_letInIfPossible_X1_makeRoom rfl rfl rfl (by decide +kernel) ⟨Nat.le_of_ble_eq_true rfl, Nat.le_of_ble_eq_true rfl⟩) (xPreV xE_ok hE hK hA hP hD hS (q0 := 0) (ci := 1) rfl rfl rfl) rfl rfl hl.1 rfl (lv_room (Nat.le_of_ble_eq_true rfl)) dX1_letInIfPossible_43 ⟨Nat.le_of_ble_eq_true rfl, Nat.le_of_ble_eq_true rfl⟩) hD hS hA (fun r u H locs hp hP hD hS => ?_)
      obtain ⟨rfl, hu9⟩ := hp
      rw [hu9] at hP hD
      refine x_ifne (tgt := 51) hx hb dX1_letInIfPossible_46 (by decide) (fun c_3 => ?_) (fun c_3 => ?_)
      · refine lv_aload_n hx hb dX1_letInIfPossible_51 rfl (lv_at hl 1 rfl) ?_
        refine lv_aload_n hx hb dX1_letInIfPossible_52 rfl (lv_at hl 2 rfl) ?_
        refine lv_iload_n hx hb dX1_letInIfPossible_53 rfl (lv_at hl 3 rfl) ?_
        refine lv_iload_n hx hb dX1_letInIfPossible_54 rfl (lv_at hl 4 rfl) ?_
        refine lv_iload hx hb dX1_letInIfPossible_55 (lv_at hl 5 rfl) ?_
        refine x_callv (va_runV (As := [.ref (ad k), .int sz9, .int pr, .int lf]) (rest := []) ⟨hx, hb, hml, hown, hts⟩ (k_X1_fill l D ax ar ad cO H.size ((cRoom (cRmOwn (uS σ 8 k (gI σ 1)) k) sz9).2) sz9 pr lf hk) (cwV 4 hts gX1_letInIfPossible_X1_fill rfl rfl rfl (by decide +kernel) ⟨Nat.le_of_ble_eq_true rfl, Nat.le_of_ble_eq_true rfl⟩) (xPreV xE_ok hE hK hA hP hD hS (q0 := 0) (ci := 1) rfl rfl rfl) rfl rfl hl.1 rfl (lv_room (Nat.le_of_ble_eq_true rfl)) dX1_letInIfPossible_57 ⟨Nat.le_of_ble_eq_true rfl, Nat.le_of_ble_eq_true rfl⟩) hD hS hA (fun u H locs hp hP hD hS => ?_)
        rw [hp] at hP hD
        refine lv_iconst (v := 1) hx hb dX1_letInIfPossible_60 (by decide) ?_
        exact x_zret (b := true) hx hb hr hlocks hK (cFill ((cRoom (cRmOwn (uS σ 8 k (gI σ 1)) k) sz9).2) k sz9 pr lf) hP hD hS ⟨by simp [cLetIn, c_1, c_2, c_3], by simp [cLetIn, c_1, c_2, c_3]⟩ dX1_letInIfPossible_61
      · refine lv_iconst (v := 0) hx hb dX1_letInIfPossible_49 (by decide) ?_
        exact x_zret (b := false) hx hb hr hlocks hK ((cRoom (cRmOwn (uS σ 8 k (gI σ 1)) k) sz9).2) hP hD hS ⟨by simp [cLetIn, c_1, c_2, c_3], by simp [cLetIn, c_1, c_2, c_3]⟩ dX1_letInIfPossible_50
    · refine lv_iload hx hb dX1_letInIfPossible_36 (lv_at hl 0 rfl) ?_
      refine x_ifeq (tgt := 49) hx hb dX1_letInIfPossible_38 (by decide) (fun c_4 => ?_) (fun c_4 => ?_)
      · refine lv_iconst (v := 0) hx hb dX1_letInIfPossible_49 (by decide) ?_
        exact x_zret (b := false) hx hb hr hlocks hK (cRmOwn (uS σ 8 k (gI σ 1)) k) hP hD hS ⟨by simp [cLetIn, c_1, c_2, c_4], by simp [cLetIn, c_1, c_2, c_4]⟩ dX1_letInIfPossible_50
      · refine lv_aload_n hx hb dX1_letInIfPossible_41 rfl (lv_at hl 1 rfl) ?_
        refine lv_iload_n hx hb dX1_letInIfPossible_42 rfl (lv_at hl 3 rfl) ?_
        refine x_calli (va_runV (As := [.int sz9]) (rest := []) ⟨hx, hb, hml, hown, hts⟩ (k_X1_makeRoom l D ax ar ad cO H.size (cRmOwn (uS σ 8 k (gI σ 1)) k) sz9) (cwV 1 hts gX1_letInIfPossible_X1_makeRoom rfl rfl rfl (by decide +kernel) ⟨Nat.le_of_ble_eq_true rfl, Nat.le_of_ble_eq_true rfl⟩) (xPreV xE_ok hE hK hA hP hD hS (q0 := 0) (ci := 1) rfl rfl rfl) rfl rfl hl.1 rfl (lv_room (Nat.le_of_ble_eq_true rfl)) dX1_letInIfPossible_43 ⟨Nat.le_of_ble_eq_true rfl, Nat.le_of_ble_eq_true rfl⟩) hD hS hA (fun r u H locs hp hP hD hS => ?_)
        obtain ⟨rfl, hu9⟩ := hp
        rw [hu9] at hP hD
        refine x_ifne (tgt := 51) hx hb dX1_letInIfPossible_46 (by decide) (fun c_5 => ?_) (fun c_5 => ?_)
        · refine lv_aload_n hx hb dX1_letInIfPossible_51 rfl (lv_at hl 1 rfl) ?_
          refine lv_aload_n hx hb dX1_letInIfPossible_52 rfl (lv_at hl 2 rfl) ?_
          refine lv_iload_n hx hb dX1_letInIfPossible_53 rfl (lv_at hl 3 rfl) ?_
          refine lv_iload_n hx hb dX1_letInIfPossible_54 rfl (lv_at hl 4 rfl) ?_
          refine lv_iload hx hb dX1_letInIfPossible_55 (lv_at hl 5 rfl) ?_
          refine x_callv (va_runV (As := [.ref (ad k), .int sz9, .int pr, .int lf]) (rest := []) ⟨hx, hb, hml, hown, hts⟩ (k_X1_fill l D ax ar ad cO H.size ((cRoom (cRmOwn (uS σ 8 k (gI σ 1)) k) sz9).2) sz9 pr lf hk) (cwV 4 hts gX1_letInIfPossible_X1_fill rfl rfl rfl (by decide +kernel) ⟨Nat.le_of_ble_eq_true rfl, Nat.le_of_ble_eq_true rfl⟩) (xPreV xE_ok hE hK hA hP hD hS (q0 := 0) (ci := 1) rfl rfl rfl) rfl rfl hl.1 rfl (lv_room (Nat.le_of_ble_eq_true rfl)) dX1_letInIfPossible_57 ⟨Nat.le_of_ble_eq_true rfl, Nat.le_of_ble_eq_true rfl⟩) hD hS hA (fun u H locs hp hP hD hS => ?_)
          rw [hp] at hP hD
          refine lv_iconst (v := 1) hx hb dX1_letInIfPossible_60 (by decide) ?_
          exact x_zret (b := true) hx hb hr hlocks hK (cFill ((cRoom (cRmOwn (uS σ 8 k (gI σ 1)) k) sz9).2) k sz9 pr lf) hP hD hS ⟨by simp [cLetIn, c_1, c_2, c_4, c_5], by simp [cLetIn, c_1, c_2, c_4, c_5]⟩ dX1_letInIfPossible_61
        · refine lv_iconst (v := 0) hx hb dX1_letInIfPossible_49 (by decide) ?_
          exact x_zret (b := false) hx hb hr hlocks hK ((cRoom (cRmOwn (uS σ 8 k (gI σ 1)) k) sz9).2) hP hD hS ⟨by simp [cLetIn, c_1, c_2, c_4, c_5], by simp [cLetIn, c_1, c_2, c_4, c_5]⟩ dX1_letInIfPossible_50
end
section
set_option maxHeartbeats 4000000 in
set_option maxRecDepth 100000 in
theorem k_X1_requireWithin (l : Launch) (D : va_G) (ax ar : Nat) (ad : Nat → Nat) (cO : ClassId) (sz : Nat) (σ : St) (t a b : Int32) (hfl : l.stackTraces = false) : vx_Met l yX1_requireWithin wsX1_requireWithin ({ frames := 6, cells := 1, slots := 6, locals := 90 } : Room) (va_Pc [.int t, .int a, .int b] (xPre D (cT cO) xE (cW ax ar ad cO) σ sz)) (va_Qv (fun (u : St) => inR t a b = true ∧ u = σ) (xB D (cT cO) (cW ax ar ad cO) (va_A (cW ax ar ad cO σ) sz)) (va_A (cW ax ar ad cO σ) sz)) (xXC D (cT cO) (cW ax ar ad cO) (va_A (cW ax ar ad cO σ) sz) σ (fun En => En = xIA ∧ inR t a b = false)) 1 6 (va_A (cW ax ar ad cO σ) sz) := by
  refine xxOpen (w := (cW ax ar ad cO)) (σ := σ) (cc := cX1_requireWithin) (maxL := 3) (ret := none) (QQ := fun A => va_Qv (fun (u : St) => inR t a b = true ∧ u = σ) (xB D (cT cO) (cW ax ar ad cO) A) A) (XX := fun A => xXC D (cT cO) (cW ax ar ad cO) A σ (fun En => En = xIA ∧ inR t a b = false)) (by decide) rfl (Nat.le_of_ble_eq_true rfl) ?_
  intro p e s m below meth c A hx hb hr hml hown hts hlocks htab hK hE hA hP hD hS ls hl
  have hl : lv_has ls 3 [(0, .int t), (1, .int a), (2, .int b)] := hl
  have hown : s.vm.findClass RX1 = some m.cls := hown
  generalize hH : s.heap = H at hP
  have hS : va_S A s.heap H [] := by rw [← hH]; exact va_S.rf
  generalize hlo : ([] : List Loc) = locs at hS
  refine lv_iload_n hx hb dX1_requireWithin_0 rfl (lv_at hl 0 rfl) ?_
  refine lv_iload_n hx hb dX1_requireWithin_1 rfl (lv_at hl 1 rfl) ?_
  refine lv_icmp_lt (tgt := 10) hx hb dX1_requireWithin_2 (by decide) (fun c_1 => ?_) (fun c_1 => ?_)
  · obtain ⟨sa, hsa⟩ := hE.1.2.1 (153, "an argument is out of its range") (List.mem_of_getElem? (i := 1) rfl)
    exact vx_throwS (A := A) (text := "an argument is out of its range") (names := ["java/lang/RuntimeException", "java/lang/Exception"]) (sa := sa) hx hb hfl hown (by decide +kernel) (by decide +kernel) (hts _ (List.mem_of_getElem? (i := 1) rfl)) (hts _ (List.mem_of_getElem? (i := 2) rfl)) hsa (hat_IA (fun w h => hts w (List.mem_cons_of_mem _ (List.mem_append_right _ h))) hE.1) hgd_IA hE.2.1 hE.2.2 hS (hl.1.trans hml.symm) dX1_requireWithin_10 dX1_requireWithin_13 dX1_requireWithin_14 dX1_requireWithin_16 dX1_requireWithin_19 (fun x hx => (htab x hx).elim) (Nat.le_of_ble_eq_true rfl) (Nat.le_of_ble_eq_true rfl) (Nat.le_of_ble_eq_true rfl) (Nat.le_of_ble_eq_true rfl) hlocks (fun t9 hvm9 hz9 hk9 => x_thr hK hP hD hS (⟨rfl, by simp [inR, c_1]⟩) hvm9 hz9 hk9) hS.2.2 (Nat.le_of_ble_eq_true rfl) (Nat.le_of_ble_eq_true rfl)
  · refine lv_iload_n hx hb dX1_requireWithin_5 rfl (lv_at hl 0 rfl) ?_
    refine lv_iload_n hx hb dX1_requireWithin_6 rfl (lv_at hl 2 rfl) ?_
    refine x_icmp_le (tgt := 20) hx hb dX1_requireWithin_7 (by decide) (fun c_2 => ?_) (fun c_2 => ?_)
    · refine vx_ret ?_
      refine W.widen (k := 1) (n := 6) (by decide) (by decide) ?_
      exact x_vret hx hb hr hlocks hK (σ) hP hD hS ⟨by simp [inR, c_1, c_2], rfl⟩ dX1_requireWithin_20
    · obtain ⟨sa, hsa⟩ := hE.1.2.1 (153, "an argument is out of its range") (List.mem_of_getElem? (i := 1) rfl)
      exact vx_throwS (A := A) (text := "an argument is out of its range") (names := ["java/lang/RuntimeException", "java/lang/Exception"]) (sa := sa) hx hb hfl hown (by decide +kernel) (by decide +kernel) (hts _ (List.mem_of_getElem? (i := 1) rfl)) (hts _ (List.mem_of_getElem? (i := 2) rfl)) hsa (hat_IA (fun w h => hts w (List.mem_cons_of_mem _ (List.mem_append_right _ h))) hE.1) hgd_IA hE.2.1 hE.2.2 hS (hl.1.trans hml.symm) dX1_requireWithin_10 dX1_requireWithin_13 dX1_requireWithin_14 dX1_requireWithin_16 dX1_requireWithin_19 (fun x hx => (htab x hx).elim) (Nat.le_of_ble_eq_true rfl) (Nat.le_of_ble_eq_true rfl) (Nat.le_of_ble_eq_true rfl) (Nat.le_of_ble_eq_true rfl) hlocks (fun t9 hvm9 hz9 hk9 => x_thr hK hP hD hS (⟨rfl, by simp [inR, c_1, c_2]⟩) hvm9 hz9 hk9) hS.2.2 (Nat.le_of_ble_eq_true rfl) (Nat.le_of_ble_eq_true rfl)
set_option maxHeartbeats 4000000 in
set_option maxRecDepth 100000 in
theorem k_X1_slotOf (l : Launch) (D : va_G) (ax ar : Nat) (ad : Nat → Nat) (cO : ClassId) (sz : Nat) (σ : St) (t : Int32) (hfl : l.stackTraces = false) : vx_Met l yX1_slotOf wsX1_slotOf ({ frames := 6, cells := 1, slots := 6, locals := 90 } : Room) (va_Pc [.ref ax, .int t] (xPre D (cT cO) xE (cW ax ar ad cO) σ sz)) (va_Qq (fun (r : Option Nat) (u : St) => isT t = true ∧ (∀ k, k < 32 → t = nI k → r = some (ad k)) ∧ u = σ) (xB D (cT cO) (cW ax ar ad cO) (va_A (cW ax ar ad cO σ) sz)) (va_A (cW ax ar ad cO σ) sz)) (xXC D (cT cO) (cW ax ar ad cO) (va_A (cW ax ar ad cO σ) sz) σ (fun En => En = xIO ∧ isT t = false)) 1 6 (va_A (cW ax ar ad cO σ) sz) := by
  refine xxOpen (w := (cW ax ar ad cO)) (σ := σ) (cc := cX1_slotOf) (maxL := 2) (ret := some (.object "WorthCache$Slot")) (QQ := fun A => va_Qq (fun (r : Option Nat) (u : St) => isT t = true ∧ (∀ k, k < 32 → t = nI k → r = some (ad k)) ∧ u = σ) (xB D (cT cO) (cW ax ar ad cO) A) A) (XX := fun A => xXC D (cT cO) (cW ax ar ad cO) A σ (fun En => En = xIO ∧ isT t = false)) (by decide) rfl (Nat.le_of_ble_eq_true rfl) ?_
  intro p e s m below meth c A hx hb hr hml hown hts hlocks htab hK hE hA hP hD hS ls hl
  have hl : lv_has ls 2 [(0, .ref ax), (1, .int t)] := hl
  have hown : s.vm.findClass RX1 = some m.cls := hown
  have hi1 : ∀ w ∈ wsX10, w ∈ wsX1_slotOf := (fun _ h => List.mem_cons_of_mem _ (List.mem_append_left _ (List.mem_append_right _ h)))
  generalize hH : s.heap = H at hP
  have hS : va_S A s.heap H [] := by rw [← hH]; exact va_S.rf
  generalize hlo : ([] : List Loc) = locs at hS
  refine lv_iload_n hx hb dX1_slotOf_0 rfl (lv_at hl 1 rfl) ?_
  refine lv_if_lt (tgt := 13) hx hb dX1_slotOf_1 (by decide) (fun c_1 => ?_) (fun c_1 => ?_)
  · obtain ⟨sa, hsa⟩ := hE.1.2.1 (147, "no such thing") (List.mem_of_getElem? (i := 0) rfl)
    exact vx_throwS (A := A) (text := "no such thing") (names := ["java/lang/RuntimeException", "java/lang/Exception"]) (sa := sa) hx hb hfl hown (by decide +kernel) (by decide +kernel) (hts _ (List.mem_of_getElem? (i := 1) rfl)) (hts _ (List.mem_of_getElem? (i := 2) rfl)) hsa (hat_IO (fun w h => hts w (List.mem_cons_of_mem _ (List.mem_append_right _ h))) hE.1) hgd_IO hE.2.1 hE.2.2 hS (hl.1.trans hml.symm) dX1_slotOf_13 dX1_slotOf_16 dX1_slotOf_17 dX1_slotOf_19 dX1_slotOf_22 (fun x hx => (htab x hx).elim) (Nat.le_of_ble_eq_true rfl) (Nat.le_of_ble_eq_true rfl) (Nat.le_of_ble_eq_true rfl) (Nat.le_of_ble_eq_true rfl) hlocks (fun t9 hvm9 hz9 hk9 => x_thr hK hP hD hS (⟨rfl, by simp [isT, c_1]⟩) hvm9 hz9 hk9) hS.2.2 (Nat.le_of_ble_eq_true rfl) (Nat.le_of_ble_eq_true rfl)
  · refine lv_iload_n hx hb dX1_slotOf_4 rfl (lv_at hl 1 rfl) ?_
    refine lv_aload_n hx hb dX1_slotOf_5 rfl (lv_at hl 0 rfl) ?_
    refine c_get hx hb hts hi1 hown hK hP 0 (by decide) (List.mem_of_getElem? (i := 3) rfl) (v := .ref ar) rfl dX1_slotOf_6 (fun _ h => h) ?_
    refine c_alen hx hb hK hP dX1_slotOf_9 ?_
    refine lv_icmp_lt (tgt := 23) hx hb dX1_slotOf_10 (by decide) (fun c_2 => ?_) (fun c_2 => ?_)
    · have hT : isT t = true := by simp [isT, c_1, c_2]
      obtain ⟨k, hk, rfl⟩ := isT_nI hT
      refine lv_aload_n hx hb dX1_slotOf_23 rfl (lv_at hl 0 rfl) ?_
      refine c_get hx hb hts hi1 hown hK hP 0 (by decide) (List.mem_of_getElem? (i := 3) rfl) (v := .ref ar) rfl dX1_slotOf_24 (fun _ h => h) ?_
      refine lv_iload_n hx hb dX1_slotOf_27 rfl (lv_at hl 1 rfl) ?_
      refine c_aald hx hb hK hP hk dX1_slotOf_28 ?_
      refine vx_ret ?_
      refine W.widen (k := 1) (n := 6) (by decide) (by decide) ?_
      exact x_qret (r := some (ad k)) hx hb hr hlocks hK (σ) hP hD hS ⟨hT, fun j hj e => by rw [nI_inj32 hk hj e], rfl⟩ dX1_slotOf_29
    · obtain ⟨sa, hsa⟩ := hE.1.2.1 (147, "no such thing") (List.mem_of_getElem? (i := 0) rfl)
      exact vx_throwS (A := A) (text := "no such thing") (names := ["java/lang/RuntimeException", "java/lang/Exception"]) (sa := sa) hx hb hfl hown (by decide +kernel) (by decide +kernel) (hts _ (List.mem_of_getElem? (i := 1) rfl)) (hts _ (List.mem_of_getElem? (i := 2) rfl)) hsa (hat_IO (fun w h => hts w (List.mem_cons_of_mem _ (List.mem_append_right _ h))) hE.1) hgd_IO hE.2.1 hE.2.2 hS (hl.1.trans hml.symm) dX1_slotOf_13 dX1_slotOf_16 dX1_slotOf_17 dX1_slotOf_19 dX1_slotOf_22 (fun x hx => (htab x hx).elim) (Nat.le_of_ble_eq_true rfl) (Nat.le_of_ble_eq_true rfl) (Nat.le_of_ble_eq_true rfl) (Nat.le_of_ble_eq_true rfl) hlocks (fun t9 hvm9 hz9 hk9 => x_thr hK hP hD hS (⟨rfl, by simp [isT, c_1, c_2]⟩) hvm9 hz9 hk9) hS.2.2 (Nat.le_of_ble_eq_true rfl) (Nat.le_of_ble_eq_true rfl)
set_option maxHeartbeats 4000000 in
set_option maxRecDepth 100000 in
theorem k_X1_filledSlotOf (l : Launch) (D : va_G) (ax ar : Nat) (ad : Nat → Nat) (cO : ClassId) (sz : Nat) (σ : St) (t : Int32) (hfl : l.stackTraces = false) : vx_Met l yX1_filledSlotOf wsX1_filledSlotOf ({ frames := 7, cells := 2, slots := 12, locals := 120 } : Room) (va_Pc [.ref ax, .int t] (xPre D (cT cO) xE (cW ax ar ad cO) σ sz)) (va_Qq (fun (r : Option Nat) (u : St) => isT t = true ∧ (∀ k, k < 32 → t = nI k → gB σ 1 k = true ∧ r = some (ad k)) ∧ u = σ) (xB D (cT cO) (cW ax ar ad cO) (va_A (cW ax ar ad cO σ) sz)) (va_A (cW ax ar ad cO σ) sz)) (xXC D (cT cO) (cW ax ar ad cO) (va_A (cW ax ar ad cO σ) sz) σ (fun En => (En = xIO ∧ isT t = false) ∨ (En = xIS ∧ isT t = true ∧ ∀ k, k < 32 → t = nI k → gB σ 1 k = false))) 2 12 (va_A (cW ax ar ad cO σ) sz) := by
  refine xxOpen (w := (cW ax ar ad cO)) (σ := σ) (cc := cX1_filledSlotOf) (maxL := 3) (ret := some (.object "WorthCache$Slot")) (QQ := fun A => va_Qq (fun (r : Option Nat) (u : St) => isT t = true ∧ (∀ k, k < 32 → t = nI k → gB σ 1 k = true ∧ r = some (ad k)) ∧ u = σ) (xB D (cT cO) (cW ax ar ad cO) A) A) (XX := fun A => xXC D (cT cO) (cW ax ar ad cO) A σ (fun En => (En = xIO ∧ isT t = false) ∨ (En = xIS ∧ isT t = true ∧ ∀ k, k < 32 → t = nI k → gB σ 1 k = false))) (by decide) rfl (Nat.le_of_ble_eq_true rfl) ?_
  intro p e s m below meth c A hx hb hr hml hown hts hlocks htab hK hE hA hP hD hS ls hl
  have hl : lv_has ls 3 [(0, .ref ax), (1, .int t)] := hl
  have hown : s.vm.findClass RX1 = some m.cls := hown
  have hi0 : ∀ w ∈ wsX00, w ∈ wsX1_filledSlotOf := (fun _ h => List.mem_cons_of_mem _ (List.mem_append_left _ (List.mem_append_left _ (List.mem_append_left _ (List.mem_append_right _ h)))))
  have hi1 : ∀ w ∈ wsX10, w ∈ wsX1_filledSlotOf := (fun _ h => List.mem_cons_of_mem _ (List.mem_append_left _ (List.mem_append_left _ (List.mem_append_right _ h))))
  generalize hH : s.heap = H at hP
  have hS : va_S A s.heap H [] := by rw [← hH]; exact va_S.rf
  generalize hlo : ([] : List Loc) = locs at hS
  refine lv_aload_n hx hb dX1_filledSlotOf_0 rfl (lv_at hl 0 rfl) ?_
  refine lv_iload_n hx hb dX1_filledSlotOf_1 rfl (lv_at hl 1 rfl) ?_
  refine xx_callq (vx_runV (As := [.int t]) (rest := []) ⟨hx, hb, hml, hown, hts⟩ (k_X1_slotOf l D ax ar ad cO H.size σ t hfl) (cwV 1 hts gX1_filledSlotOf_X1_slotOf rfl rfl rfl (by decide +kernel) ⟨Nat.le_of_ble_eq_true rfl, Nat.le_of_ble_eq_true rfl⟩) (xPreV xE_ok hE hK hA hP hD hS (q0 := 0) (ci := 1) rfl rfl rfl) rfl rfl hl.1 rfl (lv_room (Nat.le_of_ble_eq_true rfl)) dX1_filledSlotOf_2 ⟨Nat.le_of_ble_eq_true rfl, Nat.le_of_ble_eq_true rfl⟩) hD hS hA (fun En ce q9 H locs hxc hP hS hq9 hv9 hcl9 => ?_) (fun r u H locs hp hP hD hS => ?_)
  · exact xx_out htab hlocks hK hq9 hv9 hcl9 hP hD hS (Or.inl hxc) (Nat.le_of_ble_eq_true rfl) (Nat.le_of_ble_eq_true rfl)
  obtain ⟨hT, hq, hu9⟩ := hp
  rw [hu9] at hP hD
  obtain ⟨k, hk, rfl⟩ := isT_nI hT
  obtain rfl := hq k hk rfl
  have hl : lv_has ls 3 [(0, .ref ax), (1, .int (nI k))] := hl
  refine W.eq (g2 := F0 m 5 ls [.ref (ad k)]) rfl ?_
  · refine lv_astore_n (lv' := [(2, .ref (ad k)), (0, .ref ax), (1, .int (nI k))]) hx hb dX1_filledSlotOf_5 rfl hl (by decide) rfl (fun ls hl => ?_)
    refine lv_aload_n hx hb dX1_filledSlotOf_6 rfl (lv_at hl 0 rfl) ?_
    refine s_get hx hb hts hi0 hown hK hE hP hk 1 (by decide) rfl (v := .int (bI (gB σ 1 k))) rfl dX1_filledSlotOf_7 (fun _ h => h) ?_
    refine x_ifne (tgt := 23) hx hb dX1_filledSlotOf_10 (by decide) (fun c_1 => ?_) (fun c_1 => ?_)
    · refine lv_aload_n hx hb dX1_filledSlotOf_23 rfl (lv_at hl 0 rfl) ?_
      refine vx_ret ?_
      refine W.widen (k := 2) (n := 12) (by decide) (by decide) ?_
      exact x_qret (r := some (ad k)) hx hb hr hlocks hK (σ) hP hD hS ⟨hT, fun j hj e => ⟨by rw [← nI_inj32 hk hj e]; exact c_1, by rw [nI_inj32 hk hj e]⟩, rfl⟩ dX1_filledSlotOf_24
    · obtain ⟨sa, hsa⟩ := hE.1.2.1 (149, "the thing has no entry") (List.mem_of_getElem? (i := 2) rfl)
      exact vx_throwS (A := A) (text := "the thing has no entry") (names := ["java/lang/RuntimeException", "java/lang/Exception"]) (sa := sa) hx hb hfl hown (by decide +kernel) (by decide +kernel) (hts _ (List.mem_of_getElem? (i := 1) rfl)) (hts _ (List.mem_of_getElem? (i := 2) rfl)) hsa (hat_IS (fun w h => hts w (List.mem_cons_of_mem _ (List.mem_append_left _ (List.mem_append_right _ h)))) hE.1) hgd_IS hE.2.1 hE.2.2 hS (hl.1.trans hml.symm) dX1_filledSlotOf_13 dX1_filledSlotOf_16 dX1_filledSlotOf_17 dX1_filledSlotOf_19 dX1_filledSlotOf_22 (fun x hx => (htab x hx).elim) (Nat.le_of_ble_eq_true rfl) (Nat.le_of_ble_eq_true rfl) (Nat.le_of_ble_eq_true rfl) (Nat.le_of_ble_eq_true rfl) hlocks (fun t9 hvm9 hz9 hk9 => x_thr hK hP hD hS (Or.inr ⟨rfl, hT, fun j hj e => by rw [← nI_inj32 hk hj e]; exact c_1⟩) hvm9 hz9 hk9) hS.2.2 (Nat.le_of_ble_eq_true rfl) (Nat.le_of_ble_eq_true rfl)
end
section
set_option maxHeartbeats 4000000 in
set_option maxRecDepth 100000 in
theorem k_X1_time (l : Launch) (D : va_G) (ax ar : Nat) (ad : Nat → Nat) (cO : ClassId) (sz : Nat) (σ : St) : Met l yX1_time wsX1_time ({ frames := 0, cells := 0, slots := 0, locals := 0 } : Room) (va_Pc [.ref ax] (xPre D (cT cO) xE (cW ax ar ad cO) σ sz)) (va_Qi (fun (r : Int32) (u : St) => r = gI σ 1 ∧ u = σ) (xB D (cT cO) (cW ax ar ad cO) (va_A (cW ax ar ad cO σ) sz)) (va_A (cW ax ar ad cO σ) sz)) 0 0 (va_A (cW ax ar ad cO σ) sz) := by
  refine xOpen (w := (cW ax ar ad cO)) (σ := σ) (cc := cX1_time) (maxL := 1) (ret := some .int) (QQ := fun A => va_Qi (fun (r : Int32) (u : St) => r = gI σ 1 ∧ u = σ) (xB D (cT cO) (cW ax ar ad cO) A) A) (by decide) rfl (Nat.le_of_ble_eq_true rfl) ?_
  intro p e s m below meth c A hx hb hr hml hown hts hlocks hname hK hE hA hP hD hS ls hl
  have hl : lv_has ls 1 [(0, .ref ax)] := hl
  have hown : s.vm.findClass RX1 = some m.cls := hown
  have hi1 : ∀ w ∈ wsX10, w ∈ wsX1_time := (fun _ h => List.mem_cons_of_mem _ (List.mem_append_right _ h))
  generalize hH : s.heap = H at hP
  have hS : va_S A s.heap H [] := by rw [← hH]; exact va_S.rf
  generalize hlo : ([] : List Loc) = locs at hS
  refine lv_aload_n hx hb dX1_time_0 rfl (lv_at hl 0 rfl) ?_
  refine c_get hx hb hts hi1 hown hK hP 1 (by decide) (List.mem_of_getElem? (i := 1) rfl) (v := .int (gI σ 1)) rfl dX1_time_1 (fun _ h => h) ?_
  exact x_iret hx hb hr hlocks hK (σ) hP hD hS ⟨rfl, rfl⟩ dX1_time_4
set_option maxHeartbeats 4000000 in
set_option maxRecDepth 100000 in
theorem k_X1_clock (l : Launch) (D : va_G) (ax ar : Nat) (ad : Nat → Nat) (cO : ClassId) (sz : Nat) (σ : St) : Met l yX1_clock wsX1_clock ({ frames := 0, cells := 0, slots := 0, locals := 0 } : Room) (va_Pc [.ref ax] (xPre D (cT cO) xE (cW ax ar ad cO) σ sz)) (va_Ql (fun (r : Int64) (u : St) => r = gL σ 2 ∧ u = σ) (xB D (cT cO) (cW ax ar ad cO) (va_A (cW ax ar ad cO σ) sz)) (va_A (cW ax ar ad cO σ) sz)) 0 0 (va_A (cW ax ar ad cO σ) sz) := by
  refine xOpen (w := (cW ax ar ad cO)) (σ := σ) (cc := cX1_clock) (maxL := 1) (ret := some .long) (QQ := fun A => va_Ql (fun (r : Int64) (u : St) => r = gL σ 2 ∧ u = σ) (xB D (cT cO) (cW ax ar ad cO) A) A) (by decide) rfl (Nat.le_of_ble_eq_true rfl) ?_
  intro p e s m below meth c A hx hb hr hml hown hts hlocks hname hK hE hA hP hD hS ls hl
  have hl : lv_has ls 1 [(0, .ref ax)] := hl
  have hown : s.vm.findClass RX1 = some m.cls := hown
  have hi1 : ∀ w ∈ wsX10, w ∈ wsX1_clock := (fun _ h => List.mem_cons_of_mem _ (List.mem_append_right _ h))
  generalize hH : s.heap = H at hP
  have hS : va_S A s.heap H [] := by rw [← hH]; exact va_S.rf
  generalize hlo : ([] : List Loc) = locs at hS
  refine lv_aload_n hx hb dX1_clock_0 rfl (lv_at hl 0 rfl) ?_
  refine c_get hx hb hts hi1 hown hK hP 2 (by decide) (List.mem_of_getElem? (i := 1) rfl) (v := .long (gL σ 2)) rfl dX1_clock_1 (fun _ h => h) ?_
  exact x_lret hx hb hr hlocks hK (σ) hP hD hS ⟨rfl, rfl⟩ dX1_clock_4
set_option maxHeartbeats 4000000 in
set_option maxRecDepth 100000 in
theorem k_X1_capacity (l : Launch) (D : va_G) (ax ar : Nat) (ad : Nat → Nat) (cO : ClassId) (sz : Nat) (σ : St) : Met l yX1_capacity wsX1_capacity ({ frames := 0, cells := 0, slots := 0, locals := 0 } : Room) (va_Pc [.ref ax] (xPre D (cT cO) xE (cW ax ar ad cO) σ sz)) (va_Qi (fun (r : Int32) (u : St) => r = gI σ 3 ∧ u = σ) (xB D (cT cO) (cW ax ar ad cO) (va_A (cW ax ar ad cO σ) sz)) (va_A (cW ax ar ad cO σ) sz)) 0 0 (va_A (cW ax ar ad cO σ) sz) := by
  refine xOpen (w := (cW ax ar ad cO)) (σ := σ) (cc := cX1_capacity) (maxL := 1) (ret := some .int) (QQ := fun A => va_Qi (fun (r : Int32) (u : St) => r = gI σ 3 ∧ u = σ) (xB D (cT cO) (cW ax ar ad cO) A) A) (by decide) rfl (Nat.le_of_ble_eq_true rfl) ?_
  intro p e s m below meth c A hx hb hr hml hown hts hlocks hname hK hE hA hP hD hS ls hl
  have hl : lv_has ls 1 [(0, .ref ax)] := hl
  have hown : s.vm.findClass RX1 = some m.cls := hown
  have hi1 : ∀ w ∈ wsX10, w ∈ wsX1_capacity := (fun _ h => List.mem_cons_of_mem _ (List.mem_append_right _ h))
  generalize hH : s.heap = H at hP
  have hS : va_S A s.heap H [] := by rw [← hH]; exact va_S.rf
  generalize hlo : ([] : List Loc) = locs at hS
  refine lv_aload_n hx hb dX1_capacity_0 rfl (lv_at hl 0 rfl) ?_
  refine c_get hx hb hts hi1 hown hK hP 3 (by decide) (List.mem_of_getElem? (i := 1) rfl) (v := .int (gI σ 3)) rfl dX1_capacity_1 (fun _ h => h) ?_
  exact x_iret hx hb hr hlocks hK (σ) hP hD hS ⟨rfl, rfl⟩ dX1_capacity_4
end
section
set_option maxHeartbeats 4000000 in
set_option maxRecDepth 100000 in
theorem k_X1_hits (l : Launch) (D : va_G) (ax ar : Nat) (ad : Nat → Nat) (cO : ClassId) (sz : Nat) (σ : St) : Met l yX1_hits wsX1_hits ({ frames := 0, cells := 0, slots := 0, locals := 0 } : Room) (va_Pc [.ref ax] (xPre D (cT cO) xE (cW ax ar ad cO) σ sz)) (va_Qi (fun (r : Int32) (u : St) => r = gI σ 6 ∧ u = σ) (xB D (cT cO) (cW ax ar ad cO) (va_A (cW ax ar ad cO σ) sz)) (va_A (cW ax ar ad cO σ) sz)) 0 0 (va_A (cW ax ar ad cO σ) sz) := by
  refine xOpen (w := (cW ax ar ad cO)) (σ := σ) (cc := cX1_hits) (maxL := 1) (ret := some .int) (QQ := fun A => va_Qi (fun (r : Int32) (u : St) => r = gI σ 6 ∧ u = σ) (xB D (cT cO) (cW ax ar ad cO) A) A) (by decide) rfl (Nat.le_of_ble_eq_true rfl) ?_
  intro p e s m below meth c A hx hb hr hml hown hts hlocks hname hK hE hA hP hD hS ls hl
  have hl : lv_has ls 1 [(0, .ref ax)] := hl
  have hown : s.vm.findClass RX1 = some m.cls := hown
  have hi1 : ∀ w ∈ wsX10, w ∈ wsX1_hits := (fun _ h => List.mem_cons_of_mem _ (List.mem_append_right _ h))
  generalize hH : s.heap = H at hP
  have hS : va_S A s.heap H [] := by rw [← hH]; exact va_S.rf
  generalize hlo : ([] : List Loc) = locs at hS
  refine lv_aload_n hx hb dX1_hits_0 rfl (lv_at hl 0 rfl) ?_
  refine c_get hx hb hts hi1 hown hK hP 6 (by decide) (List.mem_of_getElem? (i := 1) rfl) (v := .int (gI σ 6)) rfl dX1_hits_1 (fun _ h => h) ?_
  exact x_iret hx hb hr hlocks hK (σ) hP hD hS ⟨rfl, rfl⟩ dX1_hits_4
set_option maxHeartbeats 4000000 in
set_option maxRecDepth 100000 in
theorem k_X1_misses (l : Launch) (D : va_G) (ax ar : Nat) (ad : Nat → Nat) (cO : ClassId) (sz : Nat) (σ : St) : Met l yX1_misses wsX1_misses ({ frames := 0, cells := 0, slots := 0, locals := 0 } : Room) (va_Pc [.ref ax] (xPre D (cT cO) xE (cW ax ar ad cO) σ sz)) (va_Qi (fun (r : Int32) (u : St) => r = gI σ 7 ∧ u = σ) (xB D (cT cO) (cW ax ar ad cO) (va_A (cW ax ar ad cO σ) sz)) (va_A (cW ax ar ad cO σ) sz)) 0 0 (va_A (cW ax ar ad cO σ) sz) := by
  refine xOpen (w := (cW ax ar ad cO)) (σ := σ) (cc := cX1_misses) (maxL := 1) (ret := some .int) (QQ := fun A => va_Qi (fun (r : Int32) (u : St) => r = gI σ 7 ∧ u = σ) (xB D (cT cO) (cW ax ar ad cO) A) A) (by decide) rfl (Nat.le_of_ble_eq_true rfl) ?_
  intro p e s m below meth c A hx hb hr hml hown hts hlocks hname hK hE hA hP hD hS ls hl
  have hl : lv_has ls 1 [(0, .ref ax)] := hl
  have hown : s.vm.findClass RX1 = some m.cls := hown
  have hi1 : ∀ w ∈ wsX10, w ∈ wsX1_misses := (fun _ h => List.mem_cons_of_mem _ (List.mem_append_right _ h))
  generalize hH : s.heap = H at hP
  have hS : va_S A s.heap H [] := by rw [← hH]; exact va_S.rf
  generalize hlo : ([] : List Loc) = locs at hS
  refine lv_aload_n hx hb dX1_misses_0 rfl (lv_at hl 0 rfl) ?_
  refine c_get hx hb hts hi1 hown hK hP 7 (by decide) (List.mem_of_getElem? (i := 1) rfl) (v := .int (gI σ 7)) rfl dX1_misses_1 (fun _ h => h) ?_
  exact x_iret hx hb hr hlocks hK (σ) hP hD hS ⟨rfl, rfl⟩ dX1_misses_4
set_option maxHeartbeats 4000000 in
set_option maxRecDepth 100000 in
theorem k_X1_bytesHit (l : Launch) (D : va_G) (ax ar : Nat) (ad : Nat → Nat) (cO : ClassId) (sz : Nat) (σ : St) : Met l yX1_bytesHit wsX1_bytesHit ({ frames := 0, cells := 0, slots := 0, locals := 0 } : Room) (va_Pc [.ref ax] (xPre D (cT cO) xE (cW ax ar ad cO) σ sz)) (va_Ql (fun (r : Int64) (u : St) => r = gL σ 8 ∧ u = σ) (xB D (cT cO) (cW ax ar ad cO) (va_A (cW ax ar ad cO σ) sz)) (va_A (cW ax ar ad cO σ) sz)) 0 0 (va_A (cW ax ar ad cO σ) sz) := by
  refine xOpen (w := (cW ax ar ad cO)) (σ := σ) (cc := cX1_bytesHit) (maxL := 1) (ret := some .long) (QQ := fun A => va_Ql (fun (r : Int64) (u : St) => r = gL σ 8 ∧ u = σ) (xB D (cT cO) (cW ax ar ad cO) A) A) (by decide) rfl (Nat.le_of_ble_eq_true rfl) ?_
  intro p e s m below meth c A hx hb hr hml hown hts hlocks hname hK hE hA hP hD hS ls hl
  have hl : lv_has ls 1 [(0, .ref ax)] := hl
  have hown : s.vm.findClass RX1 = some m.cls := hown
  have hi1 : ∀ w ∈ wsX10, w ∈ wsX1_bytesHit := (fun _ h => List.mem_cons_of_mem _ (List.mem_append_right _ h))
  generalize hH : s.heap = H at hP
  have hS : va_S A s.heap H [] := by rw [← hH]; exact va_S.rf
  generalize hlo : ([] : List Loc) = locs at hS
  refine lv_aload_n hx hb dX1_bytesHit_0 rfl (lv_at hl 0 rfl) ?_
  refine c_get hx hb hts hi1 hown hK hP 8 (by decide) (List.mem_of_getElem? (i := 1) rfl) (v := .long (gL σ 8)) rfl dX1_bytesHit_1 (fun _ h => h) ?_
  exact x_lret hx hb hr hlocks hK (σ) hP hD hS ⟨rfl, rfl⟩ dX1_bytesHit_4
end
section
set_option maxHeartbeats 4000000 in
set_option maxRecDepth 100000 in
theorem k_X1_saved (l : Launch) (D : va_G) (ax ar : Nat) (ad : Nat → Nat) (cO : ClassId) (sz : Nat) (σ : St) : Met l yX1_saved wsX1_saved ({ frames := 0, cells := 0, slots := 0, locals := 0 } : Room) (va_Pc [.ref ax] (xPre D (cT cO) xE (cW ax ar ad cO) σ sz)) (va_Ql (fun (r : Int64) (u : St) => r = gL σ 9 ∧ u = σ) (xB D (cT cO) (cW ax ar ad cO) (va_A (cW ax ar ad cO σ) sz)) (va_A (cW ax ar ad cO σ) sz)) 0 0 (va_A (cW ax ar ad cO σ) sz) := by
  refine xOpen (w := (cW ax ar ad cO)) (σ := σ) (cc := cX1_saved) (maxL := 1) (ret := some .long) (QQ := fun A => va_Ql (fun (r : Int64) (u : St) => r = gL σ 9 ∧ u = σ) (xB D (cT cO) (cW ax ar ad cO) A) A) (by decide) rfl (Nat.le_of_ble_eq_true rfl) ?_
  intro p e s m below meth c A hx hb hr hml hown hts hlocks hname hK hE hA hP hD hS ls hl
  have hl : lv_has ls 1 [(0, .ref ax)] := hl
  have hown : s.vm.findClass RX1 = some m.cls := hown
  have hi1 : ∀ w ∈ wsX10, w ∈ wsX1_saved := (fun _ h => List.mem_cons_of_mem _ (List.mem_append_right _ h))
  generalize hH : s.heap = H at hP
  have hS : va_S A s.heap H [] := by rw [← hH]; exact va_S.rf
  generalize hlo : ([] : List Loc) = locs at hS
  refine lv_aload_n hx hb dX1_saved_0 rfl (lv_at hl 0 rfl) ?_
  refine c_get hx hb hts hi1 hown hK hP 9 (by decide) (List.mem_of_getElem? (i := 1) rfl) (v := .long (gL σ 9)) rfl dX1_saved_1 (fun _ h => h) ?_
  exact x_lret hx hb hr hlocks hK (σ) hP hD hS ⟨rfl, rfl⟩ dX1_saved_4
set_option maxHeartbeats 4000000 in
set_option maxRecDepth 100000 in
theorem k_X1_paid (l : Launch) (D : va_G) (ax ar : Nat) (ad : Nat → Nat) (cO : ClassId) (sz : Nat) (σ : St) : Met l yX1_paid wsX1_paid ({ frames := 0, cells := 0, slots := 0, locals := 0 } : Room) (va_Pc [.ref ax] (xPre D (cT cO) xE (cW ax ar ad cO) σ sz)) (va_Ql (fun (r : Int64) (u : St) => r = gL σ 10 ∧ u = σ) (xB D (cT cO) (cW ax ar ad cO) (va_A (cW ax ar ad cO σ) sz)) (va_A (cW ax ar ad cO σ) sz)) 0 0 (va_A (cW ax ar ad cO σ) sz) := by
  refine xOpen (w := (cW ax ar ad cO)) (σ := σ) (cc := cX1_paid) (maxL := 1) (ret := some .long) (QQ := fun A => va_Ql (fun (r : Int64) (u : St) => r = gL σ 10 ∧ u = σ) (xB D (cT cO) (cW ax ar ad cO) A) A) (by decide) rfl (Nat.le_of_ble_eq_true rfl) ?_
  intro p e s m below meth c A hx hb hr hml hown hts hlocks hname hK hE hA hP hD hS ls hl
  have hl : lv_has ls 1 [(0, .ref ax)] := hl
  have hown : s.vm.findClass RX1 = some m.cls := hown
  have hi1 : ∀ w ∈ wsX10, w ∈ wsX1_paid := (fun _ h => List.mem_cons_of_mem _ (List.mem_append_right _ h))
  generalize hH : s.heap = H at hP
  have hS : va_S A s.heap H [] := by rw [← hH]; exact va_S.rf
  generalize hlo : ([] : List Loc) = locs at hS
  refine lv_aload_n hx hb dX1_paid_0 rfl (lv_at hl 0 rfl) ?_
  refine c_get hx hb hts hi1 hown hK hP 10 (by decide) (List.mem_of_getElem? (i := 1) rfl) (v := .long (gL σ 10)) rfl dX1_paid_1 (fun _ h => h) ?_
  exact x_lret hx hb hr hlocks hK (σ) hP hD hS ⟨rfl, rfl⟩ dX1_paid_4
set_option maxHeartbeats 4000000 in
set_option maxRecDepth 100000 in
theorem k_X1_left (l : Launch) (D : va_G) (ax ar : Nat) (ad : Nat → Nat) (cO : ClassId) (sz : Nat) (σ : St) : Met l yX1_left wsX1_left ({ frames := 0, cells := 0, slots := 0, locals := 0 } : Room) (va_Pc [.ref ax] (xPre D (cT cO) xE (cW ax ar ad cO) σ sz)) (va_Qi (fun (r : Int32) (u : St) => r = gI σ 11 ∧ u = σ) (xB D (cT cO) (cW ax ar ad cO) (va_A (cW ax ar ad cO σ) sz)) (va_A (cW ax ar ad cO σ) sz)) 0 0 (va_A (cW ax ar ad cO σ) sz) := by
  refine xOpen (w := (cW ax ar ad cO)) (σ := σ) (cc := cX1_left) (maxL := 1) (ret := some .int) (QQ := fun A => va_Qi (fun (r : Int32) (u : St) => r = gI σ 11 ∧ u = σ) (xB D (cT cO) (cW ax ar ad cO) A) A) (by decide) rfl (Nat.le_of_ble_eq_true rfl) ?_
  intro p e s m below meth c A hx hb hr hml hown hts hlocks hname hK hE hA hP hD hS ls hl
  have hl : lv_has ls 1 [(0, .ref ax)] := hl
  have hown : s.vm.findClass RX1 = some m.cls := hown
  have hi1 : ∀ w ∈ wsX10, w ∈ wsX1_left := (fun _ h => List.mem_cons_of_mem _ (List.mem_append_right _ h))
  generalize hH : s.heap = H at hP
  have hS : va_S A s.heap H [] := by rw [← hH]; exact va_S.rf
  generalize hlo : ([] : List Loc) = locs at hS
  refine lv_aload_n hx hb dX1_left_0 rfl (lv_at hl 0 rfl) ?_
  refine c_get hx hb hts hi1 hown hK hP 11 (by decide) (List.mem_of_getElem? (i := 1) rfl) (v := .int (gI σ 11)) rfl dX1_left_1 (fun _ h => h) ?_
  exact x_iret hx hb hr hlocks hK (σ) hP hD hS ⟨rfl, rfl⟩ dX1_left_4
end
section
set_option maxHeartbeats 4000000 in
set_option maxRecDepth 100000 in
theorem k_X1_removedOver (l : Launch) (D : va_G) (ax ar : Nat) (ad : Nat → Nat) (cO : ClassId) (sz : Nat) (σ : St) : Met l yX1_removedOver wsX1_removedOver ({ frames := 0, cells := 0, slots := 0, locals := 0 } : Room) (va_Pc [.ref ax] (xPre D (cT cO) xE (cW ax ar ad cO) σ sz)) (va_Qi (fun (r : Int32) (u : St) => r = gI σ 12 ∧ u = σ) (xB D (cT cO) (cW ax ar ad cO) (va_A (cW ax ar ad cO σ) sz)) (va_A (cW ax ar ad cO σ) sz)) 0 0 (va_A (cW ax ar ad cO σ) sz) := by
  refine xOpen (w := (cW ax ar ad cO)) (σ := σ) (cc := cX1_removedOver) (maxL := 1) (ret := some .int) (QQ := fun A => va_Qi (fun (r : Int32) (u : St) => r = gI σ 12 ∧ u = σ) (xB D (cT cO) (cW ax ar ad cO) A) A) (by decide) rfl (Nat.le_of_ble_eq_true rfl) ?_
  intro p e s m below meth c A hx hb hr hml hown hts hlocks hname hK hE hA hP hD hS ls hl
  have hl : lv_has ls 1 [(0, .ref ax)] := hl
  have hown : s.vm.findClass RX1 = some m.cls := hown
  have hi1 : ∀ w ∈ wsX10, w ∈ wsX1_removedOver := (fun _ h => List.mem_cons_of_mem _ (List.mem_append_right _ h))
  generalize hH : s.heap = H at hP
  have hS : va_S A s.heap H [] := by rw [← hH]; exact va_S.rf
  generalize hlo : ([] : List Loc) = locs at hS
  refine lv_aload_n hx hb dX1_removedOver_0 rfl (lv_at hl 0 rfl) ?_
  refine c_get hx hb hts hi1 hown hK hP 12 (by decide) (List.mem_of_getElem? (i := 1) rfl) (v := .int (gI σ 12)) rfl dX1_removedOver_1 (fun _ h => h) ?_
  exact x_iret hx hb hr hlocks hK (σ) hP hD hS ⟨rfl, rfl⟩ dX1_removedOver_4
set_option maxHeartbeats 4000000 in
set_option maxRecDepth 100000 in
theorem k_X1_purge (l : Launch) (D : va_G) (ax ar : Nat) (ad : Nat → Nat) (cO : ClassId) (sz : Nat) (σ : St) : Met l yX1_purge wsX1_purge ({ frames := 2, cells := 0, slots := 0, locals := 60 } : Room) (va_Pc [.ref ax] (xPre D (cT cO) xE (cW ax ar ad cO) σ sz)) (va_Qi (fun (r : Int32) (u : St) => r = rmC σ 32 ∧ u = rmO σ) (xB D (cT cO) (cW ax ar ad cO) (va_A (cW ax ar ad cO σ) sz)) (va_A (cW ax ar ad cO σ) sz)) 0 0 (va_A (cW ax ar ad cO σ) sz) := by
  refine xOpen (w := (cW ax ar ad cO)) (σ := σ) (cc := cX1_purge) (maxL := 1) (ret := some .int) (QQ := fun A => va_Qi (fun (r : Int32) (u : St) => r = rmC σ 32 ∧ u = rmO σ) (xB D (cT cO) (cW ax ar ad cO) A) A) (by decide) rfl (Nat.le_of_ble_eq_true rfl) ?_
  intro p e s m below meth c A hx hb hr hml hown hts hlocks hname hK hE hA hP hD hS ls hl
  have hl : lv_has ls 1 [(0, .ref ax)] := hl
  have hown : s.vm.findClass RX1 = some m.cls := hown
  have hi0 : ∀ w ∈ wsX00, w ∈ wsX1_purge := (fun _ h => List.mem_cons_of_mem _ (List.mem_append_right _ h))
  have hi1 : ∀ w ∈ wsX10, w ∈ wsX1_purge := (fun _ h => List.mem_cons_of_mem _ (List.mem_append_left _ (List.mem_append_right _ h)))
  generalize hH : s.heap = H at hP
  have hS : va_S A s.heap H [] := by rw [← hH]; exact va_S.rf
  generalize hlo : ([] : List Loc) = locs at hS
  refine lv_aload_n hx hb dX1_purge_0 rfl (lv_at hl 0 rfl) ?_
  refine x_calli (va_runV (As := []) (rest := []) ⟨hx, hb, hml, hown, hts⟩ (k_X1_removeAllOver l D ax ar ad cO H.size σ) (cwV 0 hts gX1_purge_X1_removeAllOver rfl rfl rfl (by decide +kernel) ⟨Nat.le_of_ble_eq_true rfl, Nat.le_of_ble_eq_true rfl⟩) (xPreV xE_ok hE hK hA hP hD hS (q0 := 0) (ci := 1) rfl rfl rfl) rfl rfl hl.1 rfl (lv_room (Nat.le_of_ble_eq_true rfl)) dX1_purge_1 ⟨Nat.le_of_ble_eq_true rfl, Nat.le_of_ble_eq_true rfl⟩) hD hS hA (fun r u H locs hp hP hD hS => ?_)
  obtain ⟨rfl, hu9⟩ := hp
  rw [hu9] at hP hD
  exact x_iret hx hb hr hlocks hK (rmO σ) hP hD hS ⟨rfl, rfl⟩ dX1_purge_4
set_option maxHeartbeats 4000000 in
set_option maxRecDepth 100000 in
theorem k_X1_pass (l : Launch) (D : va_G) (ax ar : Nat) (ad : Nat → Nat) (cO : ClassId) (sz : Nat) (σ : St) (t : Int32) (hfl : l.stackTraces = false) : vx_Met l yX1_pass wsX1_pass ({ frames := 7, cells := 1, slots := 6, locals := 120 } : Room) (va_Pc [.ref ax, .int t] (xPre D (cT cO) xE (cW ax ar ad cO) σ sz)) (va_Qi (fun (r : Int32) (u : St) => inR t 1 10000 = true ∧ r = gI σ 1 + t ∧ u = uI σ 1 (gI σ 1 + t)) (xB D (cT cO) (cW ax ar ad cO) (va_A (cW ax ar ad cO σ) sz)) (va_A (cW ax ar ad cO σ) sz)) (xXC D (cT cO) (cW ax ar ad cO) (va_A (cW ax ar ad cO σ) sz) σ (fun En => En = xIA ∧ inR t 1 10000 = false)) 1 6 (va_A (cW ax ar ad cO σ) sz) := by
  refine xxOpen (w := (cW ax ar ad cO)) (σ := σ) (cc := cX1_pass) (maxL := 2) (ret := some .int) (QQ := fun A => va_Qi (fun (r : Int32) (u : St) => inR t 1 10000 = true ∧ r = gI σ 1 + t ∧ u = uI σ 1 (gI σ 1 + t)) (xB D (cT cO) (cW ax ar ad cO) A) A) (XX := fun A => xXC D (cT cO) (cW ax ar ad cO) A σ (fun En => En = xIA ∧ inR t 1 10000 = false)) (by decide) rfl (Nat.le_of_ble_eq_true rfl) ?_
  intro p e s m below meth c A hx hb hr hml hown hts hlocks htab hK hE hA hP hD hS ls hl
  have hl : lv_has ls 2 [(0, .ref ax), (1, .int t)] := hl
  have hown : s.vm.findClass RX1 = some m.cls := hown
  have hi1 : ∀ w ∈ wsX10, w ∈ wsX1_pass := (fun _ h => List.mem_cons_of_mem _ (List.mem_append_left _ (List.mem_append_right _ h)))
  generalize hH : s.heap = H at hP
  have hS : va_S A s.heap H [] := by rw [← hH]; exact va_S.rf
  generalize hlo : ([] : List Loc) = locs at hS
  refine lv_iload_n hx hb dX1_pass_0 rfl (lv_at hl 1 rfl) ?_
  refine lv_iconst (v := 1) hx hb dX1_pass_1 (by decide) ?_
  refine lv_sipush (v := 10000) hx hb dX1_pass_2 (by decide) ?_
  refine xx_callv (vx_runS (As := [.int t, .int 1, .int 10000]) (rest := []) ⟨hx, hb, hml, hown, hts⟩ (k_X1_requireWithin l D ax ar ad cO H.size σ t 1 10000 hfl) (va_cwS 3 hts gX1_pass_X1_requireWithin rfl rfl rfl (by decide +kernel) ⟨Nat.le_of_ble_eq_true rfl, Nat.le_of_ble_eq_true rfl⟩) (xPreS xE_ok hE hK hA hP hD hS) rfl rfl hl.1 rfl (lv_room (Nat.le_of_ble_eq_true rfl)) dX1_pass_5 ⟨Nat.le_of_ble_eq_true rfl, Nat.le_of_ble_eq_true rfl⟩) hD hS hA (fun En ce q9 H locs hxc hP hS hq9 hv9 hcl9 => ?_) (fun u H locs hp hP hD hS => ?_)
  · exact xx_out htab hlocks hK hq9 hv9 hcl9 hP hD hS (hxc) (Nat.le_of_ble_eq_true rfl) (Nat.le_of_ble_eq_true rfl)
  obtain ⟨v_1, hu9⟩ := hp
  rw [hu9] at hP hD
  · refine lv_aload_n hx hb dX1_pass_8 rfl (lv_at hl 0 rfl) ?_
    refine lv_dup hx hb dX1_pass_9 rfl ?_
    refine c_get hx hb hts hi1 hown hK hP 1 (by decide) (List.mem_of_getElem? (i := 1) rfl) (v := .int (gI σ 1)) rfl dX1_pass_10 (fun _ h => h) ?_
    refine lv_iload_n hx hb dX1_pass_13 rfl (lv_at hl 1 rfl) ?_
    refine lv_iadd hx hb dX1_pass_14 ?_
    refine c_put hx hb hts hi1 hown hK hP hD hS 1 (by decide) (List.mem_of_getElem? (i := 1) rfl) (v := .int ((gI σ 1) + t)) (ty := .int) (uI σ 1 ((gI σ 1) + t)) (cF_uI ar σ ((gI σ 1) + t)).1 (fun _ => sF_uI _ _ _ _) (by decide) rfl (by decide +kernel) rfl rfl dX1_pass_15 (fun _ h => h) (fun H locs hP hD hS => ?_)
    refine lv_aload_n hx hb dX1_pass_18 rfl (lv_at hl 0 rfl) ?_
    refine c_get hx hb hts hi1 hown hK hP 1 (by decide) (List.mem_of_getElem? (i := 1) rfl) (v := .int ((gI σ 1) + t)) rfl dX1_pass_19 (fun _ h => h) ?_
    refine vx_ret ?_
    refine W.widen (k := 1) (n := 6) (by decide) (by decide) ?_
    exact x_iret hx hb hr hlocks hK (uI σ 1 ((gI σ 1) + t)) hP hD hS ⟨v_1, rfl, rfl⟩ dX1_pass_22
end
section
set_option maxHeartbeats 4000000 in
set_option maxRecDepth 100000 in
theorem k_X1_setThreshold (l : Launch) (D : va_G) (ax ar : Nat) (ad : Nat → Nat) (cO : ClassId) (sz : Nat) (σ : St) (t : Int32) (hfl : l.stackTraces = false) : vx_Met l yX1_setThreshold wsX1_setThreshold ({ frames := 7, cells := 1, slots := 6, locals := 120 } : Room) (va_Pc [.ref ax, .int t] (xPre D (cT cO) xE (cW ax ar ad cO) σ sz)) (va_Qi (fun (r : Int32) (u : St) => inR t 1 1000 = true ∧ r = gI σ 4 ∧ u = uI σ 4 t) (xB D (cT cO) (cW ax ar ad cO) (va_A (cW ax ar ad cO σ) sz)) (va_A (cW ax ar ad cO σ) sz)) (xXC D (cT cO) (cW ax ar ad cO) (va_A (cW ax ar ad cO σ) sz) σ (fun En => En = xIA ∧ inR t 1 1000 = false)) 1 6 (va_A (cW ax ar ad cO σ) sz) := by
  refine xxOpen (w := (cW ax ar ad cO)) (σ := σ) (cc := cX1_setThreshold) (maxL := 3) (ret := some .int) (QQ := fun A => va_Qi (fun (r : Int32) (u : St) => inR t 1 1000 = true ∧ r = gI σ 4 ∧ u = uI σ 4 t) (xB D (cT cO) (cW ax ar ad cO) A) A) (XX := fun A => xXC D (cT cO) (cW ax ar ad cO) A σ (fun En => En = xIA ∧ inR t 1 1000 = false)) (by decide) rfl (Nat.le_of_ble_eq_true rfl) ?_
  intro p e s m below meth c A hx hb hr hml hown hts hlocks htab hK hE hA hP hD hS ls hl
  have hl : lv_has ls 3 [(0, .ref ax), (1, .int t)] := hl
  have hown : s.vm.findClass RX1 = some m.cls := hown
  have hi1 : ∀ w ∈ wsX10, w ∈ wsX1_setThreshold := (fun _ h => List.mem_cons_of_mem _ (List.mem_append_left _ (List.mem_append_right _ h)))
  generalize hH : s.heap = H at hP
  have hS : va_S A s.heap H [] := by rw [← hH]; exact va_S.rf
  generalize hlo : ([] : List Loc) = locs at hS
  refine lv_iload_n hx hb dX1_setThreshold_0 rfl (lv_at hl 1 rfl) ?_
  refine lv_iconst (v := 1) hx hb dX1_setThreshold_1 (by decide) ?_
  refine lv_sipush (v := 1000) hx hb dX1_setThreshold_2 (by decide) ?_
  refine xx_callv (vx_runS (As := [.int t, .int 1, .int 1000]) (rest := []) ⟨hx, hb, hml, hown, hts⟩ (k_X1_requireWithin l D ax ar ad cO H.size σ t 1 1000 hfl) (va_cwS 3 hts gX1_setThreshold_X1_requireWithin rfl rfl rfl (by decide +kernel) ⟨Nat.le_of_ble_eq_true rfl, Nat.le_of_ble_eq_true rfl⟩) (xPreS xE_ok hE hK hA hP hD hS) rfl rfl hl.1 rfl (lv_room (Nat.le_of_ble_eq_true rfl)) dX1_setThreshold_5 ⟨Nat.le_of_ble_eq_true rfl, Nat.le_of_ble_eq_true rfl⟩) hD hS hA (fun En ce q9 H locs hxc hP hS hq9 hv9 hcl9 => ?_) (fun u H locs hp hP hD hS => ?_)
  · exact xx_out htab hlocks hK hq9 hv9 hcl9 hP hD hS (hxc) (Nat.le_of_ble_eq_true rfl) (Nat.le_of_ble_eq_true rfl)
  obtain ⟨v_1, hu9⟩ := hp
  rw [hu9] at hP hD
  · refine lv_aload_n hx hb dX1_setThreshold_8 rfl (lv_at hl 0 rfl) ?_
    refine c_get hx hb hts hi1 hown hK hP 4 (by decide) (List.mem_of_getElem? (i := 1) rfl) (v := .int (gI σ 4)) rfl dX1_setThreshold_9 (fun _ h => h) ?_
    refine lv_istore_n (lv' := [(2, .int (gI σ 4)), (0, .ref ax), (1, .int t)]) hx hb dX1_setThreshold_12 rfl hl (by decide) rfl (fun ls hl => ?_)
    refine lv_aload_n hx hb dX1_setThreshold_13 rfl (lv_at hl 1 rfl) ?_
    refine lv_iload_n hx hb dX1_setThreshold_14 rfl (lv_at hl 2 rfl) ?_
    refine c_put hx hb hts hi1 hown hK hP hD hS 4 (by decide) (List.mem_of_getElem? (i := 1) rfl) (v := .int t) (ty := .int) (uI σ 4 t) (cF_uI ar σ t).2.2.1 (fun _ => sF_uI _ _ _ _) (by decide) rfl (by decide +kernel) rfl rfl dX1_setThreshold_15 (fun _ h => h) (fun H locs hP hD hS => ?_)
    refine lv_iload_n hx hb dX1_setThreshold_18 rfl (lv_at hl 0 rfl) ?_
    refine vx_ret ?_
    refine W.widen (k := 1) (n := 6) (by decide) (by decide) ?_
    exact x_iret hx hb hr hlocks hK (uI σ 4 t) hP hD hS ⟨v_1, rfl, rfl⟩ dX1_setThreshold_19
set_option maxHeartbeats 4000000 in
set_option maxRecDepth 100000 in
theorem k_X1_setCapacity (l : Launch) (D : va_G) (ax ar : Nat) (ad : Nat → Nat) (cO : ClassId) (sz : Nat) (σ : St) (t : Int32) (hfl : l.stackTraces = false) : vx_Met l yX1_setCapacity wsX1_setCapacity ({ frames := 7, cells := 2, slots := 12, locals := 150 } : Room) (va_Pc [.ref ax, .int t] (xPre D (cT cO) xE (cW ax ar ad cO) σ sz)) (va_Qi (fun (r : Int32) (u : St) => inR t 1 10000 = true ∧ ¬ t < pinA σ ∧ r = (cSetCap σ t).1 ∧ u = (cSetCap σ t).2) (xB D (cT cO) (cW ax ar ad cO) (va_A (cW ax ar ad cO σ) sz)) (va_A (cW ax ar ad cO σ) sz)) (xXC D (cT cO) (cW ax ar ad cO) (va_A (cW ax ar ad cO σ) sz) σ (fun En => (En = xIA ∧ inR t 1 10000 = false) ∨ (En = xIS ∧ inR t 1 10000 = true ∧ t < pinA σ))) 2 12 (va_A (cW ax ar ad cO σ) sz) := by
  refine xxOpen (w := (cW ax ar ad cO)) (σ := σ) (cc := cX1_setCapacity) (maxL := 2) (ret := some .int) (QQ := fun A => va_Qi (fun (r : Int32) (u : St) => inR t 1 10000 = true ∧ ¬ t < pinA σ ∧ r = (cSetCap σ t).1 ∧ u = (cSetCap σ t).2) (xB D (cT cO) (cW ax ar ad cO) A) A) (XX := fun A => xXC D (cT cO) (cW ax ar ad cO) A σ (fun En => (En = xIA ∧ inR t 1 10000 = false) ∨ (En = xIS ∧ inR t 1 10000 = true ∧ t < pinA σ))) (by decide) rfl (Nat.le_of_ble_eq_true rfl) ?_
  intro p e s m below meth c A hx hb hr hml hown hts hlocks htab hK hE hA hP hD hS ls hl
  have hl : lv_has ls 2 [(0, .ref ax), (1, .int t)] := hl
  have hown : s.vm.findClass RX1 = some m.cls := hown
  have hi0 : ∀ w ∈ wsX00, w ∈ wsX1_setCapacity := (fun _ h => List.mem_cons_of_mem _ (List.mem_append_left _ (List.mem_append_left _ (List.mem_append_right _ h))))
  have hi1 : ∀ w ∈ wsX10, w ∈ wsX1_setCapacity := (fun _ h => List.mem_cons_of_mem _ (List.mem_append_left _ (List.mem_append_left _ (List.mem_append_left _ (List.mem_append_right _ h)))))
  generalize hH : s.heap = H at hP
  have hS : va_S A s.heap H [] := by rw [← hH]; exact va_S.rf
  generalize hlo : ([] : List Loc) = locs at hS
  refine lv_iload_n hx hb dX1_setCapacity_0 rfl (lv_at hl 1 rfl) ?_
  refine lv_iconst (v := 1) hx hb dX1_setCapacity_1 (by decide) ?_
  refine lv_sipush (v := 10000) hx hb dX1_setCapacity_2 (by decide) ?_
  refine xx_callv (vx_runS (As := [.int t, .int 1, .int 10000]) (rest := []) ⟨hx, hb, hml, hown, hts⟩ (k_X1_requireWithin l D ax ar ad cO H.size σ t 1 10000 hfl) (va_cwS 3 hts gX1_setCapacity_X1_requireWithin rfl rfl rfl (by decide +kernel) ⟨Nat.le_of_ble_eq_true rfl, Nat.le_of_ble_eq_true rfl⟩) (xPreS xE_ok hE hK hA hP hD hS) rfl rfl hl.1 rfl (lv_room (Nat.le_of_ble_eq_true rfl)) dX1_setCapacity_5 ⟨Nat.le_of_ble_eq_true rfl, Nat.le_of_ble_eq_true rfl⟩) hD hS hA (fun En ce q9 H locs hxc hP hS hq9 hv9 hcl9 => ?_) (fun u H locs hp hP hD hS => ?_)
  · exact xx_out htab hlocks hK hq9 hv9 hcl9 hP hD hS (Or.inl hxc) (Nat.le_of_ble_eq_true rfl) (Nat.le_of_ble_eq_true rfl)
  obtain ⟨v_1, hu9⟩ := hp
  rw [hu9] at hP hD
  · refine lv_aload_n hx hb dX1_setCapacity_8 rfl (lv_at hl 0 rfl) ?_
    refine x_calli (va_runV (As := []) (rest := []) ⟨hx, hb, hml, hown, hts⟩ (k_X1_bytesThatCannotLeave l D ax ar ad cO H.size σ) (cwV 0 hts gX1_setCapacity_X1_bytesThatCannotLeave rfl rfl rfl (by decide +kernel) ⟨Nat.le_of_ble_eq_true rfl, Nat.le_of_ble_eq_true rfl⟩) (xPreV xE_ok hE hK hA hP hD hS (q0 := 0) (ci := 1) rfl rfl rfl) rfl rfl hl.1 rfl (lv_room (Nat.le_of_ble_eq_true rfl)) dX1_setCapacity_9 ⟨Nat.le_of_ble_eq_true rfl, Nat.le_of_ble_eq_true rfl⟩) hD hS hA (fun r u H locs hp hP hD hS => ?_)
    obtain ⟨rfl, hu9⟩ := hp
    rw [hu9] at hP hD
    refine lv_iload_n hx hb dX1_setCapacity_12 rfl (lv_at hl 1 rfl) ?_
    refine x_icmp_le (tgt := 26) hx hb dX1_setCapacity_13 (by decide) (fun c_2 => ?_) (fun c_2 => ?_)
    · refine lv_aload_n hx hb dX1_setCapacity_26 rfl (lv_at hl 0 rfl) ?_
      refine lv_iload_n hx hb dX1_setCapacity_27 rfl (lv_at hl 1 rfl) ?_
      refine c_put hx hb hts hi1 hown hK hP hD hS 3 (by decide) (List.mem_of_getElem? (i := 3) rfl) (v := .int t) (ty := .int) (uI σ 3 t) (cF_uI ar σ t).2.1 (fun _ => sF_uI _ _ _ _) (by decide) rfl (by decide +kernel) rfl rfl dX1_setCapacity_28 (fun _ h => h) (fun H locs hP hD hS => ?_)
      refine lv_aload_n hx hb dX1_setCapacity_31 rfl (lv_at hl 0 rfl) ?_
      refine x_calli (va_runV (As := []) (rest := []) ⟨hx, hb, hml, hown, hts⟩ (k_X1_used l D ax ar ad cO H.size (uI σ 3 t)) (cwV 0 hts gX1_setCapacity_X1_used rfl rfl rfl (by decide +kernel) ⟨Nat.le_of_ble_eq_true rfl, Nat.le_of_ble_eq_true rfl⟩) (xPreV xE_ok hE hK hA hP hD hS (q0 := 0) (ci := 1) rfl rfl rfl) rfl rfl hl.1 rfl (lv_room (Nat.le_of_ble_eq_true rfl)) dX1_setCapacity_32 ⟨Nat.le_of_ble_eq_true rfl, Nat.le_of_ble_eq_true rfl⟩) hD hS hA (fun r u H locs hp hP hD hS => ?_)
      obtain ⟨rfl, hu9⟩ := hp
      rw [hu9] at hP hD
      refine lv_iload_n hx hb dX1_setCapacity_35 rfl (lv_at hl 1 rfl) ?_
      refine lv_icmp_gt (tgt := 41) hx hb dX1_setCapacity_36 (by decide) (fun c_3 => ?_) (fun c_3 => ?_)
      · refine lv_aload_n hx hb dX1_setCapacity_41 rfl (lv_at hl 0 rfl) ?_
        refine x_calli (va_runV (As := []) (rest := []) ⟨hx, hb, hml, hown, hts⟩ (k_X1_removeAllOver l D ax ar ad cO H.size (uI σ 3 t)) (cwV 0 hts gX1_setCapacity_X1_removeAllOver rfl rfl rfl (by decide +kernel) ⟨Nat.le_of_ble_eq_true rfl, Nat.le_of_ble_eq_true rfl⟩) (xPreV xE_ok hE hK hA hP hD hS (q0 := 0) (ci := 1) rfl rfl rfl) rfl rfl hl.1 rfl (lv_room (Nat.le_of_ble_eq_true rfl)) dX1_setCapacity_42 ⟨Nat.le_of_ble_eq_true rfl, Nat.le_of_ble_eq_true rfl⟩) hD hS hA (fun r u H locs hp hP hD hS => ?_)
        obtain ⟨rfl, hu9⟩ := hp
        rw [hu9] at hP hD
        refine lv_pop hx hb dX1_setCapacity_45 rfl ?_
        refine lv_aload_n hx hb dX1_setCapacity_46 rfl (lv_at hl 0 rfl) ?_
        refine lv_iload_n hx hb dX1_setCapacity_47 rfl (lv_at hl 1 rfl) ?_
        refine x_calli (va_runV (As := [.int t]) (rest := []) ⟨hx, hb, hml, hown, hts⟩ (k_X1_leaveDownTo l D ax ar ad cO H.size (rmO (uI σ 3 t)) t) (cwV 1 hts gX1_setCapacity_X1_leaveDownTo rfl rfl rfl (by decide +kernel) ⟨Nat.le_of_ble_eq_true rfl, Nat.le_of_ble_eq_true rfl⟩) (xPreV xE_ok hE hK hA hP hD hS (q0 := 0) (ci := 1) rfl rfl rfl) rfl rfl hl.1 rfl (lv_room (Nat.le_of_ble_eq_true rfl)) dX1_setCapacity_48 ⟨Nat.le_of_ble_eq_true rfl, Nat.le_of_ble_eq_true rfl⟩) hD hS hA (fun r u H locs hp hP hD hS => ?_)
        obtain ⟨rfl, hu9⟩ := hp
        rw [hu9] at hP hD
        refine vx_ret ?_
        refine W.widen (k := 2) (n := 12) (by decide) (by decide) ?_
        exact x_iret hx hb hr hlocks hK (lvD t (rmO (uI σ 3 t))) hP hD hS ⟨v_1, c_2, by simp [cSetCap, c_3], by simp [cSetCap, c_3]⟩ dX1_setCapacity_51
      · refine lv_iconst (v := 0) hx hb dX1_setCapacity_39 (by decide) ?_
        refine vx_ret ?_
        refine W.widen (k := 2) (n := 12) (by decide) (by decide) ?_
        exact x_iret hx hb hr hlocks hK (uI σ 3 t) hP hD hS ⟨v_1, c_2, by simp [cSetCap, c_3], by simp [cSetCap, c_3]⟩ dX1_setCapacity_40
    · obtain ⟨sa, hsa⟩ := hE.1.2.1 (73, "the pinned entries are greater than the capacity") (List.mem_of_getElem? (i := 3) rfl)
      exact vx_throwS (A := A) (text := "the pinned entries are greater than the capacity") (names := ["java/lang/RuntimeException", "java/lang/Exception"]) (sa := sa) hx hb hfl hown (by decide +kernel) (by decide +kernel) (hts _ (List.mem_of_getElem? (i := 1) rfl)) (hts _ (List.mem_of_getElem? (i := 2) rfl)) hsa (hat_IS (fun w h => hts w (List.mem_cons_of_mem _ (List.mem_append_left _ (List.mem_append_right _ h)))) hE.1) hgd_IS hE.2.1 hE.2.2 hS (hl.1.trans hml.symm) dX1_setCapacity_16 dX1_setCapacity_19 dX1_setCapacity_20 dX1_setCapacity_22 dX1_setCapacity_25 (fun x hx => (htab x hx).elim) (Nat.le_of_ble_eq_true rfl) (Nat.le_of_ble_eq_true rfl) (Nat.le_of_ble_eq_true rfl) (Nat.le_of_ble_eq_true rfl) hlocks (fun t9 hvm9 hz9 hk9 => x_thr hK hP hD hS (Or.inr ⟨rfl, v_1, c_2⟩) hvm9 hz9 hk9) hS.2.2 (Nat.le_of_ble_eq_true rfl) (Nat.le_of_ble_eq_true rfl)
set_option maxHeartbeats 4000000 in
set_option maxRecDepth 100000 in
theorem k_X1_has (l : Launch) (D : va_G) (ax ar : Nat) (ad : Nat → Nat) (cO : ClassId) (sz : Nat) (σ : St) (t : Int32) (hfl : l.stackTraces = false) : vx_Met l yX1_has wsX1_has ({ frames := 7, cells := 1, slots := 6, locals := 120 } : Room) (va_Pc [.ref ax, .int t] (xPre D (cT cO) xE (cW ax ar ad cO) σ sz)) (va_Qi (fun (r : Int32) (u : St) => isT t = true ∧ (∀ k, k < 32 → t = nI k → r = bI (gB σ 1 k)) ∧ u = σ) (xB D (cT cO) (cW ax ar ad cO) (va_A (cW ax ar ad cO σ) sz)) (va_A (cW ax ar ad cO σ) sz)) (xXC D (cT cO) (cW ax ar ad cO) (va_A (cW ax ar ad cO σ) sz) σ (fun En => En = xIO ∧ isT t = false)) 1 6 (va_A (cW ax ar ad cO σ) sz) := by
  refine xxOpen (w := (cW ax ar ad cO)) (σ := σ) (cc := cX1_has) (maxL := 2) (ret := some .boolean) (QQ := fun A => va_Qi (fun (r : Int32) (u : St) => isT t = true ∧ (∀ k, k < 32 → t = nI k → r = bI (gB σ 1 k)) ∧ u = σ) (xB D (cT cO) (cW ax ar ad cO) A) A) (XX := fun A => xXC D (cT cO) (cW ax ar ad cO) A σ (fun En => En = xIO ∧ isT t = false)) (by decide) rfl (Nat.le_of_ble_eq_true rfl) ?_
  intro p e s m below meth c A hx hb hr hml hown hts hlocks htab hK hE hA hP hD hS ls hl
  have hl : lv_has ls 2 [(0, .ref ax), (1, .int t)] := hl
  have hown : s.vm.findClass RX1 = some m.cls := hown
  have hi0 : ∀ w ∈ wsX00, w ∈ wsX1_has := (fun _ h => List.mem_cons_of_mem _ (List.mem_append_left _ (List.mem_append_left _ (List.mem_append_right _ h))))
  have hi1 : ∀ w ∈ wsX10, w ∈ wsX1_has := (fun _ h => List.mem_cons_of_mem _ (List.mem_append_left _ (List.mem_append_right _ h)))
  generalize hH : s.heap = H at hP
  have hS : va_S A s.heap H [] := by rw [← hH]; exact va_S.rf
  generalize hlo : ([] : List Loc) = locs at hS
  refine lv_aload_n hx hb dX1_has_0 rfl (lv_at hl 0 rfl) ?_
  refine lv_iload_n hx hb dX1_has_1 rfl (lv_at hl 1 rfl) ?_
  refine xx_callq (vx_runV (As := [.int t]) (rest := []) ⟨hx, hb, hml, hown, hts⟩ (k_X1_slotOf l D ax ar ad cO H.size σ t hfl) (cwV 1 hts gX1_has_X1_slotOf rfl rfl rfl (by decide +kernel) ⟨Nat.le_of_ble_eq_true rfl, Nat.le_of_ble_eq_true rfl⟩) (xPreV xE_ok hE hK hA hP hD hS (q0 := 0) (ci := 1) rfl rfl rfl) rfl rfl hl.1 rfl (lv_room (Nat.le_of_ble_eq_true rfl)) dX1_has_2 ⟨Nat.le_of_ble_eq_true rfl, Nat.le_of_ble_eq_true rfl⟩) hD hS hA (fun En ce q9 H locs hxc hP hS hq9 hv9 hcl9 => ?_) (fun r u H locs hp hP hD hS => ?_)
  · exact xx_out htab hlocks hK hq9 hv9 hcl9 hP hD hS (hxc) (Nat.le_of_ble_eq_true rfl) (Nat.le_of_ble_eq_true rfl)
  obtain ⟨hT, hq, hu9⟩ := hp
  rw [hu9] at hP hD
  obtain ⟨k, hk, rfl⟩ := isT_nI hT
  obtain rfl := hq k hk rfl
  have hl : lv_has ls 2 [(0, .ref ax), (1, .int (nI k))] := hl
  refine W.eq (g2 := F0 m 5 ls [.ref (ad k)]) rfl ?_
  · refine s_get hx hb hts hi0 hown hK hE hP hk 1 (by decide) rfl (v := .int (bI (gB σ 1 k))) rfl dX1_has_5 (fun _ h => h) ?_
    refine vx_ret ?_
    refine W.widen (k := 1) (n := 6) (by decide) (by decide) ?_
    exact x_zret (b := gB σ 1 k) hx hb hr hlocks hK (σ) hP hD hS ⟨hT, fun j hj e9 => by rw [← nI_inj32 hk hj e9], rfl⟩ dX1_has_8
end
section
set_option maxHeartbeats 4000000 in
set_option maxRecDepth 100000 in
theorem k_X1_isOver (l : Launch) (D : va_G) (ax ar : Nat) (ad : Nat → Nat) (cO : ClassId) (sz : Nat) (σ : St) (t : Int32) (hfl : l.stackTraces = false) : vx_Met l yX1_isOver wsX1_isOver ({ frames := 7, cells := 1, slots := 6, locals := 120 } : Room) (va_Pc [.ref ax, .int t] (xPre D (cT cO) xE (cW ax ar ad cO) σ sz)) (va_Qi (fun (r : Int32) (u : St) => isT t = true ∧ (∀ k, k < 32 → t = nI k → r = bI (gB σ 1 k && ended σ k)) ∧ u = σ) (xB D (cT cO) (cW ax ar ad cO) (va_A (cW ax ar ad cO σ) sz)) (va_A (cW ax ar ad cO σ) sz)) (xXC D (cT cO) (cW ax ar ad cO) (va_A (cW ax ar ad cO σ) sz) σ (fun En => En = xIO ∧ isT t = false)) 1 6 (va_A (cW ax ar ad cO σ) sz) := by
  refine xxOpen (w := (cW ax ar ad cO)) (σ := σ) (cc := cX1_isOver) (maxL := 3) (ret := some .boolean) (QQ := fun A => va_Qi (fun (r : Int32) (u : St) => isT t = true ∧ (∀ k, k < 32 → t = nI k → r = bI (gB σ 1 k && ended σ k)) ∧ u = σ) (xB D (cT cO) (cW ax ar ad cO) A) A) (XX := fun A => xXC D (cT cO) (cW ax ar ad cO) A σ (fun En => En = xIO ∧ isT t = false)) (by decide) rfl (Nat.le_of_ble_eq_true rfl) ?_
  intro p e s m below meth c A hx hb hr hml hown hts hlocks htab hK hE hA hP hD hS ls hl
  have hl : lv_has ls 3 [(0, .ref ax), (1, .int t)] := hl
  have hown : s.vm.findClass RX1 = some m.cls := hown
  have hi0 : ∀ w ∈ wsX00, w ∈ wsX1_isOver := (fun _ h => List.mem_cons_of_mem _ (List.mem_append_left _ (List.mem_append_left _ (List.mem_append_right _ h))))
  have hi1 : ∀ w ∈ wsX10, w ∈ wsX1_isOver := (fun _ h => List.mem_cons_of_mem _ (List.mem_append_left _ (List.mem_append_right _ h)))
  generalize hH : s.heap = H at hP
  have hS : va_S A s.heap H [] := by rw [← hH]; exact va_S.rf
  generalize hlo : ([] : List Loc) = locs at hS
  refine lv_aload_n hx hb dX1_isOver_0 rfl (lv_at hl 0 rfl) ?_
  refine lv_iload_n hx hb dX1_isOver_1 rfl (lv_at hl 1 rfl) ?_
  refine xx_callq (vx_runV (As := [.int t]) (rest := []) ⟨hx, hb, hml, hown, hts⟩ (k_X1_slotOf l D ax ar ad cO H.size σ t hfl) (cwV 1 hts gX1_isOver_X1_slotOf rfl rfl rfl (by decide +kernel) ⟨Nat.le_of_ble_eq_true rfl, Nat.le_of_ble_eq_true rfl⟩) (xPreV xE_ok hE hK hA hP hD hS (q0 := 0) (ci := 1) rfl rfl rfl) rfl rfl hl.1 rfl (lv_room (Nat.le_of_ble_eq_true rfl)) dX1_isOver_2 ⟨Nat.le_of_ble_eq_true rfl, Nat.le_of_ble_eq_true rfl⟩) hD hS hA (fun En ce q9 H locs hxc hP hS hq9 hv9 hcl9 => ?_) (fun r u H locs hp hP hD hS => ?_)
  · exact xx_out htab hlocks hK hq9 hv9 hcl9 hP hD hS (hxc) (Nat.le_of_ble_eq_true rfl) (Nat.le_of_ble_eq_true rfl)
  obtain ⟨hT, hq, hu9⟩ := hp
  rw [hu9] at hP hD
  obtain ⟨k, hk, rfl⟩ := isT_nI hT
  obtain rfl := hq k hk rfl
  have hl : lv_has ls 3 [(0, .ref ax), (1, .int (nI k))] := hl
  refine W.eq (g2 := F0 m 5 ls [.ref (ad k)]) rfl ?_
  · refine lv_astore_n (lv' := [(2, .ref (ad k)), (0, .ref ax), (1, .int (nI k))]) hx hb dX1_isOver_5 rfl hl (by decide) rfl (fun ls hl => ?_)
    refine lv_aload_n hx hb dX1_isOver_6 rfl (lv_at hl 0 rfl) ?_
    refine s_get hx hb hts hi0 hown hK hE hP hk 1 (by decide) rfl (v := .int (bI (gB σ 1 k))) rfl dX1_isOver_7 (fun _ h => h) ?_
    refine x_ifeq (tgt := 25) hx hb dX1_isOver_10 (by decide) (fun c_1 => ?_) (fun c_1 => ?_)
    · refine lv_iconst (v := 0) hx hb dX1_isOver_25 (by decide) ?_
      refine vx_ret ?_
      refine W.widen (k := 1) (n := 6) (by decide) (by decide) ?_
      exact x_zret (b := false) hx hb hr hlocks hK (σ) hP hD hS ⟨hT, fun j hj e9 => by rw [← nI_inj32 hk hj e9]; simp [c_1], rfl⟩ dX1_isOver_26
    · refine lv_aload_n hx hb dX1_isOver_13 rfl (lv_at hl 1 rfl) ?_
      refine lv_aload_n hx hb dX1_isOver_14 rfl (lv_at hl 0 rfl) ?_
      refine x_calli (va_runV (As := [.ref (ad k)]) (rest := []) ⟨hx, hb, hml, hown, hts⟩ (k_X1_hasEnded l D ax ar ad cO H.size σ hk) (cwV 1 hts gX1_isOver_X1_hasEnded rfl rfl rfl (by decide +kernel) ⟨Nat.le_of_ble_eq_true rfl, Nat.le_of_ble_eq_true rfl⟩) (xPreV xE_ok hE hK hA hP hD hS (q0 := 0) (ci := 1) rfl rfl rfl) rfl rfl hl.1 rfl (lv_room (Nat.le_of_ble_eq_true rfl)) dX1_isOver_15 ⟨Nat.le_of_ble_eq_true rfl, Nat.le_of_ble_eq_true rfl⟩) hD hS hA (fun r u H locs hp hP hD hS => ?_)
      obtain ⟨rfl, hu9⟩ := hp
      rw [hu9] at hP hD
      refine x_ifeq (tgt := 25) hx hb dX1_isOver_18 (by decide) (fun c_2 => ?_) (fun c_2 => ?_)
      · refine lv_iconst (v := 0) hx hb dX1_isOver_25 (by decide) ?_
        refine vx_ret ?_
        refine W.widen (k := 1) (n := 6) (by decide) (by decide) ?_
        exact x_zret (b := false) hx hb hr hlocks hK (σ) hP hD hS ⟨hT, fun j hj e9 => by rw [← nI_inj32 hk hj e9]; simp [c_1, c_2], rfl⟩ dX1_isOver_26
      · refine lv_iconst (v := 1) hx hb dX1_isOver_21 (by decide) ?_
        refine lv_goto (tgt := 26) hx hb dX1_isOver_22 (by decide) ?_
        refine vx_ret ?_
        refine W.widen (k := 1) (n := 6) (by decide) (by decide) ?_
        exact x_zret (b := true) hx hb hr hlocks hK (σ) hP hD hS ⟨hT, fun j hj e9 => by rw [← nI_inj32 hk hj e9]; simp [c_1, c_2], rfl⟩ dX1_isOver_26
set_option maxHeartbeats 4000000 in
set_option maxRecDepth 100000 in
theorem k_X1_sizeOf (l : Launch) (D : va_G) (ax ar : Nat) (ad : Nat → Nat) (cO : ClassId) (sz : Nat) (σ : St) (t : Int32) (hfl : l.stackTraces = false) : vx_Met l yX1_sizeOf wsX1_sizeOf ({ frames := 7, cells := 1, slots := 6, locals := 120 } : Room) (va_Pc [.ref ax, .int t] (xPre D (cT cO) xE (cW ax ar ad cO) σ sz)) (va_Qi (fun (r : Int32) (u : St) => isT t = true ∧ (∀ k, k < 32 → t = nI k → r = if gB σ 1 k then gS σ 3 k else 0) ∧ u = σ) (xB D (cT cO) (cW ax ar ad cO) (va_A (cW ax ar ad cO σ) sz)) (va_A (cW ax ar ad cO σ) sz)) (xXC D (cT cO) (cW ax ar ad cO) (va_A (cW ax ar ad cO σ) sz) σ (fun En => En = xIO ∧ isT t = false)) 1 6 (va_A (cW ax ar ad cO σ) sz) := by
  refine xxOpen (w := (cW ax ar ad cO)) (σ := σ) (cc := cX1_sizeOf) (maxL := 3) (ret := some .int) (QQ := fun A => va_Qi (fun (r : Int32) (u : St) => isT t = true ∧ (∀ k, k < 32 → t = nI k → r = if gB σ 1 k then gS σ 3 k else 0) ∧ u = σ) (xB D (cT cO) (cW ax ar ad cO) A) A) (XX := fun A => xXC D (cT cO) (cW ax ar ad cO) A σ (fun En => En = xIO ∧ isT t = false)) (by decide) rfl (Nat.le_of_ble_eq_true rfl) ?_
  intro p e s m below meth c A hx hb hr hml hown hts hlocks htab hK hE hA hP hD hS ls hl
  have hl : lv_has ls 3 [(0, .ref ax), (1, .int t)] := hl
  have hown : s.vm.findClass RX1 = some m.cls := hown
  have hi0 : ∀ w ∈ wsX00, w ∈ wsX1_sizeOf := (fun _ h => List.mem_cons_of_mem _ (List.mem_append_left _ (List.mem_append_left _ (List.mem_append_right _ h))))
  have hi1 : ∀ w ∈ wsX10, w ∈ wsX1_sizeOf := (fun _ h => List.mem_cons_of_mem _ (List.mem_append_left _ (List.mem_append_right _ h)))
  generalize hH : s.heap = H at hP
  have hS : va_S A s.heap H [] := by rw [← hH]; exact va_S.rf
  generalize hlo : ([] : List Loc) = locs at hS
  refine lv_aload_n hx hb dX1_sizeOf_0 rfl (lv_at hl 0 rfl) ?_
  refine lv_iload_n hx hb dX1_sizeOf_1 rfl (lv_at hl 1 rfl) ?_
  refine xx_callq (vx_runV (As := [.int t]) (rest := []) ⟨hx, hb, hml, hown, hts⟩ (k_X1_slotOf l D ax ar ad cO H.size σ t hfl) (cwV 1 hts gX1_sizeOf_X1_slotOf rfl rfl rfl (by decide +kernel) ⟨Nat.le_of_ble_eq_true rfl, Nat.le_of_ble_eq_true rfl⟩) (xPreV xE_ok hE hK hA hP hD hS (q0 := 0) (ci := 1) rfl rfl rfl) rfl rfl hl.1 rfl (lv_room (Nat.le_of_ble_eq_true rfl)) dX1_sizeOf_2 ⟨Nat.le_of_ble_eq_true rfl, Nat.le_of_ble_eq_true rfl⟩) hD hS hA (fun En ce q9 H locs hxc hP hS hq9 hv9 hcl9 => ?_) (fun r u H locs hp hP hD hS => ?_)
  · exact xx_out htab hlocks hK hq9 hv9 hcl9 hP hD hS (hxc) (Nat.le_of_ble_eq_true rfl) (Nat.le_of_ble_eq_true rfl)
  obtain ⟨hT, hq, hu9⟩ := hp
  rw [hu9] at hP hD
  obtain ⟨k, hk, rfl⟩ := isT_nI hT
  obtain rfl := hq k hk rfl
  have hl : lv_has ls 3 [(0, .ref ax), (1, .int (nI k))] := hl
  refine W.eq (g2 := F0 m 5 ls [.ref (ad k)]) rfl ?_
  · refine lv_astore_n (lv' := [(2, .ref (ad k)), (0, .ref ax), (1, .int (nI k))]) hx hb dX1_sizeOf_5 rfl hl (by decide) rfl (fun ls hl => ?_)
    refine lv_aload_n hx hb dX1_sizeOf_6 rfl (lv_at hl 0 rfl) ?_
    refine s_get hx hb hts hi0 hown hK hE hP hk 1 (by decide) rfl (v := .int (bI (gB σ 1 k))) rfl dX1_sizeOf_7 (fun _ h => h) ?_
    refine x_ifeq (tgt := 20) hx hb dX1_sizeOf_10 (by decide) (fun c_1 => ?_) (fun c_1 => ?_)
    · refine lv_iconst (v := 0) hx hb dX1_sizeOf_20 (by decide) ?_
      refine vx_ret ?_
      refine W.widen (k := 1) (n := 6) (by decide) (by decide) ?_
      exact x_iret hx hb hr hlocks hK (σ) hP hD hS ⟨hT, fun j hj e9 => by rw [← nI_inj32 hk hj e9]; simp [c_1], rfl⟩ dX1_sizeOf_21
    · refine lv_aload_n hx hb dX1_sizeOf_13 rfl (lv_at hl 0 rfl) ?_
      refine s_get hx hb hts hi0 hown hK hE hP hk 3 (by decide) rfl (v := .int (gS σ 3 k)) rfl dX1_sizeOf_14 (fun _ h => h) ?_
      refine lv_goto (tgt := 21) hx hb dX1_sizeOf_17 (by decide) ?_
      refine vx_ret ?_
      refine W.widen (k := 1) (n := 6) (by decide) (by decide) ?_
      exact x_iret hx hb hr hlocks hK (σ) hP hD hS ⟨hT, fun j hj e9 => by rw [← nI_inj32 hk hj e9]; simp [c_1], rfl⟩ dX1_sizeOf_21
set_option maxHeartbeats 4000000 in
set_option maxRecDepth 100000 in
theorem k_X1_frequencyOf (l : Launch) (D : va_G) (ax ar : Nat) (ad : Nat → Nat) (cO : ClassId) (sz : Nat) (σ : St) (t : Int32) (hfl : l.stackTraces = false) : vx_Met l yX1_frequencyOf wsX1_frequencyOf ({ frames := 7, cells := 1, slots := 6, locals := 120 } : Room) (va_Pc [.ref ax, .int t] (xPre D (cT cO) xE (cW ax ar ad cO) σ sz)) (va_Qi (fun (r : Int32) (u : St) => isT t = true ∧ (∀ k, k < 32 → t = nI k → r = if gB σ 1 k then gS σ 4 k else 0) ∧ u = σ) (xB D (cT cO) (cW ax ar ad cO) (va_A (cW ax ar ad cO σ) sz)) (va_A (cW ax ar ad cO σ) sz)) (xXC D (cT cO) (cW ax ar ad cO) (va_A (cW ax ar ad cO σ) sz) σ (fun En => En = xIO ∧ isT t = false)) 1 6 (va_A (cW ax ar ad cO σ) sz) := by
  refine xxOpen (w := (cW ax ar ad cO)) (σ := σ) (cc := cX1_frequencyOf) (maxL := 3) (ret := some .int) (QQ := fun A => va_Qi (fun (r : Int32) (u : St) => isT t = true ∧ (∀ k, k < 32 → t = nI k → r = if gB σ 1 k then gS σ 4 k else 0) ∧ u = σ) (xB D (cT cO) (cW ax ar ad cO) A) A) (XX := fun A => xXC D (cT cO) (cW ax ar ad cO) A σ (fun En => En = xIO ∧ isT t = false)) (by decide) rfl (Nat.le_of_ble_eq_true rfl) ?_
  intro p e s m below meth c A hx hb hr hml hown hts hlocks htab hK hE hA hP hD hS ls hl
  have hl : lv_has ls 3 [(0, .ref ax), (1, .int t)] := hl
  have hown : s.vm.findClass RX1 = some m.cls := hown
  have hi0 : ∀ w ∈ wsX00, w ∈ wsX1_frequencyOf := (fun _ h => List.mem_cons_of_mem _ (List.mem_append_left _ (List.mem_append_left _ (List.mem_append_right _ h))))
  have hi1 : ∀ w ∈ wsX10, w ∈ wsX1_frequencyOf := (fun _ h => List.mem_cons_of_mem _ (List.mem_append_left _ (List.mem_append_right _ h)))
  generalize hH : s.heap = H at hP
  have hS : va_S A s.heap H [] := by rw [← hH]; exact va_S.rf
  generalize hlo : ([] : List Loc) = locs at hS
  refine lv_aload_n hx hb dX1_frequencyOf_0 rfl (lv_at hl 0 rfl) ?_
  refine lv_iload_n hx hb dX1_frequencyOf_1 rfl (lv_at hl 1 rfl) ?_
  refine xx_callq (vx_runV (As := [.int t]) (rest := []) ⟨hx, hb, hml, hown, hts⟩ (k_X1_slotOf l D ax ar ad cO H.size σ t hfl) (cwV 1 hts gX1_frequencyOf_X1_slotOf rfl rfl rfl (by decide +kernel) ⟨Nat.le_of_ble_eq_true rfl, Nat.le_of_ble_eq_true rfl⟩) (xPreV xE_ok hE hK hA hP hD hS (q0 := 0) (ci := 1) rfl rfl rfl) rfl rfl hl.1 rfl (lv_room (Nat.le_of_ble_eq_true rfl)) dX1_frequencyOf_2 ⟨Nat.le_of_ble_eq_true rfl, Nat.le_of_ble_eq_true rfl⟩) hD hS hA (fun En ce q9 H locs hxc hP hS hq9 hv9 hcl9 => ?_) (fun r u H locs hp hP hD hS => ?_)
  · exact xx_out htab hlocks hK hq9 hv9 hcl9 hP hD hS (hxc) (Nat.le_of_ble_eq_true rfl) (Nat.le_of_ble_eq_true rfl)
  obtain ⟨hT, hq, hu9⟩ := hp
  rw [hu9] at hP hD
  obtain ⟨k, hk, rfl⟩ := isT_nI hT
  obtain rfl := hq k hk rfl
  have hl : lv_has ls 3 [(0, .ref ax), (1, .int (nI k))] := hl
  refine W.eq (g2 := F0 m 5 ls [.ref (ad k)]) rfl ?_
  · refine lv_astore_n (lv' := [(2, .ref (ad k)), (0, .ref ax), (1, .int (nI k))]) hx hb dX1_frequencyOf_5 rfl hl (by decide) rfl (fun ls hl => ?_)
    refine lv_aload_n hx hb dX1_frequencyOf_6 rfl (lv_at hl 0 rfl) ?_
    refine s_get hx hb hts hi0 hown hK hE hP hk 1 (by decide) rfl (v := .int (bI (gB σ 1 k))) rfl dX1_frequencyOf_7 (fun _ h => h) ?_
    refine x_ifeq (tgt := 20) hx hb dX1_frequencyOf_10 (by decide) (fun c_1 => ?_) (fun c_1 => ?_)
    · refine lv_iconst (v := 0) hx hb dX1_frequencyOf_20 (by decide) ?_
      refine vx_ret ?_
      refine W.widen (k := 1) (n := 6) (by decide) (by decide) ?_
      exact x_iret hx hb hr hlocks hK (σ) hP hD hS ⟨hT, fun j hj e9 => by rw [← nI_inj32 hk hj e9]; simp [c_1], rfl⟩ dX1_frequencyOf_21
    · refine lv_aload_n hx hb dX1_frequencyOf_13 rfl (lv_at hl 0 rfl) ?_
      refine s_get hx hb hts hi0 hown hK hE hP hk 4 (by decide) rfl (v := .int (gS σ 4 k)) rfl dX1_frequencyOf_14 (fun _ h => h) ?_
      refine lv_goto (tgt := 21) hx hb dX1_frequencyOf_17 (by decide) ?_
      refine vx_ret ?_
      refine W.widen (k := 1) (n := 6) (by decide) (by decide) ?_
      exact x_iret hx hb hr hlocks hK (σ) hP hD hS ⟨hT, fun j hj e9 => by rw [← nI_inj32 hk hj e9]; simp [c_1], rfl⟩ dX1_frequencyOf_21
end
section
set_option maxHeartbeats 4000000 in
set_option maxRecDepth 100000 in
theorem k_X1_worthOf (l : Launch) (D : va_G) (ax ar : Nat) (ad : Nat → Nat) (cO : ClassId) (sz : Nat) (σ : St) (t : Int32) (hfl : l.stackTraces = false) : vx_Met l yX1_worthOf wsX1_worthOf ({ frames := 7, cells := 1, slots := 6, locals := 120 } : Room) (va_Pc [.ref ax, .int t] (xPre D (cT cO) xE (cW ax ar ad cO) σ sz)) (va_Ql (fun (r : Int64) (u : St) => isT t = true ∧ (∀ k, k < 32 → t = nI k → r = if gB σ 1 k then gT σ 6 k else -1) ∧ u = σ) (xB D (cT cO) (cW ax ar ad cO) (va_A (cW ax ar ad cO σ) sz)) (va_A (cW ax ar ad cO σ) sz)) (xXC D (cT cO) (cW ax ar ad cO) (va_A (cW ax ar ad cO σ) sz) σ (fun En => En = xIO ∧ isT t = false)) 1 6 (va_A (cW ax ar ad cO σ) sz) := by
  refine xxOpen (w := (cW ax ar ad cO)) (σ := σ) (cc := cX1_worthOf) (maxL := 3) (ret := some .long) (QQ := fun A => va_Ql (fun (r : Int64) (u : St) => isT t = true ∧ (∀ k, k < 32 → t = nI k → r = if gB σ 1 k then gT σ 6 k else -1) ∧ u = σ) (xB D (cT cO) (cW ax ar ad cO) A) A) (XX := fun A => xXC D (cT cO) (cW ax ar ad cO) A σ (fun En => En = xIO ∧ isT t = false)) (by decide) rfl (Nat.le_of_ble_eq_true rfl) ?_
  intro p e s m below meth c A hx hb hr hml hown hts hlocks htab hK hE hA hP hD hS ls hl
  have hl : lv_has ls 3 [(0, .ref ax), (1, .int t)] := hl
  have hown : s.vm.findClass RX1 = some m.cls := hown
  have hi0 : ∀ w ∈ wsX00, w ∈ wsX1_worthOf := (fun _ h => List.mem_cons_of_mem _ (List.mem_append_left _ (List.mem_append_left _ (List.mem_append_right _ h))))
  have hi1 : ∀ w ∈ wsX10, w ∈ wsX1_worthOf := (fun _ h => List.mem_cons_of_mem _ (List.mem_append_left _ (List.mem_append_right _ h)))
  generalize hH : s.heap = H at hP
  have hS : va_S A s.heap H [] := by rw [← hH]; exact va_S.rf
  generalize hlo : ([] : List Loc) = locs at hS
  refine lv_aload_n hx hb dX1_worthOf_0 rfl (lv_at hl 0 rfl) ?_
  refine lv_iload_n hx hb dX1_worthOf_1 rfl (lv_at hl 1 rfl) ?_
  refine xx_callq (vx_runV (As := [.int t]) (rest := []) ⟨hx, hb, hml, hown, hts⟩ (k_X1_slotOf l D ax ar ad cO H.size σ t hfl) (cwV 1 hts gX1_worthOf_X1_slotOf rfl rfl rfl (by decide +kernel) ⟨Nat.le_of_ble_eq_true rfl, Nat.le_of_ble_eq_true rfl⟩) (xPreV xE_ok hE hK hA hP hD hS (q0 := 0) (ci := 1) rfl rfl rfl) rfl rfl hl.1 rfl (lv_room (Nat.le_of_ble_eq_true rfl)) dX1_worthOf_2 ⟨Nat.le_of_ble_eq_true rfl, Nat.le_of_ble_eq_true rfl⟩) hD hS hA (fun En ce q9 H locs hxc hP hS hq9 hv9 hcl9 => ?_) (fun r u H locs hp hP hD hS => ?_)
  · exact xx_out htab hlocks hK hq9 hv9 hcl9 hP hD hS (hxc) (Nat.le_of_ble_eq_true rfl) (Nat.le_of_ble_eq_true rfl)
  obtain ⟨hT, hq, hu9⟩ := hp
  rw [hu9] at hP hD
  obtain ⟨k, hk, rfl⟩ := isT_nI hT
  obtain rfl := hq k hk rfl
  have hl : lv_has ls 3 [(0, .ref ax), (1, .int (nI k))] := hl
  refine W.eq (g2 := F0 m 5 ls [.ref (ad k)]) rfl ?_
  · refine lv_astore_n (lv' := [(2, .ref (ad k)), (0, .ref ax), (1, .int (nI k))]) hx hb dX1_worthOf_5 rfl hl (by decide) rfl (fun ls hl => ?_)
    refine lv_aload_n hx hb dX1_worthOf_6 rfl (lv_at hl 0 rfl) ?_
    refine s_get hx hb hts hi0 hown hK hE hP hk 1 (by decide) rfl (v := .int (bI (gB σ 1 k))) rfl dX1_worthOf_7 (fun _ h => h) ?_
    refine x_ifeq (tgt := 20) hx hb dX1_worthOf_10 (by decide) (fun c_1 => ?_) (fun c_1 => ?_)
    · refine lv_ldc2 (v := (-1)) hx hb hown (hts _ (List.mem_of_getElem? (i := 1) rfl)) dX1_worthOf_20 ?_
      refine vx_ret ?_
      refine W.widen (k := 1) (n := 6) (by decide) (by decide) ?_
      exact x_lret hx hb hr hlocks hK (σ) hP hD hS ⟨hT, fun j hj e9 => by rw [← nI_inj32 hk hj e9]; simp [c_1], rfl⟩ dX1_worthOf_23
    · refine lv_aload_n hx hb dX1_worthOf_13 rfl (lv_at hl 0 rfl) ?_
      refine s_get hx hb hts hi0 hown hK hE hP hk 6 (by decide) rfl (v := .long (gT σ 6 k)) rfl dX1_worthOf_14 (fun _ h => h) ?_
      refine lv_goto (tgt := 23) hx hb dX1_worthOf_17 (by decide) ?_
      refine vx_ret ?_
      refine W.widen (k := 1) (n := 6) (by decide) (by decide) ?_
      exact x_lret hx hb hr hlocks hK (σ) hP hD hS ⟨hT, fun j hj e9 => by rw [← nI_inj32 hk hj e9]; simp [c_1], rfl⟩ dX1_worthOf_23
set_option maxHeartbeats 4000000 in
set_option maxRecDepth 100000 in
theorem k_X1_endOf (l : Launch) (D : va_G) (ax ar : Nat) (ad : Nat → Nat) (cO : ClassId) (sz : Nat) (σ : St) (t : Int32) (hfl : l.stackTraces = false) : vx_Met l yX1_endOf wsX1_endOf ({ frames := 7, cells := 1, slots := 6, locals := 120 } : Room) (va_Pc [.ref ax, .int t] (xPre D (cT cO) xE (cW ax ar ad cO) σ sz)) (va_Qi (fun (r : Int32) (u : St) => isT t = true ∧ (∀ k, k < 32 → t = nI k → r = if gB σ 1 k then gS σ 5 k else -1) ∧ u = σ) (xB D (cT cO) (cW ax ar ad cO) (va_A (cW ax ar ad cO σ) sz)) (va_A (cW ax ar ad cO σ) sz)) (xXC D (cT cO) (cW ax ar ad cO) (va_A (cW ax ar ad cO σ) sz) σ (fun En => En = xIO ∧ isT t = false)) 1 6 (va_A (cW ax ar ad cO σ) sz) := by
  refine xxOpen (w := (cW ax ar ad cO)) (σ := σ) (cc := cX1_endOf) (maxL := 3) (ret := some .int) (QQ := fun A => va_Qi (fun (r : Int32) (u : St) => isT t = true ∧ (∀ k, k < 32 → t = nI k → r = if gB σ 1 k then gS σ 5 k else -1) ∧ u = σ) (xB D (cT cO) (cW ax ar ad cO) A) A) (XX := fun A => xXC D (cT cO) (cW ax ar ad cO) A σ (fun En => En = xIO ∧ isT t = false)) (by decide) rfl (Nat.le_of_ble_eq_true rfl) ?_
  intro p e s m below meth c A hx hb hr hml hown hts hlocks htab hK hE hA hP hD hS ls hl
  have hl : lv_has ls 3 [(0, .ref ax), (1, .int t)] := hl
  have hown : s.vm.findClass RX1 = some m.cls := hown
  have hi0 : ∀ w ∈ wsX00, w ∈ wsX1_endOf := (fun _ h => List.mem_cons_of_mem _ (List.mem_append_left _ (List.mem_append_left _ (List.mem_append_right _ h))))
  have hi1 : ∀ w ∈ wsX10, w ∈ wsX1_endOf := (fun _ h => List.mem_cons_of_mem _ (List.mem_append_left _ (List.mem_append_right _ h)))
  generalize hH : s.heap = H at hP
  have hS : va_S A s.heap H [] := by rw [← hH]; exact va_S.rf
  generalize hlo : ([] : List Loc) = locs at hS
  refine lv_aload_n hx hb dX1_endOf_0 rfl (lv_at hl 0 rfl) ?_
  refine lv_iload_n hx hb dX1_endOf_1 rfl (lv_at hl 1 rfl) ?_
  refine xx_callq (vx_runV (As := [.int t]) (rest := []) ⟨hx, hb, hml, hown, hts⟩ (k_X1_slotOf l D ax ar ad cO H.size σ t hfl) (cwV 1 hts gX1_endOf_X1_slotOf rfl rfl rfl (by decide +kernel) ⟨Nat.le_of_ble_eq_true rfl, Nat.le_of_ble_eq_true rfl⟩) (xPreV xE_ok hE hK hA hP hD hS (q0 := 0) (ci := 1) rfl rfl rfl) rfl rfl hl.1 rfl (lv_room (Nat.le_of_ble_eq_true rfl)) dX1_endOf_2 ⟨Nat.le_of_ble_eq_true rfl, Nat.le_of_ble_eq_true rfl⟩) hD hS hA (fun En ce q9 H locs hxc hP hS hq9 hv9 hcl9 => ?_) (fun r u H locs hp hP hD hS => ?_)
  · exact xx_out htab hlocks hK hq9 hv9 hcl9 hP hD hS (hxc) (Nat.le_of_ble_eq_true rfl) (Nat.le_of_ble_eq_true rfl)
  obtain ⟨hT, hq, hu9⟩ := hp
  rw [hu9] at hP hD
  obtain ⟨k, hk, rfl⟩ := isT_nI hT
  obtain rfl := hq k hk rfl
  have hl : lv_has ls 3 [(0, .ref ax), (1, .int (nI k))] := hl
  refine W.eq (g2 := F0 m 5 ls [.ref (ad k)]) rfl ?_
  · refine lv_astore_n (lv' := [(2, .ref (ad k)), (0, .ref ax), (1, .int (nI k))]) hx hb dX1_endOf_5 rfl hl (by decide) rfl (fun ls hl => ?_)
    refine lv_aload_n hx hb dX1_endOf_6 rfl (lv_at hl 0 rfl) ?_
    refine s_get hx hb hts hi0 hown hK hE hP hk 1 (by decide) rfl (v := .int (bI (gB σ 1 k))) rfl dX1_endOf_7 (fun _ h => h) ?_
    refine x_ifeq (tgt := 20) hx hb dX1_endOf_10 (by decide) (fun c_1 => ?_) (fun c_1 => ?_)
    · refine lv_iconst (v := (-1)) hx hb dX1_endOf_20 (by decide) ?_
      refine vx_ret ?_
      refine W.widen (k := 1) (n := 6) (by decide) (by decide) ?_
      exact x_iret hx hb hr hlocks hK (σ) hP hD hS ⟨hT, fun j hj e9 => by rw [← nI_inj32 hk hj e9]; simp [c_1], rfl⟩ dX1_endOf_21
    · refine lv_aload_n hx hb dX1_endOf_13 rfl (lv_at hl 0 rfl) ?_
      refine s_get hx hb hts hi0 hown hK hE hP hk 5 (by decide) rfl (v := .int (gS σ 5 k)) rfl dX1_endOf_14 (fun _ h => h) ?_
      refine lv_goto (tgt := 21) hx hb dX1_endOf_17 (by decide) ?_
      refine vx_ret ?_
      refine W.widen (k := 1) (n := 6) (by decide) (by decide) ?_
      exact x_iret hx hb hr hlocks hK (σ) hP hD hS ⟨hT, fun j hj e9 => by rw [← nI_inj32 hk hj e9]; simp [c_1], rfl⟩ dX1_endOf_21
set_option maxHeartbeats 4000000 in
set_option maxRecDepth 100000 in
theorem k_X1_pin (l : Launch) (D : va_G) (ax ar : Nat) (ad : Nat → Nat) (cO : ClassId) (sz : Nat) (σ : St) (t : Int32) (b : Bool) (hfl : l.stackTraces = false) : vx_Met l yX1_pin wsX1_pin ({ frames := 8, cells := 2, slots := 12, locals := 150 } : Room) (va_Pc [.ref ax, .int t, .int (bI b)] (xPre D (cT cO) xE (cW ax ar ad cO) σ sz)) (va_Qi (fun (r : Int32) (u : St) => isT t = true ∧ (∀ k, k < 32 → t = nI k → gB σ 1 k = true ∧ r = bI (gB σ 2 k) ∧ u = uB σ 2 k b)) (xB D (cT cO) (cW ax ar ad cO) (va_A (cW ax ar ad cO σ) sz)) (va_A (cW ax ar ad cO σ) sz)) (xXC D (cT cO) (cW ax ar ad cO) (va_A (cW ax ar ad cO σ) sz) σ (fun En => (En = xIO ∧ isT t = false) ∨ (En = xIS ∧ isT t = true ∧ ∀ k, k < 32 → t = nI k → gB σ 1 k = false))) 2 12 (va_A (cW ax ar ad cO σ) sz) := by
  refine xxOpen (w := (cW ax ar ad cO)) (σ := σ) (cc := cX1_pin) (maxL := 5) (ret := some .boolean) (QQ := fun A => va_Qi (fun (r : Int32) (u : St) => isT t = true ∧ (∀ k, k < 32 → t = nI k → gB σ 1 k = true ∧ r = bI (gB σ 2 k) ∧ u = uB σ 2 k b)) (xB D (cT cO) (cW ax ar ad cO) A) A) (XX := fun A => xXC D (cT cO) (cW ax ar ad cO) A σ (fun En => (En = xIO ∧ isT t = false) ∨ (En = xIS ∧ isT t = true ∧ ∀ k, k < 32 → t = nI k → gB σ 1 k = false))) (by decide) rfl (Nat.le_of_ble_eq_true rfl) ?_
  intro p e s m below meth c A hx hb hr hml hown hts hlocks htab hK hE hA hP hD hS ls hl
  have hl : lv_has ls 5 [(0, .ref ax), (1, .int t), (2, .int (bI b))] := hl
  have hown : s.vm.findClass RX1 = some m.cls := hown
  have hi0 : ∀ w ∈ wsX00, w ∈ wsX1_pin := (fun _ h => List.mem_cons_of_mem _ (List.mem_append_left _ (List.mem_append_left _ (List.mem_append_left _ (List.mem_append_right _ h)))))
  have hi1 : ∀ w ∈ wsX10, w ∈ wsX1_pin := (fun _ h => List.mem_cons_of_mem _ (List.mem_append_left _ (List.mem_append_left _ (List.mem_append_right _ h))))
  generalize hH : s.heap = H at hP
  have hS : va_S A s.heap H [] := by rw [← hH]; exact va_S.rf
  generalize hlo : ([] : List Loc) = locs at hS
  refine lv_aload_n hx hb dX1_pin_0 rfl (lv_at hl 0 rfl) ?_
  refine lv_iload_n hx hb dX1_pin_1 rfl (lv_at hl 1 rfl) ?_
  refine xx_callq (vx_runV (As := [.int t]) (rest := []) ⟨hx, hb, hml, hown, hts⟩ (k_X1_filledSlotOf l D ax ar ad cO H.size σ t hfl) (cwV 1 hts gX1_pin_X1_filledSlotOf rfl rfl rfl (by decide +kernel) ⟨Nat.le_of_ble_eq_true rfl, Nat.le_of_ble_eq_true rfl⟩) (xPreV xE_ok hE hK hA hP hD hS (q0 := 0) (ci := 1) rfl rfl rfl) rfl rfl hl.1 rfl (lv_room (Nat.le_of_ble_eq_true rfl)) dX1_pin_2 ⟨Nat.le_of_ble_eq_true rfl, Nat.le_of_ble_eq_true rfl⟩) hD hS hA (fun En ce q9 H locs hxc hP hS hq9 hv9 hcl9 => ?_) (fun r u H locs hp hP hD hS => ?_)
  · exact xx_out htab hlocks hK hq9 hv9 hcl9 hP hD hS (hxc) (Nat.le_of_ble_eq_true rfl) (Nat.le_of_ble_eq_true rfl)
  obtain ⟨hT, hq, hu9⟩ := hp
  rw [hu9] at hP hD
  obtain ⟨k, hk, rfl⟩ := isT_nI hT
  obtain ⟨hF, rfl⟩ := hq k hk rfl
  have hl : lv_has ls 5 [(0, .ref ax), (1, .int (nI k)), (2, .int (bI b))] := hl
  refine W.eq (g2 := F0 m 5 ls [.ref (ad k)]) rfl ?_
  · refine lv_astore_n (lv' := [(3, .ref (ad k)), (0, .ref ax), (1, .int (nI k)), (2, .int (bI b))]) hx hb dX1_pin_5 rfl hl (by decide) rfl (fun ls hl => ?_)
    refine lv_aload_n hx hb dX1_pin_6 rfl (lv_at hl 0 rfl) ?_
    refine s_get hx hb hts hi0 hown hK hE hP hk 2 (by decide) rfl (v := .int (bI (gB σ 2 k))) rfl dX1_pin_7 (fun _ h => h) ?_
    refine lv_istore (lv' := [(4, .int (bI (gB σ 2 k))), (3, .ref (ad k)), (0, .ref ax), (1, .int (nI k)), (2, .int (bI b))]) hx hb dX1_pin_10 hl (by decide) rfl (fun ls hl => ?_)
    refine lv_aload_n hx hb dX1_pin_12 rfl (lv_at hl 1 rfl) ?_
    refine lv_iload_n hx hb dX1_pin_13 rfl (lv_at hl 4 rfl) ?_
    refine s_put hx hb hts hi0 hown hK hE hP hD hS hk 2 (by decide) rfl (v := .int (bI b)) (ty := .boolean) (uB σ 2 k b) ((sF_self σ k).2.2.2.2.2.2.2 _) (fun i9 hi9 => (sF_other σ hi9).2.2.2.2.2.2.2 _) (cF_uB _ _ _ _ _) rfl (by decide +kernel) (bI_nar _) (bI_fit _) dX1_pin_14 (fun _ h => h) (fun H locs hP hD hS => ?_)
    refine lv_iload hx hb dX1_pin_17 (lv_at hl 0 rfl) ?_
    refine vx_ret ?_
    refine W.widen (k := 2) (n := 12) (by decide) (by decide) ?_
    exact x_zret (b := gB σ 2 k) hx hb hr hlocks hK (uB σ 2 k b) hP hD hS ⟨hT, fun j hj e9 => by rw [← nI_inj32 hk hj e9]; exact ⟨hF, rfl, rfl⟩⟩ dX1_pin_19
end
section
set_option maxHeartbeats 4000000 in
set_option maxRecDepth 100000 in
theorem k_X1_drop (l : Launch) (D : va_G) (ax ar : Nat) (ad : Nat → Nat) (cO : ClassId) (sz : Nat) (σ : St) (t : Int32) (hfl : l.stackTraces = false) : vx_Met l yX1_drop wsX1_drop ({ frames := 8, cells := 2, slots := 12, locals := 150 } : Room) (va_Pc [.ref ax, .int t] (xPre D (cT cO) xE (cW ax ar ad cO) σ sz)) (va_Qi (fun (r : Int32) (u : St) => isT t = true ∧ (∀ k, k < 32 → t = nI k → gB σ 1 k = true ∧ r = gS σ 3 k ∧ u = uB σ 1 k false)) (xB D (cT cO) (cW ax ar ad cO) (va_A (cW ax ar ad cO σ) sz)) (va_A (cW ax ar ad cO σ) sz)) (xXC D (cT cO) (cW ax ar ad cO) (va_A (cW ax ar ad cO σ) sz) σ (fun En => (En = xIO ∧ isT t = false) ∨ (En = xIS ∧ isT t = true ∧ ∀ k, k < 32 → t = nI k → gB σ 1 k = false))) 2 12 (va_A (cW ax ar ad cO σ) sz) := by
  refine xxOpen (w := (cW ax ar ad cO)) (σ := σ) (cc := cX1_drop) (maxL := 3) (ret := some .int) (QQ := fun A => va_Qi (fun (r : Int32) (u : St) => isT t = true ∧ (∀ k, k < 32 → t = nI k → gB σ 1 k = true ∧ r = gS σ 3 k ∧ u = uB σ 1 k false)) (xB D (cT cO) (cW ax ar ad cO) A) A) (XX := fun A => xXC D (cT cO) (cW ax ar ad cO) A σ (fun En => (En = xIO ∧ isT t = false) ∨ (En = xIS ∧ isT t = true ∧ ∀ k, k < 32 → t = nI k → gB σ 1 k = false))) (by decide) rfl (Nat.le_of_ble_eq_true rfl) ?_
  intro p e s m below meth c A hx hb hr hml hown hts hlocks htab hK hE hA hP hD hS ls hl
  have hl : lv_has ls 3 [(0, .ref ax), (1, .int t)] := hl
  have hown : s.vm.findClass RX1 = some m.cls := hown
  have hi0 : ∀ w ∈ wsX00, w ∈ wsX1_drop := (fun _ h => List.mem_cons_of_mem _ (List.mem_append_left _ (List.mem_append_left _ (List.mem_append_left _ (List.mem_append_right _ h)))))
  have hi1 : ∀ w ∈ wsX10, w ∈ wsX1_drop := (fun _ h => List.mem_cons_of_mem _ (List.mem_append_left _ (List.mem_append_left _ (List.mem_append_right _ h))))
  generalize hH : s.heap = H at hP
  have hS : va_S A s.heap H [] := by rw [← hH]; exact va_S.rf
  generalize hlo : ([] : List Loc) = locs at hS
  refine lv_aload_n hx hb dX1_drop_0 rfl (lv_at hl 0 rfl) ?_
  refine lv_iload_n hx hb dX1_drop_1 rfl (lv_at hl 1 rfl) ?_
  refine xx_callq (vx_runV (As := [.int t]) (rest := []) ⟨hx, hb, hml, hown, hts⟩ (k_X1_filledSlotOf l D ax ar ad cO H.size σ t hfl) (cwV 1 hts gX1_drop_X1_filledSlotOf rfl rfl rfl (by decide +kernel) ⟨Nat.le_of_ble_eq_true rfl, Nat.le_of_ble_eq_true rfl⟩) (xPreV xE_ok hE hK hA hP hD hS (q0 := 0) (ci := 1) rfl rfl rfl) rfl rfl hl.1 rfl (lv_room (Nat.le_of_ble_eq_true rfl)) dX1_drop_2 ⟨Nat.le_of_ble_eq_true rfl, Nat.le_of_ble_eq_true rfl⟩) hD hS hA (fun En ce q9 H locs hxc hP hS hq9 hv9 hcl9 => ?_) (fun r u H locs hp hP hD hS => ?_)
  · exact xx_out htab hlocks hK hq9 hv9 hcl9 hP hD hS (hxc) (Nat.le_of_ble_eq_true rfl) (Nat.le_of_ble_eq_true rfl)
  obtain ⟨hT, hq, hu9⟩ := hp
  rw [hu9] at hP hD
  obtain ⟨k, hk, rfl⟩ := isT_nI hT
  obtain ⟨hF, rfl⟩ := hq k hk rfl
  have hl : lv_has ls 3 [(0, .ref ax), (1, .int (nI k))] := hl
  refine W.eq (g2 := F0 m 5 ls [.ref (ad k)]) rfl ?_
  · refine lv_astore_n (lv' := [(2, .ref (ad k)), (0, .ref ax), (1, .int (nI k))]) hx hb dX1_drop_5 rfl hl (by decide) rfl (fun ls hl => ?_)
    refine lv_aload_n hx hb dX1_drop_6 rfl (lv_at hl 0 rfl) ?_
    refine lv_iconst (v := 0) hx hb dX1_drop_7 (by decide) ?_
    refine s_put hx hb hts hi0 hown hK hE hP hD hS hk 1 (by decide) rfl (v := .int (bI false)) (ty := .boolean) (uB σ 1 k false) ((sF_self σ k).2.2.2.2.2.2.1 _) (fun i9 hi9 => (sF_other σ hi9).2.2.2.2.2.2.1 _) (cF_uB _ _ _ _ _) rfl (by decide +kernel) (bI_nar _) (bI_fit _) dX1_drop_8 (fun _ h => h) (fun H locs hP hD hS => ?_)
    refine lv_aload_n hx hb dX1_drop_11 rfl (lv_at hl 0 rfl) ?_
    refine s_get hx hb hts hi0 hown hK hE hP hk 3 (by decide) rfl (v := .int (gS σ 3 k)) rfl dX1_drop_12 (fun _ h => h) ?_
    refine vx_ret ?_
    refine W.widen (k := 2) (n := 12) (by decide) (by decide) ?_
    exact x_iret hx hb hr hlocks hK (uB σ 1 k false) hP hD hS ⟨hT, fun j hj e9 => by rw [← nI_inj32 hk hj e9]; exact ⟨hF, rfl, rfl⟩⟩ dX1_drop_15
set_option maxHeartbeats 4000000 in
set_option maxRecDepth 100000 in
theorem k_X1_wouldLeave (l : Launch) (D : va_G) (ax ar : Nat) (ad : Nat → Nat) (cO : ClassId) (sz : Nat) (σ : St) (t : Int32) (hfl : l.stackTraces = false) : vx_Met l yX1_wouldLeave wsX1_wouldLeave ({ frames := 7, cells := 1, slots := 6, locals := 150 } : Room) (va_Pc [.ref ax, .int t] (xPre D (cT cO) xE (cW ax ar ad cO) σ sz)) (va_Qi (fun (r : Int32) (u : St) => inR t 1 1000 = true ∧ r = cWould σ t ∧ u = σ) (xB D (cT cO) (cW ax ar ad cO) (va_A (cW ax ar ad cO σ) sz)) (va_A (cW ax ar ad cO σ) sz)) (xXC D (cT cO) (cW ax ar ad cO) (va_A (cW ax ar ad cO σ) sz) σ (fun En => En = xIA ∧ inR t 1 1000 = false)) 1 6 (va_A (cW ax ar ad cO σ) sz) := by
  refine xxOpen (w := (cW ax ar ad cO)) (σ := σ) (cc := cX1_wouldLeave) (maxL := 2) (ret := some .int) (QQ := fun A => va_Qi (fun (r : Int32) (u : St) => inR t 1 1000 = true ∧ r = cWould σ t ∧ u = σ) (xB D (cT cO) (cW ax ar ad cO) A) A) (XX := fun A => xXC D (cT cO) (cW ax ar ad cO) A σ (fun En => En = xIA ∧ inR t 1 1000 = false)) (by decide) rfl (Nat.le_of_ble_eq_true rfl) ?_
  intro p e s m below meth c A hx hb hr hml hown hts hlocks htab hK hE hA hP hD hS ls hl
  have hl : lv_has ls 2 [(0, .ref ax), (1, .int t)] := hl
  have hown : s.vm.findClass RX1 = some m.cls := hown
  have hi0 : ∀ w ∈ wsX00, w ∈ wsX1_wouldLeave := (fun _ h => List.mem_cons_of_mem _ (List.mem_append_left _ (List.mem_append_right _ h)))
  have hi1 : ∀ w ∈ wsX10, w ∈ wsX1_wouldLeave := (fun _ h => List.mem_cons_of_mem _ (List.mem_append_left _ (List.mem_append_left _ (List.mem_append_right _ h))))
  generalize hH : s.heap = H at hP
  have hS : va_S A s.heap H [] := by rw [← hH]; exact va_S.rf
  generalize hlo : ([] : List Loc) = locs at hS
  refine lv_iload_n hx hb dX1_wouldLeave_0 rfl (lv_at hl 1 rfl) ?_
  refine lv_iconst (v := 1) hx hb dX1_wouldLeave_1 (by decide) ?_
  refine lv_sipush (v := 1000) hx hb dX1_wouldLeave_2 (by decide) ?_
  refine xx_callv (vx_runS (As := [.int t, .int 1, .int 1000]) (rest := []) ⟨hx, hb, hml, hown, hts⟩ (k_X1_requireWithin l D ax ar ad cO H.size σ t 1 1000 hfl) (va_cwS 3 hts gX1_wouldLeave_X1_requireWithin rfl rfl rfl (by decide +kernel) ⟨Nat.le_of_ble_eq_true rfl, Nat.le_of_ble_eq_true rfl⟩) (xPreS xE_ok hE hK hA hP hD hS) rfl rfl hl.1 rfl (lv_room (Nat.le_of_ble_eq_true rfl)) dX1_wouldLeave_5 ⟨Nat.le_of_ble_eq_true rfl, Nat.le_of_ble_eq_true rfl⟩) hD hS hA (fun En ce q9 H locs hxc hP hS hq9 hv9 hcl9 => ?_) (fun u H locs hp hP hD hS => ?_)
  · exact xx_out htab hlocks hK hq9 hv9 hcl9 hP hD hS (hxc) (Nat.le_of_ble_eq_true rfl) (Nat.le_of_ble_eq_true rfl)
  obtain ⟨v_1, hu9⟩ := hp
  rw [hu9] at hP hD
  · refine lv_iload_n hx hb dX1_wouldLeave_8 rfl (lv_at hl 1 rfl) ?_
    refine lv_aload_n hx hb dX1_wouldLeave_9 rfl (lv_at hl 0 rfl) ?_
    refine c_get hx hb hts hi1 hown hK hP 3 (by decide) (List.mem_of_getElem? (i := 1) rfl) (v := .int (gI σ 3)) rfl dX1_wouldLeave_10 (fun _ h => h) ?_
    refine lv_aload_n hx hb dX1_wouldLeave_13 rfl (lv_at hl 0 rfl) ?_
    refine x_calli (va_runV (As := []) (rest := [.int (gI σ 3), .int t]) ⟨hx, hb, hml, hown, hts⟩ (k_X1_bytesThatCannotLeave l D ax ar ad cO H.size σ) (cwV 0 hts gX1_wouldLeave_X1_bytesThatCannotLeave rfl rfl rfl (by decide +kernel) ⟨Nat.le_of_ble_eq_true rfl, Nat.le_of_ble_eq_true rfl⟩) (xPreV xE_ok hE hK hA hP hD hS (q0 := 0) (ci := 1) rfl rfl rfl) rfl rfl hl.1 rfl (lv_room (Nat.le_of_ble_eq_true rfl)) dX1_wouldLeave_14 ⟨Nat.le_of_ble_eq_true rfl, Nat.le_of_ble_eq_true rfl⟩) hD hS hA (fun r u H locs hp hP hD hS => ?_)
    obtain ⟨rfl, hu9⟩ := hp
    rw [hu9] at hP hD
    refine lv_isub hx hb dX1_wouldLeave_17 ?_
    refine x_icmp_le (tgt := 25) hx hb dX1_wouldLeave_18 (by decide) (fun c_2 => ?_) (fun c_2 => ?_)
    · refine lv_aload_n hx hb dX1_wouldLeave_25 rfl (lv_at hl 0 rfl) ?_
      refine lv_iload_n hx hb dX1_wouldLeave_26 rfl (lv_at hl 1 rfl) ?_
      refine x_calli (va_runV (As := [.int t]) (rest := []) ⟨hx, hb, hml, hown, hts⟩ (k_X1_countThatWouldLeave l D ax ar ad cO H.size σ t) (cwV 1 hts gX1_wouldLeave_X1_countThatWouldLeave rfl rfl rfl (by decide +kernel) ⟨Nat.le_of_ble_eq_true rfl, Nat.le_of_ble_eq_true rfl⟩) (xPreV xE_ok hE hK hA hP hD hS (q0 := 0) (ci := 1) rfl rfl rfl) rfl rfl hl.1 rfl (lv_room (Nat.le_of_ble_eq_true rfl)) dX1_wouldLeave_27 ⟨Nat.le_of_ble_eq_true rfl, Nat.le_of_ble_eq_true rfl⟩) hD hS hA (fun r u H locs hp hP hD hS => ?_)
      obtain ⟨rfl, hu9⟩ := hp
      rw [hu9] at hP hD
      refine vx_ret ?_
      refine W.widen (k := 1) (n := 6) (by decide) (by decide) ?_
      exact x_iret hx hb hr hlocks hK (σ) hP hD hS ⟨v_1, by simp [cWould, c_2], rfl⟩ dX1_wouldLeave_30
    · refine lv_iconst (v := (-1)) hx hb dX1_wouldLeave_21 (by decide) ?_
      refine lv_goto (tgt := 30) hx hb dX1_wouldLeave_22 (by decide) ?_
      refine vx_ret ?_
      refine W.widen (k := 1) (n := 6) (by decide) (by decide) ?_
      exact x_iret hx hb hr hlocks hK (σ) hP hD hS ⟨v_1, by simp [cWould, c_2], rfl⟩ dX1_wouldLeave_30
set_option maxHeartbeats 4000000 in
set_option maxRecDepth 100000 in
theorem k_X1_placeOf (l : Launch) (D : va_G) (ax ar : Nat) (ad : Nat → Nat) (cO : ClassId) (sz : Nat) (σ : St) (t : Int32) (hfl : l.stackTraces = false) : vx_Met l yX1_placeOf wsX1_placeOf ({ frames := 7, cells := 1, slots := 6, locals := 150 } : Room) (va_Pc [.ref ax, .int t] (xPre D (cT cO) xE (cW ax ar ad cO) σ sz)) (va_Qi (fun (r : Int32) (u : St) => isT t = true ∧ (∀ k9, k9 < 32 → t = nI k9 → r = cPlace σ k9) ∧ u = σ) (xB D (cT cO) (cW ax ar ad cO) (va_A (cW ax ar ad cO σ) sz)) (va_A (cW ax ar ad cO σ) sz)) (xXC D (cT cO) (cW ax ar ad cO) (va_A (cW ax ar ad cO σ) sz) σ (fun En => En = xIO ∧ isT t = false)) 1 6 (va_A (cW ax ar ad cO σ) sz) := by
  refine xxOpen (w := (cW ax ar ad cO)) (σ := σ) (cc := cX1_placeOf) (maxL := 8) (ret := some .int) (QQ := fun A => va_Qi (fun (r : Int32) (u : St) => isT t = true ∧ (∀ k9, k9 < 32 → t = nI k9 → r = cPlace σ k9) ∧ u = σ) (xB D (cT cO) (cW ax ar ad cO) A) A) (XX := fun A => xXC D (cT cO) (cW ax ar ad cO) A σ (fun En => En = xIO ∧ isT t = false)) (by decide) rfl (Nat.le_of_ble_eq_true rfl) ?_
  intro p e s m below meth c A hx hb hr hml hown hts hlocks htab hK hE hA hP hD hS ls hl
  have hl : lv_has ls 8 [(0, .ref ax), (1, .int t)] := hl
  have hown : s.vm.findClass RX1 = some m.cls := hown
  have hi0 : ∀ w ∈ wsX00, w ∈ wsX1_placeOf := (fun _ h => List.mem_cons_of_mem _ (List.mem_append_left _ (List.mem_append_right _ h)))
  have hi1 : ∀ w ∈ wsX10, w ∈ wsX1_placeOf := (fun _ h => List.mem_cons_of_mem _ (List.mem_append_left _ (List.mem_append_left _ (List.mem_append_right _ h))))
  generalize hH : s.heap = H at hP
  have hS : va_S A s.heap H [] := by rw [← hH]; exact va_S.rf
  generalize hlo : ([] : List Loc) = locs at hS
  refine lv_aload_n hx hb dX1_placeOf_0 rfl (lv_at hl 0 rfl) ?_
  refine lv_iload_n hx hb dX1_placeOf_1 rfl (lv_at hl 1 rfl) ?_
  refine xx_callq (vx_runV (As := [.int t]) (rest := []) ⟨hx, hb, hml, hown, hts⟩ (k_X1_slotOf l D ax ar ad cO H.size σ t hfl) (cwV 1 hts gX1_placeOf_X1_slotOf rfl rfl rfl (by decide +kernel) ⟨Nat.le_of_ble_eq_true rfl, Nat.le_of_ble_eq_true rfl⟩) (xPreV xE_ok hE hK hA hP hD hS (q0 := 0) (ci := 1) rfl rfl rfl) rfl rfl hl.1 rfl (lv_room (Nat.le_of_ble_eq_true rfl)) dX1_placeOf_2 ⟨Nat.le_of_ble_eq_true rfl, Nat.le_of_ble_eq_true rfl⟩) hD hS hA (fun En ce q9 H locs hxc hP hS hq9 hv9 hcl9 => ?_) (fun r u H locs hp hP hD hS => ?_)
  · exact xx_out htab hlocks hK hq9 hv9 hcl9 hP hD hS (hxc) (Nat.le_of_ble_eq_true rfl) (Nat.le_of_ble_eq_true rfl)
  obtain ⟨hT, hq, hu9⟩ := hp
  rw [hu9] at hP hD
  obtain ⟨k, hk, rfl⟩ := isT_nI hT
  obtain rfl := hq k hk rfl
  have hl : lv_has ls 8 [(0, .ref ax), (1, .int (nI k))] := hl
  refine W.eq (g2 := F0 m 5 ls [.ref (ad k)]) rfl ?_
  · refine lv_astore_n (lv' := [(2, .ref (ad k)), (0, .ref ax), (1, .int (nI k))]) hx hb dX1_placeOf_5 rfl hl (by decide) rfl (fun ls hl => ?_)
    refine lv_aload_n hx hb dX1_placeOf_6 rfl (lv_at hl 0 rfl) ?_
    refine x_calli (va_runS (As := [.ref (ad k)]) (rest := []) ⟨hx, hb, hml, hown, hts⟩ (k_X1_isInOrder l D ax ar ad cO H.size σ hk) (va_cwS 1 hts gX1_placeOf_X1_isInOrder rfl rfl rfl (by decide +kernel) ⟨Nat.le_of_ble_eq_true rfl, Nat.le_of_ble_eq_true rfl⟩) (xPreS xE_ok hE hK hA hP hD hS) rfl rfl hl.1 rfl (lv_room (Nat.le_of_ble_eq_true rfl)) dX1_placeOf_7 ⟨Nat.le_of_ble_eq_true rfl, Nat.le_of_ble_eq_true rfl⟩) hD hS hA (fun r u H locs hp hP hD hS => ?_)
    obtain ⟨rfl, hu9⟩ := hp
    rw [hu9] at hP hD
    refine x_ifne (tgt := 15) hx hb dX1_placeOf_10 (by decide) (fun c_1 => ?_) (fun c_1 => ?_)
    · refine lv_iconst (v := 0) hx hb dX1_placeOf_15 (by decide) ?_
      refine lv_istore_n (lv' := [(3, .int 0), (2, .ref (ad k)), (0, .ref ax), (1, .int (nI k))]) hx hb dX1_placeOf_16 rfl hl (by decide) rfl (fun ls hl => ?_)
      refine lv_aload_n hx hb dX1_placeOf_17 rfl (lv_at hl 2 rfl) ?_
      refine c_get hx hb hts hi1 hown hK hP 0 (by decide) (List.mem_of_getElem? (i := 1) rfl) (v := .ref ar) rfl dX1_placeOf_18 (fun _ h => h) ?_
      refine lv_astore (lv' := [(4, .ref ar), (3, .int 0), (2, .ref (ad k)), (0, .ref ax), (1, .int (nI k))]) hx hb dX1_placeOf_21 hl (by decide) rfl (fun ls hl => ?_)
      refine lv_aload hx hb dX1_placeOf_23 (lv_at hl 0 rfl) ?_
      refine c_alen hx hb hK hP dX1_placeOf_25 ?_
      refine lv_istore (lv' := [(5, .int 32), (4, .ref ar), (3, .int 0), (2, .ref (ad k)), (0, .ref ax), (1, .int (nI k))]) hx hb dX1_placeOf_26 hl (by decide) rfl (fun ls hl => ?_)
      refine lv_iconst (v := 0) hx hb dX1_placeOf_28 (by decide) ?_
      refine lv_istore (lv' := [(6, .int 0), (5, .int 32), (4, .ref ar), (3, .int 0), (2, .ref (ad k)), (0, .ref ax), (1, .int (nI k))]) hx hb dX1_placeOf_29 hl (by decide) rfl (fun ls hl => ?_)
      have loop : ∀ (n i : Nat) (ls : Array Slot) (H : Heap) (locs : List Loc), i ≤ 32 → 32 - i < n → va_P D vwCl (cW ax ar ad cO (σ)) H → va_D A (cW ax ar ad cO (σ)) → va_S A s.heap H locs → lv_has ls 8 [(0, .ref ax), (1, .int (nI k)), (2, .ref (ad k)), (3, .int (sumI (placeF σ k) i)), (4, .ref ar), (5, .int 32), (6, .int (nI i))] → W p l e (headSpec wsX1_placeOf ({ frames := 7, cells := 1, slots := 6, locals := 150 } : Room)).room s m [.ref ax, .int (nI k)].toArray below meth c H locs 1 6 (vx_MQ below (va_Qi (fun (r : Int32) (u : St) => isT (nI k) = true ∧ (∀ k9, k9 < 32 → (nI k) = nI k9 → r = cPlace σ k9) ∧ u = σ) (xB D (cT cO) (cW ax ar ad cO) A) A) (xXC D (cT cO) (cW ax ar ad cO) A σ (fun En => En = xIO ∧ isT (nI k) = false)) [.ref ax, .int (nI k)].toArray s 1 6 A) (F0 m 31 ls []) := by
        intro n
        induction n with
        | zero =>
          intro i ls H locs h1 h2
          exact absurd h2 (by omega)
        | succ n ih =>
          intro i ls H locs hi hn hP hD hS hl
          refine lv_iload hx hb dX1_placeOf_31 (lv_at hl 6 rfl) ?_
          refine lv_iload hx hb dX1_placeOf_33 (lv_at hl 5 rfl) ?_
          refine x_icmp_ge (tgt := 71) hx hb dX1_placeOf_35 (by decide) (fun c_2 => ?_) (fun c_2 => ?_)
          · have hi9 : i = 32 := by
              rcases Nat.lt_or_ge i 32 with q | q
              · exact absurd ((nI_lt32 hi).mpr q) c_2
              · omega
            subst hi9
            refine lv_iload_n hx hb dX1_placeOf_71 rfl (lv_at hl 3 rfl) ?_
            refine vx_ret ?_
            refine W.widen (k := 1) (n := 6) (by decide) (by decide) ?_
            exact x_iret hx hb hr hlocks hK (σ) hP hD hS ⟨hT, fun j hj e9 => by rw [← nI_inj32 hk hj e9]; simp [cPlace, c_1], rfl⟩ dX1_placeOf_72
          · have hlt : i < 32 := (nI_lt32 hi).mp c_2
            refine lv_aload hx hb dX1_placeOf_38 (lv_at hl 4 rfl) ?_
            refine lv_iload hx hb dX1_placeOf_40 (lv_at hl 6 rfl) ?_
            refine c_aald hx hb hK hP hlt dX1_placeOf_42 ?_
            refine lv_astore (lv' := [(7, .ref (ad i)), (0, .ref ax), (1, .int (nI k)), (2, .ref (ad k)), (3, .int (sumI (placeF σ k) i)), (4, .ref ar), (5, .int 32), (6, .int (nI i))]) hx hb dX1_placeOf_43 hl (by decide) rfl (fun ls hl => ?_)
            refine lv_aload hx hb dX1_placeOf_45 (lv_at hl 0 rfl) ?_
            refine x_calli (va_runS (As := [.ref (ad i)]) (rest := []) ⟨hx, hb, hml, hown, hts⟩ (k_X1_isInOrder l D ax ar ad cO H.size σ hlt) (va_cwS 1 hts gX1_placeOf_X1_isInOrder rfl rfl rfl (by decide +kernel) ⟨Nat.le_of_ble_eq_true rfl, Nat.le_of_ble_eq_true rfl⟩) (xPreS xE_ok hE hK hA hP hD hS) rfl rfl hl.1 rfl (lv_room (Nat.le_of_ble_eq_true rfl)) dX1_placeOf_47 ⟨Nat.le_of_ble_eq_true rfl, Nat.le_of_ble_eq_true rfl⟩) hD hS hA (fun r u H locs hp hP hD hS => ?_)
            obtain ⟨rfl, hu9⟩ := hp
            rw [hu9] at hP hD
            refine x_ifeq (tgt := 65) hx hb dX1_placeOf_50 (by decide) (fun c_3 => ?_) (fun c_3 => ?_)
            · refine lv_iinc (v := (nI i) + 1) (lv' := [(6, .int ((nI i) + 1)), (7, .ref (ad i)), (0, .ref ax), (1, .int (nI k)), (2, .ref (ad k)), (3, .int (sumI (placeF σ k) i)), (4, .ref ar), (5, .int 32)]) hx hb dX1_placeOf_65 hl (k := 7) rfl rfl (by decide) rfl (fun ls hl => ?_)
              refine lv_goto (tgt := 31) hx hb dX1_placeOf_68 (by decide) ?_
              have e9_0 : sumI (placeF σ k) (i + 1) = sumI (placeF σ k) i := by simp [sumI, placeF, Int32.add_zero, c_1, c_2, c_3]
              exact ih (i + 1) ls H locs (by omega) (by omega) hP hD hS (by rw [e9_0, nI_succ]; exact lv_sub hl [2, 3, 4, 5, 6, 7, 0] rfl)
            · refine lv_aload hx hb dX1_placeOf_53 (lv_at hl 0 rfl) ?_
              refine lv_aload_n hx hb dX1_placeOf_55 rfl (lv_at hl 3 rfl) ?_
              refine x_calli (va_runS (As := [.ref (ad i), .ref (ad k)]) (rest := []) ⟨hx, hb, hml, hown, hts⟩ (k_X1_leavesBefore l D ax ar ad cO H.size σ hlt hk) (va_cwS 2 hts gX1_placeOf_X1_leavesBefore rfl rfl rfl (by decide +kernel) ⟨Nat.le_of_ble_eq_true rfl, Nat.le_of_ble_eq_true rfl⟩) (xPreS xE_ok hE hK hA hP hD hS) rfl rfl hl.1 rfl (lv_room (Nat.le_of_ble_eq_true rfl)) dX1_placeOf_56 ⟨Nat.le_of_ble_eq_true rfl, Nat.le_of_ble_eq_true rfl⟩) hD hS hA (fun r u H locs hp hP hD hS => ?_)
              obtain ⟨rfl, hu9⟩ := hp
              rw [hu9] at hP hD
              refine x_ifeq (tgt := 65) hx hb dX1_placeOf_59 (by decide) (fun c_4 => ?_) (fun c_4 => ?_)
              · refine lv_iinc (v := (nI i) + 1) (lv' := [(6, .int ((nI i) + 1)), (7, .ref (ad i)), (0, .ref ax), (1, .int (nI k)), (2, .ref (ad k)), (3, .int (sumI (placeF σ k) i)), (4, .ref ar), (5, .int 32)]) hx hb dX1_placeOf_65 hl (k := 7) rfl rfl (by decide) rfl (fun ls hl => ?_)
                refine lv_goto (tgt := 31) hx hb dX1_placeOf_68 (by decide) ?_
                have e9_0 : sumI (placeF σ k) (i + 1) = sumI (placeF σ k) i := by simp [sumI, placeF, Int32.add_zero, c_1, c_2, c_3, c_4]
                exact ih (i + 1) ls H locs (by omega) (by omega) hP hD hS (by rw [e9_0, nI_succ]; exact lv_sub hl [2, 3, 4, 5, 6, 7, 0] rfl)
              · refine lv_iinc (v := (sumI (placeF σ k) i) + 1) (lv' := [(3, .int ((sumI (placeF σ k) i) + 1)), (7, .ref (ad i)), (0, .ref ax), (1, .int (nI k)), (2, .ref (ad k)), (4, .ref ar), (5, .int 32), (6, .int (nI i))]) hx hb dX1_placeOf_62 hl (k := 4) rfl rfl (by decide) rfl (fun ls hl => ?_)
                refine lv_iinc (v := (nI i) + 1) (lv' := [(6, .int ((nI i) + 1)), (3, .int ((sumI (placeF σ k) i) + 1)), (7, .ref (ad i)), (0, .ref ax), (1, .int (nI k)), (2, .ref (ad k)), (4, .ref ar), (5, .int 32)]) hx hb dX1_placeOf_65 hl (k := 7) rfl rfl (by decide) rfl (fun ls hl => ?_)
                refine lv_goto (tgt := 31) hx hb dX1_placeOf_68 (by decide) ?_
                have e9_0 : sumI (placeF σ k) (i + 1) = (sumI (placeF σ k) i) + 1 := by simp [sumI, placeF, Int32.add_zero, c_1, c_2, c_3, c_4]
                exact ih (i + 1) ls H locs (by omega) (by omega) hP hD hS (by rw [e9_0, nI_succ]; exact lv_sub hl [3, 4, 5, 1, 6, 7, 0] rfl)
      exact loop 33 0 _ _ _ (Nat.zero_le _) (by decide) hP hD hS (lv_sub hl [5, 6, 4, 3, 2, 1, 0] rfl)
    · refine lv_iconst (v := (-1)) hx hb dX1_placeOf_13 (by decide) ?_
      refine vx_ret ?_
      refine W.widen (k := 1) (n := 6) (by decide) (by decide) ?_
      exact x_iret hx hb hr hlocks hK (σ) hP hD hS ⟨hT, fun j hj e9 => by rw [← nI_inj32 hk hj e9]; simp [cPlace, c_1], rfl⟩ dX1_placeOf_14
end
section
set_option maxHeartbeats 4000000 in
set_option maxRecDepth 100000 in
theorem k_X1_endsFirst (l : Launch) (D : va_G) (ax ar : Nat) (ad : Nat → Nat) (cO : ClassId) (sz : Nat) (σ : St) : Met l yX1_endsFirst wsX1_endsFirst ({ frames := 0, cells := 0, slots := 0, locals := 0 } : Room) (va_Pc [.ref ax] (xPre D (cT cO) xE (cW ax ar ad cO) σ sz)) (va_Qi (fun (r : Int32) (u : St) => r = cEnds σ ∧ u = σ) (xB D (cT cO) (cW ax ar ad cO) (va_A (cW ax ar ad cO σ) sz)) (va_A (cW ax ar ad cO σ) sz)) 0 0 (va_A (cW ax ar ad cO σ) sz) := by
  refine xOpen (w := (cW ax ar ad cO)) (σ := σ) (cc := cX1_endsFirst) (maxL := 6) (ret := some .int) (QQ := fun A => va_Qi (fun (r : Int32) (u : St) => r = cEnds σ ∧ u = σ) (xB D (cT cO) (cW ax ar ad cO) A) A) (by decide) rfl (Nat.le_of_ble_eq_true rfl) ?_
  intro p e s m below meth c A hx hb hr hml hown hts hlocks hname hK hE hA hP hD hS ls hl
  have hl : lv_has ls 6 [(0, .ref ax)] := hl
  have hown : s.vm.findClass RX1 = some m.cls := hown
  have hi0 : ∀ w ∈ wsX00, w ∈ wsX1_endsFirst := (fun _ h => List.mem_cons_of_mem _ (List.mem_append_right _ h))
  have hi1 : ∀ w ∈ wsX10, w ∈ wsX1_endsFirst := (fun _ h => List.mem_cons_of_mem _ (List.mem_append_left _ (List.mem_append_right _ h)))
  generalize hH : s.heap = H at hP
  have hS : va_S A s.heap H [] := by rw [← hH]; exact va_S.rf
  generalize hlo : ([] : List Loc) = locs at hS
  refine lv_null hx hb dX1_endsFirst_0 ?_
  refine lv_astore_nN (lv' := [(1, .null), (0, .ref ax)]) hx hb dX1_endsFirst_1 rfl hl (by decide) rfl (fun ls hl => ?_)
  refine lv_aload_n hx hb dX1_endsFirst_2 rfl (lv_at hl 1 rfl) ?_
  refine c_get hx hb hts hi1 hown hK hP 0 (by decide) (List.mem_of_getElem? (i := 1) rfl) (v := .ref ar) rfl dX1_endsFirst_3 (fun _ h => h) ?_
  refine lv_astore_n (lv' := [(2, .ref ar), (1, .null), (0, .ref ax)]) hx hb dX1_endsFirst_6 rfl hl (by decide) rfl (fun ls hl => ?_)
  refine lv_aload_n hx hb dX1_endsFirst_7 rfl (lv_at hl 0 rfl) ?_
  refine c_alen hx hb hK hP dX1_endsFirst_8 ?_
  refine lv_istore_n (lv' := [(3, .int 32), (2, .ref ar), (1, .null), (0, .ref ax)]) hx hb dX1_endsFirst_9 rfl hl (by decide) rfl (fun ls hl => ?_)
  refine lv_iconst (v := 0) hx hb dX1_endsFirst_10 (by decide) ?_
  refine lv_istore (lv' := [(4, .int 0), (3, .int 32), (2, .ref ar), (1, .null), (0, .ref ax)]) hx hb dX1_endsFirst_11 hl (by decide) rfl (fun ls hl => ?_)
  have loop : ∀ (n i : Nat) (ls : Array Slot), i ≤ 32 → 32 - i < n → lv_has ls 6 [(0, .ref ax), (1, va_rf ((efR σ i).map ad)), (2, .ref ar), (3, .int 32), (4, .int (nI i))] → W p l e (headSpec wsX1_endsFirst ({ frames := 0, cells := 0, slots := 0, locals := 0 } : Room)).room s m [.ref ax].toArray below meth c H locs 0 0 (MQ below (va_Qi (fun (r : Int32) (u : St) => r = cEnds σ ∧ u = σ) (xB D (cT cO) (cW ax ar ad cO) A) A) [.ref ax].toArray s 0 0 A) (F0 m 13 ls []) := by
    intro n
    induction n with
    | zero =>
      intro i ls h1 h2
      exact absurd h2 (by omega)
    | succ n ih =>
      intro i ls hi hn hl
      refine lv_iload hx hb dX1_endsFirst_13 (lv_at hl 4 rfl) ?_
      refine lv_iload_n hx hb dX1_endsFirst_15 rfl (lv_at hl 3 rfl) ?_
      refine x_icmp_ge (tgt := 58) hx hb dX1_endsFirst_16 (by decide) (fun c_1 => ?_) (fun c_1 => ?_)
      · have hi9 : i = 32 := by
          rcases Nat.lt_or_ge i 32 with q | q
          · exact absurd ((nI_lt32 hi).mpr q) c_1
          · omega
        subst hi9
        refine x_aload_nQ hx hb dX1_endsFirst_58 rfl (lv_at hl 1 rfl) ?_
        refine x_ifnonnullQ (tgt := 66) hx hb dX1_endsFirst_59 (by decide) (fun k_3 c_2 => ?_) (fun c_2 => ?_)
        · have hk_3 : k_3 < 32 := Nat.lt_of_lt_of_le (efR_lt _ _ _ c_2) hi
          refine x_aload_nQ hx hb dX1_endsFirst_66 rfl (lv_at hl 1 rfl) ?_
          refine W.eq (g2 := F0 m 67 ls [.ref (ad k_3)]) (by rw [c_2]; rfl) ?_
          refine s_get hx hb hts hi0 hown hK hE hP hk_3 0 (by decide) rfl (v := .int (gS σ 0 k_3)) rfl dX1_endsFirst_67 (fun _ h => h) ?_
          exact x_iret hx hb hr hlocks hK (σ) hP hD hS ⟨by rw [cEnds, c_2], rfl⟩ dX1_endsFirst_70
        · refine lv_iconst (v := (-1)) hx hb dX1_endsFirst_62 (by decide) ?_
          refine lv_goto (tgt := 70) hx hb dX1_endsFirst_63 (by decide) ?_
          exact x_iret hx hb hr hlocks hK (σ) hP hD hS ⟨by rw [cEnds, c_2], rfl⟩ dX1_endsFirst_70
      · have hlt : i < 32 := (nI_lt32 hi).mp c_1
        refine lv_aload_n hx hb dX1_endsFirst_19 rfl (lv_at hl 2 rfl) ?_
        refine lv_iload hx hb dX1_endsFirst_20 (lv_at hl 4 rfl) ?_
        refine c_aald hx hb hK hP hlt dX1_endsFirst_22 ?_
        refine lv_astore (lv' := [(5, .ref (ad i)), (0, .ref ax), (1, va_rf ((efR σ i).map ad)), (2, .ref ar), (3, .int 32), (4, .int (nI i))]) hx hb dX1_endsFirst_23 hl (by decide) rfl (fun ls hl => ?_)
        refine lv_aload hx hb dX1_endsFirst_25 (lv_at hl 0 rfl) ?_
        refine s_get hx hb hts hi0 hown hK hE hP hlt 1 (by decide) rfl (v := .int (bI (gB σ 1 i))) rfl dX1_endsFirst_27 (fun _ h => h) ?_
        refine x_ifeq (tgt := 52) hx hb dX1_endsFirst_30 (by decide) (fun c_4 => ?_) (fun c_4 => ?_)
        · refine lv_iinc (v := (nI i) + 1) (lv' := [(4, .int ((nI i) + 1)), (5, .ref (ad i)), (0, .ref ax), (1, va_rf ((efR σ i).map ad)), (2, .ref ar), (3, .int 32)]) hx hb dX1_endsFirst_52 hl (k := 5) rfl rfl (by decide) rfl (fun ls hl => ?_)
          refine lv_goto (tgt := 13) hx hb dX1_endsFirst_55 (by decide) ?_
          have e9_0 : efR σ (i + 1) = efR σ i := by rw [efR_s]; simp [endO, c_1, c_4]
          exact ih (i + 1) ls (by omega) (by omega) (by rw [e9_0, nI_succ]; exact lv_sub hl [2, 3, 4, 5, 0] rfl)
        · refine x_aload_nQ hx hb dX1_endsFirst_33 rfl (lv_at hl 2 rfl) ?_
          refine x_ifnullQ (tgt := 49) hx hb dX1_endsFirst_34 (by decide) (fun c_5 => ?_) (fun k_6 c_5 => ?_)
          · refine lv_aload hx hb dX1_endsFirst_49 (lv_at hl 0 rfl) ?_
            refine lv_astore_n (lv' := [(1, .ref (ad i)), (5, .ref (ad i)), (0, .ref ax), (2, .ref ar), (3, .int 32), (4, .int (nI i))]) hx hb dX1_endsFirst_51 rfl hl (by decide) rfl (fun ls hl => ?_)
            refine lv_iinc (v := (nI i) + 1) (lv' := [(4, .int ((nI i) + 1)), (1, .ref (ad i)), (5, .ref (ad i)), (0, .ref ax), (2, .ref ar), (3, .int 32)]) hx hb dX1_endsFirst_52 hl (k := 5) rfl rfl (by decide) rfl (fun ls hl => ?_)
            refine lv_goto (tgt := 13) hx hb dX1_endsFirst_55 (by decide) ?_
            have e9_0 : efR σ (i + 1) = some i := by rw [efR_s, c_5]; simp [endO, c_1, c_4]
            exact ih (i + 1) ls (by omega) (by omega) (by rw [e9_0, nI_succ]; exact lv_sub hl [3, 1, 4, 5, 0] rfl)
          · have hk_6 : k_6 < 32 := Nat.lt_of_lt_of_le (efR_lt _ _ _ c_5) hi
            refine lv_aload hx hb dX1_endsFirst_37 (lv_at hl 0 rfl) ?_
            refine s_get hx hb hts hi0 hown hK hE hP hlt 5 (by decide) rfl (v := .int (gS σ 5 i)) rfl dX1_endsFirst_39 (fun _ h => h) ?_
            refine x_aload_nQ hx hb dX1_endsFirst_42 rfl (lv_at hl 2 rfl) ?_
            refine W.eq (g2 := F0 m 43 ls [.ref (ad k_6), .int (gS σ 5 i)]) (by rw [c_5]; rfl) ?_
            refine s_get hx hb hts hi0 hown hK hE hP hk_6 5 (by decide) rfl (v := .int (gS σ 5 k_6)) rfl dX1_endsFirst_43 (fun _ h => h) ?_
            refine x_icmp_ge (tgt := 52) hx hb dX1_endsFirst_46 (by decide) (fun c_7 => ?_) (fun c_7 => ?_)
            · refine lv_iinc (v := (nI i) + 1) (lv' := [(4, .int ((nI i) + 1)), (5, .ref (ad i)), (0, .ref ax), (1, va_rf ((efR σ i).map ad)), (2, .ref ar), (3, .int 32)]) hx hb dX1_endsFirst_52 hl (k := 5) rfl rfl (by decide) rfl (fun ls hl => ?_)
              refine lv_goto (tgt := 13) hx hb dX1_endsFirst_55 (by decide) ?_
              have e9_0 : efR σ (i + 1) = efR σ i := by rw [efR_s, c_5]; simp [endO, c_1, c_4, c_7]
              exact ih (i + 1) ls (by omega) (by omega) (by rw [e9_0, nI_succ]; exact lv_sub hl [2, 3, 4, 5, 0] rfl)
            · refine lv_aload hx hb dX1_endsFirst_49 (lv_at hl 0 rfl) ?_
              refine lv_astore_n (lv' := [(1, .ref (ad i)), (5, .ref (ad i)), (0, .ref ax), (2, .ref ar), (3, .int 32), (4, .int (nI i))]) hx hb dX1_endsFirst_51 rfl hl (by decide) rfl (fun ls hl => ?_)
              refine lv_iinc (v := (nI i) + 1) (lv' := [(4, .int ((nI i) + 1)), (1, .ref (ad i)), (5, .ref (ad i)), (0, .ref ax), (2, .ref ar), (3, .int 32)]) hx hb dX1_endsFirst_52 hl (k := 5) rfl rfl (by decide) rfl (fun ls hl => ?_)
              refine lv_goto (tgt := 13) hx hb dX1_endsFirst_55 (by decide) ?_
              have e9_0 : efR σ (i + 1) = some i := by rw [efR_s, c_5]; simp [endO, c_1, c_4, c_7]
              exact ih (i + 1) ls (by omega) (by omega) (by rw [e9_0, nI_succ]; exact lv_sub hl [3, 1, 4, 5, 0] rfl)
  exact loop 33 0 _ (Nat.zero_le _) (by decide) (lv_sub hl [4, 3, 2, 1, 0] rfl)
set_option maxHeartbeats 4000000 in
set_option maxRecDepth 100000 in
theorem k_X1_leaving (l : Launch) (D : va_G) (ax ar : Nat) (ad : Nat → Nat) (cO : ClassId) (sz : Nat) (σ : St) (t : Int32) (N : Nat) (hN : N < 64) (h1 : ∀ j, j < N → nI j < t ∧ nth σ j ≠ none) (h2 : ¬ nI N < t ∨ nth σ N = none) (hfl : l.stackTraces = false) : vx_Met l yX1_leaving wsX1_leaving ({ frames := 6, cells := 1, slots := 6, locals := 150 } : Room) (va_Pc [.ref ax, .int t] (xPre D (cT cO) xE (cW ax ar ad cO) σ sz)) (va_Qi (fun (r : Int32) (u : St) => ¬ t < 0 ∧ (∃ k, nth σ N = some k ∧ r = gS σ 0 k) ∧ u = σ) (xB D (cT cO) (cW ax ar ad cO) (va_A (cW ax ar ad cO σ) sz)) (va_A (cW ax ar ad cO σ) sz)) (xXC D (cT cO) (cW ax ar ad cO) (va_A (cW ax ar ad cO σ) sz) σ (fun En => En = xIO ∧ (t < 0 ∨ nth σ N = none))) 1 6 (va_A (cW ax ar ad cO σ) sz) := by
  refine xxOpen (w := (cW ax ar ad cO)) (σ := σ) (cc := cX1_leaving) (maxL := 4) (ret := some .int) (QQ := fun A => va_Qi (fun (r : Int32) (u : St) => ¬ t < 0 ∧ (∃ k, nth σ N = some k ∧ r = gS σ 0 k) ∧ u = σ) (xB D (cT cO) (cW ax ar ad cO) A) A) (XX := fun A => xXC D (cT cO) (cW ax ar ad cO) A σ (fun En => En = xIO ∧ (t < 0 ∨ nth σ N = none))) (by decide) rfl (Nat.le_of_ble_eq_true rfl) ?_
  intro p e s m below meth c A hx hb hr hml hown hts hlocks htab hK hE hA hP hD hS ls hl
  have hl : lv_has ls 4 [(0, .ref ax), (1, .int t)] := hl
  have hown : s.vm.findClass RX1 = some m.cls := hown
  have hi0 : ∀ w ∈ wsX00, w ∈ wsX1_leaving := (fun _ h => List.mem_cons_of_mem _ (List.mem_append_left _ (List.mem_append_left _ (List.mem_append_right _ h))))
  have hi1 : ∀ w ∈ wsX10, w ∈ wsX1_leaving := (fun _ h => List.mem_cons_of_mem _ (List.mem_append_left _ (List.mem_append_right _ h)))
  generalize hH : s.heap = H at hP
  have hS : va_S A s.heap H [] := by rw [← hH]; exact va_S.rf
  generalize hlo : ([] : List Loc) = locs at hS
  refine lv_iload_n hx hb dX1_leaving_0 rfl (lv_at hl 1 rfl) ?_
  refine x_if_ge (tgt := 8) hx hb dX1_leaving_1 (by decide) (fun c_1 => ?_) (fun c_1 => ?_)
  · refine lv_aload_n hx hb dX1_leaving_8 rfl (lv_at hl 0 rfl) ?_
    refine x_callq (va_runV (As := []) (rest := []) ⟨hx, hb, hml, hown, hts⟩ (k_X1_firstInOrder l D ax ar ad cO H.size σ) (cwV 0 hts gX1_leaving_X1_firstInOrder rfl rfl rfl (by decide +kernel) ⟨Nat.le_of_ble_eq_true rfl, Nat.le_of_ble_eq_true rfl⟩) (xPreV xE_ok hE hK hA hP hD hS (q0 := 0) (ci := 1) rfl rfl rfl) rfl rfl hl.1 rfl (lv_room (Nat.le_of_ble_eq_true rfl)) dX1_leaving_9 ⟨Nat.le_of_ble_eq_true rfl, Nat.le_of_ble_eq_true rfl⟩) hD hS hA (fun r u H locs hp hP hD hS => ?_)
    obtain ⟨rfl, hu9⟩ := hp
    rw [hu9] at hP hD
    refine x_astore_nQ (lv' := [(2, va_rf ((nxt σ none).map ad)), (0, .ref ax), (1, .int t)]) hx hb dX1_leaving_12 rfl hl (by decide) rfl (fun ls hl => ?_)
    refine lv_iconst (v := 0) hx hb dX1_leaving_13 (by decide) ?_
    refine lv_istore_n (lv' := [(3, .int 0), (2, va_rf ((nxt σ none).map ad)), (0, .ref ax), (1, .int t)]) hx hb dX1_leaving_14 rfl hl (by decide) (by cases (nxt σ none) <;> rfl) (fun ls hl => ?_)
    have loop : ∀ (n j : Nat) (ls : Array Slot) (H : Heap) (locs : List Loc), j ≤ N → N - j < n → va_P D vwCl (cW ax ar ad cO σ) H → va_D A (cW ax ar ad cO σ) → va_S A s.heap H locs → lv_has ls 4 [(0, .ref ax), (1, .int t), (2, va_rf ((nth σ j).map ad)), (3, .int (nI j))] → W p l e (headSpec wsX1_leaving ({ frames := 6, cells := 1, slots := 6, locals := 150 } : Room)).room s m [.ref ax, .int t].toArray below meth c H locs 0 0 (vx_MQ below (va_Qi (fun (r : Int32) (u : St) => ¬ t < 0 ∧ (∃ k, nth σ N = some k ∧ r = gS σ 0 k) ∧ u = σ) (xB D (cT cO) (cW ax ar ad cO) A) A) (xXC D (cT cO) (cW ax ar ad cO) A σ (fun En => En = xIO ∧ (t < 0 ∨ nth σ N = none))) [.ref ax, .int t].toArray s 1 6 A) (F0 m 15 ls []) := by
      intro n
      induction n with
      | zero =>
        intro j ls H locs h1 h2
        exact absurd h2 (by omega)
      | succ n ih =>
        intro j ls H locs hj hn hP hD hS hl
        refine lv_iload_n hx hb dX1_leaving_15 rfl (lv_at hl 3 rfl) ?_
        refine lv_iload_n hx hb dX1_leaving_16 rfl (lv_at hl 1 rfl) ?_
        refine x_icmp_ge (tgt := 36) hx hb dX1_leaving_17 (by decide) (fun c_2 => ?_) (fun c_2 => ?_)
        · have hjN : j = N := by
            rcases Nat.lt_or_ge j N with q | q
            · exact absurd (h1 j q).1 (fun z => c_2 z)
            · omega
          subst hjN
          refine x_aload_nQ hx hb dX1_leaving_36 rfl (lv_at hl 2 rfl) ?_
          refine x_ifnonnullQ (tgt := 50) hx hb dX1_leaving_37 (by decide) (fun k_4 c_3 => ?_) (fun c_3 => ?_)
          · have hk_4 : k_4 < 32 := nth_lt c_3
            refine x_aload_nQ hx hb dX1_leaving_50 rfl (lv_at hl 2 rfl) ?_
            refine W.eq (g2 := F0 m 51 ls [.ref (ad k_4)]) (by rw [c_3]; rfl) ?_
            refine s_get hx hb hts hi0 hown hK hE hP hk_4 0 (by decide) rfl (v := .int (gS σ 0 k_4)) rfl dX1_leaving_51 (fun _ h => h) ?_
            refine vx_ret ?_
            refine W.widen (k := 1) (n := 6) (by decide) (by decide) ?_
            exact x_iret hx hb hr hlocks hK (σ) hP hD hS ⟨c_1, ⟨k_4, c_3, rfl⟩, rfl⟩ dX1_leaving_54
          · obtain ⟨sa, hsa⟩ := hE.1.2.1 (107, "the order has no such place") (List.mem_of_getElem? (i := 4) rfl)
            exact vx_throwS (A := A) (text := "the order has no such place") (names := ["java/lang/RuntimeException", "java/lang/Exception"]) (sa := sa) hx hb hfl hown (by decide +kernel) (by decide +kernel) (hts _ (List.mem_of_getElem? (i := 1) rfl)) (hts _ (List.mem_of_getElem? (i := 2) rfl)) hsa (hat_IO (fun w h => hts w (List.mem_cons_of_mem _ (List.mem_append_right _ h))) hE.1) hgd_IO hE.2.1 hE.2.2 hS (hl.1.trans hml.symm) dX1_leaving_40 dX1_leaving_43 dX1_leaving_44 dX1_leaving_46 dX1_leaving_49 (fun x hx => (htab x hx).elim) (Nat.le_of_ble_eq_true rfl) (Nat.le_of_ble_eq_true rfl) (Nat.le_of_ble_eq_true rfl) (Nat.le_of_ble_eq_true rfl) hlocks (fun t9 hvm9 hz9 hk9 => x_thr hK hP hD hS (⟨rfl, Or.inr c_3⟩) hvm9 hz9 hk9) hS.2.2 (Nat.le_of_ble_eq_true rfl) (Nat.le_of_ble_eq_true rfl)
        · refine x_aload_nQ hx hb dX1_leaving_20 rfl (lv_at hl 2 rfl) ?_
          refine x_ifnullQ (tgt := 36) hx hb dX1_leaving_21 (by decide) (fun c_5 => ?_) (fun k_6 c_5 => ?_)
          · have hjN : j = N := by
              rcases Nat.lt_or_ge j N with q | q
              · exact absurd (h1 j q).2 (fun z => z c_5)
              · omega
            subst hjN
            refine x_aload_nQ hx hb dX1_leaving_36 rfl (lv_at hl 2 rfl) ?_
            refine W.eq (g2 := F0 m 37 ls [.null]) (by rw [c_5]; rfl) ?_
            refine lv_ifnonnullN hx hb dX1_leaving_37 ?_
            obtain ⟨sa, hsa⟩ := hE.1.2.1 (107, "the order has no such place") (List.mem_of_getElem? (i := 4) rfl)
            exact vx_throwS (A := A) (text := "the order has no such place") (names := ["java/lang/RuntimeException", "java/lang/Exception"]) (sa := sa) hx hb hfl hown (by decide +kernel) (by decide +kernel) (hts _ (List.mem_of_getElem? (i := 1) rfl)) (hts _ (List.mem_of_getElem? (i := 2) rfl)) hsa (hat_IO (fun w h => hts w (List.mem_cons_of_mem _ (List.mem_append_right _ h))) hE.1) hgd_IO hE.2.1 hE.2.2 hS (hl.1.trans hml.symm) dX1_leaving_40 dX1_leaving_43 dX1_leaving_44 dX1_leaving_46 dX1_leaving_49 (fun x hx => (htab x hx).elim) (Nat.le_of_ble_eq_true rfl) (Nat.le_of_ble_eq_true rfl) (Nat.le_of_ble_eq_true rfl) (Nat.le_of_ble_eq_true rfl) hlocks (fun t9 hvm9 hz9 hk9 => x_thr hK hP hD hS (⟨rfl, Or.inr c_5⟩) hvm9 hz9 hk9) hS.2.2 (Nat.le_of_ble_eq_true rfl) (Nat.le_of_ble_eq_true rfl)
          · have hk_6 : k_6 < 32 := nth_lt c_5
            refine lv_aload_n hx hb dX1_leaving_24 rfl (lv_at hl 0 rfl) ?_
            refine x_aload_nQ hx hb dX1_leaving_25 rfl (lv_at hl 2 rfl) ?_
            refine W.eq (g2 := F0 m 26 ls [.ref (ad k_6), .ref ax]) (by rw [c_5]; rfl) ?_
            refine x_callq (va_runV (As := [.ref (ad k_6)]) (rest := []) ⟨hx, hb, hml, hown, hts⟩ (k_X1_nextInOrder l D ax ar ad cO H.size σ (some k_6) (fun _ h => by cases h; exact hk_6)) (cwV 1 hts gX1_leaving_X1_nextInOrder rfl rfl rfl (by decide +kernel) ⟨Nat.le_of_ble_eq_true rfl, Nat.le_of_ble_eq_true rfl⟩) (xPreV xE_ok hE hK hA hP hD hS (q0 := 0) (ci := 1) rfl rfl rfl) rfl rfl hl.1 rfl (lv_room (Nat.le_of_ble_eq_true rfl)) dX1_leaving_26 ⟨Nat.le_of_ble_eq_true rfl, Nat.le_of_ble_eq_true rfl⟩) hD hS hA (fun r u H locs hp hP hD hS => ?_)
            obtain ⟨rfl, hu9⟩ := hp
            rw [hu9] at hP hD
            refine x_astore_nQ (lv' := [(2, va_rf ((nxt σ (some k_6)).map ad)), (0, .ref ax), (1, .int t), (3, .int (nI j))]) hx hb dX1_leaving_29 rfl hl (by decide) rfl (fun ls hl => ?_)
            refine lv_iinc (v := (nI j) + 1) (lv' := [(3, .int ((nI j) + 1)), (2, va_rf ((nxt σ (some k_6)).map ad)), (0, .ref ax), (1, .int t)]) hx hb dX1_leaving_30 hl (k := 3) rfl rfl (by decide) (by cases (nxt σ (some k_6)) <;> rfl) (fun ls hl => ?_)
            refine lv_goto (tgt := 15) hx hb dX1_leaving_33 (by decide) ?_
            have hlt : j < N := by
              rcases Nat.lt_or_ge j N with q | q
              · exact q
              · have hjN : j = N := by omega
                subst hjN
                rcases h2 with h9 | h9
                · exact absurd c_2 h9
                · rw [c_5] at h9
                  cases h9
            have e9 : nth σ (j + 1) = nxt σ (some k_6) := by rw [nth_s, c_5]
            exact ih (j + 1) ls H locs hlt (by omega) hP hD hS (by rw [nI_succ, e9]; exact lv_sub hl [2, 3, 1, 0] rfl)
    exact loop (N + 1) 0 _ _ _ (Nat.zero_le _) (by omega) hP hD hS (lv_sub hl [2, 3, 1, 0] rfl)
  · refine lv_null hx hb dX1_leaving_4 ?_
    refine lv_goto (tgt := 12) hx hb dX1_leaving_5 (by decide) ?_
    refine lv_astore_nN (lv' := [(2, .null), (0, .ref ax), (1, .int t)]) hx hb dX1_leaving_12 rfl hl (by decide) rfl (fun ls hl => ?_)
    refine lv_iconst (v := 0) hx hb dX1_leaving_13 (by decide) ?_
    refine lv_istore_n (lv' := [(3, .int 0), (2, .null), (0, .ref ax), (1, .int t)]) hx hb dX1_leaving_14 rfl hl (by decide) rfl (fun ls hl => ?_)
    refine lv_iload_n hx hb dX1_leaving_15 rfl (lv_at hl 0 rfl) ?_
    refine lv_iload_n hx hb dX1_leaving_16 rfl (lv_at hl 3 rfl) ?_
    refine x_icmp_ge (tgt := 36) hx hb dX1_leaving_17 (by decide) (fun c_7 => ?_) (fun c_7 => ?_)
    · refine lv_aload_nN hx hb dX1_leaving_36 rfl (lv_at hl 1 rfl) ?_
      refine lv_ifnonnullN hx hb dX1_leaving_37 ?_
      obtain ⟨sa, hsa⟩ := hE.1.2.1 (107, "the order has no such place") (List.mem_of_getElem? (i := 4) rfl)
      exact vx_throwS (A := A) (text := "the order has no such place") (names := ["java/lang/RuntimeException", "java/lang/Exception"]) (sa := sa) hx hb hfl hown (by decide +kernel) (by decide +kernel) (hts _ (List.mem_of_getElem? (i := 1) rfl)) (hts _ (List.mem_of_getElem? (i := 2) rfl)) hsa (hat_IO (fun w h => hts w (List.mem_cons_of_mem _ (List.mem_append_right _ h))) hE.1) hgd_IO hE.2.1 hE.2.2 hS (hl.1.trans hml.symm) dX1_leaving_40 dX1_leaving_43 dX1_leaving_44 dX1_leaving_46 dX1_leaving_49 (fun x hx => (htab x hx).elim) (Nat.le_of_ble_eq_true rfl) (Nat.le_of_ble_eq_true rfl) (Nat.le_of_ble_eq_true rfl) (Nat.le_of_ble_eq_true rfl) hlocks (fun t9 hvm9 hz9 hk9 => x_thr hK hP hD hS (⟨rfl, Or.inl c_1⟩) hvm9 hz9 hk9) hS.2.2 (Nat.le_of_ble_eq_true rfl) (Nat.le_of_ble_eq_true rfl)
    · refine lv_aload_nN hx hb dX1_leaving_20 rfl (lv_at hl 1 rfl) ?_
      refine lv_ifnullN (tgt := 36) hx hb dX1_leaving_21 (by decide) ?_
      refine lv_aload_nN hx hb dX1_leaving_36 rfl (lv_at hl 1 rfl) ?_
      refine lv_ifnonnullN hx hb dX1_leaving_37 ?_
      obtain ⟨sa, hsa⟩ := hE.1.2.1 (107, "the order has no such place") (List.mem_of_getElem? (i := 4) rfl)
      exact vx_throwS (A := A) (text := "the order has no such place") (names := ["java/lang/RuntimeException", "java/lang/Exception"]) (sa := sa) hx hb hfl hown (by decide +kernel) (by decide +kernel) (hts _ (List.mem_of_getElem? (i := 1) rfl)) (hts _ (List.mem_of_getElem? (i := 2) rfl)) hsa (hat_IO (fun w h => hts w (List.mem_cons_of_mem _ (List.mem_append_right _ h))) hE.1) hgd_IO hE.2.1 hE.2.2 hS (hl.1.trans hml.symm) dX1_leaving_40 dX1_leaving_43 dX1_leaving_44 dX1_leaving_46 dX1_leaving_49 (fun x hx => (htab x hx).elim) (Nat.le_of_ble_eq_true rfl) (Nat.le_of_ble_eq_true rfl) (Nat.le_of_ble_eq_true rfl) (Nat.le_of_ble_eq_true rfl) hlocks (fun t9 hvm9 hz9 hk9 => x_thr hK hP hD hS (⟨rfl, Or.inl c_1⟩) hvm9 hz9 hk9) hS.2.2 (Nat.le_of_ble_eq_true rfl) (Nat.le_of_ble_eq_true rfl)
set_option maxHeartbeats 4000000 in
set_option maxRecDepth 100000 in
theorem k_X1_fetch (l : Launch) (D : va_G) (ax ar : Nat) (ad : Nat → Nat) (cO : ClassId) (sz : Nat) (σ : St) (t sz9 pr lf : Int32) (hfl : l.stackTraces = false) : vx_Met l yX1_fetch wsX1_fetch ({ frames := 7, cells := 4, slots := 24, locals := 180 } : Room) (va_Pc [.ref ax, .int t, .int sz9, .int pr, .int lf] (xPre D (cT cO) xE (cW ax ar ad cO) σ sz)) (va_Qi (fun (r : Int32) (u : St) => isT t = true ∧ (inR sz9 1 1000 && inR pr 0 1000 && inR lf 1 10000) = true ∧ (∀ k, k < 32 → t = nI k → r = (cFetch σ k sz9 pr lf).1 ∧ u = (cFetch σ k sz9 pr lf).2)) (xB D (cT cO) (cW ax ar ad cO) (va_A (cW ax ar ad cO σ) sz)) (va_A (cW ax ar ad cO σ) sz)) (xXC D (cT cO) (cW ax ar ad cO) (va_A (cW ax ar ad cO σ) sz) σ (fun En => (En = xIO ∧ isT t = false) ∨ (En = xIA ∧ isT t = true ∧ (inR sz9 1 1000 && inR pr 0 1000 && inR lf 1 10000) = false))) 4 24 (va_A (cW ax ar ad cO σ) sz) := by
  refine xxOpen (w := (cW ax ar ad cO)) (σ := σ) (cc := cX1_fetch) (maxL := 6) (ret := some .int) (QQ := fun A => va_Qi (fun (r : Int32) (u : St) => isT t = true ∧ (inR sz9 1 1000 && inR pr 0 1000 && inR lf 1 10000) = true ∧ (∀ k, k < 32 → t = nI k → r = (cFetch σ k sz9 pr lf).1 ∧ u = (cFetch σ k sz9 pr lf).2)) (xB D (cT cO) (cW ax ar ad cO) A) A) (XX := fun A => xXC D (cT cO) (cW ax ar ad cO) A σ (fun En => (En = xIO ∧ isT t = false) ∨ (En = xIA ∧ isT t = true ∧ (inR sz9 1 1000 && inR pr 0 1000 && inR lf 1 10000) = false))) (by decide) rfl (Nat.le_of_ble_eq_true rfl) ?_
  intro p e s m below meth c A hx hb hr hml hown hts hlocks htab hK hE hA hP hD hS ls hl
  have hl : lv_has ls 6 [(0, .ref ax), (1, .int t), (2, .int sz9), (3, .int pr), (4, .int lf)] := hl
  have hown : s.vm.findClass RX1 = some m.cls := hown
  have hi0 : ∀ w ∈ wsX00, w ∈ wsX1_fetch := (fun _ h => List.mem_cons_of_mem _ (List.mem_append_left _ (List.mem_append_left _ (List.mem_append_left _ (List.mem_append_right _ h)))))
  have hi1 : ∀ w ∈ wsX10, w ∈ wsX1_fetch := (fun _ h => List.mem_cons_of_mem _ (List.mem_append_left _ (List.mem_append_left _ (List.mem_append_right _ h))))
  generalize hH : s.heap = H at hP
  have hS : va_S A s.heap H [] := by rw [← hH]; exact va_S.rf
  generalize hlo : ([] : List Loc) = locs at hS
  refine lv_aload_n hx hb dX1_fetch_0 rfl (lv_at hl 0 rfl) ?_
  refine lv_iload_n hx hb dX1_fetch_1 rfl (lv_at hl 1 rfl) ?_
  refine xx_callq (vx_runV (As := [.int t]) (rest := []) ⟨hx, hb, hml, hown, hts⟩ (k_X1_slotOf l D ax ar ad cO H.size σ t hfl) (cwV 1 hts gX1_fetch_X1_slotOf rfl rfl rfl (by decide +kernel) ⟨Nat.le_of_ble_eq_true rfl, Nat.le_of_ble_eq_true rfl⟩) (xPreV xE_ok hE hK hA hP hD hS (q0 := 0) (ci := 1) rfl rfl rfl) rfl rfl hl.1 rfl (lv_room (Nat.le_of_ble_eq_true rfl)) dX1_fetch_2 ⟨Nat.le_of_ble_eq_true rfl, Nat.le_of_ble_eq_true rfl⟩) hD hS hA (fun En ce q9 H locs hxc hP hS hq9 hv9 hcl9 => ?_) (fun r u H locs hp hP hD hS => ?_)
  · exact xx_out htab hlocks hK hq9 hv9 hcl9 hP hD hS (Or.inl hxc) (Nat.le_of_ble_eq_true rfl) (Nat.le_of_ble_eq_true rfl)
  obtain ⟨hT, hq, hu9⟩ := hp
  rw [hu9] at hP hD
  obtain ⟨k, hk, rfl⟩ := isT_nI hT
  obtain rfl := hq k hk rfl
  have hl : lv_has ls 6 [(0, .ref ax), (1, .int (nI k)), (2, .int sz9), (3, .int pr), (4, .int lf)] := hl
  refine W.eq (g2 := F0 m 5 ls [.ref (ad k)]) rfl ?_
  · refine lv_astore (lv' := [(5, .ref (ad k)), (0, .ref ax), (1, .int (nI k)), (2, .int sz9), (3, .int pr), (4, .int lf)]) hx hb dX1_fetch_5 hl (by decide) rfl (fun ls hl => ?_)
    refine lv_iload_n hx hb dX1_fetch_7 rfl (lv_at hl 3 rfl) ?_
    refine lv_iconst (v := 1) hx hb dX1_fetch_8 (by decide) ?_
    refine lv_sipush (v := 1000) hx hb dX1_fetch_9 (by decide) ?_
    refine xx_callv (vx_runS (As := [.int sz9, .int 1, .int 1000]) (rest := []) ⟨hx, hb, hml, hown, hts⟩ (k_X1_requireWithin l D ax ar ad cO H.size σ sz9 1 1000 hfl) (va_cwS 3 hts gX1_fetch_X1_requireWithin rfl rfl rfl (by decide +kernel) ⟨Nat.le_of_ble_eq_true rfl, Nat.le_of_ble_eq_true rfl⟩) (xPreS xE_ok hE hK hA hP hD hS) rfl rfl hl.1 rfl (lv_room (Nat.le_of_ble_eq_true rfl)) dX1_fetch_12 ⟨Nat.le_of_ble_eq_true rfl, Nat.le_of_ble_eq_true rfl⟩) hD hS hA (fun En ce q9 H locs hxc hP hS hq9 hv9 hcl9 => ?_) (fun u H locs hp hP hD hS => ?_)
    · exact xx_out htab hlocks hK hq9 hv9 hcl9 hP hD hS (Or.inr ⟨hxc.1, hT, by rw [hxc.2]; simp⟩) (Nat.le_of_ble_eq_true rfl) (Nat.le_of_ble_eq_true rfl)
    obtain ⟨v_1, hu9⟩ := hp
    rw [hu9] at hP hD
    · refine lv_iload_n hx hb dX1_fetch_15 rfl (lv_at hl 4 rfl) ?_
      refine lv_iconst (v := 0) hx hb dX1_fetch_16 (by decide) ?_
      refine lv_sipush (v := 1000) hx hb dX1_fetch_17 (by decide) ?_
      refine xx_callv (vx_runS (As := [.int pr, .int 0, .int 1000]) (rest := []) ⟨hx, hb, hml, hown, hts⟩ (k_X1_requireWithin l D ax ar ad cO H.size σ pr 0 1000 hfl) (va_cwS 3 hts gX1_fetch_X1_requireWithin rfl rfl rfl (by decide +kernel) ⟨Nat.le_of_ble_eq_true rfl, Nat.le_of_ble_eq_true rfl⟩) (xPreS xE_ok hE hK hA hP hD hS) rfl rfl hl.1 rfl (lv_room (Nat.le_of_ble_eq_true rfl)) dX1_fetch_20 ⟨Nat.le_of_ble_eq_true rfl, Nat.le_of_ble_eq_true rfl⟩) hD hS hA (fun En ce q9 H locs hxc hP hS hq9 hv9 hcl9 => ?_) (fun u H locs hp hP hD hS => ?_)
      · exact xx_out htab hlocks hK hq9 hv9 hcl9 hP hD hS (Or.inr ⟨hxc.1, hT, by rw [hxc.2]; simp [v_1]⟩) (Nat.le_of_ble_eq_true rfl) (Nat.le_of_ble_eq_true rfl)
      obtain ⟨v_2, hu9⟩ := hp
      rw [hu9] at hP hD
      · refine lv_iload hx hb dX1_fetch_23 (lv_at hl 5 rfl) ?_
        refine lv_iconst (v := 1) hx hb dX1_fetch_25 (by decide) ?_
        refine lv_sipush (v := 10000) hx hb dX1_fetch_26 (by decide) ?_
        refine xx_callv (vx_runS (As := [.int lf, .int 1, .int 10000]) (rest := []) ⟨hx, hb, hml, hown, hts⟩ (k_X1_requireWithin l D ax ar ad cO H.size σ lf 1 10000 hfl) (va_cwS 3 hts gX1_fetch_X1_requireWithin rfl rfl rfl (by decide +kernel) ⟨Nat.le_of_ble_eq_true rfl, Nat.le_of_ble_eq_true rfl⟩) (xPreS xE_ok hE hK hA hP hD hS) rfl rfl hl.1 rfl (lv_room (Nat.le_of_ble_eq_true rfl)) dX1_fetch_29 ⟨Nat.le_of_ble_eq_true rfl, Nat.le_of_ble_eq_true rfl⟩) hD hS hA (fun En ce q9 H locs hxc hP hS hq9 hv9 hcl9 => ?_) (fun u H locs hp hP hD hS => ?_)
        · exact xx_out htab hlocks hK hq9 hv9 hcl9 hP hD hS (Or.inr ⟨hxc.1, hT, by rw [hxc.2]; simp [v_1, v_2]⟩) (Nat.le_of_ble_eq_true rfl) (Nat.le_of_ble_eq_true rfl)
        obtain ⟨v_3, hu9⟩ := hp
        rw [hu9] at hP hD
        · refine lv_aload hx hb dX1_fetch_32 (lv_at hl 0 rfl) ?_
          refine s_get hx hb hts hi0 hown hK hE hP hk 1 (by decide) rfl (v := .int (bI (gB σ 1 k))) rfl dX1_fetch_34 (fun _ h => h) ?_
          refine x_ifeq (tgt := 67) hx hb dX1_fetch_37 (by decide) (fun c_4 => ?_) (fun c_4 => ?_)
          · have hh : (gB σ 1 k && !ended σ k && decide (gS σ 3 k = sz9)) = false := by simp [c_4]
            refine lv_aload_n hx hb dX1_fetch_67 rfl (lv_at hl 1 rfl) ?_
            refine lv_iload_n hx hb dX1_fetch_68 rfl (lv_at hl 4 rfl) ?_
            refine x_callv (va_runV (As := [.int pr]) (rest := []) ⟨hx, hb, hml, hown, hts⟩ (k_X1_countMiss l D ax ar ad cO H.size σ pr) (cwV 1 hts gX1_fetch_X1_countMiss rfl rfl rfl (by decide +kernel) ⟨Nat.le_of_ble_eq_true rfl, Nat.le_of_ble_eq_true rfl⟩) (xPreV xE_ok hE hK hA hP hD hS (q0 := 0) (ci := 1) rfl rfl rfl) rfl rfl hl.1 rfl (lv_room (Nat.le_of_ble_eq_true rfl)) dX1_fetch_69 ⟨Nat.le_of_ble_eq_true rfl, Nat.le_of_ble_eq_true rfl⟩) hD hS hA (fun u H locs hp hP hD hS => ?_)
            rw [hp] at hP hD
            refine lv_aload_n hx hb dX1_fetch_72 rfl (lv_at hl 1 rfl) ?_
            refine lv_aload hx hb dX1_fetch_73 (lv_at hl 0 rfl) ?_
            refine lv_iload_n hx hb dX1_fetch_75 rfl (lv_at hl 3 rfl) ?_
            refine lv_iload_n hx hb dX1_fetch_76 rfl (lv_at hl 4 rfl) ?_
            refine lv_iload hx hb dX1_fetch_77 (lv_at hl 5 rfl) ?_
            refine x_calli (va_runV (As := [.ref (ad k), .int sz9, .int pr, .int lf]) (rest := []) ⟨hx, hb, hml, hown, hts⟩ (k_X1_letInIfPossible l D ax ar ad cO H.size (cMiss σ pr) sz9 pr lf hk) (cwV 4 hts gX1_fetch_X1_letInIfPossible rfl rfl rfl (by decide +kernel) ⟨Nat.le_of_ble_eq_true rfl, Nat.le_of_ble_eq_true rfl⟩) (xPreV xE_ok hE hK hA hP hD hS (q0 := 0) (ci := 1) rfl rfl rfl) rfl rfl hl.1 rfl (lv_room (Nat.le_of_ble_eq_true rfl)) dX1_fetch_79 ⟨Nat.le_of_ble_eq_true rfl, Nat.le_of_ble_eq_true rfl⟩) hD hS hA (fun r u H locs hp hP hD hS => ?_)
            obtain ⟨rfl, hu9⟩ := hp
            rw [hu9] at hP hD
            refine x_ifeq (tgt := 89) hx hb dX1_fetch_82 (by decide) (fun c_5 => ?_) (fun c_5 => ?_)
            · refine lv_iconst (v := 2) hx hb dX1_fetch_89 (by decide) ?_
              refine vx_ret ?_
              refine W.widen (k := 4) (n := 24) (by decide) (by decide) ?_
              exact x_iret hx hb hr hlocks hK ((cLetIn (cMiss σ pr) k sz9 pr lf).2) hP hD hS ⟨hT, by simp [v_1, v_2, v_3], fun j hj e9 => by rw [← nI_inj32 hk hj e9]; simp [cFetch, hh, c_5]⟩ dX1_fetch_90
            · refine lv_iconst (v := 1) hx hb dX1_fetch_85 (by decide) ?_
              refine lv_goto (tgt := 90) hx hb dX1_fetch_86 (by decide) ?_
              refine vx_ret ?_
              refine W.widen (k := 4) (n := 24) (by decide) (by decide) ?_
              exact x_iret hx hb hr hlocks hK ((cLetIn (cMiss σ pr) k sz9 pr lf).2) hP hD hS ⟨hT, by simp [v_1, v_2, v_3], fun j hj e9 => by rw [← nI_inj32 hk hj e9]; simp [cFetch, hh, c_5]⟩ dX1_fetch_90
          · refine lv_aload_n hx hb dX1_fetch_40 rfl (lv_at hl 1 rfl) ?_
            refine lv_aload hx hb dX1_fetch_41 (lv_at hl 0 rfl) ?_
            refine x_calli (va_runV (As := [.ref (ad k)]) (rest := []) ⟨hx, hb, hml, hown, hts⟩ (k_X1_hasEnded l D ax ar ad cO H.size σ hk) (cwV 1 hts gX1_fetch_X1_hasEnded rfl rfl rfl (by decide +kernel) ⟨Nat.le_of_ble_eq_true rfl, Nat.le_of_ble_eq_true rfl⟩) (xPreV xE_ok hE hK hA hP hD hS (q0 := 0) (ci := 1) rfl rfl rfl) rfl rfl hl.1 rfl (lv_room (Nat.le_of_ble_eq_true rfl)) dX1_fetch_43 ⟨Nat.le_of_ble_eq_true rfl, Nat.le_of_ble_eq_true rfl⟩) hD hS hA (fun r u H locs hp hP hD hS => ?_)
            obtain ⟨rfl, hu9⟩ := hp
            rw [hu9] at hP hD
            refine x_ifne (tgt := 67) hx hb dX1_fetch_46 (by decide) (fun c_6 => ?_) (fun c_6 => ?_)
            · have hh : (gB σ 1 k && !ended σ k && decide (gS σ 3 k = sz9)) = false := by simp [c_6]
              refine lv_aload_n hx hb dX1_fetch_67 rfl (lv_at hl 1 rfl) ?_
              refine lv_iload_n hx hb dX1_fetch_68 rfl (lv_at hl 4 rfl) ?_
              refine x_callv (va_runV (As := [.int pr]) (rest := []) ⟨hx, hb, hml, hown, hts⟩ (k_X1_countMiss l D ax ar ad cO H.size σ pr) (cwV 1 hts gX1_fetch_X1_countMiss rfl rfl rfl (by decide +kernel) ⟨Nat.le_of_ble_eq_true rfl, Nat.le_of_ble_eq_true rfl⟩) (xPreV xE_ok hE hK hA hP hD hS (q0 := 0) (ci := 1) rfl rfl rfl) rfl rfl hl.1 rfl (lv_room (Nat.le_of_ble_eq_true rfl)) dX1_fetch_69 ⟨Nat.le_of_ble_eq_true rfl, Nat.le_of_ble_eq_true rfl⟩) hD hS hA (fun u H locs hp hP hD hS => ?_)
              rw [hp] at hP hD
              refine lv_aload_n hx hb dX1_fetch_72 rfl (lv_at hl 1 rfl) ?_
              refine lv_aload hx hb dX1_fetch_73 (lv_at hl 0 rfl) ?_
              refine lv_iload_n hx hb dX1_fetch_75 rfl (lv_at hl 3 rfl) ?_
              refine lv_iload_n hx hb dX1_fetch_76 rfl (lv_at hl 4 rfl) ?_
              refine lv_iload hx hb dX1_fetch_77 (lv_at hl 5 rfl) ?_
              refine x_calli (va_runV (As := [.ref (ad k), .int sz9, .int pr, .int lf]) (rest := []) ⟨hx, hb, hml, hown, hts⟩ (k_X1_letInIfPossible l D ax ar ad cO H.size (cMiss σ pr) sz9 pr lf hk) (cwV 4 hts gX1_fetch_X1_letInIfPossible rfl rfl rfl (by decide +kernel) ⟨Nat.le_of_ble_eq_true rfl, Nat.le_of_ble_eq_true rfl⟩) (xPreV xE_ok hE hK hA hP hD hS (q0 := 0) (ci := 1) rfl rfl rfl) rfl rfl hl.1 rfl (lv_room (Nat.le_of_ble_eq_true rfl)) dX1_fetch_79 ⟨Nat.le_of_ble_eq_true rfl, Nat.le_of_ble_eq_true rfl⟩) hD hS hA (fun r u H locs hp hP hD hS => ?_)
              obtain ⟨rfl, hu9⟩ := hp
              rw [hu9] at hP hD
              refine x_ifeq (tgt := 89) hx hb dX1_fetch_82 (by decide) (fun c_7 => ?_) (fun c_7 => ?_)
              · refine lv_iconst (v := 2) hx hb dX1_fetch_89 (by decide) ?_
                refine vx_ret ?_
                refine W.widen (k := 4) (n := 24) (by decide) (by decide) ?_
                exact x_iret hx hb hr hlocks hK ((cLetIn (cMiss σ pr) k sz9 pr lf).2) hP hD hS ⟨hT, by simp [v_1, v_2, v_3], fun j hj e9 => by rw [← nI_inj32 hk hj e9]; simp [cFetch, hh, c_7]⟩ dX1_fetch_90
              · refine lv_iconst (v := 1) hx hb dX1_fetch_85 (by decide) ?_
                refine lv_goto (tgt := 90) hx hb dX1_fetch_86 (by decide) ?_
                refine vx_ret ?_
                refine W.widen (k := 4) (n := 24) (by decide) (by decide) ?_
                exact x_iret hx hb hr hlocks hK ((cLetIn (cMiss σ pr) k sz9 pr lf).2) hP hD hS ⟨hT, by simp [v_1, v_2, v_3], fun j hj e9 => by rw [← nI_inj32 hk hj e9]; simp [cFetch, hh, c_7]⟩ dX1_fetch_90
            · refine lv_aload hx hb dX1_fetch_49 (lv_at hl 0 rfl) ?_
              refine s_get hx hb hts hi0 hown hK hE hP hk 3 (by decide) rfl (v := .int (gS σ 3 k)) rfl dX1_fetch_51 (fun _ h => h) ?_
              refine lv_iload_n hx hb dX1_fetch_54 rfl (lv_at hl 3 rfl) ?_
              refine lv_icmp_ne (tgt := 67) hx hb dX1_fetch_55 (by decide) (fun c_8 => ?_) (fun c_8 => ?_)
              · have hh : (gB σ 1 k && !ended σ k && decide (gS σ 3 k = sz9)) = false := by simp [c_8]
                refine lv_aload_n hx hb dX1_fetch_67 rfl (lv_at hl 1 rfl) ?_
                refine lv_iload_n hx hb dX1_fetch_68 rfl (lv_at hl 4 rfl) ?_
                refine x_callv (va_runV (As := [.int pr]) (rest := []) ⟨hx, hb, hml, hown, hts⟩ (k_X1_countMiss l D ax ar ad cO H.size σ pr) (cwV 1 hts gX1_fetch_X1_countMiss rfl rfl rfl (by decide +kernel) ⟨Nat.le_of_ble_eq_true rfl, Nat.le_of_ble_eq_true rfl⟩) (xPreV xE_ok hE hK hA hP hD hS (q0 := 0) (ci := 1) rfl rfl rfl) rfl rfl hl.1 rfl (lv_room (Nat.le_of_ble_eq_true rfl)) dX1_fetch_69 ⟨Nat.le_of_ble_eq_true rfl, Nat.le_of_ble_eq_true rfl⟩) hD hS hA (fun u H locs hp hP hD hS => ?_)
                rw [hp] at hP hD
                refine lv_aload_n hx hb dX1_fetch_72 rfl (lv_at hl 1 rfl) ?_
                refine lv_aload hx hb dX1_fetch_73 (lv_at hl 0 rfl) ?_
                refine lv_iload_n hx hb dX1_fetch_75 rfl (lv_at hl 3 rfl) ?_
                refine lv_iload_n hx hb dX1_fetch_76 rfl (lv_at hl 4 rfl) ?_
                refine lv_iload hx hb dX1_fetch_77 (lv_at hl 5 rfl) ?_
                refine x_calli (va_runV (As := [.ref (ad k), .int sz9, .int pr, .int lf]) (rest := []) ⟨hx, hb, hml, hown, hts⟩ (k_X1_letInIfPossible l D ax ar ad cO H.size (cMiss σ pr) sz9 pr lf hk) (cwV 4 hts gX1_fetch_X1_letInIfPossible rfl rfl rfl (by decide +kernel) ⟨Nat.le_of_ble_eq_true rfl, Nat.le_of_ble_eq_true rfl⟩) (xPreV xE_ok hE hK hA hP hD hS (q0 := 0) (ci := 1) rfl rfl rfl) rfl rfl hl.1 rfl (lv_room (Nat.le_of_ble_eq_true rfl)) dX1_fetch_79 ⟨Nat.le_of_ble_eq_true rfl, Nat.le_of_ble_eq_true rfl⟩) hD hS hA (fun r u H locs hp hP hD hS => ?_)
                obtain ⟨rfl, hu9⟩ := hp
                rw [hu9] at hP hD
                refine x_ifeq (tgt := 89) hx hb dX1_fetch_82 (by decide) (fun c_9 => ?_) (fun c_9 => ?_)
                · refine lv_iconst (v := 2) hx hb dX1_fetch_89 (by decide) ?_
                  refine vx_ret ?_
                  refine W.widen (k := 4) (n := 24) (by decide) (by decide) ?_
                  exact x_iret hx hb hr hlocks hK ((cLetIn (cMiss σ pr) k sz9 pr lf).2) hP hD hS ⟨hT, by simp [v_1, v_2, v_3], fun j hj e9 => by rw [← nI_inj32 hk hj e9]; simp [cFetch, hh, c_9]⟩ dX1_fetch_90
                · refine lv_iconst (v := 1) hx hb dX1_fetch_85 (by decide) ?_
                  refine lv_goto (tgt := 90) hx hb dX1_fetch_86 (by decide) ?_
                  refine vx_ret ?_
                  refine W.widen (k := 4) (n := 24) (by decide) (by decide) ?_
                  exact x_iret hx hb hr hlocks hK ((cLetIn (cMiss σ pr) k sz9 pr lf).2) hP hD hS ⟨hT, by simp [v_1, v_2, v_3], fun j hj e9 => by rw [← nI_inj32 hk hj e9]; simp [cFetch, hh, c_9]⟩ dX1_fetch_90
              · refine lv_aload_n hx hb dX1_fetch_58 rfl (lv_at hl 1 rfl) ?_
                refine lv_aload hx hb dX1_fetch_59 (lv_at hl 0 rfl) ?_
                refine lv_iload_n hx hb dX1_fetch_61 rfl (lv_at hl 4 rfl) ?_
                refine x_callv (va_runV (As := [.ref (ad k), .int pr]) (rest := []) ⟨hx, hb, hml, hown, hts⟩ (k_X1_hit l D ax ar ad cO H.size σ pr hk) (cwV 2 hts gX1_fetch_X1_hit rfl rfl rfl (by decide +kernel) ⟨Nat.le_of_ble_eq_true rfl, Nat.le_of_ble_eq_true rfl⟩) (xPreV xE_ok hE hK hA hP hD hS (q0 := 0) (ci := 1) rfl rfl rfl) rfl rfl hl.1 rfl (lv_room (Nat.le_of_ble_eq_true rfl)) dX1_fetch_62 ⟨Nat.le_of_ble_eq_true rfl, Nat.le_of_ble_eq_true rfl⟩) hD hS hA (fun u H locs hp hP hD hS => ?_)
                rw [hp] at hP hD
                refine lv_iconst (v := 0) hx hb dX1_fetch_65 (by decide) ?_
                refine vx_ret ?_
                refine W.widen (k := 4) (n := 24) (by decide) (by decide) ?_
                exact x_iret hx hb hr hlocks hK (cHit σ k pr) hP hD hS ⟨hT, by simp [v_1, v_2, v_3], fun j hj e9 => by rw [← nI_inj32 hk hj e9]; simp [cFetch, c_4, c_6, c_8]⟩ dX1_fetch_66
end
