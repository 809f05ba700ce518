section
-- ===== PART A: goes FIRST, ahead of the names: the tables' words, and 'selects' of the private methods out of them =====
/-- a private method of a class that the tables say can be made, by its rows of tables_1 -/
def lw_okq (q : MethodName × Nat) : Prop := (q.1.cls ≠ "java/lang/invoke/MethodHandle" ∧ q.1.cls ≠ "java/lang/invoke/VarHandle") ∧ Cond.instantiable q.1.cls q.2 ∈ tables_1 ∧ Cond.privateMethod q.1 ∈ tables_1 ∧ Cond.instanceMethod q.1 ∈ tables_1
theorem lw_p0 : lw_okq (⟨"WorthCache", "slotOf", "(I)LWorthCache$Slot;"⟩, 13) := ⟨⟨by decide +kernel, by decide +kernel⟩, List.mem_of_getElem? (i := 11) (by decide +kernel), List.mem_of_getElem? (i := 100) (by decide +kernel), List.mem_of_getElem? (i := 101) (by decide +kernel)⟩
theorem lw_p1 : lw_okq (⟨"java/lang/Throwable", "fillInStackTrace", "(I)Ljava/lang/Throwable;"⟩, 6) := ⟨⟨by decide +kernel, by decide +kernel⟩, List.mem_of_getElem? (i := 142) (by decide +kernel), List.mem_of_getElem? (i := 140) (by decide +kernel), List.mem_of_getElem? (i := 141) (by decide +kernel)⟩
theorem lw_p2 : lw_okq (⟨"WorthCache", "hasEnded", "(LWorthCache$Slot;)Z"⟩, 13) := ⟨⟨by decide +kernel, by decide +kernel⟩, List.mem_of_getElem? (i := 11) (by decide +kernel), List.mem_of_getElem? (i := 191) (by decide +kernel), List.mem_of_getElem? (i := 192) (by decide +kernel)⟩
theorem lw_p3 : lw_okq (⟨"WorthCache", "hit", "(LWorthCache$Slot;I)V"⟩, 13) := ⟨⟨by decide +kernel, by decide +kernel⟩, List.mem_of_getElem? (i := 11) (by decide +kernel), List.mem_of_getElem? (i := 195) (by decide +kernel), List.mem_of_getElem? (i := 196) (by decide +kernel)⟩
theorem lw_p4 : lw_okq (⟨"WorthCache", "setWorth", "(LWorthCache$Slot;I)V"⟩, 13) := ⟨⟨by decide +kernel, by decide +kernel⟩, List.mem_of_getElem? (i := 11) (by decide +kernel), List.mem_of_getElem? (i := 199) (by decide +kernel), List.mem_of_getElem? (i := 200) (by decide +kernel)⟩
theorem lw_p5 : lw_okq (⟨"WorthCache", "countMiss", "(I)V"⟩, 13) := ⟨⟨by decide +kernel, by decide +kernel⟩, List.mem_of_getElem? (i := 11) (by decide +kernel), List.mem_of_getElem? (i := 204) (by decide +kernel), List.mem_of_getElem? (i := 205) (by decide +kernel)⟩
theorem lw_p6 : lw_okq (⟨"WorthCache", "letInIfPossible", "(LWorthCache$Slot;III)Z"⟩, 13) := ⟨⟨by decide +kernel, by decide +kernel⟩, List.mem_of_getElem? (i := 11) (by decide +kernel), List.mem_of_getElem? (i := 208) (by decide +kernel), List.mem_of_getElem? (i := 209) (by decide +kernel)⟩
theorem lw_p7 : lw_okq (⟨"WorthCache", "wasMissedLately", "(LWorthCache$Slot;)Z"⟩, 13) := ⟨⟨by decide +kernel, by decide +kernel⟩, List.mem_of_getElem? (i := 11) (by decide +kernel), List.mem_of_getElem? (i := 212) (by decide +kernel), List.mem_of_getElem? (i := 213) (by decide +kernel)⟩
theorem lw_p8 : lw_okq (⟨"WorthCache", "removeOwn", "(LWorthCache$Slot;)V"⟩, 13) := ⟨⟨by decide +kernel, by decide +kernel⟩, List.mem_of_getElem? (i := 11) (by decide +kernel), List.mem_of_getElem? (i := 216) (by decide +kernel), List.mem_of_getElem? (i := 217) (by decide +kernel)⟩
theorem lw_p9 : lw_okq (⟨"WorthCache", "makeRoom", "(I)Z"⟩, 13) := ⟨⟨by decide +kernel, by decide +kernel⟩, List.mem_of_getElem? (i := 11) (by decide +kernel), List.mem_of_getElem? (i := 220) (by decide +kernel), List.mem_of_getElem? (i := 221) (by decide +kernel)⟩
theorem lw_p10 : lw_okq (⟨"WorthCache", "hasRoom", "(I)Z"⟩, 13) := ⟨⟨by decide +kernel, by decide +kernel⟩, List.mem_of_getElem? (i := 11) (by decide +kernel), List.mem_of_getElem? (i := 224) (by decide +kernel), List.mem_of_getElem? (i := 225) (by decide +kernel)⟩
theorem lw_p11 : lw_okq (⟨"WorthCache", "removeAllOver", "()I"⟩, 13) := ⟨⟨by decide +kernel, by decide +kernel⟩, List.mem_of_getElem? (i := 11) (by decide +kernel), List.mem_of_getElem? (i := 232) (by decide +kernel), List.mem_of_getElem? (i := 233) (by decide +kernel)⟩
theorem lw_p12 : lw_okq (⟨"WorthCache", "bytesThatCannotLeave", "()I"⟩, 13) := ⟨⟨by decide +kernel, by decide +kernel⟩, List.mem_of_getElem? (i := 11) (by decide +kernel), List.mem_of_getElem? (i := 236) (by decide +kernel), List.mem_of_getElem? (i := 237) (by decide +kernel)⟩
theorem lw_p13 : lw_okq (⟨"WorthCache", "leaveDownTo", "(I)I"⟩, 13) := ⟨⟨by decide +kernel, by decide +kernel⟩, List.mem_of_getElem? (i := 11) (by decide +kernel), List.mem_of_getElem? (i := 240) (by decide +kernel), List.mem_of_getElem? (i := 241) (by decide +kernel)⟩
theorem lw_p14 : lw_okq (⟨"WorthCache", "firstInOrder", "()LWorthCache$Slot;"⟩, 13) := ⟨⟨by decide +kernel, by decide +kernel⟩, List.mem_of_getElem? (i := 11) (by decide +kernel), List.mem_of_getElem? (i := 244) (by decide +kernel), List.mem_of_getElem? (i := 245) (by decide +kernel)⟩
theorem lw_p15 : lw_okq (⟨"WorthCache", "nextInOrder", "(LWorthCache$Slot;)LWorthCache$Slot;"⟩, 13) := ⟨⟨by decide +kernel, by decide +kernel⟩, List.mem_of_getElem? (i := 11) (by decide +kernel), List.mem_of_getElem? (i := 248) (by decide +kernel), List.mem_of_getElem? (i := 249) (by decide +kernel)⟩
def lw_privs_1 : List (MethodName × Nat) := [(⟨"WorthCache", "slotOf", "(I)LWorthCache$Slot;"⟩, 13), (⟨"java/lang/Throwable", "fillInStackTrace", "(I)Ljava/lang/Throwable;"⟩, 6), (⟨"WorthCache", "hasEnded", "(LWorthCache$Slot;)Z"⟩, 13), (⟨"WorthCache", "hit", "(LWorthCache$Slot;I)V"⟩, 13), (⟨"WorthCache", "setWorth", "(LWorthCache$Slot;I)V"⟩, 13), (⟨"WorthCache", "countMiss", "(I)V"⟩, 13), (⟨"WorthCache", "letInIfPossible", "(LWorthCache$Slot;III)Z"⟩, 13), (⟨"WorthCache", "wasMissedLately", "(LWorthCache$Slot;)Z"⟩, 13), (⟨"WorthCache", "removeOwn", "(LWorthCache$Slot;)V"⟩, 13), (⟨"WorthCache", "makeRoom", "(I)Z"⟩, 13), (⟨"WorthCache", "hasRoom", "(I)Z"⟩, 13), (⟨"WorthCache", "removeAllOver", "()I"⟩, 13), (⟨"WorthCache", "bytesThatCannotLeave", "()I"⟩, 13), (⟨"WorthCache", "leaveDownTo", "(I)I"⟩, 13), (⟨"WorthCache", "firstInOrder", "()LWorthCache$Slot;"⟩, 13), (⟨"WorthCache", "nextInOrder", "(LWorthCache$Slot;)LWorthCache$Slot;"⟩, 13)]
theorem lw_r1 : ∀ q ∈ lw_privs_1, lw_okq q := List.forall_mem_cons.mpr ⟨lw_p0, List.forall_mem_cons.mpr ⟨lw_p1, List.forall_mem_cons.mpr ⟨lw_p2, List.forall_mem_cons.mpr ⟨lw_p3, List.forall_mem_cons.mpr ⟨lw_p4, List.forall_mem_cons.mpr ⟨lw_p5, List.forall_mem_cons.mpr ⟨lw_p6, List.forall_mem_cons.mpr ⟨lw_p7, List.forall_mem_cons.mpr ⟨lw_p8, List.forall_mem_cons.mpr ⟨lw_p9, List.forall_mem_cons.mpr ⟨lw_p10, List.forall_mem_cons.mpr ⟨lw_p11, List.forall_mem_cons.mpr ⟨lw_p12, List.forall_mem_cons.mpr ⟨lw_p13, List.forall_mem_cons.mpr ⟨lw_p14, List.forall_mem_cons.mpr ⟨lw_p15, fun _ h => absurd h List.not_mem_nil⟩⟩⟩⟩⟩⟩⟩⟩⟩⟩⟩⟩⟩⟩⟩⟩
theorem lw_p16 : lw_okq (⟨"WorthCache", "fill", "(LWorthCache$Slot;III)V"⟩, 13) := ⟨⟨by decide +kernel, by decide +kernel⟩, List.mem_of_getElem? (i := 11) (by decide +kernel), List.mem_of_getElem? (i := 261) (by decide +kernel), List.mem_of_getElem? (i := 262) (by decide +kernel)⟩
theorem lw_p17 : lw_okq (⟨"WorthCache", "filledSlotOf", "(I)LWorthCache$Slot;"⟩, 13) := ⟨⟨by decide +kernel, by decide +kernel⟩, List.mem_of_getElem? (i := 11) (by decide +kernel), List.mem_of_getElem? (i := 309) (by decide +kernel), List.mem_of_getElem? (i := 310) (by decide +kernel)⟩
theorem lw_p18 : lw_okq (⟨"WorthCache", "countThatWouldLeave", "(I)I"⟩, 13) := ⟨⟨by decide +kernel, by decide +kernel⟩, List.mem_of_getElem? (i := 11) (by decide +kernel), List.mem_of_getElem? (i := 437) (by decide +kernel), List.mem_of_getElem? (i := 438) (by decide +kernel)⟩
theorem lw_p19 : lw_okq (⟨"WorthCache", "bytesNotOver", "()I"⟩, 13) := ⟨⟨by decide +kernel, by decide +kernel⟩, List.mem_of_getElem? (i := 11) (by decide +kernel), List.mem_of_getElem? (i := 441) (by decide +kernel), List.mem_of_getElem? (i := 442) (by decide +kernel)⟩
def lw_privs_2 : List (MethodName × Nat) := [(⟨"WorthCache", "fill", "(LWorthCache$Slot;III)V"⟩, 13), (⟨"WorthCache", "filledSlotOf", "(I)LWorthCache$Slot;"⟩, 13), (⟨"WorthCache", "countThatWouldLeave", "(I)I"⟩, 13), (⟨"WorthCache", "bytesNotOver", "()I"⟩, 13)]
theorem lw_r2 : ∀ q ∈ lw_privs_2, lw_okq q := List.forall_mem_cons.mpr ⟨lw_p16, List.forall_mem_cons.mpr ⟨lw_p17, List.forall_mem_cons.mpr ⟨lw_p18, List.forall_mem_cons.mpr ⟨lw_p19, fun _ h => absurd h List.not_mem_nil⟩⟩⟩⟩
def lw_privs : List (MethodName × Nat) := lw_privs_1 ++ (lw_privs_2)
def lw_tbl : List Cond := k2_sels lw_privs ++ tables_1
theorem lw_privs_ok : ∀ q ∈ lw_privs, lw_okq q := by
  show ∀ q ∈ lw_privs_1 ++ (lw_privs_2), lw_okq q
  exact List.forall_mem_append.mpr ⟨lw_r1, lw_r2⟩
-- ===== end of PART A; then your names; then what follows =====
end
section
/-! ===== BEGIN words of one list among another's, by their places ===== -/
theorem goodIn_r {big : List Cond} (ws : List Cond) (ps : List Nat) (hp : ws = ps.filterMap (fun i => big[i]?)) (h : ws.all goodWord = true) : GoodIn big ws := by
  intro w hw
  have h1 := List.all_eq_true.mp h w hw
  rw [hp] at hw
  obtain ⟨i, -, hi⟩ := List.mem_filterMap.mp hw
  have hm : w ∈ big := by first | exact List.mem_of_getElem? hi | exact List.getElem?_mem hi
  exact ⟨hm, good_of_word h1⟩
theorem goodIn_app {big a b : List Cond} (ha : GoodIn big a) (hb : GoodIn big b) : GoodIn big (a ++ b) := fun w h => (List.mem_append.mp h).elim (ha w) (hb w)
theorem goodIn_ca {big a b : List Cond} {c : Cond} (ha : GoodIn big (c :: a)) (hb : GoodIn big b) : GoodIn big (c :: (a ++ b)) := fun w h => (List.mem_cons.mp h).elim (fun e => ha w (List.mem_cons.mpr (Or.inl e))) (fun h => (List.mem_append.mp h).elim (fun h => ha w (List.mem_cons.mpr (Or.inr h))) (hb w))
theorem goodIn_sub {big ws : List Cond} (hm : ∀ w ∈ ws, w ∈ big) (h : ws.all goodWord = true) : GoodIn big ws := fun w hw => ⟨hm w hw, good_of_word (List.all_eq_true.mp h w hw)⟩
/-! ===== END ===== -/

/-! ===== BEGIN exceptions that leave a method, and their catching by the caller (launches without stack traces) ===== -/
section VXA
/-! The laws vx_back, vx_callV, vx_callS, vx_callSW, vx_throw0, vx_throwS follow proofs of the library, with one case more: JvmDerived/Free/Laws.lean (Back.of_free), Shelf42/LK1.lean (callV, callS), Shelf/KitTraced.lean (throwNew0V, throwNewS). -/
/-- where a method has thrown q: the class by its name, the cell, what was written, the world -/
def vx_T (XC : String → State → State → Prop) (st : State) (q : Addr) (t : State) (mc ms : Nat) (free : Addr → Prop) : Prop :=
  ∃ (E : String) (ce : Cell) (L : List Loc), XC E st t ∧ t.heap[q]? = some ce ∧ ce.vm = .none ∧ st.vm.findClass E = some ce.cls ∧ st.WarmedH t.vm ∧ st.sameButNew ({ t with vm := st.vm } : State) L mc ms ∧ ∀ z ∈ L, free z.base
def vx_Q (Qc : Array Value → State → Outcome → State → Prop) (XC : String → State → State → Prop) (mc ms : Nat) (free : Addr → Prop) : Array Value → State → Outcome → State → Prop := fun a st o t =>
  (Qc a st o t ∧ ∃ L, FrameEnd st o t L mc ms ∧ ∀ q ∈ L, free q.base) ∨ ∃ q, o = .threw q ∧ vx_T XC st q t mc ms free
/-- a callee that returns or throws -/
def vx_Met (l : Launch) (y : MethodName) (ws : List Cond) (rm : Room) (Pc : Array Value → State → Prop) (Qc : Array Value → State → Outcome → State → Prop) (XC : String → State → State → Prop) (mc ms : Nat) (free : Addr → Prop) : Prop :=
  MetFree l y (headSpec ws rm) Pc (fun _ _ _ _ _ => True) (vx_Q Qc XC mc ms free)
def vx_Post (XC : String → State → State → Prop) (mc ms : Nat) (free : Addr → Prop) : Pt → Array Value → Addr → Pt → Prop := fun A a q B =>
  ∃ (g : JFrame) (mk : MethodId) (t : State) (L : List Loc) (E : String) (ce : Cell), B.U.heap = t.heap ∧ B.U.vm = t.vm ∧ XC E (A.U.calling g mk a) t ∧ t.heap[q]? = some ce ∧ ce.vm = .none ∧ A.U.vm.findClass E = some ce.cls ∧ B.locs = A.locs ++ L ∧ (∀ z ∈ L, free z.base) ∧ B.cells = A.cells + mc ∧ B.slots = A.slots + ms
def vx_Back (l : Launch) (R : Room) (p : Program) (e : Env) (below : List Frame) (s : State) (sargs : Array Value) (y : MethodName) (len W9 : Nat)
    (Pre : Pt → Array Value → Prop) (Post : Pt → Array Value → Option Value → Pt → Prop) (PostX : Pt → Array Value → Addr → Pt → Prop) : Prop :=
  ∀ (m : MethodId) (meth : Method) (c : Code) (A : Pt) (g : JFrame) (ig : Instr) (mk : MethodId) (a : Array Value),
    Stand p l e R s m sargs below meth c A.U A.locs A.cells A.slots → g.method = m → g.locals.size = c.maxLocals → decode c.code g.pc = .ok (ig, len) →
    2 * g.monitorRoom + (g.stack.map fun v => v.category).sum ≤ W9 → A.U.methodNamed? y = some mk → Pre A a →
    (∃ (v : Option Value) (B : Pt), Stand p l e R s m sargs below meth c B.U B.locs B.cells B.slots ∧ Post A a v B ∧
      Steps p.tables e below (doInvoke e (A.U.setTop g) [] mk a).1 (B.U.setTop { g with pc := g.pc + len, stack := v.toList ++ g.stack })) ∨
    (∃ (q : Addr) (B : Pt), Stand p l e R s m sargs below meth c B.U B.locs B.cells B.slots ∧ PostX A a q B ∧
      Steps p.tables e below (doInvoke e (A.U.setTop g) [] mk a).1 ((B.U.setTop g).pushFrame (.throwing q)))
section Payer
variable {l : Launch} {R : Room} {p : Program} {e : Env} {below : List Frame} {s : State} {sargs : Array Value} {y : MethodName} {len W9 : Nat}
theorem vx_back {ws : List Cond} {rm : Room} {Pc : Array Value → State → Prop} {Qc : Array Value → State → Outcome → State → Prop} {XC : String → State → State → Prop} {mc ms : Nat} {free : Addr → Prop} {bytes : ByteArray} {maxL : Nat} {ret : Option FieldType}
    (hM : vx_Met l y ws rm Pc Qc XC mc ms free) (hblind : FrameBlind Pc) (hrc : rm.cells = mc) (hrs : rm.slots = ms)
    (hframes : rm.frames + 1 ≤ R.frames) (hlocals : W9 + (maxL + 11) + rm.locals ≤ R.locals)
    (hws : ∀ w ∈ ws, ∀ a' U, s.WarmedH U.vm → w.before a' U = true) (hcode : Cond.code y bytes maxL ret ∈ ws) (hinit : ∀ a' U, s.WarmedH U.vm → (Cond.initialized y.cls).before a' U = true) :
    vx_Back l R p e below s sargs y len W9 (PreOf R mc ms Pc) (PostOf Qc mc ms free) (vx_Post XC mc ms free) := by
  intro m meth c A g ig mk a X hg hsize hdg hW hn hp
  have h1 : (headSpec ws rm).pre.before a A.U = true := atoms_intro fun w hw => hws w hw _ _ X.warmed
  have h2 : (Cond.code y bytes maxL ret).before a A.U = true := hws _ hcode _ _ X.warmed
  have h3 : (Cond.initialized y.cls).before a A.U = true := hinit _ _ X.warmed
  have h4 : A.cells + (headSpec ws rm).room.cells ≤ R.cells := by rw [show (headSpec ws rm).room.cells = mc from hrc]; exact hp.1
  have h5 : A.slots + (headSpec ws rm).room.slots ≤ R.slots := by rw [show (headSpec ws rm).room.slots = ms from hrs]; exact hp.2.1
  have hPc : Pc a (A.U.calling g mk a) := hblind _ _ _ _ hp.2.2
  obtain ⟨U, Ls, c0, s0⟩ := A
  dsimp only [Pt.U, Pt.locs, Pt.cells, Pt.slots] at h1 h2 h3 h4 h5 X hn hPc ⊢
  obtain ⟨methY, cY, hmY, hcY, -, hlY, -, -, -, -⟩ := Cond.code_spec hn h2
  obtain ⟨kY, hkY, -⟩ := className_of_methodNamed hn
  have hinitY : kY.init = .initialized := Cond.initialized_spec (findClass_of_methodNamed hn) hkY h3
  have h : At U g.method c below := by rw [hg]; exact X.here
  have hlocals9 : W9 + (maxL + 11) + (headSpec ws rm).room.locals ≤ R.locals := hlocals
  have happ : (headSpec ws rm).appliesLoose y e.platform (U.calling g mk a) = true :=
    Spec.appliesLoose_calling (g := g) h hdg hn hkY hinitY
      (X.room_calling (g := g) (R' := (headSpec ws rm).room) hsize hmY hcY hframes (by rw [hlY]; omega) h4 h5) h1
  obtain ⟨mid, hmid⟩ := h.above
  have hfr : (U.setTop g).frames = (.java g :: mid) ++ below := by rw [State.frames_setTop' g h.top, hmid]; rfl
  obtain ⟨o, s₂, hsteps, -, hend, hq⟩ := Steps.callFree hM p X.admits X.cas X.clock (acts := []) hfr happ hPc trivial
  have hq' : vx_Q Qc XC mc ms free a (U.calling g mk a) o s₂ := hq
  rw [State.frames_setTop' g h.top] at hend
  obtain ⟨g₀, hg0⟩ := Option.isSome_iff_exists.mp h.top
  obtain ⟨r, hr⟩ := State.topJava?_eq_some.mp hg0
  have hr' : (({ U with heap := s₂.heap, slotsUsed := s₂.slotsUsed } : State).setVm s₂.vm).frames = .java g₀ :: r := hr
  rcases hq' with ⟨hqc, L, hfe, hL⟩ | ⟨q, rfl, E, ce, L, hx, hce, hcv, hcl, hW₂, hsm, hL⟩
  · obtain ⟨⟨v, rfl⟩, hW₂, e2, q2, q3, q4, q5, q6⟩ := id hfe
    have e3 : s₂ = ({ (U.calling g mk a).setFrames s₂.frames with heap := s₂.heap, slotsUsed := s₂.slotsUsed } : State).setVm s₂.vm := by
      have : s₂ = ({ s₂ with vm := (U.calling g mk a).vm } : State).setVm s₂.vm := rfl
      rw [e2] at this
      exact this
    obtain ⟨c₂, i₂, len₂, hc₂, hd₂, hf₂⟩ := hend
    have hW' : U.WarmedH s₂.vm := hW₂
    have hcc : c₂ = c := by
      have h1 : s₂.code? g.method = U.code? g.method := by
        rw [State.code?_eq, State.code?_eq, hW'.alike.method?]
      exact Option.some.inj (hc₂.symm.trans (h1.trans h.code))
    subst hcc
    have hlen : len₂ = len := by rw [hdg] at hd₂; cases hd₂; rfl
    subst hlen
    have hs₂ : s₂ = (({ U with heap := s₂.heap, slotsUsed := s₂.slotsUsed } : State).setVm s₂.vm).setTop { g with pc := g.pc + len₂, stack := v.toList ++ g.stack } := by
      refine e3.trans ?_
      rw [hf₂, State.calling_eq h.top, State.setFrames_setFrames, State.setTop_of_frames _ hr', hr]
      rfl
    have hsame : U.sameButNew ({ U with heap := s₂.heap, slotsUsed := s₂.slotsUsed } : State) L mc ms := by
      refine ⟨?_, q2, q3, q4, q5, q6⟩
      obtain ⟨t, ht, -⟩ := State.frames_cons hr
      show ({ U with heap := s₂.heap, slotsUsed := s₂.slotsUsed } : State) = { U.setFrames U.frames with heap := s₂.heap, slotsUsed := s₂.slotsUsed }
      rw [State.setFrames_self ht]
    subst hg
    refine Or.inl ⟨v, ⟨(({ U with heap := s₂.heap, slotsUsed := s₂.slotsUsed } : State).setVm s₂.vm), Ls ++ L, c0 + mc, s0 + ms⟩,
      ⟨X.admits, X.cas, X.clock, X.frames, X.room, X.hears, X.method, X.code, (X.here.setHeapUsed s₂.heap s₂.slotsUsed).setVm hW'.alike, X.tail, State.WarmedH.trans X.warmed hW', X.limits, X.bytes, X.same.trans (hsame.setVm s.vm)⟩,
      ⟨g, mk, s₂, L, rfl, rfl, hqc, rfl, hL, rfl, rfl⟩, ?_⟩
    show Steps p.tables e below _ ((({ U with heap := s₂.heap, slotsUsed := s₂.slotsUsed } : State).setVm s₂.vm).setTop { g with pc := g.pc + len₂, stack := v.toList ++ g.stack })
    rw [← hs₂]
    exact hsteps
  · obtain ⟨e2, q2, q3, q4, q5, q6⟩ := id hsm
    have e3 : s₂ = ({ (U.calling g mk a).setFrames s₂.frames with heap := s₂.heap, slotsUsed := s₂.slotsUsed } : State).setVm s₂.vm := by
      have : s₂ = ({ s₂ with vm := (U.calling g mk a).vm } : State).setVm s₂.vm := rfl
      rw [e2] at this
      exact this
    have hf₂ : s₂.frames = .throwing q :: .java g :: U.frames.tail := hend
    have hW' : U.WarmedH s₂.vm := hW₂
    have hs₂ : s₂ = ((({ U with heap := s₂.heap, slotsUsed := s₂.slotsUsed } : State).setVm s₂.vm).setTop g).pushFrame (.throwing q) := by
      refine e3.trans ?_
      rw [hf₂, State.calling_eq h.top, State.setFrames_setFrames, State.pushFrame, State.frames_setTop _ hr', State.setTop_of_frames _ hr', State.setFrames_setFrames, hr]
      rfl
    have hsame : U.sameButNew ({ U with heap := s₂.heap, slotsUsed := s₂.slotsUsed } : State) L mc ms := by
      refine ⟨?_, q2, q3, q4, q5, q6⟩
      obtain ⟨t, ht, -⟩ := State.frames_cons hr
      show ({ U with heap := s₂.heap, slotsUsed := s₂.slotsUsed } : State) = { U.setFrames U.frames with heap := s₂.heap, slotsUsed := s₂.slotsUsed }
      rw [State.setFrames_self ht]
    subst hg
    refine Or.inr ⟨q, ⟨(({ U with heap := s₂.heap, slotsUsed := s₂.slotsUsed } : State).setVm s₂.vm), Ls ++ L, c0 + mc, s0 + ms⟩,
      ⟨X.admits, X.cas, X.clock, X.frames, X.room, X.hears, X.method, X.code, (X.here.setHeapUsed s₂.heap s₂.slotsUsed).setVm hW'.alike, X.tail, State.WarmedH.trans X.warmed hW', X.limits, X.bytes, X.same.trans (hsame.setVm s.vm)⟩,
      ⟨g, mk, s₂, L, E, ce, rfl, rfl, hx, hce, hcv, hcl, rfl, hL, rfl, rfl⟩, ?_⟩
    show Steps p.tables e below _ (((({ U with heap := s₂.heap, slotsUsed := s₂.slotsUsed } : State).setVm s₂.vm).setTop g).pushFrame (.throwing q))
    rw [← hs₂]
    exact hsteps
end Payer
section Calls
variable {p : Program} {l : Launch} {e : Env} {R : Room} {s : State} {m : MethodId} {args : Array Value} {below : List Frame} {meth : Method} {c : Code} {T : State} {locs : List Loc} {cells slots : Nat}
theorem vx_callV (X : Stand p l e R s m args below meth c T locs cells slots) (hexec : p.tables.exec = Jvm.exec) {own C : String} {index : Nat} {y : MethodName} {bytes : ByteArray} {maxL : Nat} {ret : Option FieldType}
    (hown : s.vm.findClass own = some m.cls) (hlink : (Cond.methodLink own index y).before args s = true) (hinst : (Cond.instanceMethod y).before args s = true) (hsel : (Cond.selects C y y).before args s = true)
    (hcode : (Cond.code y bytes maxL ret).before args s = true) (hy : y.cls ≠ "java/lang/invoke/MethodHandle" ∧ y.cls ≠ "java/lang/invoke/VarHandle")
    {W9 : Nat} {Pre : Pt → Array Value → Prop} {Post : Pt → Array Value → Option Value → Pt → Prop} {PostX : Pt → Array Value → Addr → Pt → Prop} (hK : vx_Back l R p e below s args y 3 W9 Pre Post PostX)
    {b : Addr} {cellB : Cell} (hcell : T.heap[b]? = some cellB) (hobj : cellB.vm.isStatics = false) (hcls : s.vm.findClass C = some cellB.cls)
    {g : JFrame} (hg : g.method = m) (hsize : g.locals.size = c.maxLocals) {argsL rest : List Value} (hlen : ∀ sig, parseMethodDescriptor y.desc = some sig → argsL.length = sig.parameters.length)
    (hstack : g.stack = argsL.reverse ++ .ref b :: rest) (hW : 2 * g.monitorRoom + (rest.map fun v => v.category).sum ≤ W9) (hdg : decode c.code g.pc = .ok (.invokevirtual index, 3))
    (hpre : ∀ vm₁, s.WarmedH vm₁ → Pre ⟨T.setVm vm₁, locs, cells, slots⟩ (Value.ref b :: argsL).toArray) :
    (∃ (v : Option Value) (vm₁ : Vm) (B : Pt), s.WarmedH vm₁ ∧ Stand p l e R s m args below meth c B.U B.locs B.cells B.slots ∧ Post ⟨T.setVm vm₁, locs, cells, slots⟩ (Value.ref b :: argsL).toArray v B ∧
      ∀ target, Steps p.tables e below (B.U.setTop { g with pc := g.pc + 3, stack := v.toList ++ rest }) target → Steps p.tables e below (T.setTop g) target) ∨
    (∃ (q : Addr) (vm₁ : Vm) (B : Pt), s.WarmedH vm₁ ∧ Stand p l e R s m args below meth c B.U B.locs B.cells B.slots ∧ PostX ⟨T.setVm vm₁, locs, cells, slots⟩ (Value.ref b :: argsL).toArray q B ∧
      Steps p.tables e below (T.setTop g) ((B.U.setTop { g with stack := rest }).pushFrame (.throwing q))) := by
  obtain ⟨mk, methM, hnamed, hmethM, hstM, habM⟩ := Cond.instanceMethod_spec hinst
  obtain ⟨methM', cM, hmethM', -, -, -, -, -, -, hsigM⟩ := Cond.code_spec hnamed hcode
  cases hmethM.symm.trans hmethM'
  obtain ⟨c2, r2, m2, q1, q2, q3, q4, kP, hkP, hkPi⟩ := Cond.selects_spec hsel
  cases hcls.symm.trans q1
  cases (State.methodFound?_of_named hnamed hy).symm.trans q2
  cases hnamed.symm.trans q3
  have hselP : selectMethod e.platform s.vm cellB.cls mk = .method mk := by rw [Launch.admits_selectMethod X.admits]; exact q4
  obtain ⟨vm₁, X₁, hstep₁⟩ := X.invokevirtual hexec hown hlink hnamed hmethM hstM hkP hkPi hy (a := b) (cell := cellB) hcell
    (fun z h => by rw [h] at hobj; cases hobj) hselP hmethM habM hkP hkPi (g := g) hg (argsL := argsL) (rest := rest) (hlen _ hsigM) hstack hdg
  rcases hK m meth c ⟨T.setVm vm₁, locs, cells, slots⟩ { g with stack := rest } (.invokevirtual index) mk (Value.ref b :: argsL).toArray X₁ hg hsize hdg hW (X₁.named hnamed) (hpre vm₁ X₁.warmed) with ⟨v, B, X', hpost, hsteps⟩ | ⟨q, B, X', hpost, hsteps⟩
  · exact Or.inl ⟨v, vm₁, B, X₁.warmed, X', hpost, fun target h => hstep₁ _ fun acts => by rw [doInvoke_state]; exact hsteps.trans h⟩
  · exact Or.inr ⟨q, vm₁, B, X₁.warmed, X', hpost, hstep₁ _ fun acts => by rw [doInvoke_state]; exact hsteps⟩
theorem vx_callS (X : Stand p l e R s m args below meth c T locs cells slots) (hexec : p.tables.exec = Jvm.exec) {own : String} {index : Nat} {y : MethodName} {bytes : ByteArray} {maxL : Nat} {ret : Option FieldType}
    (hown : s.vm.findClass own = some m.cls) (hlink : (Cond.methodLink own index y).before args s = true) (hstat : (Cond.static y).before args s = true) (hinit : (Cond.initialized y.cls).before args s = true)
    (hcode : (Cond.code y bytes maxL ret).before args s = true) (hy : y.cls ≠ "java/lang/invoke/MethodHandle" ∧ y.cls ≠ "java/lang/invoke/VarHandle")
    {W9 : Nat} {Pre : Pt → Array Value → Prop} {Post : Pt → Array Value → Option Value → Pt → Prop} {PostX : Pt → Array Value → Addr → Pt → Prop} (hK : vx_Back l R p e below s args y 3 W9 Pre Post PostX)
    {g : JFrame} (hg : g.method = m) (hsize : g.locals.size = c.maxLocals) {argsL rest : List Value} (hlen : ∀ sig, parseMethodDescriptor y.desc = some sig → argsL.length = sig.parameters.length)
    (hstack : g.stack = argsL.reverse ++ rest) (hW : 2 * g.monitorRoom + (rest.map fun v => v.category).sum ≤ W9) (hdg : decode c.code g.pc = .ok (.invokestatic index, 3))
    (hpre : ∀ vm₁, s.WarmedH vm₁ → Pre ⟨T.setVm vm₁, locs, cells, slots⟩ argsL.toArray) :
    (∃ (v : Option Value) (vm₁ : Vm) (B : Pt), s.WarmedH vm₁ ∧ Stand p l e R s m args below meth c B.U B.locs B.cells B.slots ∧ Post ⟨T.setVm vm₁, locs, cells, slots⟩ argsL.toArray v B ∧
      ∀ target, Steps p.tables e below (B.U.setTop { g with pc := g.pc + 3, stack := v.toList ++ rest }) target → Steps p.tables e below (T.setTop g) target) ∨
    (∃ (q : Addr) (vm₁ : Vm) (B : Pt), s.WarmedH vm₁ ∧ Stand p l e R s m args below meth c B.U B.locs B.cells B.slots ∧ PostX ⟨T.setVm vm₁, locs, cells, slots⟩ argsL.toArray q B ∧
      Steps p.tables e below (T.setTop g) ((B.U.setTop { g with stack := rest }).pushFrame (.throwing q))) := by
  obtain ⟨mk, hnamed⟩ := Cond.code_named hcode
  obtain ⟨methM, cM, hmethM, -, -, -, -, -, -, hsigM⟩ := Cond.code_spec hnamed hcode
  have hstatic : methM.isStatic = true := Cond.static_spec hnamed hmethM hstat
  obtain ⟨kP, hkP, -⟩ := className_of_methodNamed hnamed
  have hinitP : kP.init = .initialized := Cond.initialized_spec (findClass_of_methodNamed hnamed) hkP hinit
  obtain ⟨vm₁, X₁, hstep₁⟩ := X.invokestatic hexec hown hlink hnamed hmethM hstatic hkP hinitP hy (g := g) hg (argsL := argsL) (rest := rest) (hlen _ hsigM) hstack hdg
  rcases hK m meth c ⟨T.setVm vm₁, locs, cells, slots⟩ { g with stack := rest } (.invokestatic index) mk argsL.toArray X₁ hg hsize hdg hW (X₁.named hnamed) (hpre vm₁ X₁.warmed) with ⟨v, B, X', hpost, hsteps⟩ | ⟨q, B, X', hpost, hsteps⟩
  · exact Or.inl ⟨v, vm₁, B, X₁.warmed, X', hpost, fun target h => hstep₁ _ fun acts => by rw [doInvoke_state]; exact hsteps.trans h⟩
  · exact Or.inr ⟨q, vm₁, B, X₁.warmed, X', hpost, hstep₁ _ fun acts => by rw [doInvoke_state]; exact hsteps⟩
end Calls
theorem vx_cls {s : State} {T : State} {vm₁ : Vm} {E : String} {k : ClassId} (hW : s.WarmedH vm₁) (h : (T.setVm vm₁).vm.findClass E = some k) : s.vm.findClass E = some k := by
  have h1 : vm₁.findClass E = some k := h
  rw [hW.alike.findClass] at h1
  exact h1
/-- the method's frame g, with q thrown over it -/
def vx_W (p : Program) (l : Launch) (e : Env) (R : Room) (s : State) (m : MethodId) (args : Array Value) (below : List Frame) (meth : Method) (c : Code) (H : Heap) (locs : List Loc) (cells slots : Nat) (Q : State → Prop) (g : JFrame) (q : Addr) : Prop :=
  ∀ T : State, T.heap = H → Stand p l e R s m args below meth c T locs cells slots → ∃ t, Steps p.tables e below ((T.setTop g).pushFrame (.throwing q)) t ∧ Q t
def vx_Run (p : Program) (l : Launch) (e : Env) (R : Room) (s : State) (m : MethodId) (args : Array Value) (below : List Frame) (meth : Method) (c : Code) (H : Heap) (locs : List Loc) (cells slots mc ms : Nat) (g : JFrame) (rest : List Value) (Qa : State → Outcome → State → Prop) (XC : String → State → State → Prop) (free : Addr → Prop) : Prop :=
  ∀ T : State, T.heap = H → Stand p l e R s m args below meth c T locs cells slots →
    (∃ (v : Option Value) (st₀ t T' : State) (L : List Loc), st₀.heap = H ∧ Stand p l e R s m args below meth c T' (locs ++ L) (cells + mc) (slots + ms) ∧ (∀ q ∈ L, free q.base) ∧ T'.heap = t.heap ∧ T'.vm = t.vm ∧ Qa st₀ (.returned v) t ∧
      Goes p e below T g T' { g with pc := g.pc + 3, stack := v.toList ++ rest }) ∨
    (∃ (q : Addr) (st₀ t T' : State) (L : List Loc) (E : String) (ce : Cell), st₀.heap = H ∧ Stand p l e R s m args below meth c T' (locs ++ L) (cells + mc) (slots + ms) ∧ (∀ z ∈ L, free z.base) ∧ T'.heap = t.heap ∧ T'.vm = t.vm ∧ XC E st₀ t ∧ t.heap[q]? = some ce ∧ ce.vm = .none ∧ s.vm.findClass E = some ce.cls ∧
      Steps p.tables e below (T.setTop g) ((T'.setTop { g with stack := rest }).pushFrame (.throwing q)))
def vx_X {S : Type} (px : S → Prop) (B : String → S → State → Prop) (A : Nat → Prop) : String → State → State → Prop := fun E st t => ∃ u : S, px u ∧ B E u t ∧ va_F A st t
section Runs
variable {p : Program} {l : Launch} {e : Env} {R : Room} {s : State} {m : MethodId} {args : Array Value} {below : List Frame} {meth : Method} {c : Code} {H : Heap} {locs : List Loc} {cells slots : Nat}
variable {y : MethodName} {bytes cc : ByteArray} {maxL nL mc ms n index : Nat} {ret : Option FieldType} {ws : List Cond} {rm : Room} {Pc : Array Value → State → Prop} {Qc : Array Value → State → Outcome → State → Prop} {XC : String → State → State → Prop} {free : Addr → Prop} {Ts : List Cond} {own C : String} {b : Addr} {As rest : List Value} {g : JFrame}
theorem vx_callBack (cb : CallB R s args own index y bytes maxL ret ws rm mc ms n) (hM : vx_Met l y ws rm Pc Qc XC mc ms free) (hbl : FrameBlind Pc) : vx_Back l R p e below s args y 3 8 (PreOf R mc ms Pc) (PostOf Qc mc ms free) (vx_Post XC mc ms free) := by
  obtain ⟨hrc, hrs, hfr, hlo, hws, hcw, -, hini, -⟩ := cb
  exact vx_back (bytes := bytes) (maxL := maxL) (ret := ret) hM hbl hrc hrs hfr hlo hws hcw (fun a' U hW => word_at hW (Or.inl (by first | rfl | simp [Cond.onTables, Cond.keeps, Cond.steady])) hini)
theorem vx_runV (S : CallFix p m c cc nL s args Ts own) (hM : vx_Met l y ws rm Pc Qc XC mc ms free) (cw : CallW R s args own C index y bytes maxL ret ws rm mc ms n) (hp : PreV s H C b Pc As)
    (hg : g.method = m) (hn : As.length = n) (hsize : g.locals.size = nL) (hstack : g.stack = As.reverse ++ .ref b :: rest) (hW : 2 * g.monitorRoom + (rest.map fun v => v.category).sum ≤ 8) (hdg : decode cc g.pc = .ok (.invokevirtual index, 3)) (hf : cells + mc ≤ R.cells ∧ slots + ms ≤ R.slots) :
    vx_Run p l e R s m args below meth c H locs cells slots mc ms g rest (Qc (Value.ref b :: As).toArray) XC free := by
  have hK : vx_Back l R p e below s args y 3 8 (PreOf R mc ms Pc) (PostOf Qc mc ms free) (vx_Post XC mc ms free) := vx_callBack cw.1 hM hp.1
  obtain ⟨⟨-, -, -, -, -, -, hcode, -, hy, hlen, hl⟩, hin, hse⟩ := cw
  obtain ⟨hx, hb, hml, ho, -⟩ := S
  obtain ⟨-, ⟨cellB, hcB, hoB, hclB⟩, hPc⟩ := hp
  intro T hT X
  rcases vx_callV X hx (C := C) (bytes := bytes) (maxL := maxL) (ret := ret) ho hl hin hse hcode hy hK (by rw [hT]; exact hcB) hoB hclB hg (hsize.trans hml.symm) (argsL := As) (rest := rest) (fun sig h => hn.trans (hlen sig h)) hstack hW (by rw [hb]; exact hdg)
    (fun vm₁ hW₁ => ⟨hf.1, hf.2, hPc (T.setVm vm₁) hT hW₁⟩) with ⟨v, vm₁, ⟨U', l2, c2, s2⟩, hW₁, X', ⟨g', mk, t, L, e1, e2, hq, h1, hL, h2, h3⟩, st⟩ | ⟨q, vm₁, ⟨U', l2, c2, s2⟩, hW₁, X', ⟨g', mk, t, L, E, ce, e1, e2, hq, hce, hcv, hcl, h1, hL, h2, h3⟩, st⟩
  · dsimp only [Pt.U, Pt.locs, Pt.cells, Pt.slots] at X' e1 e2 h1 h2 h3 st
    subst h1; subst h2; subst h3
    exact Or.inl ⟨v, (T.setVm vm₁).calling g' mk (Value.ref b :: As).toArray, t, U', L, hT, X', hL, e1, e2, hq, st⟩
  · dsimp only [Pt.U, Pt.locs, Pt.cells, Pt.slots] at X' e1 e2 h1 h2 h3 st hcl
    subst h1; subst h2; subst h3
    exact Or.inr ⟨q, (T.setVm vm₁).calling g' mk (Value.ref b :: As).toArray, t, U', L, E, ce, hT, X', hL, e1, e2, hq, hce, hcv, vx_cls hW₁ hcl, st⟩
theorem vx_runS (S : CallFix p m c cc nL s args Ts own) (hM : vx_Met l y ws rm Pc Qc XC mc ms free) (cw : CallB R s args own index y bytes maxL ret ws rm mc ms n ∧ (Cond.static y).before args s = true) (hp : PreS s H Pc As)
    (hg : g.method = m) (hn : As.length = n) (hsize : g.locals.size = nL) (hstack : g.stack = As.reverse ++ rest) (hW : 2 * g.monitorRoom + (rest.map fun v => v.category).sum ≤ 8) (hdg : decode cc g.pc = .ok (.invokestatic index, 3)) (hf : cells + mc ≤ R.cells ∧ slots + ms ≤ R.slots) :
    vx_Run p l e R s m args below meth c H locs cells slots mc ms g rest (Qc As.toArray) XC free := by
  have hK : vx_Back l R p e below s args y 3 8 (PreOf R mc ms Pc) (PostOf Qc mc ms free) (vx_Post XC mc ms free) := vx_callBack cw.1 hM hp.1
  obtain ⟨⟨-, -, -, -, -, -, hcode, hini, hy, hlen, hl⟩, hstt⟩ := cw
  obtain ⟨hx, hb, hml, ho, -⟩ := S
  intro T hT X
  rcases vx_callS X hx (bytes := bytes) (maxL := maxL) (ret := ret) ho hl hstt hini hcode hy hK hg (hsize.trans hml.symm) (argsL := As) (rest := rest) (fun sig h => hn.trans (hlen sig h)) hstack hW (by rw [hb]; exact hdg)
    (fun vm₁ hW₁ => ⟨hf.1, hf.2, hp.2 (T.setVm vm₁) hT hW₁⟩) with ⟨v, vm₁, ⟨U', l2, c2, s2⟩, hW₁, X', ⟨g', mk, t, L, e1, e2, hq, h1, hL, h2, h3⟩, st⟩ | ⟨q, vm₁, ⟨U', l2, c2, s2⟩, hW₁, X', ⟨g', mk, t, L, E, ce, e1, e2, hq, hce, hcv, hcl, h1, hL, h2, h3⟩, st⟩
  · dsimp only [Pt.U, Pt.locs, Pt.cells, Pt.slots] at X' e1 e2 h1 h2 h3 st
    subst h1; subst h2; subst h3
    exact Or.inl ⟨v, (T.setVm vm₁).calling g' mk As.toArray, t, U', L, hT, X', hL, e1, e2, hq, st⟩
  · dsimp only [Pt.U, Pt.locs, Pt.cells, Pt.slots] at X' e1 e2 h1 h2 h3 st hcl
    subst h1; subst h2; subst h3
    exact Or.inr ⟨q, (T.setVm vm₁).calling g' mk As.toArray, t, U', L, E, ce, hT, X', hL, e1, e2, hq, hce, hcv, vx_cls hW₁ hcl, st⟩
end Runs
section Rows
variable {p : Program} {l : Launch} {e : Env} {R : Room} {s : State} {m : MethodId} {args : Array Value} {below : List Frame} {meth : Method} {c : Code} {H : Heap} {locs : List Loc} {cells slots : Nat} {Q : State → Prop}
variable {mc ms : Nat} {free : Addr → Prop} {A0 A1 : Nat → Prop} {H0 : Heap} {a : Array Value} {pc : Nat} {ls : Array Slot} {st0 rest : List Value}
theorem vx_keep {st₀ t T' : State} {L : List Loc} (h0 : st₀.heap = H) (e1 : T'.heap = t.heap) (hS : va_S A0 H0 H locs) (hA : ∀ q, q < H.size → A1 q → A0 q) (hf : ∀ q, free q → A0 q) (hL : ∀ q ∈ L, free q.base) (hF : va_F A1 st₀ t) :
    H.size ≤ T'.heap.size ∧ (∀ q : Nat, q < H.size → ¬ A1 q → T'.heap[q]? = H[q]?) ∧ va_S A0 H0 T'.heap (locs ++ L) := by
  obtain ⟨hz, hk⟩ := hF
  rw [h0] at hz hk
  exact ⟨by rw [e1]; exact hz, fun q h1 h2 => by rw [e1]; exact hk q h1 h2,
    ⟨Nat.le_trans hS.1 (by rw [e1]; exact hz), fun q h1 h2 => by rw [e1, hk q (Nat.lt_of_lt_of_le h1 hS.1) (fun z => h2 (hA q (Nat.lt_of_lt_of_le h1 hS.1) z))]; exact hS.2.1 q h1 h2, fun q hq => by
      rcases List.mem_append.mp hq with h | h
      · exact hS.2.2 q h
      · exact hf _ (hL q h)⟩⟩
theorem vx_calli {S SX : Type} {post : Int32 → S → Prop} {px : SX → Prop} {B : S → State → Prop} {BX : String → SX → State → Prop} {AX : Nat → Prop} (hr : vx_Run p l e R s m args below meth c H locs cells slots mc ms (F0 m pc ls st0) rest (va_Qi post B A1 a) (vx_X px BX AX) free) (hS : va_S A0 H0 H locs) (hA : ∀ q, q < H.size → A1 q → A0 q) (hf : ∀ q, free q → A0 q) (hAX : ∀ q, q < H.size → AX q → A0 q)
    (kx : ∀ (E : String) (ce : Cell) (q9 : Addr) (u : SX) (t : State) (H1 : Heap) (locs1 : List Loc), t.heap = H1 → s.vm.Alike t.vm → px u → BX E u t → H.size ≤ H1.size → (∀ q : Nat, q < H.size → ¬ AX q → H1[q]? = H[q]?) → va_S A0 H0 H1 locs1 → H1[q9]? = some ce → ce.vm = .none → s.vm.findClass E = some ce.cls → vx_W p l e R s m args below meth c H1 locs1 (cells + mc) (slots + ms) Q (F0 m pc ls rest) q9)
    (kk : ∀ (r : Int32) (u : S) (t : State) (H1 : Heap) (locs1 : List Loc), t.heap = H1 → s.vm.Alike t.vm → post r u → B u t → H.size ≤ H1.size → (∀ q : Nat, q < H.size → ¬ A1 q → H1[q]? = H[q]?) → va_S A0 H0 H1 locs1 → W p l e R s m args below meth c H1 locs1 (cells + mc) (slots + ms) Q (F0 m (pc + 3) ls (.int r :: rest))) : W p l e R s m args below meth c H locs cells slots Q (F0 m pc ls st0) := by
  intro T hT X
  rcases hr T hT X with ⟨v, st₀, t, T', L, h0, X', hL, e1, e2, ⟨⟨r, u, hv, hp, hb⟩, hF⟩, st⟩ | ⟨q, st₀, t, T', L, E, ce, h0, X', hL, e1, e2, ⟨u, hp, hb, hF⟩, hce, hcv, hcl, st⟩
  · cases hv
    obtain ⟨k1, k2, k3⟩ := vx_keep h0 e1 hS hA hf hL hF
    obtain ⟨t2, a1, b1⟩ := kk r u t T'.heap (locs ++ L) e1.symm (by rw [← e2]; exact X'.warmed.alike) hp hb k1 k2 k3 T' rfl X'
    exact ⟨t2, st t2 a1, b1⟩
  · obtain ⟨k1, k2, k3⟩ := vx_keep h0 e1 hS hAX hf hL hF
    obtain ⟨t2, a1, b1⟩ := kx E ce q u t T'.heap (locs ++ L) e1.symm (by rw [← e2]; exact X'.warmed.alike) hp hb k1 k2 k3 (by rw [e1]; exact hce) hcv hcl T' rfl X'
    exact ⟨t2, st.trans a1, b1⟩
theorem vx_calll {S SX : Type} {post : Int64 → S → Prop} {px : SX → Prop} {B : S → State → Prop} {BX : String → SX → State → Prop} {AX : Nat → Prop} (hr : vx_Run p l e R s m args below meth c H locs cells slots mc ms (F0 m pc ls st0) rest (va_Ql post B A1 a) (vx_X px BX AX) free) (hS : va_S A0 H0 H locs) (hA : ∀ q, q < H.size → A1 q → A0 q) (hf : ∀ q, free q → A0 q) (hAX : ∀ q, q < H.size → AX q → A0 q)
    (kx : ∀ (E : String) (ce : Cell) (q9 : Addr) (u : SX) (t : State) (H1 : Heap) (locs1 : List Loc), t.heap = H1 → s.vm.Alike t.vm → px u → BX E u t → H.size ≤ H1.size → (∀ q : Nat, q < H.size → ¬ AX q → H1[q]? = H[q]?) → va_S A0 H0 H1 locs1 → H1[q9]? = some ce → ce.vm = .none → s.vm.findClass E = some ce.cls → vx_W p l e R s m args below meth c H1 locs1 (cells + mc) (slots + ms) Q (F0 m pc ls rest) q9)
    (kk : ∀ (r : Int64) (u : S) (t : State) (H1 : Heap) (locs1 : List Loc), t.heap = H1 → s.vm.Alike t.vm → post r u → B u t → H.size ≤ H1.size → (∀ q : Nat, q < H.size → ¬ A1 q → H1[q]? = H[q]?) → va_S A0 H0 H1 locs1 → W p l e R s m args below meth c H1 locs1 (cells + mc) (slots + ms) Q (F0 m (pc + 3) ls (.long r :: rest))) : W p l e R s m args below meth c H locs cells slots Q (F0 m pc ls st0) := by
  intro T hT X
  rcases hr T hT X with ⟨v, st₀, t, T', L, h0, X', hL, e1, e2, ⟨⟨r, u, hv, hp, hb⟩, hF⟩, st⟩ | ⟨q, st₀, t, T', L, E, ce, h0, X', hL, e1, e2, ⟨u, hp, hb, hF⟩, hce, hcv, hcl, st⟩
  · cases hv
    obtain ⟨k1, k2, k3⟩ := vx_keep h0 e1 hS hA hf hL hF
    obtain ⟨t2, a1, b1⟩ := kk r u t T'.heap (locs ++ L) e1.symm (by rw [← e2]; exact X'.warmed.alike) hp hb k1 k2 k3 T' rfl X'
    exact ⟨t2, st t2 a1, b1⟩
  · obtain ⟨k1, k2, k3⟩ := vx_keep h0 e1 hS hAX hf hL hF
    obtain ⟨t2, a1, b1⟩ := kx E ce q u t T'.heap (locs ++ L) e1.symm (by rw [← e2]; exact X'.warmed.alike) hp hb k1 k2 k3 (by rw [e1]; exact hce) hcv hcl T' rfl X'
    exact ⟨t2, st.trans a1, b1⟩
theorem vx_callf {S SX : Type} {post : UInt32 → S → Prop} {px : SX → Prop} {B : S → State → Prop} {BX : String → SX → State → Prop} {AX : Nat → Prop} (hr : vx_Run p l e R s m args below meth c H locs cells slots mc ms (F0 m pc ls st0) rest (va_Qf post B A1 a) (vx_X px BX AX) free) (hS : va_S A0 H0 H locs) (hA : ∀ q, q < H.size → A1 q → A0 q) (hf : ∀ q, free q → A0 q) (hAX : ∀ q, q < H.size → AX q → A0 q)
    (kx : ∀ (E : String) (ce : Cell) (q9 : Addr) (u : SX) (t : State) (H1 : Heap) (locs1 : List Loc), t.heap = H1 → s.vm.Alike t.vm → px u → BX E u t → H.size ≤ H1.size → (∀ q : Nat, q < H.size → ¬ AX q → H1[q]? = H[q]?) → va_S A0 H0 H1 locs1 → H1[q9]? = some ce → ce.vm = .none → s.vm.findClass E = some ce.cls → vx_W p l e R s m args below meth c H1 locs1 (cells + mc) (slots + ms) Q (F0 m pc ls rest) q9)
    (kk : ∀ (r : UInt32) (u : S) (t : State) (H1 : Heap) (locs1 : List Loc), t.heap = H1 → s.vm.Alike t.vm → post r u → B u t → H.size ≤ H1.size → (∀ q : Nat, q < H.size → ¬ A1 q → H1[q]? = H[q]?) → va_S A0 H0 H1 locs1 → W p l e R s m args below meth c H1 locs1 (cells + mc) (slots + ms) Q (F0 m (pc + 3) ls (.float r :: rest))) : W p l e R s m args below meth c H locs cells slots Q (F0 m pc ls st0) := by
  intro T hT X
  rcases hr T hT X with ⟨v, st₀, t, T', L, h0, X', hL, e1, e2, ⟨⟨r, u, hv, hp, hb⟩, hF⟩, st⟩ | ⟨q, st₀, t, T', L, E, ce, h0, X', hL, e1, e2, ⟨u, hp, hb, hF⟩, hce, hcv, hcl, st⟩
  · cases hv
    obtain ⟨k1, k2, k3⟩ := vx_keep h0 e1 hS hA hf hL hF
    obtain ⟨t2, a1, b1⟩ := kk r u t T'.heap (locs ++ L) e1.symm (by rw [← e2]; exact X'.warmed.alike) hp hb k1 k2 k3 T' rfl X'
    exact ⟨t2, st t2 a1, b1⟩
  · obtain ⟨k1, k2, k3⟩ := vx_keep h0 e1 hS hAX hf hL hF
    obtain ⟨t2, a1, b1⟩ := kx E ce q u t T'.heap (locs ++ L) e1.symm (by rw [← e2]; exact X'.warmed.alike) hp hb k1 k2 k3 (by rw [e1]; exact hce) hcv hcl T' rfl X'
    exact ⟨t2, st.trans a1, b1⟩
theorem vx_calld {S SX : Type} {post : UInt64 → S → Prop} {px : SX → Prop} {B : S → State → Prop} {BX : String → SX → State → Prop} {AX : Nat → Prop} (hr : vx_Run p l e R s m args below meth c H locs cells slots mc ms (F0 m pc ls st0) rest (va_Qd post B A1 a) (vx_X px BX AX) free) (hS : va_S A0 H0 H locs) (hA : ∀ q, q < H.size → A1 q → A0 q) (hf : ∀ q, free q → A0 q) (hAX : ∀ q, q < H.size → AX q → A0 q)
    (kx : ∀ (E : String) (ce : Cell) (q9 : Addr) (u : SX) (t : State) (H1 : Heap) (locs1 : List Loc), t.heap = H1 → s.vm.Alike t.vm → px u → BX E u t → H.size ≤ H1.size → (∀ q : Nat, q < H.size → ¬ AX q → H1[q]? = H[q]?) → va_S A0 H0 H1 locs1 → H1[q9]? = some ce → ce.vm = .none → s.vm.findClass E = some ce.cls → vx_W p l e R s m args below meth c H1 locs1 (cells + mc) (slots + ms) Q (F0 m pc ls rest) q9)
    (kk : ∀ (r : UInt64) (u : S) (t : State) (H1 : Heap) (locs1 : List Loc), t.heap = H1 → s.vm.Alike t.vm → post r u → B u t → H.size ≤ H1.size → (∀ q : Nat, q < H.size → ¬ A1 q → H1[q]? = H[q]?) → va_S A0 H0 H1 locs1 → W p l e R s m args below meth c H1 locs1 (cells + mc) (slots + ms) Q (F0 m (pc + 3) ls (.double r :: rest))) : W p l e R s m args below meth c H locs cells slots Q (F0 m pc ls st0) := by
  intro T hT X
  rcases hr T hT X with ⟨v, st₀, t, T', L, h0, X', hL, e1, e2, ⟨⟨r, u, hv, hp, hb⟩, hF⟩, st⟩ | ⟨q, st₀, t, T', L, E, ce, h0, X', hL, e1, e2, ⟨u, hp, hb, hF⟩, hce, hcv, hcl, st⟩
  · cases hv
    obtain ⟨k1, k2, k3⟩ := vx_keep h0 e1 hS hA hf hL hF
    obtain ⟨t2, a1, b1⟩ := kk r u t T'.heap (locs ++ L) e1.symm (by rw [← e2]; exact X'.warmed.alike) hp hb k1 k2 k3 T' rfl X'
    exact ⟨t2, st t2 a1, b1⟩
  · obtain ⟨k1, k2, k3⟩ := vx_keep h0 e1 hS hAX hf hL hF
    obtain ⟨t2, a1, b1⟩ := kx E ce q u t T'.heap (locs ++ L) e1.symm (by rw [← e2]; exact X'.warmed.alike) hp hb k1 k2 k3 (by rw [e1]; exact hce) hcv hcl T' rfl X'
    exact ⟨t2, st.trans a1, b1⟩
theorem vx_callv {S SX : Type} {post : S → Prop} {px : SX → Prop} {B : S → State → Prop} {BX : String → SX → State → Prop} {AX : Nat → Prop} (hr : vx_Run p l e R s m args below meth c H locs cells slots mc ms (F0 m pc ls st0) rest (va_Qv post B A1 a) (vx_X px BX AX) free) (hS : va_S A0 H0 H locs) (hA : ∀ q, q < H.size → A1 q → A0 q) (hf : ∀ q, free q → A0 q) (hAX : ∀ q, q < H.size → AX q → A0 q)
    (kx : ∀ (E : String) (ce : Cell) (q9 : Addr) (u : SX) (t : State) (H1 : Heap) (locs1 : List Loc), t.heap = H1 → s.vm.Alike t.vm → px u → BX E u t → H.size ≤ H1.size → (∀ q : Nat, q < H.size → ¬ AX q → H1[q]? = H[q]?) → va_S A0 H0 H1 locs1 → H1[q9]? = some ce → ce.vm = .none → s.vm.findClass E = some ce.cls → vx_W p l e R s m args below meth c H1 locs1 (cells + mc) (slots + ms) Q (F0 m pc ls rest) q9)
    (kk : ∀ (u : S) (t : State) (H1 : Heap) (locs1 : List Loc), t.heap = H1 → s.vm.Alike t.vm → post u → B u t → H.size ≤ H1.size → (∀ q : Nat, q < H.size → ¬ A1 q → H1[q]? = H[q]?) → va_S A0 H0 H1 locs1 → W p l e R s m args below meth c H1 locs1 (cells + mc) (slots + ms) Q (F0 m (pc + 3) ls (rest))) : W p l e R s m args below meth c H locs cells slots Q (F0 m pc ls st0) := by
  intro T hT X
  rcases hr T hT X with ⟨v, st₀, t, T', L, h0, X', hL, e1, e2, ⟨⟨u, hv, hp, hb⟩, hF⟩, st⟩ | ⟨q, st₀, t, T', L, E, ce, h0, X', hL, e1, e2, ⟨u, hp, hb, hF⟩, hce, hcv, hcl, st⟩
  · cases hv
    obtain ⟨k1, k2, k3⟩ := vx_keep h0 e1 hS hA hf hL hF
    obtain ⟨t2, a1, b1⟩ := kk u t T'.heap (locs ++ L) e1.symm (by rw [← e2]; exact X'.warmed.alike) hp hb k1 k2 k3 T' rfl X'
    exact ⟨t2, st t2 a1, b1⟩
  · obtain ⟨k1, k2, k3⟩ := vx_keep h0 e1 hS hAX hf hL hF
    obtain ⟨t2, a1, b1⟩ := kx E ce q u t T'.heap (locs ++ L) e1.symm (by rw [← e2]; exact X'.warmed.alike) hp hb k1 k2 k3 (by rw [e1]; exact hce) hcv hcl T' rfl X'
    exact ⟨t2, st.trans a1, b1⟩
/-- caught by the row x of this method's table; the rows ahead don't take it -/
theorem vx_catch {own name : String} {E : String} {ce : Cell} {q : Addr} (hown : s.vm.findClass own = some m.cls) (pre : List ExceptionTableEntry) (x : ExceptionTableEntry) (suf : List ExceptionTableEntry) (hsplit : c.exceptionTable.toList = pre ++ x :: suf)
    (hpass : ∀ z ∈ pre, covers z pc = false ∨ (z.catchType ≠ 0 ∧ ∃ nm : String, (Cond.classLink own z.catchType nm).before args s = true ∧ va_Nc E nm s)) (hx : covers x pc = true) (h0 : x.catchType ≠ 0)
    (hlink : (Cond.classLink own x.catchType name).before args s = true) (hcast : (Cond.castable E name).before args s = true) (hcell : H[q]? = some ce) (hv : ce.vm = .none) (hcl : s.vm.findClass E = some ce.cls)
    (kk : W p l e R s m args below meth c H locs cells slots Q (F0 m x.handlerPc ls [.ref q])) : vx_W p l e R s m args below meth c H locs cells slots Q (F0 m pc ls rest) q := by
  intro T hT X
  have hpl : e.platform.magicAccessors = ({} : Platform).magicAccessors := by rw [X.admits.platform]
  obtain ⟨c3, c4, hc3, hc4, hasg⟩ := Cond.castable_spec hcast
  cases Option.some.inj (hc3.symm.trans hcl)
  obtain ⟨c5, hc5, hcl5⟩ := Cond.classLink_spec hown hlink e.platform hpl
  cases Option.some.inj (hc4.symm.trans hc5)
  obtain ⟨vm', X', st⟩ := X.thenCaughtThrough q (g := F0 m pc ls rest) rfl (Steps.refl _) (by rw [hT]; exact hcell) (by rw [hv]; rfl) (by obtain ⟨k9, h9, -⟩ := Vm.findClass_spec hcl; exact ⟨k9, h9⟩) pre x suf hsplit
    (fun z hz => by
      rcases hpass z hz with h | ⟨hz0, nm, hl1, hn1⟩
      · exact Or.inl h
      · obtain ⟨c6, hc6, hcl6⟩ := Cond.classLink_spec hown hl1 e.platform hpl
        obtain ⟨a8, b8, h1, h2, h3⟩ := hn1
        cases Option.some.inj (h1.symm.trans hcl)
        cases Option.some.inj (h2.symm.trans hc6)
        exact Or.inr ⟨hz0, _, hcl6, h3⟩) hx (Or.inr ⟨h0, c4, hcl5, hasg⟩)
  obtain ⟨t, a1, b1⟩ := kk (T.setVm vm') hT X'
  exact ⟨t, st.trans a1, b1⟩
end Rows
section Ends
variable {p : Program} {l : Launch} {e : Env} {R : Room} {s : State} {m : MethodId} {args : Array Value} {below : List Frame} {meth : Method} {c : Code} {H : Heap} {locs : List Loc} {cells slots : Nat} {Q : State → Prop}
variable {mc ms : Nat} {free : Addr → Prop} {A0 A1 : Nat → Prop} {H0 : Heap} {a : Array Value} {ls : Array Slot} {st0 rest : List Value}
variable {Qc : Array Value → State → Outcome → State → Prop} {XC : String → State → State → Prop}
/-- what a body that may throw owes at its end -/
def vx_MQ (below : List Frame) (Qc : Array Value → State → Outcome → State → Prop) (XC : String → State → State → Prop) (a : Array Value) (s : State) (mc ms : Nat) (free : Addr → Prop) : State → Prop := fun t =>
  ∃ o, t.status = .running ∧ Ended t below o ∧ vx_Q Qc XC mc ms free a s o t
theorem vx_ret {g : JFrame} {mc ms : Nat} (k : W p l e R s m args below meth c H locs cells slots (MQ below Qc args s mc ms free) g) : W p l e R s m args below meth c H locs cells slots (vx_MQ below Qc XC args s mc ms free) g := by
  intro T hT X
  obtain ⟨t, a1, o, b1, b2, b3, b4⟩ := k T hT X
  exact ⟨t, a1, o, b1, b2, Or.inl ⟨b3, b4⟩⟩
/-- not caught here: it goes on to the caller -/
theorem vx_widen {g : JFrame} {q : Addr} {k n : Nat} (h1 : cells ≤ k) (h2 : slots ≤ n) (kk : vx_W p l e R s m args below meth c H locs k n Q g q) : vx_W p l e R s m args below meth c H locs cells slots Q g q := fun T hT X => kk T hT (stand_widen X h1 h2)
theorem vx_out {pc : Nat} {E : String} {ce : Cell} {q : Addr} {mc ms : Nat} (hout : ∀ x ∈ c.exceptionTable.toList, covers x pc = false) (hlocks : meth.locks = false) (hcell : H[q]? = some ce) (hv : ce.vm = .none) (hcl : s.vm.findClass E = some ce.cls)
    (hx : ∀ t : State, t.heap = H → s.vm.Alike t.vm → XC E s t) (hf : ∀ z ∈ locs, free z.base) (hc : cells ≤ mc) (hs : slots ≤ ms) :
    vx_W p l e R s m args below meth c H locs cells slots (vx_MQ below Qc XC args s mc ms free) (F0 m pc ls rest) q := by
  intro T hT X
  obtain ⟨st1, hrun, hend, hW, hsm⟩ := X.leaveThrown q (g := F0 m pc ls rest) rfl rfl rfl hout hlocks
  have hcell9 : (T.setFrames (.throwing q :: below)).heap[q]? = some ce := by
    show T.heap[q]? = some ce
    rw [hT]; exact hcell
  exact ⟨_, st1, .threw q, hrun, hend, Or.inr ⟨q, rfl, E, ce, locs, hx _ hT hW.alike, hcell9, hv, hcl, hW, hsm.mono hc hs, hf⟩⟩
theorem vx_frame {U : State} {k n : Nat} (h : s.sameButNew ({ U with vm := s.vm } : State) locs k n) : s.heap.size ≤ U.heap.size ∧ ∀ q : Nat, q < s.heap.size → (∀ z ∈ locs, z.base ≠ q) → U.heap[q]? = s.heap[q]? := by
  obtain ⟨-, h2, -, -, -, h6⟩ := h
  refine ⟨h2, fun q hq hz => ?_⟩
  obtain ⟨c9, e1, e2, e3, e4⟩ := h6 q _ (Array.getElem?_eq_getElem hq)
  have hs : c9.slots = (s.heap[q]).slots := Array.ext_getElem? fun i => e4 i fun hm => hz _ hm rfl
  have h9 : c9 = s.heap[q] := by
    rw [hs] at e2
    exact e2
  have e5 : U.heap[q]? = some c9 := e1
  rw [e5, h9, Array.getElem?_eq_getElem hq]
/-- the words of a throw but the four that speak of the heap -/
def vx_no (w : Cond) : Bool := decide (w ≠ .isRef (.static Bundle.tN "UNASSIGNED_STACK" Bundle.steD)) && decide (w ≠ .isRef (.static Bundle.tN "SUPPRESSED_SENTINEL" Bundle.listD)) && decide (w ≠ .laysStatic Bundle.tN "UNASSIGNED_STACK" Bundle.steD) && decide (w ≠ .laysStatic Bundle.tN "SUPPRESSED_SENTINEL" Bundle.listD)
def vx_at0 (own : String) (ic : Nat) (X : String) (names : List String) : List Cond := (Bundle.ownAtoms0 own ic X names).filter vx_no
def vx_atS (own : String) (ic : Nat) (X : String) (names : List String) : List Cond := (Bundle.ownAtoms own ic X names).filter vx_no
/-- a word that the tables alone decide, or a good one -/
def vx_ot (w : Cond) : Bool := w.onTables || goodWord w
theorem vx_ot_at {args a' : Array Value} {s U : State} {w : Cond} (hW : s.WarmedH U.vm) (hvm : s.vm = U.vm) (hg : vx_ot w = true) (h : w.before args s = true) : w.before a' U = true := by
  simp only [vx_ot, Bool.or_eq_true] at hg
  rcases hg with hg | hg
  · exact va_tabs hg hvm h
  · exact word_at hW (good_of_word hg) h
/-- a list's words: the good ones out of the method's own list, the others by premises of their own -/
theorem vx_hat {args : Array Value} {s : State} {L B : List Cond} (h1 : ∀ w ∈ L.filter goodWord, w.before args s = true) (h2 : ∀ w ∈ L.filter (fun w => !goodWord w), w ∈ B) (h3 : ∀ w ∈ B, w.before args s = true) : ∀ w ∈ L, w.before args s = true := by
  intro w hw
  by_cases g : goodWord w = true
  · exact h1 w (List.mem_filter.mpr ⟨hw, g⟩)
  · refine h3 w (h2 w (List.mem_filter.mpr ⟨hw, ?_⟩))
    show (!goodWord w) = true
    cases hgw : goodWord w
    · rfl
    · exact absurd hgw g
theorem vx_c {args : Array Value} {s : State} {w : Cond} {B : List Cond} (h : w.before args s = true) (t : ∀ w ∈ B, w.before args s = true) : ∀ w' ∈ w :: B, w'.before args s = true := fun w' h' => (List.mem_cons.mp h').elim (fun e => by rw [e]; exact h) (t w')
theorem vx_n {args : Array Value} {s : State} : ∀ w ∈ ([] : List Cond), w.before args s = true := fun _ h => nomatch h
theorem vx_own {args : Array Value} {s : State} {L : List Cond} (h1 : ∀ w ∈ L.filter vx_no, w.before args s = true)
    (hU : (Cond.isRef (.static Bundle.tN "UNASSIGNED_STACK" Bundle.steD)).before args s = true) (hN : (Cond.isRef (.static Bundle.tN "SUPPRESSED_SENTINEL" Bundle.listD)).before args s = true)
    (lU : (Cond.laysStatic Bundle.tN "UNASSIGNED_STACK" Bundle.steD).before args s = true) (lN : (Cond.laysStatic Bundle.tN "SUPPRESSED_SENTINEL" Bundle.listD).before args s = true) : ∀ w ∈ L, w.before args s = true := by
  intro w hw
  by_cases e1 : w = .isRef (.static Bundle.tN "UNASSIGNED_STACK" Bundle.steD)
  · rw [e1]; exact hU
  · by_cases e2 : w = .isRef (.static Bundle.tN "SUPPRESSED_SENTINEL" Bundle.listD)
    · rw [e2]; exact hN
    · by_cases e3 : w = .laysStatic Bundle.tN "UNASSIGNED_STACK" Bundle.steD
      · rw [e3]; exact lU
      · by_cases e4 : w = .laysStatic Bundle.tN "SUPPRESSED_SENTINEL" Bundle.listD
        · rw [e4]; exact lN
        · exact h1 w (List.mem_filter.mpr ⟨hw, by unfold vx_no; rw [decide_eq_true e1, decide_eq_true e2, decide_eq_true e3, decide_eq_true e4]; rfl⟩)
/-- where a static field lies, its class's statics cell in H -/
def vx_L (C n d : String) (A : Nat → Prop) (U : State) (H : Heap) : Prop := ∃ (c : ClassId) (k : Class) (i : Nat) (f : Field) (a : Nat) (cell : Cell), U.vm.findClass C = some c ∧ U.fieldFound? C n d = some (c, k, i, f) ∧ f.isStatic = true ∧ k.statics = some a ∧ H[a]? = some cell ∧ cell.vm.isStatics = true ∧ cell.cls = c ∧ f.slot < cell.slots.size ∧ k.staticTypes[f.slot]? = some f.type ∧ ¬ A a
theorem vx_L.moved {C n d : String} {A : Nat → Prop} {u U : State} {H : Heap} (hvm : u.vm.Alike U.vm) (h : vx_L C n d A u H) : vx_L C n d A U H := by
  obtain ⟨c, k, i, f, a, cell, h1, h2, h3, h4, h5, h6, h7, h8, h9, h10⟩ := h
  obtain ⟨k', hi', he⟩ := State.fieldFound?_setVm hvm h2
  exact ⟨c, k', i, f, a, cell, by rw [hvm.findClass]; exact h1, hi', h3, by rw [he]; exact h4, h5, h6, h7, h8, by rw [he]; exact h9, h10⟩
theorem vx_L.kept {C n d : String} {A : Nat → Prop} {U : State} {H H1 : Heap} (h : vx_L C n d A U H) (hq : ∀ a : Nat, a < H.size → ¬ A a → H1[a]? = H[a]?) : vx_L C n d A U H1 := by
  obtain ⟨c, k, i, f, a, cell, h1, h2, h3, h4, h5, h6, h7, h8, h9, h10⟩ := h
  exact ⟨c, k, i, f, a, cell, h1, h2, h3, h4, by rw [hq a (Array.getElem?_eq_some_iff.mp h5).1 h10]; exact h5, h6, h7, h8, h9, h10⟩
theorem vx_L.narrow {C n d : String} {A B : Nat → Prop} {U : State} {H : Heap} (h : vx_L C n d A U H) (hAB : ∀ q, B q → A q) : vx_L C n d B U H := by
  obtain ⟨c, k, i, f, a, cell, h1, h2, h3, h4, h5, h6, h7, h8, h9, h10⟩ := h
  exact ⟨c, k, i, f, a, cell, h1, h2, h3, h4, h5, h6, h7, h8, h9, fun z => h10 (hAB _ z)⟩
theorem vx_L.word {C n d : String} {A : Nat → Prop} {s : State} {args : Array Value} (h : vx_L C n d A s s.heap) : (Cond.laysStatic C n d).before args s = true := by
  obtain ⟨c, k, i, f, a, cell, h1, h2, h3, h4, h5, h6, h7, h8, h9, -⟩ := h
  show (Cond.laysStatic C n d).holds args s none s [] = true
  exact Cond.laysStatic_of h1 h2 h3 h4 h5 h6 h7 h8 h9
/-- .. and what it holds: null or some reference -/
def vx_Zq (C n d : String) (A : Nat → Prop) (U : State) (H : Heap) : Prop := va_Zq C n d A U H ∧ vx_L C n d A U H
theorem vx_Zq.moved {C n d : String} {A : Nat → Prop} {u U : State} {H : Heap} (hvm : u.vm.Alike U.vm) (h : vx_Zq C n d A u H) : vx_Zq C n d A U H := ⟨va_Zq.moved hvm h.1, vx_L.moved hvm h.2⟩
theorem vx_Zq.kept {C n d : String} {A : Nat → Prop} {U : State} {H H1 : Heap} (h : vx_Zq C n d A U H) (hq : ∀ a : Nat, a < H.size → ¬ A a → H1[a]? = H[a]?) : vx_Zq C n d A U H1 := ⟨va_Zq.kept h.1 hq, vx_L.kept h.2 hq⟩
theorem vx_Zq.narrow {C n d : String} {A B : Nat → Prop} {U : State} {H : Heap} (h : vx_Zq C n d A U H) (hAB : ∀ q, B q → A q) : vx_Zq C n d B U H := ⟨va_Zq.narrow h.1 hAB, vx_L.narrow h.2 hAB⟩
theorem vx_Zqof {args : Array Value} {s : State} {C n d : String} {A : Nat → Prop} (hl : (Cond.laysStatic C n d).before args s = true) (hini : (Cond.initialized C).before args s = true) (h : (Cond.isRef (.static C n d)).before args s = true) (hA : ∀ a : Nat, a < s.heap.size → ¬ A a) : vx_Zq C n d A s s.heap := by
  refine ⟨va_Zqof hl hini h hA, ?_⟩
  obtain ⟨c, k, i, f, a, cell, h1, h2, h3, h4, h5, h6, h7, h8, h9⟩ := Cond.laysStatic_spec hl
  exact ⟨c, k, i, f, a, cell, h1, h2, h3, h4, h5, h6, h7, h8, h9, hA a (Array.getElem?_eq_some_iff.mp h5).1⟩
theorem vx_isRef {C n d : String} {v : Value} {A : Nat → Prop} {s : State} {args : Array Value} (h : va_Z C n d v A s s.heap) (hv : v.isRef = true) : (Cond.isRef (.static C n d)).before args s = true := by
  obtain ⟨cf, kf, fi, f, a, cell, h1, h2, h3, h4, h5, h6, h7, -⟩ := h
  have he : (Term.static C n d).eval args s none [] s = some v := by
    simp [Term.eval, State.fieldNamed?, h1, h2, h4, h5, h6, h7]
  simp only [Cond.before, Cond.holds, Cond.value, he]
  cases v <;> simp_all [Value.isRef]
theorem vx_isRefq {C n d : String} {A : Nat → Prop} {s : State} {args : Array Value} (h : va_Zq C n d A s s.heap) : (Cond.isRef (.static C n d)).before args s = true := by
  rcases h with h | ⟨t, h⟩
  · exact vx_isRef h rfl
  · exact vx_isRef h rfl
/-- the same frame, seen from here: as if the method were called anew in this heap -/
theorem vx_rebase {T : State} (X : Stand p l e R s m args below meth c T locs cells slots) {R' : Room} (hf : R'.frames ≤ R.frames) (hl : R'.locals ≤ R.locals) (hc : cells + R'.cells ≤ R.cells) (hs : slots + R'.slots ≤ R.slots) :
    Stand p l e R' ((T.setVm s.vm).setFrames (.invoking m args :: below)) m args below meth c T [] 0 0 := by
  have htop : (T.setVm s.vm).topJava?.isSome := X.here.top
  have hF : ((T.setVm s.vm).setFrames (.invoking m args :: below)).frames = .invoking m args :: below := State.frames_setFrames _ (State.cur_lt_of_top htop)
  obtain ⟨g₀, hg0⟩ := Option.isSome_iff_exists.mp htop
  obtain ⟨r, hr⟩ := State.topJava?_eq_some.mp hg0
  have hl9 : e.platform.stackLimits (T.setVm s.vm).me = e.platform.stackLimits s.me := X.limits
  have hb9 : (T.setVm s.vm).me.stackBytes = s.me.stackBytes := X.bytes
  refine ⟨X.admits, X.cas, X.clock, hF, ?_, X.hears, X.method, X.code, X.here, X.tail, X.warmed, ?_, ?_, ?_⟩
  · have h := X.room
    have hU : ((T.setVm s.vm).setFrames (.invoking m args :: below)).localsInUse = s.localsInUse := by
      rw [State.localsInUse_invoking hF (meth := meth) (c := c) X.method X.code, State.localsInUse_invoking X.frames X.method X.code]
    simp only [State.hasRoom, Bool.and_eq_true, decide_eq_true_eq] at h ⊢
    obtain ⟨⟨⟨⟨h1, h2, h3, h4, h5, h6⟩, h7⟩, h8⟩, h9⟩ := h
    rw [X.frames, List.length_cons] at h2 h3
    have q1 := X.heapSize
    have q2 := X.used
    simp only [hF, hU, List.length_cons, State.stackLimits_setFrames, State.stackBytes_setFrames, hl9, hb9]
    refine ⟨⟨⟨⟨by omega, by omega, by omega, by omega, by omega, h6⟩, ?_⟩, ?_⟩, X.book⟩
    · show T.heap.size + R'.cells ≤ e.platform.maxCells
      omega
    · show T.slotsUsed + R'.slots ≤ e.platform.maxSlots
      omega
  · rw [State.stackLimits_setFrames]; rfl
  · rw [State.stackBytes_setFrames]; rfl
  · refine ⟨?_, Nat.le_refl _, Nat.le_refl _, ?_, ?_, fun a c9 h9 => ⟨c9, h9, rfl, rfl, fun _ _ => rfl⟩⟩
    · obtain ⟨t, ht, -⟩ := State.frames_cons hr
      show T.setVm s.vm = { ((T.setVm s.vm).setFrames (.invoking m args :: below)).setFrames (T.setVm s.vm).frames with heap := T.heap, slotsUsed := T.slotsUsed }
      rw [State.setFrames_setFrames, State.setFrames_self ht]
      rfl
    · show T.slotsUsed = T.slotsUsed + ((T.heap.toList.drop T.heap.size).map (·.slots.size)).sum
      rw [List.drop_eq_nil_of_le (Nat.le_of_eq Array.length_toList)]
      rfl
    · show ((T.heap.toList.drop T.heap.size).map (·.slots.size)).sum ≤ 0
      rw [List.drop_eq_nil_of_le (Nat.le_of_eq Array.length_toList)]
      exact Nat.le_refl _
/-- 'throw new E()': new; dup; invokespecial; athrow -/
theorem vx_throw0 {cc : ByteArray} {pc : Nat} (hexec : p.tables.exec = Jvm.exec) (hb : c.code = cc) (hl : l.stackTraces = false) {own cls : String} {names : List String} {ik ic mc ms : Nat} {A : Nat → Prop}
    (hown : s.vm.findClass own = some m.cls) (hcls : Bundle.fit cls = true) (hnames : ∀ n ∈ names, Bundle.fit n = true)
    (hk : (Cond.classLink own ik cls).before args s = true) (hini : (Cond.initialized cls).before args s = true) (hat : ∀ w ∈ vx_at0 own ic cls names, w.before args s = true)
    (hgood : ∀ w ∈ Cond.classLink own ik cls :: Cond.initialized cls :: vx_at0 own ic cls names, vx_ot w = true)
    (hU : vx_Zq Bundle.tN "UNASSIGNED_STACK" Bundle.steD A s s.heap) (hN : vx_Zq Bundle.tN "SUPPRESSED_SENTINEL" Bundle.listD A s s.heap) (hS : va_S A s.heap H locs) (hsize : ls.size = c.maxLocals)
    (d0 : decode cc pc = .ok (.new ik, 3)) (d3 : decode cc (pc + 3) = .ok (.dup, 1)) (d4 : decode cc (pc + 4) = .ok (.invokespecial ic, 3)) (d7 : decode cc (pc + 7) = .ok (.athrow, 1))
    (hout : ∀ x ∈ c.exceptionTable.toList, covers x (pc + 7) = false)
    (hRframes : names.length + 3 < R.frames) (hRlocals : (rest.map fun v => v.category).sum + (13 * (names.length + 1) + 42) ≤ R.locals) (hRcells : cells + 1 ≤ R.cells) (hRslots : slots + 6 ≤ R.slots) (hlocks : meth.locks = false)
    (hx : ∀ t : State, s.vm.Alike t.vm → H.size ≤ t.heap.size → (∀ q : Nat, q < H.size → t.heap[q]? = H[q]?) → XC cls s t)
    (hf : ∀ z ∈ locs, free z.base) (hc : cells + 1 ≤ mc) (hs : slots + 6 ≤ ms) :
    W p l e R s m args below meth c H locs cells slots (vx_MQ below Qc XC args s mc ms free) (F0 m pc ls rest) := by
  intro T hT X
  have htr : e.platform.stackTraces = false := (show e.platform.stackTraces = l.stackTraces by rw [X.admits.platform]).trans hl
  have Y := vx_rebase X (R' := { frames := R.frames, locals := R.locals, cells := 1, slots := 6 }) (Nat.le_refl _) (Nat.le_refl _) hRcells hRslots
  obtain ⟨s', hA⟩ : ∃ z, z = (T.setVm s.vm).setFrames (.invoking m args :: below) := ⟨_, rfl⟩
  rw [← hA] at Y
  have hvm : s'.vm = s.vm := by rw [hA]; rfl
  have hhp : s'.heap = H := by rw [hA]; exact hT
  have hW0 : s.WarmedH s'.vm := by rw [hvm]; exact State.WarmedH.refl s
  have hat' : ∀ w ∈ vx_at0 own ic cls names, w.before args s' = true := fun w hw => vx_ot_at hW0 hvm.symm (hgood w (List.mem_cons_of_mem _ (List.mem_cons_of_mem _ hw))) (hat w hw)
  have hk' : (Cond.classLink own ik cls).before args s' = true := vx_ot_at hW0 hvm.symm (hgood _ List.mem_cons_self) hk
  have hini' : (Cond.initialized cls).before args s' = true := vx_ot_at hW0 hvm.symm (hgood _ (List.mem_cons_of_mem _ List.mem_cons_self)) hini
  have hU' : vx_Zq Bundle.tN "UNASSIGNED_STACK" Bundle.steD A s' s'.heap := by rw [hhp]; exact vx_Zq.moved hW0.alike (hU.kept hS.2.1)
  have hN' : vx_Zq Bundle.tN "SUPPRESSED_SENTINEL" Bundle.listD A s' s'.heap := by rw [hhp]; exact vx_Zq.moved hW0.alike (hN.kept hS.2.1)
  have h : ∀ w ∈ Bundle.ownAtoms0 own ic cls names, w.before args s' = true := vx_own hat' (vx_isRefq hU'.1) (vx_isRefq hN'.1) hU'.2.word hN'.2.word
  have hown' : s'.vm.findClass own = some m.cls := by rw [hvm]; exact hown
  have hins : (Cond.instantiable cls 6).before args s' = true := h _ (by simp [Bundle.ownAtoms0])
  obtain ⟨vm₁, cX, kX, hfX, hkX, -, -, X₁, st1⟩ := Y.newCold hexec (own := own) (C := cls) (index := ik) (n := 6) hown' hk' hins hini'
    (g := F0 m pc ls rest) rfl (by rw [hb]; exact d0) (Nat.le_refl _) (Nat.le_refl _)
  generalize hT1 : (T.setVm vm₁).pushCell { cls := cX, slots := kX.instanceTypes.map defaultValue, vm := .none } = T1 at X₁ st1
  have hcat : (Value.ref T.heap.size).category = 1 := rfl
  have hcellA : T1.heap[T.heap.size]? = some (freshCell cX kX) := by rw [← hT1]; exact State.heap_pushCell_size _ _
  have d3' : decode c.code (pc + 3) = .ok (.dup, 1) := by rw [hb]; exact d3
  obtain ⟨U, hsteps, hrun, hend, hW, hsame, ce, hce, hO⟩ := X₁.ctorThrow0 hexec htr (own := own) (cls := cls) (names := names) (ic := ic) hown' hcls hnames h (fun x hx => nomatch hx) hfX hkX hcellA (by rw [hhp, hT]; exact Nat.le_refl _)
    (g := { method := m, pc := pc + 4, locals := ls, stack := .ref T.heap.size :: .ref T.heap.size :: rest, locked := none }) rfl hsize rfl rfl (rest := rest) rfl
    (by rw [hb]; exact d4) (by rw [hb]; exact d7) hout hRframes (by simp only [List.map_cons, List.sum_cons, hcat]; omega) hlocks
  obtain ⟨f1, f2⟩ := vx_frame hsame
  rw [hhp] at f1 f2
  have hWs : s.WarmedH U.vm := State.WarmedH.trans hW0 hW
  have hcl : s.vm.findClass cls = some ce.cls := by
    have h9 := hO.cls
    rw [hvm] at h9
    exact h9
  have hall : s.sameButNew ({ U with vm := s.vm } : State) locs mc ms := by
    subst hA
    obtain ⟨e1, e2⟩ := hsame
    rw [State.setFrames_setFrames] at e1
    have h2 : (T.setVm s.vm).sameButNew ({ U with vm := s.vm } : State) [] (0 + 1) (0 + 6) := ⟨e1, e2⟩
    have h3 := X.same.trans h2
    rw [List.append_nil] at h3
    exact h3.mono hc hs
  refine ⟨U, ?_, .threw T.heap.size, hrun, hend, Or.inr ⟨T.heap.size, rfl, cls, ce, locs, hx U hWs.alike f1 (fun q hq => f2 q hq (fun z hz => nomatch hz)), hce, hO.vm, hcl, hWs, hall, hf⟩⟩
  refine st1 _ ?_
  show Steps p.tables e below (T1.setTop { method := m, pc := pc + 3, locals := ls, stack := .ref T.heap.size :: rest, locked := none }) _
  jvm_step X₁.here [X₁.here.top, hexec, d3', Value.category]
  exact hsteps
/-- 'throw new E("text")': new; dup; ldc; invokespecial; athrow -/
theorem vx_throwS {cc : ByteArray} {pc : Nat} (hexec : p.tables.exec = Jvm.exec) (hb : c.code = cc) (hl : l.stackTraces = false) {own cls text : String} {names : List String} {ik is ic mc ms sa : Nat} {A : Nat → Prop}
    (hown : s.vm.findClass own = some m.cls) (hcls : Bundle.fit cls = true) (hnames : ∀ n ∈ names, Bundle.fit n = true)
    (hk : (Cond.classLink own ik cls).before args s = true) (hini : (Cond.initialized cls).before args s = true) (hstr : vk_R own is text sa s) (hat : ∀ w ∈ vx_atS own ic cls names, w.before args s = true)
    (hgood : ∀ w ∈ Cond.classLink own ik cls :: Cond.initialized cls :: vx_atS own ic cls names, vx_ot w = true)
    (hU : vx_Zq Bundle.tN "UNASSIGNED_STACK" Bundle.steD A s s.heap) (hN : vx_Zq Bundle.tN "SUPPRESSED_SENTINEL" Bundle.listD A s s.heap) (hS : va_S A s.heap H locs) (hsize : ls.size = c.maxLocals)
    (d0 : decode cc pc = .ok (.new ik, 3)) (d3 : decode cc (pc + 3) = .ok (.dup, 1)) (d4 : decode cc (pc + 4) = .ok (.ldc is, 2)) (d6 : decode cc (pc + 6) = .ok (.invokespecial ic, 3)) (d9 : decode cc (pc + 9) = .ok (.athrow, 1))
    (hout : ∀ x ∈ c.exceptionTable.toList, covers x (pc + 9) = false)
    (hRframes : names.length + 3 < R.frames) (hRlocals : (rest.map fun v => v.category).sum + (13 * (names.length + 1) + 43) ≤ R.locals) (hRcells : cells + 1 ≤ R.cells) (hRslots : slots + 6 ≤ R.slots) (hlocks : meth.locks = false)
    (hx : ∀ t : State, s.vm.Alike t.vm → H.size ≤ t.heap.size → (∀ q : Nat, q < H.size → t.heap[q]? = H[q]?) → XC cls s t)
    (hf : ∀ z ∈ locs, free z.base) (hc : cells + 1 ≤ mc) (hs : slots + 6 ≤ ms) :
    W p l e R s m args below meth c H locs cells slots (vx_MQ below Qc XC args s mc ms free) (F0 m pc ls rest) := by
  intro T hT X
  have htr : e.platform.stackTraces = false := (show e.platform.stackTraces = l.stackTraces by rw [X.admits.platform]).trans hl
  have Y := vx_rebase X (R' := { frames := R.frames, locals := R.locals, cells := 1, slots := 6 }) (Nat.le_refl _) (Nat.le_refl _) hRcells hRslots
  obtain ⟨s', hA⟩ : ∃ z, z = (T.setVm s.vm).setFrames (.invoking m args :: below) := ⟨_, rfl⟩
  rw [← hA] at Y
  have hvm : s'.vm = s.vm := by rw [hA]; rfl
  have hhp : s'.heap = H := by rw [hA]; exact hT
  have hW0 : s.WarmedH s'.vm := by rw [hvm]; exact State.WarmedH.refl s
  have hat' : ∀ w ∈ vx_atS own ic cls names, w.before args s' = true := fun w hw => vx_ot_at hW0 hvm.symm (hgood w (List.mem_cons_of_mem _ (List.mem_cons_of_mem _ hw))) (hat w hw)
  have hk' : (Cond.classLink own ik cls).before args s' = true := vx_ot_at hW0 hvm.symm (hgood _ List.mem_cons_self) hk
  have hini' : (Cond.initialized cls).before args s' = true := vx_ot_at hW0 hvm.symm (hgood _ (List.mem_cons_of_mem _ List.mem_cons_self)) hini
  have hU' : vx_Zq Bundle.tN "UNASSIGNED_STACK" Bundle.steD A s' s'.heap := by rw [hhp]; exact vx_Zq.moved hW0.alike (hU.kept hS.2.1)
  have hN' : vx_Zq Bundle.tN "SUPPRESSED_SENTINEL" Bundle.listD A s' s'.heap := by rw [hhp]; exact vx_Zq.moved hW0.alike (hN.kept hS.2.1)
  have h : ∀ w ∈ Bundle.ownAtoms own ic cls names, w.before args s' = true := vx_own hat' (vx_isRefq hU'.1) (vx_isRefq hN'.1) hU'.2.word hN'.2.word
  have hown' : s'.vm.findClass own = some m.cls := by rw [hvm]; exact hown
  have hins : (Cond.instantiable cls 6).before args s' = true := h _ (by simp [Bundle.ownAtoms])
  obtain ⟨vm₁, cX, kX, hfX, hkX, -, -, X₁, st1⟩ := Y.newCold hexec (own := own) (C := cls) (index := ik) (n := 6) hown' hk' hins hini'
    (g := F0 m pc ls rest) rfl (by rw [hb]; exact d0) (Nat.le_refl _) (Nat.le_refl _)
  generalize hT1 : (T.setVm vm₁).pushCell { cls := cX, slots := kX.instanceTypes.map defaultValue, vm := .none } = T1 at X₁ st1
  have hcat : (Value.ref T.heap.size).category = 1 := rfl
  have hcellA : T1.heap[T.heap.size]? = some (freshCell cX kX) := by rw [← hT1]; exact State.heap_pushCell_size _ _
  have d3' : decode c.code (pc + 3) = .ok (.dup, 1) := by rw [hb]; exact d3
  have d4' : decode c.code (pc + 4) = .ok (.ldc is, 2) := by rw [hb]; exact d4
  have hstr' : vk_R own is text sa s' := vk_R.warm hW0 hstr
  obtain ⟨U, hsteps, hrun, hend, hW, hsame, ce, hce, hO⟩ := X₁.ctorThrowS hexec htr (own := own) (cls := cls) (names := names) (ic := ic) hown' hcls hnames h (fun x hx => nomatch hx) hfX hkX hcellA (by rw [hhp, hT]; exact Nat.le_refl _) (msg := .ref sa) rfl
    (g := { method := m, pc := pc + 6, locals := ls, stack := .ref sa :: .ref T.heap.size :: .ref T.heap.size :: rest, locked := none }) rfl hsize rfl rfl (rest := rest) rfl
    (by rw [hb]; exact d6) (by rw [hb]; exact d9) hout hRframes (by simp only [List.map_cons, List.sum_cons, hcat]; omega) hlocks
  obtain ⟨f1, f2⟩ := vx_frame hsame
  rw [hhp] at f1 f2
  have hWs : s.WarmedH U.vm := State.WarmedH.trans hW0 hW
  have hcl : s.vm.findClass cls = some ce.cls := by
    have h9 := hO.cls
    rw [hvm] at h9
    exact h9
  have hall : s.sameButNew ({ U with vm := s.vm } : State) locs mc ms := by
    subst hA
    obtain ⟨e1, e2⟩ := hsame
    rw [State.setFrames_setFrames] at e1
    have h2 : (T.setVm s.vm).sameButNew ({ U with vm := s.vm } : State) [] (0 + 1) (0 + 6) := ⟨e1, e2⟩
    have h3 := X.same.trans h2
    rw [List.append_nil] at h3
    exact h3.mono hc hs
  refine ⟨U, ?_, .threw T.heap.size, hrun, hend, Or.inr ⟨T.heap.size, rfl, cls, ce, locs, hx U hWs.alike f1 (fun q hq => f2 q hq (fun z hz => nomatch hz)), hce, hO.vm, hcl, hWs, hall, hf⟩⟩
  refine st1 _ ?_
  show Steps p.tables e below (T1.setTop { method := m, pc := pc + 3, locals := ls, stack := .ref T.heap.size :: rest, locked := none }) _
  jvm_step X₁.here [X₁.here.top, hexec, d3', Value.category]
  exact X₁.ldcString hexec (own := own) (text := text) (index := is) (a := sa) hown' hstr'.1 hstr'.2
    (g := { method := m, pc := pc + 4, locals := ls, stack := .ref T.heap.size :: .ref T.heap.size :: rest, locked := none }) rfl d4' _ hsteps
/-- 'throw new E("text")', the text by a wide index -/
theorem vx_throwSW {cc : ByteArray} {pc : Nat} (hexec : p.tables.exec = Jvm.exec) (hb : c.code = cc) (hl : l.stackTraces = false) {own cls text : String} {names : List String} {ik is ic mc ms sa : Nat} {A : Nat → Prop}
    (hown : s.vm.findClass own = some m.cls) (hcls : Bundle.fit cls = true) (hnames : ∀ n ∈ names, Bundle.fit n = true)
    (hk : (Cond.classLink own ik cls).before args s = true) (hini : (Cond.initialized cls).before args s = true) (hstr : vk_R own is text sa s) (hat : ∀ w ∈ vx_atS own ic cls names, w.before args s = true)
    (hgood : ∀ w ∈ Cond.classLink own ik cls :: Cond.initialized cls :: vx_atS own ic cls names, vx_ot w = true)
    (hU : vx_Zq Bundle.tN "UNASSIGNED_STACK" Bundle.steD A s s.heap) (hN : vx_Zq Bundle.tN "SUPPRESSED_SENTINEL" Bundle.listD A s s.heap) (hS : va_S A s.heap H locs) (hsize : ls.size = c.maxLocals)
    (d0 : decode cc pc = .ok (.new ik, 3)) (d3 : decode cc (pc + 3) = .ok (.dup, 1)) (d4 : decode cc (pc + 4) = .ok (.ldc_w is, 3)) (d7 : decode cc (pc + 7) = .ok (.invokespecial ic, 3)) (d10 : decode cc (pc + 10) = .ok (.athrow, 1))
    (hout : ∀ x ∈ c.exceptionTable.toList, covers x (pc + 10) = false)
    (hRframes : names.length + 3 < R.frames) (hRlocals : (rest.map fun v => v.category).sum + (13 * (names.length + 1) + 43) ≤ R.locals) (hRcells : cells + 1 ≤ R.cells) (hRslots : slots + 6 ≤ R.slots) (hlocks : meth.locks = false)
    (hx : ∀ t : State, s.vm.Alike t.vm → H.size ≤ t.heap.size → (∀ q : Nat, q < H.size → t.heap[q]? = H[q]?) → XC cls s t)
    (hf : ∀ z ∈ locs, free z.base) (hc : cells + 1 ≤ mc) (hs : slots + 6 ≤ ms) :
    W p l e R s m args below meth c H locs cells slots (vx_MQ below Qc XC args s mc ms free) (F0 m pc ls rest) := by
  intro T hT X
  have htr : e.platform.stackTraces = false := (show e.platform.stackTraces = l.stackTraces by rw [X.admits.platform]).trans hl
  have Y := vx_rebase X (R' := { frames := R.frames, locals := R.locals, cells := 1, slots := 6 }) (Nat.le_refl _) (Nat.le_refl _) hRcells hRslots
  obtain ⟨s', hA⟩ : ∃ z, z = (T.setVm s.vm).setFrames (.invoking m args :: below) := ⟨_, rfl⟩
  rw [← hA] at Y
  have hvm : s'.vm = s.vm := by rw [hA]; rfl
  have hhp : s'.heap = H := by rw [hA]; exact hT
  have hW0 : s.WarmedH s'.vm := by rw [hvm]; exact State.WarmedH.refl s
  have hat' : ∀ w ∈ vx_atS own ic cls names, w.before args s' = true := fun w hw => vx_ot_at hW0 hvm.symm (hgood w (List.mem_cons_of_mem _ (List.mem_cons_of_mem _ hw))) (hat w hw)
  have hk' : (Cond.classLink own ik cls).before args s' = true := vx_ot_at hW0 hvm.symm (hgood _ List.mem_cons_self) hk
  have hini' : (Cond.initialized cls).before args s' = true := vx_ot_at hW0 hvm.symm (hgood _ (List.mem_cons_of_mem _ List.mem_cons_self)) hini
  have hU' : vx_Zq Bundle.tN "UNASSIGNED_STACK" Bundle.steD A s' s'.heap := by rw [hhp]; exact vx_Zq.moved hW0.alike (hU.kept hS.2.1)
  have hN' : vx_Zq Bundle.tN "SUPPRESSED_SENTINEL" Bundle.listD A s' s'.heap := by rw [hhp]; exact vx_Zq.moved hW0.alike (hN.kept hS.2.1)
  have h : ∀ w ∈ Bundle.ownAtoms own ic cls names, w.before args s' = true := vx_own hat' (vx_isRefq hU'.1) (vx_isRefq hN'.1) hU'.2.word hN'.2.word
  have hown' : s'.vm.findClass own = some m.cls := by rw [hvm]; exact hown
  have hins : (Cond.instantiable cls 6).before args s' = true := h _ (by simp [Bundle.ownAtoms])
  obtain ⟨vm₁, cX, kX, hfX, hkX, -, -, X₁, st1⟩ := Y.newCold hexec (own := own) (C := cls) (index := ik) (n := 6) hown' hk' hins hini'
    (g := F0 m pc ls rest) rfl (by rw [hb]; exact d0) (Nat.le_refl _) (Nat.le_refl _)
  generalize hT1 : (T.setVm vm₁).pushCell { cls := cX, slots := kX.instanceTypes.map defaultValue, vm := .none } = T1 at X₁ st1
  have hcat : (Value.ref T.heap.size).category = 1 := rfl
  have hcellA : T1.heap[T.heap.size]? = some (freshCell cX kX) := by rw [← hT1]; exact State.heap_pushCell_size _ _
  have d3' : decode c.code (pc + 3) = .ok (.dup, 1) := by rw [hb]; exact d3
  have d4' : decode c.code (pc + 4) = .ok (.ldc_w is, 3) := by rw [hb]; exact d4
  have hstr' : vk_R own is text sa s' := vk_R.warm hW0 hstr
  obtain ⟨U, hsteps, hrun, hend, hW, hsame, ce, hce, hO⟩ := X₁.ctorThrowS hexec htr (own := own) (cls := cls) (names := names) (ic := ic) hown' hcls hnames h (fun x hx => nomatch hx) hfX hkX hcellA (by rw [hhp, hT]; exact Nat.le_refl _) (msg := .ref sa) rfl
    (g := { method := m, pc := pc + 7, locals := ls, stack := .ref sa :: .ref T.heap.size :: .ref T.heap.size :: rest, locked := none }) rfl hsize rfl rfl (rest := rest) rfl
    (by rw [hb]; exact d7) (by rw [hb]; exact d10) hout hRframes (by simp only [List.map_cons, List.sum_cons, hcat]; omega) hlocks
  obtain ⟨f1, f2⟩ := vx_frame hsame
  rw [hhp] at f1 f2
  have hWs : s.WarmedH U.vm := State.WarmedH.trans hW0 hW
  have hcl : s.vm.findClass cls = some ce.cls := by
    have h9 := hO.cls
    rw [hvm] at h9
    exact h9
  have hall : s.sameButNew ({ U with vm := s.vm } : State) locs mc ms := by
    subst hA
    obtain ⟨e1, e2⟩ := hsame
    rw [State.setFrames_setFrames] at e1
    have h2 : (T.setVm s.vm).sameButNew ({ U with vm := s.vm } : State) [] (0 + 1) (0 + 6) := ⟨e1, e2⟩
    have h3 := X.same.trans h2
    rw [List.append_nil] at h3
    exact h3.mono hc hs
  refine ⟨U, ?_, .threw T.heap.size, hrun, hend, Or.inr ⟨T.heap.size, rfl, cls, ce, locs, hx U hWs.alike f1 (fun q hq => f2 q hq (fun z hz => nomatch hz)), hce, hO.vm, hcl, hWs, hall, hf⟩⟩
  refine st1 _ ?_
  show Steps p.tables e below (T1.setTop { method := m, pc := pc + 3, locals := ls, stack := .ref T.heap.size :: rest, locked := none }) _
  jvm_step X₁.here [X₁.here.top, hexec, d3', Value.category]
  exact X₁.ldcStringW hexec (own := own) (text := text) (index := is) (a := sa) hown' hstr'.1 hstr'.2
    (g := { method := m, pc := pc + 4, locals := ls, stack := .ref T.heap.size :: .ref T.heap.size :: rest, locked := none }) rfl d4' _ hsteps
end Ends
section Bodies
variable {l : Launch}
theorem vx_ofW {y : MethodName} {ws ws' : List Cond} {rm : Room} {Pc : Array Value → State → Prop} {Qc : Array Value → State → Outcome → State → Prop} {XC : String → State → State → Prop} {mc ms : Nat} {free : Addr → Prop} {cc : ByteArray} {maxL : Nat} {ret : Option FieldType}
    (hy : plainName y.cls = true) (hw : ws = Cond.code y cc maxL ret :: ws')
    (body : ∀ p e s m args below meth c s₁, BodyLoose p l y (headSpec ws rm) cc maxL ret e s m args below meth c s₁ → c.maxLocals = maxL → (∀ x ∈ c.exceptionTable.toList, False) → Pc args s →
      W p l e (headSpec ws rm).room s m args below meth c s.heap [] 0 0 (vx_MQ below Qc XC args s mc ms free) (entryFrame m args maxL)) : vx_Met l y ws rm Pc Qc XC mc ms free := by
  refine MetFree.of_bodyS (code := cc) (maxLocals := maxL) (ret := ret) hy ?_ ?_
  · intro args s m h hn
    obtain ⟨meth, c, h1, h2, h3, h4, h5, h6, -, -⟩ := Cond.code_spec hn (atoms_spec (ws := ws) h _ (by rw [hw]; exact List.mem_cons_self))
    exact ⟨meth, c, h1, h2, h3, h4, h5, h6⟩
  · intro p e s m args below meth c s₁ B hml hP _
    have hh0 : s₁.heap = s.heap := by rw [B.state]; rfl
    have ht : ∀ x ∈ c.exceptionTable.toList, False := by
      obtain ⟨meth9, c9, h1, h2, -, -, -, -, h7, -⟩ := Cond.code_spec B.named (atoms_spec (ws := ws) B.pre _ (by rw [hw]; exact List.mem_cons_self))
      cases Option.some.inj (h1.symm.trans B.method)
      cases Option.some.inj (h2.symm.trans (Stand.of_body B).code)
      intro x hx
      rw [Array.isEmpty_iff.mp h7] at hx
      cases hx
    obtain ⟨t, a1, o, b1, b2, b3⟩ := body p e s m args below meth c s₁ B hml ht hP s₁ hh0 (Stand.of_body B)
    exact ⟨t, o, a1, b1, b2, b3⟩
/-- the table of a body with handlers -/
theorem vx_table {p : Program} {x y : MethodName} {S : Spec} {cc bytes : ByteArray} {maxL maxL' : Nat} {ret ret' : Option FieldType} {e : Env} {s s₁ : State} {m : MethodId} {args : Array Value} {below : List Frame} {meth : Method} {c : Code} {hh : List (Nat × Nat × Nat × Nat)}
    (B : BodyLoose p l y S cc maxL ret e s m args below meth c s₁) (h : (Cond.codeWith y bytes maxL' ret' hh).before args s = true) : c.exceptionTable.toList = tableOf hh := by
  obtain ⟨m9, meth9, c9, hn9, h1, h2, -, -, h6, -⟩ := Cond.codeWith_spec h
  cases Option.some.inj (hn9.symm.trans B.named)
  cases Option.some.inj (h1.symm.trans B.method)
  cases Option.some.inj (h2.symm.trans (Stand.of_body B).code)
  rw [← h6, table_eq]
end Bodies
end VXA
/-! ===== END ===== -/
/-! ===== BEGIN a static call of a method with an exception table ===== -/
section VXS
variable {p : Program} {l : Launch} {e : Env} {R : Room} {s : State} {m : MethodId} {args : Array Value} {below : List Frame} {meth : Method} {c : Code} {T : State} {H : Heap} {locs : List Loc} {cells slots : Nat}
abbrev vx_CSW (R : Room) (s : State) (args : Array Value) (own : String) (index : Nat) (y : MethodName) (bytes : ByteArray) (maxL : Nat) (ret : Option FieldType) (hh : List (Nat × Nat × Nat × Nat)) (ws : List Cond) (rm : Room) (mc ms n : Nat) : Prop :=
  (rm.cells = mc ∧ rm.slots = ms ∧ rm.frames + 1 ≤ R.frames ∧ 8 + (maxL + 11) + rm.locals ≤ R.locals ∧ (∀ w ∈ ws, ∀ (a' : Array Value) (U : State), s.WarmedH U.vm → w.before a' U = true) ∧ Cond.codeWith y bytes maxL ret hh ∈ ws) ∧
  (Cond.codeWith y bytes maxL ret hh).before args s = true ∧ (Cond.initialized y.cls).before args s = true ∧ (y.cls ≠ "java/lang/invoke/MethodHandle" ∧ y.cls ≠ "java/lang/invoke/VarHandle") ∧
  (∀ sig, parseMethodDescriptor y.desc = some sig → n = sig.parameters.length) ∧ (Cond.methodLink own index y).before args s = true ∧ (Cond.static y).before args s = true
theorem vx_cwSW {own : String} {index maxL mc ms : Nat} {y : MethodName} {bytes : ByteArray} {ret : Option FieldType} {hh : List (Nat × Nat × Nat × Nat)} {Ts ws ws' : List Cond} {rm : Room} (n : Nat) (ht : ∀ w ∈ Ts, w.before args s = true) (hT : GoodIn Ts (va_wsS own index y ws)) (hw : ws = Cond.codeWith y bytes maxL ret hh :: ws') (hrc : rm.cells = mc) (hrs : rm.slots = ms)
    (hd : y.cls ≠ "java/lang/invoke/MethodHandle" ∧ y.cls ≠ "java/lang/invoke/VarHandle" ∧ (parseMethodDescriptor y.desc).map (fun d => d.parameters.length) = some n) (hR : rm.frames + 1 ≤ R.frames ∧ 8 + (maxL + 11) + rm.locals ≤ R.locals) :
    vx_CSW R s args own index y bytes maxL ret hh ws rm mc ms n := by
  have ok : ∀ w ∈ va_wsS own index y ws, w.before args s = true := fun w h => ht w (hT w h).1
  have hG : GoodIn Ts ws := fun w h => hT w (by unfold va_wsS; exact List.mem_append_right _ h)
  have hc : Cond.codeWith y bytes maxL ret hh ∈ ws := by rw [hw]; exact List.mem_cons_self
  refine ⟨⟨hrc, hrs, hR.1, hR.2, pay_in ht hG, hc⟩, ht _ (hG _ hc).1, ok _ (by simp [va_wsS]), ⟨hd.1, hd.2.1⟩, fun sig h => ?_, ok _ (by simp [va_wsS]), ok _ (by simp [va_wsS])⟩
  have h2 := hd.2.2
  rw [h] at h2
  exact (Option.some.inj h2).symm
theorem vx_callSW (X : Stand p l e R s m args below meth c T locs cells slots) (hexec : p.tables.exec = Jvm.exec) {own : String} {index : Nat} {y : MethodName} {bytes : ByteArray} {maxL : Nat} {ret : Option FieldType} {hh : List (Nat × Nat × Nat × Nat)}
    (hown : s.vm.findClass own = some m.cls) (hlink : (Cond.methodLink own index y).before args s = true) (hstat : (Cond.static y).before args s = true) (hinit : (Cond.initialized y.cls).before args s = true)
    (hcode : (Cond.codeWith y bytes maxL ret hh).before args s = true) (hy : y.cls ≠ "java/lang/invoke/MethodHandle" ∧ y.cls ≠ "java/lang/invoke/VarHandle")
    {W9 : Nat} {Pre : Pt → Array Value → Prop} {Post : Pt → Array Value → Option Value → Pt → Prop} (hK : Back l R p e below s args y 3 W9 Pre Post)
    {g : JFrame} (hg : g.method = m) (hsize : g.locals.size = c.maxLocals) {argsL rest : List Value} (hlen : ∀ sig, parseMethodDescriptor y.desc = some sig → argsL.length = sig.parameters.length)
    (hstack : g.stack = argsL.reverse ++ rest) (hW : 2 * g.monitorRoom + (rest.map fun v => v.category).sum ≤ W9) (hdg : decode c.code g.pc = .ok (.invokestatic index, 3))
    (hpre : ∀ vm₁, s.WarmedH vm₁ → Pre ⟨T.setVm vm₁, locs, cells, slots⟩ argsL.toArray) :
    ∃ (v : Option Value) (vm₁ : Vm) (B : Pt), s.WarmedH vm₁ ∧ Stand p l e R s m args below meth c B.U B.locs B.cells B.slots ∧ Post ⟨T.setVm vm₁, locs, cells, slots⟩ argsL.toArray v B ∧
      ∀ target, Steps p.tables e below (B.U.setTop { g with pc := g.pc + 3, stack := v.toList ++ rest }) target → Steps p.tables e below (T.setTop g) target := by
  obtain ⟨mk, methM, cM, hnamed, hmethM, -, -, -, -, -, -, hsigM⟩ := Cond.codeWith_spec hcode
  have hstatic : methM.isStatic = true := Cond.static_spec hnamed hmethM hstat
  obtain ⟨kP, hkP, -⟩ := className_of_methodNamed hnamed
  have hinitP : kP.init = .initialized := Cond.initialized_spec (findClass_of_methodNamed hnamed) hkP hinit
  obtain ⟨vm₁, X₁, hstep₁⟩ := X.invokestatic hexec hown hlink hnamed hmethM hstatic hkP hinitP hy (g := g) hg (argsL := argsL) (rest := rest) (hlen _ hsigM) hstack hdg
  obtain ⟨v, B, X', hpost, hsteps⟩ := hK m meth c ⟨T.setVm vm₁, locs, cells, slots⟩ { g with stack := rest } (.invokestatic index) mk argsL.toArray X₁ hg hsize hdg hW (X₁.named hnamed) (hpre vm₁ X₁.warmed)
  exact ⟨v, vm₁, B, X₁.warmed, X', hpost, fun target h => hstep₁ _ fun acts => by rw [doInvoke_state]; exact hsteps.trans h⟩
theorem vx_runSW {y : MethodName} {bytes cc : ByteArray} {maxL nL mc ms n index : Nat} {ret : Option FieldType} {hh : List (Nat × Nat × Nat × Nat)} {ws : List Cond} {rm : Room} {Pc : Array Value → State → Prop} {Qc : Array Value → State → Outcome → State → Prop} {free : Addr → Prop} {Ts : List Cond} {own : String} {As rest : List Value} {g : JFrame}
    (S : CallFix p m c cc nL s args Ts own) (hM : Met l y ws rm Pc Qc mc ms free) (cw : vx_CSW R s args own index y bytes maxL ret hh ws rm mc ms n) (hp : PreS s H Pc As)
    (hg : g.method = m) (hn : As.length = n) (hsize : g.locals.size = nL) (hstack : g.stack = As.reverse ++ rest) (hW : 2 * g.monitorRoom + (rest.map fun v => v.category).sum ≤ 8) (hdg : decode cc g.pc = .ok (.invokestatic index, 3)) (hf : cells + mc ≤ R.cells ∧ slots + ms ≤ R.slots) :
    va_Run p l e R s m args below meth c H locs cells slots mc ms g rest (Qc As.toArray) (free) := by
  obtain ⟨⟨hrc, hrs, hfr, hlo, hws, hcw⟩, hcode, hini, hy, hlen, hl, hstt⟩ := cw
  have hK : Back l R p e below s args y 3 8 (PreOf R mc ms Pc) (PostOf Qc mc ms free) := va_backW (hh := hh) (bytes := bytes) (maxL := maxL) (ret := ret) hM hp.1 hrc hrs hfr hlo hws hcw (fun a' U hW => word_at hW (Or.inl (by first | rfl | simp [Cond.onTables, Cond.keeps, Cond.steady])) hini)
  obtain ⟨hx, hb, hml, ho, -⟩ := S
  intro T hT X
  obtain ⟨v, vm₁, ⟨U', l2, c2, s2⟩, hW₁, X', ⟨g', mk, t, L, e1, e2, hq, h1, hL, h2, h3⟩, st⟩ := vx_callSW X hx (hh := hh) (bytes := bytes) (maxL := maxL) (ret := ret) ho hl hstt hini hcode hy hK hg (hsize.trans hml.symm) (argsL := As) (rest := rest) (fun sig h => hn.trans (hlen sig h)) hstack hW (by rw [hb]; exact hdg)
    (fun vm₁ hW₁ => ⟨hf.1, hf.2, hp.2 (T.setVm vm₁) hT hW₁⟩)
  dsimp only [Pt.U, Pt.locs, Pt.cells, Pt.slots] at X' e1 e2 h1 h2 h3 st
  subst h1; subst h2; subst h3
  exact ⟨v, (T.setVm vm₁).calling g' mk As.toArray, t, U', L, hT, X', hL, e1, e2, hq, st⟩
/-- not caught here, past rows that name other classes: it goes on to the caller -/
theorem vx_outP {p : Program} {l : Launch} {e : Env} {R : Room} {s : State} {m : MethodId} {args : Array Value} {below : List Frame} {meth : Method} {c : Code} {H : Heap} {locs : List Loc} {cells slots : Nat} {free : Addr → Prop} {ls : Array Slot} {rest : List Value} {Qc : Array Value → State → Outcome → State → Prop} {XC : String → State → State → Prop}
    {pc : Nat} {own E : String} {ce : Cell} {q : Addr} {mc ms : Nat} (hown : s.vm.findClass own = some m.cls) (hlocks : meth.locks = false)
    (hpass : ∀ z ∈ c.exceptionTable.toList, covers z pc = false ∨ (z.catchType ≠ 0 ∧ ∃ nm : String, (Cond.classLink own z.catchType nm).before args s = true ∧ va_Nc E nm s)) (hcell : H[q]? = some ce) (hv : ce.vm = .none) (hcl : s.vm.findClass E = some ce.cls)
    (hx : ∀ t : State, t.heap = H → s.vm.Alike t.vm → XC E s t) (hf : ∀ z ∈ locs, free z.base) (hc : cells ≤ mc) (hs : slots ≤ ms) :
    vx_W p l e R s m args below meth c H locs cells slots (vx_MQ below Qc XC args s mc ms free) (F0 m pc ls rest) q := by
  intro T hT X
  have hpl : e.platform.magicAccessors = ({} : Platform).magicAccessors := by rw [X.admits.platform]
  obtain ⟨vm', hW', X', st⟩ := X.outThrough hlocks q (g := F0 m pc ls rest) rfl rfl rfl (cell := ce) (by rw [hT]; exact hcell) (by rw [hv]; rfl)
    (by obtain ⟨k9, h9, -⟩ := Vm.findClass_spec hcl; exact ⟨k9, h9⟩) (fun z hz => by
      rcases hpass z hz with h | ⟨hz0, nm, hl1, hn1⟩
      · exact Or.inl h
      · obtain ⟨c6, hc6, hcl6⟩ := Cond.classLink_spec hown hl1 e.platform hpl
        obtain ⟨a8, b8, h1, h2, h3⟩ := hn1
        cases Option.some.inj (h1.symm.trans hcl)
        cases Option.some.inj (h2.symm.trans hc6)
        exact Or.inr ⟨hz0, _, hcl6, h3⟩)
  obtain ⟨g₀, hfr⟩ := X'.frames_eq
  have hcell9 : ((T.setVm vm').setFrames (.throwing q :: below)).heap[q]? = some ce := by
    show T.heap[q]? = some ce
    rw [hT]; exact hcell
  have hend : Ended ((T.setVm vm').setFrames (.throwing q :: below)) below (.threw q) := State.frames_setFrames _ (State.cur_lt_of_frames hfr)
  refine ⟨(T.setVm vm').setFrames (.throwing q :: below), ?_, .threw q, X'.here.running, hend, Or.inr ⟨q, rfl, E, ce, locs, hx _ hT (X'.ends _).1.alike, hcell9, hv, hcl, (X'.ends _).1, (X'.ends _).2.mono hc hs, hf⟩⟩
  rw [X.pushThrowing_eq]
  exact st
/-- a thing of a world lies in the heap -/
theorem vx_lt {D : va_G} {cl : List vw_C} {ws : va_W} {H1 : Heap} (h : va_P D cl ws H1) {k : Nat} {q : Nat × va_E} (hk : ws[k]? = some q) : q.1 < H1.size := (h k q hk).lt
end VXS
/-! ===== END ===== -/
/-! ===== BEGIN methods with a table of their own: called by a name, returning or throwing ===== -/
section VXH
/-! vx_backW, vx_callVX, vx_callSX, vx_callVW, vx_runVW, vx_runVX, vx_runSX, vx_ofWH follow the same proofs as their sisters above (Free/Laws.lean, Shelf42/LK1.lean); vx_outP calls Shelf42/NT130.lean (outThrough). -/
section
variable {l : Launch} {R : Room} {p : Program} {e : Env} {below : List Frame} {s : State} {sargs : Array Value} {y : MethodName} {len W9 : Nat}
theorem vx_backW {ws : List Cond} {rm : Room} {Pc : Array Value → State → Prop} {Qc : Array Value → State → Outcome → State → Prop} {XC : String → State → State → Prop} {mc ms : Nat} {free : Addr → Prop} {bytes : ByteArray} {maxL : Nat} {ret : Option FieldType} {hh : List (Nat × Nat × Nat × Nat)}
    (hM : vx_Met l y ws rm Pc Qc XC mc ms free) (hblind : FrameBlind Pc) (hrc : rm.cells = mc) (hrs : rm.slots = ms)
    (hframes : rm.frames + 1 ≤ R.frames) (hlocals : W9 + (maxL + 11) + rm.locals ≤ R.locals)
    (hws : ∀ w ∈ ws, ∀ a' U, s.WarmedH U.vm → w.before a' U = true) (hcode : Cond.codeWith y bytes maxL ret hh ∈ ws) (hinit : ∀ a' U, s.WarmedH U.vm → (Cond.initialized y.cls).before a' U = true) :
    vx_Back l R p e below s sargs y len W9 (PreOf R mc ms Pc) (PostOf Qc mc ms free) (vx_Post XC mc ms free) := by
  intro m meth c A g ig mk a X hg hsize hdg hW hn hp
  have h1 : (headSpec ws rm).pre.before a A.U = true := atoms_intro fun w hw => hws w hw _ _ X.warmed
  have h2 : (Cond.codeWith y bytes maxL ret hh).before a A.U = true := hws _ hcode _ _ X.warmed
  have h3 : (Cond.initialized y.cls).before a A.U = true := hinit _ _ X.warmed
  have h4 : A.cells + (headSpec ws rm).room.cells ≤ R.cells := by rw [show (headSpec ws rm).room.cells = mc from hrc]; exact hp.1
  have h5 : A.slots + (headSpec ws rm).room.slots ≤ R.slots := by rw [show (headSpec ws rm).room.slots = ms from hrs]; exact hp.2.1
  have hPc : Pc a (A.U.calling g mk a) := hblind _ _ _ _ hp.2.2
  obtain ⟨U, Ls, c0, s0⟩ := A
  dsimp only [Pt.U, Pt.locs, Pt.cells, Pt.slots] at h1 h2 h3 h4 h5 X hn hPc ⊢
  obtain ⟨m9, methY, cY, hn9, hmY, hcY, -, hlY, -⟩ := Cond.codeWith_spec h2
  cases Option.some.inj (hn9.symm.trans hn)
  obtain ⟨kY, hkY, -⟩ := className_of_methodNamed hn
  have hinitY : kY.init = .initialized := Cond.initialized_spec (findClass_of_methodNamed hn) hkY h3
  have h : At U g.method c below := by rw [hg]; exact X.here
  have hlocals9 : W9 + (maxL + 11) + (headSpec ws rm).room.locals ≤ R.locals := hlocals
  have happ : (headSpec ws rm).appliesLoose y e.platform (U.calling g mk a) = true :=
    Spec.appliesLoose_calling (g := g) h hdg hn hkY hinitY
      (X.room_calling (g := g) (R' := (headSpec ws rm).room) hsize hmY hcY hframes (by rw [hlY]; omega) h4 h5) h1
  obtain ⟨mid, hmid⟩ := h.above
  have hfr : (U.setTop g).frames = (.java g :: mid) ++ below := by rw [State.frames_setTop' g h.top, hmid]; rfl
  obtain ⟨o, s₂, hsteps, -, hend, hq⟩ := Steps.callFree hM p X.admits X.cas X.clock (acts := []) hfr happ hPc trivial
  have hq' : vx_Q Qc XC mc ms free a (U.calling g mk a) o s₂ := hq
  rw [State.frames_setTop' g h.top] at hend
  obtain ⟨g₀, hg0⟩ := Option.isSome_iff_exists.mp h.top
  obtain ⟨r, hr⟩ := State.topJava?_eq_some.mp hg0
  have hr' : (({ U with heap := s₂.heap, slotsUsed := s₂.slotsUsed } : State).setVm s₂.vm).frames = .java g₀ :: r := hr
  rcases hq' with ⟨hqc, L, hfe, hL⟩ | ⟨q, rfl, E, ce, L, hx, hce, hcv, hcl, hW₂, hsm, hL⟩
  · obtain ⟨⟨v, rfl⟩, hW₂, e2, q2, q3, q4, q5, q6⟩ := id hfe
    have e3 : s₂ = ({ (U.calling g mk a).setFrames s₂.frames with heap := s₂.heap, slotsUsed := s₂.slotsUsed } : State).setVm s₂.vm := by
      have : s₂ = ({ s₂ with vm := (U.calling g mk a).vm } : State).setVm s₂.vm := rfl
      rw [e2] at this
      exact this
    obtain ⟨c₂, i₂, len₂, hc₂, hd₂, hf₂⟩ := hend
    have hW' : U.WarmedH s₂.vm := hW₂
    have hcc : c₂ = c := by
      have h1 : s₂.code? g.method = U.code? g.method := by
        rw [State.code?_eq, State.code?_eq, hW'.alike.method?]
      exact Option.some.inj (hc₂.symm.trans (h1.trans h.code))
    subst hcc
    have hlen : len₂ = len := by rw [hdg] at hd₂; cases hd₂; rfl
    subst hlen
    have hs₂ : s₂ = (({ U with heap := s₂.heap, slotsUsed := s₂.slotsUsed } : State).setVm s₂.vm).setTop { g with pc := g.pc + len₂, stack := v.toList ++ g.stack } := by
      refine e3.trans ?_
      rw [hf₂, State.calling_eq h.top, State.setFrames_setFrames, State.setTop_of_frames _ hr', hr]
      rfl
    have hsame : U.sameButNew ({ U with heap := s₂.heap, slotsUsed := s₂.slotsUsed } : State) L mc ms := by
      refine ⟨?_, q2, q3, q4, q5, q6⟩
      obtain ⟨t, ht, -⟩ := State.frames_cons hr
      show ({ U with heap := s₂.heap, slotsUsed := s₂.slotsUsed } : State) = { U.setFrames U.frames with heap := s₂.heap, slotsUsed := s₂.slotsUsed }
      rw [State.setFrames_self ht]
    subst hg
    refine Or.inl ⟨v, ⟨(({ U with heap := s₂.heap, slotsUsed := s₂.slotsUsed } : State).setVm s₂.vm), Ls ++ L, c0 + mc, s0 + ms⟩,
      ⟨X.admits, X.cas, X.clock, X.frames, X.room, X.hears, X.method, X.code, (X.here.setHeapUsed s₂.heap s₂.slotsUsed).setVm hW'.alike, X.tail, State.WarmedH.trans X.warmed hW', X.limits, X.bytes, X.same.trans (hsame.setVm s.vm)⟩,
      ⟨g, mk, s₂, L, rfl, rfl, hqc, rfl, hL, rfl, rfl⟩, ?_⟩
    show Steps p.tables e below _ ((({ U with heap := s₂.heap, slotsUsed := s₂.slotsUsed } : State).setVm s₂.vm).setTop { g with pc := g.pc + len₂, stack := v.toList ++ g.stack })
    rw [← hs₂]
    exact hsteps
  · obtain ⟨e2, q2, q3, q4, q5, q6⟩ := id hsm
    have e3 : s₂ = ({ (U.calling g mk a).setFrames s₂.frames with heap := s₂.heap, slotsUsed := s₂.slotsUsed } : State).setVm s₂.vm := by
      have : s₂ = ({ s₂ with vm := (U.calling g mk a).vm } : State).setVm s₂.vm := rfl
      rw [e2] at this
      exact this
    have hf₂ : s₂.frames = .throwing q :: .java g :: U.frames.tail := hend
    have hW' : U.WarmedH s₂.vm := hW₂
    have hs₂ : s₂ = ((({ U with heap := s₂.heap, slotsUsed := s₂.slotsUsed } : State).setVm s₂.vm).setTop g).pushFrame (.throwing q) := by
      refine e3.trans ?_
      rw [hf₂, State.calling_eq h.top, State.setFrames_setFrames, State.pushFrame, State.frames_setTop _ hr', State.setTop_of_frames _ hr', State.setFrames_setFrames, hr]
      rfl
    have hsame : U.sameButNew ({ U with heap := s₂.heap, slotsUsed := s₂.slotsUsed } : State) L mc ms := by
      refine ⟨?_, q2, q3, q4, q5, q6⟩
      obtain ⟨t, ht, -⟩ := State.frames_cons hr
      show ({ U with heap := s₂.heap, slotsUsed := s₂.slotsUsed } : State) = { U.setFrames U.frames with heap := s₂.heap, slotsUsed := s₂.slotsUsed }
      rw [State.setFrames_self ht]
    subst hg
    refine Or.inr ⟨q, ⟨(({ U with heap := s₂.heap, slotsUsed := s₂.slotsUsed } : State).setVm s₂.vm), Ls ++ L, c0 + mc, s0 + ms⟩,
      ⟨X.admits, X.cas, X.clock, X.frames, X.room, X.hears, X.method, X.code, (X.here.setHeapUsed s₂.heap s₂.slotsUsed).setVm hW'.alike, X.tail, State.WarmedH.trans X.warmed hW', X.limits, X.bytes, X.same.trans (hsame.setVm s.vm)⟩,
      ⟨g, mk, s₂, L, E, ce, rfl, rfl, hx, hce, hcv, hcl, rfl, hL, rfl, rfl⟩, ?_⟩
    show Steps p.tables e below _ (((({ U with heap := s₂.heap, slotsUsed := s₂.slotsUsed } : State).setVm s₂.vm).setTop g).pushFrame (.throwing q))
    rw [← hs₂]
    exact hsteps
end
variable {p : Program} {l : Launch} {e : Env} {R : Room} {s : State} {m : MethodId} {args : Array Value} {below : List Frame} {meth : Method} {c : Code} {T : State} {H : Heap} {locs : List Loc} {cells slots : Nat}
theorem vx_callVX (X : Stand p l e R s m args below meth c T locs cells slots) (hexec : p.tables.exec = Jvm.exec) {own C : String} {index : Nat} {y : MethodName} {bytes : ByteArray} {maxL : Nat} {ret : Option FieldType} {hh : List (Nat × Nat × Nat × Nat)}
    (hown : s.vm.findClass own = some m.cls) (hlink : (Cond.methodLink own index y).before args s = true) (hinst : (Cond.instanceMethod y).before args s = true) (hsel : (Cond.selects C y y).before args s = true)
    (hcode : (Cond.codeWith y bytes maxL ret hh).before args s = true) (hy : y.cls ≠ "java/lang/invoke/MethodHandle" ∧ y.cls ≠ "java/lang/invoke/VarHandle")
    {W9 : Nat} {Pre : Pt → Array Value → Prop} {Post : Pt → Array Value → Option Value → Pt → Prop} {PostX : Pt → Array Value → Addr → Pt → Prop} (hK : vx_Back l R p e below s args y 3 W9 Pre Post PostX)
    {b : Addr} {cellB : Cell} (hcell : T.heap[b]? = some cellB) (hobj : cellB.vm.isStatics = false) (hcls : s.vm.findClass C = some cellB.cls)
    {g : JFrame} (hg : g.method = m) (hsize : g.locals.size = c.maxLocals) {argsL rest : List Value} (hlen : ∀ sig, parseMethodDescriptor y.desc = some sig → argsL.length = sig.parameters.length)
    (hstack : g.stack = argsL.reverse ++ .ref b :: rest) (hW : 2 * g.monitorRoom + (rest.map fun v => v.category).sum ≤ W9) (hdg : decode c.code g.pc = .ok (.invokevirtual index, 3))
    (hpre : ∀ vm₁, s.WarmedH vm₁ → Pre ⟨T.setVm vm₁, locs, cells, slots⟩ (Value.ref b :: argsL).toArray) :
    (∃ (v : Option Value) (vm₁ : Vm) (B : Pt), s.WarmedH vm₁ ∧ Stand p l e R s m args below meth c B.U B.locs B.cells B.slots ∧ Post ⟨T.setVm vm₁, locs, cells, slots⟩ (Value.ref b :: argsL).toArray v B ∧
      ∀ target, Steps p.tables e below (B.U.setTop { g with pc := g.pc + 3, stack := v.toList ++ rest }) target → Steps p.tables e below (T.setTop g) target) ∨
    (∃ (q : Addr) (vm₁ : Vm) (B : Pt), s.WarmedH vm₁ ∧ Stand p l e R s m args below meth c B.U B.locs B.cells B.slots ∧ PostX ⟨T.setVm vm₁, locs, cells, slots⟩ (Value.ref b :: argsL).toArray q B ∧
      Steps p.tables e below (T.setTop g) ((B.U.setTop { g with stack := rest }).pushFrame (.throwing q))) := by
  obtain ⟨mk, methM, hnamed, hmethM, hstM, habM⟩ := Cond.instanceMethod_spec hinst
  obtain ⟨m8, methM', cM, hn8, hmethM', -, -, -, -, -, -, hsigM⟩ := Cond.codeWith_spec hcode
  cases Option.some.inj (hn8.symm.trans hnamed)
  cases hmethM.symm.trans hmethM'
  obtain ⟨c2, r2, m2, q1, q2, q3, q4, kP, hkP, hkPi⟩ := Cond.selects_spec hsel
  cases hcls.symm.trans q1
  cases (State.methodFound?_of_named hnamed hy).symm.trans q2
  cases hnamed.symm.trans q3
  have hselP : selectMethod e.platform s.vm cellB.cls mk = .method mk := by rw [Launch.admits_selectMethod X.admits]; exact q4
  obtain ⟨vm₁, X₁, hstep₁⟩ := X.invokevirtual hexec hown hlink hnamed hmethM hstM hkP hkPi hy (a := b) (cell := cellB) hcell
    (fun z h => by rw [h] at hobj; cases hobj) hselP hmethM habM hkP hkPi (g := g) hg (argsL := argsL) (rest := rest) (hlen _ hsigM) hstack hdg
  rcases hK m meth c ⟨T.setVm vm₁, locs, cells, slots⟩ { g with stack := rest } (.invokevirtual index) mk (Value.ref b :: argsL).toArray X₁ hg hsize hdg hW (X₁.named hnamed) (hpre vm₁ X₁.warmed) with ⟨v, B, X', hpost, hsteps⟩ | ⟨q, B, X', hpost, hsteps⟩
  · exact Or.inl ⟨v, vm₁, B, X₁.warmed, X', hpost, fun target h => hstep₁ _ fun acts => by rw [doInvoke_state]; exact hsteps.trans h⟩
  · exact Or.inr ⟨q, vm₁, B, X₁.warmed, X', hpost, hstep₁ _ fun acts => by rw [doInvoke_state]; exact hsteps⟩
theorem vx_callSX (X : Stand p l e R s m args below meth c T locs cells slots) (hexec : p.tables.exec = Jvm.exec) {own : String} {index : Nat} {y : MethodName} {bytes : ByteArray} {maxL : Nat} {ret : Option FieldType} {hh : List (Nat × Nat × Nat × Nat)}
    (hown : s.vm.findClass own = some m.cls) (hlink : (Cond.methodLink own index y).before args s = true) (hstat : (Cond.static y).before args s = true) (hinit : (Cond.initialized y.cls).before args s = true)
    (hcode : (Cond.codeWith y bytes maxL ret hh).before args s = true) (hy : y.cls ≠ "java/lang/invoke/MethodHandle" ∧ y.cls ≠ "java/lang/invoke/VarHandle")
    {W9 : Nat} {Pre : Pt → Array Value → Prop} {Post : Pt → Array Value → Option Value → Pt → Prop} {PostX : Pt → Array Value → Addr → Pt → Prop} (hK : vx_Back l R p e below s args y 3 W9 Pre Post PostX)
    {g : JFrame} (hg : g.method = m) (hsize : g.locals.size = c.maxLocals) {argsL rest : List Value} (hlen : ∀ sig, parseMethodDescriptor y.desc = some sig → argsL.length = sig.parameters.length)
    (hstack : g.stack = argsL.reverse ++ rest) (hW : 2 * g.monitorRoom + (rest.map fun v => v.category).sum ≤ W9) (hdg : decode c.code g.pc = .ok (.invokestatic index, 3))
    (hpre : ∀ vm₁, s.WarmedH vm₁ → Pre ⟨T.setVm vm₁, locs, cells, slots⟩ argsL.toArray) :
    (∃ (v : Option Value) (vm₁ : Vm) (B : Pt), s.WarmedH vm₁ ∧ Stand p l e R s m args below meth c B.U B.locs B.cells B.slots ∧ Post ⟨T.setVm vm₁, locs, cells, slots⟩ argsL.toArray v B ∧
      ∀ target, Steps p.tables e below (B.U.setTop { g with pc := g.pc + 3, stack := v.toList ++ rest }) target → Steps p.tables e below (T.setTop g) target) ∨
    (∃ (q : Addr) (vm₁ : Vm) (B : Pt), s.WarmedH vm₁ ∧ Stand p l e R s m args below meth c B.U B.locs B.cells B.slots ∧ PostX ⟨T.setVm vm₁, locs, cells, slots⟩ argsL.toArray q B ∧
      Steps p.tables e below (T.setTop g) ((B.U.setTop { g with stack := rest }).pushFrame (.throwing q))) := by
  obtain ⟨mk, methM, cM, hnamed, hmethM, -, -, -, -, -, -, hsigM⟩ := Cond.codeWith_spec hcode
  have hstatic : methM.isStatic = true := Cond.static_spec hnamed hmethM hstat
  obtain ⟨kP, hkP, -⟩ := className_of_methodNamed hnamed
  have hinitP : kP.init = .initialized := Cond.initialized_spec (findClass_of_methodNamed hnamed) hkP hinit
  obtain ⟨vm₁, X₁, hstep₁⟩ := X.invokestatic hexec hown hlink hnamed hmethM hstatic hkP hinitP hy (g := g) hg (argsL := argsL) (rest := rest) (hlen _ hsigM) hstack hdg
  rcases hK m meth c ⟨T.setVm vm₁, locs, cells, slots⟩ { g with stack := rest } (.invokestatic index) mk argsL.toArray X₁ hg hsize hdg hW (X₁.named hnamed) (hpre vm₁ X₁.warmed) with ⟨v, B, X', hpost, hsteps⟩ | ⟨q, B, X', hpost, hsteps⟩
  · exact Or.inl ⟨v, vm₁, B, X₁.warmed, X', hpost, fun target h => hstep₁ _ fun acts => by rw [doInvoke_state]; exact hsteps.trans h⟩
  · exact Or.inr ⟨q, vm₁, B, X₁.warmed, X', hpost, hstep₁ _ fun acts => by rw [doInvoke_state]; exact hsteps⟩
theorem vx_callVW (X : Stand p l e R s m args below meth c T locs cells slots) (hexec : p.tables.exec = Jvm.exec) {own C : String} {index : Nat} {y : MethodName} {bytes : ByteArray} {maxL : Nat} {ret : Option FieldType} {hh : List (Nat × Nat × Nat × Nat)}
    (hown : s.vm.findClass own = some m.cls) (hlink : (Cond.methodLink own index y).before args s = true) (hinst : (Cond.instanceMethod y).before args s = true) (hsel : (Cond.selects C y y).before args s = true)
    (hcode : (Cond.codeWith y bytes maxL ret hh).before args s = true) (hy : y.cls ≠ "java/lang/invoke/MethodHandle" ∧ y.cls ≠ "java/lang/invoke/VarHandle")
    {W9 : Nat} {Pre : Pt → Array Value → Prop} {Post : Pt → Array Value → Option Value → Pt → Prop} (hK : Back l R p e below s args y 3 W9 Pre Post)
    {b : Addr} {cellB : Cell} (hcell : T.heap[b]? = some cellB) (hobj : cellB.vm.isStatics = false) (hcls : s.vm.findClass C = some cellB.cls)
    {g : JFrame} (hg : g.method = m) (hsize : g.locals.size = c.maxLocals) {argsL rest : List Value} (hlen : ∀ sig, parseMethodDescriptor y.desc = some sig → argsL.length = sig.parameters.length)
    (hstack : g.stack = argsL.reverse ++ .ref b :: rest) (hW : 2 * g.monitorRoom + (rest.map fun v => v.category).sum ≤ W9) (hdg : decode c.code g.pc = .ok (.invokevirtual index, 3))
    (hpre : ∀ vm₁, s.WarmedH vm₁ → Pre ⟨T.setVm vm₁, locs, cells, slots⟩ (Value.ref b :: argsL).toArray) :
    ∃ (v : Option Value) (vm₁ : Vm) (B : Pt), s.WarmedH vm₁ ∧ Stand p l e R s m args below meth c B.U B.locs B.cells B.slots ∧ Post ⟨T.setVm vm₁, locs, cells, slots⟩ (Value.ref b :: argsL).toArray v B ∧
      ∀ target, Steps p.tables e below (B.U.setTop { g with pc := g.pc + 3, stack := v.toList ++ rest }) target → Steps p.tables e below (T.setTop g) target := by
  obtain ⟨mk, methM, hnamed, hmethM, hstM, habM⟩ := Cond.instanceMethod_spec hinst
  obtain ⟨m8, methM', cM, hn8, hmethM', -, -, -, -, -, -, hsigM⟩ := Cond.codeWith_spec hcode
  cases Option.some.inj (hn8.symm.trans hnamed)
  cases hmethM.symm.trans hmethM'
  obtain ⟨c2, r2, m2, q1, q2, q3, q4, kP, hkP, hkPi⟩ := Cond.selects_spec hsel
  cases hcls.symm.trans q1
  cases (State.methodFound?_of_named hnamed hy).symm.trans q2
  cases hnamed.symm.trans q3
  have hselP : selectMethod e.platform s.vm cellB.cls mk = .method mk := by rw [Launch.admits_selectMethod X.admits]; exact q4
  obtain ⟨vm₁, X₁, hstep₁⟩ := X.invokevirtual hexec hown hlink hnamed hmethM hstM hkP hkPi hy (a := b) (cell := cellB) hcell
    (fun z h => by rw [h] at hobj; cases hobj) hselP hmethM habM hkP hkPi (g := g) hg (argsL := argsL) (rest := rest) (hlen _ hsigM) hstack hdg
  obtain ⟨v, B, X', hpost, hsteps⟩ := hK m meth c ⟨T.setVm vm₁, locs, cells, slots⟩ { g with stack := rest } (.invokevirtual index) mk (Value.ref b :: argsL).toArray X₁ hg hsize hdg hW (X₁.named hnamed) (hpre vm₁ X₁.warmed)
  exact ⟨v, vm₁, B, X₁.warmed, X', hpost, fun target h => hstep₁ _ fun acts => by rw [doInvoke_state]; exact hsteps.trans h⟩
abbrev vx_CVW (R : Room) (s : State) (args : Array Value) (own C : String) (index : Nat) (y : MethodName) (bytes : ByteArray) (maxL : Nat) (ret : Option FieldType) (hh : List (Nat × Nat × Nat × Nat)) (ws : List Cond) (rm : Room) (mc ms n : Nat) : Prop :=
  (rm.cells = mc ∧ rm.slots = ms ∧ rm.frames + 1 ≤ R.frames ∧ 8 + (maxL + 11) + rm.locals ≤ R.locals ∧ (∀ w ∈ ws, ∀ (a' : Array Value) (U : State), s.WarmedH U.vm → w.before a' U = true) ∧ Cond.codeWith y bytes maxL ret hh ∈ ws) ∧
  (Cond.codeWith y bytes maxL ret hh).before args s = true ∧ (Cond.initialized y.cls).before args s = true ∧ (y.cls ≠ "java/lang/invoke/MethodHandle" ∧ y.cls ≠ "java/lang/invoke/VarHandle") ∧
  (∀ sig, parseMethodDescriptor y.desc = some sig → n = sig.parameters.length) ∧ (Cond.methodLink own index y).before args s = true ∧ (Cond.instanceMethod y).before args s = true ∧ (Cond.selects C y y).before args s = true
theorem vx_cwVW {own C : String} {index maxL mc ms : Nat} {y : MethodName} {bytes : ByteArray} {ret : Option FieldType} {hh : List (Nat × Nat × Nat × Nat)} {Ts ws ws' : List Cond} {rm : Room} (n : Nat) (ht : ∀ w ∈ Ts, w.before args s = true) (hT : GoodIn Ts (wsV own index C y ws)) (hw : ws = Cond.codeWith y bytes maxL ret hh :: ws') (hrc : rm.cells = mc) (hrs : rm.slots = ms)
    (hd : y.cls = C ∧ y.cls ≠ "java/lang/invoke/MethodHandle" ∧ y.cls ≠ "java/lang/invoke/VarHandle" ∧ (parseMethodDescriptor y.desc).map (fun d => d.parameters.length) = some n) (hR : rm.frames + 1 ≤ R.frames ∧ 8 + (maxL + 11) + rm.locals ≤ R.locals) :
    vx_CVW R s args own C index y bytes maxL ret hh ws rm mc ms n := by
  obtain ⟨hC, hd⟩ := hd
  subst hC
  have ok : ∀ w ∈ wsV own index y.cls y ws, w.before args s = true := fun w h => ht w (hT w h).1
  have hG : GoodIn Ts ws := fun w h => hT w (by unfold wsV; exact List.mem_append_right _ h)
  have hc : Cond.codeWith y bytes maxL ret hh ∈ ws := by rw [hw]; exact List.mem_cons_self
  refine ⟨⟨hrc, hrs, hR.1, hR.2, pay_in ht hG, hc⟩, ht _ (hG _ hc).1, ok _ (by simp [wsV]), ⟨hd.1, hd.2.1⟩, fun sig h => ?_, ok _ (by simp [wsV]), ok _ (by simp [wsV]), ok _ (by simp [wsV])⟩
  have h2 := hd.2.2
  rw [h] at h2
  exact (Option.some.inj h2).symm
theorem vx_runVW {y : MethodName} {bytes cc : ByteArray} {maxL nL mc ms n index : Nat} {ret : Option FieldType} {hh : List (Nat × Nat × Nat × Nat)} {ws : List Cond} {rm : Room} {Pc : Array Value → State → Prop} {Qc : Array Value → State → Outcome → State → Prop} {free : Addr → Prop} {Ts : List Cond} {own C : String} {b : Addr} {As rest : List Value} {g : JFrame}
    (S : CallFix p m c cc nL s args Ts own) (hM : Met l y ws rm Pc Qc mc ms free) (cw : vx_CVW R s args own C index y bytes maxL ret hh ws rm mc ms n) (hp : PreV s H C b Pc As)
    (hg : g.method = m) (hn : As.length = n) (hsize : g.locals.size = nL) (hstack : g.stack = As.reverse ++ .ref b :: rest) (hW : 2 * g.monitorRoom + (rest.map fun v => v.category).sum ≤ 8) (hdg : decode cc g.pc = .ok (.invokevirtual index, 3)) (hf : cells + mc ≤ R.cells ∧ slots + ms ≤ R.slots) :
    va_Run p l e R s m args below meth c H locs cells slots mc ms g rest (Qc (Value.ref b :: As).toArray) free := by
  obtain ⟨⟨hrc, hrs, hfr, hlo, hws, hcw⟩, hcode, hini, hy, hlen, hl, hin, hse⟩ := cw
  have hK : Back l R p e below s args y 3 8 (PreOf R mc ms Pc) (PostOf Qc mc ms free) := va_backW (hh := hh) (bytes := bytes) (maxL := maxL) (ret := ret) hM hp.1 hrc hrs hfr hlo hws hcw (fun a' U hW => word_at hW (Or.inl (by first | rfl | simp [Cond.onTables, Cond.keeps, Cond.steady])) hini)
  obtain ⟨hx, hb, hml, ho, -⟩ := S
  obtain ⟨-, ⟨cellB, hcB, hoB, hclB⟩, hPc⟩ := hp
  intro T hT X
  obtain ⟨v, vm₁, ⟨U', l2, c2, s2⟩, hW₁, X', ⟨g', mk, t, L, e1, e2, hq, h1, hL, h2, h3⟩, st⟩ := vx_callVW X hx (C := C) (hh := hh) (bytes := bytes) (maxL := maxL) (ret := ret) ho hl hin hse hcode hy hK (by rw [hT]; exact hcB) hoB hclB hg (hsize.trans hml.symm) (argsL := As) (rest := rest) (fun sig h => hn.trans (hlen sig h)) hstack hW (by rw [hb]; exact hdg)
    (fun vm₁ hW₁ => ⟨hf.1, hf.2, hPc (T.setVm vm₁) hT hW₁⟩)
  dsimp only [Pt.U, Pt.locs, Pt.cells, Pt.slots] at X' e1 e2 h1 h2 h3 st
  subst h1; subst h2; subst h3
  exact ⟨v, (T.setVm vm₁).calling g' mk (Value.ref b :: As).toArray, t, U', L, hT, X', hL, e1, e2, hq, st⟩
section
variable {y : MethodName} {bytes cc : ByteArray} {maxL nL mc ms n index : Nat} {ret : Option FieldType} {ws : List Cond} {rm : Room} {Pc : Array Value → State → Prop} {Qc : Array Value → State → Outcome → State → Prop} {XC : String → State → State → Prop} {free : Addr → Prop} {Ts : List Cond} {own C : String} {b : Addr} {As rest : List Value} {g : JFrame}
theorem vx_runVX {hh : List (Nat × Nat × Nat × Nat)} (S : CallFix p m c cc nL s args Ts own) (hM : vx_Met l y ws rm Pc Qc XC mc ms free) (cw : vx_CVW R s args own C index y bytes maxL ret hh ws rm mc ms n) (hp : PreV s H C b Pc As)
    (hg : g.method = m) (hn : As.length = n) (hsize : g.locals.size = nL) (hstack : g.stack = As.reverse ++ .ref b :: rest) (hW : 2 * g.monitorRoom + (rest.map fun v => v.category).sum ≤ 8) (hdg : decode cc g.pc = .ok (.invokevirtual index, 3)) (hf : cells + mc ≤ R.cells ∧ slots + ms ≤ R.slots) :
    vx_Run p l e R s m args below meth c H locs cells slots mc ms g rest (Qc (Value.ref b :: As).toArray) XC free := by
  obtain ⟨⟨hrc, hrs, hfr, hlo, hws, hcw⟩, hcode, hini, hy, hlen, hl, hin, hse⟩ := cw
  have hK : vx_Back l R p e below s args y 3 8 (PreOf R mc ms Pc) (PostOf Qc mc ms free) (vx_Post XC mc ms free) := vx_backW (hh := hh) (bytes := bytes) (maxL := maxL) (ret := ret) hM hp.1 hrc hrs hfr hlo hws hcw (fun a' U hW => word_at hW (Or.inl (by first | rfl | simp [Cond.onTables, Cond.keeps, Cond.steady])) hini)
  obtain ⟨hx, hb, hml, ho, -⟩ := S
  obtain ⟨-, ⟨cellB, hcB, hoB, hclB⟩, hPc⟩ := hp
  intro T hT X
  rcases vx_callVX X hx (C := C) (hh := hh) (bytes := bytes) (maxL := maxL) (ret := ret) ho hl hin hse hcode hy hK (by rw [hT]; exact hcB) hoB hclB hg (hsize.trans hml.symm) (argsL := As) (rest := rest) (fun sig h => hn.trans (hlen sig h)) hstack hW (by rw [hb]; exact hdg)
    (fun vm₁ hW₁ => ⟨hf.1, hf.2, hPc (T.setVm vm₁) hT hW₁⟩) with ⟨v, vm₁, ⟨U', l2, c2, s2⟩, hW₁, X', ⟨g', mk, t, L, e1, e2, hq, h1, hL, h2, h3⟩, st⟩ | ⟨q, vm₁, ⟨U', l2, c2, s2⟩, hW₁, X', ⟨g', mk, t, L, E, ce, e1, e2, hq, hce, hcv, hcl, h1, hL, h2, h3⟩, st⟩
  · dsimp only [Pt.U, Pt.locs, Pt.cells, Pt.slots] at X' e1 e2 h1 h2 h3 st
    subst h1; subst h2; subst h3
    exact Or.inl ⟨v, (T.setVm vm₁).calling g' mk (Value.ref b :: As).toArray, t, U', L, hT, X', hL, e1, e2, hq, st⟩
  · dsimp only [Pt.U, Pt.locs, Pt.cells, Pt.slots] at X' e1 e2 h1 h2 h3 st hcl
    subst h1; subst h2; subst h3
    exact Or.inr ⟨q, (T.setVm vm₁).calling g' mk (Value.ref b :: As).toArray, t, U', L, E, ce, hT, X', hL, e1, e2, hq, hce, hcv, vx_cls hW₁ hcl, st⟩
theorem vx_runSX {hh : List (Nat × Nat × Nat × Nat)} (S : CallFix p m c cc nL s args Ts own) (hM : vx_Met l y ws rm Pc Qc XC mc ms free) (cw : vx_CSW R s args own index y bytes maxL ret hh ws rm mc ms n) (hp : PreS s H Pc As)
    (hg : g.method = m) (hn : As.length = n) (hsize : g.locals.size = nL) (hstack : g.stack = As.reverse ++ rest) (hW : 2 * g.monitorRoom + (rest.map fun v => v.category).sum ≤ 8) (hdg : decode cc g.pc = .ok (.invokestatic index, 3)) (hf : cells + mc ≤ R.cells ∧ slots + ms ≤ R.slots) :
    vx_Run p l e R s m args below meth c H locs cells slots mc ms g rest (Qc As.toArray) XC free := by
  obtain ⟨⟨hrc, hrs, hfr, hlo, hws, hcw⟩, hcode, hini, hy, hlen, hl, hstt⟩ := cw
  have hK : vx_Back l R p e below s args y 3 8 (PreOf R mc ms Pc) (PostOf Qc mc ms free) (vx_Post XC mc ms free) := vx_backW (hh := hh) (bytes := bytes) (maxL := maxL) (ret := ret) hM hp.1 hrc hrs hfr hlo hws hcw (fun a' U hW => word_at hW (Or.inl (by first | rfl | simp [Cond.onTables, Cond.keeps, Cond.steady])) hini)
  obtain ⟨hx, hb, hml, ho, -⟩ := S
  intro T hT X
  rcases vx_callSX X hx (hh := hh) (bytes := bytes) (maxL := maxL) (ret := ret) ho hl hstt hini hcode hy hK hg (hsize.trans hml.symm) (argsL := As) (rest := rest) (fun sig h => hn.trans (hlen sig h)) hstack hW (by rw [hb]; exact hdg)
    (fun vm₁ hW₁ => ⟨hf.1, hf.2, hp.2 (T.setVm vm₁) hT hW₁⟩) with ⟨v, vm₁, ⟨U', l2, c2, s2⟩, hW₁, X', ⟨g', mk, t, L, e1, e2, hq, h1, hL, h2, h3⟩, st⟩ | ⟨q, vm₁, ⟨U', l2, c2, s2⟩, hW₁, X', ⟨g', mk, t, L, E, ce, e1, e2, hq, hce, hcv, hcl, h1, hL, h2, h3⟩, st⟩
  · dsimp only [Pt.U, Pt.locs, Pt.cells, Pt.slots] at X' e1 e2 h1 h2 h3 st
    subst h1; subst h2; subst h3
    exact Or.inl ⟨v, (T.setVm vm₁).calling g' mk As.toArray, t, U', L, hT, X', hL, e1, e2, hq, st⟩
  · dsimp only [Pt.U, Pt.locs, Pt.cells, Pt.slots] at X' e1 e2 h1 h2 h3 st hcl
    subst h1; subst h2; subst h3
    exact Or.inr ⟨q, (T.setVm vm₁).calling g' mk As.toArray, t, U', L, E, ce, hT, X', hL, e1, e2, hq, hce, hcv, vx_cls hW₁ hcl, st⟩
end
end VXH
theorem vx_ofWH {l : Launch} {y : MethodName} {ws ws' : List Cond} {rm : Room} {Pc : Array Value → State → Prop} {Qc : Array Value → State → Outcome → State → Prop} {XC : String → State → State → Prop} {mc ms : Nat} {free : Addr → Prop} {cc : ByteArray} {maxL : Nat} {ret : Option FieldType} {hh : List (Nat × Nat × Nat × Nat)}
    (hy : plainName y.cls = true) (hw : ws = Cond.codeWith y cc maxL ret hh :: ws')
    (body : ∀ p e s m args below meth c s₁, BodyLoose p l y (headSpec ws rm) cc maxL ret e s m args below meth c s₁ → c.maxLocals = maxL → Pc args s →
      W p l e (headSpec ws rm).room s m args below meth c s.heap [] 0 0 (vx_MQ below Qc XC args s mc ms free) (entryFrame m args maxL)) : vx_Met l y ws rm Pc Qc XC mc ms free := by
  refine MetFree.of_bodyS (code := cc) (maxLocals := maxL) (ret := ret) hy ?_ ?_
  · intro args s m h hn
    obtain ⟨m9, meth, c, hn9, h1, h2, h3, h4, -, h5, h6, -⟩ := Cond.codeWith_spec (atoms_spec (ws := ws) h _ (by rw [hw]; exact List.mem_cons_self))
    cases hn.symm.trans hn9
    exact ⟨meth, c, h1, h2, h3, h4, h5, h6⟩
  · intro p e s m args below meth c s₁ B hml hP _
    have hh0 : s₁.heap = s.heap := by rw [B.state]; rfl
    obtain ⟨t, a1, o, b1, b2, b3⟩ := body p e s m args below meth c s₁ B hml hP s₁ hh0 (Stand.of_body B)
    exact ⟨t, o, a1, b1, b2, b3⟩
/-! ===== END ===== -/
end
section
/-! ===== BEGIN printed: names, fields, word lists, decode rows ===== -/
def RX0 : String := "WorthCache$Slot"
def TX0 : u_T := fun k => match k with
  | 0 => ("WorthCache$Slot", "thing", "I", true)
  | 1 => ("WorthCache$Slot", "isFilled", "Z", false)
  | 2 => ("WorthCache$Slot", "isPinned", "Z", false)
  | 3 => ("WorthCache$Slot", "size", "I", false)
  | 4 => ("WorthCache$Slot", "frequency", "I", false)
  | 5 => ("WorthCache$Slot", "end", "I", false)
  | 6 => ("WorthCache$Slot", "worth", "J", false)
  | 7 => ("WorthCache$Slot", "lastUse", "J", false)
  | _ => ("WorthCache$Slot", "lastMiss", "I", false)
def tyX0 : Nat → FieldType := fun k => match k with
  | 0 => .int
  | 1 => .boolean
  | 2 => .boolean
  | 3 => .int
  | 4 => .int
  | 5 => .int
  | 6 => .long
  | 7 => .long
  | _ => .int
abbrev wsX00 : List Cond := u_ws RX0 TX0 9
theorem nmX0 : ∀ a, a < 9 → ∀ b, b < 9 → a ≠ b → (TX0 a).2.1 ≠ (TX0 b).2.1 := by decide +kernel
theorem tyX0_ok : ∀ k, k < 9 → parseFieldDescriptor (TX0 k).2.2.1 = some (tyX0 k) := by decide +kernel
abbrev cX0_init : ByteArray := prog_2_method_1_code
def yX0_init : MethodName := ⟨RX0, "<init>", "(I)V"⟩
def RX1 : String := "WorthCache"
def TX1 : u_T := fun k => match k with
  | 0 => ("WorthCache", "slots", "[LWorthCache$Slot;", true)
  | 1 => ("WorthCache", "time", "I", false)
  | 2 => ("WorthCache", "clock", "J", false)
  | 3 => ("WorthCache", "capacity", "I", false)
  | 4 => ("WorthCache", "threshold", "I", false)
  | 5 => ("WorthCache", "uses", "J", false)
  | 6 => ("WorthCache", "hits", "I", false)
  | 7 => ("WorthCache", "misses", "I", false)
  | 8 => ("WorthCache", "bytesHit", "J", false)
  | 9 => ("WorthCache", "saved", "J", false)
  | 10 => ("WorthCache", "paid", "J", false)
  | 11 => ("WorthCache", "left", "I", false)
  | _ => ("WorthCache", "removedOver", "I", false)
def tyX1 : Nat → FieldType := fun k => match k with
  | 0 => .array (.object "WorthCache$Slot")
  | 1 => .int
  | 2 => .long
  | 3 => .int
  | 4 => .int
  | 5 => .long
  | 6 => .int
  | 7 => .int
  | 8 => .long
  | 9 => .long
  | 10 => .long
  | 11 => .int
  | _ => .int
abbrev wsX10 : List Cond := u_ws RX1 TX1 13
theorem nmX1 : ∀ a, a < 13 → ∀ b, b < 13 → a ≠ b → (TX1 a).2.1 ≠ (TX1 b).2.1 := by decide +kernel
theorem tyX1_ok : ∀ k, k < 13 → parseFieldDescriptor (TX1 k).2.2.1 = some (tyX1 k) := by decide +kernel
abbrev cX1_init : ByteArray := prog_1_method_1_code
def yX1_init : MethodName := ⟨RX1, "<init>", "()V"⟩
abbrev cX1_fetch : ByteArray := prog_1_method_2_code
def yX1_fetch : MethodName := ⟨RX1, "fetch", "(IIII)I"⟩
abbrev cX1_pass : ByteArray := prog_1_method_3_code
def yX1_pass : MethodName := ⟨RX1, "pass", "(I)I"⟩
abbrev cX1_pin : ByteArray := prog_1_method_4_code
def yX1_pin : MethodName := ⟨RX1, "pin", "(IZ)Z"⟩
abbrev cX1_drop : ByteArray := prog_1_method_5_code
def yX1_drop : MethodName := ⟨RX1, "drop", "(I)I"⟩
abbrev cX1_purge : ByteArray := prog_1_method_6_code
def yX1_purge : MethodName := ⟨RX1, "purge", "()I"⟩
abbrev cX1_setCapacity : ByteArray := prog_1_method_7_code
def yX1_setCapacity : MethodName := ⟨RX1, "setCapacity", "(I)I"⟩
abbrev cX1_setThreshold : ByteArray := prog_1_method_8_code
def yX1_setThreshold : MethodName := ⟨RX1, "setThreshold", "(I)I"⟩
abbrev cX1_has : ByteArray := prog_1_method_9_code
def yX1_has : MethodName := ⟨RX1, "has", "(I)Z"⟩
abbrev cX1_isOver : ByteArray := prog_1_method_10_code
def yX1_isOver : MethodName := ⟨RX1, "isOver", "(I)Z"⟩
abbrev cX1_sizeOf : ByteArray := prog_1_method_11_code
def yX1_sizeOf : MethodName := ⟨RX1, "sizeOf", "(I)I"⟩
abbrev cX1_frequencyOf : ByteArray := prog_1_method_12_code
def yX1_frequencyOf : MethodName := ⟨RX1, "frequencyOf", "(I)I"⟩
abbrev cX1_worthOf : ByteArray := prog_1_method_13_code
def yX1_worthOf : MethodName := ⟨RX1, "worthOf", "(I)J"⟩
abbrev cX1_endOf : ByteArray := prog_1_method_14_code
def yX1_endOf : MethodName := ⟨RX1, "endOf", "(I)I"⟩
abbrev cX1_leaving : ByteArray := prog_1_method_15_code
def yX1_leaving : MethodName := ⟨RX1, "leaving", "(I)I"⟩
abbrev cX1_placeOf : ByteArray := prog_1_method_16_code
def yX1_placeOf : MethodName := ⟨RX1, "placeOf", "(I)I"⟩
abbrev cX1_endsFirst : ByteArray := prog_1_method_17_code
def yX1_endsFirst : MethodName := ⟨RX1, "endsFirst", "()I"⟩
abbrev cX1_wouldLeave : ByteArray := prog_1_method_18_code
def yX1_wouldLeave : MethodName := ⟨RX1, "wouldLeave", "(I)I"⟩
abbrev cX1_time : ByteArray := prog_1_method_19_code
def yX1_time : MethodName := ⟨RX1, "time", "()I"⟩
abbrev cX1_clock : ByteArray := prog_1_method_20_code
def yX1_clock : MethodName := ⟨RX1, "clock", "()J"⟩
abbrev cX1_capacity : ByteArray := prog_1_method_21_code
def yX1_capacity : MethodName := ⟨RX1, "capacity", "()I"⟩
abbrev cX1_entries : ByteArray := prog_1_method_22_code
def yX1_entries : MethodName := ⟨RX1, "entries", "()I"⟩
abbrev cX1_used : ByteArray := prog_1_method_23_code
def yX1_used : MethodName := ⟨RX1, "used", "()I"⟩
abbrev cX1_hits : ByteArray := prog_1_method_24_code
def yX1_hits : MethodName := ⟨RX1, "hits", "()I"⟩
abbrev cX1_misses : ByteArray := prog_1_method_25_code
def yX1_misses : MethodName := ⟨RX1, "misses", "()I"⟩
abbrev cX1_bytesHit : ByteArray := prog_1_method_26_code
def yX1_bytesHit : MethodName := ⟨RX1, "bytesHit", "()J"⟩
abbrev cX1_saved : ByteArray := prog_1_method_27_code
def yX1_saved : MethodName := ⟨RX1, "saved", "()J"⟩
abbrev cX1_paid : ByteArray := prog_1_method_28_code
def yX1_paid : MethodName := ⟨RX1, "paid", "()J"⟩
abbrev cX1_left : ByteArray := prog_1_method_29_code
def yX1_left : MethodName := ⟨RX1, "left", "()I"⟩
abbrev cX1_removedOver : ByteArray := prog_1_method_30_code
def yX1_removedOver : MethodName := ⟨RX1, "removedOver", "()I"⟩
abbrev cX1_slotOf : ByteArray := prog_1_method_31_code
def yX1_slotOf : MethodName := ⟨RX1, "slotOf", "(I)LWorthCache$Slot;"⟩
abbrev cX1_filledSlotOf : ByteArray := prog_1_method_32_code
def yX1_filledSlotOf : MethodName := ⟨RX1, "filledSlotOf", "(I)LWorthCache$Slot;"⟩
abbrev cX1_requireWithin : ByteArray := prog_1_method_33_code
def yX1_requireWithin : MethodName := ⟨RX1, "requireWithin", "(III)V"⟩
abbrev cX1_hit : ByteArray := prog_1_method_34_code
def yX1_hit : MethodName := ⟨RX1, "hit", "(LWorthCache$Slot;I)V"⟩
abbrev cX1_countMiss : ByteArray := prog_1_method_35_code
def yX1_countMiss : MethodName := ⟨RX1, "countMiss", "(I)V"⟩
abbrev cX1_letInIfPossible : ByteArray := prog_1_method_36_code
def yX1_letInIfPossible : MethodName := ⟨RX1, "letInIfPossible", "(LWorthCache$Slot;III)Z"⟩
abbrev cX1_wasMissedLately : ByteArray := prog_1_method_37_code
def yX1_wasMissedLately : MethodName := ⟨RX1, "wasMissedLately", "(LWorthCache$Slot;)Z"⟩
abbrev cX1_removeOwn : ByteArray := prog_1_method_38_code
def yX1_removeOwn : MethodName := ⟨RX1, "removeOwn", "(LWorthCache$Slot;)V"⟩
abbrev cX1_makeRoom : ByteArray := prog_1_method_39_code
def yX1_makeRoom : MethodName := ⟨RX1, "makeRoom", "(I)Z"⟩
abbrev cX1_fill : ByteArray := prog_1_method_40_code
def yX1_fill : MethodName := ⟨RX1, "fill", "(LWorthCache$Slot;III)V"⟩
abbrev cX1_setWorth : ByteArray := prog_1_method_41_code
def yX1_setWorth : MethodName := ⟨RX1, "setWorth", "(LWorthCache$Slot;I)V"⟩
abbrev cX1_hasRoom : ByteArray := prog_1_method_42_code
def yX1_hasRoom : MethodName := ⟨RX1, "hasRoom", "(I)Z"⟩
abbrev cX1_hasEnded : ByteArray := prog_1_method_43_code
def yX1_hasEnded : MethodName := ⟨RX1, "hasEnded", "(LWorthCache$Slot;)Z"⟩
abbrev cX1_removeAllOver : ByteArray := prog_1_method_44_code
def yX1_removeAllOver : MethodName := ⟨RX1, "removeAllOver", "()I"⟩
abbrev cX1_bytesThatCannotLeave : ByteArray := prog_1_method_45_code
def yX1_bytesThatCannotLeave : MethodName := ⟨RX1, "bytesThatCannotLeave", "()I"⟩
abbrev cX1_leaveDownTo : ByteArray := prog_1_method_46_code
def yX1_leaveDownTo : MethodName := ⟨RX1, "leaveDownTo", "(I)I"⟩
abbrev cX1_countThatWouldLeave : ByteArray := prog_1_method_47_code
def yX1_countThatWouldLeave : MethodName := ⟨RX1, "countThatWouldLeave", "(I)I"⟩
abbrev cX1_bytesNotOver : ByteArray := prog_1_method_48_code
def yX1_bytesNotOver : MethodName := ⟨RX1, "bytesNotOver", "()I"⟩
abbrev cX1_isInOrder : ByteArray := prog_1_method_49_code
def yX1_isInOrder : MethodName := ⟨RX1, "isInOrder", "(LWorthCache$Slot;)Z"⟩
abbrev cX1_leavesBefore : ByteArray := prog_1_method_50_code
def yX1_leavesBefore : MethodName := ⟨RX1, "leavesBefore", "(LWorthCache$Slot;LWorthCache$Slot;)Z"⟩
abbrev cX1_firstInOrder : ByteArray := prog_1_method_51_code
def yX1_firstInOrder : MethodName := ⟨RX1, "firstInOrder", "()LWorthCache$Slot;"⟩
abbrev cX1_nextInOrder : ByteArray := prog_1_method_52_code
def yX1_nextInOrder : MethodName := ⟨RX1, "nextInOrder", "(LWorthCache$Slot;)LWorthCache$Slot;"⟩
def RX2 : String := "WorthCacheModel"
def TX2 : u_T := fun k => match k with
  | _ => ("", "", "", false)
def tyX2 : Nat → FieldType := fun k => match k with
  | _ => .int
abbrev wsX20 : List Cond := u_ws RX2 TX2 0
theorem nmX2 : ∀ a, a < 0 → ∀ b, b < 0 → a ≠ b → (TX2 a).2.1 ≠ (TX2 b).2.1 := by decide +kernel
theorem tyX2_ok : ∀ k, k < 0 → parseFieldDescriptor (TX2 k).2.2.1 = some (tyX2 k) := by decide +kernel
def RJ9 : String := "java/lang/Math"
def TJ9 : u_T := fun k => match k with
  | _ => ("", "", "", false)
def tyJ9 : Nat → FieldType := fun k => match k with
  | _ => .int
abbrev wsJ90 : List Cond := u_ws RJ9 TJ9 0
theorem nmJ9 : ∀ a, a < 0 → ∀ b, b < 0 → a ≠ b → (TJ9 a).2.1 ≠ (TJ9 b).2.1 := by decide +kernel
theorem tyJ9_ok : ∀ k, k < 0 → parseFieldDescriptor (TJ9 k).2.2.1 = some (tyJ9 k) := by decide +kernel
abbrev cJ9_max_f86c9 : ByteArray := prog_9_method_66_code
def yJ9_max_f86c9 : MethodName := ⟨RJ9, "max", "(JJ)J"⟩
def RJ0 : String := "java/lang/String"
def TJ0 : u_T := fun k => match k with
  | _ => ("", "", "", false)
def tyJ0 : Nat → FieldType := fun k => match k with
  | _ => .int
abbrev wsJ00 : List Cond := u_ws RJ0 TJ0 0
theorem nmJ0 : ∀ a, a < 0 → ∀ b, b < 0 → a ≠ b → (TJ0 a).2.1 ≠ (TJ0 b).2.1 := by decide +kernel
theorem tyJ0_ok : ∀ k, k < 0 → parseFieldDescriptor (TJ0 k).2.2.1 = some (tyJ0 k) := by decide +kernel
def RL : String := "WorthCacheLaw"
abbrev cL_used : ByteArray := method_2_code
def yL_used : MethodName := ⟨RL, "used", "([I)I"⟩
abbrev cL_takeOut : ByteArray := method_3_code
def yL_takeOut : MethodName := ⟨RL, "takeOut", "([I[II)V"⟩
abbrev cL_putIn : ByteArray := method_4_code
def yL_putIn : MethodName := ⟨RL, "putIn", "([I[I[JI)V"⟩
abbrev cL_removes : ByteArray := method_5_code
def yL_removes : MethodName := ⟨RL, "removes", "([I[I[II)V"⟩
abbrev cL_clears : ByteArray := method_6_code
def yL_clears : MethodName := ⟨RL, "clears", "([I[I[I[I)I"⟩
abbrev cL_leaves : ByteArray := method_7_code
def yL_leaves : MethodName := ⟨RL, "leaves", "([I[I[I[J[J)V"⟩
abbrev cL_counts : ByteArray := method_8_code
def yL_counts : MethodName := ⟨RL, "counts", "([I[I[I[I[J[JII)V"⟩
abbrev cL_pinned : ByteArray := method_9_code
def yL_pinned : MethodName := ⟨RL, "pinned", "([I[I[I[IZ)I"⟩
abbrev cL_fetches : ByteArray := method_10_code
def yL_fetches : MethodName := ⟨RL, "fetches", "([I[I[I[I[I[I[I[J[JIIII)I"⟩
abbrev cL_would : ByteArray := method_11_code
def yL_would : MethodName := ⟨RL, "would", "([I[I[I[I[II)I"⟩
abbrev cL_told : ByteArray := method_12_code
def yL_told : MethodName := ⟨RL, "told", "(LWorthCache;III)I"⟩
abbrev cL_order : ByteArray := method_13_code
def yL_order : MethodName := ⟨RL, "order", "(LWorthCache;I)I"⟩
abbrev cL_isCache : ByteArray := method_14_code
def yL_isCache : MethodName := ⟨RL, "isCache", "(LWorthCache;[I[I[I[I[I[I[J[JI)Z"⟩
abbrev cL_law : ByteArray := code
def yL_law : MethodName := ⟨RL, "law", "([I)Z"⟩
def wsX0_init : List Cond := .code yX0_init cX0_init 2 none :: ([.methodLink RX0 3 objectInit, .instanceMethod objectInit, .code objectInit ⟨#[0xb1]⟩ 1 none, .fieldLink RX0 9 "WorthCache$Slot" "lastMiss" "I", .fieldLink RX0 15 "WorthCache$Slot" "thing" "I"] ++ wsX00)
def wsX1_init : List Cond := .code yX1_init cX1_init 2 none :: ([.methodLink RX1 1 objectInit, .instanceMethod objectInit, .code objectInit ⟨#[0xb1]⟩ 1 none, .classLink RX1 9 RX0, .fieldLink RX1 11 "WorthCache" "slots" "[LWorthCache$Slot;", .fieldLink RX1 15 "WorthCache" "capacity" "I", .fieldLink RX1 19 "WorthCache" "threshold" "I", .instantiable RX0 9, .initialized RX0, .instanceMethod yX0_init, .code yX0_init cX0_init 2 none, .methodLink RX0 3 objectInit, .fieldLink RX0 9 "WorthCache$Slot" "lastMiss" "I", .fieldLink RX0 15 "WorthCache$Slot" "thing" "I"] ++ wsX10 ++ wsX00)
def wsX1_slotOf : List Cond := .code yX1_slotOf cX1_slotOf 2 (some (.object "WorthCache$Slot")) :: ([.classLink RX1 105 "java/lang/IndexOutOfBoundsException", .initialized "java/lang/IndexOutOfBoundsException", .fieldLink RX1 11 "WorthCache" "slots" "[LWorthCache$Slot;"] ++ wsX10 ++ (vx_atS RX1 109 "java/lang/IndexOutOfBoundsException" ["java/lang/RuntimeException", "java/lang/Exception"]).filter goodWord)
def wsX1_requireWithin : List Cond := .code yX1_requireWithin cX1_requireWithin 3 none :: ([.classLink RX1 151 "java/lang/IllegalArgumentException", .initialized "java/lang/IllegalArgumentException"] ++ (vx_atS RX1 155 "java/lang/IllegalArgumentException" ["java/lang/RuntimeException", "java/lang/Exception"]).filter goodWord)
def wsX1_hasEnded : List Cond := .code yX1_hasEnded cX1_hasEnded 2 (some .boolean) :: ([.fieldLink RX1 55 "WorthCache" "time" "I"] ++ wsX10 ++ wsX00)
def wsX1_setWorth : List Cond := .code yX1_setWorth cX1_setWorth 3 none :: ([.fieldLink RX1 180 "WorthCache" "uses" "J", .fieldLink RX1 123 "WorthCache" "clock" "J", .constantLong RX1 186 (1000)] ++ wsX10 ++ wsX00)
def wsX1_hit : List Cond := .code yX1_hit cX1_hit 3 none :: ([.fieldLink RX1 126 "WorthCache" "hits" "I", .fieldLink RX1 132 "WorthCache" "bytesHit" "J", .fieldLink RX1 135 "WorthCache" "saved" "J", .methodLink RX1 156 yX1_setWorth, .instanceMethod yX1_setWorth, .selects RX1 yX1_setWorth yX1_setWorth, .initialized RX1, .code yX1_setWorth cX1_setWorth 3 none, .fieldLink RX1 180 "WorthCache" "uses" "J", .fieldLink RX1 123 "WorthCache" "clock" "J", .constantLong RX1 186 (1000)] ++ wsX00 ++ wsX10)
def wsX1_countMiss : List Cond := .code yX1_countMiss cX1_countMiss 2 none :: ([.fieldLink RX1 129 "WorthCache" "misses" "I", .fieldLink RX1 138 "WorthCache" "paid" "J"] ++ wsX10)
def wsX1_wasMissedLately : List Cond := .code yX1_wasMissedLately cX1_wasMissedLately 2 (some .boolean) :: ([.fieldLink RX1 55 "WorthCache" "time" "I"] ++ wsX00 ++ wsX10)
def wsX1_removeOwn : List Cond := .code yX1_removeOwn cX1_removeOwn 2 none :: ([.fieldLink RX1 144 "WorthCache" "removedOver" "I", .methodLink RX1 37 yX1_hasEnded, .instanceMethod yX1_hasEnded, .selects RX1 yX1_hasEnded yX1_hasEnded, .initialized RX1, .code yX1_hasEnded cX1_hasEnded 2 (some .boolean), .fieldLink RX1 55 "WorthCache" "time" "I"] ++ wsX00 ++ wsX10)
def wsX1_used : List Cond := .code yX1_used cX1_used 6 (some .int) :: ([.fieldLink RX1 11 "WorthCache" "slots" "[LWorthCache$Slot;"] ++ wsX10 ++ wsX00)
def wsX1_hasRoom : List Cond := .code yX1_hasRoom cX1_hasRoom 2 (some .boolean) :: ([.fieldLink RX1 15 "WorthCache" "capacity" "I", .methodLink RX1 78 yX1_used, .instanceMethod yX1_used, .selects RX1 yX1_used yX1_used, .initialized RX1, .code yX1_used cX1_used 6 (some .int), .fieldLink RX1 11 "WorthCache" "slots" "[LWorthCache$Slot;"] ++ wsX10 ++ wsX00)
def wsX1_removeAllOver : List Cond := .code yX1_removeAllOver cX1_removeAllOver 6 (some .int) :: ([.fieldLink RX1 11 "WorthCache" "slots" "[LWorthCache$Slot;", .fieldLink RX1 144 "WorthCache" "removedOver" "I", .methodLink RX1 37 yX1_hasEnded, .instanceMethod yX1_hasEnded, .selects RX1 yX1_hasEnded yX1_hasEnded, .initialized RX1, .code yX1_hasEnded cX1_hasEnded 2 (some .boolean), .fieldLink RX1 55 "WorthCache" "time" "I"] ++ wsX10 ++ wsX00)
def wsX1_bytesThatCannotLeave : List Cond := .code yX1_bytesThatCannotLeave cX1_bytesThatCannotLeave 6 (some .int) :: ([.fieldLink RX1 11 "WorthCache" "slots" "[LWorthCache$Slot;", .methodLink RX1 37 yX1_hasEnded, .instanceMethod yX1_hasEnded, .selects RX1 yX1_hasEnded yX1_hasEnded, .initialized RX1, .code yX1_hasEnded cX1_hasEnded 2 (some .boolean), .fieldLink RX1 55 "WorthCache" "time" "I"] ++ wsX10 ++ wsX00)
def wsX1_leavesBefore : List Cond := .code yX1_leavesBefore cX1_leavesBefore 2 (some .boolean) :: ([] ++ wsX00)
def wsX1_isInOrder : List Cond := .code yX1_isInOrder cX1_isInOrder 1 (some .boolean) :: ([] ++ wsX00)
def wsX1_nextInOrder : List Cond := .code yX1_nextInOrder cX1_nextInOrder 8 (some (.object "WorthCache$Slot")) :: ([.fieldLink RX1 11 "WorthCache" "slots" "[LWorthCache$Slot;", .methodLink RX1 116 yX1_leavesBefore, .static yX1_leavesBefore, .initialized RX1, .code yX1_leavesBefore cX1_leavesBefore 2 (some .boolean), .methodLink RX1 113 yX1_isInOrder, .static yX1_isInOrder, .code yX1_isInOrder cX1_isInOrder 1 (some .boolean)] ++ wsX10 ++ wsX00)
def wsX1_firstInOrder : List Cond := .code yX1_firstInOrder cX1_firstInOrder 1 (some (.object "WorthCache$Slot")) :: ([.methodLink RX1 101 yX1_nextInOrder, .instanceMethod yX1_nextInOrder, .selects RX1 yX1_nextInOrder yX1_nextInOrder, .initialized RX1, .code yX1_nextInOrder cX1_nextInOrder 8 (some (.object "WorthCache$Slot")), .fieldLink RX1 11 "WorthCache" "slots" "[LWorthCache$Slot;", .methodLink RX1 116 yX1_leavesBefore, .static yX1_leavesBefore, .code yX1_leavesBefore cX1_leavesBefore 2 (some .boolean), .methodLink RX1 113 yX1_isInOrder, .static yX1_isInOrder, .code yX1_isInOrder cX1_isInOrder 1 (some .boolean)] ++ wsX10 ++ wsX00)
def wsX1_leaveDownTo_r1 : List Cond := [Cond.fieldLink RX1 123 "WorthCache" "clock" "J", Cond.methodLink RX1 188 Lib.MathLoose.max_long.x, Cond.static Lib.MathLoose.max_long.x, Cond.initialized "java/lang/Math", Cond.code Lib.MathLoose.max_long.x Lib.MathLoose.max_long.code 4 (some .long), Cond.fieldLink RX1 141 "WorthCache" "left" "I", Cond.methodLink RX1 97 yX1_firstInOrder, Cond.instanceMethod yX1_firstInOrder, Cond.selects RX1 yX1_firstInOrder yX1_firstInOrder, Cond.initialized RX1, Cond.code yX1_firstInOrder cX1_firstInOrder 1 (some (.object "WorthCache$Slot")), Cond.methodLink RX1 101 yX1_nextInOrder, Cond.instanceMethod yX1_nextInOrder, Cond.selects RX1 yX1_nextInOrder yX1_nextInOrder, Cond.code yX1_nextInOrder cX1_nextInOrder 8 (some (.object "WorthCache$Slot")), Cond.fieldLink RX1 11 "WorthCache" "slots" "[LWorthCache$Slot;", Cond.methodLink RX1 116 yX1_leavesBefore, Cond.static yX1_leavesBefore, Cond.code yX1_leavesBefore cX1_leavesBefore 2 (some .boolean), Cond.methodLink RX1 113 yX1_isInOrder, Cond.static yX1_isInOrder, Cond.code yX1_isInOrder cX1_isInOrder 1 (some .boolean), Cond.methodLink RX1 78 yX1_used, Cond.instanceMethod yX1_used]
def wsX1_leaveDownTo_r2 : List Cond := [Cond.selects RX1 yX1_used yX1_used, Cond.code yX1_used cX1_used 6 (some .int)]
def wsX1_leaveDownTo : List Cond := .code yX1_leaveDownTo cX1_leaveDownTo 4 (some .int) :: ((wsX1_leaveDownTo_r1 ++ wsX1_leaveDownTo_r2) ++ wsX00 ++ wsX10)
def wsX1_makeRoom_r1 : List Cond := [Cond.fieldLink RX1 15 "WorthCache" "capacity" "I", Cond.methodLink RX1 177 yX1_hasRoom, Cond.instanceMethod yX1_hasRoom, Cond.selects RX1 yX1_hasRoom yX1_hasRoom, Cond.initialized RX1, Cond.code yX1_hasRoom cX1_hasRoom 2 (some .boolean), Cond.methodLink RX1 78 yX1_used, Cond.instanceMethod yX1_used, Cond.selects RX1 yX1_used yX1_used, Cond.code yX1_used cX1_used 6 (some .int), Cond.fieldLink RX1 11 "WorthCache" "slots" "[LWorthCache$Slot;", Cond.methodLink RX1 64 yX1_removeAllOver, Cond.instanceMethod yX1_removeAllOver, Cond.selects RX1 yX1_removeAllOver yX1_removeAllOver, Cond.code yX1_removeAllOver cX1_removeAllOver 6 (some .int), Cond.fieldLink RX1 144 "WorthCache" "removedOver" "I", Cond.methodLink RX1 37 yX1_hasEnded, Cond.instanceMethod yX1_hasEnded, Cond.selects RX1 yX1_hasEnded yX1_hasEnded, Cond.code yX1_hasEnded cX1_hasEnded 2 (some .boolean), Cond.fieldLink RX1 55 "WorthCache" "time" "I", Cond.methodLink RX1 68 yX1_bytesThatCannotLeave, Cond.instanceMethod yX1_bytesThatCannotLeave, Cond.selects RX1 yX1_bytesThatCannotLeave yX1_bytesThatCannotLeave]
def wsX1_makeRoom_r2 : List Cond := [Cond.code yX1_bytesThatCannotLeave cX1_bytesThatCannotLeave 6 (some .int), Cond.methodLink RX1 81 yX1_leaveDownTo, Cond.instanceMethod yX1_leaveDownTo, Cond.selects RX1 yX1_leaveDownTo yX1_leaveDownTo, Cond.code yX1_leaveDownTo cX1_leaveDownTo 4 (some .int), Cond.fieldLink RX1 123 "WorthCache" "clock" "J", Cond.methodLink RX1 188 Lib.MathLoose.max_long.x, Cond.static Lib.MathLoose.max_long.x, Cond.initialized "java/lang/Math", Cond.code Lib.MathLoose.max_long.x Lib.MathLoose.max_long.code 4 (some .long), Cond.fieldLink RX1 141 "WorthCache" "left" "I", Cond.methodLink RX1 97 yX1_firstInOrder, Cond.instanceMethod yX1_firstInOrder, Cond.selects RX1 yX1_firstInOrder yX1_firstInOrder, Cond.code yX1_firstInOrder cX1_firstInOrder 1 (some (.object "WorthCache$Slot")), Cond.methodLink RX1 101 yX1_nextInOrder, Cond.instanceMethod yX1_nextInOrder, Cond.selects RX1 yX1_nextInOrder yX1_nextInOrder, Cond.code yX1_nextInOrder cX1_nextInOrder 8 (some (.object "WorthCache$Slot")), Cond.methodLink RX1 116 yX1_leavesBefore, Cond.static yX1_leavesBefore, Cond.code yX1_leavesBefore cX1_leavesBefore 2 (some .boolean), Cond.methodLink RX1 113 yX1_isInOrder, Cond.static yX1_isInOrder]
def wsX1_makeRoom_r3 : List Cond := [Cond.code yX1_isInOrder cX1_isInOrder 1 (some .boolean)]
def wsX1_makeRoom : List Cond := .code yX1_makeRoom cX1_makeRoom 2 (some .boolean) :: ((wsX1_makeRoom_r1 ++ (wsX1_makeRoom_r2 ++ wsX1_makeRoom_r3)) ++ wsX10 ++ wsX00)
def wsX1_fill : List Cond := .code yX1_fill cX1_fill 5 none :: ([.fieldLink RX1 55 "WorthCache" "time" "I", .methodLink RX1 156 yX1_setWorth, .instanceMethod yX1_setWorth, .selects RX1 yX1_setWorth yX1_setWorth, .initialized RX1, .code yX1_setWorth cX1_setWorth 3 none, .fieldLink RX1 180 "WorthCache" "uses" "J", .fieldLink RX1 123 "WorthCache" "clock" "J", .constantLong RX1 186 (1000)] ++ wsX00 ++ wsX10)
def wsX1_letInIfPossible_r1 : List Cond := [Cond.fieldLink RX1 55 "WorthCache" "time" "I", Cond.fieldLink RX1 15 "WorthCache" "capacity" "I", Cond.fieldLink RX1 19 "WorthCache" "threshold" "I", Cond.methodLink RX1 159 yX1_wasMissedLately, Cond.instanceMethod yX1_wasMissedLately, Cond.selects RX1 yX1_wasMissedLately yX1_wasMissedLately, Cond.initialized RX1, Cond.code yX1_wasMissedLately cX1_wasMissedLately 2 (some .boolean), Cond.methodLink RX1 165 yX1_removeOwn, Cond.instanceMethod yX1_removeOwn, Cond.selects RX1 yX1_removeOwn yX1_removeOwn, Cond.code yX1_removeOwn cX1_removeOwn 2 none, Cond.fieldLink RX1 144 "WorthCache" "removedOver" "I", Cond.methodLink RX1 37 yX1_hasEnded, Cond.instanceMethod yX1_hasEnded, Cond.selects RX1 yX1_hasEnded yX1_hasEnded, Cond.code yX1_hasEnded cX1_hasEnded 2 (some .boolean), Cond.methodLink RX1 169 yX1_makeRoom, Cond.instanceMethod yX1_makeRoom, Cond.selects RX1 yX1_makeRoom yX1_makeRoom, Cond.code yX1_makeRoom cX1_makeRoom 2 (some .boolean), Cond.methodLink RX1 177 yX1_hasRoom, Cond.instanceMethod yX1_hasRoom, Cond.selects RX1 yX1_hasRoom yX1_hasRoom]
def wsX1_letInIfPossible_r2 : List Cond := [Cond.code yX1_hasRoom cX1_hasRoom 2 (some .boolean), Cond.methodLink RX1 78 yX1_used, Cond.instanceMethod yX1_used, Cond.selects RX1 yX1_used yX1_used, Cond.code yX1_used cX1_used 6 (some .int), Cond.fieldLink RX1 11 "WorthCache" "slots" "[LWorthCache$Slot;", Cond.methodLink RX1 64 yX1_removeAllOver, Cond.instanceMethod yX1_removeAllOver, Cond.selects RX1 yX1_removeAllOver yX1_removeAllOver, Cond.code yX1_removeAllOver cX1_removeAllOver 6 (some .int), Cond.methodLink RX1 68 yX1_bytesThatCannotLeave, Cond.instanceMethod yX1_bytesThatCannotLeave, Cond.selects RX1 yX1_bytesThatCannotLeave yX1_bytesThatCannotLeave, Cond.code yX1_bytesThatCannotLeave cX1_bytesThatCannotLeave 6 (some .int), Cond.methodLink RX1 81 yX1_leaveDownTo, Cond.instanceMethod yX1_leaveDownTo, Cond.selects RX1 yX1_leaveDownTo yX1_leaveDownTo, Cond.code yX1_leaveDownTo cX1_leaveDownTo 4 (some .int), Cond.fieldLink RX1 123 "WorthCache" "clock" "J", Cond.methodLink RX1 188 Lib.MathLoose.max_long.x, Cond.static Lib.MathLoose.max_long.x, Cond.initialized "java/lang/Math", Cond.code Lib.MathLoose.max_long.x Lib.MathLoose.max_long.code 4 (some .long), Cond.fieldLink RX1 141 "WorthCache" "left" "I"]
def wsX1_letInIfPossible_r3 : List Cond := [Cond.methodLink RX1 97 yX1_firstInOrder, Cond.instanceMethod yX1_firstInOrder, Cond.selects RX1 yX1_firstInOrder yX1_firstInOrder, Cond.code yX1_firstInOrder cX1_firstInOrder 1 (some (.object "WorthCache$Slot")), Cond.methodLink RX1 101 yX1_nextInOrder, Cond.instanceMethod yX1_nextInOrder, Cond.selects RX1 yX1_nextInOrder yX1_nextInOrder, Cond.code yX1_nextInOrder cX1_nextInOrder 8 (some (.object "WorthCache$Slot")), Cond.methodLink RX1 116 yX1_leavesBefore, Cond.static yX1_leavesBefore, Cond.code yX1_leavesBefore cX1_leavesBefore 2 (some .boolean), Cond.methodLink RX1 113 yX1_isInOrder, Cond.static yX1_isInOrder, Cond.code yX1_isInOrder cX1_isInOrder 1 (some .boolean), Cond.methodLink RX1 173 yX1_fill, Cond.instanceMethod yX1_fill, Cond.selects RX1 yX1_fill yX1_fill, Cond.code yX1_fill cX1_fill 5 none, Cond.methodLink RX1 156 yX1_setWorth, Cond.instanceMethod yX1_setWorth, Cond.selects RX1 yX1_setWorth yX1_setWorth, Cond.code yX1_setWorth cX1_setWorth 3 none, Cond.fieldLink RX1 180 "WorthCache" "uses" "J", Cond.constantLong RX1 186 (1000)]
def wsX1_letInIfPossible : List Cond := .code yX1_letInIfPossible cX1_letInIfPossible 6 (some .boolean) :: ((wsX1_letInIfPossible_r1 ++ (wsX1_letInIfPossible_r2 ++ wsX1_letInIfPossible_r3)) ++ wsX10 ++ wsX00)
def wsX1_fetch_r1 : List Cond := [Cond.methodLink RX1 25 yX1_slotOf, Cond.instanceMethod yX1_slotOf, Cond.selects RX1 yX1_slotOf yX1_slotOf, Cond.initialized RX1, Cond.code yX1_slotOf cX1_slotOf 2 (some (.object "WorthCache$Slot")), Cond.classLink RX1 105 "java/lang/IndexOutOfBoundsException", Cond.initialized "java/lang/IndexOutOfBoundsException", Cond.fieldLink RX1 11 "WorthCache" "slots" "[LWorthCache$Slot;", Cond.methodLink RX1 29 yX1_requireWithin, Cond.static yX1_requireWithin, Cond.code yX1_requireWithin cX1_requireWithin 3 none, Cond.classLink RX1 151 "java/lang/IllegalArgumentException", Cond.initialized "java/lang/IllegalArgumentException", Cond.methodLink RX1 37 yX1_hasEnded, Cond.instanceMethod yX1_hasEnded, Cond.selects RX1 yX1_hasEnded yX1_hasEnded, Cond.code yX1_hasEnded cX1_hasEnded 2 (some .boolean), Cond.fieldLink RX1 55 "WorthCache" "time" "I", Cond.methodLink RX1 44 yX1_hit, Cond.instanceMethod yX1_hit, Cond.selects RX1 yX1_hit yX1_hit, Cond.code yX1_hit cX1_hit 3 none, Cond.fieldLink RX1 126 "WorthCache" "hits" "I", Cond.fieldLink RX1 132 "WorthCache" "bytesHit" "J"]
def wsX1_fetch_r2 : List Cond := [Cond.fieldLink RX1 135 "WorthCache" "saved" "J", Cond.methodLink RX1 156 yX1_setWorth, Cond.instanceMethod yX1_setWorth, Cond.selects RX1 yX1_setWorth yX1_setWorth, Cond.code yX1_setWorth cX1_setWorth 3 none, Cond.fieldLink RX1 180 "WorthCache" "uses" "J", Cond.fieldLink RX1 123 "WorthCache" "clock" "J", Cond.constantLong RX1 186 (1000), Cond.methodLink RX1 48 yX1_countMiss, Cond.instanceMethod yX1_countMiss, Cond.selects RX1 yX1_countMiss yX1_countMiss, Cond.code yX1_countMiss cX1_countMiss 2 none, Cond.fieldLink RX1 129 "WorthCache" "misses" "I", Cond.fieldLink RX1 138 "WorthCache" "paid" "J", Cond.methodLink RX1 51 yX1_letInIfPossible, Cond.instanceMethod yX1_letInIfPossible, Cond.selects RX1 yX1_letInIfPossible yX1_letInIfPossible, Cond.code yX1_letInIfPossible cX1_letInIfPossible 6 (some .boolean), Cond.fieldLink RX1 15 "WorthCache" "capacity" "I", Cond.fieldLink RX1 19 "WorthCache" "threshold" "I", Cond.methodLink RX1 159 yX1_wasMissedLately, Cond.instanceMethod yX1_wasMissedLately, Cond.selects RX1 yX1_wasMissedLately yX1_wasMissedLately, Cond.code yX1_wasMissedLately cX1_wasMissedLately 2 (some .boolean)]
def wsX1_fetch_r3 : List Cond := [Cond.methodLink RX1 165 yX1_removeOwn, Cond.instanceMethod yX1_removeOwn, Cond.selects RX1 yX1_removeOwn yX1_removeOwn, Cond.code yX1_removeOwn cX1_removeOwn 2 none, Cond.fieldLink RX1 144 "WorthCache" "removedOver" "I", Cond.methodLink RX1 169 yX1_makeRoom, Cond.instanceMethod yX1_makeRoom, Cond.selects RX1 yX1_makeRoom yX1_makeRoom, Cond.code yX1_makeRoom cX1_makeRoom 2 (some .boolean), Cond.methodLink RX1 177 yX1_hasRoom, Cond.instanceMethod yX1_hasRoom, Cond.selects RX1 yX1_hasRoom yX1_hasRoom, Cond.code yX1_hasRoom cX1_hasRoom 2 (some .boolean), Cond.methodLink RX1 78 yX1_used, Cond.instanceMethod yX1_used, Cond.selects RX1 yX1_used yX1_used, Cond.code yX1_used cX1_used 6 (some .int), Cond.methodLink RX1 64 yX1_removeAllOver, Cond.instanceMethod yX1_removeAllOver, Cond.selects RX1 yX1_removeAllOver yX1_removeAllOver, Cond.code yX1_removeAllOver cX1_removeAllOver 6 (some .int), Cond.methodLink RX1 68 yX1_bytesThatCannotLeave, Cond.instanceMethod yX1_bytesThatCannotLeave, Cond.selects RX1 yX1_bytesThatCannotLeave yX1_bytesThatCannotLeave]
def wsX1_fetch_r4 : List Cond := [Cond.code yX1_bytesThatCannotLeave cX1_bytesThatCannotLeave 6 (some .int), Cond.methodLink RX1 81 yX1_leaveDownTo, Cond.instanceMethod yX1_leaveDownTo, Cond.selects RX1 yX1_leaveDownTo yX1_leaveDownTo, Cond.code yX1_leaveDownTo cX1_leaveDownTo 4 (some .int), Cond.methodLink RX1 188 Lib.MathLoose.max_long.x, Cond.static Lib.MathLoose.max_long.x, Cond.initialized "java/lang/Math", Cond.code Lib.MathLoose.max_long.x Lib.MathLoose.max_long.code 4 (some .long), Cond.fieldLink RX1 141 "WorthCache" "left" "I", Cond.methodLink RX1 97 yX1_firstInOrder, Cond.instanceMethod yX1_firstInOrder, Cond.selects RX1 yX1_firstInOrder yX1_firstInOrder, Cond.code yX1_firstInOrder cX1_firstInOrder 1 (some (.object "WorthCache$Slot")), Cond.methodLink RX1 101 yX1_nextInOrder, Cond.instanceMethod yX1_nextInOrder, Cond.selects RX1 yX1_nextInOrder yX1_nextInOrder, Cond.code yX1_nextInOrder cX1_nextInOrder 8 (some (.object "WorthCache$Slot")), Cond.methodLink RX1 116 yX1_leavesBefore, Cond.static yX1_leavesBefore, Cond.code yX1_leavesBefore cX1_leavesBefore 2 (some .boolean), Cond.methodLink RX1 113 yX1_isInOrder, Cond.static yX1_isInOrder, Cond.code yX1_isInOrder cX1_isInOrder 1 (some .boolean)]
def wsX1_fetch_r5 : List Cond := [Cond.methodLink RX1 173 yX1_fill, Cond.instanceMethod yX1_fill, Cond.selects RX1 yX1_fill yX1_fill, Cond.code yX1_fill cX1_fill 5 none]
def wsX1_fetch : List Cond := .code yX1_fetch cX1_fetch 6 (some .int) :: ((wsX1_fetch_r1 ++ (wsX1_fetch_r2 ++ (wsX1_fetch_r3 ++ (wsX1_fetch_r4 ++ wsX1_fetch_r5)))) ++ wsX00 ++ wsX10 ++ (vx_atS RX1 109 "java/lang/IndexOutOfBoundsException" ["java/lang/RuntimeException", "java/lang/Exception"]).filter goodWord ++ (vx_atS RX1 155 "java/lang/IllegalArgumentException" ["java/lang/RuntimeException", "java/lang/Exception"]).filter goodWord)
def wsX1_pass : List Cond := .code yX1_pass cX1_pass 2 (some .int) :: ([.fieldLink RX1 55 "WorthCache" "time" "I", .methodLink RX1 29 yX1_requireWithin, .static yX1_requireWithin, .initialized RX1, .code yX1_requireWithin cX1_requireWithin 3 none, .classLink RX1 151 "java/lang/IllegalArgumentException", .initialized "java/lang/IllegalArgumentException"] ++ wsX10 ++ (vx_atS RX1 155 "java/lang/IllegalArgumentException" ["java/lang/RuntimeException", "java/lang/Exception"]).filter goodWord)
def wsX1_filledSlotOf : List Cond := .code yX1_filledSlotOf cX1_filledSlotOf 3 (some (.object "WorthCache$Slot")) :: ([.classLink RX1 71 "java/lang/IllegalStateException", .initialized "java/lang/IllegalStateException", .methodLink RX1 25 yX1_slotOf, .instanceMethod yX1_slotOf, .selects RX1 yX1_slotOf yX1_slotOf, .initialized RX1, .code yX1_slotOf cX1_slotOf 2 (some (.object "WorthCache$Slot")), .classLink RX1 105 "java/lang/IndexOutOfBoundsException", .initialized "java/lang/IndexOutOfBoundsException", .fieldLink RX1 11 "WorthCache" "slots" "[LWorthCache$Slot;"] ++ wsX00 ++ wsX10 ++ (vx_atS RX1 75 "java/lang/IllegalStateException" ["java/lang/RuntimeException", "java/lang/Exception"]).filter goodWord ++ (vx_atS RX1 109 "java/lang/IndexOutOfBoundsException" ["java/lang/RuntimeException", "java/lang/Exception"]).filter goodWord)
def wsX1_pin : List Cond := .code yX1_pin cX1_pin 5 (some .boolean) :: ([.methodLink RX1 58 yX1_filledSlotOf, .instanceMethod yX1_filledSlotOf, .selects RX1 yX1_filledSlotOf yX1_filledSlotOf, .initialized RX1, .code yX1_filledSlotOf cX1_filledSlotOf 3 (some (.object "WorthCache$Slot")), .classLink RX1 71 "java/lang/IllegalStateException", .initialized "java/lang/IllegalStateException", .methodLink RX1 25 yX1_slotOf, .instanceMethod yX1_slotOf, .selects RX1 yX1_slotOf yX1_slotOf, .code yX1_slotOf cX1_slotOf 2 (some (.object "WorthCache$Slot")), .classLink RX1 105 "java/lang/IndexOutOfBoundsException", .initialized "java/lang/IndexOutOfBoundsException", .fieldLink RX1 11 "WorthCache" "slots" "[LWorthCache$Slot;"] ++ wsX00 ++ wsX10 ++ (vx_atS RX1 75 "java/lang/IllegalStateException" ["java/lang/RuntimeException", "java/lang/Exception"]).filter goodWord ++ (vx_atS RX1 109 "java/lang/IndexOutOfBoundsException" ["java/lang/RuntimeException", "java/lang/Exception"]).filter goodWord)
def wsX1_drop : List Cond := .code yX1_drop cX1_drop 3 (some .int) :: ([.methodLink RX1 58 yX1_filledSlotOf, .instanceMethod yX1_filledSlotOf, .selects RX1 yX1_filledSlotOf yX1_filledSlotOf, .initialized RX1, .code yX1_filledSlotOf cX1_filledSlotOf 3 (some (.object "WorthCache$Slot")), .classLink RX1 71 "java/lang/IllegalStateException", .initialized "java/lang/IllegalStateException", .methodLink RX1 25 yX1_slotOf, .instanceMethod yX1_slotOf, .selects RX1 yX1_slotOf yX1_slotOf, .code yX1_slotOf cX1_slotOf 2 (some (.object "WorthCache$Slot")), .classLink RX1 105 "java/lang/IndexOutOfBoundsException", .initialized "java/lang/IndexOutOfBoundsException", .fieldLink RX1 11 "WorthCache" "slots" "[LWorthCache$Slot;"] ++ wsX00 ++ wsX10 ++ (vx_atS RX1 75 "java/lang/IllegalStateException" ["java/lang/RuntimeException", "java/lang/Exception"]).filter goodWord ++ (vx_atS RX1 109 "java/lang/IndexOutOfBoundsException" ["java/lang/RuntimeException", "java/lang/Exception"]).filter goodWord)
def wsX1_purge : List Cond := .code yX1_purge cX1_purge 1 (some .int) :: ([.methodLink RX1 64 yX1_removeAllOver, .instanceMethod yX1_removeAllOver, .selects RX1 yX1_removeAllOver yX1_removeAllOver, .initialized RX1, .code yX1_removeAllOver cX1_removeAllOver 6 (some .int), .fieldLink RX1 11 "WorthCache" "slots" "[LWorthCache$Slot;", .fieldLink RX1 144 "WorthCache" "removedOver" "I", .methodLink RX1 37 yX1_hasEnded, .instanceMethod yX1_hasEnded, .selects RX1 yX1_hasEnded yX1_hasEnded, .code yX1_hasEnded cX1_hasEnded 2 (some .boolean), .fieldLink RX1 55 "WorthCache" "time" "I"] ++ wsX10 ++ wsX00)
def wsX1_setCapacity_r1 : List Cond := [Cond.classLink RX1 71 "java/lang/IllegalStateException", Cond.initialized "java/lang/IllegalStateException", Cond.fieldLink RX1 15 "WorthCache" "capacity" "I", Cond.methodLink RX1 29 yX1_requireWithin, Cond.static yX1_requireWithin, Cond.initialized RX1, Cond.code yX1_requireWithin cX1_requireWithin 3 none, Cond.classLink RX1 151 "java/lang/IllegalArgumentException", Cond.initialized "java/lang/IllegalArgumentException", Cond.methodLink RX1 68 yX1_bytesThatCannotLeave, Cond.instanceMethod yX1_bytesThatCannotLeave, Cond.selects RX1 yX1_bytesThatCannotLeave yX1_bytesThatCannotLeave, Cond.code yX1_bytesThatCannotLeave cX1_bytesThatCannotLeave 6 (some .int), Cond.fieldLink RX1 11 "WorthCache" "slots" "[LWorthCache$Slot;", Cond.methodLink RX1 37 yX1_hasEnded, Cond.instanceMethod yX1_hasEnded, Cond.selects RX1 yX1_hasEnded yX1_hasEnded, Cond.code yX1_hasEnded cX1_hasEnded 2 (some .boolean), Cond.fieldLink RX1 55 "WorthCache" "time" "I", Cond.methodLink RX1 78 yX1_used, Cond.instanceMethod yX1_used, Cond.selects RX1 yX1_used yX1_used, Cond.code yX1_used cX1_used 6 (some .int), Cond.methodLink RX1 64 yX1_removeAllOver]
def wsX1_setCapacity_r2 : List Cond := [Cond.instanceMethod yX1_removeAllOver, Cond.selects RX1 yX1_removeAllOver yX1_removeAllOver, Cond.code yX1_removeAllOver cX1_removeAllOver 6 (some .int), Cond.fieldLink RX1 144 "WorthCache" "removedOver" "I", Cond.methodLink RX1 81 yX1_leaveDownTo, Cond.instanceMethod yX1_leaveDownTo, Cond.selects RX1 yX1_leaveDownTo yX1_leaveDownTo, Cond.code yX1_leaveDownTo cX1_leaveDownTo 4 (some .int), Cond.fieldLink RX1 123 "WorthCache" "clock" "J", Cond.methodLink RX1 188 Lib.MathLoose.max_long.x, Cond.static Lib.MathLoose.max_long.x, Cond.initialized "java/lang/Math", Cond.code Lib.MathLoose.max_long.x Lib.MathLoose.max_long.code 4 (some .long), Cond.fieldLink RX1 141 "WorthCache" "left" "I", Cond.methodLink RX1 97 yX1_firstInOrder, Cond.instanceMethod yX1_firstInOrder, Cond.selects RX1 yX1_firstInOrder yX1_firstInOrder, Cond.code yX1_firstInOrder cX1_firstInOrder 1 (some (.object "WorthCache$Slot")), Cond.methodLink RX1 101 yX1_nextInOrder, Cond.instanceMethod yX1_nextInOrder, Cond.selects RX1 yX1_nextInOrder yX1_nextInOrder, Cond.code yX1_nextInOrder cX1_nextInOrder 8 (some (.object "WorthCache$Slot")), Cond.methodLink RX1 116 yX1_leavesBefore, Cond.static yX1_leavesBefore]
def wsX1_setCapacity_r3 : List Cond := [Cond.code yX1_leavesBefore cX1_leavesBefore 2 (some .boolean), Cond.methodLink RX1 113 yX1_isInOrder, Cond.static yX1_isInOrder, Cond.code yX1_isInOrder cX1_isInOrder 1 (some .boolean)]
def wsX1_setCapacity : List Cond := .code yX1_setCapacity cX1_setCapacity 2 (some .int) :: ((wsX1_setCapacity_r1 ++ (wsX1_setCapacity_r2 ++ wsX1_setCapacity_r3)) ++ wsX10 ++ wsX00 ++ (vx_atS RX1 75 "java/lang/IllegalStateException" ["java/lang/RuntimeException", "java/lang/Exception"]).filter goodWord ++ (vx_atS RX1 155 "java/lang/IllegalArgumentException" ["java/lang/RuntimeException", "java/lang/Exception"]).filter goodWord)
def wsX1_setThreshold : List Cond := .code yX1_setThreshold cX1_setThreshold 3 (some .int) :: ([.fieldLink RX1 19 "WorthCache" "threshold" "I", .methodLink RX1 29 yX1_requireWithin, .static yX1_requireWithin, .initialized RX1, .code yX1_requireWithin cX1_requireWithin 3 none, .classLink RX1 151 "java/lang/IllegalArgumentException", .initialized "java/lang/IllegalArgumentException"] ++ wsX10 ++ (vx_atS RX1 155 "java/lang/IllegalArgumentException" ["java/lang/RuntimeException", "java/lang/Exception"]).filter goodWord)
def wsX1_has : List Cond := .code yX1_has cX1_has 2 (some .boolean) :: ([.methodLink RX1 25 yX1_slotOf, .instanceMethod yX1_slotOf, .selects RX1 yX1_slotOf yX1_slotOf, .initialized RX1, .code yX1_slotOf cX1_slotOf 2 (some (.object "WorthCache$Slot")), .classLink RX1 105 "java/lang/IndexOutOfBoundsException", .initialized "java/lang/IndexOutOfBoundsException", .fieldLink RX1 11 "WorthCache" "slots" "[LWorthCache$Slot;"] ++ wsX00 ++ wsX10 ++ (vx_atS RX1 109 "java/lang/IndexOutOfBoundsException" ["java/lang/RuntimeException", "java/lang/Exception"]).filter goodWord)
def wsX1_isOver : List Cond := .code yX1_isOver cX1_isOver 3 (some .boolean) :: ([.methodLink RX1 25 yX1_slotOf, .instanceMethod yX1_slotOf, .selects RX1 yX1_slotOf yX1_slotOf, .initialized RX1, .code yX1_slotOf cX1_slotOf 2 (some (.object "WorthCache$Slot")), .classLink RX1 105 "java/lang/IndexOutOfBoundsException", .initialized "java/lang/IndexOutOfBoundsException", .fieldLink RX1 11 "WorthCache" "slots" "[LWorthCache$Slot;", .methodLink RX1 37 yX1_hasEnded, .instanceMethod yX1_hasEnded, .selects RX1 yX1_hasEnded yX1_hasEnded, .code yX1_hasEnded cX1_hasEnded 2 (some .boolean), .fieldLink RX1 55 "WorthCache" "time" "I"] ++ wsX00 ++ wsX10 ++ (vx_atS RX1 109 "java/lang/IndexOutOfBoundsException" ["java/lang/RuntimeException", "java/lang/Exception"]).filter goodWord)
def wsX1_sizeOf : List Cond := .code yX1_sizeOf cX1_sizeOf 3 (some .int) :: ([.methodLink RX1 25 yX1_slotOf, .instanceMethod yX1_slotOf, .selects RX1 yX1_slotOf yX1_slotOf, .initialized RX1, .code yX1_slotOf cX1_slotOf 2 (some (.object "WorthCache$Slot")), .classLink RX1 105 "java/lang/IndexOutOfBoundsException", .initialized "java/lang/IndexOutOfBoundsException", .fieldLink RX1 11 "WorthCache" "slots" "[LWorthCache$Slot;"] ++ wsX00 ++ wsX10 ++ (vx_atS RX1 109 "java/lang/IndexOutOfBoundsException" ["java/lang/RuntimeException", "java/lang/Exception"]).filter goodWord)
def wsX1_frequencyOf : List Cond := .code yX1_frequencyOf cX1_frequencyOf 3 (some .int) :: ([.methodLink RX1 25 yX1_slotOf, .instanceMethod yX1_slotOf, .selects RX1 yX1_slotOf yX1_slotOf, .initialized RX1, .code yX1_slotOf cX1_slotOf 2 (some (.object "WorthCache$Slot")), .classLink RX1 105 "java/lang/IndexOutOfBoundsException", .initialized "java/lang/IndexOutOfBoundsException", .fieldLink RX1 11 "WorthCache" "slots" "[LWorthCache$Slot;"] ++ wsX00 ++ wsX10 ++ (vx_atS RX1 109 "java/lang/IndexOutOfBoundsException" ["java/lang/RuntimeException", "java/lang/Exception"]).filter goodWord)
def wsX1_worthOf : List Cond := .code yX1_worthOf cX1_worthOf 3 (some .long) :: ([.constantLong RX1 92 (-1), .methodLink RX1 25 yX1_slotOf, .instanceMethod yX1_slotOf, .selects RX1 yX1_slotOf yX1_slotOf, .initialized RX1, .code yX1_slotOf cX1_slotOf 2 (some (.object "WorthCache$Slot")), .classLink RX1 105 "java/lang/IndexOutOfBoundsException", .initialized "java/lang/IndexOutOfBoundsException", .fieldLink RX1 11 "WorthCache" "slots" "[LWorthCache$Slot;"] ++ wsX00 ++ wsX10 ++ (vx_atS RX1 109 "java/lang/IndexOutOfBoundsException" ["java/lang/RuntimeException", "java/lang/Exception"]).filter goodWord)
def wsX1_endOf : List Cond := .code yX1_endOf cX1_endOf 3 (some .int) :: ([.methodLink RX1 25 yX1_slotOf, .instanceMethod yX1_slotOf, .selects RX1 yX1_slotOf yX1_slotOf, .initialized RX1, .code yX1_slotOf cX1_slotOf 2 (some (.object "WorthCache$Slot")), .classLink RX1 105 "java/lang/IndexOutOfBoundsException", .initialized "java/lang/IndexOutOfBoundsException", .fieldLink RX1 11 "WorthCache" "slots" "[LWorthCache$Slot;"] ++ wsX00 ++ wsX10 ++ (vx_atS RX1 109 "java/lang/IndexOutOfBoundsException" ["java/lang/RuntimeException", "java/lang/Exception"]).filter goodWord)
def wsX1_leaving : List Cond := .code yX1_leaving cX1_leaving 4 (some .int) :: ([.classLink RX1 105 "java/lang/IndexOutOfBoundsException", .initialized "java/lang/IndexOutOfBoundsException", .methodLink RX1 97 yX1_firstInOrder, .instanceMethod yX1_firstInOrder, .selects RX1 yX1_firstInOrder yX1_firstInOrder, .initialized RX1, .code yX1_firstInOrder cX1_firstInOrder 1 (some (.object "WorthCache$Slot")), .methodLink RX1 101 yX1_nextInOrder, .instanceMethod yX1_nextInOrder, .selects RX1 yX1_nextInOrder yX1_nextInOrder, .code yX1_nextInOrder cX1_nextInOrder 8 (some (.object "WorthCache$Slot")), .fieldLink RX1 11 "WorthCache" "slots" "[LWorthCache$Slot;", .methodLink RX1 116 yX1_leavesBefore, .static yX1_leavesBefore, .code yX1_leavesBefore cX1_leavesBefore 2 (some .boolean), .methodLink RX1 113 yX1_isInOrder, .static yX1_isInOrder, .code yX1_isInOrder cX1_isInOrder 1 (some .boolean)] ++ wsX00 ++ wsX10 ++ (vx_atS RX1 109 "java/lang/IndexOutOfBoundsException" ["java/lang/RuntimeException", "java/lang/Exception"]).filter goodWord)
def wsX1_placeOf : List Cond := .code yX1_placeOf cX1_placeOf 8 (some .int) :: ([.fieldLink RX1 11 "WorthCache" "slots" "[LWorthCache$Slot;", .methodLink RX1 25 yX1_slotOf, .instanceMethod yX1_slotOf, .selects RX1 yX1_slotOf yX1_slotOf, .initialized RX1, .code yX1_slotOf cX1_slotOf 2 (some (.object "WorthCache$Slot")), .classLink RX1 105 "java/lang/IndexOutOfBoundsException", .initialized "java/lang/IndexOutOfBoundsException", .methodLink RX1 113 yX1_isInOrder, .static yX1_isInOrder, .code yX1_isInOrder cX1_isInOrder 1 (some .boolean), .methodLink RX1 116 yX1_leavesBefore, .static yX1_leavesBefore, .code yX1_leavesBefore cX1_leavesBefore 2 (some .boolean)] ++ wsX10 ++ wsX00 ++ (vx_atS RX1 109 "java/lang/IndexOutOfBoundsException" ["java/lang/RuntimeException", "java/lang/Exception"]).filter goodWord)
def wsX1_endsFirst : List Cond := .code yX1_endsFirst cX1_endsFirst 6 (some .int) :: ([.fieldLink RX1 11 "WorthCache" "slots" "[LWorthCache$Slot;"] ++ wsX10 ++ wsX00)
def wsX1_bytesNotOver : List Cond := .code yX1_bytesNotOver cX1_bytesNotOver 6 (some .int) :: ([.fieldLink RX1 11 "WorthCache" "slots" "[LWorthCache$Slot;", .methodLink RX1 37 yX1_hasEnded, .instanceMethod yX1_hasEnded, .selects RX1 yX1_hasEnded yX1_hasEnded, .initialized RX1, .code yX1_hasEnded cX1_hasEnded 2 (some .boolean), .fieldLink RX1 55 "WorthCache" "time" "I"] ++ wsX10 ++ wsX00)
def wsX1_countThatWouldLeave_r1 : List Cond := [Cond.fieldLink RX1 15 "WorthCache" "capacity" "I", Cond.methodLink RX1 194 yX1_bytesNotOver, Cond.instanceMethod yX1_bytesNotOver, Cond.selects RX1 yX1_bytesNotOver yX1_bytesNotOver, Cond.initialized RX1, Cond.code yX1_bytesNotOver cX1_bytesNotOver 6 (some .int), Cond.fieldLink RX1 11 "WorthCache" "slots" "[LWorthCache$Slot;", Cond.methodLink RX1 37 yX1_hasEnded, Cond.instanceMethod yX1_hasEnded, Cond.selects RX1 yX1_hasEnded yX1_hasEnded, Cond.code yX1_hasEnded cX1_hasEnded 2 (some .boolean), Cond.fieldLink RX1 55 "WorthCache" "time" "I", Cond.methodLink RX1 97 yX1_firstInOrder, Cond.instanceMethod yX1_firstInOrder, Cond.selects RX1 yX1_firstInOrder yX1_firstInOrder, Cond.code yX1_firstInOrder cX1_firstInOrder 1 (some (.object "WorthCache$Slot")), Cond.methodLink RX1 101 yX1_nextInOrder, Cond.instanceMethod yX1_nextInOrder, Cond.selects RX1 yX1_nextInOrder yX1_nextInOrder, Cond.code yX1_nextInOrder cX1_nextInOrder 8 (some (.object "WorthCache$Slot")), Cond.methodLink RX1 116 yX1_leavesBefore, Cond.static yX1_leavesBefore, Cond.code yX1_leavesBefore cX1_leavesBefore 2 (some .boolean), Cond.methodLink RX1 113 yX1_isInOrder]
def wsX1_countThatWouldLeave_r2 : List Cond := [Cond.static yX1_isInOrder, Cond.code yX1_isInOrder cX1_isInOrder 1 (some .boolean)]
def wsX1_countThatWouldLeave : List Cond := .code yX1_countThatWouldLeave cX1_countThatWouldLeave 6 (some .int) :: ((wsX1_countThatWouldLeave_r1 ++ wsX1_countThatWouldLeave_r2) ++ wsX10 ++ wsX00)
def wsX1_wouldLeave_r1 : List Cond := [Cond.fieldLink RX1 15 "WorthCache" "capacity" "I", Cond.methodLink RX1 29 yX1_requireWithin, Cond.static yX1_requireWithin, Cond.initialized RX1, Cond.code yX1_requireWithin cX1_requireWithin 3 none, Cond.classLink RX1 151 "java/lang/IllegalArgumentException", Cond.initialized "java/lang/IllegalArgumentException", Cond.methodLink RX1 68 yX1_bytesThatCannotLeave, Cond.instanceMethod yX1_bytesThatCannotLeave, Cond.selects RX1 yX1_bytesThatCannotLeave yX1_bytesThatCannotLeave, Cond.code yX1_bytesThatCannotLeave cX1_bytesThatCannotLeave 6 (some .int), Cond.fieldLink RX1 11 "WorthCache" "slots" "[LWorthCache$Slot;", Cond.methodLink RX1 37 yX1_hasEnded, Cond.instanceMethod yX1_hasEnded, Cond.selects RX1 yX1_hasEnded yX1_hasEnded, Cond.code yX1_hasEnded cX1_hasEnded 2 (some .boolean), Cond.fieldLink RX1 55 "WorthCache" "time" "I", Cond.methodLink RX1 120 yX1_countThatWouldLeave, Cond.instanceMethod yX1_countThatWouldLeave, Cond.selects RX1 yX1_countThatWouldLeave yX1_countThatWouldLeave, Cond.code yX1_countThatWouldLeave cX1_countThatWouldLeave 6 (some .int), Cond.methodLink RX1 194 yX1_bytesNotOver, Cond.instanceMethod yX1_bytesNotOver, Cond.selects RX1 yX1_bytesNotOver yX1_bytesNotOver]
def wsX1_wouldLeave_r2 : List Cond := [Cond.code yX1_bytesNotOver cX1_bytesNotOver 6 (some .int), Cond.methodLink RX1 97 yX1_firstInOrder, Cond.instanceMethod yX1_firstInOrder, Cond.selects RX1 yX1_firstInOrder yX1_firstInOrder, Cond.code yX1_firstInOrder cX1_firstInOrder 1 (some (.object "WorthCache$Slot")), Cond.methodLink RX1 101 yX1_nextInOrder, Cond.instanceMethod yX1_nextInOrder, Cond.selects RX1 yX1_nextInOrder yX1_nextInOrder, Cond.code yX1_nextInOrder cX1_nextInOrder 8 (some (.object "WorthCache$Slot")), Cond.methodLink RX1 116 yX1_leavesBefore, Cond.static yX1_leavesBefore, Cond.code yX1_leavesBefore cX1_leavesBefore 2 (some .boolean), Cond.methodLink RX1 113 yX1_isInOrder, Cond.static yX1_isInOrder, Cond.code yX1_isInOrder cX1_isInOrder 1 (some .boolean)]
def wsX1_wouldLeave : List Cond := .code yX1_wouldLeave cX1_wouldLeave 2 (some .int) :: ((wsX1_wouldLeave_r1 ++ wsX1_wouldLeave_r2) ++ wsX10 ++ wsX00 ++ (vx_atS RX1 155 "java/lang/IllegalArgumentException" ["java/lang/RuntimeException", "java/lang/Exception"]).filter goodWord)
def wsX1_time : List Cond := .code yX1_time cX1_time 1 (some .int) :: ([.fieldLink RX1 55 "WorthCache" "time" "I"] ++ wsX10)
def wsX1_clock : List Cond := .code yX1_clock cX1_clock 1 (some .long) :: ([.fieldLink RX1 123 "WorthCache" "clock" "J"] ++ wsX10)
def wsX1_capacity : List Cond := .code yX1_capacity cX1_capacity 1 (some .int) :: ([.fieldLink RX1 15 "WorthCache" "capacity" "I"] ++ wsX10)
def wsX1_entries : List Cond := .code yX1_entries cX1_entries 6 (some .int) :: ([.fieldLink RX1 11 "WorthCache" "slots" "[LWorthCache$Slot;"] ++ wsX10 ++ wsX00)
def wsX1_hits : List Cond := .code yX1_hits cX1_hits 1 (some .int) :: ([.fieldLink RX1 126 "WorthCache" "hits" "I"] ++ wsX10)
def wsX1_misses : List Cond := .code yX1_misses cX1_misses 1 (some .int) :: ([.fieldLink RX1 129 "WorthCache" "misses" "I"] ++ wsX10)
def wsX1_bytesHit : List Cond := .code yX1_bytesHit cX1_bytesHit 1 (some .long) :: ([.fieldLink RX1 132 "WorthCache" "bytesHit" "J"] ++ wsX10)
def wsX1_saved : List Cond := .code yX1_saved cX1_saved 1 (some .long) :: ([.fieldLink RX1 135 "WorthCache" "saved" "J"] ++ wsX10)
def wsX1_paid : List Cond := .code yX1_paid cX1_paid 1 (some .long) :: ([.fieldLink RX1 138 "WorthCache" "paid" "J"] ++ wsX10)
def wsX1_left : List Cond := .code yX1_left cX1_left 1 (some .int) :: ([.fieldLink RX1 141 "WorthCache" "left" "I"] ++ wsX10)
def wsX1_removedOver : List Cond := .code yX1_removedOver cX1_removedOver 1 (some .int) :: ([.fieldLink RX1 144 "WorthCache" "removedOver" "I"] ++ wsX10)
def wsJ9_max_f86c9 : List Cond := .code yJ9_max_f86c9 cJ9_max_f86c9 4 (some .long) :: ([])
def wsL_used : List Cond := .code yL_used cL_used 3 (some .int) :: ([])
def wsL_takeOut : List Cond := .code yL_takeOut cL_takeOut 5 none :: ([])
def wsL_putIn : List Cond := .code yL_putIn cL_putIn 5 none :: ([])
def wsL_removes : List Cond := .code yL_removes cL_removes 4 none :: ([.methodLink RL 7 yL_takeOut, .static yL_takeOut, .initialized RL, .code yL_takeOut cL_takeOut 5 none])
def wsL_clears : List Cond := .code yL_clears cL_clears 6 (some .int) :: ([.methodLink RL 13 yL_removes, .static yL_removes, .initialized RL, .code yL_removes cL_removes 4 none, .methodLink RL 7 yL_takeOut, .static yL_takeOut, .code yL_takeOut cL_takeOut 5 none])
def wsL_leaves : List Cond := .code yL_leaves cL_leaves 6 none :: ([.methodLink RL 13 yL_removes, .static yL_removes, .initialized RL, .code yL_removes cL_removes 4 none, .methodLink RL 7 yL_takeOut, .static yL_takeOut, .code yL_takeOut cL_takeOut 5 none])
def wsL_counts : List Cond := .code yL_counts cL_counts 8 none :: ([.constantLong RL 17 (1000), .methodLink RL 7 yL_takeOut, .static yL_takeOut, .initialized RL, .code yL_takeOut cL_takeOut 5 none])
def wsL_pinned : List Cond := .code yL_pinned cL_pinned 7 (some .int) :: ([])
def wsL_fetches_r1 : List Cond := [Cond.methodLink RL 19 yL_counts, Cond.static yL_counts, Cond.initialized RL, Cond.code yL_counts cL_counts 8 none, Cond.constantLong RL 17 (1000), Cond.methodLink RL 7 yL_takeOut, Cond.static yL_takeOut, Cond.code yL_takeOut cL_takeOut 5 none, Cond.methodLink RL 23 yL_putIn, Cond.static yL_putIn, Cond.code yL_putIn cL_putIn 5 none, Cond.methodLink RL 13 yL_removes, Cond.static yL_removes, Cond.code yL_removes cL_removes 4 none, Cond.methodLink RL 27 yL_used, Cond.static yL_used, Cond.code yL_used cL_used 3 (some .int), Cond.methodLink RL 31 yL_clears, Cond.static yL_clears, Cond.code yL_clears cL_clears 6 (some .int), Cond.methodLink RL 35 yL_pinned, Cond.static yL_pinned, Cond.code yL_pinned cL_pinned 7 (some .int), Cond.methodLink RL 39 yL_leaves]
def wsL_fetches_r2 : List Cond := [Cond.static yL_leaves, Cond.code yL_leaves cL_leaves 6 none]
def wsL_fetches : List Cond := .code yL_fetches cL_fetches 15 (some .int) :: ((wsL_fetches_r1 ++ wsL_fetches_r2))
def wsL_would : List Cond := .code yL_would cL_would 9 (some .int) :: ([.methodLink RL 27 yL_used, .static yL_used, .initialized RL, .code yL_used cL_used 3 (some .int)])
def wsL_told_r1 : List Cond := [Cond.classLink RL 59 "java/lang/IllegalStateException", Cond.methodLink RL 43 yX1_pin, Cond.instanceMethod yX1_pin, Cond.selects RX1 yX1_pin yX1_pin, Cond.initialized RX1, Cond.code yX1_pin cX1_pin 5 (some .boolean), Cond.methodLink RX1 58 yX1_filledSlotOf, Cond.instanceMethod yX1_filledSlotOf, Cond.selects RX1 yX1_filledSlotOf yX1_filledSlotOf, Cond.code yX1_filledSlotOf cX1_filledSlotOf 3 (some (.object "WorthCache$Slot")), Cond.classLink RX1 71 "java/lang/IllegalStateException", Cond.initialized "java/lang/IllegalStateException", Cond.methodLink RX1 25 yX1_slotOf, Cond.instanceMethod yX1_slotOf, Cond.selects RX1 yX1_slotOf yX1_slotOf, Cond.code yX1_slotOf cX1_slotOf 2 (some (.object "WorthCache$Slot")), Cond.classLink RX1 105 "java/lang/IndexOutOfBoundsException", Cond.initialized "java/lang/IndexOutOfBoundsException", Cond.fieldLink RX1 11 "WorthCache" "slots" "[LWorthCache$Slot;", Cond.methodLink RL 49 yX1_drop, Cond.instanceMethod yX1_drop, Cond.selects RX1 yX1_drop yX1_drop, Cond.code yX1_drop cX1_drop 3 (some .int), Cond.methodLink RL 53 yX1_setCapacity]
def wsL_told_r2 : List Cond := [Cond.instanceMethod yX1_setCapacity, Cond.selects RX1 yX1_setCapacity yX1_setCapacity, Cond.code yX1_setCapacity cX1_setCapacity 2 (some .int), Cond.fieldLink RX1 15 "WorthCache" "capacity" "I", Cond.methodLink RX1 29 yX1_requireWithin, Cond.static yX1_requireWithin, Cond.code yX1_requireWithin cX1_requireWithin 3 none, Cond.classLink RX1 151 "java/lang/IllegalArgumentException", Cond.initialized "java/lang/IllegalArgumentException", Cond.methodLink RX1 68 yX1_bytesThatCannotLeave, Cond.instanceMethod yX1_bytesThatCannotLeave, Cond.selects RX1 yX1_bytesThatCannotLeave yX1_bytesThatCannotLeave, Cond.code yX1_bytesThatCannotLeave cX1_bytesThatCannotLeave 6 (some .int), Cond.methodLink RX1 37 yX1_hasEnded, Cond.instanceMethod yX1_hasEnded, Cond.selects RX1 yX1_hasEnded yX1_hasEnded, Cond.code yX1_hasEnded cX1_hasEnded 2 (some .boolean), Cond.fieldLink RX1 55 "WorthCache" "time" "I", Cond.methodLink RX1 78 yX1_used, Cond.instanceMethod yX1_used, Cond.selects RX1 yX1_used yX1_used, Cond.code yX1_used cX1_used 6 (some .int), Cond.methodLink RX1 64 yX1_removeAllOver, Cond.instanceMethod yX1_removeAllOver]
def wsL_told_r3 : List Cond := [Cond.selects RX1 yX1_removeAllOver yX1_removeAllOver, Cond.code yX1_removeAllOver cX1_removeAllOver 6 (some .int), Cond.fieldLink RX1 144 "WorthCache" "removedOver" "I", Cond.methodLink RX1 81 yX1_leaveDownTo, Cond.instanceMethod yX1_leaveDownTo, Cond.selects RX1 yX1_leaveDownTo yX1_leaveDownTo, Cond.code yX1_leaveDownTo cX1_leaveDownTo 4 (some .int), Cond.fieldLink RX1 123 "WorthCache" "clock" "J", Cond.methodLink RX1 188 Lib.MathLoose.max_long.x, Cond.static Lib.MathLoose.max_long.x, Cond.initialized "java/lang/Math", Cond.code Lib.MathLoose.max_long.x Lib.MathLoose.max_long.code 4 (some .long), Cond.fieldLink RX1 141 "WorthCache" "left" "I", Cond.methodLink RX1 97 yX1_firstInOrder, Cond.instanceMethod yX1_firstInOrder, Cond.selects RX1 yX1_firstInOrder yX1_firstInOrder, Cond.code yX1_firstInOrder cX1_firstInOrder 1 (some (.object "WorthCache$Slot")), Cond.methodLink RX1 101 yX1_nextInOrder, Cond.instanceMethod yX1_nextInOrder, Cond.selects RX1 yX1_nextInOrder yX1_nextInOrder, Cond.code yX1_nextInOrder cX1_nextInOrder 8 (some (.object "WorthCache$Slot")), Cond.methodLink RX1 116 yX1_leavesBefore, Cond.static yX1_leavesBefore, Cond.code yX1_leavesBefore cX1_leavesBefore 2 (some .boolean)]
def wsL_told_r4 : List Cond := [Cond.methodLink RX1 113 yX1_isInOrder, Cond.static yX1_isInOrder, Cond.code yX1_isInOrder cX1_isInOrder 1 (some .boolean), Cond.methodLink RL 56 yX1_setThreshold, Cond.instanceMethod yX1_setThreshold, Cond.selects RX1 yX1_setThreshold yX1_setThreshold, Cond.code yX1_setThreshold cX1_setThreshold 3 (some .int), Cond.fieldLink RX1 19 "WorthCache" "threshold" "I"]
def wsL_told : List Cond := .codeWith yL_told cL_told 5 (some .int) [(0, 61, 62, 59)] :: ((wsL_told_r1 ++ (wsL_told_r2 ++ (wsL_told_r3 ++ wsL_told_r4))) ++ wsX00 ++ wsX10 ++ (vx_atS RX1 75 "java/lang/IllegalStateException" ["java/lang/RuntimeException", "java/lang/Exception"]).filter goodWord ++ (vx_atS RX1 109 "java/lang/IndexOutOfBoundsException" ["java/lang/RuntimeException", "java/lang/Exception"]).filter goodWord ++ (vx_atS RX1 155 "java/lang/IllegalArgumentException" ["java/lang/RuntimeException", "java/lang/Exception"]).filter goodWord)
def wsL_order : List Cond := .codeWith yL_order cL_order 3 (some .int) [(0, 5, 6, 64)] :: ([.classLink RL 64 "java/lang/IndexOutOfBoundsException", .methodLink RL 61 yX1_leaving, .instanceMethod yX1_leaving, .selects RX1 yX1_leaving yX1_leaving, .initialized RX1, .code yX1_leaving cX1_leaving 4 (some .int), .classLink RX1 105 "java/lang/IndexOutOfBoundsException", .initialized "java/lang/IndexOutOfBoundsException", .methodLink RX1 97 yX1_firstInOrder, .instanceMethod yX1_firstInOrder, .selects RX1 yX1_firstInOrder yX1_firstInOrder, .code yX1_firstInOrder cX1_firstInOrder 1 (some (.object "WorthCache$Slot")), .methodLink RX1 101 yX1_nextInOrder, .instanceMethod yX1_nextInOrder, .selects RX1 yX1_nextInOrder yX1_nextInOrder, .code yX1_nextInOrder cX1_nextInOrder 8 (some (.object "WorthCache$Slot")), .fieldLink RX1 11 "WorthCache" "slots" "[LWorthCache$Slot;", .methodLink RX1 116 yX1_leavesBefore, .static yX1_leavesBefore, .code yX1_leavesBefore cX1_leavesBefore 2 (some .boolean), .methodLink RX1 113 yX1_isInOrder, .static yX1_isInOrder, .code yX1_isInOrder cX1_isInOrder 1 (some .boolean)] ++ wsX00 ++ wsX10 ++ (vx_atS RX1 109 "java/lang/IndexOutOfBoundsException" ["java/lang/RuntimeException", "java/lang/Exception"]).filter goodWord)
def wsL_isCache_r1 : List Cond := [Cond.constantLong RL 117 (-1), Cond.methodLink RL 66 yX1_time, Cond.instanceMethod yX1_time, Cond.selects RX1 yX1_time yX1_time, Cond.initialized RX1, Cond.code yX1_time cX1_time 1 (some .int), Cond.fieldLink RX1 55 "WorthCache" "time" "I", Cond.methodLink RL 70 yX1_capacity, Cond.instanceMethod yX1_capacity, Cond.selects RX1 yX1_capacity yX1_capacity, Cond.code yX1_capacity cX1_capacity 1 (some .int), Cond.fieldLink RX1 15 "WorthCache" "capacity" "I", Cond.methodLink RL 73 yX1_hits, Cond.instanceMethod yX1_hits, Cond.selects RX1 yX1_hits yX1_hits, Cond.code yX1_hits cX1_hits 1 (some .int), Cond.fieldLink RX1 126 "WorthCache" "hits" "I", Cond.methodLink RL 76 yX1_misses, Cond.instanceMethod yX1_misses, Cond.selects RX1 yX1_misses yX1_misses, Cond.code yX1_misses cX1_misses 1 (some .int), Cond.fieldLink RX1 129 "WorthCache" "misses" "I", Cond.methodLink RL 79 yX1_left, Cond.instanceMethod yX1_left]
def wsL_isCache_r2 : List Cond := [Cond.selects RX1 yX1_left yX1_left, Cond.code yX1_left cX1_left 1 (some .int), Cond.fieldLink RX1 141 "WorthCache" "left" "I", Cond.methodLink RL 82 yX1_removedOver, Cond.instanceMethod yX1_removedOver, Cond.selects RX1 yX1_removedOver yX1_removedOver, Cond.code yX1_removedOver cX1_removedOver 1 (some .int), Cond.fieldLink RX1 144 "WorthCache" "removedOver" "I", Cond.methodLink RL 85 yX1_clock, Cond.instanceMethod yX1_clock, Cond.selects RX1 yX1_clock yX1_clock, Cond.code yX1_clock cX1_clock 1 (some .long), Cond.fieldLink RX1 123 "WorthCache" "clock" "J", Cond.methodLink RL 89 yX1_bytesHit, Cond.instanceMethod yX1_bytesHit, Cond.selects RX1 yX1_bytesHit yX1_bytesHit, Cond.code yX1_bytesHit cX1_bytesHit 1 (some .long), Cond.fieldLink RX1 132 "WorthCache" "bytesHit" "J", Cond.methodLink RL 92 yX1_saved, Cond.instanceMethod yX1_saved, Cond.selects RX1 yX1_saved yX1_saved, Cond.code yX1_saved cX1_saved 1 (some .long), Cond.fieldLink RX1 135 "WorthCache" "saved" "J", Cond.methodLink RL 95 yX1_paid]
def wsL_isCache_r3 : List Cond := [Cond.instanceMethod yX1_paid, Cond.selects RX1 yX1_paid yX1_paid, Cond.code yX1_paid cX1_paid 1 (some .long), Cond.fieldLink RX1 138 "WorthCache" "paid" "J", Cond.methodLink RL 98 yX1_used, Cond.instanceMethod yX1_used, Cond.selects RX1 yX1_used yX1_used, Cond.code yX1_used cX1_used 6 (some .int), Cond.fieldLink RX1 11 "WorthCache" "slots" "[LWorthCache$Slot;", Cond.methodLink RL 27 yL_used, Cond.static yL_used, Cond.initialized RL, Cond.code yL_used cL_used 3 (some .int), Cond.methodLink RL 100 yX1_has, Cond.instanceMethod yX1_has, Cond.selects RX1 yX1_has yX1_has, Cond.code yX1_has cX1_has 2 (some .boolean), Cond.methodLink RX1 25 yX1_slotOf, Cond.instanceMethod yX1_slotOf, Cond.selects RX1 yX1_slotOf yX1_slotOf, Cond.code yX1_slotOf cX1_slotOf 2 (some (.object "WorthCache$Slot")), Cond.classLink RX1 105 "java/lang/IndexOutOfBoundsException", Cond.initialized "java/lang/IndexOutOfBoundsException", Cond.methodLink RL 104 yX1_isOver]
def wsL_isCache_r4 : List Cond := [Cond.instanceMethod yX1_isOver, Cond.selects RX1 yX1_isOver yX1_isOver, Cond.code yX1_isOver cX1_isOver 3 (some .boolean), Cond.methodLink RX1 37 yX1_hasEnded, Cond.instanceMethod yX1_hasEnded, Cond.selects RX1 yX1_hasEnded yX1_hasEnded, Cond.code yX1_hasEnded cX1_hasEnded 2 (some .boolean), Cond.methodLink RL 107 yX1_sizeOf, Cond.instanceMethod yX1_sizeOf, Cond.selects RX1 yX1_sizeOf yX1_sizeOf, Cond.code yX1_sizeOf cX1_sizeOf 3 (some .int), Cond.methodLink RL 110 yX1_frequencyOf, Cond.instanceMethod yX1_frequencyOf, Cond.selects RX1 yX1_frequencyOf yX1_frequencyOf, Cond.code yX1_frequencyOf cX1_frequencyOf 3 (some .int), Cond.methodLink RL 113 yX1_worthOf, Cond.instanceMethod yX1_worthOf, Cond.selects RX1 yX1_worthOf yX1_worthOf, Cond.code yX1_worthOf cX1_worthOf 3 (some .long), Cond.constantLong RX1 92 (-1), Cond.methodLink RL 119 yX1_endOf, Cond.instanceMethod yX1_endOf, Cond.selects RX1 yX1_endOf yX1_endOf, Cond.code yX1_endOf cX1_endOf 3 (some .int)]
def wsL_isCache_r5 : List Cond := [Cond.methodLink RL 122 yX1_placeOf, Cond.instanceMethod yX1_placeOf, Cond.selects RX1 yX1_placeOf yX1_placeOf, Cond.code yX1_placeOf cX1_placeOf 8 (some .int), Cond.methodLink RX1 113 yX1_isInOrder, Cond.static yX1_isInOrder, Cond.code yX1_isInOrder cX1_isInOrder 1 (some .boolean), Cond.methodLink RX1 116 yX1_leavesBefore, Cond.static yX1_leavesBefore, Cond.code yX1_leavesBefore cX1_leavesBefore 2 (some .boolean), Cond.methodLink RL 125 yL_order, Cond.static yL_order, Cond.codeWith yL_order cL_order 3 (some .int) [(0, 5, 6, 64)], Cond.classLink RL 64 "java/lang/IndexOutOfBoundsException", Cond.methodLink RL 61 yX1_leaving, Cond.instanceMethod yX1_leaving, Cond.selects RX1 yX1_leaving yX1_leaving, Cond.code yX1_leaving cX1_leaving 4 (some .int), Cond.methodLink RX1 97 yX1_firstInOrder, Cond.instanceMethod yX1_firstInOrder, Cond.selects RX1 yX1_firstInOrder yX1_firstInOrder, Cond.code yX1_firstInOrder cX1_firstInOrder 1 (some (.object "WorthCache$Slot")), Cond.methodLink RX1 101 yX1_nextInOrder, Cond.instanceMethod yX1_nextInOrder]
def wsL_isCache_r6 : List Cond := [Cond.selects RX1 yX1_nextInOrder yX1_nextInOrder, Cond.code yX1_nextInOrder cX1_nextInOrder 8 (some (.object "WorthCache$Slot")), Cond.methodLink RL 129 yX1_entries, Cond.instanceMethod yX1_entries, Cond.selects RX1 yX1_entries yX1_entries, Cond.code yX1_entries cX1_entries 6 (some .int), Cond.methodLink RL 132 yX1_endsFirst, Cond.instanceMethod yX1_endsFirst, Cond.selects RX1 yX1_endsFirst yX1_endsFirst, Cond.code yX1_endsFirst cX1_endsFirst 6 (some .int), Cond.methodLink RL 135 yX1_wouldLeave, Cond.instanceMethod yX1_wouldLeave, Cond.selects RX1 yX1_wouldLeave yX1_wouldLeave, Cond.code yX1_wouldLeave cX1_wouldLeave 2 (some .int), Cond.methodLink RX1 29 yX1_requireWithin, Cond.static yX1_requireWithin, Cond.code yX1_requireWithin cX1_requireWithin 3 none, Cond.classLink RX1 151 "java/lang/IllegalArgumentException", Cond.initialized "java/lang/IllegalArgumentException", Cond.methodLink RX1 68 yX1_bytesThatCannotLeave, Cond.instanceMethod yX1_bytesThatCannotLeave, Cond.selects RX1 yX1_bytesThatCannotLeave yX1_bytesThatCannotLeave, Cond.code yX1_bytesThatCannotLeave cX1_bytesThatCannotLeave 6 (some .int), Cond.methodLink RX1 120 yX1_countThatWouldLeave]
def wsL_isCache_r7 : List Cond := [Cond.instanceMethod yX1_countThatWouldLeave, Cond.selects RX1 yX1_countThatWouldLeave yX1_countThatWouldLeave, Cond.code yX1_countThatWouldLeave cX1_countThatWouldLeave 6 (some .int), Cond.methodLink RX1 194 yX1_bytesNotOver, Cond.instanceMethod yX1_bytesNotOver, Cond.selects RX1 yX1_bytesNotOver yX1_bytesNotOver, Cond.code yX1_bytesNotOver cX1_bytesNotOver 6 (some .int), Cond.methodLink RL 138 yL_would, Cond.static yL_would, Cond.code yL_would cL_would 9 (some .int)]
def wsL_isCache : List Cond := .code yL_isCache cL_isCache 17 (some .boolean) :: ((wsL_isCache_r1 ++ (wsL_isCache_r2 ++ (wsL_isCache_r3 ++ (wsL_isCache_r4 ++ (wsL_isCache_r5 ++ (wsL_isCache_r6 ++ wsL_isCache_r7)))))) ++ wsX10 ++ wsX00 ++ (vx_atS RX1 109 "java/lang/IndexOutOfBoundsException" ["java/lang/RuntimeException", "java/lang/Exception"]).filter goodWord ++ (vx_atS RX1 155 "java/lang/IllegalArgumentException" ["java/lang/RuntimeException", "java/lang/Exception"]).filter goodWord)
def wsL_law0_r1 : List Cond := [Cond.classLink RL 44 RX1, Cond.instantiable RX1 13, Cond.initialized RX1, Cond.arrayClass .int, Cond.arrayClass .long, Cond.constant RL 147 (2147483647), Cond.constant RL 148 (50131), Cond.methodLink RL 142 yX1_init, Cond.instanceMethod yX1_init, Cond.code yX1_init cX1_init 2 none, Cond.methodLink RX1 1 objectInit, Cond.instanceMethod objectInit, Cond.code objectInit ⟨#[0xb1]⟩ 1 none, Cond.classLink RX1 9 RX0, Cond.fieldLink RX1 11 "WorthCache" "slots" "[LWorthCache$Slot;", Cond.fieldLink RX1 15 "WorthCache" "capacity" "I", Cond.fieldLink RX1 19 "WorthCache" "threshold" "I", Cond.instantiable RX0 9, Cond.initialized RX0, Cond.instanceMethod yX0_init, Cond.code yX0_init cX0_init 2 none, Cond.methodLink RX0 3 objectInit, Cond.fieldLink RX0 9 "WorthCache$Slot" "lastMiss" "I", Cond.fieldLink RX0 15 "WorthCache$Slot" "thing" "I"]
def wsL_law0_r2 : List Cond := [Cond.methodLink RL 143 yL_isCache, Cond.static yL_isCache, Cond.initialized RL, Cond.code yL_isCache cL_isCache 17 (some .boolean), Cond.constantLong RL 117 (-1), Cond.methodLink RL 66 yX1_time, Cond.instanceMethod yX1_time, Cond.selects RX1 yX1_time yX1_time, Cond.code yX1_time cX1_time 1 (some .int), Cond.fieldLink RX1 55 "WorthCache" "time" "I", Cond.methodLink RL 70 yX1_capacity, Cond.instanceMethod yX1_capacity, Cond.selects RX1 yX1_capacity yX1_capacity, Cond.code yX1_capacity cX1_capacity 1 (some .int), Cond.methodLink RL 73 yX1_hits, Cond.instanceMethod yX1_hits, Cond.selects RX1 yX1_hits yX1_hits, Cond.code yX1_hits cX1_hits 1 (some .int), Cond.fieldLink RX1 126 "WorthCache" "hits" "I", Cond.methodLink RL 76 yX1_misses, Cond.instanceMethod yX1_misses, Cond.selects RX1 yX1_misses yX1_misses, Cond.code yX1_misses cX1_misses 1 (some .int), Cond.fieldLink RX1 129 "WorthCache" "misses" "I"]
def wsL_law0_r3 : List Cond := [Cond.methodLink RL 79 yX1_left, Cond.instanceMethod yX1_left, Cond.selects RX1 yX1_left yX1_left, Cond.code yX1_left cX1_left 1 (some .int), Cond.fieldLink RX1 141 "WorthCache" "left" "I", Cond.methodLink RL 82 yX1_removedOver, Cond.instanceMethod yX1_removedOver, Cond.selects RX1 yX1_removedOver yX1_removedOver, Cond.code yX1_removedOver cX1_removedOver 1 (some .int), Cond.fieldLink RX1 144 "WorthCache" "removedOver" "I", Cond.methodLink RL 85 yX1_clock, Cond.instanceMethod yX1_clock, Cond.selects RX1 yX1_clock yX1_clock, Cond.code yX1_clock cX1_clock 1 (some .long), Cond.fieldLink RX1 123 "WorthCache" "clock" "J", Cond.methodLink RL 89 yX1_bytesHit, Cond.instanceMethod yX1_bytesHit, Cond.selects RX1 yX1_bytesHit yX1_bytesHit, Cond.code yX1_bytesHit cX1_bytesHit 1 (some .long), Cond.fieldLink RX1 132 "WorthCache" "bytesHit" "J", Cond.methodLink RL 92 yX1_saved, Cond.instanceMethod yX1_saved, Cond.selects RX1 yX1_saved yX1_saved, Cond.code yX1_saved cX1_saved 1 (some .long)]
def wsL_law0_r4 : List Cond := [Cond.fieldLink RX1 135 "WorthCache" "saved" "J", Cond.methodLink RL 95 yX1_paid, Cond.instanceMethod yX1_paid, Cond.selects RX1 yX1_paid yX1_paid, Cond.code yX1_paid cX1_paid 1 (some .long), Cond.fieldLink RX1 138 "WorthCache" "paid" "J", Cond.methodLink RL 98 yX1_used, Cond.instanceMethod yX1_used, Cond.selects RX1 yX1_used yX1_used, Cond.code yX1_used cX1_used 6 (some .int), Cond.methodLink RL 27 yL_used, Cond.static yL_used, Cond.code yL_used cL_used 3 (some .int), Cond.methodLink RL 100 yX1_has, Cond.instanceMethod yX1_has, Cond.selects RX1 yX1_has yX1_has, Cond.code yX1_has cX1_has 2 (some .boolean), Cond.methodLink RX1 25 yX1_slotOf, Cond.instanceMethod yX1_slotOf, Cond.selects RX1 yX1_slotOf yX1_slotOf, Cond.code yX1_slotOf cX1_slotOf 2 (some (.object "WorthCache$Slot")), Cond.classLink RX1 105 "java/lang/IndexOutOfBoundsException", Cond.initialized "java/lang/IndexOutOfBoundsException", Cond.methodLink RL 104 yX1_isOver]
def wsL_law0_r5 : List Cond := [Cond.instanceMethod yX1_isOver, Cond.selects RX1 yX1_isOver yX1_isOver, Cond.code yX1_isOver cX1_isOver 3 (some .boolean), Cond.methodLink RX1 37 yX1_hasEnded, Cond.instanceMethod yX1_hasEnded, Cond.selects RX1 yX1_hasEnded yX1_hasEnded, Cond.code yX1_hasEnded cX1_hasEnded 2 (some .boolean), Cond.methodLink RL 107 yX1_sizeOf, Cond.instanceMethod yX1_sizeOf, Cond.selects RX1 yX1_sizeOf yX1_sizeOf, Cond.code yX1_sizeOf cX1_sizeOf 3 (some .int), Cond.methodLink RL 110 yX1_frequencyOf, Cond.instanceMethod yX1_frequencyOf, Cond.selects RX1 yX1_frequencyOf yX1_frequencyOf, Cond.code yX1_frequencyOf cX1_frequencyOf 3 (some .int), Cond.methodLink RL 113 yX1_worthOf, Cond.instanceMethod yX1_worthOf, Cond.selects RX1 yX1_worthOf yX1_worthOf, Cond.code yX1_worthOf cX1_worthOf 3 (some .long), Cond.constantLong RX1 92 (-1), Cond.methodLink RL 119 yX1_endOf, Cond.instanceMethod yX1_endOf, Cond.selects RX1 yX1_endOf yX1_endOf, Cond.code yX1_endOf cX1_endOf 3 (some .int)]
def wsL_law0_r6 : List Cond := [Cond.methodLink RL 122 yX1_placeOf, Cond.instanceMethod yX1_placeOf, Cond.selects RX1 yX1_placeOf yX1_placeOf, Cond.code yX1_placeOf cX1_placeOf 8 (some .int), Cond.methodLink RX1 113 yX1_isInOrder, Cond.static yX1_isInOrder, Cond.code yX1_isInOrder cX1_isInOrder 1 (some .boolean), Cond.methodLink RX1 116 yX1_leavesBefore, Cond.static yX1_leavesBefore, Cond.code yX1_leavesBefore cX1_leavesBefore 2 (some .boolean), Cond.methodLink RL 125 yL_order, Cond.static yL_order, Cond.codeWith yL_order cL_order 3 (some .int) [(0, 5, 6, 64)], Cond.classLink RL 64 "java/lang/IndexOutOfBoundsException", Cond.methodLink RL 61 yX1_leaving, Cond.instanceMethod yX1_leaving, Cond.selects RX1 yX1_leaving yX1_leaving, Cond.code yX1_leaving cX1_leaving 4 (some .int), Cond.methodLink RX1 97 yX1_firstInOrder, Cond.instanceMethod yX1_firstInOrder, Cond.selects RX1 yX1_firstInOrder yX1_firstInOrder, Cond.code yX1_firstInOrder cX1_firstInOrder 1 (some (.object "WorthCache$Slot")), Cond.methodLink RX1 101 yX1_nextInOrder, Cond.instanceMethod yX1_nextInOrder]
def wsL_law0_r7 : List Cond := [Cond.selects RX1 yX1_nextInOrder yX1_nextInOrder, Cond.code yX1_nextInOrder cX1_nextInOrder 8 (some (.object "WorthCache$Slot")), Cond.methodLink RL 129 yX1_entries, Cond.instanceMethod yX1_entries, Cond.selects RX1 yX1_entries yX1_entries, Cond.code yX1_entries cX1_entries 6 (some .int), Cond.methodLink RL 132 yX1_endsFirst, Cond.instanceMethod yX1_endsFirst, Cond.selects RX1 yX1_endsFirst yX1_endsFirst, Cond.code yX1_endsFirst cX1_endsFirst 6 (some .int), Cond.methodLink RL 135 yX1_wouldLeave, Cond.instanceMethod yX1_wouldLeave, Cond.selects RX1 yX1_wouldLeave yX1_wouldLeave, Cond.code yX1_wouldLeave cX1_wouldLeave 2 (some .int), Cond.methodLink RX1 29 yX1_requireWithin, Cond.static yX1_requireWithin, Cond.code yX1_requireWithin cX1_requireWithin 3 none, Cond.classLink RX1 151 "java/lang/IllegalArgumentException", Cond.initialized "java/lang/IllegalArgumentException", Cond.methodLink RX1 68 yX1_bytesThatCannotLeave, Cond.instanceMethod yX1_bytesThatCannotLeave, Cond.selects RX1 yX1_bytesThatCannotLeave yX1_bytesThatCannotLeave, Cond.code yX1_bytesThatCannotLeave cX1_bytesThatCannotLeave 6 (some .int), Cond.methodLink RX1 120 yX1_countThatWouldLeave]
def wsL_law0_r8 : List Cond := [Cond.instanceMethod yX1_countThatWouldLeave, Cond.selects RX1 yX1_countThatWouldLeave yX1_countThatWouldLeave, Cond.code yX1_countThatWouldLeave cX1_countThatWouldLeave 6 (some .int), Cond.methodLink RX1 194 yX1_bytesNotOver, Cond.instanceMethod yX1_bytesNotOver, Cond.selects RX1 yX1_bytesNotOver yX1_bytesNotOver, Cond.code yX1_bytesNotOver cX1_bytesNotOver 6 (some .int), Cond.methodLink RL 138 yL_would, Cond.static yL_would, Cond.code yL_would cL_would 9 (some .int), Cond.methodLink RL 149 yX1_fetch, Cond.instanceMethod yX1_fetch, Cond.selects RX1 yX1_fetch yX1_fetch, Cond.code yX1_fetch cX1_fetch 6 (some .int), Cond.methodLink RX1 44 yX1_hit, Cond.instanceMethod yX1_hit, Cond.selects RX1 yX1_hit yX1_hit, Cond.code yX1_hit cX1_hit 3 none, Cond.methodLink RX1 156 yX1_setWorth, Cond.instanceMethod yX1_setWorth, Cond.selects RX1 yX1_setWorth yX1_setWorth, Cond.code yX1_setWorth cX1_setWorth 3 none, Cond.fieldLink RX1 180 "WorthCache" "uses" "J", Cond.constantLong RX1 186 (1000)]
def wsL_law0_r9 : List Cond := [Cond.methodLink RX1 48 yX1_countMiss, Cond.instanceMethod yX1_countMiss, Cond.selects RX1 yX1_countMiss yX1_countMiss, Cond.code yX1_countMiss cX1_countMiss 2 none, Cond.methodLink RX1 51 yX1_letInIfPossible, Cond.instanceMethod yX1_letInIfPossible, Cond.selects RX1 yX1_letInIfPossible yX1_letInIfPossible, Cond.code yX1_letInIfPossible cX1_letInIfPossible 6 (some .boolean), Cond.methodLink RX1 159 yX1_wasMissedLately, Cond.instanceMethod yX1_wasMissedLately, Cond.selects RX1 yX1_wasMissedLately yX1_wasMissedLately, Cond.code yX1_wasMissedLately cX1_wasMissedLately 2 (some .boolean), Cond.methodLink RX1 165 yX1_removeOwn, Cond.instanceMethod yX1_removeOwn, Cond.selects RX1 yX1_removeOwn yX1_removeOwn, Cond.code yX1_removeOwn cX1_removeOwn 2 none, Cond.methodLink RX1 169 yX1_makeRoom, Cond.instanceMethod yX1_makeRoom, Cond.selects RX1 yX1_makeRoom yX1_makeRoom, Cond.code yX1_makeRoom cX1_makeRoom 2 (some .boolean), Cond.methodLink RX1 177 yX1_hasRoom, Cond.instanceMethod yX1_hasRoom, Cond.selects RX1 yX1_hasRoom yX1_hasRoom, Cond.code yX1_hasRoom cX1_hasRoom 2 (some .boolean)]
def wsL_law0_r10 : List Cond := [Cond.methodLink RX1 78 yX1_used, Cond.methodLink RX1 64 yX1_removeAllOver, Cond.instanceMethod yX1_removeAllOver, Cond.selects RX1 yX1_removeAllOver yX1_removeAllOver, Cond.code yX1_removeAllOver cX1_removeAllOver 6 (some .int), Cond.methodLink RX1 81 yX1_leaveDownTo, Cond.instanceMethod yX1_leaveDownTo, Cond.selects RX1 yX1_leaveDownTo yX1_leaveDownTo, Cond.code yX1_leaveDownTo cX1_leaveDownTo 4 (some .int), Cond.methodLink RX1 188 Lib.MathLoose.max_long.x, Cond.static Lib.MathLoose.max_long.x, Cond.initialized "java/lang/Math", Cond.code Lib.MathLoose.max_long.x Lib.MathLoose.max_long.code 4 (some .long), Cond.methodLink RX1 173 yX1_fill, Cond.instanceMethod yX1_fill, Cond.selects RX1 yX1_fill yX1_fill, Cond.code yX1_fill cX1_fill 5 none, Cond.methodLink RL 153 yL_fetches, Cond.static yL_fetches, Cond.code yL_fetches cL_fetches 15 (some .int), Cond.methodLink RL 19 yL_counts, Cond.static yL_counts, Cond.code yL_counts cL_counts 8 none, Cond.constantLong RL 17 (1000)]
def wsL_law0_r11 : List Cond := [Cond.methodLink RL 7 yL_takeOut, Cond.static yL_takeOut, Cond.code yL_takeOut cL_takeOut 5 none, Cond.methodLink RL 23 yL_putIn, Cond.static yL_putIn, Cond.code yL_putIn cL_putIn 5 none, Cond.methodLink RL 13 yL_removes, Cond.static yL_removes, Cond.code yL_removes cL_removes 4 none, Cond.methodLink RL 31 yL_clears, Cond.static yL_clears, Cond.code yL_clears cL_clears 6 (some .int), Cond.methodLink RL 35 yL_pinned, Cond.static yL_pinned, Cond.code yL_pinned cL_pinned 7 (some .int), Cond.methodLink RL 39 yL_leaves, Cond.static yL_leaves, Cond.code yL_leaves cL_leaves 6 none, Cond.methodLink RL 157 yX1_pass, Cond.instanceMethod yX1_pass, Cond.selects RX1 yX1_pass yX1_pass, Cond.code yX1_pass cX1_pass 2 (some .int), Cond.methodLink RL 160 yL_told, Cond.static yL_told]
def wsL_law0_r12 : List Cond := [Cond.codeWith yL_told cL_told 5 (some .int) [(0, 61, 62, 59)], Cond.classLink RL 59 "java/lang/IllegalStateException", Cond.methodLink RL 43 yX1_pin, Cond.instanceMethod yX1_pin, Cond.selects RX1 yX1_pin yX1_pin, Cond.code yX1_pin cX1_pin 5 (some .boolean), Cond.methodLink RX1 58 yX1_filledSlotOf, Cond.instanceMethod yX1_filledSlotOf, Cond.selects RX1 yX1_filledSlotOf yX1_filledSlotOf, Cond.code yX1_filledSlotOf cX1_filledSlotOf 3 (some (.object "WorthCache$Slot")), Cond.classLink RX1 71 "java/lang/IllegalStateException", Cond.initialized "java/lang/IllegalStateException", Cond.methodLink RL 49 yX1_drop, Cond.instanceMethod yX1_drop, Cond.selects RX1 yX1_drop yX1_drop, Cond.code yX1_drop cX1_drop 3 (some .int), Cond.methodLink RL 53 yX1_setCapacity, Cond.instanceMethod yX1_setCapacity, Cond.selects RX1 yX1_setCapacity yX1_setCapacity, Cond.code yX1_setCapacity cX1_setCapacity 2 (some .int), Cond.methodLink RL 56 yX1_setThreshold, Cond.instanceMethod yX1_setThreshold, Cond.selects RX1 yX1_setThreshold yX1_setThreshold, Cond.code yX1_setThreshold cX1_setThreshold 3 (some .int)]
def wsL_law0_r13 : List Cond := [Cond.methodLink RL 164 yX1_purge, Cond.instanceMethod yX1_purge, Cond.selects RX1 yX1_purge yX1_purge, Cond.code yX1_purge cX1_purge 1 (some .int)]
def wsL_law0 : List Cond := (wsL_law0_r1 ++ (wsL_law0_r2 ++ (wsL_law0_r3 ++ (wsL_law0_r4 ++ (wsL_law0_r5 ++ (wsL_law0_r6 ++ (wsL_law0_r7 ++ (wsL_law0_r8 ++ (wsL_law0_r9 ++ (wsL_law0_r10 ++ (wsL_law0_r11 ++ (wsL_law0_r12 ++ wsL_law0_r13)))))))))))) ++ wsX10 ++ wsX00 ++ ([] : List Cond)
def wsL_law : List Cond := wsL_law0 ++ (vx_atS RX1 109 "java/lang/IndexOutOfBoundsException" ["java/lang/RuntimeException", "java/lang/Exception"]).filter goodWord ++ (vx_atS RX1 155 "java/lang/IllegalArgumentException" ["java/lang/RuntimeException", "java/lang/Exception"]).filter goodWord ++ (vx_atS RX1 75 "java/lang/IllegalStateException" ["java/lang/RuntimeException", "java/lang/Exception"]).filter goodWord
abbrev vwCl : List vw_C := [(RX0, TX0, 9), (RX1, TX1, 13)]
end
section
theorem xin_t {big ws : List Cond} (ps : List Nat) (hp : ws = ps.filterMap (fun i => big[i]?)) : ∀ w ∈ ws, w ∈ big := by
  intro w hw
  rw [hp] at hw
  obtain ⟨i, -, hi⟩ := List.mem_filterMap.mp hw
  exact List.mem_of_getElem? hi
set_option maxRecDepth 20000 in
theorem wsL_law0_r1_t : ∀ w ∈ wsL_law0_r1, w ∈ lw_tbl := xin_t [30, 31, 21, 469, 470, 467, 468, 32, 33, 34, 35, 36, 37, 38, 75, 78, 79, 40, 22, 42, 43, 44, 54, 45] (by decide +kernel)
set_option maxRecDepth 20000 in
theorem wsL_law0_r2_t : ∀ w ∈ wsL_law0_r2, w ∈ lw_tbl := xin_t [361, 362, 20, 363, 426, 364, 365, 366, 367, 76, 368, 369, 370, 371, 372, 373, 374, 375, 81, 376, 377, 378, 379, 82] (by decide +kernel)
set_option maxRecDepth 20000 in
theorem wsL_law0_r3_t : ∀ w ∈ wsL_law0_r3, w ∈ lw_tbl := xin_t [380, 381, 382, 383, 86, 384, 385, 386, 387, 87, 388, 389, 390, 391, 77, 392, 393, 394, 395, 83, 396, 397, 398, 399] (by decide +kernel)
set_option maxRecDepth 20000 in
theorem wsL_law0_r4_t : ∀ w ∈ wsL_law0_r4, w ∈ lw_tbl := xin_t [84, 400, 401, 402, 403, 85, 404, 248, 249, 250, 292, 293, 294, 405, 406, 407, 408, 119, 121, 0, 122, 123, 26, 409] (by decide +kernel)
set_option maxRecDepth 20000 in
theorem wsL_law0_r5_t : ∀ w ∈ wsL_law0_r5, w ∈ lw_tbl := xin_t [410, 411, 412, 210, 212, 2, 213, 413, 414, 415, 416, 417, 418, 419, 420, 421, 422, 423, 424, 425, 427, 428, 429, 430] (by decide +kernel)
set_option maxRecDepth 20000 in
theorem wsL_law0_r6_t : ∀ w ∈ wsL_law0_r6, w ∈ lw_tbl := xin_t [431, 432, 433, 434, 274, 275, 276, 271, 272, 273, 435, 436, 437, 438, 439, 440, 441, 442, 263, 265, 14, 266, 267, 269] (by decide +kernel)
set_option maxRecDepth 20000 in
theorem wsL_law0_r7_t : ∀ w ∈ wsL_law0_r7, w ∈ lw_tbl := xin_t [15, 270, 444, 445, 446, 447, 448, 449, 450, 451, 452, 453, 454, 455, 191, 192, 193, 194, 27, 255, 257, 12, 258, 456] (by decide +kernel)
set_option maxRecDepth 20000 in
theorem wsL_law0_r8_t : ∀ w ∈ wsL_law0_r8, w ∈ lw_tbl := xin_t [458, 18, 459, 460, 462, 19, 463, 464, 465, 466, 115, 116, 117, 118, 214, 216, 3, 217, 218, 220, 4, 221, 80, 222] (by decide +kernel)
set_option maxRecDepth 20000 in
theorem wsL_law0_r9_t : ∀ w ∈ wsL_law0_r9, w ∈ lw_tbl := xin_t [223, 225, 5, 226, 227, 229, 6, 230, 231, 233, 7, 234, 235, 237, 8, 238, 239, 241, 9, 242, 243, 245, 10, 246] (by decide +kernel)
set_option maxRecDepth 20000 in
theorem wsL_law0_r10_t : ∀ w ∈ wsL_law0_r10, w ∈ lw_tbl := xin_t [247, 251, 253, 11, 254, 259, 261, 13, 262, 277, 278, 28, 279, 280, 282, 16, 283, 313, 314, 315, 316, 317, 318, 319] (by decide +kernel)
set_option maxRecDepth 20000 in
theorem wsL_law0_r11_t : ∀ w ∈ wsL_law0_r11, w ∈ lw_tbl := xin_t [295, 296, 297, 298, 299, 300, 301, 302, 303, 304, 305, 306, 310, 311, 312, 307, 308, 309, 284, 285, 286, 287, 320, 321] (by decide +kernel)
set_option maxRecDepth 20000 in
theorem wsL_law0_r12_t : ∀ w ∈ wsL_law0_r12, w ∈ lw_tbl := xin_t [322, 323, 324, 325, 326, 327, 328, 330, 17, 331, 332, 29, 348, 349, 350, 351, 352, 353, 354, 355, 357, 358, 359, 360] (by decide +kernel)
set_option maxRecDepth 20000 in
theorem wsL_law0_r13_t : ∀ w ∈ wsL_law0_r13, w ∈ lw_tbl := xin_t [288, 289, 290, 291] (by decide +kernel)
set_option maxRecDepth 20000 in
theorem wsX10_t : ∀ w ∈ wsX10, w ∈ lw_tbl := xin_t [88, 90, 92, 94, 96, 98, 100, 102, 104, 106, 108, 110, 112] (by decide +kernel)
set_option maxRecDepth 20000 in
theorem wsX00_t : ∀ w ∈ wsX00, w ∈ lw_tbl := xin_t [56, 58, 60, 62, 64, 66, 68, 70, 72] (by decide +kernel)
theorem wsL_law_in0 : ∀ w ∈ wsL_law0, w ∈ lw_tbl := fun w => (fun h => (List.mem_append.mp h).elim (fun h => (List.mem_append.mp h).elim (fun h => (List.mem_append.mp h).elim (fun h => (List.mem_append.mp h).elim (fun h => wsL_law0_r1_t w h) (fun h => (List.mem_append.mp h).elim (fun h => wsL_law0_r2_t w h) (fun h => (List.mem_append.mp h).elim (fun h => wsL_law0_r3_t w h) (fun h => (List.mem_append.mp h).elim (fun h => wsL_law0_r4_t w h) (fun h => (List.mem_append.mp h).elim (fun h => wsL_law0_r5_t w h) (fun h => (List.mem_append.mp h).elim (fun h => wsL_law0_r6_t w h) (fun h => (List.mem_append.mp h).elim (fun h => wsL_law0_r7_t w h) (fun h => (List.mem_append.mp h).elim (fun h => wsL_law0_r8_t w h) (fun h => (List.mem_append.mp h).elim (fun h => wsL_law0_r9_t w h) (fun h => (List.mem_append.mp h).elim (fun h => wsL_law0_r10_t w h) (fun h => (List.mem_append.mp h).elim (fun h => wsL_law0_r11_t w h) (fun h => (List.mem_append.mp h).elim (fun h => wsL_law0_r12_t w h) (fun h => wsL_law0_r13_t w h))))))))))))) (fun h => wsX10_t w h)) (fun h => wsX00_t w h)) (fun h => nomatch h))
set_option maxRecDepth 20000 in
theorem wsL_law_x0 : ∀ w ∈ (vx_atS RX1 109 "java/lang/IndexOutOfBoundsException" ["java/lang/RuntimeException", "java/lang/Exception"]).filter goodWord, w ∈ lw_tbl := xin_t [23, 145, 154, 158, 161, 163, 146, 147, 36, 37, 148, 153, 159, 179, 135, 180, 137, 181, 139, 149, 151, 141, 175, 176, 178, 141, 166, 167, 168, 169, 169, 170, 171, 172, 172, 173, 174, 175, 165, 124, 132, 133, 134, 136, 138, 140, 144, 143, 142] (by decide +kernel)
set_option maxRecDepth 20000 in
theorem wsL_law_x1 : ∀ w ∈ (vx_atS RX1 155 "java/lang/IllegalArgumentException" ["java/lang/RuntimeException", "java/lang/Exception"]).filter goodWord, w ∈ lw_tbl := xin_t [23, 145, 154, 158, 161, 163, 146, 147, 36, 37, 148, 153, 159, 179, 135, 180, 137, 181, 139, 149, 151, 141, 175, 176, 178, 141, 205, 206, 207, 169, 169, 170, 171, 172, 172, 173, 174, 175, 204, 195, 197, 156, 198, 199, 200, 201, 144, 143, 202] (by decide +kernel)
set_option maxRecDepth 20000 in
theorem wsL_law_x2 : ∀ w ∈ (vx_atS RX1 75 "java/lang/IllegalStateException" ["java/lang/RuntimeException", "java/lang/Exception"]).filter goodWord, w ∈ lw_tbl := xin_t [23, 145, 154, 158, 161, 163, 146, 147, 36, 37, 148, 153, 159, 179, 135, 180, 137, 181, 139, 149, 151, 141, 175, 176, 178, 141, 343, 344, 345, 169, 169, 170, 171, 172, 172, 173, 174, 175, 342, 333, 335, 157, 336, 337, 338, 339, 144, 143, 340] (by decide +kernel)
theorem wsL_law_in : ∀ w ∈ wsL_law, w ∈ lw_tbl := fun w h => (List.mem_append.mp h).elim (fun h => (List.mem_append.mp h).elim (fun h => (List.mem_append.mp h).elim (fun h => wsL_law_in0 w h) (fun h => wsL_law_x0 w h)) (fun h => wsL_law_x1 w h)) (fun h => wsL_law_x2 w h)
theorem inlX0 : ∀ w ∈ wsX00, w ∈ wsL_law := fun _ h => List.mem_append_left _ (List.mem_append_left _ (List.mem_append_left _ (List.mem_append_left _ (List.mem_append_right _ h))))
theorem inX0 : ∀ w ∈ wsX00, w ∈ lw_tbl := fun w h => wsL_law_in w (inlX0 w h)
theorem inlX1 : ∀ w ∈ wsX10, w ∈ wsL_law := fun _ h => List.mem_append_left _ (List.mem_append_left _ (List.mem_append_left _ (List.mem_append_left _ (List.mem_append_left _ (List.mem_append_right _ h)))))
theorem inX1 : ∀ w ∈ wsX10, w ∈ lw_tbl := fun w h => wsL_law_in w (inlX1 w h)
theorem inX2 : ∀ w ∈ wsX20, w ∈ lw_tbl := by decide +kernel
theorem inJ9 : ∀ w ∈ wsJ90, w ∈ lw_tbl := by decide +kernel
theorem inJ0 : ∀ w ∈ wsJ00, w ∈ lw_tbl := by decide +kernel
end
section
theorem dX0_init_0 : decode cX0_init 0 = .ok (.aload_n 0, 1) := by decide +kernel
theorem dX0_init_1 : decode cX0_init 1 = .ok (.invokespecial 3, 3) := by decide +kernel
theorem dX0_init_4 : decode cX0_init 4 = .ok (.aload_n 0, 1) := by decide +kernel
theorem dX0_init_5 : decode cX0_init 5 = .ok (.iconst (-1), 1) := by decide +kernel
theorem dX0_init_6 : decode cX0_init 6 = .ok (.putfield 9, 3) := by decide +kernel
theorem dX0_init_9 : decode cX0_init 9 = .ok (.aload_n 0, 1) := by decide +kernel
theorem dX0_init_10 : decode cX0_init 10 = .ok (.iload_n 1, 1) := by decide +kernel
theorem dX0_init_11 : decode cX0_init 11 = .ok (.putfield 15, 3) := by decide +kernel
theorem dX0_init_14 : decode cX0_init 14 = .ok (.return_, 1) := by decide +kernel
set_option maxRecDepth 20000 in
theorem ggX1_init_X0_init : GoodIn wsX1_init wsX0_init := goodIn_r _ [11, 12, 2, 3, 13, 14, 28, 29, 30, 31, 32, 33, 34, 35, 36] (by decide +kernel) (by decide +kernel)
set_option maxRecDepth 20000 in
theorem gX1_init_X0_init_n22 : GoodIn wsX1_init (wsX0_init) := ggX1_init_X0_init
theorem dX1_init_0 : decode cX1_init 0 = .ok (.aload_n 0, 1) := by decide +kernel
theorem dX1_init_1 : decode cX1_init 1 = .ok (.invokespecial 1, 3) := by decide +kernel
theorem dX1_init_4 : decode cX1_init 4 = .ok (.aload_n 0, 1) := by decide +kernel
theorem dX1_init_5 : decode cX1_init 5 = .ok (.bipush 32, 2) := by decide +kernel
theorem dX1_init_7 : decode cX1_init 7 = .ok (.anewarray 9, 3) := by decide +kernel
theorem dX1_init_10 : decode cX1_init 10 = .ok (.putfield 11, 3) := by decide +kernel
theorem dX1_init_13 : decode cX1_init 13 = .ok (.aload_n 0, 1) := by decide +kernel
theorem dX1_init_14 : decode cX1_init 14 = .ok (.bipush 100, 2) := by decide +kernel
theorem dX1_init_16 : decode cX1_init 16 = .ok (.putfield 15, 3) := by decide +kernel
theorem dX1_init_19 : decode cX1_init 19 = .ok (.aload_n 0, 1) := by decide +kernel
theorem dX1_init_20 : decode cX1_init 20 = .ok (.sipush 1000, 3) := by decide +kernel
theorem dX1_init_23 : decode cX1_init 23 = .ok (.putfield 19, 3) := by decide +kernel
theorem dX1_init_26 : decode cX1_init 26 = .ok (.iconst 0, 1) := by decide +kernel
theorem dX1_init_27 : decode cX1_init 27 = .ok (.istore_n 1, 1) := by decide +kernel
theorem dX1_init_28 : decode cX1_init 28 = .ok (.iload_n 1, 1) := by decide +kernel
theorem dX1_init_29 : decode cX1_init 29 = .ok (.aload_n 0, 1) := by decide +kernel
theorem dX1_init_30 : decode cX1_init 30 = .ok (.getfield 11, 3) := by decide +kernel
theorem dX1_init_33 : decode cX1_init 33 = .ok (.arraylength, 1) := by decide +kernel
theorem dX1_init_34 : decode cX1_init 34 = .ok (.if_icmp .ge 23, 3) := by decide +kernel
theorem dX1_init_37 : decode cX1_init 37 = .ok (.aload_n 0, 1) := by decide +kernel
theorem dX1_init_38 : decode cX1_init 38 = .ok (.getfield 11, 3) := by decide +kernel
theorem dX1_init_41 : decode cX1_init 41 = .ok (.iload_n 1, 1) := by decide +kernel
theorem dX1_init_42 : decode cX1_init 42 = .ok (.new 9, 3) := by decide +kernel
theorem dX1_init_45 : decode cX1_init 45 = .ok (.dup, 1) := by decide +kernel
theorem dX1_init_46 : decode cX1_init 46 = .ok (.iload_n 1, 1) := by decide +kernel
theorem dX1_init_47 : decode cX1_init 47 = .ok (.invokespecial 22, 3) := by decide +kernel
theorem dX1_init_50 : decode cX1_init 50 = .ok (.aastore, 1) := by decide +kernel
theorem dX1_init_51 : decode cX1_init 51 = .ok (.iinc 1 1, 3) := by decide +kernel
theorem dX1_init_54 : decode cX1_init 54 = .ok (.goto (-26), 3) := by decide +kernel
theorem dX1_init_57 : decode cX1_init 57 = .ok (.return_, 1) := by decide +kernel
set_option maxRecDepth 20000 in
theorem ggX1_fetch_X1_slotOf : GoodIn wsX1_fetch wsX1_slotOf := goodIn_ca (goodIn_r _ [5, 6, 7, 8, 110, 111, 112, 113, 114, 115, 116, 117, 118, 119, 120, 121, 122] (by decide +kernel) (by decide +kernel)) (goodIn_sub (fun _ h => List.mem_cons_of_mem _ (List.mem_append_left _ (List.mem_append_right _ h))) (by decide +kernel))
set_option maxRecDepth 20000 in
theorem gX1_fetch_X1_slotOf : GoodIn wsX1_fetch (wsV RX1 25 RX1 yX1_slotOf wsX1_slotOf) := goodIn_app (goodIn_of _ (by decide +kernel)) ggX1_fetch_X1_slotOf
set_option maxRecDepth 20000 in
theorem ggX1_fetch_X1_requireWithin : GoodIn wsX1_fetch wsX1_requireWithin := goodIn_ca (goodIn_r _ [11, 12, 13] (by decide +kernel) (by decide +kernel)) (goodIn_sub (fun _ h => List.mem_cons_of_mem _ (List.mem_append_right _ h)) (by decide +kernel))
set_option maxRecDepth 20000 in
theorem gX1_fetch_X1_requireWithin : GoodIn wsX1_fetch (va_wsS RX1 29 yX1_requireWithin wsX1_requireWithin) := goodIn_app (goodIn_of _ (by decide +kernel)) ggX1_fetch_X1_requireWithin
set_option maxRecDepth 20000 in
theorem ggX1_fetch_X1_hasEnded : GoodIn wsX1_fetch wsX1_hasEnded := goodIn_r _ [17, 18, 110, 111, 112, 113, 114, 115, 116, 117, 118, 119, 120, 121, 122, 101, 102, 103, 104, 105, 106, 107, 108, 109] (by decide +kernel) (by decide +kernel)
set_option maxRecDepth 20000 in
theorem gX1_fetch_X1_hasEnded : GoodIn wsX1_fetch (wsV RX1 37 RX1 yX1_hasEnded wsX1_hasEnded) := goodIn_app (goodIn_of _ (by decide +kernel)) ggX1_fetch_X1_hasEnded
set_option maxRecDepth 20000 in
theorem ggX1_fetch_X1_hit : GoodIn wsX1_fetch wsX1_hit := goodIn_r _ [22, 23, 24, 25, 26, 27, 28, 4, 29, 30, 31, 32, 101, 102, 103, 104, 105, 106, 107, 108, 109, 110, 111, 112, 113, 114, 115, 116, 117, 118, 119, 120, 121, 122] (by decide +kernel) (by decide +kernel)
set_option maxRecDepth 20000 in
theorem gX1_fetch_X1_hit : GoodIn wsX1_fetch (wsV RX1 44 RX1 yX1_hit wsX1_hit) := goodIn_app (goodIn_of _ (by decide +kernel)) ggX1_fetch_X1_hit
set_option maxRecDepth 20000 in
theorem ggX1_fetch_X1_countMiss : GoodIn wsX1_fetch wsX1_countMiss := goodIn_r _ [36, 37, 38, 110, 111, 112, 113, 114, 115, 116, 117, 118, 119, 120, 121, 122] (by decide +kernel) (by decide +kernel)
set_option maxRecDepth 20000 in
theorem gX1_fetch_X1_countMiss : GoodIn wsX1_fetch (wsV RX1 48 RX1 yX1_countMiss wsX1_countMiss) := goodIn_app (goodIn_of _ (by decide +kernel)) ggX1_fetch_X1_countMiss
set_option maxRecDepth 20000 in
theorem ggX1_fetch_X1_letInIfPossible : GoodIn wsX1_fetch wsX1_letInIfPossible := goodIn_r _ [42, 18, 43, 44, 45, 46, 47, 4, 48, 49, 50, 51, 52, 53, 14, 15, 16, 17, 54, 55, 56, 57, 58, 59, 60, 61, 62, 63, 64, 65, 8, 66, 67, 68, 69, 70, 71, 72, 73, 74, 75, 76, 77, 31, 78, 79, 80, 81, 82, 83, 84, 85, 86, 87, 88, 89, 90, 91, 92, 93, 94, 95, 96, 97, 98, 99, 100, 26, 27, 28, 29, 30, 32, 110, 111, 112, 113, 114, 115, 116, 117, 118, 119, 120, 121, 122, 101, 102, 103, 104, 105, 106, 107, 108, 109] (by decide +kernel) (by decide +kernel)
set_option maxRecDepth 20000 in
theorem gX1_fetch_X1_letInIfPossible : GoodIn wsX1_fetch (wsV RX1 51 RX1 yX1_letInIfPossible wsX1_letInIfPossible) := goodIn_app (goodIn_of _ (by decide +kernel)) ggX1_fetch_X1_letInIfPossible
theorem dX1_fetch_0 : decode cX1_fetch 0 = .ok (.aload_n 0, 1) := by decide +kernel
theorem dX1_fetch_1 : decode cX1_fetch 1 = .ok (.iload_n 1, 1) := by decide +kernel
theorem dX1_fetch_2 : decode cX1_fetch 2 = .ok (.invokevirtual 25, 3) := by decide +kernel
theorem dX1_fetch_5 : decode cX1_fetch 5 = .ok (.astore 5, 2) := by decide +kernel
theorem dX1_fetch_7 : decode cX1_fetch 7 = .ok (.iload_n 2, 1) := by decide +kernel
theorem dX1_fetch_8 : decode cX1_fetch 8 = .ok (.iconst 1, 1) := by decide +kernel
theorem dX1_fetch_9 : decode cX1_fetch 9 = .ok (.sipush 1000, 3) := by decide +kernel
theorem dX1_fetch_12 : decode cX1_fetch 12 = .ok (.invokestatic 29, 3) := by decide +kernel
theorem dX1_fetch_15 : decode cX1_fetch 15 = .ok (.iload_n 3, 1) := by decide +kernel
theorem dX1_fetch_16 : decode cX1_fetch 16 = .ok (.iconst 0, 1) := by decide +kernel
theorem dX1_fetch_17 : decode cX1_fetch 17 = .ok (.sipush 1000, 3) := by decide +kernel
theorem dX1_fetch_20 : decode cX1_fetch 20 = .ok (.invokestatic 29, 3) := by decide +kernel
theorem dX1_fetch_23 : decode cX1_fetch 23 = .ok (.iload 4, 2) := by decide +kernel
theorem dX1_fetch_25 : decode cX1_fetch 25 = .ok (.iconst 1, 1) := by decide +kernel
theorem dX1_fetch_26 : decode cX1_fetch 26 = .ok (.sipush 10000, 3) := by decide +kernel
theorem dX1_fetch_29 : decode cX1_fetch 29 = .ok (.invokestatic 29, 3) := by decide +kernel
theorem dX1_fetch_32 : decode cX1_fetch 32 = .ok (.aload 5, 2) := by decide +kernel
theorem dX1_fetch_34 : decode cX1_fetch 34 = .ok (.getfield 33, 3) := by decide +kernel
theorem dX1_fetch_37 : decode cX1_fetch 37 = .ok (.ifCond .eq 30, 3) := by decide +kernel
theorem dX1_fetch_40 : decode cX1_fetch 40 = .ok (.aload_n 0, 1) := by decide +kernel
theorem dX1_fetch_41 : decode cX1_fetch 41 = .ok (.aload 5, 2) := by decide +kernel
theorem dX1_fetch_43 : decode cX1_fetch 43 = .ok (.invokevirtual 37, 3) := by decide +kernel
theorem dX1_fetch_46 : decode cX1_fetch 46 = .ok (.ifCond .ne 21, 3) := by decide +kernel
theorem dX1_fetch_49 : decode cX1_fetch 49 = .ok (.aload 5, 2) := by decide +kernel
theorem dX1_fetch_51 : decode cX1_fetch 51 = .ok (.getfield 41, 3) := by decide +kernel
theorem dX1_fetch_54 : decode cX1_fetch 54 = .ok (.iload_n 2, 1) := by decide +kernel
theorem dX1_fetch_55 : decode cX1_fetch 55 = .ok (.if_icmp .ne 12, 3) := by decide +kernel
theorem dX1_fetch_58 : decode cX1_fetch 58 = .ok (.aload_n 0, 1) := by decide +kernel
theorem dX1_fetch_59 : decode cX1_fetch 59 = .ok (.aload 5, 2) := by decide +kernel
theorem dX1_fetch_61 : decode cX1_fetch 61 = .ok (.iload_n 3, 1) := by decide +kernel
theorem dX1_fetch_62 : decode cX1_fetch 62 = .ok (.invokevirtual 44, 3) := by decide +kernel
theorem dX1_fetch_65 : decode cX1_fetch 65 = .ok (.iconst 0, 1) := by decide +kernel
theorem dX1_fetch_66 : decode cX1_fetch 66 = .ok (.ireturn, 1) := by decide +kernel
theorem dX1_fetch_67 : decode cX1_fetch 67 = .ok (.aload_n 0, 1) := by decide +kernel
theorem dX1_fetch_68 : decode cX1_fetch 68 = .ok (.iload_n 3, 1) := by decide +kernel
theorem dX1_fetch_69 : decode cX1_fetch 69 = .ok (.invokevirtual 48, 3) := by decide +kernel
theorem dX1_fetch_72 : decode cX1_fetch 72 = .ok (.aload_n 0, 1) := by decide +kernel
theorem dX1_fetch_73 : decode cX1_fetch 73 = .ok (.aload 5, 2) := by decide +kernel
theorem dX1_fetch_75 : decode cX1_fetch 75 = .ok (.iload_n 2, 1) := by decide +kernel
theorem dX1_fetch_76 : decode cX1_fetch 76 = .ok (.iload_n 3, 1) := by decide +kernel
theorem dX1_fetch_77 : decode cX1_fetch 77 = .ok (.iload 4, 2) := by decide +kernel
theorem dX1_fetch_79 : decode cX1_fetch 79 = .ok (.invokevirtual 51, 3) := by decide +kernel
theorem dX1_fetch_82 : decode cX1_fetch 82 = .ok (.ifCond .eq 7, 3) := by decide +kernel
theorem dX1_fetch_85 : decode cX1_fetch 85 = .ok (.iconst 1, 1) := by decide +kernel
theorem dX1_fetch_86 : decode cX1_fetch 86 = .ok (.goto 4, 3) := by decide +kernel
theorem dX1_fetch_89 : decode cX1_fetch 89 = .ok (.iconst 2, 1) := by decide +kernel
theorem dX1_fetch_90 : decode cX1_fetch 90 = .ok (.ireturn, 1) := by decide +kernel
set_option maxRecDepth 20000 in
theorem ggX1_pass_X1_requireWithin : GoodIn wsX1_pass wsX1_requireWithin := goodIn_ca (goodIn_r _ [5, 6, 7] (by decide +kernel) (by decide +kernel)) (goodIn_sub (fun _ h => List.mem_cons_of_mem _ (List.mem_append_right _ h)) (by decide +kernel))
set_option maxRecDepth 20000 in
theorem gX1_pass_X1_requireWithin : GoodIn wsX1_pass (va_wsS RX1 29 yX1_requireWithin wsX1_requireWithin) := goodIn_app (goodIn_of _ (by decide +kernel)) ggX1_pass_X1_requireWithin
theorem dX1_pass_0 : decode cX1_pass 0 = .ok (.iload_n 1, 1) := by decide +kernel
theorem dX1_pass_1 : decode cX1_pass 1 = .ok (.iconst 1, 1) := by decide +kernel
theorem dX1_pass_2 : decode cX1_pass 2 = .ok (.sipush 10000, 3) := by decide +kernel
theorem dX1_pass_5 : decode cX1_pass 5 = .ok (.invokestatic 29, 3) := by decide +kernel
theorem dX1_pass_8 : decode cX1_pass 8 = .ok (.aload_n 0, 1) := by decide +kernel
theorem dX1_pass_9 : decode cX1_pass 9 = .ok (.dup, 1) := by decide +kernel
theorem dX1_pass_10 : decode cX1_pass 10 = .ok (.getfield 55, 3) := by decide +kernel
theorem dX1_pass_13 : decode cX1_pass 13 = .ok (.iload_n 1, 1) := by decide +kernel
theorem dX1_pass_14 : decode cX1_pass 14 = .ok (.iadd, 1) := by decide +kernel
theorem dX1_pass_15 : decode cX1_pass 15 = .ok (.putfield 55, 3) := by decide +kernel
theorem dX1_pass_18 : decode cX1_pass 18 = .ok (.aload_n 0, 1) := by decide +kernel
theorem dX1_pass_19 : decode cX1_pass 19 = .ok (.getfield 55, 3) := by decide +kernel
theorem dX1_pass_22 : decode cX1_pass 22 = .ok (.ireturn, 1) := by decide +kernel
set_option maxRecDepth 20000 in
theorem ggX1_pin_X1_filledSlotOf : GoodIn wsX1_pin wsX1_filledSlotOf := goodIn_ca (goodIn_ca (goodIn_r _ [5, 6, 7, 8, 9, 10, 4, 11, 12, 13, 14, 15, 16, 17, 18, 19, 20, 21, 22, 23, 24, 25, 26, 27, 28, 29, 30, 31, 32, 33, 34, 35, 36] (by decide +kernel) (by decide +kernel)) (goodIn_sub (fun _ h => List.mem_cons_of_mem _ (List.mem_append_left _ (List.mem_append_right _ h))) (by decide +kernel))) (goodIn_sub (fun _ h => List.mem_cons_of_mem _ (List.mem_append_right _ h)) (by decide +kernel))
set_option maxRecDepth 20000 in
theorem gX1_pin_X1_filledSlotOf : GoodIn wsX1_pin (wsV RX1 58 RX1 yX1_filledSlotOf wsX1_filledSlotOf) := goodIn_app (goodIn_of _ (by decide +kernel)) ggX1_pin_X1_filledSlotOf
theorem dX1_pin_0 : decode cX1_pin 0 = .ok (.aload_n 0, 1) := by decide +kernel
theorem dX1_pin_1 : decode cX1_pin 1 = .ok (.iload_n 1, 1) := by decide +kernel
theorem dX1_pin_2 : decode cX1_pin 2 = .ok (.invokevirtual 58, 3) := by decide +kernel
theorem dX1_pin_5 : decode cX1_pin 5 = .ok (.astore_n 3, 1) := by decide +kernel
theorem dX1_pin_6 : decode cX1_pin 6 = .ok (.aload_n 3, 1) := by decide +kernel
theorem dX1_pin_7 : decode cX1_pin 7 = .ok (.getfield 61, 3) := by decide +kernel
theorem dX1_pin_10 : decode cX1_pin 10 = .ok (.istore 4, 2) := by decide +kernel
theorem dX1_pin_12 : decode cX1_pin 12 = .ok (.aload_n 3, 1) := by decide +kernel
theorem dX1_pin_13 : decode cX1_pin 13 = .ok (.iload_n 2, 1) := by decide +kernel
theorem dX1_pin_14 : decode cX1_pin 14 = .ok (.putfield 61, 3) := by decide +kernel
theorem dX1_pin_17 : decode cX1_pin 17 = .ok (.iload 4, 2) := by decide +kernel
theorem dX1_pin_19 : decode cX1_pin 19 = .ok (.ireturn, 1) := by decide +kernel
set_option maxRecDepth 20000 in
theorem ggX1_drop_X1_filledSlotOf : GoodIn wsX1_drop wsX1_filledSlotOf := goodIn_ca (goodIn_ca (goodIn_r _ [5, 6, 7, 8, 9, 10, 4, 11, 12, 13, 14, 15, 16, 17, 18, 19, 20, 21, 22, 23, 24, 25, 26, 27, 28, 29, 30, 31, 32, 33, 34, 35, 36] (by decide +kernel) (by decide +kernel)) (goodIn_sub (fun _ h => List.mem_cons_of_mem _ (List.mem_append_left _ (List.mem_append_right _ h))) (by decide +kernel))) (goodIn_sub (fun _ h => List.mem_cons_of_mem _ (List.mem_append_right _ h)) (by decide +kernel))
set_option maxRecDepth 20000 in
theorem gX1_drop_X1_filledSlotOf : GoodIn wsX1_drop (wsV RX1 58 RX1 yX1_filledSlotOf wsX1_filledSlotOf) := goodIn_app (goodIn_of _ (by decide +kernel)) ggX1_drop_X1_filledSlotOf
theorem dX1_drop_0 : decode cX1_drop 0 = .ok (.aload_n 0, 1) := by decide +kernel
theorem dX1_drop_1 : decode cX1_drop 1 = .ok (.iload_n 1, 1) := by decide +kernel
theorem dX1_drop_2 : decode cX1_drop 2 = .ok (.invokevirtual 58, 3) := by decide +kernel
theorem dX1_drop_5 : decode cX1_drop 5 = .ok (.astore_n 2, 1) := by decide +kernel
theorem dX1_drop_6 : decode cX1_drop 6 = .ok (.aload_n 2, 1) := by decide +kernel
theorem dX1_drop_7 : decode cX1_drop 7 = .ok (.iconst 0, 1) := by decide +kernel
theorem dX1_drop_8 : decode cX1_drop 8 = .ok (.putfield 33, 3) := by decide +kernel
theorem dX1_drop_11 : decode cX1_drop 11 = .ok (.aload_n 2, 1) := by decide +kernel
theorem dX1_drop_12 : decode cX1_drop 12 = .ok (.getfield 41, 3) := by decide +kernel
theorem dX1_drop_15 : decode cX1_drop 15 = .ok (.ireturn, 1) := by decide +kernel
set_option maxRecDepth 20000 in
theorem ggX1_purge_X1_removeAllOver : GoodIn wsX1_purge wsX1_removeAllOver := goodIn_r _ [5, 6, 7, 8, 9, 10, 4, 11, 12, 13, 14, 15, 16, 17, 18, 19, 20, 21, 22, 23, 24, 25, 26, 27, 28, 29, 30, 31, 32, 33, 34] (by decide +kernel) (by decide +kernel)
set_option maxRecDepth 20000 in
theorem gX1_purge_X1_removeAllOver : GoodIn wsX1_purge (wsV RX1 64 RX1 yX1_removeAllOver wsX1_removeAllOver) := goodIn_app (goodIn_of _ (by decide +kernel)) ggX1_purge_X1_removeAllOver
theorem dX1_purge_0 : decode cX1_purge 0 = .ok (.aload_n 0, 1) := by decide +kernel
theorem dX1_purge_1 : decode cX1_purge 1 = .ok (.invokevirtual 64, 3) := by decide +kernel
theorem dX1_purge_4 : decode cX1_purge 4 = .ok (.ireturn, 1) := by decide +kernel
set_option maxRecDepth 20000 in
theorem ggX1_setCapacity_X1_requireWithin : GoodIn wsX1_setCapacity wsX1_requireWithin := goodIn_ca (goodIn_r _ [7, 8, 9] (by decide +kernel) (by decide +kernel)) (goodIn_sub (fun _ h => List.mem_cons_of_mem _ (List.mem_append_right _ h)) (by decide +kernel))
set_option maxRecDepth 20000 in
theorem gX1_setCapacity_X1_requireWithin : GoodIn wsX1_setCapacity (va_wsS RX1 29 yX1_requireWithin wsX1_requireWithin) := goodIn_app (goodIn_of _ (by decide +kernel)) ggX1_setCapacity_X1_requireWithin
set_option maxRecDepth 20000 in
theorem ggX1_setCapacity_X1_bytesThatCannotLeave : GoodIn wsX1_setCapacity wsX1_bytesThatCannotLeave := goodIn_r _ [13, 14, 15, 16, 17, 6, 18, 19, 53, 54, 55, 56, 57, 58, 59, 60, 61, 62, 63, 64, 65, 66, 67, 68, 69, 70, 71, 72, 73, 74] (by decide +kernel) (by decide +kernel)
set_option maxRecDepth 20000 in
theorem gX1_setCapacity_X1_bytesThatCannotLeave : GoodIn wsX1_setCapacity (wsV RX1 68 RX1 yX1_bytesThatCannotLeave wsX1_bytesThatCannotLeave) := goodIn_app (goodIn_of _ (by decide +kernel)) ggX1_setCapacity_X1_bytesThatCannotLeave
set_option maxRecDepth 20000 in
theorem ggX1_setCapacity_X1_used : GoodIn wsX1_setCapacity wsX1_used := goodIn_r _ [23, 14, 53, 54, 55, 56, 57, 58, 59, 60, 61, 62, 63, 64, 65, 66, 67, 68, 69, 70, 71, 72, 73, 74] (by decide +kernel) (by decide +kernel)
set_option maxRecDepth 20000 in
theorem gX1_setCapacity_X1_used : GoodIn wsX1_setCapacity (wsV RX1 78 RX1 yX1_used wsX1_used) := goodIn_app (goodIn_of _ (by decide +kernel)) ggX1_setCapacity_X1_used
set_option maxRecDepth 20000 in
theorem ggX1_setCapacity_X1_removeAllOver : GoodIn wsX1_setCapacity wsX1_removeAllOver := goodIn_r _ [27, 14, 28, 15, 16, 17, 6, 18, 19, 53, 54, 55, 56, 57, 58, 59, 60, 61, 62, 63, 64, 65, 66, 67, 68, 69, 70, 71, 72, 73, 74] (by decide +kernel) (by decide +kernel)
set_option maxRecDepth 20000 in
theorem gX1_setCapacity_X1_removeAllOver : GoodIn wsX1_setCapacity (wsV RX1 64 RX1 yX1_removeAllOver wsX1_removeAllOver) := goodIn_app (goodIn_of _ (by decide +kernel)) ggX1_setCapacity_X1_removeAllOver
set_option maxRecDepth 20000 in
theorem ggX1_setCapacity_X1_leaveDownTo : GoodIn wsX1_setCapacity wsX1_leaveDownTo := goodIn_r _ [32, 33, 34, 35, 36, 37, 38, 39, 40, 41, 6, 42, 43, 44, 45, 46, 14, 47, 48, 49, 50, 51, 52, 20, 21, 22, 23, 66, 67, 68, 69, 70, 71, 72, 73, 74, 53, 54, 55, 56, 57, 58, 59, 60, 61, 62, 63, 64, 65] (by decide +kernel) (by decide +kernel)
set_option maxRecDepth 20000 in
theorem gX1_setCapacity_X1_leaveDownTo : GoodIn wsX1_setCapacity (wsV RX1 81 RX1 yX1_leaveDownTo wsX1_leaveDownTo) := goodIn_app (goodIn_of _ (by decide +kernel)) ggX1_setCapacity_X1_leaveDownTo
theorem dX1_setCapacity_0 : decode cX1_setCapacity 0 = .ok (.iload_n 1, 1) := by decide +kernel
theorem dX1_setCapacity_1 : decode cX1_setCapacity 1 = .ok (.iconst 1, 1) := by decide +kernel
theorem dX1_setCapacity_2 : decode cX1_setCapacity 2 = .ok (.sipush 10000, 3) := by decide +kernel
theorem dX1_setCapacity_5 : decode cX1_setCapacity 5 = .ok (.invokestatic 29, 3) := by decide +kernel
theorem dX1_setCapacity_8 : decode cX1_setCapacity 8 = .ok (.aload_n 0, 1) := by decide +kernel
theorem dX1_setCapacity_9 : decode cX1_setCapacity 9 = .ok (.invokevirtual 68, 3) := by decide +kernel
theorem dX1_setCapacity_12 : decode cX1_setCapacity 12 = .ok (.iload_n 1, 1) := by decide +kernel
theorem dX1_setCapacity_13 : decode cX1_setCapacity 13 = .ok (.if_icmp .le 13, 3) := by decide +kernel
theorem dX1_setCapacity_16 : decode cX1_setCapacity 16 = .ok (.new 71, 3) := by decide +kernel
theorem dX1_setCapacity_19 : decode cX1_setCapacity 19 = .ok (.dup, 1) := by decide +kernel
theorem dX1_setCapacity_20 : decode cX1_setCapacity 20 = .ok (.ldc 73, 2) := by decide +kernel
theorem dX1_setCapacity_22 : decode cX1_setCapacity 22 = .ok (.invokespecial 75, 3) := by decide +kernel
theorem dX1_setCapacity_25 : decode cX1_setCapacity 25 = .ok (.athrow, 1) := by decide +kernel
theorem dX1_setCapacity_26 : decode cX1_setCapacity 26 = .ok (.aload_n 0, 1) := by decide +kernel
theorem dX1_setCapacity_27 : decode cX1_setCapacity 27 = .ok (.iload_n 1, 1) := by decide +kernel
theorem dX1_setCapacity_28 : decode cX1_setCapacity 28 = .ok (.putfield 15, 3) := by decide +kernel
theorem dX1_setCapacity_31 : decode cX1_setCapacity 31 = .ok (.aload_n 0, 1) := by decide +kernel
theorem dX1_setCapacity_32 : decode cX1_setCapacity 32 = .ok (.invokevirtual 78, 3) := by decide +kernel
theorem dX1_setCapacity_35 : decode cX1_setCapacity 35 = .ok (.iload_n 1, 1) := by decide +kernel
theorem dX1_setCapacity_36 : decode cX1_setCapacity 36 = .ok (.if_icmp .gt 5, 3) := by decide +kernel
theorem dX1_setCapacity_39 : decode cX1_setCapacity 39 = .ok (.iconst 0, 1) := by decide +kernel
theorem dX1_setCapacity_40 : decode cX1_setCapacity 40 = .ok (.ireturn, 1) := by decide +kernel
theorem dX1_setCapacity_41 : decode cX1_setCapacity 41 = .ok (.aload_n 0, 1) := by decide +kernel
theorem dX1_setCapacity_42 : decode cX1_setCapacity 42 = .ok (.invokevirtual 64, 3) := by decide +kernel
theorem dX1_setCapacity_45 : decode cX1_setCapacity 45 = .ok (.pop, 1) := by decide +kernel
theorem dX1_setCapacity_46 : decode cX1_setCapacity 46 = .ok (.aload_n 0, 1) := by decide +kernel
theorem dX1_setCapacity_47 : decode cX1_setCapacity 47 = .ok (.iload_n 1, 1) := by decide +kernel
theorem dX1_setCapacity_48 : decode cX1_setCapacity 48 = .ok (.invokevirtual 81, 3) := by decide +kernel
theorem dX1_setCapacity_51 : decode cX1_setCapacity 51 = .ok (.ireturn, 1) := by decide +kernel
set_option maxRecDepth 20000 in
theorem ggX1_setThreshold_X1_requireWithin : GoodIn wsX1_setThreshold wsX1_requireWithin := goodIn_ca (goodIn_r _ [5, 6, 7] (by decide +kernel) (by decide +kernel)) (goodIn_sub (fun _ h => List.mem_cons_of_mem _ (List.mem_append_right _ h)) (by decide +kernel))
set_option maxRecDepth 20000 in
theorem gX1_setThreshold_X1_requireWithin : GoodIn wsX1_setThreshold (va_wsS RX1 29 yX1_requireWithin wsX1_requireWithin) := goodIn_app (goodIn_of _ (by decide +kernel)) ggX1_setThreshold_X1_requireWithin
theorem dX1_setThreshold_0 : decode cX1_setThreshold 0 = .ok (.iload_n 1, 1) := by decide +kernel
theorem dX1_setThreshold_1 : decode cX1_setThreshold 1 = .ok (.iconst 1, 1) := by decide +kernel
theorem dX1_setThreshold_2 : decode cX1_setThreshold 2 = .ok (.sipush 1000, 3) := by decide +kernel
theorem dX1_setThreshold_5 : decode cX1_setThreshold 5 = .ok (.invokestatic 29, 3) := by decide +kernel
theorem dX1_setThreshold_8 : decode cX1_setThreshold 8 = .ok (.aload_n 0, 1) := by decide +kernel
theorem dX1_setThreshold_9 : decode cX1_setThreshold 9 = .ok (.getfield 19, 3) := by decide +kernel
theorem dX1_setThreshold_12 : decode cX1_setThreshold 12 = .ok (.istore_n 2, 1) := by decide +kernel
theorem dX1_setThreshold_13 : decode cX1_setThreshold 13 = .ok (.aload_n 0, 1) := by decide +kernel
theorem dX1_setThreshold_14 : decode cX1_setThreshold 14 = .ok (.iload_n 1, 1) := by decide +kernel
theorem dX1_setThreshold_15 : decode cX1_setThreshold 15 = .ok (.putfield 19, 3) := by decide +kernel
theorem dX1_setThreshold_18 : decode cX1_setThreshold 18 = .ok (.iload_n 2, 1) := by decide +kernel
theorem dX1_setThreshold_19 : decode cX1_setThreshold 19 = .ok (.ireturn, 1) := by decide +kernel
set_option maxRecDepth 20000 in
theorem ggX1_has_X1_slotOf : GoodIn wsX1_has wsX1_slotOf := goodIn_ca (goodIn_r _ [5, 6, 7, 8, 18, 19, 20, 21, 22, 23, 24, 25, 26, 27, 28, 29, 30] (by decide +kernel) (by decide +kernel)) (goodIn_sub (fun _ h => List.mem_cons_of_mem _ (List.mem_append_right _ h)) (by decide +kernel))
set_option maxRecDepth 20000 in
theorem gX1_has_X1_slotOf : GoodIn wsX1_has (wsV RX1 25 RX1 yX1_slotOf wsX1_slotOf) := goodIn_app (goodIn_of _ (by decide +kernel)) ggX1_has_X1_slotOf
theorem dX1_has_0 : decode cX1_has 0 = .ok (.aload_n 0, 1) := by decide +kernel
theorem dX1_has_1 : decode cX1_has 1 = .ok (.iload_n 1, 1) := by decide +kernel
theorem dX1_has_2 : decode cX1_has 2 = .ok (.invokevirtual 25, 3) := by decide +kernel
theorem dX1_has_5 : decode cX1_has 5 = .ok (.getfield 33, 3) := by decide +kernel
theorem dX1_has_8 : decode cX1_has 8 = .ok (.ireturn, 1) := by decide +kernel
set_option maxRecDepth 20000 in
theorem ggX1_isOver_X1_slotOf : GoodIn wsX1_isOver wsX1_slotOf := goodIn_ca (goodIn_r _ [5, 6, 7, 8, 23, 24, 25, 26, 27, 28, 29, 30, 31, 32, 33, 34, 35] (by decide +kernel) (by decide +kernel)) (goodIn_sub (fun _ h => List.mem_cons_of_mem _ (List.mem_append_right _ h)) (by decide +kernel))
set_option maxRecDepth 20000 in
theorem gX1_isOver_X1_slotOf : GoodIn wsX1_isOver (wsV RX1 25 RX1 yX1_slotOf wsX1_slotOf) := goodIn_app (goodIn_of _ (by decide +kernel)) ggX1_isOver_X1_slotOf
set_option maxRecDepth 20000 in
theorem ggX1_isOver_X1_hasEnded : GoodIn wsX1_isOver wsX1_hasEnded := goodIn_r _ [12, 13, 23, 24, 25, 26, 27, 28, 29, 30, 31, 32, 33, 34, 35, 14, 15, 16, 17, 18, 19, 20, 21, 22] (by decide +kernel) (by decide +kernel)
set_option maxRecDepth 20000 in
theorem gX1_isOver_X1_hasEnded : GoodIn wsX1_isOver (wsV RX1 37 RX1 yX1_hasEnded wsX1_hasEnded) := goodIn_app (goodIn_of _ (by decide +kernel)) ggX1_isOver_X1_hasEnded
theorem dX1_isOver_0 : decode cX1_isOver 0 = .ok (.aload_n 0, 1) := by decide +kernel
theorem dX1_isOver_1 : decode cX1_isOver 1 = .ok (.iload_n 1, 1) := by decide +kernel
theorem dX1_isOver_2 : decode cX1_isOver 2 = .ok (.invokevirtual 25, 3) := by decide +kernel
theorem dX1_isOver_5 : decode cX1_isOver 5 = .ok (.astore_n 2, 1) := by decide +kernel
theorem dX1_isOver_6 : decode cX1_isOver 6 = .ok (.aload_n 2, 1) := by decide +kernel
theorem dX1_isOver_7 : decode cX1_isOver 7 = .ok (.getfield 33, 3) := by decide +kernel
theorem dX1_isOver_10 : decode cX1_isOver 10 = .ok (.ifCond .eq 15, 3) := by decide +kernel
theorem dX1_isOver_13 : decode cX1_isOver 13 = .ok (.aload_n 0, 1) := by decide +kernel
theorem dX1_isOver_14 : decode cX1_isOver 14 = .ok (.aload_n 2, 1) := by decide +kernel
theorem dX1_isOver_15 : decode cX1_isOver 15 = .ok (.invokevirtual 37, 3) := by decide +kernel
theorem dX1_isOver_18 : decode cX1_isOver 18 = .ok (.ifCond .eq 7, 3) := by decide +kernel
theorem dX1_isOver_21 : decode cX1_isOver 21 = .ok (.iconst 1, 1) := by decide +kernel
theorem dX1_isOver_22 : decode cX1_isOver 22 = .ok (.goto 4, 3) := by decide +kernel
theorem dX1_isOver_25 : decode cX1_isOver 25 = .ok (.iconst 0, 1) := by decide +kernel
theorem dX1_isOver_26 : decode cX1_isOver 26 = .ok (.ireturn, 1) := by decide +kernel
set_option maxRecDepth 20000 in
theorem ggX1_sizeOf_X1_slotOf : GoodIn wsX1_sizeOf wsX1_slotOf := goodIn_ca (goodIn_r _ [5, 6, 7, 8, 18, 19, 20, 21, 22, 23, 24, 25, 26, 27, 28, 29, 30] (by decide +kernel) (by decide +kernel)) (goodIn_sub (fun _ h => List.mem_cons_of_mem _ (List.mem_append_right _ h)) (by decide +kernel))
set_option maxRecDepth 20000 in
theorem gX1_sizeOf_X1_slotOf : GoodIn wsX1_sizeOf (wsV RX1 25 RX1 yX1_slotOf wsX1_slotOf) := goodIn_app (goodIn_of _ (by decide +kernel)) ggX1_sizeOf_X1_slotOf
theorem dX1_sizeOf_0 : decode cX1_sizeOf 0 = .ok (.aload_n 0, 1) := by decide +kernel
theorem dX1_sizeOf_1 : decode cX1_sizeOf 1 = .ok (.iload_n 1, 1) := by decide +kernel
theorem dX1_sizeOf_2 : decode cX1_sizeOf 2 = .ok (.invokevirtual 25, 3) := by decide +kernel
theorem dX1_sizeOf_5 : decode cX1_sizeOf 5 = .ok (.astore_n 2, 1) := by decide +kernel
theorem dX1_sizeOf_6 : decode cX1_sizeOf 6 = .ok (.aload_n 2, 1) := by decide +kernel
theorem dX1_sizeOf_7 : decode cX1_sizeOf 7 = .ok (.getfield 33, 3) := by decide +kernel
theorem dX1_sizeOf_10 : decode cX1_sizeOf 10 = .ok (.ifCond .eq 10, 3) := by decide +kernel
theorem dX1_sizeOf_13 : decode cX1_sizeOf 13 = .ok (.aload_n 2, 1) := by decide +kernel
theorem dX1_sizeOf_14 : decode cX1_sizeOf 14 = .ok (.getfield 41, 3) := by decide +kernel
theorem dX1_sizeOf_17 : decode cX1_sizeOf 17 = .ok (.goto 4, 3) := by decide +kernel
theorem dX1_sizeOf_20 : decode cX1_sizeOf 20 = .ok (.iconst 0, 1) := by decide +kernel
theorem dX1_sizeOf_21 : decode cX1_sizeOf 21 = .ok (.ireturn, 1) := by decide +kernel
set_option maxRecDepth 20000 in
theorem ggX1_frequencyOf_X1_slotOf : GoodIn wsX1_frequencyOf wsX1_slotOf := goodIn_ca (goodIn_r _ [5, 6, 7, 8, 18, 19, 20, 21, 22, 23, 24, 25, 26, 27, 28, 29, 30] (by decide +kernel) (by decide +kernel)) (goodIn_sub (fun _ h => List.mem_cons_of_mem _ (List.mem_append_right _ h)) (by decide +kernel))
set_option maxRecDepth 20000 in
theorem gX1_frequencyOf_X1_slotOf : GoodIn wsX1_frequencyOf (wsV RX1 25 RX1 yX1_slotOf wsX1_slotOf) := goodIn_app (goodIn_of _ (by decide +kernel)) ggX1_frequencyOf_X1_slotOf
theorem dX1_frequencyOf_0 : decode cX1_frequencyOf 0 = .ok (.aload_n 0, 1) := by decide +kernel
theorem dX1_frequencyOf_1 : decode cX1_frequencyOf 1 = .ok (.iload_n 1, 1) := by decide +kernel
theorem dX1_frequencyOf_2 : decode cX1_frequencyOf 2 = .ok (.invokevirtual 25, 3) := by decide +kernel
theorem dX1_frequencyOf_5 : decode cX1_frequencyOf 5 = .ok (.astore_n 2, 1) := by decide +kernel
theorem dX1_frequencyOf_6 : decode cX1_frequencyOf 6 = .ok (.aload_n 2, 1) := by decide +kernel
theorem dX1_frequencyOf_7 : decode cX1_frequencyOf 7 = .ok (.getfield 33, 3) := by decide +kernel
theorem dX1_frequencyOf_10 : decode cX1_frequencyOf 10 = .ok (.ifCond .eq 10, 3) := by decide +kernel
theorem dX1_frequencyOf_13 : decode cX1_frequencyOf 13 = .ok (.aload_n 2, 1) := by decide +kernel
theorem dX1_frequencyOf_14 : decode cX1_frequencyOf 14 = .ok (.getfield 85, 3) := by decide +kernel
theorem dX1_frequencyOf_17 : decode cX1_frequencyOf 17 = .ok (.goto 4, 3) := by decide +kernel
theorem dX1_frequencyOf_20 : decode cX1_frequencyOf 20 = .ok (.iconst 0, 1) := by decide +kernel
theorem dX1_frequencyOf_21 : decode cX1_frequencyOf 21 = .ok (.ireturn, 1) := by decide +kernel
set_option maxRecDepth 20000 in
theorem ggX1_worthOf_X1_slotOf : GoodIn wsX1_worthOf wsX1_slotOf := goodIn_ca (goodIn_r _ [6, 7, 8, 9, 19, 20, 21, 22, 23, 24, 25, 26, 27, 28, 29, 30, 31] (by decide +kernel) (by decide +kernel)) (goodIn_sub (fun _ h => List.mem_cons_of_mem _ (List.mem_append_right _ h)) (by decide +kernel))
set_option maxRecDepth 20000 in
theorem gX1_worthOf_X1_slotOf : GoodIn wsX1_worthOf (wsV RX1 25 RX1 yX1_slotOf wsX1_slotOf) := goodIn_app (goodIn_of _ (by decide +kernel)) ggX1_worthOf_X1_slotOf
theorem dX1_worthOf_0 : decode cX1_worthOf 0 = .ok (.aload_n 0, 1) := by decide +kernel
theorem dX1_worthOf_1 : decode cX1_worthOf 1 = .ok (.iload_n 1, 1) := by decide +kernel
theorem dX1_worthOf_2 : decode cX1_worthOf 2 = .ok (.invokevirtual 25, 3) := by decide +kernel
theorem dX1_worthOf_5 : decode cX1_worthOf 5 = .ok (.astore_n 2, 1) := by decide +kernel
theorem dX1_worthOf_6 : decode cX1_worthOf 6 = .ok (.aload_n 2, 1) := by decide +kernel
theorem dX1_worthOf_7 : decode cX1_worthOf 7 = .ok (.getfield 33, 3) := by decide +kernel
theorem dX1_worthOf_10 : decode cX1_worthOf 10 = .ok (.ifCond .eq 10, 3) := by decide +kernel
theorem dX1_worthOf_13 : decode cX1_worthOf 13 = .ok (.aload_n 2, 1) := by decide +kernel
theorem dX1_worthOf_14 : decode cX1_worthOf 14 = .ok (.getfield 88, 3) := by decide +kernel
theorem dX1_worthOf_17 : decode cX1_worthOf 17 = .ok (.goto 6, 3) := by decide +kernel
theorem dX1_worthOf_20 : decode cX1_worthOf 20 = .ok (.ldc2_w 92, 3) := by decide +kernel
theorem dX1_worthOf_23 : decode cX1_worthOf 23 = .ok (.lreturn, 1) := by decide +kernel
set_option maxRecDepth 20000 in
theorem ggX1_endOf_X1_slotOf : GoodIn wsX1_endOf wsX1_slotOf := goodIn_ca (goodIn_r _ [5, 6, 7, 8, 18, 19, 20, 21, 22, 23, 24, 25, 26, 27, 28, 29, 30] (by decide +kernel) (by decide +kernel)) (goodIn_sub (fun _ h => List.mem_cons_of_mem _ (List.mem_append_right _ h)) (by decide +kernel))
set_option maxRecDepth 20000 in
theorem gX1_endOf_X1_slotOf : GoodIn wsX1_endOf (wsV RX1 25 RX1 yX1_slotOf wsX1_slotOf) := goodIn_app (goodIn_of _ (by decide +kernel)) ggX1_endOf_X1_slotOf
theorem dX1_endOf_0 : decode cX1_endOf 0 = .ok (.aload_n 0, 1) := by decide +kernel
theorem dX1_endOf_1 : decode cX1_endOf 1 = .ok (.iload_n 1, 1) := by decide +kernel
theorem dX1_endOf_2 : decode cX1_endOf 2 = .ok (.invokevirtual 25, 3) := by decide +kernel
theorem dX1_endOf_5 : decode cX1_endOf 5 = .ok (.astore_n 2, 1) := by decide +kernel
theorem dX1_endOf_6 : decode cX1_endOf 6 = .ok (.aload_n 2, 1) := by decide +kernel
theorem dX1_endOf_7 : decode cX1_endOf 7 = .ok (.getfield 33, 3) := by decide +kernel
theorem dX1_endOf_10 : decode cX1_endOf 10 = .ok (.ifCond .eq 10, 3) := by decide +kernel
theorem dX1_endOf_13 : decode cX1_endOf 13 = .ok (.aload_n 2, 1) := by decide +kernel
theorem dX1_endOf_14 : decode cX1_endOf 14 = .ok (.getfield 94, 3) := by decide +kernel
theorem dX1_endOf_17 : decode cX1_endOf 17 = .ok (.goto 4, 3) := by decide +kernel
theorem dX1_endOf_20 : decode cX1_endOf 20 = .ok (.iconst (-1), 1) := by decide +kernel
theorem dX1_endOf_21 : decode cX1_endOf 21 = .ok (.ireturn, 1) := by decide +kernel
set_option maxRecDepth 20000 in
theorem ggX1_leaving_X1_firstInOrder : GoodIn wsX1_leaving wsX1_firstInOrder := goodIn_r _ [7, 8, 9, 10, 6, 11, 12, 13, 14, 15, 16, 17, 18, 28, 29, 30, 31, 32, 33, 34, 35, 36, 37, 38, 39, 40, 19, 20, 21, 22, 23, 24, 25, 26, 27] (by decide +kernel) (by decide +kernel)
set_option maxRecDepth 20000 in
theorem gX1_leaving_X1_firstInOrder : GoodIn wsX1_leaving (wsV RX1 97 RX1 yX1_firstInOrder wsX1_firstInOrder) := goodIn_app (goodIn_of _ (by decide +kernel)) ggX1_leaving_X1_firstInOrder
set_option maxRecDepth 20000 in
theorem ggX1_leaving_X1_nextInOrder : GoodIn wsX1_leaving wsX1_nextInOrder := goodIn_r _ [11, 12, 13, 14, 6, 15, 16, 17, 18, 28, 29, 30, 31, 32, 33, 34, 35, 36, 37, 38, 39, 40, 19, 20, 21, 22, 23, 24, 25, 26, 27] (by decide +kernel) (by decide +kernel)
set_option maxRecDepth 20000 in
theorem gX1_leaving_X1_nextInOrder : GoodIn wsX1_leaving (wsV RX1 101 RX1 yX1_nextInOrder wsX1_nextInOrder) := goodIn_app (goodIn_of _ (by decide +kernel)) ggX1_leaving_X1_nextInOrder
theorem dX1_leaving_0 : decode cX1_leaving 0 = .ok (.iload_n 1, 1) := by decide +kernel
theorem dX1_leaving_1 : decode cX1_leaving 1 = .ok (.ifCond .lt 9, 3) := by decide +kernel
theorem dX1_leaving_4 : decode cX1_leaving 4 = .ok (.iload_n 1, 1) := by decide +kernel
theorem dX1_leaving_5 : decode cX1_leaving 5 = .ok (.bipush 32, 2) := by decide +kernel
theorem dX1_leaving_7 : decode cX1_leaving 7 = .ok (.if_icmp .lt 7, 3) := by decide +kernel
theorem dX1_leaving_10 : decode cX1_leaving 10 = .ok (.aconst_null, 1) := by decide +kernel
theorem dX1_leaving_11 : decode cX1_leaving 11 = .ok (.goto 7, 3) := by decide +kernel
theorem dX1_leaving_14 : decode cX1_leaving 14 = .ok (.aload_n 0, 1) := by decide +kernel
theorem dX1_leaving_15 : decode cX1_leaving 15 = .ok (.invokevirtual 97, 3) := by decide +kernel
theorem dX1_leaving_18 : decode cX1_leaving 18 = .ok (.astore_n 2, 1) := by decide +kernel
theorem dX1_leaving_19 : decode cX1_leaving 19 = .ok (.iconst 0, 1) := by decide +kernel
theorem dX1_leaving_20 : decode cX1_leaving 20 = .ok (.istore_n 3, 1) := by decide +kernel
theorem dX1_leaving_21 : decode cX1_leaving 21 = .ok (.iload_n 3, 1) := by decide +kernel
theorem dX1_leaving_22 : decode cX1_leaving 22 = .ok (.iload_n 1, 1) := by decide +kernel
theorem dX1_leaving_23 : decode cX1_leaving 23 = .ok (.if_icmp .ge 19, 3) := by decide +kernel
theorem dX1_leaving_26 : decode cX1_leaving 26 = .ok (.aload_n 2, 1) := by decide +kernel
theorem dX1_leaving_27 : decode cX1_leaving 27 = .ok (.ifnull 15, 3) := by decide +kernel
theorem dX1_leaving_30 : decode cX1_leaving 30 = .ok (.aload_n 0, 1) := by decide +kernel
theorem dX1_leaving_31 : decode cX1_leaving 31 = .ok (.aload_n 2, 1) := by decide +kernel
theorem dX1_leaving_32 : decode cX1_leaving 32 = .ok (.invokevirtual 101, 3) := by decide +kernel
theorem dX1_leaving_35 : decode cX1_leaving 35 = .ok (.astore_n 2, 1) := by decide +kernel
theorem dX1_leaving_36 : decode cX1_leaving 36 = .ok (.iinc 3 1, 3) := by decide +kernel
theorem dX1_leaving_39 : decode cX1_leaving 39 = .ok (.goto (-18), 3) := by decide +kernel
theorem dX1_leaving_42 : decode cX1_leaving 42 = .ok (.aload_n 2, 1) := by decide +kernel
theorem dX1_leaving_43 : decode cX1_leaving 43 = .ok (.ifnonnull 13, 3) := by decide +kernel
theorem dX1_leaving_46 : decode cX1_leaving 46 = .ok (.new 105, 3) := by decide +kernel
theorem dX1_leaving_49 : decode cX1_leaving 49 = .ok (.dup, 1) := by decide +kernel
theorem dX1_leaving_50 : decode cX1_leaving 50 = .ok (.ldc 107, 2) := by decide +kernel
theorem dX1_leaving_52 : decode cX1_leaving 52 = .ok (.invokespecial 109, 3) := by decide +kernel
theorem dX1_leaving_55 : decode cX1_leaving 55 = .ok (.athrow, 1) := by decide +kernel
theorem dX1_leaving_56 : decode cX1_leaving 56 = .ok (.aload_n 2, 1) := by decide +kernel
theorem dX1_leaving_57 : decode cX1_leaving 57 = .ok (.getfield 110, 3) := by decide +kernel
theorem dX1_leaving_60 : decode cX1_leaving 60 = .ok (.ireturn, 1) := by decide +kernel
set_option maxRecDepth 20000 in
theorem ggX1_placeOf_X1_slotOf : GoodIn wsX1_placeOf wsX1_slotOf := goodIn_ca (goodIn_r _ [6, 7, 8, 1, 15, 16, 17, 18, 19, 20, 21, 22, 23, 24, 25, 26, 27] (by decide +kernel) (by decide +kernel)) (goodIn_sub (fun _ h => List.mem_cons_of_mem _ (List.mem_append_right _ h)) (by decide +kernel))
set_option maxRecDepth 20000 in
theorem gX1_placeOf_X1_slotOf : GoodIn wsX1_placeOf (wsV RX1 25 RX1 yX1_slotOf wsX1_slotOf) := goodIn_app (goodIn_of _ (by decide +kernel)) ggX1_placeOf_X1_slotOf
set_option maxRecDepth 20000 in
theorem ggX1_placeOf_X1_isInOrder : GoodIn wsX1_placeOf wsX1_isInOrder := goodIn_r _ [11, 28, 29, 30, 31, 32, 33, 34, 35, 36] (by decide +kernel) (by decide +kernel)
set_option maxRecDepth 20000 in
theorem gX1_placeOf_X1_isInOrder : GoodIn wsX1_placeOf (va_wsS RX1 113 yX1_isInOrder wsX1_isInOrder) := goodIn_app (goodIn_of _ (by decide +kernel)) ggX1_placeOf_X1_isInOrder
set_option maxRecDepth 20000 in
theorem ggX1_placeOf_X1_leavesBefore : GoodIn wsX1_placeOf wsX1_leavesBefore := goodIn_r _ [14, 28, 29, 30, 31, 32, 33, 34, 35, 36] (by decide +kernel) (by decide +kernel)
set_option maxRecDepth 20000 in
theorem gX1_placeOf_X1_leavesBefore : GoodIn wsX1_placeOf (va_wsS RX1 116 yX1_leavesBefore wsX1_leavesBefore) := goodIn_app (goodIn_of _ (by decide +kernel)) ggX1_placeOf_X1_leavesBefore
theorem dX1_placeOf_0 : decode cX1_placeOf 0 = .ok (.aload_n 0, 1) := by decide +kernel
theorem dX1_placeOf_1 : decode cX1_placeOf 1 = .ok (.iload_n 1, 1) := by decide +kernel
theorem dX1_placeOf_2 : decode cX1_placeOf 2 = .ok (.invokevirtual 25, 3) := by decide +kernel
theorem dX1_placeOf_5 : decode cX1_placeOf 5 = .ok (.astore_n 2, 1) := by decide +kernel
theorem dX1_placeOf_6 : decode cX1_placeOf 6 = .ok (.aload_n 2, 1) := by decide +kernel
theorem dX1_placeOf_7 : decode cX1_placeOf 7 = .ok (.invokestatic 113, 3) := by decide +kernel
theorem dX1_placeOf_10 : decode cX1_placeOf 10 = .ok (.ifCond .ne 5, 3) := by decide +kernel
theorem dX1_placeOf_13 : decode cX1_placeOf 13 = .ok (.iconst (-1), 1) := by decide +kernel
theorem dX1_placeOf_14 : decode cX1_placeOf 14 = .ok (.ireturn, 1) := by decide +kernel
theorem dX1_placeOf_15 : decode cX1_placeOf 15 = .ok (.iconst 0, 1) := by decide +kernel
theorem dX1_placeOf_16 : decode cX1_placeOf 16 = .ok (.istore_n 3, 1) := by decide +kernel
theorem dX1_placeOf_17 : decode cX1_placeOf 17 = .ok (.aload_n 0, 1) := by decide +kernel
theorem dX1_placeOf_18 : decode cX1_placeOf 18 = .ok (.getfield 11, 3) := by decide +kernel
theorem dX1_placeOf_21 : decode cX1_placeOf 21 = .ok (.astore 4, 2) := by decide +kernel
theorem dX1_placeOf_23 : decode cX1_placeOf 23 = .ok (.aload 4, 2) := by decide +kernel
theorem dX1_placeOf_25 : decode cX1_placeOf 25 = .ok (.arraylength, 1) := by decide +kernel
theorem dX1_placeOf_26 : decode cX1_placeOf 26 = .ok (.istore 5, 2) := by decide +kernel
theorem dX1_placeOf_28 : decode cX1_placeOf 28 = .ok (.iconst 0, 1) := by decide +kernel
theorem dX1_placeOf_29 : decode cX1_placeOf 29 = .ok (.istore 6, 2) := by decide +kernel
theorem dX1_placeOf_31 : decode cX1_placeOf 31 = .ok (.iload 6, 2) := by decide +kernel
theorem dX1_placeOf_33 : decode cX1_placeOf 33 = .ok (.iload 5, 2) := by decide +kernel
theorem dX1_placeOf_35 : decode cX1_placeOf 35 = .ok (.if_icmp .ge 36, 3) := by decide +kernel
theorem dX1_placeOf_38 : decode cX1_placeOf 38 = .ok (.aload 4, 2) := by decide +kernel
theorem dX1_placeOf_40 : decode cX1_placeOf 40 = .ok (.iload 6, 2) := by decide +kernel
theorem dX1_placeOf_42 : decode cX1_placeOf 42 = .ok (.aaload, 1) := by decide +kernel
theorem dX1_placeOf_43 : decode cX1_placeOf 43 = .ok (.astore 7, 2) := by decide +kernel
theorem dX1_placeOf_45 : decode cX1_placeOf 45 = .ok (.aload 7, 2) := by decide +kernel
theorem dX1_placeOf_47 : decode cX1_placeOf 47 = .ok (.invokestatic 113, 3) := by decide +kernel
theorem dX1_placeOf_50 : decode cX1_placeOf 50 = .ok (.ifCond .eq 15, 3) := by decide +kernel
theorem dX1_placeOf_53 : decode cX1_placeOf 53 = .ok (.aload 7, 2) := by decide +kernel
theorem dX1_placeOf_55 : decode cX1_placeOf 55 = .ok (.aload_n 2, 1) := by decide +kernel
theorem dX1_placeOf_56 : decode cX1_placeOf 56 = .ok (.invokestatic 116, 3) := by decide +kernel
theorem dX1_placeOf_59 : decode cX1_placeOf 59 = .ok (.ifCond .eq 6, 3) := by decide +kernel
theorem dX1_placeOf_62 : decode cX1_placeOf 62 = .ok (.iinc 3 1, 3) := by decide +kernel
theorem dX1_placeOf_65 : decode cX1_placeOf 65 = .ok (.iinc 6 1, 3) := by decide +kernel
theorem dX1_placeOf_68 : decode cX1_placeOf 68 = .ok (.goto (-37), 3) := by decide +kernel
theorem dX1_placeOf_71 : decode cX1_placeOf 71 = .ok (.iload_n 3, 1) := by decide +kernel
theorem dX1_placeOf_72 : decode cX1_placeOf 72 = .ok (.ireturn, 1) := by decide +kernel
theorem dX1_endsFirst_0 : decode cX1_endsFirst 0 = .ok (.aconst_null, 1) := by decide +kernel
theorem dX1_endsFirst_1 : decode cX1_endsFirst 1 = .ok (.astore_n 1, 1) := by decide +kernel
theorem dX1_endsFirst_2 : decode cX1_endsFirst 2 = .ok (.aload_n 0, 1) := by decide +kernel
theorem dX1_endsFirst_3 : decode cX1_endsFirst 3 = .ok (.getfield 11, 3) := by decide +kernel
theorem dX1_endsFirst_6 : decode cX1_endsFirst 6 = .ok (.astore_n 2, 1) := by decide +kernel
theorem dX1_endsFirst_7 : decode cX1_endsFirst 7 = .ok (.aload_n 2, 1) := by decide +kernel
theorem dX1_endsFirst_8 : decode cX1_endsFirst 8 = .ok (.arraylength, 1) := by decide +kernel
theorem dX1_endsFirst_9 : decode cX1_endsFirst 9 = .ok (.istore_n 3, 1) := by decide +kernel
theorem dX1_endsFirst_10 : decode cX1_endsFirst 10 = .ok (.iconst 0, 1) := by decide +kernel
theorem dX1_endsFirst_11 : decode cX1_endsFirst 11 = .ok (.istore 4, 2) := by decide +kernel
theorem dX1_endsFirst_13 : decode cX1_endsFirst 13 = .ok (.iload 4, 2) := by decide +kernel
theorem dX1_endsFirst_15 : decode cX1_endsFirst 15 = .ok (.iload_n 3, 1) := by decide +kernel
theorem dX1_endsFirst_16 : decode cX1_endsFirst 16 = .ok (.if_icmp .ge 42, 3) := by decide +kernel
theorem dX1_endsFirst_19 : decode cX1_endsFirst 19 = .ok (.aload_n 2, 1) := by decide +kernel
theorem dX1_endsFirst_20 : decode cX1_endsFirst 20 = .ok (.iload 4, 2) := by decide +kernel
theorem dX1_endsFirst_22 : decode cX1_endsFirst 22 = .ok (.aaload, 1) := by decide +kernel
theorem dX1_endsFirst_23 : decode cX1_endsFirst 23 = .ok (.astore 5, 2) := by decide +kernel
theorem dX1_endsFirst_25 : decode cX1_endsFirst 25 = .ok (.aload 5, 2) := by decide +kernel
theorem dX1_endsFirst_27 : decode cX1_endsFirst 27 = .ok (.getfield 33, 3) := by decide +kernel
theorem dX1_endsFirst_30 : decode cX1_endsFirst 30 = .ok (.ifCond .eq 22, 3) := by decide +kernel
theorem dX1_endsFirst_33 : decode cX1_endsFirst 33 = .ok (.aload_n 1, 1) := by decide +kernel
theorem dX1_endsFirst_34 : decode cX1_endsFirst 34 = .ok (.ifnull 15, 3) := by decide +kernel
theorem dX1_endsFirst_37 : decode cX1_endsFirst 37 = .ok (.aload 5, 2) := by decide +kernel
theorem dX1_endsFirst_39 : decode cX1_endsFirst 39 = .ok (.getfield 94, 3) := by decide +kernel
theorem dX1_endsFirst_42 : decode cX1_endsFirst 42 = .ok (.aload_n 1, 1) := by decide +kernel
theorem dX1_endsFirst_43 : decode cX1_endsFirst 43 = .ok (.getfield 94, 3) := by decide +kernel
theorem dX1_endsFirst_46 : decode cX1_endsFirst 46 = .ok (.if_icmp .ge 6, 3) := by decide +kernel
theorem dX1_endsFirst_49 : decode cX1_endsFirst 49 = .ok (.aload 5, 2) := by decide +kernel
theorem dX1_endsFirst_51 : decode cX1_endsFirst 51 = .ok (.astore_n 1, 1) := by decide +kernel
theorem dX1_endsFirst_52 : decode cX1_endsFirst 52 = .ok (.iinc 4 1, 3) := by decide +kernel
theorem dX1_endsFirst_55 : decode cX1_endsFirst 55 = .ok (.goto (-42), 3) := by decide +kernel
theorem dX1_endsFirst_58 : decode cX1_endsFirst 58 = .ok (.aload_n 1, 1) := by decide +kernel
theorem dX1_endsFirst_59 : decode cX1_endsFirst 59 = .ok (.ifnonnull 7, 3) := by decide +kernel
theorem dX1_endsFirst_62 : decode cX1_endsFirst 62 = .ok (.iconst (-1), 1) := by decide +kernel
theorem dX1_endsFirst_63 : decode cX1_endsFirst 63 = .ok (.goto 7, 3) := by decide +kernel
theorem dX1_endsFirst_66 : decode cX1_endsFirst 66 = .ok (.aload_n 1, 1) := by decide +kernel
theorem dX1_endsFirst_67 : decode cX1_endsFirst 67 = .ok (.getfield 110, 3) := by decide +kernel
theorem dX1_endsFirst_70 : decode cX1_endsFirst 70 = .ok (.ireturn, 1) := by decide +kernel
set_option maxRecDepth 20000 in
theorem ggX1_wouldLeave_X1_requireWithin : GoodIn wsX1_wouldLeave wsX1_requireWithin := goodIn_ca (goodIn_r _ [5, 6, 7] (by decide +kernel) (by decide +kernel)) (goodIn_sub (fun _ h => List.mem_cons_of_mem _ (List.mem_append_right _ h)) (by decide +kernel))
set_option maxRecDepth 20000 in
theorem gX1_wouldLeave_X1_requireWithin : GoodIn wsX1_wouldLeave (va_wsS RX1 29 yX1_requireWithin wsX1_requireWithin) := goodIn_app (goodIn_of _ (by decide +kernel)) ggX1_wouldLeave_X1_requireWithin
set_option maxRecDepth 20000 in
theorem ggX1_wouldLeave_X1_bytesThatCannotLeave : GoodIn wsX1_wouldLeave wsX1_bytesThatCannotLeave := goodIn_r _ [11, 12, 13, 14, 15, 4, 16, 17, 40, 41, 42, 43, 44, 45, 46, 47, 48, 49, 50, 51, 52, 53, 54, 55, 56, 57, 58, 59, 60, 61] (by decide +kernel) (by decide +kernel)
set_option maxRecDepth 20000 in
theorem gX1_wouldLeave_X1_bytesThatCannotLeave : GoodIn wsX1_wouldLeave (wsV RX1 68 RX1 yX1_bytesThatCannotLeave wsX1_bytesThatCannotLeave) := goodIn_app (goodIn_of _ (by decide +kernel)) ggX1_wouldLeave_X1_bytesThatCannotLeave
set_option maxRecDepth 20000 in
theorem ggX1_wouldLeave_X1_countThatWouldLeave : GoodIn wsX1_wouldLeave wsX1_countThatWouldLeave := goodIn_r _ [21, 1, 22, 23, 24, 4, 25, 12, 13, 14, 15, 16, 17, 26, 27, 28, 29, 30, 31, 32, 33, 34, 35, 36, 37, 38, 39, 40, 41, 42, 43, 44, 45, 46, 47, 48, 49, 50, 51, 52, 53, 54, 55, 56, 57, 58, 59, 60, 61] (by decide +kernel) (by decide +kernel)
set_option maxRecDepth 20000 in
theorem gX1_wouldLeave_X1_countThatWouldLeave : GoodIn wsX1_wouldLeave (wsV RX1 120 RX1 yX1_countThatWouldLeave wsX1_countThatWouldLeave) := goodIn_app (goodIn_of _ (by decide +kernel)) ggX1_wouldLeave_X1_countThatWouldLeave
theorem dX1_wouldLeave_0 : decode cX1_wouldLeave 0 = .ok (.iload_n 1, 1) := by decide +kernel
theorem dX1_wouldLeave_1 : decode cX1_wouldLeave 1 = .ok (.iconst 1, 1) := by decide +kernel
theorem dX1_wouldLeave_2 : decode cX1_wouldLeave 2 = .ok (.sipush 1000, 3) := by decide +kernel
theorem dX1_wouldLeave_5 : decode cX1_wouldLeave 5 = .ok (.invokestatic 29, 3) := by decide +kernel
theorem dX1_wouldLeave_8 : decode cX1_wouldLeave 8 = .ok (.iload_n 1, 1) := by decide +kernel
theorem dX1_wouldLeave_9 : decode cX1_wouldLeave 9 = .ok (.aload_n 0, 1) := by decide +kernel
theorem dX1_wouldLeave_10 : decode cX1_wouldLeave 10 = .ok (.getfield 15, 3) := by decide +kernel
theorem dX1_wouldLeave_13 : decode cX1_wouldLeave 13 = .ok (.aload_n 0, 1) := by decide +kernel
theorem dX1_wouldLeave_14 : decode cX1_wouldLeave 14 = .ok (.invokevirtual 68, 3) := by decide +kernel
theorem dX1_wouldLeave_17 : decode cX1_wouldLeave 17 = .ok (.isub, 1) := by decide +kernel
theorem dX1_wouldLeave_18 : decode cX1_wouldLeave 18 = .ok (.if_icmp .le 7, 3) := by decide +kernel
theorem dX1_wouldLeave_21 : decode cX1_wouldLeave 21 = .ok (.iconst (-1), 1) := by decide +kernel
theorem dX1_wouldLeave_22 : decode cX1_wouldLeave 22 = .ok (.goto 8, 3) := by decide +kernel
theorem dX1_wouldLeave_25 : decode cX1_wouldLeave 25 = .ok (.aload_n 0, 1) := by decide +kernel
theorem dX1_wouldLeave_26 : decode cX1_wouldLeave 26 = .ok (.iload_n 1, 1) := by decide +kernel
theorem dX1_wouldLeave_27 : decode cX1_wouldLeave 27 = .ok (.invokevirtual 120, 3) := by decide +kernel
theorem dX1_wouldLeave_30 : decode cX1_wouldLeave 30 = .ok (.ireturn, 1) := by decide +kernel
theorem dX1_time_0 : decode cX1_time 0 = .ok (.aload_n 0, 1) := by decide +kernel
theorem dX1_time_1 : decode cX1_time 1 = .ok (.getfield 55, 3) := by decide +kernel
theorem dX1_time_4 : decode cX1_time 4 = .ok (.ireturn, 1) := by decide +kernel
theorem dX1_clock_0 : decode cX1_clock 0 = .ok (.aload_n 0, 1) := by decide +kernel
theorem dX1_clock_1 : decode cX1_clock 1 = .ok (.getfield 123, 3) := by decide +kernel
theorem dX1_clock_4 : decode cX1_clock 4 = .ok (.lreturn, 1) := by decide +kernel
theorem dX1_capacity_0 : decode cX1_capacity 0 = .ok (.aload_n 0, 1) := by decide +kernel
theorem dX1_capacity_1 : decode cX1_capacity 1 = .ok (.getfield 15, 3) := by decide +kernel
theorem dX1_capacity_4 : decode cX1_capacity 4 = .ok (.ireturn, 1) := by decide +kernel
theorem dX1_entries_0 : decode cX1_entries 0 = .ok (.iconst 0, 1) := by decide +kernel
theorem dX1_entries_1 : decode cX1_entries 1 = .ok (.istore_n 1, 1) := by decide +kernel
theorem dX1_entries_2 : decode cX1_entries 2 = .ok (.aload_n 0, 1) := by decide +kernel
theorem dX1_entries_3 : decode cX1_entries 3 = .ok (.getfield 11, 3) := by decide +kernel
theorem dX1_entries_6 : decode cX1_entries 6 = .ok (.astore_n 2, 1) := by decide +kernel
theorem dX1_entries_7 : decode cX1_entries 7 = .ok (.aload_n 2, 1) := by decide +kernel
theorem dX1_entries_8 : decode cX1_entries 8 = .ok (.arraylength, 1) := by decide +kernel
theorem dX1_entries_9 : decode cX1_entries 9 = .ok (.istore_n 3, 1) := by decide +kernel
theorem dX1_entries_10 : decode cX1_entries 10 = .ok (.iconst 0, 1) := by decide +kernel
theorem dX1_entries_11 : decode cX1_entries 11 = .ok (.istore 4, 2) := by decide +kernel
theorem dX1_entries_13 : decode cX1_entries 13 = .ok (.iload 4, 2) := by decide +kernel
theorem dX1_entries_15 : decode cX1_entries 15 = .ok (.iload_n 3, 1) := by decide +kernel
theorem dX1_entries_16 : decode cX1_entries 16 = .ok (.if_icmp .ge 26, 3) := by decide +kernel
theorem dX1_entries_19 : decode cX1_entries 19 = .ok (.aload_n 2, 1) := by decide +kernel
theorem dX1_entries_20 : decode cX1_entries 20 = .ok (.iload 4, 2) := by decide +kernel
theorem dX1_entries_22 : decode cX1_entries 22 = .ok (.aaload, 1) := by decide +kernel
theorem dX1_entries_23 : decode cX1_entries 23 = .ok (.astore 5, 2) := by decide +kernel
theorem dX1_entries_25 : decode cX1_entries 25 = .ok (.aload 5, 2) := by decide +kernel
theorem dX1_entries_27 : decode cX1_entries 27 = .ok (.getfield 33, 3) := by decide +kernel
theorem dX1_entries_30 : decode cX1_entries 30 = .ok (.ifCond .eq 6, 3) := by decide +kernel
theorem dX1_entries_33 : decode cX1_entries 33 = .ok (.iinc 1 1, 3) := by decide +kernel
theorem dX1_entries_36 : decode cX1_entries 36 = .ok (.iinc 4 1, 3) := by decide +kernel
theorem dX1_entries_39 : decode cX1_entries 39 = .ok (.goto (-26), 3) := by decide +kernel
theorem dX1_entries_42 : decode cX1_entries 42 = .ok (.iload_n 1, 1) := by decide +kernel
theorem dX1_entries_43 : decode cX1_entries 43 = .ok (.ireturn, 1) := by decide +kernel
theorem dX1_used_0 : decode cX1_used 0 = .ok (.iconst 0, 1) := by decide +kernel
theorem dX1_used_1 : decode cX1_used 1 = .ok (.istore_n 1, 1) := by decide +kernel
theorem dX1_used_2 : decode cX1_used 2 = .ok (.aload_n 0, 1) := by decide +kernel
theorem dX1_used_3 : decode cX1_used 3 = .ok (.getfield 11, 3) := by decide +kernel
theorem dX1_used_6 : decode cX1_used 6 = .ok (.astore_n 2, 1) := by decide +kernel
theorem dX1_used_7 : decode cX1_used 7 = .ok (.aload_n 2, 1) := by decide +kernel
theorem dX1_used_8 : decode cX1_used 8 = .ok (.arraylength, 1) := by decide +kernel
theorem dX1_used_9 : decode cX1_used 9 = .ok (.istore_n 3, 1) := by decide +kernel
theorem dX1_used_10 : decode cX1_used 10 = .ok (.iconst 0, 1) := by decide +kernel
theorem dX1_used_11 : decode cX1_used 11 = .ok (.istore 4, 2) := by decide +kernel
theorem dX1_used_13 : decode cX1_used 13 = .ok (.iload 4, 2) := by decide +kernel
theorem dX1_used_15 : decode cX1_used 15 = .ok (.iload_n 3, 1) := by decide +kernel
theorem dX1_used_16 : decode cX1_used 16 = .ok (.if_icmp .ge 31, 3) := by decide +kernel
theorem dX1_used_19 : decode cX1_used 19 = .ok (.aload_n 2, 1) := by decide +kernel
theorem dX1_used_20 : decode cX1_used 20 = .ok (.iload 4, 2) := by decide +kernel
theorem dX1_used_22 : decode cX1_used 22 = .ok (.aaload, 1) := by decide +kernel
theorem dX1_used_23 : decode cX1_used 23 = .ok (.astore 5, 2) := by decide +kernel
theorem dX1_used_25 : decode cX1_used 25 = .ok (.aload 5, 2) := by decide +kernel
theorem dX1_used_27 : decode cX1_used 27 = .ok (.getfield 33, 3) := by decide +kernel
theorem dX1_used_30 : decode cX1_used 30 = .ok (.ifCond .eq 11, 3) := by decide +kernel
theorem dX1_used_33 : decode cX1_used 33 = .ok (.iload_n 1, 1) := by decide +kernel
theorem dX1_used_34 : decode cX1_used 34 = .ok (.aload 5, 2) := by decide +kernel
theorem dX1_used_36 : decode cX1_used 36 = .ok (.getfield 41, 3) := by decide +kernel
theorem dX1_used_39 : decode cX1_used 39 = .ok (.iadd, 1) := by decide +kernel
theorem dX1_used_40 : decode cX1_used 40 = .ok (.istore_n 1, 1) := by decide +kernel
theorem dX1_used_41 : decode cX1_used 41 = .ok (.iinc 4 1, 3) := by decide +kernel
theorem dX1_used_44 : decode cX1_used 44 = .ok (.goto (-31), 3) := by decide +kernel
theorem dX1_used_47 : decode cX1_used 47 = .ok (.iload_n 1, 1) := by decide +kernel
theorem dX1_used_48 : decode cX1_used 48 = .ok (.ireturn, 1) := by decide +kernel
theorem dX1_hits_0 : decode cX1_hits 0 = .ok (.aload_n 0, 1) := by decide +kernel
theorem dX1_hits_1 : decode cX1_hits 1 = .ok (.getfield 126, 3) := by decide +kernel
theorem dX1_hits_4 : decode cX1_hits 4 = .ok (.ireturn, 1) := by decide +kernel
theorem dX1_misses_0 : decode cX1_misses 0 = .ok (.aload_n 0, 1) := by decide +kernel
theorem dX1_misses_1 : decode cX1_misses 1 = .ok (.getfield 129, 3) := by decide +kernel
theorem dX1_misses_4 : decode cX1_misses 4 = .ok (.ireturn, 1) := by decide +kernel
theorem dX1_bytesHit_0 : decode cX1_bytesHit 0 = .ok (.aload_n 0, 1) := by decide +kernel
theorem dX1_bytesHit_1 : decode cX1_bytesHit 1 = .ok (.getfield 132, 3) := by decide +kernel
theorem dX1_bytesHit_4 : decode cX1_bytesHit 4 = .ok (.lreturn, 1) := by decide +kernel
theorem dX1_saved_0 : decode cX1_saved 0 = .ok (.aload_n 0, 1) := by decide +kernel
theorem dX1_saved_1 : decode cX1_saved 1 = .ok (.getfield 135, 3) := by decide +kernel
theorem dX1_saved_4 : decode cX1_saved 4 = .ok (.lreturn, 1) := by decide +kernel
theorem dX1_paid_0 : decode cX1_paid 0 = .ok (.aload_n 0, 1) := by decide +kernel
theorem dX1_paid_1 : decode cX1_paid 1 = .ok (.getfield 138, 3) := by decide +kernel
theorem dX1_paid_4 : decode cX1_paid 4 = .ok (.lreturn, 1) := by decide +kernel
theorem dX1_left_0 : decode cX1_left 0 = .ok (.aload_n 0, 1) := by decide +kernel
theorem dX1_left_1 : decode cX1_left 1 = .ok (.getfield 141, 3) := by decide +kernel
theorem dX1_left_4 : decode cX1_left 4 = .ok (.ireturn, 1) := by decide +kernel
theorem dX1_removedOver_0 : decode cX1_removedOver 0 = .ok (.aload_n 0, 1) := by decide +kernel
theorem dX1_removedOver_1 : decode cX1_removedOver 1 = .ok (.getfield 144, 3) := by decide +kernel
theorem dX1_removedOver_4 : decode cX1_removedOver 4 = .ok (.ireturn, 1) := by decide +kernel
theorem dX1_slotOf_0 : decode cX1_slotOf 0 = .ok (.iload_n 1, 1) := by decide +kernel
theorem dX1_slotOf_1 : decode cX1_slotOf 1 = .ok (.ifCond .lt 12, 3) := by decide +kernel
theorem dX1_slotOf_4 : decode cX1_slotOf 4 = .ok (.iload_n 1, 1) := by decide +kernel
theorem dX1_slotOf_5 : decode cX1_slotOf 5 = .ok (.aload_n 0, 1) := by decide +kernel
theorem dX1_slotOf_6 : decode cX1_slotOf 6 = .ok (.getfield 11, 3) := by decide +kernel
theorem dX1_slotOf_9 : decode cX1_slotOf 9 = .ok (.arraylength, 1) := by decide +kernel
theorem dX1_slotOf_10 : decode cX1_slotOf 10 = .ok (.if_icmp .lt 13, 3) := by decide +kernel
theorem dX1_slotOf_13 : decode cX1_slotOf 13 = .ok (.new 105, 3) := by decide +kernel
theorem dX1_slotOf_16 : decode cX1_slotOf 16 = .ok (.dup, 1) := by decide +kernel
theorem dX1_slotOf_17 : decode cX1_slotOf 17 = .ok (.ldc 147, 2) := by decide +kernel
theorem dX1_slotOf_19 : decode cX1_slotOf 19 = .ok (.invokespecial 109, 3) := by decide +kernel
theorem dX1_slotOf_22 : decode cX1_slotOf 22 = .ok (.athrow, 1) := by decide +kernel
theorem dX1_slotOf_23 : decode cX1_slotOf 23 = .ok (.aload_n 0, 1) := by decide +kernel
theorem dX1_slotOf_24 : decode cX1_slotOf 24 = .ok (.getfield 11, 3) := by decide +kernel
theorem dX1_slotOf_27 : decode cX1_slotOf 27 = .ok (.iload_n 1, 1) := by decide +kernel
theorem dX1_slotOf_28 : decode cX1_slotOf 28 = .ok (.aaload, 1) := by decide +kernel
theorem dX1_slotOf_29 : decode cX1_slotOf 29 = .ok (.areturn, 1) := by decide +kernel
set_option maxRecDepth 20000 in
theorem ggX1_filledSlotOf_X1_slotOf : GoodIn wsX1_filledSlotOf wsX1_slotOf := goodIn_ca (goodIn_r _ [7, 8, 9, 10, 20, 21, 22, 23, 24, 25, 26, 27, 28, 29, 30, 31, 32] (by decide +kernel) (by decide +kernel)) (goodIn_sub (fun _ h => List.mem_cons_of_mem _ (List.mem_append_right _ h)) (by decide +kernel))
set_option maxRecDepth 20000 in
theorem gX1_filledSlotOf_X1_slotOf : GoodIn wsX1_filledSlotOf (wsV RX1 25 RX1 yX1_slotOf wsX1_slotOf) := goodIn_app (goodIn_of _ (by decide +kernel)) ggX1_filledSlotOf_X1_slotOf
theorem dX1_filledSlotOf_0 : decode cX1_filledSlotOf 0 = .ok (.aload_n 0, 1) := by decide +kernel
theorem dX1_filledSlotOf_1 : decode cX1_filledSlotOf 1 = .ok (.iload_n 1, 1) := by decide +kernel
theorem dX1_filledSlotOf_2 : decode cX1_filledSlotOf 2 = .ok (.invokevirtual 25, 3) := by decide +kernel
theorem dX1_filledSlotOf_5 : decode cX1_filledSlotOf 5 = .ok (.astore_n 2, 1) := by decide +kernel
theorem dX1_filledSlotOf_6 : decode cX1_filledSlotOf 6 = .ok (.aload_n 2, 1) := by decide +kernel
theorem dX1_filledSlotOf_7 : decode cX1_filledSlotOf 7 = .ok (.getfield 33, 3) := by decide +kernel
theorem dX1_filledSlotOf_10 : decode cX1_filledSlotOf 10 = .ok (.ifCond .ne 13, 3) := by decide +kernel
theorem dX1_filledSlotOf_13 : decode cX1_filledSlotOf 13 = .ok (.new 71, 3) := by decide +kernel
theorem dX1_filledSlotOf_16 : decode cX1_filledSlotOf 16 = .ok (.dup, 1) := by decide +kernel
theorem dX1_filledSlotOf_17 : decode cX1_filledSlotOf 17 = .ok (.ldc 149, 2) := by decide +kernel
theorem dX1_filledSlotOf_19 : decode cX1_filledSlotOf 19 = .ok (.invokespecial 75, 3) := by decide +kernel
theorem dX1_filledSlotOf_22 : decode cX1_filledSlotOf 22 = .ok (.athrow, 1) := by decide +kernel
theorem dX1_filledSlotOf_23 : decode cX1_filledSlotOf 23 = .ok (.aload_n 2, 1) := by decide +kernel
theorem dX1_filledSlotOf_24 : decode cX1_filledSlotOf 24 = .ok (.areturn, 1) := by decide +kernel
theorem dX1_requireWithin_0 : decode cX1_requireWithin 0 = .ok (.iload_n 0, 1) := by decide +kernel
theorem dX1_requireWithin_1 : decode cX1_requireWithin 1 = .ok (.iload_n 1, 1) := by decide +kernel
theorem dX1_requireWithin_2 : decode cX1_requireWithin 2 = .ok (.if_icmp .lt 8, 3) := by decide +kernel
theorem dX1_requireWithin_5 : decode cX1_requireWithin 5 = .ok (.iload_n 0, 1) := by decide +kernel
theorem dX1_requireWithin_6 : decode cX1_requireWithin 6 = .ok (.iload_n 2, 1) := by decide +kernel
theorem dX1_requireWithin_7 : decode cX1_requireWithin 7 = .ok (.if_icmp .le 13, 3) := by decide +kernel
theorem dX1_requireWithin_10 : decode cX1_requireWithin 10 = .ok (.new 151, 3) := by decide +kernel
theorem dX1_requireWithin_13 : decode cX1_requireWithin 13 = .ok (.dup, 1) := by decide +kernel
theorem dX1_requireWithin_14 : decode cX1_requireWithin 14 = .ok (.ldc 153, 2) := by decide +kernel
theorem dX1_requireWithin_16 : decode cX1_requireWithin 16 = .ok (.invokespecial 155, 3) := by decide +kernel
theorem dX1_requireWithin_19 : decode cX1_requireWithin 19 = .ok (.athrow, 1) := by decide +kernel
theorem dX1_requireWithin_20 : decode cX1_requireWithin 20 = .ok (.return_, 1) := by decide +kernel
set_option maxRecDepth 20000 in
theorem ggX1_hit_X1_setWorth : GoodIn wsX1_hit wsX1_setWorth := goodIn_r _ [8, 9, 10, 11, 21, 22, 23, 24, 25, 26, 27, 28, 29, 30, 31, 32, 33, 12, 13, 14, 15, 16, 17, 18, 19, 20] (by decide +kernel) (by decide +kernel)
set_option maxRecDepth 20000 in
theorem gX1_hit_X1_setWorth : GoodIn wsX1_hit (wsV RX1 156 RX1 yX1_setWorth wsX1_setWorth) := goodIn_app (goodIn_of _ (by decide +kernel)) ggX1_hit_X1_setWorth
theorem dX1_hit_0 : decode cX1_hit 0 = .ok (.aload_n 1, 1) := by decide +kernel
theorem dX1_hit_1 : decode cX1_hit 1 = .ok (.dup, 1) := by decide +kernel
theorem dX1_hit_2 : decode cX1_hit 2 = .ok (.getfield 85, 3) := by decide +kernel
theorem dX1_hit_5 : decode cX1_hit 5 = .ok (.iconst 1, 1) := by decide +kernel
theorem dX1_hit_6 : decode cX1_hit 6 = .ok (.iadd, 1) := by decide +kernel
theorem dX1_hit_7 : decode cX1_hit 7 = .ok (.putfield 85, 3) := by decide +kernel
theorem dX1_hit_10 : decode cX1_hit 10 = .ok (.aload_n 0, 1) := by decide +kernel
theorem dX1_hit_11 : decode cX1_hit 11 = .ok (.aload_n 1, 1) := by decide +kernel
theorem dX1_hit_12 : decode cX1_hit 12 = .ok (.iload_n 2, 1) := by decide +kernel
theorem dX1_hit_13 : decode cX1_hit 13 = .ok (.invokevirtual 156, 3) := by decide +kernel
theorem dX1_hit_16 : decode cX1_hit 16 = .ok (.aload_n 0, 1) := by decide +kernel
theorem dX1_hit_17 : decode cX1_hit 17 = .ok (.dup, 1) := by decide +kernel
theorem dX1_hit_18 : decode cX1_hit 18 = .ok (.getfield 126, 3) := by decide +kernel
theorem dX1_hit_21 : decode cX1_hit 21 = .ok (.iconst 1, 1) := by decide +kernel
theorem dX1_hit_22 : decode cX1_hit 22 = .ok (.iadd, 1) := by decide +kernel
theorem dX1_hit_23 : decode cX1_hit 23 = .ok (.putfield 126, 3) := by decide +kernel
theorem dX1_hit_26 : decode cX1_hit 26 = .ok (.aload_n 0, 1) := by decide +kernel
theorem dX1_hit_27 : decode cX1_hit 27 = .ok (.dup, 1) := by decide +kernel
theorem dX1_hit_28 : decode cX1_hit 28 = .ok (.getfield 132, 3) := by decide +kernel
theorem dX1_hit_31 : decode cX1_hit 31 = .ok (.aload_n 1, 1) := by decide +kernel
theorem dX1_hit_32 : decode cX1_hit 32 = .ok (.getfield 41, 3) := by decide +kernel
theorem dX1_hit_35 : decode cX1_hit 35 = .ok (.i2l, 1) := by decide +kernel
theorem dX1_hit_36 : decode cX1_hit 36 = .ok (.ladd, 1) := by decide +kernel
theorem dX1_hit_37 : decode cX1_hit 37 = .ok (.putfield 132, 3) := by decide +kernel
theorem dX1_hit_40 : decode cX1_hit 40 = .ok (.aload_n 0, 1) := by decide +kernel
theorem dX1_hit_41 : decode cX1_hit 41 = .ok (.dup, 1) := by decide +kernel
theorem dX1_hit_42 : decode cX1_hit 42 = .ok (.getfield 135, 3) := by decide +kernel
theorem dX1_hit_45 : decode cX1_hit 45 = .ok (.iload_n 2, 1) := by decide +kernel
theorem dX1_hit_46 : decode cX1_hit 46 = .ok (.i2l, 1) := by decide +kernel
theorem dX1_hit_47 : decode cX1_hit 47 = .ok (.ladd, 1) := by decide +kernel
theorem dX1_hit_48 : decode cX1_hit 48 = .ok (.putfield 135, 3) := by decide +kernel
theorem dX1_hit_51 : decode cX1_hit 51 = .ok (.return_, 1) := by decide +kernel
theorem dX1_countMiss_0 : decode cX1_countMiss 0 = .ok (.aload_n 0, 1) := by decide +kernel
theorem dX1_countMiss_1 : decode cX1_countMiss 1 = .ok (.dup, 1) := by decide +kernel
theorem dX1_countMiss_2 : decode cX1_countMiss 2 = .ok (.getfield 129, 3) := by decide +kernel
theorem dX1_countMiss_5 : decode cX1_countMiss 5 = .ok (.iconst 1, 1) := by decide +kernel
theorem dX1_countMiss_6 : decode cX1_countMiss 6 = .ok (.iadd, 1) := by decide +kernel
theorem dX1_countMiss_7 : decode cX1_countMiss 7 = .ok (.putfield 129, 3) := by decide +kernel
theorem dX1_countMiss_10 : decode cX1_countMiss 10 = .ok (.aload_n 0, 1) := by decide +kernel
theorem dX1_countMiss_11 : decode cX1_countMiss 11 = .ok (.dup, 1) := by decide +kernel
theorem dX1_countMiss_12 : decode cX1_countMiss 12 = .ok (.getfield 138, 3) := by decide +kernel
theorem dX1_countMiss_15 : decode cX1_countMiss 15 = .ok (.iload_n 1, 1) := by decide +kernel
theorem dX1_countMiss_16 : decode cX1_countMiss 16 = .ok (.i2l, 1) := by decide +kernel
theorem dX1_countMiss_17 : decode cX1_countMiss 17 = .ok (.ladd, 1) := by decide +kernel
theorem dX1_countMiss_18 : decode cX1_countMiss 18 = .ok (.putfield 138, 3) := by decide +kernel
theorem dX1_countMiss_21 : decode cX1_countMiss 21 = .ok (.return_, 1) := by decide +kernel
set_option maxRecDepth 20000 in
theorem ggX1_letInIfPossible_X1_wasMissedLately : GoodIn wsX1_letInIfPossible wsX1_wasMissedLately := goodIn_r _ [8, 1, 86, 87, 88, 89, 90, 91, 92, 93, 94, 73, 74, 75, 76, 77, 78, 79, 80, 81, 82, 83, 84, 85] (by decide +kernel) (by decide +kernel)
set_option maxRecDepth 20000 in
theorem gX1_letInIfPossible_X1_wasMissedLately : GoodIn wsX1_letInIfPossible (wsV RX1 159 RX1 yX1_wasMissedLately wsX1_wasMissedLately) := goodIn_app (goodIn_of _ (by decide +kernel)) ggX1_letInIfPossible_X1_wasMissedLately
set_option maxRecDepth 20000 in
theorem ggX1_letInIfPossible_X1_removeOwn : GoodIn wsX1_letInIfPossible wsX1_removeOwn := goodIn_r _ [12, 13, 14, 15, 16, 7, 17, 1, 86, 87, 88, 89, 90, 91, 92, 93, 94, 73, 74, 75, 76, 77, 78, 79, 80, 81, 82, 83, 84, 85] (by decide +kernel) (by decide +kernel)
set_option maxRecDepth 20000 in
theorem gX1_letInIfPossible_X1_removeOwn : GoodIn wsX1_letInIfPossible (wsV RX1 165 RX1 yX1_removeOwn wsX1_removeOwn) := goodIn_app (goodIn_of _ (by decide +kernel)) ggX1_letInIfPossible_X1_removeOwn
set_option maxRecDepth 20000 in
theorem ggX1_letInIfPossible_X1_makeRoom : GoodIn wsX1_letInIfPossible wsX1_makeRoom := goodIn_r _ [21, 2, 22, 23, 24, 7, 25, 26, 27, 28, 29, 30, 31, 32, 33, 34, 13, 14, 15, 16, 17, 1, 35, 36, 37, 38, 39, 40, 41, 42, 43, 44, 45, 46, 47, 48, 49, 50, 51, 52, 53, 54, 55, 56, 57, 58, 59, 60, 61, 62, 73, 74, 75, 76, 77, 78, 79, 80, 81, 82, 83, 84, 85, 86, 87, 88, 89, 90, 91, 92, 93, 94] (by decide +kernel) (by decide +kernel)
set_option maxRecDepth 20000 in
theorem gX1_letInIfPossible_X1_makeRoom : GoodIn wsX1_letInIfPossible (wsV RX1 169 RX1 yX1_makeRoom wsX1_makeRoom) := goodIn_app (goodIn_of _ (by decide +kernel)) ggX1_letInIfPossible_X1_makeRoom
set_option maxRecDepth 20000 in
theorem ggX1_letInIfPossible_X1_fill : GoodIn wsX1_letInIfPossible wsX1_fill := goodIn_r _ [66, 1, 67, 68, 69, 7, 70, 71, 43, 72, 86, 87, 88, 89, 90, 91, 92, 93, 94, 73, 74, 75, 76, 77, 78, 79, 80, 81, 82, 83, 84, 85] (by decide +kernel) (by decide +kernel)
set_option maxRecDepth 20000 in
theorem gX1_letInIfPossible_X1_fill : GoodIn wsX1_letInIfPossible (wsV RX1 173 RX1 yX1_fill wsX1_fill) := goodIn_app (goodIn_of _ (by decide +kernel)) ggX1_letInIfPossible_X1_fill
theorem dX1_letInIfPossible_0 : decode cX1_letInIfPossible 0 = .ok (.aload_n 0, 1) := by decide +kernel
theorem dX1_letInIfPossible_1 : decode cX1_letInIfPossible 1 = .ok (.aload_n 1, 1) := by decide +kernel
theorem dX1_letInIfPossible_2 : decode cX1_letInIfPossible 2 = .ok (.invokevirtual 159, 3) := by decide +kernel
theorem dX1_letInIfPossible_5 : decode cX1_letInIfPossible 5 = .ok (.istore 5, 2) := by decide +kernel
theorem dX1_letInIfPossible_7 : decode cX1_letInIfPossible 7 = .ok (.aload_n 1, 1) := by decide +kernel
theorem dX1_letInIfPossible_8 : decode cX1_letInIfPossible 8 = .ok (.aload_n 0, 1) := by decide +kernel
theorem dX1_letInIfPossible_9 : decode cX1_letInIfPossible 9 = .ok (.getfield 55, 3) := by decide +kernel
theorem dX1_letInIfPossible_12 : decode cX1_letInIfPossible 12 = .ok (.putfield 162, 3) := by decide +kernel
theorem dX1_letInIfPossible_15 : decode cX1_letInIfPossible 15 = .ok (.aload_n 0, 1) := by decide +kernel
theorem dX1_letInIfPossible_16 : decode cX1_letInIfPossible 16 = .ok (.aload_n 1, 1) := by decide +kernel
theorem dX1_letInIfPossible_17 : decode cX1_letInIfPossible 17 = .ok (.invokevirtual 165, 3) := by decide +kernel
theorem dX1_letInIfPossible_20 : decode cX1_letInIfPossible 20 = .ok (.iload_n 2, 1) := by decide +kernel
theorem dX1_letInIfPossible_21 : decode cX1_letInIfPossible 21 = .ok (.aload_n 0, 1) := by decide +kernel
theorem dX1_letInIfPossible_22 : decode cX1_letInIfPossible 22 = .ok (.getfield 15, 3) := by decide +kernel
theorem dX1_letInIfPossible_25 : decode cX1_letInIfPossible 25 = .ok (.if_icmp .gt 24, 3) := by decide +kernel
theorem dX1_letInIfPossible_28 : decode cX1_letInIfPossible 28 = .ok (.iload_n 2, 1) := by decide +kernel
theorem dX1_letInIfPossible_29 : decode cX1_letInIfPossible 29 = .ok (.aload_n 0, 1) := by decide +kernel
theorem dX1_letInIfPossible_30 : decode cX1_letInIfPossible 30 = .ok (.getfield 19, 3) := by decide +kernel
theorem dX1_letInIfPossible_33 : decode cX1_letInIfPossible 33 = .ok (.if_icmp .le 8, 3) := by decide +kernel
theorem dX1_letInIfPossible_36 : decode cX1_letInIfPossible 36 = .ok (.iload 5, 2) := by decide +kernel
theorem dX1_letInIfPossible_38 : decode cX1_letInIfPossible 38 = .ok (.ifCond .eq 11, 3) := by decide +kernel
theorem dX1_letInIfPossible_41 : decode cX1_letInIfPossible 41 = .ok (.aload_n 0, 1) := by decide +kernel
theorem dX1_letInIfPossible_42 : decode cX1_letInIfPossible 42 = .ok (.iload_n 2, 1) := by decide +kernel
theorem dX1_letInIfPossible_43 : decode cX1_letInIfPossible 43 = .ok (.invokevirtual 169, 3) := by decide +kernel
theorem dX1_letInIfPossible_46 : decode cX1_letInIfPossible 46 = .ok (.ifCond .ne 5, 3) := by decide +kernel
theorem dX1_letInIfPossible_49 : decode cX1_letInIfPossible 49 = .ok (.iconst 0, 1) := by decide +kernel
theorem dX1_letInIfPossible_50 : decode cX1_letInIfPossible 50 = .ok (.ireturn, 1) := by decide +kernel
theorem dX1_letInIfPossible_51 : decode cX1_letInIfPossible 51 = .ok (.aload_n 0, 1) := by decide +kernel
theorem dX1_letInIfPossible_52 : decode cX1_letInIfPossible 52 = .ok (.aload_n 1, 1) := by decide +kernel
theorem dX1_letInIfPossible_53 : decode cX1_letInIfPossible 53 = .ok (.iload_n 2, 1) := by decide +kernel
theorem dX1_letInIfPossible_54 : decode cX1_letInIfPossible 54 = .ok (.iload_n 3, 1) := by decide +kernel
theorem dX1_letInIfPossible_55 : decode cX1_letInIfPossible 55 = .ok (.iload 4, 2) := by decide +kernel
theorem dX1_letInIfPossible_57 : decode cX1_letInIfPossible 57 = .ok (.invokevirtual 173, 3) := by decide +kernel
theorem dX1_letInIfPossible_60 : decode cX1_letInIfPossible 60 = .ok (.iconst 1, 1) := by decide +kernel
theorem dX1_letInIfPossible_61 : decode cX1_letInIfPossible 61 = .ok (.ireturn, 1) := by decide +kernel
theorem dX1_wasMissedLately_0 : decode cX1_wasMissedLately 0 = .ok (.aload_n 1, 1) := by decide +kernel
theorem dX1_wasMissedLately_1 : decode cX1_wasMissedLately 1 = .ok (.getfield 162, 3) := by decide +kernel
theorem dX1_wasMissedLately_4 : decode cX1_wasMissedLately 4 = .ok (.iconst (-1), 1) := by decide +kernel
theorem dX1_wasMissedLately_5 : decode cX1_wasMissedLately 5 = .ok (.if_icmp .eq 21, 3) := by decide +kernel
theorem dX1_wasMissedLately_8 : decode cX1_wasMissedLately 8 = .ok (.aload_n 0, 1) := by decide +kernel
theorem dX1_wasMissedLately_9 : decode cX1_wasMissedLately 9 = .ok (.getfield 55, 3) := by decide +kernel
theorem dX1_wasMissedLately_12 : decode cX1_wasMissedLately 12 = .ok (.aload_n 1, 1) := by decide +kernel
theorem dX1_wasMissedLately_13 : decode cX1_wasMissedLately 13 = .ok (.getfield 162, 3) := by decide +kernel
theorem dX1_wasMissedLately_16 : decode cX1_wasMissedLately 16 = .ok (.isub, 1) := by decide +kernel
theorem dX1_wasMissedLately_17 : decode cX1_wasMissedLately 17 = .ok (.bipush 50, 2) := by decide +kernel
theorem dX1_wasMissedLately_19 : decode cX1_wasMissedLately 19 = .ok (.if_icmp .gt 7, 3) := by decide +kernel
theorem dX1_wasMissedLately_22 : decode cX1_wasMissedLately 22 = .ok (.iconst 1, 1) := by decide +kernel
theorem dX1_wasMissedLately_23 : decode cX1_wasMissedLately 23 = .ok (.goto 4, 3) := by decide +kernel
theorem dX1_wasMissedLately_26 : decode cX1_wasMissedLately 26 = .ok (.iconst 0, 1) := by decide +kernel
theorem dX1_wasMissedLately_27 : decode cX1_wasMissedLately 27 = .ok (.ireturn, 1) := by decide +kernel
set_option maxRecDepth 20000 in
theorem ggX1_removeOwn_X1_hasEnded : GoodIn wsX1_removeOwn wsX1_hasEnded := goodIn_r _ [6, 7, 17, 18, 19, 20, 21, 22, 23, 24, 25, 26, 27, 28, 29, 8, 9, 10, 11, 12, 13, 14, 15, 16] (by decide +kernel) (by decide +kernel)
set_option maxRecDepth 20000 in
theorem gX1_removeOwn_X1_hasEnded : GoodIn wsX1_removeOwn (wsV RX1 37 RX1 yX1_hasEnded wsX1_hasEnded) := goodIn_app (goodIn_of _ (by decide +kernel)) ggX1_removeOwn_X1_hasEnded
theorem dX1_removeOwn_0 : decode cX1_removeOwn 0 = .ok (.aload_n 1, 1) := by decide +kernel
theorem dX1_removeOwn_1 : decode cX1_removeOwn 1 = .ok (.getfield 33, 3) := by decide +kernel
theorem dX1_removeOwn_4 : decode cX1_removeOwn 4 = .ok (.ifCond .eq 21, 3) := by decide +kernel
theorem dX1_removeOwn_7 : decode cX1_removeOwn 7 = .ok (.aload_n 0, 1) := by decide +kernel
theorem dX1_removeOwn_8 : decode cX1_removeOwn 8 = .ok (.aload_n 1, 1) := by decide +kernel
theorem dX1_removeOwn_9 : decode cX1_removeOwn 9 = .ok (.invokevirtual 37, 3) := by decide +kernel
theorem dX1_removeOwn_12 : decode cX1_removeOwn 12 = .ok (.ifCond .eq 13, 3) := by decide +kernel
theorem dX1_removeOwn_15 : decode cX1_removeOwn 15 = .ok (.aload_n 0, 1) := by decide +kernel
theorem dX1_removeOwn_16 : decode cX1_removeOwn 16 = .ok (.dup, 1) := by decide +kernel
theorem dX1_removeOwn_17 : decode cX1_removeOwn 17 = .ok (.getfield 144, 3) := by decide +kernel
theorem dX1_removeOwn_20 : decode cX1_removeOwn 20 = .ok (.iconst 1, 1) := by decide +kernel
theorem dX1_removeOwn_21 : decode cX1_removeOwn 21 = .ok (.iadd, 1) := by decide +kernel
theorem dX1_removeOwn_22 : decode cX1_removeOwn 22 = .ok (.putfield 144, 3) := by decide +kernel
theorem dX1_removeOwn_25 : decode cX1_removeOwn 25 = .ok (.aload_n 1, 1) := by decide +kernel
theorem dX1_removeOwn_26 : decode cX1_removeOwn 26 = .ok (.iconst 0, 1) := by decide +kernel
theorem dX1_removeOwn_27 : decode cX1_removeOwn 27 = .ok (.putfield 33, 3) := by decide +kernel
theorem dX1_removeOwn_30 : decode cX1_removeOwn 30 = .ok (.return_, 1) := by decide +kernel
set_option maxRecDepth 20000 in
theorem ggX1_makeRoom_X1_hasRoom : GoodIn wsX1_makeRoom wsX1_hasRoom := goodIn_r _ [6, 1, 7, 8, 9, 5, 10, 11, 50, 51, 52, 53, 54, 55, 56, 57, 58, 59, 60, 61, 62, 63, 64, 65, 66, 67, 68, 69, 70, 71] (by decide +kernel) (by decide +kernel)
set_option maxRecDepth 20000 in
theorem gX1_makeRoom_X1_hasRoom : GoodIn wsX1_makeRoom (wsV RX1 177 RX1 yX1_hasRoom wsX1_hasRoom) := goodIn_app (goodIn_of _ (by decide +kernel)) ggX1_makeRoom_X1_hasRoom
set_option maxRecDepth 20000 in
theorem ggX1_makeRoom_X1_removeAllOver : GoodIn wsX1_makeRoom wsX1_removeAllOver := goodIn_r _ [15, 11, 16, 17, 18, 19, 5, 20, 21, 50, 51, 52, 53, 54, 55, 56, 57, 58, 59, 60, 61, 62, 63, 64, 65, 66, 67, 68, 69, 70, 71] (by decide +kernel) (by decide +kernel)
set_option maxRecDepth 20000 in
theorem gX1_makeRoom_X1_removeAllOver : GoodIn wsX1_makeRoom (wsV RX1 64 RX1 yX1_removeAllOver wsX1_removeAllOver) := goodIn_app (goodIn_of _ (by decide +kernel)) ggX1_makeRoom_X1_removeAllOver
set_option maxRecDepth 20000 in
theorem ggX1_makeRoom_X1_bytesThatCannotLeave : GoodIn wsX1_makeRoom wsX1_bytesThatCannotLeave := goodIn_r _ [25, 11, 17, 18, 19, 5, 20, 21, 50, 51, 52, 53, 54, 55, 56, 57, 58, 59, 60, 61, 62, 63, 64, 65, 66, 67, 68, 69, 70, 71] (by decide +kernel) (by decide +kernel)
set_option maxRecDepth 20000 in
theorem gX1_makeRoom_X1_bytesThatCannotLeave : GoodIn wsX1_makeRoom (wsV RX1 68 RX1 yX1_bytesThatCannotLeave wsX1_bytesThatCannotLeave) := goodIn_app (goodIn_of _ (by decide +kernel)) ggX1_makeRoom_X1_bytesThatCannotLeave
set_option maxRecDepth 20000 in
theorem ggX1_makeRoom_X1_leaveDownTo : GoodIn wsX1_makeRoom wsX1_leaveDownTo := goodIn_r _ [29, 30, 31, 32, 33, 34, 35, 36, 37, 38, 5, 39, 40, 41, 42, 43, 11, 44, 45, 46, 47, 48, 49, 7, 8, 9, 10, 63, 64, 65, 66, 67, 68, 69, 70, 71, 50, 51, 52, 53, 54, 55, 56, 57, 58, 59, 60, 61, 62] (by decide +kernel) (by decide +kernel)
set_option maxRecDepth 20000 in
theorem gX1_makeRoom_X1_leaveDownTo : GoodIn wsX1_makeRoom (wsV RX1 81 RX1 yX1_leaveDownTo wsX1_leaveDownTo) := goodIn_app (goodIn_of _ (by decide +kernel)) ggX1_makeRoom_X1_leaveDownTo
theorem dX1_makeRoom_0 : decode cX1_makeRoom 0 = .ok (.aload_n 0, 1) := by decide +kernel
theorem dX1_makeRoom_1 : decode cX1_makeRoom 1 = .ok (.iload_n 1, 1) := by decide +kernel
theorem dX1_makeRoom_2 : decode cX1_makeRoom 2 = .ok (.invokevirtual 177, 3) := by decide +kernel
theorem dX1_makeRoom_5 : decode cX1_makeRoom 5 = .ok (.ifCond .eq 5, 3) := by decide +kernel
theorem dX1_makeRoom_8 : decode cX1_makeRoom 8 = .ok (.iconst 1, 1) := by decide +kernel
theorem dX1_makeRoom_9 : decode cX1_makeRoom 9 = .ok (.ireturn, 1) := by decide +kernel
theorem dX1_makeRoom_10 : decode cX1_makeRoom 10 = .ok (.aload_n 0, 1) := by decide +kernel
theorem dX1_makeRoom_11 : decode cX1_makeRoom 11 = .ok (.invokevirtual 64, 3) := by decide +kernel
theorem dX1_makeRoom_14 : decode cX1_makeRoom 14 = .ok (.pop, 1) := by decide +kernel
theorem dX1_makeRoom_15 : decode cX1_makeRoom 15 = .ok (.iload_n 1, 1) := by decide +kernel
theorem dX1_makeRoom_16 : decode cX1_makeRoom 16 = .ok (.aload_n 0, 1) := by decide +kernel
theorem dX1_makeRoom_17 : decode cX1_makeRoom 17 = .ok (.getfield 15, 3) := by decide +kernel
theorem dX1_makeRoom_20 : decode cX1_makeRoom 20 = .ok (.aload_n 0, 1) := by decide +kernel
theorem dX1_makeRoom_21 : decode cX1_makeRoom 21 = .ok (.invokevirtual 68, 3) := by decide +kernel
theorem dX1_makeRoom_24 : decode cX1_makeRoom 24 = .ok (.isub, 1) := by decide +kernel
theorem dX1_makeRoom_25 : decode cX1_makeRoom 25 = .ok (.if_icmp .le 5, 3) := by decide +kernel
theorem dX1_makeRoom_28 : decode cX1_makeRoom 28 = .ok (.iconst 0, 1) := by decide +kernel
theorem dX1_makeRoom_29 : decode cX1_makeRoom 29 = .ok (.ireturn, 1) := by decide +kernel
theorem dX1_makeRoom_30 : decode cX1_makeRoom 30 = .ok (.aload_n 0, 1) := by decide +kernel
theorem dX1_makeRoom_31 : decode cX1_makeRoom 31 = .ok (.aload_n 0, 1) := by decide +kernel
theorem dX1_makeRoom_32 : decode cX1_makeRoom 32 = .ok (.getfield 15, 3) := by decide +kernel
theorem dX1_makeRoom_35 : decode cX1_makeRoom 35 = .ok (.iload_n 1, 1) := by decide +kernel
theorem dX1_makeRoom_36 : decode cX1_makeRoom 36 = .ok (.isub, 1) := by decide +kernel
theorem dX1_makeRoom_37 : decode cX1_makeRoom 37 = .ok (.invokevirtual 81, 3) := by decide +kernel
theorem dX1_makeRoom_40 : decode cX1_makeRoom 40 = .ok (.pop, 1) := by decide +kernel
theorem dX1_makeRoom_41 : decode cX1_makeRoom 41 = .ok (.iconst 1, 1) := by decide +kernel
theorem dX1_makeRoom_42 : decode cX1_makeRoom 42 = .ok (.ireturn, 1) := by decide +kernel
set_option maxRecDepth 20000 in
theorem ggX1_fill_X1_setWorth : GoodIn wsX1_fill wsX1_setWorth := goodIn_r _ [6, 7, 8, 9, 19, 20, 21, 22, 23, 24, 25, 26, 27, 28, 29, 30, 31, 10, 11, 12, 13, 14, 15, 16, 17, 18] (by decide +kernel) (by decide +kernel)
set_option maxRecDepth 20000 in
theorem gX1_fill_X1_setWorth : GoodIn wsX1_fill (wsV RX1 156 RX1 yX1_setWorth wsX1_setWorth) := goodIn_app (goodIn_of _ (by decide +kernel)) ggX1_fill_X1_setWorth
theorem dX1_fill_0 : decode cX1_fill 0 = .ok (.aload_n 1, 1) := by decide +kernel
theorem dX1_fill_1 : decode cX1_fill 1 = .ok (.iconst 1, 1) := by decide +kernel
theorem dX1_fill_2 : decode cX1_fill 2 = .ok (.putfield 33, 3) := by decide +kernel
theorem dX1_fill_5 : decode cX1_fill 5 = .ok (.aload_n 1, 1) := by decide +kernel
theorem dX1_fill_6 : decode cX1_fill 6 = .ok (.iconst 0, 1) := by decide +kernel
theorem dX1_fill_7 : decode cX1_fill 7 = .ok (.putfield 61, 3) := by decide +kernel
theorem dX1_fill_10 : decode cX1_fill 10 = .ok (.aload_n 1, 1) := by decide +kernel
theorem dX1_fill_11 : decode cX1_fill 11 = .ok (.iload_n 2, 1) := by decide +kernel
theorem dX1_fill_12 : decode cX1_fill 12 = .ok (.putfield 41, 3) := by decide +kernel
theorem dX1_fill_15 : decode cX1_fill 15 = .ok (.aload_n 1, 1) := by decide +kernel
theorem dX1_fill_16 : decode cX1_fill 16 = .ok (.iconst 1, 1) := by decide +kernel
theorem dX1_fill_17 : decode cX1_fill 17 = .ok (.putfield 85, 3) := by decide +kernel
theorem dX1_fill_20 : decode cX1_fill 20 = .ok (.aload_n 1, 1) := by decide +kernel
theorem dX1_fill_21 : decode cX1_fill 21 = .ok (.aload_n 0, 1) := by decide +kernel
theorem dX1_fill_22 : decode cX1_fill 22 = .ok (.getfield 55, 3) := by decide +kernel
theorem dX1_fill_25 : decode cX1_fill 25 = .ok (.iload 4, 2) := by decide +kernel
theorem dX1_fill_27 : decode cX1_fill 27 = .ok (.iadd, 1) := by decide +kernel
theorem dX1_fill_28 : decode cX1_fill 28 = .ok (.putfield 94, 3) := by decide +kernel
theorem dX1_fill_31 : decode cX1_fill 31 = .ok (.aload_n 0, 1) := by decide +kernel
theorem dX1_fill_32 : decode cX1_fill 32 = .ok (.aload_n 1, 1) := by decide +kernel
theorem dX1_fill_33 : decode cX1_fill 33 = .ok (.iload_n 3, 1) := by decide +kernel
theorem dX1_fill_34 : decode cX1_fill 34 = .ok (.invokevirtual 156, 3) := by decide +kernel
theorem dX1_fill_37 : decode cX1_fill 37 = .ok (.return_, 1) := by decide +kernel
theorem dX1_setWorth_0 : decode cX1_setWorth 0 = .ok (.aload_n 0, 1) := by decide +kernel
theorem dX1_setWorth_1 : decode cX1_setWorth 1 = .ok (.dup, 1) := by decide +kernel
theorem dX1_setWorth_2 : decode cX1_setWorth 2 = .ok (.getfield 180, 3) := by decide +kernel
theorem dX1_setWorth_5 : decode cX1_setWorth 5 = .ok (.lconst 1, 1) := by decide +kernel
theorem dX1_setWorth_6 : decode cX1_setWorth 6 = .ok (.ladd, 1) := by decide +kernel
theorem dX1_setWorth_7 : decode cX1_setWorth 7 = .ok (.putfield 180, 3) := by decide +kernel
theorem dX1_setWorth_10 : decode cX1_setWorth 10 = .ok (.aload_n 1, 1) := by decide +kernel
theorem dX1_setWorth_11 : decode cX1_setWorth 11 = .ok (.aload_n 0, 1) := by decide +kernel
theorem dX1_setWorth_12 : decode cX1_setWorth 12 = .ok (.getfield 180, 3) := by decide +kernel
theorem dX1_setWorth_15 : decode cX1_setWorth 15 = .ok (.putfield 183, 3) := by decide +kernel
theorem dX1_setWorth_18 : decode cX1_setWorth 18 = .ok (.aload_n 1, 1) := by decide +kernel
theorem dX1_setWorth_19 : decode cX1_setWorth 19 = .ok (.aload_n 1, 1) := by decide +kernel
theorem dX1_setWorth_20 : decode cX1_setWorth 20 = .ok (.getfield 41, 3) := by decide +kernel
theorem dX1_setWorth_23 : decode cX1_setWorth 23 = .ok (.iconst 1, 1) := by decide +kernel
theorem dX1_setWorth_24 : decode cX1_setWorth 24 = .ok (.if_icmp .ge 10, 3) := by decide +kernel
theorem dX1_setWorth_27 : decode cX1_setWorth 27 = .ok (.aload_n 0, 1) := by decide +kernel
theorem dX1_setWorth_28 : decode cX1_setWorth 28 = .ok (.getfield 123, 3) := by decide +kernel
theorem dX1_setWorth_31 : decode cX1_setWorth 31 = .ok (.goto 26, 3) := by decide +kernel
theorem dX1_setWorth_34 : decode cX1_setWorth 34 = .ok (.aload_n 0, 1) := by decide +kernel
theorem dX1_setWorth_35 : decode cX1_setWorth 35 = .ok (.getfield 123, 3) := by decide +kernel
theorem dX1_setWorth_38 : decode cX1_setWorth 38 = .ok (.ldc2_w 186, 3) := by decide +kernel
theorem dX1_setWorth_41 : decode cX1_setWorth 41 = .ok (.aload_n 1, 1) := by decide +kernel
theorem dX1_setWorth_42 : decode cX1_setWorth 42 = .ok (.getfield 85, 3) := by decide +kernel
theorem dX1_setWorth_45 : decode cX1_setWorth 45 = .ok (.i2l, 1) := by decide +kernel
theorem dX1_setWorth_46 : decode cX1_setWorth 46 = .ok (.lmul, 1) := by decide +kernel
theorem dX1_setWorth_47 : decode cX1_setWorth 47 = .ok (.iload_n 2, 1) := by decide +kernel
theorem dX1_setWorth_48 : decode cX1_setWorth 48 = .ok (.i2l, 1) := by decide +kernel
theorem dX1_setWorth_49 : decode cX1_setWorth 49 = .ok (.lmul, 1) := by decide +kernel
theorem dX1_setWorth_50 : decode cX1_setWorth 50 = .ok (.aload_n 1, 1) := by decide +kernel
theorem dX1_setWorth_51 : decode cX1_setWorth 51 = .ok (.getfield 41, 3) := by decide +kernel
theorem dX1_setWorth_54 : decode cX1_setWorth 54 = .ok (.i2l, 1) := by decide +kernel
theorem dX1_setWorth_55 : decode cX1_setWorth 55 = .ok (.ldiv, 1) := by decide +kernel
theorem dX1_setWorth_56 : decode cX1_setWorth 56 = .ok (.ladd, 1) := by decide +kernel
theorem dX1_setWorth_57 : decode cX1_setWorth 57 = .ok (.putfield 88, 3) := by decide +kernel
theorem dX1_setWorth_60 : decode cX1_setWorth 60 = .ok (.return_, 1) := by decide +kernel
set_option maxRecDepth 20000 in
theorem ggX1_hasRoom_X1_used : GoodIn wsX1_hasRoom wsX1_used := goodIn_r _ [6, 7, 8, 9, 10, 11, 12, 13, 14, 15, 16, 17, 18, 19, 20, 21, 22, 23, 24, 25, 26, 27, 28, 29] (by decide +kernel) (by decide +kernel)
set_option maxRecDepth 20000 in
theorem gX1_hasRoom_X1_used : GoodIn wsX1_hasRoom (wsV RX1 78 RX1 yX1_used wsX1_used) := goodIn_app (goodIn_of _ (by decide +kernel)) ggX1_hasRoom_X1_used
theorem dX1_hasRoom_0 : decode cX1_hasRoom 0 = .ok (.aload_n 0, 1) := by decide +kernel
theorem dX1_hasRoom_1 : decode cX1_hasRoom 1 = .ok (.invokevirtual 78, 3) := by decide +kernel
theorem dX1_hasRoom_4 : decode cX1_hasRoom 4 = .ok (.aload_n 0, 1) := by decide +kernel
theorem dX1_hasRoom_5 : decode cX1_hasRoom 5 = .ok (.getfield 15, 3) := by decide +kernel
theorem dX1_hasRoom_8 : decode cX1_hasRoom 8 = .ok (.iload_n 1, 1) := by decide +kernel
theorem dX1_hasRoom_9 : decode cX1_hasRoom 9 = .ok (.isub, 1) := by decide +kernel
theorem dX1_hasRoom_10 : decode cX1_hasRoom 10 = .ok (.if_icmp .gt 7, 3) := by decide +kernel
theorem dX1_hasRoom_13 : decode cX1_hasRoom 13 = .ok (.iconst 1, 1) := by decide +kernel
theorem dX1_hasRoom_14 : decode cX1_hasRoom 14 = .ok (.goto 4, 3) := by decide +kernel
theorem dX1_hasRoom_17 : decode cX1_hasRoom 17 = .ok (.iconst 0, 1) := by decide +kernel
theorem dX1_hasRoom_18 : decode cX1_hasRoom 18 = .ok (.ireturn, 1) := by decide +kernel
theorem dX1_hasEnded_0 : decode cX1_hasEnded 0 = .ok (.aload_n 0, 1) := by decide +kernel
theorem dX1_hasEnded_1 : decode cX1_hasEnded 1 = .ok (.getfield 55, 3) := by decide +kernel
theorem dX1_hasEnded_4 : decode cX1_hasEnded 4 = .ok (.aload_n 1, 1) := by decide +kernel
theorem dX1_hasEnded_5 : decode cX1_hasEnded 5 = .ok (.getfield 94, 3) := by decide +kernel
theorem dX1_hasEnded_8 : decode cX1_hasEnded 8 = .ok (.if_icmp .lt 7, 3) := by decide +kernel
theorem dX1_hasEnded_11 : decode cX1_hasEnded 11 = .ok (.iconst 1, 1) := by decide +kernel
theorem dX1_hasEnded_12 : decode cX1_hasEnded 12 = .ok (.goto 4, 3) := by decide +kernel
theorem dX1_hasEnded_15 : decode cX1_hasEnded 15 = .ok (.iconst 0, 1) := by decide +kernel
theorem dX1_hasEnded_16 : decode cX1_hasEnded 16 = .ok (.ireturn, 1) := by decide +kernel
set_option maxRecDepth 20000 in
theorem ggX1_removeAllOver_X1_hasEnded : GoodIn wsX1_removeAllOver wsX1_hasEnded := goodIn_r _ [7, 8, 9, 10, 11, 12, 13, 14, 15, 16, 17, 18, 19, 20, 21, 22, 23, 24, 25, 26, 27, 28, 29, 30] (by decide +kernel) (by decide +kernel)
set_option maxRecDepth 20000 in
theorem gX1_removeAllOver_X1_hasEnded : GoodIn wsX1_removeAllOver (wsV RX1 37 RX1 yX1_hasEnded wsX1_hasEnded) := goodIn_app (goodIn_of _ (by decide +kernel)) ggX1_removeAllOver_X1_hasEnded
theorem dX1_removeAllOver_0 : decode cX1_removeAllOver 0 = .ok (.iconst 0, 1) := by decide +kernel
theorem dX1_removeAllOver_1 : decode cX1_removeAllOver 1 = .ok (.istore_n 1, 1) := by decide +kernel
theorem dX1_removeAllOver_2 : decode cX1_removeAllOver 2 = .ok (.aload_n 0, 1) := by decide +kernel
theorem dX1_removeAllOver_3 : decode cX1_removeAllOver 3 = .ok (.getfield 11, 3) := by decide +kernel
theorem dX1_removeAllOver_6 : decode cX1_removeAllOver 6 = .ok (.astore_n 2, 1) := by decide +kernel
theorem dX1_removeAllOver_7 : decode cX1_removeAllOver 7 = .ok (.aload_n 2, 1) := by decide +kernel
theorem dX1_removeAllOver_8 : decode cX1_removeAllOver 8 = .ok (.arraylength, 1) := by decide +kernel
theorem dX1_removeAllOver_9 : decode cX1_removeAllOver 9 = .ok (.istore_n 3, 1) := by decide +kernel
theorem dX1_removeAllOver_10 : decode cX1_removeAllOver 10 = .ok (.iconst 0, 1) := by decide +kernel
theorem dX1_removeAllOver_11 : decode cX1_removeAllOver 11 = .ok (.istore 4, 2) := by decide +kernel
theorem dX1_removeAllOver_13 : decode cX1_removeAllOver 13 = .ok (.iload 4, 2) := by decide +kernel
theorem dX1_removeAllOver_15 : decode cX1_removeAllOver 15 = .ok (.iload_n 3, 1) := by decide +kernel
theorem dX1_removeAllOver_16 : decode cX1_removeAllOver 16 = .ok (.if_icmp .ge 41, 3) := by decide +kernel
theorem dX1_removeAllOver_19 : decode cX1_removeAllOver 19 = .ok (.aload_n 2, 1) := by decide +kernel
theorem dX1_removeAllOver_20 : decode cX1_removeAllOver 20 = .ok (.iload 4, 2) := by decide +kernel
theorem dX1_removeAllOver_22 : decode cX1_removeAllOver 22 = .ok (.aaload, 1) := by decide +kernel
theorem dX1_removeAllOver_23 : decode cX1_removeAllOver 23 = .ok (.astore 5, 2) := by decide +kernel
theorem dX1_removeAllOver_25 : decode cX1_removeAllOver 25 = .ok (.aload 5, 2) := by decide +kernel
theorem dX1_removeAllOver_27 : decode cX1_removeAllOver 27 = .ok (.getfield 33, 3) := by decide +kernel
theorem dX1_removeAllOver_30 : decode cX1_removeAllOver 30 = .ok (.ifCond .eq 21, 3) := by decide +kernel
theorem dX1_removeAllOver_33 : decode cX1_removeAllOver 33 = .ok (.aload_n 0, 1) := by decide +kernel
theorem dX1_removeAllOver_34 : decode cX1_removeAllOver 34 = .ok (.aload 5, 2) := by decide +kernel
theorem dX1_removeAllOver_36 : decode cX1_removeAllOver 36 = .ok (.invokevirtual 37, 3) := by decide +kernel
theorem dX1_removeAllOver_39 : decode cX1_removeAllOver 39 = .ok (.ifCond .eq 12, 3) := by decide +kernel
theorem dX1_removeAllOver_42 : decode cX1_removeAllOver 42 = .ok (.aload 5, 2) := by decide +kernel
theorem dX1_removeAllOver_44 : decode cX1_removeAllOver 44 = .ok (.iconst 0, 1) := by decide +kernel
theorem dX1_removeAllOver_45 : decode cX1_removeAllOver 45 = .ok (.putfield 33, 3) := by decide +kernel
theorem dX1_removeAllOver_48 : decode cX1_removeAllOver 48 = .ok (.iinc 1 1, 3) := by decide +kernel
theorem dX1_removeAllOver_51 : decode cX1_removeAllOver 51 = .ok (.iinc 4 1, 3) := by decide +kernel
theorem dX1_removeAllOver_54 : decode cX1_removeAllOver 54 = .ok (.goto (-41), 3) := by decide +kernel
theorem dX1_removeAllOver_57 : decode cX1_removeAllOver 57 = .ok (.aload_n 0, 1) := by decide +kernel
theorem dX1_removeAllOver_58 : decode cX1_removeAllOver 58 = .ok (.dup, 1) := by decide +kernel
theorem dX1_removeAllOver_59 : decode cX1_removeAllOver 59 = .ok (.getfield 144, 3) := by decide +kernel
theorem dX1_removeAllOver_62 : decode cX1_removeAllOver 62 = .ok (.iload_n 1, 1) := by decide +kernel
theorem dX1_removeAllOver_63 : decode cX1_removeAllOver 63 = .ok (.iadd, 1) := by decide +kernel
theorem dX1_removeAllOver_64 : decode cX1_removeAllOver 64 = .ok (.putfield 144, 3) := by decide +kernel
theorem dX1_removeAllOver_67 : decode cX1_removeAllOver 67 = .ok (.iload_n 1, 1) := by decide +kernel
theorem dX1_removeAllOver_68 : decode cX1_removeAllOver 68 = .ok (.ireturn, 1) := by decide +kernel
set_option maxRecDepth 20000 in
theorem ggX1_bytesThatCannotLeave_X1_hasEnded : GoodIn wsX1_bytesThatCannotLeave wsX1_hasEnded := goodIn_r _ [6, 7, 8, 9, 10, 11, 12, 13, 14, 15, 16, 17, 18, 19, 20, 21, 22, 23, 24, 25, 26, 27, 28, 29] (by decide +kernel) (by decide +kernel)
set_option maxRecDepth 20000 in
theorem gX1_bytesThatCannotLeave_X1_hasEnded : GoodIn wsX1_bytesThatCannotLeave (wsV RX1 37 RX1 yX1_hasEnded wsX1_hasEnded) := goodIn_app (goodIn_of _ (by decide +kernel)) ggX1_bytesThatCannotLeave_X1_hasEnded
theorem dX1_bytesThatCannotLeave_0 : decode cX1_bytesThatCannotLeave 0 = .ok (.iconst 0, 1) := by decide +kernel
theorem dX1_bytesThatCannotLeave_1 : decode cX1_bytesThatCannotLeave 1 = .ok (.istore_n 1, 1) := by decide +kernel
theorem dX1_bytesThatCannotLeave_2 : decode cX1_bytesThatCannotLeave 2 = .ok (.aload_n 0, 1) := by decide +kernel
theorem dX1_bytesThatCannotLeave_3 : decode cX1_bytesThatCannotLeave 3 = .ok (.getfield 11, 3) := by decide +kernel
theorem dX1_bytesThatCannotLeave_6 : decode cX1_bytesThatCannotLeave 6 = .ok (.astore_n 2, 1) := by decide +kernel
theorem dX1_bytesThatCannotLeave_7 : decode cX1_bytesThatCannotLeave 7 = .ok (.aload_n 2, 1) := by decide +kernel
theorem dX1_bytesThatCannotLeave_8 : decode cX1_bytesThatCannotLeave 8 = .ok (.arraylength, 1) := by decide +kernel
theorem dX1_bytesThatCannotLeave_9 : decode cX1_bytesThatCannotLeave 9 = .ok (.istore_n 3, 1) := by decide +kernel
theorem dX1_bytesThatCannotLeave_10 : decode cX1_bytesThatCannotLeave 10 = .ok (.iconst 0, 1) := by decide +kernel
theorem dX1_bytesThatCannotLeave_11 : decode cX1_bytesThatCannotLeave 11 = .ok (.istore 4, 2) := by decide +kernel
theorem dX1_bytesThatCannotLeave_13 : decode cX1_bytesThatCannotLeave 13 = .ok (.iload 4, 2) := by decide +kernel
theorem dX1_bytesThatCannotLeave_15 : decode cX1_bytesThatCannotLeave 15 = .ok (.iload_n 3, 1) := by decide +kernel
theorem dX1_bytesThatCannotLeave_16 : decode cX1_bytesThatCannotLeave 16 = .ok (.if_icmp .ge 48, 3) := by decide +kernel
theorem dX1_bytesThatCannotLeave_19 : decode cX1_bytesThatCannotLeave 19 = .ok (.aload_n 2, 1) := by decide +kernel
theorem dX1_bytesThatCannotLeave_20 : decode cX1_bytesThatCannotLeave 20 = .ok (.iload 4, 2) := by decide +kernel
theorem dX1_bytesThatCannotLeave_22 : decode cX1_bytesThatCannotLeave 22 = .ok (.aaload, 1) := by decide +kernel
theorem dX1_bytesThatCannotLeave_23 : decode cX1_bytesThatCannotLeave 23 = .ok (.astore 5, 2) := by decide +kernel
theorem dX1_bytesThatCannotLeave_25 : decode cX1_bytesThatCannotLeave 25 = .ok (.aload 5, 2) := by decide +kernel
theorem dX1_bytesThatCannotLeave_27 : decode cX1_bytesThatCannotLeave 27 = .ok (.getfield 33, 3) := by decide +kernel
theorem dX1_bytesThatCannotLeave_30 : decode cX1_bytesThatCannotLeave 30 = .ok (.ifCond .eq 28, 3) := by decide +kernel
theorem dX1_bytesThatCannotLeave_33 : decode cX1_bytesThatCannotLeave 33 = .ok (.aload 5, 2) := by decide +kernel
theorem dX1_bytesThatCannotLeave_35 : decode cX1_bytesThatCannotLeave 35 = .ok (.getfield 61, 3) := by decide +kernel
theorem dX1_bytesThatCannotLeave_38 : decode cX1_bytesThatCannotLeave 38 = .ok (.ifCond .eq 20, 3) := by decide +kernel
theorem dX1_bytesThatCannotLeave_41 : decode cX1_bytesThatCannotLeave 41 = .ok (.aload_n 0, 1) := by decide +kernel
theorem dX1_bytesThatCannotLeave_42 : decode cX1_bytesThatCannotLeave 42 = .ok (.aload 5, 2) := by decide +kernel
theorem dX1_bytesThatCannotLeave_44 : decode cX1_bytesThatCannotLeave 44 = .ok (.invokevirtual 37, 3) := by decide +kernel
theorem dX1_bytesThatCannotLeave_47 : decode cX1_bytesThatCannotLeave 47 = .ok (.ifCond .ne 11, 3) := by decide +kernel
theorem dX1_bytesThatCannotLeave_50 : decode cX1_bytesThatCannotLeave 50 = .ok (.iload_n 1, 1) := by decide +kernel
theorem dX1_bytesThatCannotLeave_51 : decode cX1_bytesThatCannotLeave 51 = .ok (.aload 5, 2) := by decide +kernel
theorem dX1_bytesThatCannotLeave_53 : decode cX1_bytesThatCannotLeave 53 = .ok (.getfield 41, 3) := by decide +kernel
theorem dX1_bytesThatCannotLeave_56 : decode cX1_bytesThatCannotLeave 56 = .ok (.iadd, 1) := by decide +kernel
theorem dX1_bytesThatCannotLeave_57 : decode cX1_bytesThatCannotLeave 57 = .ok (.istore_n 1, 1) := by decide +kernel
theorem dX1_bytesThatCannotLeave_58 : decode cX1_bytesThatCannotLeave 58 = .ok (.iinc 4 1, 3) := by decide +kernel
theorem dX1_bytesThatCannotLeave_61 : decode cX1_bytesThatCannotLeave 61 = .ok (.goto (-48), 3) := by decide +kernel
theorem dX1_bytesThatCannotLeave_64 : decode cX1_bytesThatCannotLeave 64 = .ok (.iload_n 1, 1) := by decide +kernel
theorem dX1_bytesThatCannotLeave_65 : decode cX1_bytesThatCannotLeave 65 = .ok (.ireturn, 1) := by decide +kernel
set_option maxRecDepth 20000 in
theorem ggX1_leaveDownTo_X1_firstInOrder : GoodIn wsX1_leaveDownTo wsX1_firstInOrder := goodIn_r _ [11, 12, 13, 14, 10, 15, 16, 17, 18, 19, 20, 21, 22, 36, 37, 38, 39, 40, 41, 42, 43, 44, 45, 46, 47, 48, 27, 28, 29, 30, 31, 32, 33, 34, 35] (by decide +kernel) (by decide +kernel)
set_option maxRecDepth 20000 in
theorem gX1_leaveDownTo_X1_firstInOrder : GoodIn wsX1_leaveDownTo (wsV RX1 97 RX1 yX1_firstInOrder wsX1_firstInOrder) := goodIn_app (goodIn_of _ (by decide +kernel)) ggX1_leaveDownTo_X1_firstInOrder
set_option maxRecDepth 20000 in
theorem ggX1_leaveDownTo_X1_used : GoodIn wsX1_leaveDownTo wsX1_used := goodIn_r _ [26, 16, 36, 37, 38, 39, 40, 41, 42, 43, 44, 45, 46, 47, 48, 27, 28, 29, 30, 31, 32, 33, 34, 35] (by decide +kernel) (by decide +kernel)
set_option maxRecDepth 20000 in
theorem gX1_leaveDownTo_X1_used : GoodIn wsX1_leaveDownTo (wsV RX1 78 RX1 yX1_used wsX1_used) := goodIn_app (goodIn_of _ (by decide +kernel)) ggX1_leaveDownTo_X1_used
theorem dX1_leaveDownTo_0 : decode cX1_leaveDownTo 0 = .ok (.iconst 0, 1) := by decide +kernel
theorem dX1_leaveDownTo_1 : decode cX1_leaveDownTo 1 = .ok (.istore_n 2, 1) := by decide +kernel
theorem dX1_leaveDownTo_2 : decode cX1_leaveDownTo 2 = .ok (.aload_n 0, 1) := by decide +kernel
theorem dX1_leaveDownTo_3 : decode cX1_leaveDownTo 3 = .ok (.invokevirtual 97, 3) := by decide +kernel
theorem dX1_leaveDownTo_6 : decode cX1_leaveDownTo 6 = .ok (.astore_n 3, 1) := by decide +kernel
theorem dX1_leaveDownTo_7 : decode cX1_leaveDownTo 7 = .ok (.iload_n 2, 1) := by decide +kernel
theorem dX1_leaveDownTo_8 : decode cX1_leaveDownTo 8 = .ok (.bipush 32, 2) := by decide +kernel
theorem dX1_leaveDownTo_10 : decode cX1_leaveDownTo 10 = .ok (.if_icmp .ge 46, 3) := by decide +kernel
theorem dX1_leaveDownTo_13 : decode cX1_leaveDownTo 13 = .ok (.aload_n 3, 1) := by decide +kernel
theorem dX1_leaveDownTo_14 : decode cX1_leaveDownTo 14 = .ok (.ifnull 42, 3) := by decide +kernel
theorem dX1_leaveDownTo_17 : decode cX1_leaveDownTo 17 = .ok (.aload_n 0, 1) := by decide +kernel
theorem dX1_leaveDownTo_18 : decode cX1_leaveDownTo 18 = .ok (.invokevirtual 78, 3) := by decide +kernel
theorem dX1_leaveDownTo_21 : decode cX1_leaveDownTo 21 = .ok (.iload_n 1, 1) := by decide +kernel
theorem dX1_leaveDownTo_22 : decode cX1_leaveDownTo 22 = .ok (.if_icmp .le 34, 3) := by decide +kernel
theorem dX1_leaveDownTo_25 : decode cX1_leaveDownTo 25 = .ok (.aload_n 3, 1) := by decide +kernel
theorem dX1_leaveDownTo_26 : decode cX1_leaveDownTo 26 = .ok (.iconst 0, 1) := by decide +kernel
theorem dX1_leaveDownTo_27 : decode cX1_leaveDownTo 27 = .ok (.putfield 33, 3) := by decide +kernel
theorem dX1_leaveDownTo_30 : decode cX1_leaveDownTo 30 = .ok (.aload_n 0, 1) := by decide +kernel
theorem dX1_leaveDownTo_31 : decode cX1_leaveDownTo 31 = .ok (.aload_n 0, 1) := by decide +kernel
theorem dX1_leaveDownTo_32 : decode cX1_leaveDownTo 32 = .ok (.getfield 123, 3) := by decide +kernel
theorem dX1_leaveDownTo_35 : decode cX1_leaveDownTo 35 = .ok (.aload_n 3, 1) := by decide +kernel
theorem dX1_leaveDownTo_36 : decode cX1_leaveDownTo 36 = .ok (.getfield 88, 3) := by decide +kernel
theorem dX1_leaveDownTo_39 : decode cX1_leaveDownTo 39 = .ok (.invokestatic 188, 3) := by decide +kernel
theorem dX1_leaveDownTo_42 : decode cX1_leaveDownTo 42 = .ok (.putfield 123, 3) := by decide +kernel
theorem dX1_leaveDownTo_45 : decode cX1_leaveDownTo 45 = .ok (.iinc 2 1, 3) := by decide +kernel
theorem dX1_leaveDownTo_48 : decode cX1_leaveDownTo 48 = .ok (.aload_n 0, 1) := by decide +kernel
theorem dX1_leaveDownTo_49 : decode cX1_leaveDownTo 49 = .ok (.invokevirtual 97, 3) := by decide +kernel
theorem dX1_leaveDownTo_52 : decode cX1_leaveDownTo 52 = .ok (.astore_n 3, 1) := by decide +kernel
theorem dX1_leaveDownTo_53 : decode cX1_leaveDownTo 53 = .ok (.goto (-46), 3) := by decide +kernel
theorem dX1_leaveDownTo_56 : decode cX1_leaveDownTo 56 = .ok (.aload_n 0, 1) := by decide +kernel
theorem dX1_leaveDownTo_57 : decode cX1_leaveDownTo 57 = .ok (.dup, 1) := by decide +kernel
theorem dX1_leaveDownTo_58 : decode cX1_leaveDownTo 58 = .ok (.getfield 141, 3) := by decide +kernel
theorem dX1_leaveDownTo_61 : decode cX1_leaveDownTo 61 = .ok (.iload_n 2, 1) := by decide +kernel
theorem dX1_leaveDownTo_62 : decode cX1_leaveDownTo 62 = .ok (.iadd, 1) := by decide +kernel
theorem dX1_leaveDownTo_63 : decode cX1_leaveDownTo 63 = .ok (.putfield 141, 3) := by decide +kernel
theorem dX1_leaveDownTo_66 : decode cX1_leaveDownTo 66 = .ok (.iload_n 2, 1) := by decide +kernel
theorem dX1_leaveDownTo_67 : decode cX1_leaveDownTo 67 = .ok (.ireturn, 1) := by decide +kernel
set_option maxRecDepth 20000 in
theorem ggX1_countThatWouldLeave_X1_bytesNotOver : GoodIn wsX1_countThatWouldLeave wsX1_bytesNotOver := goodIn_r _ [6, 7, 8, 9, 10, 5, 11, 12, 27, 28, 29, 30, 31, 32, 33, 34, 35, 36, 37, 38, 39, 40, 41, 42, 43, 44, 45, 46, 47, 48] (by decide +kernel) (by decide +kernel)
set_option maxRecDepth 20000 in
theorem gX1_countThatWouldLeave_X1_bytesNotOver : GoodIn wsX1_countThatWouldLeave (wsV RX1 194 RX1 yX1_bytesNotOver wsX1_bytesNotOver) := goodIn_app (goodIn_of _ (by decide +kernel)) ggX1_countThatWouldLeave_X1_bytesNotOver
set_option maxRecDepth 20000 in
theorem ggX1_countThatWouldLeave_X1_firstInOrder : GoodIn wsX1_countThatWouldLeave wsX1_firstInOrder := goodIn_r _ [16, 17, 18, 19, 5, 20, 7, 21, 22, 23, 24, 25, 26, 27, 28, 29, 30, 31, 32, 33, 34, 35, 36, 37, 38, 39, 40, 41, 42, 43, 44, 45, 46, 47, 48] (by decide +kernel) (by decide +kernel)
set_option maxRecDepth 20000 in
theorem gX1_countThatWouldLeave_X1_firstInOrder : GoodIn wsX1_countThatWouldLeave (wsV RX1 97 RX1 yX1_firstInOrder wsX1_firstInOrder) := goodIn_app (goodIn_of _ (by decide +kernel)) ggX1_countThatWouldLeave_X1_firstInOrder
set_option maxRecDepth 20000 in
theorem ggX1_countThatWouldLeave_X1_hasEnded : GoodIn wsX1_countThatWouldLeave wsX1_hasEnded := goodIn_r _ [11, 12, 27, 28, 29, 30, 31, 32, 33, 34, 35, 36, 37, 38, 39, 40, 41, 42, 43, 44, 45, 46, 47, 48] (by decide +kernel) (by decide +kernel)
set_option maxRecDepth 20000 in
theorem gX1_countThatWouldLeave_X1_hasEnded : GoodIn wsX1_countThatWouldLeave (wsV RX1 37 RX1 yX1_hasEnded wsX1_hasEnded) := goodIn_app (goodIn_of _ (by decide +kernel)) ggX1_countThatWouldLeave_X1_hasEnded
set_option maxRecDepth 20000 in
theorem ggX1_countThatWouldLeave_X1_nextInOrder : GoodIn wsX1_countThatWouldLeave wsX1_nextInOrder := goodIn_r _ [20, 7, 21, 22, 5, 23, 24, 25, 26, 27, 28, 29, 30, 31, 32, 33, 34, 35, 36, 37, 38, 39, 40, 41, 42, 43, 44, 45, 46, 47, 48] (by decide +kernel) (by decide +kernel)
set_option maxRecDepth 20000 in
theorem gX1_countThatWouldLeave_X1_nextInOrder : GoodIn wsX1_countThatWouldLeave (wsV RX1 101 RX1 yX1_nextInOrder wsX1_nextInOrder) := goodIn_app (goodIn_of _ (by decide +kernel)) ggX1_countThatWouldLeave_X1_nextInOrder
theorem dX1_countThatWouldLeave_0 : decode cX1_countThatWouldLeave 0 = .ok (.aload_n 0, 1) := by decide +kernel
theorem dX1_countThatWouldLeave_1 : decode cX1_countThatWouldLeave 1 = .ok (.invokevirtual 194, 3) := by decide +kernel
theorem dX1_countThatWouldLeave_4 : decode cX1_countThatWouldLeave 4 = .ok (.istore_n 2, 1) := by decide +kernel
theorem dX1_countThatWouldLeave_5 : decode cX1_countThatWouldLeave 5 = .ok (.iconst 0, 1) := by decide +kernel
theorem dX1_countThatWouldLeave_6 : decode cX1_countThatWouldLeave 6 = .ok (.istore_n 3, 1) := by decide +kernel
theorem dX1_countThatWouldLeave_7 : decode cX1_countThatWouldLeave 7 = .ok (.aload_n 0, 1) := by decide +kernel
theorem dX1_countThatWouldLeave_8 : decode cX1_countThatWouldLeave 8 = .ok (.invokevirtual 97, 3) := by decide +kernel
theorem dX1_countThatWouldLeave_11 : decode cX1_countThatWouldLeave 11 = .ok (.astore 4, 2) := by decide +kernel
theorem dX1_countThatWouldLeave_13 : decode cX1_countThatWouldLeave 13 = .ok (.iconst 0, 1) := by decide +kernel
theorem dX1_countThatWouldLeave_14 : decode cX1_countThatWouldLeave 14 = .ok (.istore 5, 2) := by decide +kernel
theorem dX1_countThatWouldLeave_16 : decode cX1_countThatWouldLeave 16 = .ok (.iload 5, 2) := by decide +kernel
theorem dX1_countThatWouldLeave_18 : decode cX1_countThatWouldLeave 18 = .ok (.bipush 32, 2) := by decide +kernel
theorem dX1_countThatWouldLeave_20 : decode cX1_countThatWouldLeave 20 = .ok (.if_icmp .ge 52, 3) := by decide +kernel
theorem dX1_countThatWouldLeave_23 : decode cX1_countThatWouldLeave 23 = .ok (.aload 4, 2) := by decide +kernel
theorem dX1_countThatWouldLeave_25 : decode cX1_countThatWouldLeave 25 = .ok (.ifnull 47, 3) := by decide +kernel
theorem dX1_countThatWouldLeave_28 : decode cX1_countThatWouldLeave 28 = .ok (.iload_n 2, 1) := by decide +kernel
theorem dX1_countThatWouldLeave_29 : decode cX1_countThatWouldLeave 29 = .ok (.aload_n 0, 1) := by decide +kernel
theorem dX1_countThatWouldLeave_30 : decode cX1_countThatWouldLeave 30 = .ok (.getfield 15, 3) := by decide +kernel
theorem dX1_countThatWouldLeave_33 : decode cX1_countThatWouldLeave 33 = .ok (.iload_n 1, 1) := by decide +kernel
theorem dX1_countThatWouldLeave_34 : decode cX1_countThatWouldLeave 34 = .ok (.isub, 1) := by decide +kernel
theorem dX1_countThatWouldLeave_35 : decode cX1_countThatWouldLeave 35 = .ok (.if_icmp .le 37, 3) := by decide +kernel
theorem dX1_countThatWouldLeave_38 : decode cX1_countThatWouldLeave 38 = .ok (.aload_n 0, 1) := by decide +kernel
theorem dX1_countThatWouldLeave_39 : decode cX1_countThatWouldLeave 39 = .ok (.aload 4, 2) := by decide +kernel
theorem dX1_countThatWouldLeave_41 : decode cX1_countThatWouldLeave 41 = .ok (.invokevirtual 37, 3) := by decide +kernel
theorem dX1_countThatWouldLeave_44 : decode cX1_countThatWouldLeave 44 = .ok (.ifCond .ne 14, 3) := by decide +kernel
theorem dX1_countThatWouldLeave_47 : decode cX1_countThatWouldLeave 47 = .ok (.iload_n 2, 1) := by decide +kernel
theorem dX1_countThatWouldLeave_48 : decode cX1_countThatWouldLeave 48 = .ok (.aload 4, 2) := by decide +kernel
theorem dX1_countThatWouldLeave_50 : decode cX1_countThatWouldLeave 50 = .ok (.getfield 41, 3) := by decide +kernel
theorem dX1_countThatWouldLeave_53 : decode cX1_countThatWouldLeave 53 = .ok (.isub, 1) := by decide +kernel
theorem dX1_countThatWouldLeave_54 : decode cX1_countThatWouldLeave 54 = .ok (.istore_n 2, 1) := by decide +kernel
theorem dX1_countThatWouldLeave_55 : decode cX1_countThatWouldLeave 55 = .ok (.iinc 3 1, 3) := by decide +kernel
theorem dX1_countThatWouldLeave_58 : decode cX1_countThatWouldLeave 58 = .ok (.aload_n 0, 1) := by decide +kernel
theorem dX1_countThatWouldLeave_59 : decode cX1_countThatWouldLeave 59 = .ok (.aload 4, 2) := by decide +kernel
theorem dX1_countThatWouldLeave_61 : decode cX1_countThatWouldLeave 61 = .ok (.invokevirtual 101, 3) := by decide +kernel
theorem dX1_countThatWouldLeave_64 : decode cX1_countThatWouldLeave 64 = .ok (.astore 4, 2) := by decide +kernel
theorem dX1_countThatWouldLeave_66 : decode cX1_countThatWouldLeave 66 = .ok (.iinc 5 1, 3) := by decide +kernel
theorem dX1_countThatWouldLeave_69 : decode cX1_countThatWouldLeave 69 = .ok (.goto (-53), 3) := by decide +kernel
theorem dX1_countThatWouldLeave_72 : decode cX1_countThatWouldLeave 72 = .ok (.iload_n 3, 1) := by decide +kernel
theorem dX1_countThatWouldLeave_73 : decode cX1_countThatWouldLeave 73 = .ok (.ireturn, 1) := by decide +kernel
set_option maxRecDepth 20000 in
theorem ggX1_bytesNotOver_X1_hasEnded : GoodIn wsX1_bytesNotOver wsX1_hasEnded := goodIn_r _ [6, 7, 8, 9, 10, 11, 12, 13, 14, 15, 16, 17, 18, 19, 20, 21, 22, 23, 24, 25, 26, 27, 28, 29] (by decide +kernel) (by decide +kernel)
set_option maxRecDepth 20000 in
theorem gX1_bytesNotOver_X1_hasEnded : GoodIn wsX1_bytesNotOver (wsV RX1 37 RX1 yX1_hasEnded wsX1_hasEnded) := goodIn_app (goodIn_of _ (by decide +kernel)) ggX1_bytesNotOver_X1_hasEnded
theorem dX1_bytesNotOver_0 : decode cX1_bytesNotOver 0 = .ok (.iconst 0, 1) := by decide +kernel
theorem dX1_bytesNotOver_1 : decode cX1_bytesNotOver 1 = .ok (.istore_n 1, 1) := by decide +kernel
theorem dX1_bytesNotOver_2 : decode cX1_bytesNotOver 2 = .ok (.aload_n 0, 1) := by decide +kernel
theorem dX1_bytesNotOver_3 : decode cX1_bytesNotOver 3 = .ok (.getfield 11, 3) := by decide +kernel
theorem dX1_bytesNotOver_6 : decode cX1_bytesNotOver 6 = .ok (.astore_n 2, 1) := by decide +kernel
theorem dX1_bytesNotOver_7 : decode cX1_bytesNotOver 7 = .ok (.aload_n 2, 1) := by decide +kernel
theorem dX1_bytesNotOver_8 : decode cX1_bytesNotOver 8 = .ok (.arraylength, 1) := by decide +kernel
theorem dX1_bytesNotOver_9 : decode cX1_bytesNotOver 9 = .ok (.istore_n 3, 1) := by decide +kernel
theorem dX1_bytesNotOver_10 : decode cX1_bytesNotOver 10 = .ok (.iconst 0, 1) := by decide +kernel
theorem dX1_bytesNotOver_11 : decode cX1_bytesNotOver 11 = .ok (.istore 4, 2) := by decide +kernel
theorem dX1_bytesNotOver_13 : decode cX1_bytesNotOver 13 = .ok (.iload 4, 2) := by decide +kernel
theorem dX1_bytesNotOver_15 : decode cX1_bytesNotOver 15 = .ok (.iload_n 3, 1) := by decide +kernel
theorem dX1_bytesNotOver_16 : decode cX1_bytesNotOver 16 = .ok (.if_icmp .ge 40, 3) := by decide +kernel
theorem dX1_bytesNotOver_19 : decode cX1_bytesNotOver 19 = .ok (.aload_n 2, 1) := by decide +kernel
theorem dX1_bytesNotOver_20 : decode cX1_bytesNotOver 20 = .ok (.iload 4, 2) := by decide +kernel
theorem dX1_bytesNotOver_22 : decode cX1_bytesNotOver 22 = .ok (.aaload, 1) := by decide +kernel
theorem dX1_bytesNotOver_23 : decode cX1_bytesNotOver 23 = .ok (.astore 5, 2) := by decide +kernel
theorem dX1_bytesNotOver_25 : decode cX1_bytesNotOver 25 = .ok (.aload 5, 2) := by decide +kernel
theorem dX1_bytesNotOver_27 : decode cX1_bytesNotOver 27 = .ok (.getfield 33, 3) := by decide +kernel
theorem dX1_bytesNotOver_30 : decode cX1_bytesNotOver 30 = .ok (.ifCond .eq 20, 3) := by decide +kernel
theorem dX1_bytesNotOver_33 : decode cX1_bytesNotOver 33 = .ok (.aload_n 0, 1) := by decide +kernel
theorem dX1_bytesNotOver_34 : decode cX1_bytesNotOver 34 = .ok (.aload 5, 2) := by decide +kernel
theorem dX1_bytesNotOver_36 : decode cX1_bytesNotOver 36 = .ok (.invokevirtual 37, 3) := by decide +kernel
theorem dX1_bytesNotOver_39 : decode cX1_bytesNotOver 39 = .ok (.ifCond .ne 11, 3) := by decide +kernel
theorem dX1_bytesNotOver_42 : decode cX1_bytesNotOver 42 = .ok (.iload_n 1, 1) := by decide +kernel
theorem dX1_bytesNotOver_43 : decode cX1_bytesNotOver 43 = .ok (.aload 5, 2) := by decide +kernel
theorem dX1_bytesNotOver_45 : decode cX1_bytesNotOver 45 = .ok (.getfield 41, 3) := by decide +kernel
theorem dX1_bytesNotOver_48 : decode cX1_bytesNotOver 48 = .ok (.iadd, 1) := by decide +kernel
theorem dX1_bytesNotOver_49 : decode cX1_bytesNotOver 49 = .ok (.istore_n 1, 1) := by decide +kernel
theorem dX1_bytesNotOver_50 : decode cX1_bytesNotOver 50 = .ok (.iinc 4 1, 3) := by decide +kernel
theorem dX1_bytesNotOver_53 : decode cX1_bytesNotOver 53 = .ok (.goto (-40), 3) := by decide +kernel
theorem dX1_bytesNotOver_56 : decode cX1_bytesNotOver 56 = .ok (.iload_n 1, 1) := by decide +kernel
theorem dX1_bytesNotOver_57 : decode cX1_bytesNotOver 57 = .ok (.ireturn, 1) := by decide +kernel
theorem dX1_isInOrder_0 : decode cX1_isInOrder 0 = .ok (.aload_n 0, 1) := by decide +kernel
theorem dX1_isInOrder_1 : decode cX1_isInOrder 1 = .ok (.getfield 33, 3) := by decide +kernel
theorem dX1_isInOrder_4 : decode cX1_isInOrder 4 = .ok (.ifCond .eq 14, 3) := by decide +kernel
theorem dX1_isInOrder_7 : decode cX1_isInOrder 7 = .ok (.aload_n 0, 1) := by decide +kernel
theorem dX1_isInOrder_8 : decode cX1_isInOrder 8 = .ok (.getfield 61, 3) := by decide +kernel
theorem dX1_isInOrder_11 : decode cX1_isInOrder 11 = .ok (.ifCond .ne 7, 3) := by decide +kernel
theorem dX1_isInOrder_14 : decode cX1_isInOrder 14 = .ok (.iconst 1, 1) := by decide +kernel
theorem dX1_isInOrder_15 : decode cX1_isInOrder 15 = .ok (.goto 4, 3) := by decide +kernel
theorem dX1_isInOrder_18 : decode cX1_isInOrder 18 = .ok (.iconst 0, 1) := by decide +kernel
theorem dX1_isInOrder_19 : decode cX1_isInOrder 19 = .ok (.ireturn, 1) := by decide +kernel
theorem dX1_leavesBefore_0 : decode cX1_leavesBefore 0 = .ok (.aload_n 0, 1) := by decide +kernel
theorem dX1_leavesBefore_1 : decode cX1_leavesBefore 1 = .ok (.getfield 88, 3) := by decide +kernel
theorem dX1_leavesBefore_4 : decode cX1_leavesBefore 4 = .ok (.aload_n 1, 1) := by decide +kernel
theorem dX1_leavesBefore_5 : decode cX1_leavesBefore 5 = .ok (.getfield 88, 3) := by decide +kernel
theorem dX1_leavesBefore_8 : decode cX1_leavesBefore 8 = .ok (.lcmp, 1) := by decide +kernel
theorem dX1_leavesBefore_9 : decode cX1_leavesBefore 9 = .ok (.ifCond .lt 27, 3) := by decide +kernel
theorem dX1_leavesBefore_12 : decode cX1_leavesBefore 12 = .ok (.aload_n 0, 1) := by decide +kernel
theorem dX1_leavesBefore_13 : decode cX1_leavesBefore 13 = .ok (.getfield 88, 3) := by decide +kernel
theorem dX1_leavesBefore_16 : decode cX1_leavesBefore 16 = .ok (.aload_n 1, 1) := by decide +kernel
theorem dX1_leavesBefore_17 : decode cX1_leavesBefore 17 = .ok (.getfield 88, 3) := by decide +kernel
theorem dX1_leavesBefore_20 : decode cX1_leavesBefore 20 = .ok (.lcmp, 1) := by decide +kernel
theorem dX1_leavesBefore_21 : decode cX1_leavesBefore 21 = .ok (.ifCond .ne 19, 3) := by decide +kernel
theorem dX1_leavesBefore_24 : decode cX1_leavesBefore 24 = .ok (.aload_n 0, 1) := by decide +kernel
theorem dX1_leavesBefore_25 : decode cX1_leavesBefore 25 = .ok (.getfield 183, 3) := by decide +kernel
theorem dX1_leavesBefore_28 : decode cX1_leavesBefore 28 = .ok (.aload_n 1, 1) := by decide +kernel
theorem dX1_leavesBefore_29 : decode cX1_leavesBefore 29 = .ok (.getfield 183, 3) := by decide +kernel
theorem dX1_leavesBefore_32 : decode cX1_leavesBefore 32 = .ok (.lcmp, 1) := by decide +kernel
theorem dX1_leavesBefore_33 : decode cX1_leavesBefore 33 = .ok (.ifCond .ge 7, 3) := by decide +kernel
theorem dX1_leavesBefore_36 : decode cX1_leavesBefore 36 = .ok (.iconst 1, 1) := by decide +kernel
theorem dX1_leavesBefore_37 : decode cX1_leavesBefore 37 = .ok (.goto 4, 3) := by decide +kernel
theorem dX1_leavesBefore_40 : decode cX1_leavesBefore 40 = .ok (.iconst 0, 1) := by decide +kernel
theorem dX1_leavesBefore_41 : decode cX1_leavesBefore 41 = .ok (.ireturn, 1) := by decide +kernel
set_option maxRecDepth 20000 in
theorem ggX1_firstInOrder_X1_nextInOrder : GoodIn wsX1_firstInOrder wsX1_nextInOrder := goodIn_r _ [5, 6, 7, 8, 4, 9, 10, 11, 12, 13, 14, 15, 16, 17, 18, 19, 20, 21, 22, 23, 24, 25, 26, 27, 28, 29, 30, 31, 32, 33, 34] (by decide +kernel) (by decide +kernel)
set_option maxRecDepth 20000 in
theorem gX1_firstInOrder_X1_nextInOrder : GoodIn wsX1_firstInOrder (wsV RX1 101 RX1 yX1_nextInOrder wsX1_nextInOrder) := goodIn_app (goodIn_of _ (by decide +kernel)) ggX1_firstInOrder_X1_nextInOrder
theorem dX1_firstInOrder_0 : decode cX1_firstInOrder 0 = .ok (.aload_n 0, 1) := by decide +kernel
theorem dX1_firstInOrder_1 : decode cX1_firstInOrder 1 = .ok (.aconst_null, 1) := by decide +kernel
theorem dX1_firstInOrder_2 : decode cX1_firstInOrder 2 = .ok (.invokevirtual 101, 3) := by decide +kernel
theorem dX1_firstInOrder_5 : decode cX1_firstInOrder 5 = .ok (.areturn, 1) := by decide +kernel
set_option maxRecDepth 20000 in
theorem ggX1_nextInOrder_X1_leavesBefore : GoodIn wsX1_nextInOrder wsX1_leavesBefore := goodIn_r _ [5, 22, 23, 24, 25, 26, 27, 28, 29, 30] (by decide +kernel) (by decide +kernel)
set_option maxRecDepth 20000 in
theorem gX1_nextInOrder_X1_leavesBefore : GoodIn wsX1_nextInOrder (va_wsS RX1 116 yX1_leavesBefore wsX1_leavesBefore) := goodIn_app (goodIn_of _ (by decide +kernel)) ggX1_nextInOrder_X1_leavesBefore
set_option maxRecDepth 20000 in
theorem ggX1_nextInOrder_X1_isInOrder : GoodIn wsX1_nextInOrder wsX1_isInOrder := goodIn_r _ [8, 22, 23, 24, 25, 26, 27, 28, 29, 30] (by decide +kernel) (by decide +kernel)
set_option maxRecDepth 20000 in
theorem gX1_nextInOrder_X1_isInOrder : GoodIn wsX1_nextInOrder (va_wsS RX1 113 yX1_isInOrder wsX1_isInOrder) := goodIn_app (goodIn_of _ (by decide +kernel)) ggX1_nextInOrder_X1_isInOrder
theorem dX1_nextInOrder_0 : decode cX1_nextInOrder 0 = .ok (.aconst_null, 1) := by decide +kernel
theorem dX1_nextInOrder_1 : decode cX1_nextInOrder 1 = .ok (.astore_n 2, 1) := by decide +kernel
theorem dX1_nextInOrder_2 : decode cX1_nextInOrder 2 = .ok (.aload_n 0, 1) := by decide +kernel
theorem dX1_nextInOrder_3 : decode cX1_nextInOrder 3 = .ok (.getfield 11, 3) := by decide +kernel
theorem dX1_nextInOrder_6 : decode cX1_nextInOrder 6 = .ok (.astore_n 3, 1) := by decide +kernel
theorem dX1_nextInOrder_7 : decode cX1_nextInOrder 7 = .ok (.aload_n 3, 1) := by decide +kernel
theorem dX1_nextInOrder_8 : decode cX1_nextInOrder 8 = .ok (.arraylength, 1) := by decide +kernel
theorem dX1_nextInOrder_9 : decode cX1_nextInOrder 9 = .ok (.istore 4, 2) := by decide +kernel
theorem dX1_nextInOrder_11 : decode cX1_nextInOrder 11 = .ok (.iconst 0, 1) := by decide +kernel
theorem dX1_nextInOrder_12 : decode cX1_nextInOrder 12 = .ok (.istore 5, 2) := by decide +kernel
theorem dX1_nextInOrder_14 : decode cX1_nextInOrder 14 = .ok (.iload 5, 2) := by decide +kernel
theorem dX1_nextInOrder_16 : decode cX1_nextInOrder 16 = .ok (.iload 4, 2) := by decide +kernel
theorem dX1_nextInOrder_18 : decode cX1_nextInOrder 18 = .ok (.if_icmp .ge 64, 3) := by decide +kernel
theorem dX1_nextInOrder_21 : decode cX1_nextInOrder 21 = .ok (.aload_n 3, 1) := by decide +kernel
theorem dX1_nextInOrder_22 : decode cX1_nextInOrder 22 = .ok (.iload 5, 2) := by decide +kernel
theorem dX1_nextInOrder_24 : decode cX1_nextInOrder 24 = .ok (.aaload, 1) := by decide +kernel
theorem dX1_nextInOrder_25 : decode cX1_nextInOrder 25 = .ok (.astore 6, 2) := by decide +kernel
theorem dX1_nextInOrder_27 : decode cX1_nextInOrder 27 = .ok (.aload_n 1, 1) := by decide +kernel
theorem dX1_nextInOrder_28 : decode cX1_nextInOrder 28 = .ok (.ifnull 12, 3) := by decide +kernel
theorem dX1_nextInOrder_31 : decode cX1_nextInOrder 31 = .ok (.aload_n 1, 1) := by decide +kernel
theorem dX1_nextInOrder_32 : decode cX1_nextInOrder 32 = .ok (.aload 6, 2) := by decide +kernel
theorem dX1_nextInOrder_34 : decode cX1_nextInOrder 34 = .ok (.invokestatic 116, 3) := by decide +kernel
theorem dX1_nextInOrder_37 : decode cX1_nextInOrder 37 = .ok (.ifCond .eq 7, 3) := by decide +kernel
theorem dX1_nextInOrder_40 : decode cX1_nextInOrder 40 = .ok (.iconst 1, 1) := by decide +kernel
theorem dX1_nextInOrder_41 : decode cX1_nextInOrder 41 = .ok (.goto 4, 3) := by decide +kernel
theorem dX1_nextInOrder_44 : decode cX1_nextInOrder 44 = .ok (.iconst 0, 1) := by decide +kernel
theorem dX1_nextInOrder_45 : decode cX1_nextInOrder 45 = .ok (.istore 7, 2) := by decide +kernel
theorem dX1_nextInOrder_47 : decode cX1_nextInOrder 47 = .ok (.aload 6, 2) := by decide +kernel
theorem dX1_nextInOrder_49 : decode cX1_nextInOrder 49 = .ok (.invokestatic 113, 3) := by decide +kernel
theorem dX1_nextInOrder_52 : decode cX1_nextInOrder 52 = .ok (.ifCond .eq 24, 3) := by decide +kernel
theorem dX1_nextInOrder_55 : decode cX1_nextInOrder 55 = .ok (.iload 7, 2) := by decide +kernel
theorem dX1_nextInOrder_57 : decode cX1_nextInOrder 57 = .ok (.ifCond .eq 19, 3) := by decide +kernel
theorem dX1_nextInOrder_60 : decode cX1_nextInOrder 60 = .ok (.aload_n 2, 1) := by decide +kernel
theorem dX1_nextInOrder_61 : decode cX1_nextInOrder 61 = .ok (.ifnull 12, 3) := by decide +kernel
theorem dX1_nextInOrder_64 : decode cX1_nextInOrder 64 = .ok (.aload 6, 2) := by decide +kernel
theorem dX1_nextInOrder_66 : decode cX1_nextInOrder 66 = .ok (.aload_n 2, 1) := by decide +kernel
theorem dX1_nextInOrder_67 : decode cX1_nextInOrder 67 = .ok (.invokestatic 116, 3) := by decide +kernel
theorem dX1_nextInOrder_70 : decode cX1_nextInOrder 70 = .ok (.ifCond .eq 6, 3) := by decide +kernel
theorem dX1_nextInOrder_73 : decode cX1_nextInOrder 73 = .ok (.aload 6, 2) := by decide +kernel
theorem dX1_nextInOrder_75 : decode cX1_nextInOrder 75 = .ok (.astore_n 2, 1) := by decide +kernel
theorem dX1_nextInOrder_76 : decode cX1_nextInOrder 76 = .ok (.iinc 5 1, 3) := by decide +kernel
theorem dX1_nextInOrder_79 : decode cX1_nextInOrder 79 = .ok (.goto (-65), 3) := by decide +kernel
theorem dX1_nextInOrder_82 : decode cX1_nextInOrder 82 = .ok (.aload_n 2, 1) := by decide +kernel
theorem dX1_nextInOrder_83 : decode cX1_nextInOrder 83 = .ok (.areturn, 1) := by decide +kernel
theorem dJ9_max_f86c9_0 : decode cJ9_max_f86c9 0 = .ok (.lload_n 0, 1) := by decide +kernel
theorem dJ9_max_f86c9_1 : decode cJ9_max_f86c9 1 = .ok (.lload_n 2, 1) := by decide +kernel
theorem dJ9_max_f86c9_2 : decode cJ9_max_f86c9 2 = .ok (.lcmp, 1) := by decide +kernel
theorem dJ9_max_f86c9_3 : decode cJ9_max_f86c9 3 = .ok (.ifCond .lt 7, 3) := by decide +kernel
theorem dJ9_max_f86c9_6 : decode cJ9_max_f86c9 6 = .ok (.lload_n 0, 1) := by decide +kernel
theorem dJ9_max_f86c9_7 : decode cJ9_max_f86c9 7 = .ok (.goto 4, 3) := by decide +kernel
theorem dJ9_max_f86c9_10 : decode cJ9_max_f86c9 10 = .ok (.lload_n 2, 1) := by decide +kernel
theorem dJ9_max_f86c9_11 : decode cJ9_max_f86c9 11 = .ok (.lreturn, 1) := by decide +kernel
end
section
theorem dL_used_0 : decode cL_used 0 = .ok (.iconst 0, 1) := by decide +kernel
theorem dL_used_1 : decode cL_used 1 = .ok (.istore_n 1, 1) := by decide +kernel
theorem dL_used_2 : decode cL_used 2 = .ok (.iconst 0, 1) := by decide +kernel
theorem dL_used_3 : decode cL_used 3 = .ok (.istore_n 2, 1) := by decide +kernel
theorem dL_used_4 : decode cL_used 4 = .ok (.iload_n 2, 1) := by decide +kernel
theorem dL_used_5 : decode cL_used 5 = .ok (.bipush 32, 2) := by decide +kernel
theorem dL_used_7 : decode cL_used 7 = .ok (.if_icmp .ge 15, 3) := by decide +kernel
theorem dL_used_10 : decode cL_used 10 = .ok (.iload_n 1, 1) := by decide +kernel
theorem dL_used_11 : decode cL_used 11 = .ok (.aload_n 0, 1) := by decide +kernel
theorem dL_used_12 : decode cL_used 12 = .ok (.iload_n 2, 1) := by decide +kernel
theorem dL_used_13 : decode cL_used 13 = .ok (.iaload, 1) := by decide +kernel
theorem dL_used_14 : decode cL_used 14 = .ok (.iadd, 1) := by decide +kernel
theorem dL_used_15 : decode cL_used 15 = .ok (.istore_n 1, 1) := by decide +kernel
theorem dL_used_16 : decode cL_used 16 = .ok (.iinc 2 1, 3) := by decide +kernel
theorem dL_used_19 : decode cL_used 19 = .ok (.goto (-15), 3) := by decide +kernel
theorem dL_used_22 : decode cL_used 22 = .ok (.iload_n 1, 1) := by decide +kernel
theorem dL_used_23 : decode cL_used 23 = .ok (.ireturn, 1) := by decide +kernel
theorem dL_takeOut_0 : decode cL_takeOut 0 = .ok (.iconst 0, 1) := by decide +kernel
theorem dL_takeOut_1 : decode cL_takeOut 1 = .ok (.istore_n 3, 1) := by decide +kernel
theorem dL_takeOut_2 : decode cL_takeOut 2 = .ok (.iconst 0, 1) := by decide +kernel
theorem dL_takeOut_3 : decode cL_takeOut 3 = .ok (.istore 4, 2) := by decide +kernel
theorem dL_takeOut_5 : decode cL_takeOut 5 = .ok (.iload 4, 2) := by decide +kernel
theorem dL_takeOut_7 : decode cL_takeOut 7 = .ok (.aload_n 1, 1) := by decide +kernel
theorem dL_takeOut_8 : decode cL_takeOut 8 = .ok (.iconst 3, 1) := by decide +kernel
theorem dL_takeOut_9 : decode cL_takeOut 9 = .ok (.iaload, 1) := by decide +kernel
theorem dL_takeOut_10 : decode cL_takeOut 10 = .ok (.if_icmp .ge 32, 3) := by decide +kernel
theorem dL_takeOut_13 : decode cL_takeOut 13 = .ok (.aload_n 0, 1) := by decide +kernel
theorem dL_takeOut_14 : decode cL_takeOut 14 = .ok (.iload_n 3, 1) := by decide +kernel
theorem dL_takeOut_15 : decode cL_takeOut 15 = .ok (.aload_n 0, 1) := by decide +kernel
theorem dL_takeOut_16 : decode cL_takeOut 16 = .ok (.iload 4, 2) := by decide +kernel
theorem dL_takeOut_18 : decode cL_takeOut 18 = .ok (.iaload, 1) := by decide +kernel
theorem dL_takeOut_19 : decode cL_takeOut 19 = .ok (.iastore, 1) := by decide +kernel
theorem dL_takeOut_20 : decode cL_takeOut 20 = .ok (.iload_n 3, 1) := by decide +kernel
theorem dL_takeOut_21 : decode cL_takeOut 21 = .ok (.aload_n 0, 1) := by decide +kernel
theorem dL_takeOut_22 : decode cL_takeOut 22 = .ok (.iload 4, 2) := by decide +kernel
theorem dL_takeOut_24 : decode cL_takeOut 24 = .ok (.iaload, 1) := by decide +kernel
theorem dL_takeOut_25 : decode cL_takeOut 25 = .ok (.iload_n 2, 1) := by decide +kernel
theorem dL_takeOut_26 : decode cL_takeOut 26 = .ok (.if_icmp .ne 7, 3) := by decide +kernel
theorem dL_takeOut_29 : decode cL_takeOut 29 = .ok (.iconst 0, 1) := by decide +kernel
theorem dL_takeOut_30 : decode cL_takeOut 30 = .ok (.goto 4, 3) := by decide +kernel
theorem dL_takeOut_33 : decode cL_takeOut 33 = .ok (.iconst 1, 1) := by decide +kernel
theorem dL_takeOut_34 : decode cL_takeOut 34 = .ok (.iadd, 1) := by decide +kernel
theorem dL_takeOut_35 : decode cL_takeOut 35 = .ok (.istore_n 3, 1) := by decide +kernel
theorem dL_takeOut_36 : decode cL_takeOut 36 = .ok (.iinc 4 1, 3) := by decide +kernel
theorem dL_takeOut_39 : decode cL_takeOut 39 = .ok (.goto (-34), 3) := by decide +kernel
theorem dL_takeOut_42 : decode cL_takeOut 42 = .ok (.aload_n 1, 1) := by decide +kernel
theorem dL_takeOut_43 : decode cL_takeOut 43 = .ok (.iconst 3, 1) := by decide +kernel
theorem dL_takeOut_44 : decode cL_takeOut 44 = .ok (.iload_n 3, 1) := by decide +kernel
theorem dL_takeOut_45 : decode cL_takeOut 45 = .ok (.iastore, 1) := by decide +kernel
theorem dL_takeOut_46 : decode cL_takeOut 46 = .ok (.return_, 1) := by decide +kernel
theorem dL_putIn_0 : decode cL_putIn 0 = .ok (.aload_n 1, 1) := by decide +kernel
theorem dL_putIn_1 : decode cL_putIn 1 = .ok (.iconst 3, 1) := by decide +kernel
theorem dL_putIn_2 : decode cL_putIn 2 = .ok (.iaload, 1) := by decide +kernel
theorem dL_putIn_3 : decode cL_putIn 3 = .ok (.istore 4, 2) := by decide +kernel
theorem dL_putIn_5 : decode cL_putIn 5 = .ok (.iload 4, 2) := by decide +kernel
theorem dL_putIn_7 : decode cL_putIn 7 = .ok (.ifCond .le 70, 3) := by decide +kernel
theorem dL_putIn_10 : decode cL_putIn 10 = .ok (.aload_n 2, 1) := by decide +kernel
theorem dL_putIn_11 : decode cL_putIn 11 = .ok (.aload_n 0, 1) := by decide +kernel
theorem dL_putIn_12 : decode cL_putIn 12 = .ok (.iload 4, 2) := by decide +kernel
theorem dL_putIn_14 : decode cL_putIn 14 = .ok (.iconst 1, 1) := by decide +kernel
theorem dL_putIn_15 : decode cL_putIn 15 = .ok (.isub, 1) := by decide +kernel
theorem dL_putIn_16 : decode cL_putIn 16 = .ok (.iaload, 1) := by decide +kernel
theorem dL_putIn_17 : decode cL_putIn 17 = .ok (.laload, 1) := by decide +kernel
theorem dL_putIn_18 : decode cL_putIn 18 = .ok (.aload_n 2, 1) := by decide +kernel
theorem dL_putIn_19 : decode cL_putIn 19 = .ok (.iload_n 3, 1) := by decide +kernel
theorem dL_putIn_20 : decode cL_putIn 20 = .ok (.laload, 1) := by decide +kernel
theorem dL_putIn_21 : decode cL_putIn 21 = .ok (.lcmp, 1) := by decide +kernel
theorem dL_putIn_22 : decode cL_putIn 22 = .ok (.ifCond .gt 39, 3) := by decide +kernel
theorem dL_putIn_25 : decode cL_putIn 25 = .ok (.aload_n 2, 1) := by decide +kernel
theorem dL_putIn_26 : decode cL_putIn 26 = .ok (.aload_n 0, 1) := by decide +kernel
theorem dL_putIn_27 : decode cL_putIn 27 = .ok (.iload 4, 2) := by decide +kernel
theorem dL_putIn_29 : decode cL_putIn 29 = .ok (.iconst 1, 1) := by decide +kernel
theorem dL_putIn_30 : decode cL_putIn 30 = .ok (.isub, 1) := by decide +kernel
theorem dL_putIn_31 : decode cL_putIn 31 = .ok (.iaload, 1) := by decide +kernel
theorem dL_putIn_32 : decode cL_putIn 32 = .ok (.laload, 1) := by decide +kernel
theorem dL_putIn_33 : decode cL_putIn 33 = .ok (.aload_n 2, 1) := by decide +kernel
theorem dL_putIn_34 : decode cL_putIn 34 = .ok (.iload_n 3, 1) := by decide +kernel
theorem dL_putIn_35 : decode cL_putIn 35 = .ok (.laload, 1) := by decide +kernel
theorem dL_putIn_36 : decode cL_putIn 36 = .ok (.lcmp, 1) := by decide +kernel
theorem dL_putIn_37 : decode cL_putIn 37 = .ok (.ifCond .ne 40, 3) := by decide +kernel
theorem dL_putIn_40 : decode cL_putIn 40 = .ok (.aload_n 2, 1) := by decide +kernel
theorem dL_putIn_41 : decode cL_putIn 41 = .ok (.bipush 32, 2) := by decide +kernel
theorem dL_putIn_43 : decode cL_putIn 43 = .ok (.aload_n 0, 1) := by decide +kernel
theorem dL_putIn_44 : decode cL_putIn 44 = .ok (.iload 4, 2) := by decide +kernel
theorem dL_putIn_46 : decode cL_putIn 46 = .ok (.iconst 1, 1) := by decide +kernel
theorem dL_putIn_47 : decode cL_putIn 47 = .ok (.isub, 1) := by decide +kernel
theorem dL_putIn_48 : decode cL_putIn 48 = .ok (.iaload, 1) := by decide +kernel
theorem dL_putIn_49 : decode cL_putIn 49 = .ok (.iadd, 1) := by decide +kernel
theorem dL_putIn_50 : decode cL_putIn 50 = .ok (.laload, 1) := by decide +kernel
theorem dL_putIn_51 : decode cL_putIn 51 = .ok (.aload_n 2, 1) := by decide +kernel
theorem dL_putIn_52 : decode cL_putIn 52 = .ok (.bipush 32, 2) := by decide +kernel
theorem dL_putIn_54 : decode cL_putIn 54 = .ok (.iload_n 3, 1) := by decide +kernel
theorem dL_putIn_55 : decode cL_putIn 55 = .ok (.iadd, 1) := by decide +kernel
theorem dL_putIn_56 : decode cL_putIn 56 = .ok (.laload, 1) := by decide +kernel
theorem dL_putIn_57 : decode cL_putIn 57 = .ok (.lcmp, 1) := by decide +kernel
theorem dL_putIn_58 : decode cL_putIn 58 = .ok (.ifCond .le 19, 3) := by decide +kernel
theorem dL_putIn_61 : decode cL_putIn 61 = .ok (.aload_n 0, 1) := by decide +kernel
theorem dL_putIn_62 : decode cL_putIn 62 = .ok (.iload 4, 2) := by decide +kernel
theorem dL_putIn_64 : decode cL_putIn 64 = .ok (.aload_n 0, 1) := by decide +kernel
theorem dL_putIn_65 : decode cL_putIn 65 = .ok (.iload 4, 2) := by decide +kernel
theorem dL_putIn_67 : decode cL_putIn 67 = .ok (.iconst 1, 1) := by decide +kernel
theorem dL_putIn_68 : decode cL_putIn 68 = .ok (.isub, 1) := by decide +kernel
theorem dL_putIn_69 : decode cL_putIn 69 = .ok (.iaload, 1) := by decide +kernel
theorem dL_putIn_70 : decode cL_putIn 70 = .ok (.iastore, 1) := by decide +kernel
theorem dL_putIn_71 : decode cL_putIn 71 = .ok (.iinc 4 (-1), 3) := by decide +kernel
theorem dL_putIn_74 : decode cL_putIn 74 = .ok (.goto (-69), 3) := by decide +kernel
theorem dL_putIn_77 : decode cL_putIn 77 = .ok (.aload_n 0, 1) := by decide +kernel
theorem dL_putIn_78 : decode cL_putIn 78 = .ok (.iload 4, 2) := by decide +kernel
theorem dL_putIn_80 : decode cL_putIn 80 = .ok (.iload_n 3, 1) := by decide +kernel
theorem dL_putIn_81 : decode cL_putIn 81 = .ok (.iastore, 1) := by decide +kernel
theorem dL_putIn_82 : decode cL_putIn 82 = .ok (.aload_n 1, 1) := by decide +kernel
theorem dL_putIn_83 : decode cL_putIn 83 = .ok (.iconst 3, 1) := by decide +kernel
theorem dL_putIn_84 : decode cL_putIn 84 = .ok (.dup2, 1) := by decide +kernel
theorem dL_putIn_85 : decode cL_putIn 85 = .ok (.iaload, 1) := by decide +kernel
theorem dL_putIn_86 : decode cL_putIn 86 = .ok (.iconst 1, 1) := by decide +kernel
theorem dL_putIn_87 : decode cL_putIn 87 = .ok (.iadd, 1) := by decide +kernel
theorem dL_putIn_88 : decode cL_putIn 88 = .ok (.iastore, 1) := by decide +kernel
theorem dL_putIn_89 : decode cL_putIn 89 = .ok (.return_, 1) := by decide +kernel
set_option maxRecDepth 20000 in
theorem ggL_removes_L_takeOut : GoodIn wsL_removes wsL_takeOut := goodIn_r _ [4] (by decide +kernel) (by decide +kernel)
set_option maxRecDepth 20000 in
theorem gL_removes_L_takeOut : GoodIn wsL_removes (va_wsS RL 7 yL_takeOut wsL_takeOut) := goodIn_app (goodIn_of _ (by decide +kernel)) ggL_removes_L_takeOut
theorem dL_removes_0 : decode cL_removes 0 = .ok (.aload_n 0, 1) := by decide +kernel
theorem dL_removes_1 : decode cL_removes 1 = .ok (.iload_n 3, 1) := by decide +kernel
theorem dL_removes_2 : decode cL_removes 2 = .ok (.iconst 0, 1) := by decide +kernel
theorem dL_removes_3 : decode cL_removes 3 = .ok (.iastore, 1) := by decide +kernel
theorem dL_removes_4 : decode cL_removes 4 = .ok (.aload_n 1, 1) := by decide +kernel
theorem dL_removes_5 : decode cL_removes 5 = .ok (.aload_n 2, 1) := by decide +kernel
theorem dL_removes_6 : decode cL_removes 6 = .ok (.iload_n 3, 1) := by decide +kernel
theorem dL_removes_7 : decode cL_removes 7 = .ok (.invokestatic 7, 3) := by decide +kernel
theorem dL_removes_10 : decode cL_removes 10 = .ok (.return_, 1) := by decide +kernel
set_option maxRecDepth 20000 in
theorem ggL_clears_L_removes : GoodIn wsL_clears wsL_removes := goodIn_r _ [4, 5, 6, 3, 7] (by decide +kernel) (by decide +kernel)
set_option maxRecDepth 20000 in
theorem gL_clears_L_removes : GoodIn wsL_clears (va_wsS RL 13 yL_removes wsL_removes) := goodIn_app (goodIn_of _ (by decide +kernel)) ggL_clears_L_removes
theorem dL_clears_0 : decode cL_clears 0 = .ok (.iconst 0, 1) := by decide +kernel
theorem dL_clears_1 : decode cL_clears 1 = .ok (.istore 4, 2) := by decide +kernel
theorem dL_clears_3 : decode cL_clears 3 = .ok (.iconst 0, 1) := by decide +kernel
theorem dL_clears_4 : decode cL_clears 4 = .ok (.istore 5, 2) := by decide +kernel
theorem dL_clears_6 : decode cL_clears 6 = .ok (.iload 5, 2) := by decide +kernel
theorem dL_clears_8 : decode cL_clears 8 = .ok (.bipush 32, 2) := by decide +kernel
theorem dL_clears_10 : decode cL_clears 10 = .ok (.if_icmp .ge 37, 3) := by decide +kernel
theorem dL_clears_13 : decode cL_clears 13 = .ok (.aload_n 0, 1) := by decide +kernel
theorem dL_clears_14 : decode cL_clears 14 = .ok (.iload 5, 2) := by decide +kernel
theorem dL_clears_16 : decode cL_clears 16 = .ok (.iaload, 1) := by decide +kernel
theorem dL_clears_17 : decode cL_clears 17 = .ok (.ifCond .le 24, 3) := by decide +kernel
theorem dL_clears_20 : decode cL_clears 20 = .ok (.aload_n 1, 1) := by decide +kernel
theorem dL_clears_21 : decode cL_clears 21 = .ok (.iload 5, 2) := by decide +kernel
theorem dL_clears_23 : decode cL_clears 23 = .ok (.iaload, 1) := by decide +kernel
theorem dL_clears_24 : decode cL_clears 24 = .ok (.aload_n 3, 1) := by decide +kernel
theorem dL_clears_25 : decode cL_clears 25 = .ok (.iconst 0, 1) := by decide +kernel
theorem dL_clears_26 : decode cL_clears 26 = .ok (.iaload, 1) := by decide +kernel
theorem dL_clears_27 : decode cL_clears 27 = .ok (.if_icmp .gt 14, 3) := by decide +kernel
theorem dL_clears_30 : decode cL_clears 30 = .ok (.aload_n 0, 1) := by decide +kernel
theorem dL_clears_31 : decode cL_clears 31 = .ok (.aload_n 2, 1) := by decide +kernel
theorem dL_clears_32 : decode cL_clears 32 = .ok (.aload_n 3, 1) := by decide +kernel
theorem dL_clears_33 : decode cL_clears 33 = .ok (.iload 5, 2) := by decide +kernel
theorem dL_clears_35 : decode cL_clears 35 = .ok (.invokestatic 13, 3) := by decide +kernel
theorem dL_clears_38 : decode cL_clears 38 = .ok (.iinc 4 1, 3) := by decide +kernel
theorem dL_clears_41 : decode cL_clears 41 = .ok (.iinc 5 1, 3) := by decide +kernel
theorem dL_clears_44 : decode cL_clears 44 = .ok (.goto (-38), 3) := by decide +kernel
theorem dL_clears_47 : decode cL_clears 47 = .ok (.aload_n 3, 1) := by decide +kernel
theorem dL_clears_48 : decode cL_clears 48 = .ok (.bipush 7, 2) := by decide +kernel
theorem dL_clears_50 : decode cL_clears 50 = .ok (.dup2, 1) := by decide +kernel
theorem dL_clears_51 : decode cL_clears 51 = .ok (.iaload, 1) := by decide +kernel
theorem dL_clears_52 : decode cL_clears 52 = .ok (.iload 4, 2) := by decide +kernel
theorem dL_clears_54 : decode cL_clears 54 = .ok (.iadd, 1) := by decide +kernel
theorem dL_clears_55 : decode cL_clears 55 = .ok (.iastore, 1) := by decide +kernel
theorem dL_clears_56 : decode cL_clears 56 = .ok (.iload 4, 2) := by decide +kernel
theorem dL_clears_58 : decode cL_clears 58 = .ok (.ireturn, 1) := by decide +kernel
set_option maxRecDepth 20000 in
theorem ggL_leaves_L_removes : GoodIn wsL_leaves wsL_removes := goodIn_r _ [4, 5, 6, 3, 7] (by decide +kernel) (by decide +kernel)
set_option maxRecDepth 20000 in
theorem gL_leaves_L_removes : GoodIn wsL_leaves (va_wsS RL 13 yL_removes wsL_removes) := goodIn_app (goodIn_of _ (by decide +kernel)) ggL_leaves_L_removes
theorem dL_leaves_0 : decode cL_leaves 0 = .ok (.aload_n 1, 1) := by decide +kernel
theorem dL_leaves_1 : decode cL_leaves 1 = .ok (.iconst 0, 1) := by decide +kernel
theorem dL_leaves_2 : decode cL_leaves 2 = .ok (.iaload, 1) := by decide +kernel
theorem dL_leaves_3 : decode cL_leaves 3 = .ok (.istore 5, 2) := by decide +kernel
theorem dL_leaves_5 : decode cL_leaves 5 = .ok (.aload 4, 2) := by decide +kernel
theorem dL_leaves_7 : decode cL_leaves 7 = .ok (.iconst 0, 1) := by decide +kernel
theorem dL_leaves_8 : decode cL_leaves 8 = .ok (.aload_n 3, 1) := by decide +kernel
theorem dL_leaves_9 : decode cL_leaves 9 = .ok (.iload 5, 2) := by decide +kernel
theorem dL_leaves_11 : decode cL_leaves 11 = .ok (.laload, 1) := by decide +kernel
theorem dL_leaves_12 : decode cL_leaves 12 = .ok (.aload 4, 2) := by decide +kernel
theorem dL_leaves_14 : decode cL_leaves 14 = .ok (.iconst 0, 1) := by decide +kernel
theorem dL_leaves_15 : decode cL_leaves 15 = .ok (.laload, 1) := by decide +kernel
theorem dL_leaves_16 : decode cL_leaves 16 = .ok (.lcmp, 1) := by decide +kernel
theorem dL_leaves_17 : decode cL_leaves 17 = .ok (.ifCond .le 10, 3) := by decide +kernel
theorem dL_leaves_20 : decode cL_leaves 20 = .ok (.aload_n 3, 1) := by decide +kernel
theorem dL_leaves_21 : decode cL_leaves 21 = .ok (.iload 5, 2) := by decide +kernel
theorem dL_leaves_23 : decode cL_leaves 23 = .ok (.laload, 1) := by decide +kernel
theorem dL_leaves_24 : decode cL_leaves 24 = .ok (.goto 7, 3) := by decide +kernel
theorem dL_leaves_27 : decode cL_leaves 27 = .ok (.aload 4, 2) := by decide +kernel
theorem dL_leaves_29 : decode cL_leaves 29 = .ok (.iconst 0, 1) := by decide +kernel
theorem dL_leaves_30 : decode cL_leaves 30 = .ok (.laload, 1) := by decide +kernel
theorem dL_leaves_31 : decode cL_leaves 31 = .ok (.lastore, 1) := by decide +kernel
theorem dL_leaves_32 : decode cL_leaves 32 = .ok (.aload_n 2, 1) := by decide +kernel
theorem dL_leaves_33 : decode cL_leaves 33 = .ok (.bipush 6, 2) := by decide +kernel
theorem dL_leaves_35 : decode cL_leaves 35 = .ok (.dup2, 1) := by decide +kernel
theorem dL_leaves_36 : decode cL_leaves 36 = .ok (.iaload, 1) := by decide +kernel
theorem dL_leaves_37 : decode cL_leaves 37 = .ok (.iconst 1, 1) := by decide +kernel
theorem dL_leaves_38 : decode cL_leaves 38 = .ok (.iadd, 1) := by decide +kernel
theorem dL_leaves_39 : decode cL_leaves 39 = .ok (.iastore, 1) := by decide +kernel
theorem dL_leaves_40 : decode cL_leaves 40 = .ok (.aload_n 0, 1) := by decide +kernel
theorem dL_leaves_41 : decode cL_leaves 41 = .ok (.aload_n 1, 1) := by decide +kernel
theorem dL_leaves_42 : decode cL_leaves 42 = .ok (.aload_n 2, 1) := by decide +kernel
theorem dL_leaves_43 : decode cL_leaves 43 = .ok (.iload 5, 2) := by decide +kernel
theorem dL_leaves_45 : decode cL_leaves 45 = .ok (.invokestatic 13, 3) := by decide +kernel
theorem dL_leaves_48 : decode cL_leaves 48 = .ok (.return_, 1) := by decide +kernel
set_option maxRecDepth 20000 in
theorem ggL_counts_L_takeOut : GoodIn wsL_counts wsL_takeOut := goodIn_r _ [5] (by decide +kernel) (by decide +kernel)
set_option maxRecDepth 20000 in
theorem gL_counts_L_takeOut : GoodIn wsL_counts (va_wsS RL 7 yL_takeOut wsL_takeOut) := goodIn_app (goodIn_of _ (by decide +kernel)) ggL_counts_L_takeOut
theorem dL_counts_0 : decode cL_counts 0 = .ok (.aload_n 2, 1) := by decide +kernel
theorem dL_counts_1 : decode cL_counts 1 = .ok (.aload_n 3, 1) := by decide +kernel
theorem dL_counts_2 : decode cL_counts 2 = .ok (.iload 6, 2) := by decide +kernel
theorem dL_counts_4 : decode cL_counts 4 = .ok (.invokestatic 7, 3) := by decide +kernel
theorem dL_counts_7 : decode cL_counts 7 = .ok (.aload 4, 2) := by decide +kernel
theorem dL_counts_9 : decode cL_counts 9 = .ok (.iload 6, 2) := by decide +kernel
theorem dL_counts_11 : decode cL_counts 11 = .ok (.aload 5, 2) := by decide +kernel
theorem dL_counts_13 : decode cL_counts 13 = .ok (.iconst 0, 1) := by decide +kernel
theorem dL_counts_14 : decode cL_counts 14 = .ok (.laload, 1) := by decide +kernel
theorem dL_counts_15 : decode cL_counts 15 = .ok (.ldc2_w 17, 3) := by decide +kernel
theorem dL_counts_18 : decode cL_counts 18 = .ok (.iload 7, 2) := by decide +kernel
theorem dL_counts_20 : decode cL_counts 20 = .ok (.i2l, 1) := by decide +kernel
theorem dL_counts_21 : decode cL_counts 21 = .ok (.lmul, 1) := by decide +kernel
theorem dL_counts_22 : decode cL_counts 22 = .ok (.aload_n 1, 1) := by decide +kernel
theorem dL_counts_23 : decode cL_counts 23 = .ok (.iload 6, 2) := by decide +kernel
theorem dL_counts_25 : decode cL_counts 25 = .ok (.iaload, 1) := by decide +kernel
theorem dL_counts_26 : decode cL_counts 26 = .ok (.i2l, 1) := by decide +kernel
theorem dL_counts_27 : decode cL_counts 27 = .ok (.lmul, 1) := by decide +kernel
theorem dL_counts_28 : decode cL_counts 28 = .ok (.aload_n 0, 1) := by decide +kernel
theorem dL_counts_29 : decode cL_counts 29 = .ok (.iload 6, 2) := by decide +kernel
theorem dL_counts_31 : decode cL_counts 31 = .ok (.iaload, 1) := by decide +kernel
theorem dL_counts_32 : decode cL_counts 32 = .ok (.i2l, 1) := by decide +kernel
theorem dL_counts_33 : decode cL_counts 33 = .ok (.ldiv, 1) := by decide +kernel
theorem dL_counts_34 : decode cL_counts 34 = .ok (.ladd, 1) := by decide +kernel
theorem dL_counts_35 : decode cL_counts 35 = .ok (.lastore, 1) := by decide +kernel
theorem dL_counts_36 : decode cL_counts 36 = .ok (.aload 5, 2) := by decide +kernel
theorem dL_counts_38 : decode cL_counts 38 = .ok (.iconst 4, 1) := by decide +kernel
theorem dL_counts_39 : decode cL_counts 39 = .ok (.dup2, 1) := by decide +kernel
theorem dL_counts_40 : decode cL_counts 40 = .ok (.laload, 1) := by decide +kernel
theorem dL_counts_41 : decode cL_counts 41 = .ok (.lconst 1, 1) := by decide +kernel
theorem dL_counts_42 : decode cL_counts 42 = .ok (.ladd, 1) := by decide +kernel
theorem dL_counts_43 : decode cL_counts 43 = .ok (.lastore, 1) := by decide +kernel
theorem dL_counts_44 : decode cL_counts 44 = .ok (.aload 4, 2) := by decide +kernel
theorem dL_counts_46 : decode cL_counts 46 = .ok (.bipush 32, 2) := by decide +kernel
theorem dL_counts_48 : decode cL_counts 48 = .ok (.iload 6, 2) := by decide +kernel
theorem dL_counts_50 : decode cL_counts 50 = .ok (.iadd, 1) := by decide +kernel
theorem dL_counts_51 : decode cL_counts 51 = .ok (.aload 5, 2) := by decide +kernel
theorem dL_counts_53 : decode cL_counts 53 = .ok (.iconst 4, 1) := by decide +kernel
theorem dL_counts_54 : decode cL_counts 54 = .ok (.laload, 1) := by decide +kernel
theorem dL_counts_55 : decode cL_counts 55 = .ok (.lastore, 1) := by decide +kernel
theorem dL_counts_56 : decode cL_counts 56 = .ok (.return_, 1) := by decide +kernel
theorem dL_pinned_0 : decode cL_pinned 0 = .ok (.iconst 0, 1) := by decide +kernel
theorem dL_pinned_1 : decode cL_pinned 1 = .ok (.istore 5, 2) := by decide +kernel
theorem dL_pinned_3 : decode cL_pinned 3 = .ok (.iconst 0, 1) := by decide +kernel
theorem dL_pinned_4 : decode cL_pinned 4 = .ok (.istore 6, 2) := by decide +kernel
theorem dL_pinned_6 : decode cL_pinned 6 = .ok (.iload 6, 2) := by decide +kernel
theorem dL_pinned_8 : decode cL_pinned 8 = .ok (.bipush 32, 2) := by decide +kernel
theorem dL_pinned_10 : decode cL_pinned 10 = .ok (.if_icmp .ge 45, 3) := by decide +kernel
theorem dL_pinned_13 : decode cL_pinned 13 = .ok (.iload 5, 2) := by decide +kernel
theorem dL_pinned_15 : decode cL_pinned 15 = .ok (.aload_n 2, 1) := by decide +kernel
theorem dL_pinned_16 : decode cL_pinned 16 = .ok (.iload 6, 2) := by decide +kernel
theorem dL_pinned_18 : decode cL_pinned 18 = .ok (.iaload, 1) := by decide +kernel
theorem dL_pinned_19 : decode cL_pinned 19 = .ok (.iconst 1, 1) := by decide +kernel
theorem dL_pinned_20 : decode cL_pinned 20 = .ok (.if_icmp .ne 25, 3) := by decide +kernel
theorem dL_pinned_23 : decode cL_pinned 23 = .ok (.iload 4, 2) := by decide +kernel
theorem dL_pinned_25 : decode cL_pinned 25 = .ok (.ifCond .ne 13, 3) := by decide +kernel
theorem dL_pinned_28 : decode cL_pinned 28 = .ok (.aload_n 1, 1) := by decide +kernel
theorem dL_pinned_29 : decode cL_pinned 29 = .ok (.iload 6, 2) := by decide +kernel
theorem dL_pinned_31 : decode cL_pinned 31 = .ok (.iaload, 1) := by decide +kernel
theorem dL_pinned_32 : decode cL_pinned 32 = .ok (.aload_n 3, 1) := by decide +kernel
theorem dL_pinned_33 : decode cL_pinned 33 = .ok (.iconst 0, 1) := by decide +kernel
theorem dL_pinned_34 : decode cL_pinned 34 = .ok (.iaload, 1) := by decide +kernel
theorem dL_pinned_35 : decode cL_pinned 35 = .ok (.if_icmp .le 10, 3) := by decide +kernel
theorem dL_pinned_38 : decode cL_pinned 38 = .ok (.aload_n 0, 1) := by decide +kernel
theorem dL_pinned_39 : decode cL_pinned 39 = .ok (.iload 6, 2) := by decide +kernel
theorem dL_pinned_41 : decode cL_pinned 41 = .ok (.iaload, 1) := by decide +kernel
theorem dL_pinned_42 : decode cL_pinned 42 = .ok (.goto 4, 3) := by decide +kernel
theorem dL_pinned_45 : decode cL_pinned 45 = .ok (.iconst 0, 1) := by decide +kernel
theorem dL_pinned_46 : decode cL_pinned 46 = .ok (.iadd, 1) := by decide +kernel
theorem dL_pinned_47 : decode cL_pinned 47 = .ok (.istore 5, 2) := by decide +kernel
theorem dL_pinned_49 : decode cL_pinned 49 = .ok (.iinc 6 1, 3) := by decide +kernel
theorem dL_pinned_52 : decode cL_pinned 52 = .ok (.goto (-46), 3) := by decide +kernel
theorem dL_pinned_55 : decode cL_pinned 55 = .ok (.iload 5, 2) := by decide +kernel
theorem dL_pinned_57 : decode cL_pinned 57 = .ok (.ireturn, 1) := by decide +kernel
set_option maxRecDepth 20000 in
theorem ggL_fetches_L_counts : GoodIn wsL_fetches wsL_counts := goodIn_r _ [4, 5, 6, 7, 3, 8] (by decide +kernel) (by decide +kernel)
set_option maxRecDepth 20000 in
theorem gL_fetches_L_counts : GoodIn wsL_fetches (va_wsS RL 19 yL_counts wsL_counts) := goodIn_app (goodIn_of _ (by decide +kernel)) ggL_fetches_L_counts
set_option maxRecDepth 20000 in
theorem ggL_fetches_L_putIn : GoodIn wsL_fetches wsL_putIn := goodIn_r _ [11] (by decide +kernel) (by decide +kernel)
set_option maxRecDepth 20000 in
theorem gL_fetches_L_putIn : GoodIn wsL_fetches (va_wsS RL 23 yL_putIn wsL_putIn) := goodIn_app (goodIn_of _ (by decide +kernel)) ggL_fetches_L_putIn
set_option maxRecDepth 20000 in
theorem ggL_fetches_L_removes : GoodIn wsL_fetches wsL_removes := goodIn_r _ [14, 6, 7, 3, 8] (by decide +kernel) (by decide +kernel)
set_option maxRecDepth 20000 in
theorem gL_fetches_L_removes : GoodIn wsL_fetches (va_wsS RL 13 yL_removes wsL_removes) := goodIn_app (goodIn_of _ (by decide +kernel)) ggL_fetches_L_removes
set_option maxRecDepth 20000 in
theorem ggL_fetches_L_used : GoodIn wsL_fetches wsL_used := goodIn_r _ [17] (by decide +kernel) (by decide +kernel)
set_option maxRecDepth 20000 in
theorem gL_fetches_L_used : GoodIn wsL_fetches (va_wsS RL 27 yL_used wsL_used) := goodIn_app (goodIn_of _ (by decide +kernel)) ggL_fetches_L_used
set_option maxRecDepth 20000 in
theorem ggL_fetches_L_clears : GoodIn wsL_fetches wsL_clears := goodIn_r _ [20, 12, 13, 3, 14, 6, 7, 8] (by decide +kernel) (by decide +kernel)
set_option maxRecDepth 20000 in
theorem gL_fetches_L_clears : GoodIn wsL_fetches (va_wsS RL 31 yL_clears wsL_clears) := goodIn_app (goodIn_of _ (by decide +kernel)) ggL_fetches_L_clears
set_option maxRecDepth 20000 in
theorem ggL_fetches_L_pinned : GoodIn wsL_fetches wsL_pinned := goodIn_r _ [23] (by decide +kernel) (by decide +kernel)
set_option maxRecDepth 20000 in
theorem gL_fetches_L_pinned : GoodIn wsL_fetches (va_wsS RL 35 yL_pinned wsL_pinned) := goodIn_app (goodIn_of _ (by decide +kernel)) ggL_fetches_L_pinned
set_option maxRecDepth 20000 in
theorem ggL_fetches_L_leaves : GoodIn wsL_fetches wsL_leaves := goodIn_r _ [26, 12, 13, 3, 14, 6, 7, 8] (by decide +kernel) (by decide +kernel)
set_option maxRecDepth 20000 in
theorem gL_fetches_L_leaves : GoodIn wsL_fetches (va_wsS RL 39 yL_leaves wsL_leaves) := goodIn_app (goodIn_of _ (by decide +kernel)) ggL_fetches_L_leaves
theorem dL_fetches_0 : decode cL_fetches 0 = .ok (.aload_n 0, 1) := by decide +kernel
theorem dL_fetches_1 : decode cL_fetches 1 = .ok (.iload 9, 2) := by decide +kernel
theorem dL_fetches_3 : decode cL_fetches 3 = .ok (.iaload, 1) := by decide +kernel
theorem dL_fetches_4 : decode cL_fetches 4 = .ok (.ifCond .le 18, 3) := by decide +kernel
theorem dL_fetches_7 : decode cL_fetches 7 = .ok (.aload_n 2, 1) := by decide +kernel
theorem dL_fetches_8 : decode cL_fetches 8 = .ok (.iload 9, 2) := by decide +kernel
theorem dL_fetches_10 : decode cL_fetches 10 = .ok (.iaload, 1) := by decide +kernel
theorem dL_fetches_11 : decode cL_fetches 11 = .ok (.aload 6, 2) := by decide +kernel
theorem dL_fetches_13 : decode cL_fetches 13 = .ok (.iconst 0, 1) := by decide +kernel
theorem dL_fetches_14 : decode cL_fetches 14 = .ok (.iaload, 1) := by decide +kernel
theorem dL_fetches_15 : decode cL_fetches 15 = .ok (.if_icmp .le 7, 3) := by decide +kernel
theorem dL_fetches_18 : decode cL_fetches 18 = .ok (.iconst 1, 1) := by decide +kernel
theorem dL_fetches_19 : decode cL_fetches 19 = .ok (.goto 4, 3) := by decide +kernel
theorem dL_fetches_22 : decode cL_fetches 22 = .ok (.iconst 0, 1) := by decide +kernel
theorem dL_fetches_23 : decode cL_fetches 23 = .ok (.istore 13, 2) := by decide +kernel
theorem dL_fetches_25 : decode cL_fetches 25 = .ok (.iload 13, 2) := by decide +kernel
theorem dL_fetches_27 : decode cL_fetches 27 = .ok (.ifCond .eq 85, 3) := by decide +kernel
theorem dL_fetches_30 : decode cL_fetches 30 = .ok (.aload_n 0, 1) := by decide +kernel
theorem dL_fetches_31 : decode cL_fetches 31 = .ok (.iload 9, 2) := by decide +kernel
theorem dL_fetches_33 : decode cL_fetches 33 = .ok (.iaload, 1) := by decide +kernel
theorem dL_fetches_34 : decode cL_fetches 34 = .ok (.iload 10, 2) := by decide +kernel
theorem dL_fetches_36 : decode cL_fetches 36 = .ok (.if_icmp .ne 76, 3) := by decide +kernel
theorem dL_fetches_39 : decode cL_fetches 39 = .ok (.aload_n 1, 1) := by decide +kernel
theorem dL_fetches_40 : decode cL_fetches 40 = .ok (.iload 9, 2) := by decide +kernel
theorem dL_fetches_42 : decode cL_fetches 42 = .ok (.dup2, 1) := by decide +kernel
theorem dL_fetches_43 : decode cL_fetches 43 = .ok (.iaload, 1) := by decide +kernel
theorem dL_fetches_44 : decode cL_fetches 44 = .ok (.iconst 1, 1) := by decide +kernel
theorem dL_fetches_45 : decode cL_fetches 45 = .ok (.iadd, 1) := by decide +kernel
theorem dL_fetches_46 : decode cL_fetches 46 = .ok (.iastore, 1) := by decide +kernel
theorem dL_fetches_47 : decode cL_fetches 47 = .ok (.aload_n 0, 1) := by decide +kernel
theorem dL_fetches_48 : decode cL_fetches 48 = .ok (.aload_n 1, 1) := by decide +kernel
theorem dL_fetches_49 : decode cL_fetches 49 = .ok (.aload 5, 2) := by decide +kernel
theorem dL_fetches_51 : decode cL_fetches 51 = .ok (.aload 6, 2) := by decide +kernel
theorem dL_fetches_53 : decode cL_fetches 53 = .ok (.aload 7, 2) := by decide +kernel
theorem dL_fetches_55 : decode cL_fetches 55 = .ok (.aload 8, 2) := by decide +kernel
theorem dL_fetches_57 : decode cL_fetches 57 = .ok (.iload 9, 2) := by decide +kernel
theorem dL_fetches_59 : decode cL_fetches 59 = .ok (.iload 11, 2) := by decide +kernel
theorem dL_fetches_61 : decode cL_fetches 61 = .ok (.invokestatic 19, 3) := by decide +kernel
theorem dL_fetches_64 : decode cL_fetches 64 = .ok (.aload_n 3, 1) := by decide +kernel
theorem dL_fetches_65 : decode cL_fetches 65 = .ok (.iload 9, 2) := by decide +kernel
theorem dL_fetches_67 : decode cL_fetches 67 = .ok (.iaload, 1) := by decide +kernel
theorem dL_fetches_68 : decode cL_fetches 68 = .ok (.ifCond .ne 14, 3) := by decide +kernel
theorem dL_fetches_71 : decode cL_fetches 71 = .ok (.aload 5, 2) := by decide +kernel
theorem dL_fetches_73 : decode cL_fetches 73 = .ok (.aload 6, 2) := by decide +kernel
theorem dL_fetches_75 : decode cL_fetches 75 = .ok (.aload 7, 2) := by decide +kernel
theorem dL_fetches_77 : decode cL_fetches 77 = .ok (.iload 9, 2) := by decide +kernel
theorem dL_fetches_79 : decode cL_fetches 79 = .ok (.invokestatic 23, 3) := by decide +kernel
theorem dL_fetches_82 : decode cL_fetches 82 = .ok (.aload 6, 2) := by decide +kernel
theorem dL_fetches_84 : decode cL_fetches 84 = .ok (.iconst 4, 1) := by decide +kernel
theorem dL_fetches_85 : decode cL_fetches 85 = .ok (.dup2, 1) := by decide +kernel
theorem dL_fetches_86 : decode cL_fetches 86 = .ok (.iaload, 1) := by decide +kernel
theorem dL_fetches_87 : decode cL_fetches 87 = .ok (.iconst 1, 1) := by decide +kernel
theorem dL_fetches_88 : decode cL_fetches 88 = .ok (.iadd, 1) := by decide +kernel
theorem dL_fetches_89 : decode cL_fetches 89 = .ok (.iastore, 1) := by decide +kernel
theorem dL_fetches_90 : decode cL_fetches 90 = .ok (.aload 8, 2) := by decide +kernel
theorem dL_fetches_92 : decode cL_fetches 92 = .ok (.iconst 1, 1) := by decide +kernel
theorem dL_fetches_93 : decode cL_fetches 93 = .ok (.dup2, 1) := by decide +kernel
theorem dL_fetches_94 : decode cL_fetches 94 = .ok (.laload, 1) := by decide +kernel
theorem dL_fetches_95 : decode cL_fetches 95 = .ok (.iload 10, 2) := by decide +kernel
theorem dL_fetches_97 : decode cL_fetches 97 = .ok (.i2l, 1) := by decide +kernel
theorem dL_fetches_98 : decode cL_fetches 98 = .ok (.ladd, 1) := by decide +kernel
theorem dL_fetches_99 : decode cL_fetches 99 = .ok (.lastore, 1) := by decide +kernel
theorem dL_fetches_100 : decode cL_fetches 100 = .ok (.aload 8, 2) := by decide +kernel
theorem dL_fetches_102 : decode cL_fetches 102 = .ok (.iconst 2, 1) := by decide +kernel
theorem dL_fetches_103 : decode cL_fetches 103 = .ok (.dup2, 1) := by decide +kernel
theorem dL_fetches_104 : decode cL_fetches 104 = .ok (.laload, 1) := by decide +kernel
theorem dL_fetches_105 : decode cL_fetches 105 = .ok (.iload 11, 2) := by decide +kernel
theorem dL_fetches_107 : decode cL_fetches 107 = .ok (.i2l, 1) := by decide +kernel
theorem dL_fetches_108 : decode cL_fetches 108 = .ok (.ladd, 1) := by decide +kernel
theorem dL_fetches_109 : decode cL_fetches 109 = .ok (.lastore, 1) := by decide +kernel
theorem dL_fetches_110 : decode cL_fetches 110 = .ok (.iconst 0, 1) := by decide +kernel
theorem dL_fetches_111 : decode cL_fetches 111 = .ok (.ireturn, 1) := by decide +kernel
theorem dL_fetches_112 : decode cL_fetches 112 = .ok (.aload 6, 2) := by decide +kernel
theorem dL_fetches_114 : decode cL_fetches 114 = .ok (.iconst 5, 1) := by decide +kernel
theorem dL_fetches_115 : decode cL_fetches 115 = .ok (.dup2, 1) := by decide +kernel
theorem dL_fetches_116 : decode cL_fetches 116 = .ok (.iaload, 1) := by decide +kernel
theorem dL_fetches_117 : decode cL_fetches 117 = .ok (.iconst 1, 1) := by decide +kernel
theorem dL_fetches_118 : decode cL_fetches 118 = .ok (.iadd, 1) := by decide +kernel
theorem dL_fetches_119 : decode cL_fetches 119 = .ok (.iastore, 1) := by decide +kernel
theorem dL_fetches_120 : decode cL_fetches 120 = .ok (.aload 8, 2) := by decide +kernel
theorem dL_fetches_122 : decode cL_fetches 122 = .ok (.iconst 3, 1) := by decide +kernel
theorem dL_fetches_123 : decode cL_fetches 123 = .ok (.dup2, 1) := by decide +kernel
theorem dL_fetches_124 : decode cL_fetches 124 = .ok (.laload, 1) := by decide +kernel
theorem dL_fetches_125 : decode cL_fetches 125 = .ok (.iload 11, 2) := by decide +kernel
theorem dL_fetches_127 : decode cL_fetches 127 = .ok (.i2l, 1) := by decide +kernel
theorem dL_fetches_128 : decode cL_fetches 128 = .ok (.ladd, 1) := by decide +kernel
theorem dL_fetches_129 : decode cL_fetches 129 = .ok (.lastore, 1) := by decide +kernel
theorem dL_fetches_130 : decode cL_fetches 130 = .ok (.aload 6, 2) := by decide +kernel
theorem dL_fetches_132 : decode cL_fetches 132 = .ok (.bipush 7, 2) := by decide +kernel
theorem dL_fetches_134 : decode cL_fetches 134 = .ok (.dup2, 1) := by decide +kernel
theorem dL_fetches_135 : decode cL_fetches 135 = .ok (.iaload, 1) := by decide +kernel
theorem dL_fetches_136 : decode cL_fetches 136 = .ok (.aload_n 0, 1) := by decide +kernel
theorem dL_fetches_137 : decode cL_fetches 137 = .ok (.iload 9, 2) := by decide +kernel
theorem dL_fetches_139 : decode cL_fetches 139 = .ok (.iaload, 1) := by decide +kernel
theorem dL_fetches_140 : decode cL_fetches 140 = .ok (.ifCond .le 12, 3) := by decide +kernel
theorem dL_fetches_143 : decode cL_fetches 143 = .ok (.iload 13, 2) := by decide +kernel
theorem dL_fetches_145 : decode cL_fetches 145 = .ok (.ifCond .ne 7, 3) := by decide +kernel
theorem dL_fetches_148 : decode cL_fetches 148 = .ok (.iconst 1, 1) := by decide +kernel
theorem dL_fetches_149 : decode cL_fetches 149 = .ok (.goto 4, 3) := by decide +kernel
theorem dL_fetches_152 : decode cL_fetches 152 = .ok (.iconst 0, 1) := by decide +kernel
theorem dL_fetches_153 : decode cL_fetches 153 = .ok (.iadd, 1) := by decide +kernel
theorem dL_fetches_154 : decode cL_fetches 154 = .ok (.iastore, 1) := by decide +kernel
theorem dL_fetches_155 : decode cL_fetches 155 = .ok (.aload_n 0, 1) := by decide +kernel
theorem dL_fetches_156 : decode cL_fetches 156 = .ok (.aload 5, 2) := by decide +kernel
theorem dL_fetches_158 : decode cL_fetches 158 = .ok (.aload 6, 2) := by decide +kernel
theorem dL_fetches_160 : decode cL_fetches 160 = .ok (.iload 9, 2) := by decide +kernel
theorem dL_fetches_162 : decode cL_fetches 162 = .ok (.invokestatic 13, 3) := by decide +kernel
theorem dL_fetches_165 : decode cL_fetches 165 = .ok (.aload 4, 2) := by decide +kernel
theorem dL_fetches_167 : decode cL_fetches 167 = .ok (.iload 9, 2) := by decide +kernel
theorem dL_fetches_169 : decode cL_fetches 169 = .ok (.iaload, 1) := by decide +kernel
theorem dL_fetches_170 : decode cL_fetches 170 = .ok (.ifCond .le 24, 3) := by decide +kernel
theorem dL_fetches_173 : decode cL_fetches 173 = .ok (.aload 6, 2) := by decide +kernel
theorem dL_fetches_175 : decode cL_fetches 175 = .ok (.iconst 0, 1) := by decide +kernel
theorem dL_fetches_176 : decode cL_fetches 176 = .ok (.iaload, 1) := by decide +kernel
theorem dL_fetches_177 : decode cL_fetches 177 = .ok (.aload 4, 2) := by decide +kernel
theorem dL_fetches_179 : decode cL_fetches 179 = .ok (.iload 9, 2) := by decide +kernel
theorem dL_fetches_181 : decode cL_fetches 181 = .ok (.iaload, 1) := by decide +kernel
theorem dL_fetches_182 : decode cL_fetches 182 = .ok (.isub, 1) := by decide +kernel
theorem dL_fetches_183 : decode cL_fetches 183 = .ok (.iconst 1, 1) := by decide +kernel
theorem dL_fetches_184 : decode cL_fetches 184 = .ok (.iadd, 1) := by decide +kernel
theorem dL_fetches_185 : decode cL_fetches 185 = .ok (.bipush 51, 2) := by decide +kernel
theorem dL_fetches_187 : decode cL_fetches 187 = .ok (.if_icmp .ge 7, 3) := by decide +kernel
theorem dL_fetches_190 : decode cL_fetches 190 = .ok (.iconst 1, 1) := by decide +kernel
theorem dL_fetches_191 : decode cL_fetches 191 = .ok (.goto 4, 3) := by decide +kernel
theorem dL_fetches_194 : decode cL_fetches 194 = .ok (.iconst 0, 1) := by decide +kernel
theorem dL_fetches_195 : decode cL_fetches 195 = .ok (.istore 14, 2) := by decide +kernel
theorem dL_fetches_197 : decode cL_fetches 197 = .ok (.aload 4, 2) := by decide +kernel
theorem dL_fetches_199 : decode cL_fetches 199 = .ok (.iload 9, 2) := by decide +kernel
theorem dL_fetches_201 : decode cL_fetches 201 = .ok (.aload 6, 2) := by decide +kernel
theorem dL_fetches_203 : decode cL_fetches 203 = .ok (.iconst 0, 1) := by decide +kernel
theorem dL_fetches_204 : decode cL_fetches 204 = .ok (.iaload, 1) := by decide +kernel
theorem dL_fetches_205 : decode cL_fetches 205 = .ok (.iconst 1, 1) := by decide +kernel
theorem dL_fetches_206 : decode cL_fetches 206 = .ok (.iadd, 1) := by decide +kernel
theorem dL_fetches_207 : decode cL_fetches 207 = .ok (.iastore, 1) := by decide +kernel
theorem dL_fetches_208 : decode cL_fetches 208 = .ok (.iload 10, 2) := by decide +kernel
theorem dL_fetches_210 : decode cL_fetches 210 = .ok (.aload 6, 2) := by decide +kernel
theorem dL_fetches_212 : decode cL_fetches 212 = .ok (.iconst 1, 1) := by decide +kernel
theorem dL_fetches_213 : decode cL_fetches 213 = .ok (.iaload, 1) := by decide +kernel
theorem dL_fetches_214 : decode cL_fetches 214 = .ok (.if_icmp .gt 17, 3) := by decide +kernel
theorem dL_fetches_217 : decode cL_fetches 217 = .ok (.iload 10, 2) := by decide +kernel
theorem dL_fetches_219 : decode cL_fetches 219 = .ok (.aload 6, 2) := by decide +kernel
theorem dL_fetches_221 : decode cL_fetches 221 = .ok (.iconst 2, 1) := by decide +kernel
theorem dL_fetches_222 : decode cL_fetches 222 = .ok (.iaload, 1) := by decide +kernel
theorem dL_fetches_223 : decode cL_fetches 223 = .ok (.if_icmp .le 10, 3) := by decide +kernel
theorem dL_fetches_226 : decode cL_fetches 226 = .ok (.iload 14, 2) := by decide +kernel
theorem dL_fetches_228 : decode cL_fetches 228 = .ok (.ifCond .ne 5, 3) := by decide +kernel
theorem dL_fetches_231 : decode cL_fetches 231 = .ok (.iconst 2, 1) := by decide +kernel
theorem dL_fetches_232 : decode cL_fetches 232 = .ok (.ireturn, 1) := by decide +kernel
theorem dL_fetches_233 : decode cL_fetches 233 = .ok (.aload_n 0, 1) := by decide +kernel
theorem dL_fetches_234 : decode cL_fetches 234 = .ok (.invokestatic 27, 3) := by decide +kernel
theorem dL_fetches_237 : decode cL_fetches 237 = .ok (.iload 10, 2) := by decide +kernel
theorem dL_fetches_239 : decode cL_fetches 239 = .ok (.iadd, 1) := by decide +kernel
theorem dL_fetches_240 : decode cL_fetches 240 = .ok (.aload 6, 2) := by decide +kernel
theorem dL_fetches_242 : decode cL_fetches 242 = .ok (.iconst 1, 1) := by decide +kernel
theorem dL_fetches_243 : decode cL_fetches 243 = .ok (.iaload, 1) := by decide +kernel
theorem dL_fetches_244 : decode cL_fetches 244 = .ok (.if_icmp .le 63, 3) := by decide +kernel
theorem dL_fetches_247 : decode cL_fetches 247 = .ok (.aload_n 0, 1) := by decide +kernel
theorem dL_fetches_248 : decode cL_fetches 248 = .ok (.aload_n 2, 1) := by decide +kernel
theorem dL_fetches_249 : decode cL_fetches 249 = .ok (.aload 5, 2) := by decide +kernel
theorem dL_fetches_251 : decode cL_fetches 251 = .ok (.aload 6, 2) := by decide +kernel
theorem dL_fetches_253 : decode cL_fetches 253 = .ok (.invokestatic 31, 3) := by decide +kernel
theorem dL_fetches_256 : decode cL_fetches 256 = .ok (.pop, 1) := by decide +kernel
theorem dL_fetches_257 : decode cL_fetches 257 = .ok (.aload_n 0, 1) := by decide +kernel
theorem dL_fetches_258 : decode cL_fetches 258 = .ok (.aload_n 2, 1) := by decide +kernel
theorem dL_fetches_259 : decode cL_fetches 259 = .ok (.aload_n 3, 1) := by decide +kernel
theorem dL_fetches_260 : decode cL_fetches 260 = .ok (.aload 6, 2) := by decide +kernel
theorem dL_fetches_262 : decode cL_fetches 262 = .ok (.iconst 1, 1) := by decide +kernel
theorem dL_fetches_263 : decode cL_fetches 263 = .ok (.invokestatic 35, 3) := by decide +kernel
theorem dL_fetches_266 : decode cL_fetches 266 = .ok (.iload 10, 2) := by decide +kernel
theorem dL_fetches_268 : decode cL_fetches 268 = .ok (.iadd, 1) := by decide +kernel
theorem dL_fetches_269 : decode cL_fetches 269 = .ok (.aload 6, 2) := by decide +kernel
theorem dL_fetches_271 : decode cL_fetches 271 = .ok (.iconst 1, 1) := by decide +kernel
theorem dL_fetches_272 : decode cL_fetches 272 = .ok (.iaload, 1) := by decide +kernel
theorem dL_fetches_273 : decode cL_fetches 273 = .ok (.if_icmp .le 5, 3) := by decide +kernel
theorem dL_fetches_276 : decode cL_fetches 276 = .ok (.iconst 2, 1) := by decide +kernel
theorem dL_fetches_277 : decode cL_fetches 277 = .ok (.ireturn, 1) := by decide +kernel
theorem dL_fetches_278 : decode cL_fetches 278 = .ok (.aload_n 0, 1) := by decide +kernel
theorem dL_fetches_279 : decode cL_fetches 279 = .ok (.invokestatic 27, 3) := by decide +kernel
theorem dL_fetches_282 : decode cL_fetches 282 = .ok (.iload 10, 2) := by decide +kernel
theorem dL_fetches_284 : decode cL_fetches 284 = .ok (.iadd, 1) := by decide +kernel
theorem dL_fetches_285 : decode cL_fetches 285 = .ok (.aload 6, 2) := by decide +kernel
theorem dL_fetches_287 : decode cL_fetches 287 = .ok (.iconst 1, 1) := by decide +kernel
theorem dL_fetches_288 : decode cL_fetches 288 = .ok (.iaload, 1) := by decide +kernel
theorem dL_fetches_289 : decode cL_fetches 289 = .ok (.if_icmp .le 18, 3) := by decide +kernel
theorem dL_fetches_292 : decode cL_fetches 292 = .ok (.aload_n 0, 1) := by decide +kernel
theorem dL_fetches_293 : decode cL_fetches 293 = .ok (.aload 5, 2) := by decide +kernel
theorem dL_fetches_295 : decode cL_fetches 295 = .ok (.aload 6, 2) := by decide +kernel
theorem dL_fetches_297 : decode cL_fetches 297 = .ok (.aload 7, 2) := by decide +kernel
theorem dL_fetches_299 : decode cL_fetches 299 = .ok (.aload 8, 2) := by decide +kernel
theorem dL_fetches_301 : decode cL_fetches 301 = .ok (.invokestatic 39, 3) := by decide +kernel
theorem dL_fetches_304 : decode cL_fetches 304 = .ok (.goto (-26), 3) := by decide +kernel
theorem dL_fetches_307 : decode cL_fetches 307 = .ok (.aload_n 0, 1) := by decide +kernel
theorem dL_fetches_308 : decode cL_fetches 308 = .ok (.iload 9, 2) := by decide +kernel
theorem dL_fetches_310 : decode cL_fetches 310 = .ok (.iload 10, 2) := by decide +kernel
theorem dL_fetches_312 : decode cL_fetches 312 = .ok (.iastore, 1) := by decide +kernel
theorem dL_fetches_313 : decode cL_fetches 313 = .ok (.aload_n 1, 1) := by decide +kernel
theorem dL_fetches_314 : decode cL_fetches 314 = .ok (.iload 9, 2) := by decide +kernel
theorem dL_fetches_316 : decode cL_fetches 316 = .ok (.iconst 1, 1) := by decide +kernel
theorem dL_fetches_317 : decode cL_fetches 317 = .ok (.iastore, 1) := by decide +kernel
theorem dL_fetches_318 : decode cL_fetches 318 = .ok (.aload_n 2, 1) := by decide +kernel
theorem dL_fetches_319 : decode cL_fetches 319 = .ok (.iload 9, 2) := by decide +kernel
theorem dL_fetches_321 : decode cL_fetches 321 = .ok (.aload 6, 2) := by decide +kernel
theorem dL_fetches_323 : decode cL_fetches 323 = .ok (.iconst 0, 1) := by decide +kernel
theorem dL_fetches_324 : decode cL_fetches 324 = .ok (.iaload, 1) := by decide +kernel
theorem dL_fetches_325 : decode cL_fetches 325 = .ok (.iload 12, 2) := by decide +kernel
theorem dL_fetches_327 : decode cL_fetches 327 = .ok (.iadd, 1) := by decide +kernel
theorem dL_fetches_328 : decode cL_fetches 328 = .ok (.iastore, 1) := by decide +kernel
theorem dL_fetches_329 : decode cL_fetches 329 = .ok (.aload_n 3, 1) := by decide +kernel
theorem dL_fetches_330 : decode cL_fetches 330 = .ok (.iload 9, 2) := by decide +kernel
theorem dL_fetches_332 : decode cL_fetches 332 = .ok (.iconst 0, 1) := by decide +kernel
theorem dL_fetches_333 : decode cL_fetches 333 = .ok (.iastore, 1) := by decide +kernel
theorem dL_fetches_334 : decode cL_fetches 334 = .ok (.aload_n 0, 1) := by decide +kernel
theorem dL_fetches_335 : decode cL_fetches 335 = .ok (.aload_n 1, 1) := by decide +kernel
theorem dL_fetches_336 : decode cL_fetches 336 = .ok (.aload 5, 2) := by decide +kernel
theorem dL_fetches_338 : decode cL_fetches 338 = .ok (.aload 6, 2) := by decide +kernel
theorem dL_fetches_340 : decode cL_fetches 340 = .ok (.aload 7, 2) := by decide +kernel
theorem dL_fetches_342 : decode cL_fetches 342 = .ok (.aload 8, 2) := by decide +kernel
theorem dL_fetches_344 : decode cL_fetches 344 = .ok (.iload 9, 2) := by decide +kernel
theorem dL_fetches_346 : decode cL_fetches 346 = .ok (.iload 11, 2) := by decide +kernel
theorem dL_fetches_348 : decode cL_fetches 348 = .ok (.invokestatic 19, 3) := by decide +kernel
theorem dL_fetches_351 : decode cL_fetches 351 = .ok (.aload 5, 2) := by decide +kernel
theorem dL_fetches_353 : decode cL_fetches 353 = .ok (.aload 6, 2) := by decide +kernel
theorem dL_fetches_355 : decode cL_fetches 355 = .ok (.aload 7, 2) := by decide +kernel
theorem dL_fetches_357 : decode cL_fetches 357 = .ok (.iload 9, 2) := by decide +kernel
theorem dL_fetches_359 : decode cL_fetches 359 = .ok (.invokestatic 23, 3) := by decide +kernel
theorem dL_fetches_362 : decode cL_fetches 362 = .ok (.iconst 1, 1) := by decide +kernel
theorem dL_fetches_363 : decode cL_fetches 363 = .ok (.ireturn, 1) := by decide +kernel
set_option maxRecDepth 20000 in
theorem ggL_would_L_used : GoodIn wsL_would wsL_used := goodIn_r _ [4] (by decide +kernel) (by decide +kernel)
set_option maxRecDepth 20000 in
theorem gL_would_L_used : GoodIn wsL_would (va_wsS RL 27 yL_used wsL_used) := goodIn_app (goodIn_of _ (by decide +kernel)) ggL_would_L_used
theorem dL_would_0 : decode cL_would 0 = .ok (.aload_n 0, 1) := by decide +kernel
theorem dL_would_1 : decode cL_would 1 = .ok (.invokestatic 27, 3) := by decide +kernel
theorem dL_would_4 : decode cL_would 4 = .ok (.istore 6, 2) := by decide +kernel
theorem dL_would_6 : decode cL_would 6 = .ok (.iload 6, 2) := by decide +kernel
theorem dL_would_8 : decode cL_would 8 = .ok (.iload 5, 2) := by decide +kernel
theorem dL_would_10 : decode cL_would 10 = .ok (.iadd, 1) := by decide +kernel
theorem dL_would_11 : decode cL_would 11 = .ok (.aload 4, 2) := by decide +kernel
theorem dL_would_13 : decode cL_would 13 = .ok (.iconst 1, 1) := by decide +kernel
theorem dL_would_14 : decode cL_would 14 = .ok (.iaload, 1) := by decide +kernel
theorem dL_would_15 : decode cL_would 15 = .ok (.if_icmp .gt 5, 3) := by decide +kernel
theorem dL_would_18 : decode cL_would 18 = .ok (.iconst 0, 1) := by decide +kernel
theorem dL_would_19 : decode cL_would 19 = .ok (.ireturn, 1) := by decide +kernel
theorem dL_would_20 : decode cL_would 20 = .ok (.iconst 0, 1) := by decide +kernel
theorem dL_would_21 : decode cL_would 21 = .ok (.istore 7, 2) := by decide +kernel
theorem dL_would_23 : decode cL_would 23 = .ok (.iconst 0, 1) := by decide +kernel
theorem dL_would_24 : decode cL_would 24 = .ok (.istore 8, 2) := by decide +kernel
theorem dL_would_26 : decode cL_would 26 = .ok (.iload 8, 2) := by decide +kernel
theorem dL_would_28 : decode cL_would 28 = .ok (.bipush 32, 2) := by decide +kernel
theorem dL_would_30 : decode cL_would 30 = .ok (.if_icmp .ge 33, 3) := by decide +kernel
theorem dL_would_33 : decode cL_would 33 = .ok (.iload 6, 2) := by decide +kernel
theorem dL_would_35 : decode cL_would 35 = .ok (.aload_n 1, 1) := by decide +kernel
theorem dL_would_36 : decode cL_would 36 = .ok (.iload 8, 2) := by decide +kernel
theorem dL_would_38 : decode cL_would 38 = .ok (.iaload, 1) := by decide +kernel
theorem dL_would_39 : decode cL_would 39 = .ok (.aload 4, 2) := by decide +kernel
theorem dL_would_41 : decode cL_would 41 = .ok (.iconst 0, 1) := by decide +kernel
theorem dL_would_42 : decode cL_would 42 = .ok (.iaload, 1) := by decide +kernel
theorem dL_would_43 : decode cL_would 43 = .ok (.if_icmp .gt 10, 3) := by decide +kernel
theorem dL_would_46 : decode cL_would 46 = .ok (.aload_n 0, 1) := by decide +kernel
theorem dL_would_47 : decode cL_would 47 = .ok (.iload 8, 2) := by decide +kernel
theorem dL_would_49 : decode cL_would 49 = .ok (.iaload, 1) := by decide +kernel
theorem dL_would_50 : decode cL_would 50 = .ok (.goto 4, 3) := by decide +kernel
theorem dL_would_53 : decode cL_would 53 = .ok (.iconst 0, 1) := by decide +kernel
theorem dL_would_54 : decode cL_would 54 = .ok (.isub, 1) := by decide +kernel
theorem dL_would_55 : decode cL_would 55 = .ok (.istore 6, 2) := by decide +kernel
theorem dL_would_57 : decode cL_would 57 = .ok (.iinc 8 1, 3) := by decide +kernel
theorem dL_would_60 : decode cL_would 60 = .ok (.goto (-34), 3) := by decide +kernel
theorem dL_would_63 : decode cL_would 63 = .ok (.iconst 0, 1) := by decide +kernel
theorem dL_would_64 : decode cL_would 64 = .ok (.istore 8, 2) := by decide +kernel
theorem dL_would_66 : decode cL_would 66 = .ok (.iload 8, 2) := by decide +kernel
theorem dL_would_68 : decode cL_would 68 = .ok (.aload 4, 2) := by decide +kernel
theorem dL_would_70 : decode cL_would 70 = .ok (.iconst 3, 1) := by decide +kernel
theorem dL_would_71 : decode cL_would 71 = .ok (.iaload, 1) := by decide +kernel
theorem dL_would_72 : decode cL_would 72 = .ok (.if_icmp .ge 72, 3) := by decide +kernel
theorem dL_would_75 : decode cL_would 75 = .ok (.iload 6, 2) := by decide +kernel
theorem dL_would_77 : decode cL_would 77 = .ok (.iload 5, 2) := by decide +kernel
theorem dL_would_79 : decode cL_would 79 = .ok (.iadd, 1) := by decide +kernel
theorem dL_would_80 : decode cL_would 80 = .ok (.aload 4, 2) := by decide +kernel
theorem dL_would_82 : decode cL_would 82 = .ok (.iconst 1, 1) := by decide +kernel
theorem dL_would_83 : decode cL_would 83 = .ok (.iaload, 1) := by decide +kernel
theorem dL_would_84 : decode cL_would 84 = .ok (.if_icmp .le 60, 3) := by decide +kernel
theorem dL_would_87 : decode cL_would 87 = .ok (.iload 7, 2) := by decide +kernel
theorem dL_would_89 : decode cL_would 89 = .ok (.aload_n 1, 1) := by decide +kernel
theorem dL_would_90 : decode cL_would 90 = .ok (.aload_n 3, 1) := by decide +kernel
theorem dL_would_91 : decode cL_would 91 = .ok (.iload 8, 2) := by decide +kernel
theorem dL_would_93 : decode cL_would 93 = .ok (.iaload, 1) := by decide +kernel
theorem dL_would_94 : decode cL_would 94 = .ok (.iaload, 1) := by decide +kernel
theorem dL_would_95 : decode cL_would 95 = .ok (.aload 4, 2) := by decide +kernel
theorem dL_would_97 : decode cL_would 97 = .ok (.iconst 0, 1) := by decide +kernel
theorem dL_would_98 : decode cL_would 98 = .ok (.iaload, 1) := by decide +kernel
theorem dL_would_99 : decode cL_would 99 = .ok (.if_icmp .gt 7, 3) := by decide +kernel
theorem dL_would_102 : decode cL_would 102 = .ok (.iconst 0, 1) := by decide +kernel
theorem dL_would_103 : decode cL_would 103 = .ok (.goto 4, 3) := by decide +kernel
theorem dL_would_106 : decode cL_would 106 = .ok (.iconst 1, 1) := by decide +kernel
theorem dL_would_107 : decode cL_would 107 = .ok (.iadd, 1) := by decide +kernel
theorem dL_would_108 : decode cL_would 108 = .ok (.istore 7, 2) := by decide +kernel
theorem dL_would_110 : decode cL_would 110 = .ok (.iload 6, 2) := by decide +kernel
theorem dL_would_112 : decode cL_would 112 = .ok (.aload_n 1, 1) := by decide +kernel
theorem dL_would_113 : decode cL_would 113 = .ok (.aload_n 3, 1) := by decide +kernel
theorem dL_would_114 : decode cL_would 114 = .ok (.iload 8, 2) := by decide +kernel
theorem dL_would_116 : decode cL_would 116 = .ok (.iaload, 1) := by decide +kernel
theorem dL_would_117 : decode cL_would 117 = .ok (.iaload, 1) := by decide +kernel
theorem dL_would_118 : decode cL_would 118 = .ok (.aload 4, 2) := by decide +kernel
theorem dL_would_120 : decode cL_would 120 = .ok (.iconst 0, 1) := by decide +kernel
theorem dL_would_121 : decode cL_would 121 = .ok (.iaload, 1) := by decide +kernel
theorem dL_would_122 : decode cL_would 122 = .ok (.if_icmp .gt 7, 3) := by decide +kernel
theorem dL_would_125 : decode cL_would 125 = .ok (.iconst 0, 1) := by decide +kernel
theorem dL_would_126 : decode cL_would 126 = .ok (.goto 9, 3) := by decide +kernel
theorem dL_would_129 : decode cL_would 129 = .ok (.aload_n 0, 1) := by decide +kernel
theorem dL_would_130 : decode cL_would 130 = .ok (.aload_n 3, 1) := by decide +kernel
theorem dL_would_131 : decode cL_would 131 = .ok (.iload 8, 2) := by decide +kernel
theorem dL_would_133 : decode cL_would 133 = .ok (.iaload, 1) := by decide +kernel
theorem dL_would_134 : decode cL_would 134 = .ok (.iaload, 1) := by decide +kernel
theorem dL_would_135 : decode cL_would 135 = .ok (.isub, 1) := by decide +kernel
theorem dL_would_136 : decode cL_would 136 = .ok (.istore 6, 2) := by decide +kernel
theorem dL_would_138 : decode cL_would 138 = .ok (.iinc 8 1, 3) := by decide +kernel
theorem dL_would_141 : decode cL_would 141 = .ok (.goto (-75), 3) := by decide +kernel
theorem dL_would_144 : decode cL_would 144 = .ok (.iload 6, 2) := by decide +kernel
theorem dL_would_146 : decode cL_would 146 = .ok (.iload 5, 2) := by decide +kernel
theorem dL_would_148 : decode cL_would 148 = .ok (.iadd, 1) := by decide +kernel
theorem dL_would_149 : decode cL_would 149 = .ok (.aload 4, 2) := by decide +kernel
theorem dL_would_151 : decode cL_would 151 = .ok (.iconst 1, 1) := by decide +kernel
theorem dL_would_152 : decode cL_would 152 = .ok (.iaload, 1) := by decide +kernel
theorem dL_would_153 : decode cL_would 153 = .ok (.if_icmp .le 7, 3) := by decide +kernel
theorem dL_would_156 : decode cL_would 156 = .ok (.iconst (-1), 1) := by decide +kernel
theorem dL_would_157 : decode cL_would 157 = .ok (.goto 5, 3) := by decide +kernel
theorem dL_would_160 : decode cL_would 160 = .ok (.iload 7, 2) := by decide +kernel
theorem dL_would_162 : decode cL_would 162 = .ok (.ireturn, 1) := by decide +kernel
set_option maxRecDepth 20000 in
theorem ggL_told_X1_pin : GoodIn wsL_told wsX1_pin := goodIn_ca (goodIn_ca (goodIn_r _ [6, 7, 8, 9, 5, 10, 11, 12, 13, 14, 15, 16, 17, 18, 19, 81, 82, 83, 84, 85, 86, 87, 88, 89, 90, 91, 92, 93, 94, 95, 96, 97, 98, 99, 100, 101, 102] (by decide +kernel) (by decide +kernel)) (goodIn_sub (fun _ h => List.mem_cons_of_mem _ (List.mem_append_left _ (List.mem_append_left _ (List.mem_append_right _ h)))) (by decide +kernel))) (goodIn_sub (fun _ h => List.mem_cons_of_mem _ (List.mem_append_left _ (List.mem_append_right _ h))) (by decide +kernel))
set_option maxRecDepth 20000 in
theorem gL_told_X1_pin : GoodIn wsL_told (wsV RL 43 RX1 yX1_pin wsX1_pin) := goodIn_app (goodIn_of _ (by decide +kernel)) ggL_told_X1_pin
set_option maxRecDepth 20000 in
theorem ggL_told_X1_drop : GoodIn wsL_told wsX1_drop := goodIn_ca (goodIn_ca (goodIn_r _ [23, 7, 8, 9, 5, 10, 11, 12, 13, 14, 15, 16, 17, 18, 19, 81, 82, 83, 84, 85, 86, 87, 88, 89, 90, 91, 92, 93, 94, 95, 96, 97, 98, 99, 100, 101, 102] (by decide +kernel) (by decide +kernel)) (goodIn_sub (fun _ h => List.mem_cons_of_mem _ (List.mem_append_left _ (List.mem_append_left _ (List.mem_append_right _ h)))) (by decide +kernel))) (goodIn_sub (fun _ h => List.mem_cons_of_mem _ (List.mem_append_left _ (List.mem_append_right _ h))) (by decide +kernel))
set_option maxRecDepth 20000 in
theorem gL_told_X1_drop : GoodIn wsL_told (wsV RL 49 RX1 yX1_drop wsX1_drop) := goodIn_app (goodIn_of _ (by decide +kernel)) ggL_told_X1_drop
set_option maxRecDepth 20000 in
theorem ggL_told_X1_setCapacity : GoodIn wsL_told wsX1_setCapacity := goodIn_ca (goodIn_ca (goodIn_r _ [27, 11, 12, 28, 29, 30, 5, 31, 32, 33, 34, 35, 36, 37, 19, 38, 39, 40, 41, 42, 43, 44, 45, 46, 47, 48, 49, 50, 51, 52, 53, 54, 55, 56, 57, 58, 59, 60, 61, 62, 63, 64, 65, 66, 67, 68, 69, 70, 71, 72, 73, 74, 75, 90, 91, 92, 93, 94, 95, 96, 97, 98, 99, 100, 101, 102, 81, 82, 83, 84, 85, 86, 87, 88, 89] (by decide +kernel) (by decide +kernel)) (goodIn_sub (fun _ h => List.mem_cons_of_mem _ (List.mem_append_left _ (List.mem_append_left _ (List.mem_append_right _ h)))) (by decide +kernel))) (goodIn_sub (fun _ h => List.mem_cons_of_mem _ (List.mem_append_right _ h)) (by decide +kernel))
set_option maxRecDepth 20000 in
theorem gL_told_X1_setCapacity : GoodIn wsL_told (wsV RL 53 RX1 yX1_setCapacity wsX1_setCapacity) := goodIn_app (goodIn_of _ (by decide +kernel)) ggL_told_X1_setCapacity
set_option maxRecDepth 20000 in
theorem ggL_told_X1_setThreshold : GoodIn wsL_told wsX1_setThreshold := goodIn_ca (goodIn_r _ [79, 80, 29, 30, 5, 31, 32, 33, 90, 91, 92, 93, 94, 95, 96, 97, 98, 99, 100, 101, 102] (by decide +kernel) (by decide +kernel)) (goodIn_sub (fun _ h => List.mem_cons_of_mem _ (List.mem_append_right _ h)) (by decide +kernel))
set_option maxRecDepth 20000 in
theorem gL_told_X1_setThreshold : GoodIn wsL_told (wsV RL 56 RX1 yX1_setThreshold wsX1_setThreshold) := goodIn_app (goodIn_of _ (by decide +kernel)) ggL_told_X1_setThreshold
theorem dL_told_0 : decode cL_told 0 = .ok (.iload_n 1, 1) := by decide +kernel
theorem dL_told_1 : decode cL_told 1 = .ok (.ifCond .ne 29, 3) := by decide +kernel
theorem dL_told_4 : decode cL_told 4 = .ok (.aload_n 0, 1) := by decide +kernel
theorem dL_told_5 : decode cL_told 5 = .ok (.iload_n 2, 1) := by decide +kernel
theorem dL_told_6 : decode cL_told 6 = .ok (.iload_n 3, 1) := by decide +kernel
theorem dL_told_7 : decode cL_told 7 = .ok (.iconst 1, 1) := by decide +kernel
theorem dL_told_8 : decode cL_told 8 = .ok (.if_icmp .ne 7, 3) := by decide +kernel
theorem dL_told_11 : decode cL_told 11 = .ok (.iconst 1, 1) := by decide +kernel
theorem dL_told_12 : decode cL_told 12 = .ok (.goto 4, 3) := by decide +kernel
theorem dL_told_15 : decode cL_told 15 = .ok (.iconst 0, 1) := by decide +kernel
theorem dL_told_16 : decode cL_told 16 = .ok (.invokevirtual 43, 3) := by decide +kernel
theorem dL_told_19 : decode cL_told 19 = .ok (.ifCond .eq 7, 3) := by decide +kernel
theorem dL_told_22 : decode cL_told 22 = .ok (.iconst 1, 1) := by decide +kernel
theorem dL_told_23 : decode cL_told 23 = .ok (.goto 38, 3) := by decide +kernel
theorem dL_told_26 : decode cL_told 26 = .ok (.iconst 0, 1) := by decide +kernel
theorem dL_told_27 : decode cL_told 27 = .ok (.goto 34, 3) := by decide +kernel
theorem dL_told_30 : decode cL_told 30 = .ok (.iload_n 1, 1) := by decide +kernel
theorem dL_told_31 : decode cL_told 31 = .ok (.iconst 1, 1) := by decide +kernel
theorem dL_told_32 : decode cL_told 32 = .ok (.if_icmp .ne 11, 3) := by decide +kernel
theorem dL_told_35 : decode cL_told 35 = .ok (.aload_n 0, 1) := by decide +kernel
theorem dL_told_36 : decode cL_told 36 = .ok (.iload_n 2, 1) := by decide +kernel
theorem dL_told_37 : decode cL_told 37 = .ok (.invokevirtual 49, 3) := by decide +kernel
theorem dL_told_40 : decode cL_told 40 = .ok (.goto 21, 3) := by decide +kernel
theorem dL_told_43 : decode cL_told 43 = .ok (.iload_n 1, 1) := by decide +kernel
theorem dL_told_44 : decode cL_told 44 = .ok (.iconst 2, 1) := by decide +kernel
theorem dL_told_45 : decode cL_told 45 = .ok (.if_icmp .ne 11, 3) := by decide +kernel
theorem dL_told_48 : decode cL_told 48 = .ok (.aload_n 0, 1) := by decide +kernel
theorem dL_told_49 : decode cL_told 49 = .ok (.iload_n 2, 1) := by decide +kernel
theorem dL_told_50 : decode cL_told 50 = .ok (.invokevirtual 53, 3) := by decide +kernel
theorem dL_told_53 : decode cL_told 53 = .ok (.goto 8, 3) := by decide +kernel
theorem dL_told_56 : decode cL_told 56 = .ok (.aload_n 0, 1) := by decide +kernel
theorem dL_told_57 : decode cL_told 57 = .ok (.iload_n 2, 1) := by decide +kernel
theorem dL_told_58 : decode cL_told 58 = .ok (.invokevirtual 56, 3) := by decide +kernel
theorem dL_told_61 : decode cL_told 61 = .ok (.ireturn, 1) := by decide +kernel
theorem dL_told_62 : decode cL_told 62 = .ok (.astore 4, 2) := by decide +kernel
theorem dL_told_64 : decode cL_told 64 = .ok (.bipush (-13), 2) := by decide +kernel
theorem dL_told_66 : decode cL_told 66 = .ok (.ireturn, 1) := by decide +kernel
set_option maxRecDepth 20000 in
theorem ggL_order_X1_leaving : GoodIn wsL_order wsX1_leaving := goodIn_ca (goodIn_r _ [6, 7, 8, 9, 10, 11, 5, 12, 13, 14, 15, 16, 17, 18, 19, 20, 21, 22, 23, 24, 25, 26, 27, 28, 29, 30, 31, 32, 33, 34, 35, 36, 37, 38, 39, 40, 41, 42, 43, 44, 45] (by decide +kernel) (by decide +kernel)) (goodIn_sub (fun _ h => List.mem_cons_of_mem _ (List.mem_append_right _ h)) (by decide +kernel))
set_option maxRecDepth 20000 in
theorem gL_order_X1_leaving : GoodIn wsL_order (wsV RL 61 RX1 yX1_leaving wsX1_leaving) := goodIn_app (goodIn_of _ (by decide +kernel)) ggL_order_X1_leaving
theorem dL_order_0 : decode cL_order 0 = .ok (.aload_n 0, 1) := by decide +kernel
theorem dL_order_1 : decode cL_order 1 = .ok (.iload_n 1, 1) := by decide +kernel
theorem dL_order_2 : decode cL_order 2 = .ok (.invokevirtual 61, 3) := by decide +kernel
theorem dL_order_5 : decode cL_order 5 = .ok (.ireturn, 1) := by decide +kernel
theorem dL_order_6 : decode cL_order 6 = .ok (.astore_n 2, 1) := by decide +kernel
theorem dL_order_7 : decode cL_order 7 = .ok (.bipush (-11), 2) := by decide +kernel
theorem dL_order_9 : decode cL_order 9 = .ok (.ireturn, 1) := by decide +kernel
set_option maxRecDepth 20000 in
theorem ggL_isCache_X1_time : GoodIn wsL_isCache wsX1_time := goodIn_r _ [6, 7, 155, 156, 157, 158, 159, 160, 161, 162, 163, 164, 165, 166, 167] (by decide +kernel) (by decide +kernel)
set_option maxRecDepth 20000 in
theorem gL_isCache_X1_time : GoodIn wsL_isCache (wsV RL 66 RX1 yX1_time wsX1_time) := goodIn_app (goodIn_of _ (by decide +kernel)) ggL_isCache_X1_time
set_option maxRecDepth 20000 in
theorem ggL_isCache_X1_capacity : GoodIn wsL_isCache wsX1_capacity := goodIn_r _ [11, 12, 155, 156, 157, 158, 159, 160, 161, 162, 163, 164, 165, 166, 167] (by decide +kernel) (by decide +kernel)
set_option maxRecDepth 20000 in
theorem gL_isCache_X1_capacity : GoodIn wsL_isCache (wsV RL 70 RX1 yX1_capacity wsX1_capacity) := goodIn_app (goodIn_of _ (by decide +kernel)) ggL_isCache_X1_capacity
set_option maxRecDepth 20000 in
theorem ggL_isCache_X1_hits : GoodIn wsL_isCache wsX1_hits := goodIn_r _ [16, 17, 155, 156, 157, 158, 159, 160, 161, 162, 163, 164, 165, 166, 167] (by decide +kernel) (by decide +kernel)
set_option maxRecDepth 20000 in
theorem gL_isCache_X1_hits : GoodIn wsL_isCache (wsV RL 73 RX1 yX1_hits wsX1_hits) := goodIn_app (goodIn_of _ (by decide +kernel)) ggL_isCache_X1_hits
set_option maxRecDepth 20000 in
theorem ggL_isCache_X1_misses : GoodIn wsL_isCache wsX1_misses := goodIn_r _ [21, 22, 155, 156, 157, 158, 159, 160, 161, 162, 163, 164, 165, 166, 167] (by decide +kernel) (by decide +kernel)
set_option maxRecDepth 20000 in
theorem gL_isCache_X1_misses : GoodIn wsL_isCache (wsV RL 76 RX1 yX1_misses wsX1_misses) := goodIn_app (goodIn_of _ (by decide +kernel)) ggL_isCache_X1_misses
set_option maxRecDepth 20000 in
theorem ggL_isCache_X1_left : GoodIn wsL_isCache wsX1_left := goodIn_r _ [26, 27, 155, 156, 157, 158, 159, 160, 161, 162, 163, 164, 165, 166, 167] (by decide +kernel) (by decide +kernel)
set_option maxRecDepth 20000 in
theorem gL_isCache_X1_left : GoodIn wsL_isCache (wsV RL 79 RX1 yX1_left wsX1_left) := goodIn_app (goodIn_of _ (by decide +kernel)) ggL_isCache_X1_left
set_option maxRecDepth 20000 in
theorem ggL_isCache_X1_removedOver : GoodIn wsL_isCache wsX1_removedOver := goodIn_r _ [31, 32, 155, 156, 157, 158, 159, 160, 161, 162, 163, 164, 165, 166, 167] (by decide +kernel) (by decide +kernel)
set_option maxRecDepth 20000 in
theorem gL_isCache_X1_removedOver : GoodIn wsL_isCache (wsV RL 82 RX1 yX1_removedOver wsX1_removedOver) := goodIn_app (goodIn_of _ (by decide +kernel)) ggL_isCache_X1_removedOver
set_option maxRecDepth 20000 in
theorem ggL_isCache_X1_clock : GoodIn wsL_isCache wsX1_clock := goodIn_r _ [36, 37, 155, 156, 157, 158, 159, 160, 161, 162, 163, 164, 165, 166, 167] (by decide +kernel) (by decide +kernel)
set_option maxRecDepth 20000 in
theorem gL_isCache_X1_clock : GoodIn wsL_isCache (wsV RL 85 RX1 yX1_clock wsX1_clock) := goodIn_app (goodIn_of _ (by decide +kernel)) ggL_isCache_X1_clock
set_option maxRecDepth 20000 in
theorem ggL_isCache_X1_bytesHit : GoodIn wsL_isCache wsX1_bytesHit := goodIn_r _ [41, 42, 155, 156, 157, 158, 159, 160, 161, 162, 163, 164, 165, 166, 167] (by decide +kernel) (by decide +kernel)
set_option maxRecDepth 20000 in
theorem gL_isCache_X1_bytesHit : GoodIn wsL_isCache (wsV RL 89 RX1 yX1_bytesHit wsX1_bytesHit) := goodIn_app (goodIn_of _ (by decide +kernel)) ggL_isCache_X1_bytesHit
set_option maxRecDepth 20000 in
theorem ggL_isCache_X1_saved : GoodIn wsL_isCache wsX1_saved := goodIn_r _ [46, 47, 155, 156, 157, 158, 159, 160, 161, 162, 163, 164, 165, 166, 167] (by decide +kernel) (by decide +kernel)
set_option maxRecDepth 20000 in
theorem gL_isCache_X1_saved : GoodIn wsL_isCache (wsV RL 92 RX1 yX1_saved wsX1_saved) := goodIn_app (goodIn_of _ (by decide +kernel)) ggL_isCache_X1_saved
set_option maxRecDepth 20000 in
theorem ggL_isCache_X1_paid : GoodIn wsL_isCache wsX1_paid := goodIn_r _ [51, 52, 155, 156, 157, 158, 159, 160, 161, 162, 163, 164, 165, 166, 167] (by decide +kernel) (by decide +kernel)
set_option maxRecDepth 20000 in
theorem gL_isCache_X1_paid : GoodIn wsL_isCache (wsV RL 95 RX1 yX1_paid wsX1_paid) := goodIn_app (goodIn_of _ (by decide +kernel)) ggL_isCache_X1_paid
set_option maxRecDepth 20000 in
theorem ggL_isCache_X1_used : GoodIn wsL_isCache wsX1_used := goodIn_r _ [56, 57, 155, 156, 157, 158, 159, 160, 161, 162, 163, 164, 165, 166, 167, 168, 169, 170, 171, 172, 173, 174, 175, 176] (by decide +kernel) (by decide +kernel)
set_option maxRecDepth 20000 in
theorem gL_isCache_X1_used : GoodIn wsL_isCache (wsV RL 98 RX1 yX1_used wsX1_used) := goodIn_app (goodIn_of _ (by decide +kernel)) ggL_isCache_X1_used
set_option maxRecDepth 20000 in
theorem ggL_isCache_L_used : GoodIn wsL_isCache wsL_used := goodIn_r _ [61] (by decide +kernel) (by decide +kernel)
set_option maxRecDepth 20000 in
theorem gL_isCache_L_used : GoodIn wsL_isCache (va_wsS RL 27 yL_used wsL_used) := goodIn_app (goodIn_of _ (by decide +kernel)) ggL_isCache_L_used
set_option maxRecDepth 20000 in
theorem ggL_isCache_X1_has : GoodIn wsL_isCache wsX1_has := goodIn_ca (goodIn_r _ [65, 66, 67, 68, 5, 69, 70, 71, 57, 168, 169, 170, 171, 172, 173, 174, 175, 176, 155, 156, 157, 158, 159, 160, 161, 162, 163, 164, 165, 166, 167] (by decide +kernel) (by decide +kernel)) (goodIn_sub (fun _ h => List.mem_cons_of_mem _ (List.mem_append_left _ (List.mem_append_right _ h))) (by decide +kernel))
set_option maxRecDepth 20000 in
theorem gL_isCache_X1_has : GoodIn wsL_isCache (wsV RL 100 RX1 yX1_has wsX1_has) := goodIn_app (goodIn_of _ (by decide +kernel)) ggL_isCache_X1_has
set_option maxRecDepth 20000 in
theorem ggL_isCache_X1_isOver : GoodIn wsL_isCache wsX1_isOver := goodIn_ca (goodIn_r _ [75, 66, 67, 68, 5, 69, 70, 71, 57, 76, 77, 78, 79, 7, 168, 169, 170, 171, 172, 173, 174, 175, 176, 155, 156, 157, 158, 159, 160, 161, 162, 163, 164, 165, 166, 167] (by decide +kernel) (by decide +kernel)) (goodIn_sub (fun _ h => List.mem_cons_of_mem _ (List.mem_append_left _ (List.mem_append_right _ h))) (by decide +kernel))
set_option maxRecDepth 20000 in
theorem gL_isCache_X1_isOver : GoodIn wsL_isCache (wsV RL 104 RX1 yX1_isOver wsX1_isOver) := goodIn_app (goodIn_of _ (by decide +kernel)) ggL_isCache_X1_isOver
set_option maxRecDepth 20000 in
theorem ggL_isCache_X1_sizeOf : GoodIn wsL_isCache wsX1_sizeOf := goodIn_ca (goodIn_r _ [83, 66, 67, 68, 5, 69, 70, 71, 57, 168, 169, 170, 171, 172, 173, 174, 175, 176, 155, 156, 157, 158, 159, 160, 161, 162, 163, 164, 165, 166, 167] (by decide +kernel) (by decide +kernel)) (goodIn_sub (fun _ h => List.mem_cons_of_mem _ (List.mem_append_left _ (List.mem_append_right _ h))) (by decide +kernel))
set_option maxRecDepth 20000 in
theorem gL_isCache_X1_sizeOf : GoodIn wsL_isCache (wsV RL 107 RX1 yX1_sizeOf wsX1_sizeOf) := goodIn_app (goodIn_of _ (by decide +kernel)) ggL_isCache_X1_sizeOf
set_option maxRecDepth 20000 in
theorem ggL_isCache_X1_frequencyOf : GoodIn wsL_isCache wsX1_frequencyOf := goodIn_ca (goodIn_r _ [87, 66, 67, 68, 5, 69, 70, 71, 57, 168, 169, 170, 171, 172, 173, 174, 175, 176, 155, 156, 157, 158, 159, 160, 161, 162, 163, 164, 165, 166, 167] (by decide +kernel) (by decide +kernel)) (goodIn_sub (fun _ h => List.mem_cons_of_mem _ (List.mem_append_left _ (List.mem_append_right _ h))) (by decide +kernel))
set_option maxRecDepth 20000 in
theorem gL_isCache_X1_frequencyOf : GoodIn wsL_isCache (wsV RL 110 RX1 yX1_frequencyOf wsX1_frequencyOf) := goodIn_app (goodIn_of _ (by decide +kernel)) ggL_isCache_X1_frequencyOf
set_option maxRecDepth 20000 in
theorem ggL_isCache_X1_worthOf : GoodIn wsL_isCache wsX1_worthOf := goodIn_ca (goodIn_r _ [91, 92, 66, 67, 68, 5, 69, 70, 71, 57, 168, 169, 170, 171, 172, 173, 174, 175, 176, 155, 156, 157, 158, 159, 160, 161, 162, 163, 164, 165, 166, 167] (by decide +kernel) (by decide +kernel)) (goodIn_sub (fun _ h => List.mem_cons_of_mem _ (List.mem_append_left _ (List.mem_append_right _ h))) (by decide +kernel))
set_option maxRecDepth 20000 in
theorem gL_isCache_X1_worthOf : GoodIn wsL_isCache (wsV RL 113 RX1 yX1_worthOf wsX1_worthOf) := goodIn_app (goodIn_of _ (by decide +kernel)) ggL_isCache_X1_worthOf
set_option maxRecDepth 20000 in
theorem ggL_isCache_X1_endOf : GoodIn wsL_isCache wsX1_endOf := goodIn_ca (goodIn_r _ [96, 66, 67, 68, 5, 69, 70, 71, 57, 168, 169, 170, 171, 172, 173, 174, 175, 176, 155, 156, 157, 158, 159, 160, 161, 162, 163, 164, 165, 166, 167] (by decide +kernel) (by decide +kernel)) (goodIn_sub (fun _ h => List.mem_cons_of_mem _ (List.mem_append_left _ (List.mem_append_right _ h))) (by decide +kernel))
set_option maxRecDepth 20000 in
theorem gL_isCache_X1_endOf : GoodIn wsL_isCache (wsV RL 119 RX1 yX1_endOf wsX1_endOf) := goodIn_app (goodIn_of _ (by decide +kernel)) ggL_isCache_X1_endOf
set_option maxRecDepth 20000 in
theorem ggL_isCache_X1_placeOf : GoodIn wsL_isCache wsX1_placeOf := goodIn_ca (goodIn_r _ [100, 57, 66, 67, 68, 5, 69, 70, 71, 101, 102, 103, 104, 105, 106, 155, 156, 157, 158, 159, 160, 161, 162, 163, 164, 165, 166, 167, 168, 169, 170, 171, 172, 173, 174, 175, 176] (by decide +kernel) (by decide +kernel)) (goodIn_sub (fun _ h => List.mem_cons_of_mem _ (List.mem_append_left _ (List.mem_append_right _ h))) (by decide +kernel))
set_option maxRecDepth 20000 in
theorem gL_isCache_X1_placeOf : GoodIn wsL_isCache (wsV RL 122 RX1 yX1_placeOf wsX1_placeOf) := goodIn_app (goodIn_of _ (by decide +kernel)) ggL_isCache_X1_placeOf
set_option maxRecDepth 20000 in
theorem ggL_isCache_L_order : GoodIn wsL_isCache wsL_order := goodIn_ca (goodIn_r _ [109, 110, 111, 112, 113, 5, 114, 70, 71, 115, 116, 117, 118, 119, 120, 121, 122, 57, 104, 105, 106, 101, 102, 103, 168, 169, 170, 171, 172, 173, 174, 175, 176, 155, 156, 157, 158, 159, 160, 161, 162, 163, 164, 165, 166, 167] (by decide +kernel) (by decide +kernel)) (goodIn_sub (fun _ h => List.mem_cons_of_mem _ (List.mem_append_left _ (List.mem_append_right _ h))) (by decide +kernel))
set_option maxRecDepth 20000 in
theorem gL_isCache_L_order : GoodIn wsL_isCache (va_wsS RL 125 yL_order wsL_order) := goodIn_app (goodIn_of _ (by decide +kernel)) ggL_isCache_L_order
set_option maxRecDepth 20000 in
theorem ggL_isCache_X1_entries : GoodIn wsL_isCache wsX1_entries := goodIn_r _ [126, 57, 155, 156, 157, 158, 159, 160, 161, 162, 163, 164, 165, 166, 167, 168, 169, 170, 171, 172, 173, 174, 175, 176] (by decide +kernel) (by decide +kernel)
set_option maxRecDepth 20000 in
theorem gL_isCache_X1_entries : GoodIn wsL_isCache (wsV RL 129 RX1 yX1_entries wsX1_entries) := goodIn_app (goodIn_of _ (by decide +kernel)) ggL_isCache_X1_entries
set_option maxRecDepth 20000 in
theorem ggL_isCache_X1_endsFirst : GoodIn wsL_isCache wsX1_endsFirst := goodIn_r _ [130, 57, 155, 156, 157, 158, 159, 160, 161, 162, 163, 164, 165, 166, 167, 168, 169, 170, 171, 172, 173, 174, 175, 176] (by decide +kernel) (by decide +kernel)
set_option maxRecDepth 20000 in
theorem gL_isCache_X1_endsFirst : GoodIn wsL_isCache (wsV RL 132 RX1 yX1_endsFirst wsX1_endsFirst) := goodIn_app (goodIn_of _ (by decide +kernel)) ggL_isCache_X1_endsFirst
set_option maxRecDepth 20000 in
theorem ggL_isCache_X1_wouldLeave : GoodIn wsL_isCache wsX1_wouldLeave := goodIn_ca (goodIn_r _ [134, 12, 135, 136, 5, 137, 138, 139, 140, 141, 142, 143, 57, 76, 77, 78, 79, 7, 144, 145, 146, 147, 148, 149, 150, 151, 115, 116, 117, 118, 119, 120, 121, 122, 104, 105, 106, 101, 102, 103, 155, 156, 157, 158, 159, 160, 161, 162, 163, 164, 165, 166, 167, 168, 169, 170, 171, 172, 173, 174, 175, 176] (by decide +kernel) (by decide +kernel)) (goodIn_sub (fun _ h => List.mem_cons_of_mem _ (List.mem_append_right _ h)) (by decide +kernel))
set_option maxRecDepth 20000 in
theorem gL_isCache_X1_wouldLeave : GoodIn wsL_isCache (wsV RL 135 RX1 yX1_wouldLeave wsX1_wouldLeave) := goodIn_app (goodIn_of _ (by decide +kernel)) ggL_isCache_X1_wouldLeave
set_option maxRecDepth 20000 in
theorem ggL_isCache_L_would : GoodIn wsL_isCache wsL_would := goodIn_r _ [154, 58, 59, 60, 61] (by decide +kernel) (by decide +kernel)
set_option maxRecDepth 20000 in
theorem gL_isCache_L_would : GoodIn wsL_isCache (va_wsS RL 138 yL_would wsL_would) := goodIn_app (goodIn_of _ (by decide +kernel)) ggL_isCache_L_would
theorem dL_isCache_0 : decode cL_isCache 0 = .ok (.iconst 0, 1) := by decide +kernel
theorem dL_isCache_1 : decode cL_isCache 1 = .ok (.istore 10, 2) := by decide +kernel
theorem dL_isCache_3 : decode cL_isCache 3 = .ok (.iconst (-1), 1) := by decide +kernel
theorem dL_isCache_4 : decode cL_isCache 4 = .ok (.istore 11, 2) := by decide +kernel
theorem dL_isCache_6 : decode cL_isCache 6 = .ok (.aload_n 0, 1) := by decide +kernel
theorem dL_isCache_7 : decode cL_isCache 7 = .ok (.invokevirtual 66, 3) := by decide +kernel
theorem dL_isCache_10 : decode cL_isCache 10 = .ok (.aload 6, 2) := by decide +kernel
theorem dL_isCache_12 : decode cL_isCache 12 = .ok (.iconst 0, 1) := by decide +kernel
theorem dL_isCache_13 : decode cL_isCache 13 = .ok (.iaload, 1) := by decide +kernel
theorem dL_isCache_14 : decode cL_isCache 14 = .ok (.if_icmp .ne 123, 3) := by decide +kernel
theorem dL_isCache_17 : decode cL_isCache 17 = .ok (.aload_n 0, 1) := by decide +kernel
theorem dL_isCache_18 : decode cL_isCache 18 = .ok (.invokevirtual 70, 3) := by decide +kernel
theorem dL_isCache_21 : decode cL_isCache 21 = .ok (.aload 6, 2) := by decide +kernel
theorem dL_isCache_23 : decode cL_isCache 23 = .ok (.iconst 1, 1) := by decide +kernel
theorem dL_isCache_24 : decode cL_isCache 24 = .ok (.iaload, 1) := by decide +kernel
theorem dL_isCache_25 : decode cL_isCache 25 = .ok (.if_icmp .ne 112, 3) := by decide +kernel
theorem dL_isCache_28 : decode cL_isCache 28 = .ok (.aload_n 0, 1) := by decide +kernel
theorem dL_isCache_29 : decode cL_isCache 29 = .ok (.invokevirtual 73, 3) := by decide +kernel
theorem dL_isCache_32 : decode cL_isCache 32 = .ok (.aload 6, 2) := by decide +kernel
theorem dL_isCache_34 : decode cL_isCache 34 = .ok (.iconst 4, 1) := by decide +kernel
theorem dL_isCache_35 : decode cL_isCache 35 = .ok (.iaload, 1) := by decide +kernel
theorem dL_isCache_36 : decode cL_isCache 36 = .ok (.if_icmp .ne 101, 3) := by decide +kernel
theorem dL_isCache_39 : decode cL_isCache 39 = .ok (.aload_n 0, 1) := by decide +kernel
theorem dL_isCache_40 : decode cL_isCache 40 = .ok (.invokevirtual 76, 3) := by decide +kernel
theorem dL_isCache_43 : decode cL_isCache 43 = .ok (.aload 6, 2) := by decide +kernel
theorem dL_isCache_45 : decode cL_isCache 45 = .ok (.iconst 5, 1) := by decide +kernel
theorem dL_isCache_46 : decode cL_isCache 46 = .ok (.iaload, 1) := by decide +kernel
theorem dL_isCache_47 : decode cL_isCache 47 = .ok (.if_icmp .ne 90, 3) := by decide +kernel
theorem dL_isCache_50 : decode cL_isCache 50 = .ok (.aload_n 0, 1) := by decide +kernel
theorem dL_isCache_51 : decode cL_isCache 51 = .ok (.invokevirtual 79, 3) := by decide +kernel
theorem dL_isCache_54 : decode cL_isCache 54 = .ok (.aload 6, 2) := by decide +kernel
theorem dL_isCache_56 : decode cL_isCache 56 = .ok (.bipush 6, 2) := by decide +kernel
theorem dL_isCache_58 : decode cL_isCache 58 = .ok (.iaload, 1) := by decide +kernel
theorem dL_isCache_59 : decode cL_isCache 59 = .ok (.if_icmp .ne 78, 3) := by decide +kernel
theorem dL_isCache_62 : decode cL_isCache 62 = .ok (.aload_n 0, 1) := by decide +kernel
theorem dL_isCache_63 : decode cL_isCache 63 = .ok (.invokevirtual 82, 3) := by decide +kernel
theorem dL_isCache_66 : decode cL_isCache 66 = .ok (.aload 6, 2) := by decide +kernel
theorem dL_isCache_68 : decode cL_isCache 68 = .ok (.bipush 7, 2) := by decide +kernel
theorem dL_isCache_70 : decode cL_isCache 70 = .ok (.iaload, 1) := by decide +kernel
theorem dL_isCache_71 : decode cL_isCache 71 = .ok (.if_icmp .ne 66, 3) := by decide +kernel
theorem dL_isCache_74 : decode cL_isCache 74 = .ok (.aload_n 0, 1) := by decide +kernel
theorem dL_isCache_75 : decode cL_isCache 75 = .ok (.invokevirtual 85, 3) := by decide +kernel
theorem dL_isCache_78 : decode cL_isCache 78 = .ok (.aload 8, 2) := by decide +kernel
theorem dL_isCache_80 : decode cL_isCache 80 = .ok (.iconst 0, 1) := by decide +kernel
theorem dL_isCache_81 : decode cL_isCache 81 = .ok (.laload, 1) := by decide +kernel
theorem dL_isCache_82 : decode cL_isCache 82 = .ok (.lcmp, 1) := by decide +kernel
theorem dL_isCache_83 : decode cL_isCache 83 = .ok (.ifCond .ne 54, 3) := by decide +kernel
theorem dL_isCache_86 : decode cL_isCache 86 = .ok (.aload_n 0, 1) := by decide +kernel
theorem dL_isCache_87 : decode cL_isCache 87 = .ok (.invokevirtual 89, 3) := by decide +kernel
theorem dL_isCache_90 : decode cL_isCache 90 = .ok (.aload 8, 2) := by decide +kernel
theorem dL_isCache_92 : decode cL_isCache 92 = .ok (.iconst 1, 1) := by decide +kernel
theorem dL_isCache_93 : decode cL_isCache 93 = .ok (.laload, 1) := by decide +kernel
theorem dL_isCache_94 : decode cL_isCache 94 = .ok (.lcmp, 1) := by decide +kernel
theorem dL_isCache_95 : decode cL_isCache 95 = .ok (.ifCond .ne 42, 3) := by decide +kernel
theorem dL_isCache_98 : decode cL_isCache 98 = .ok (.aload_n 0, 1) := by decide +kernel
theorem dL_isCache_99 : decode cL_isCache 99 = .ok (.invokevirtual 92, 3) := by decide +kernel
theorem dL_isCache_102 : decode cL_isCache 102 = .ok (.aload 8, 2) := by decide +kernel
theorem dL_isCache_104 : decode cL_isCache 104 = .ok (.iconst 2, 1) := by decide +kernel
theorem dL_isCache_105 : decode cL_isCache 105 = .ok (.laload, 1) := by decide +kernel
theorem dL_isCache_106 : decode cL_isCache 106 = .ok (.lcmp, 1) := by decide +kernel
theorem dL_isCache_107 : decode cL_isCache 107 = .ok (.ifCond .ne 30, 3) := by decide +kernel
theorem dL_isCache_110 : decode cL_isCache 110 = .ok (.aload_n 0, 1) := by decide +kernel
theorem dL_isCache_111 : decode cL_isCache 111 = .ok (.invokevirtual 95, 3) := by decide +kernel
theorem dL_isCache_114 : decode cL_isCache 114 = .ok (.aload 8, 2) := by decide +kernel
theorem dL_isCache_116 : decode cL_isCache 116 = .ok (.iconst 3, 1) := by decide +kernel
theorem dL_isCache_117 : decode cL_isCache 117 = .ok (.laload, 1) := by decide +kernel
theorem dL_isCache_118 : decode cL_isCache 118 = .ok (.lcmp, 1) := by decide +kernel
theorem dL_isCache_119 : decode cL_isCache 119 = .ok (.ifCond .ne 18, 3) := by decide +kernel
theorem dL_isCache_122 : decode cL_isCache 122 = .ok (.aload_n 0, 1) := by decide +kernel
theorem dL_isCache_123 : decode cL_isCache 123 = .ok (.invokevirtual 98, 3) := by decide +kernel
theorem dL_isCache_126 : decode cL_isCache 126 = .ok (.aload_n 1, 1) := by decide +kernel
theorem dL_isCache_127 : decode cL_isCache 127 = .ok (.invokestatic 27, 3) := by decide +kernel
theorem dL_isCache_130 : decode cL_isCache 130 = .ok (.if_icmp .ne 7, 3) := by decide +kernel
theorem dL_isCache_133 : decode cL_isCache 133 = .ok (.iconst 1, 1) := by decide +kernel
theorem dL_isCache_134 : decode cL_isCache 134 = .ok (.goto 4, 3) := by decide +kernel
theorem dL_isCache_137 : decode cL_isCache 137 = .ok (.iconst 0, 1) := by decide +kernel
theorem dL_isCache_138 : decode cL_isCache 138 = .ok (.istore 12, 2) := by decide +kernel
theorem dL_isCache_140 : decode cL_isCache 140 = .ok (.iconst 0, 1) := by decide +kernel
theorem dL_isCache_141 : decode cL_isCache 141 = .ok (.istore 13, 2) := by decide +kernel
theorem dL_isCache_143 : decode cL_isCache 143 = .ok (.iload 13, 2) := by decide +kernel
theorem dL_isCache_145 : decode cL_isCache 145 = .ok (.bipush 32, 2) := by decide +kernel
theorem dL_isCache_147 : decode cL_isCache 147 = .ok (.if_icmp .ge 283, 3) := by decide +kernel
theorem dL_isCache_150 : decode cL_isCache 150 = .ok (.iload 12, 2) := by decide +kernel
theorem dL_isCache_152 : decode cL_isCache 152 = .ok (.ifCond .eq 278, 3) := by decide +kernel
theorem dL_isCache_155 : decode cL_isCache 155 = .ok (.aload_n 1, 1) := by decide +kernel
theorem dL_isCache_156 : decode cL_isCache 156 = .ok (.iload 13, 2) := by decide +kernel
theorem dL_isCache_158 : decode cL_isCache 158 = .ok (.iaload, 1) := by decide +kernel
theorem dL_isCache_159 : decode cL_isCache 159 = .ok (.ifCond .le 7, 3) := by decide +kernel
theorem dL_isCache_162 : decode cL_isCache 162 = .ok (.iconst 1, 1) := by decide +kernel
theorem dL_isCache_163 : decode cL_isCache 163 = .ok (.goto 4, 3) := by decide +kernel
theorem dL_isCache_166 : decode cL_isCache 166 = .ok (.iconst 0, 1) := by decide +kernel
theorem dL_isCache_167 : decode cL_isCache 167 = .ok (.istore 14, 2) := by decide +kernel
theorem dL_isCache_169 : decode cL_isCache 169 = .ok (.iload 10, 2) := by decide +kernel
theorem dL_isCache_171 : decode cL_isCache 171 = .ok (.iload 14, 2) := by decide +kernel
theorem dL_isCache_173 : decode cL_isCache 173 = .ok (.ifCond .eq 7, 3) := by decide +kernel
theorem dL_isCache_176 : decode cL_isCache 176 = .ok (.iconst 1, 1) := by decide +kernel
theorem dL_isCache_177 : decode cL_isCache 177 = .ok (.goto 4, 3) := by decide +kernel
theorem dL_isCache_180 : decode cL_isCache 180 = .ok (.iconst 0, 1) := by decide +kernel
theorem dL_isCache_181 : decode cL_isCache 181 = .ok (.iadd, 1) := by decide +kernel
theorem dL_isCache_182 : decode cL_isCache 182 = .ok (.istore 10, 2) := by decide +kernel
theorem dL_isCache_184 : decode cL_isCache 184 = .ok (.iload 14, 2) := by decide +kernel
theorem dL_isCache_186 : decode cL_isCache 186 = .ok (.ifCond .eq 24, 3) := by decide +kernel
theorem dL_isCache_189 : decode cL_isCache 189 = .ok (.iload 11, 2) := by decide +kernel
theorem dL_isCache_191 : decode cL_isCache 191 = .ok (.ifCond .lt 14, 3) := by decide +kernel
theorem dL_isCache_194 : decode cL_isCache 194 = .ok (.aload_n 3, 1) := by decide +kernel
theorem dL_isCache_195 : decode cL_isCache 195 = .ok (.iload 13, 2) := by decide +kernel
theorem dL_isCache_197 : decode cL_isCache 197 = .ok (.iaload, 1) := by decide +kernel
theorem dL_isCache_198 : decode cL_isCache 198 = .ok (.aload_n 3, 1) := by decide +kernel
theorem dL_isCache_199 : decode cL_isCache 199 = .ok (.iload 11, 2) := by decide +kernel
theorem dL_isCache_201 : decode cL_isCache 201 = .ok (.iaload, 1) := by decide +kernel
theorem dL_isCache_202 : decode cL_isCache 202 = .ok (.if_icmp .ge 8, 3) := by decide +kernel
theorem dL_isCache_205 : decode cL_isCache 205 = .ok (.iload 13, 2) := by decide +kernel
theorem dL_isCache_207 : decode cL_isCache 207 = .ok (.goto 5, 3) := by decide +kernel
theorem dL_isCache_210 : decode cL_isCache 210 = .ok (.iload 11, 2) := by decide +kernel
theorem dL_isCache_212 : decode cL_isCache 212 = .ok (.istore 11, 2) := by decide +kernel
theorem dL_isCache_214 : decode cL_isCache 214 = .ok (.iconst (-1), 1) := by decide +kernel
theorem dL_isCache_215 : decode cL_isCache 215 = .ok (.istore 15, 2) := by decide +kernel
theorem dL_isCache_217 : decode cL_isCache 217 = .ok (.iconst 0, 1) := by decide +kernel
theorem dL_isCache_218 : decode cL_isCache 218 = .ok (.istore 16, 2) := by decide +kernel
theorem dL_isCache_220 : decode cL_isCache 220 = .ok (.iload 16, 2) := by decide +kernel
theorem dL_isCache_222 : decode cL_isCache 222 = .ok (.aload 6, 2) := by decide +kernel
theorem dL_isCache_224 : decode cL_isCache 224 = .ok (.iconst 3, 1) := by decide +kernel
theorem dL_isCache_225 : decode cL_isCache 225 = .ok (.iaload, 1) := by decide +kernel
theorem dL_isCache_226 : decode cL_isCache 226 = .ok (.if_icmp .ge 28, 3) := by decide +kernel
theorem dL_isCache_229 : decode cL_isCache 229 = .ok (.aload 5, 2) := by decide +kernel
theorem dL_isCache_231 : decode cL_isCache 231 = .ok (.iload 16, 2) := by decide +kernel
theorem dL_isCache_233 : decode cL_isCache 233 = .ok (.iaload, 1) := by decide +kernel
theorem dL_isCache_234 : decode cL_isCache 234 = .ok (.iload 13, 2) := by decide +kernel
theorem dL_isCache_236 : decode cL_isCache 236 = .ok (.if_icmp .ne 8, 3) := by decide +kernel
theorem dL_isCache_239 : decode cL_isCache 239 = .ok (.iload 16, 2) := by decide +kernel
theorem dL_isCache_241 : decode cL_isCache 241 = .ok (.goto 5, 3) := by decide +kernel
theorem dL_isCache_244 : decode cL_isCache 244 = .ok (.iload 15, 2) := by decide +kernel
theorem dL_isCache_246 : decode cL_isCache 246 = .ok (.istore 15, 2) := by decide +kernel
theorem dL_isCache_248 : decode cL_isCache 248 = .ok (.iinc 16 1, 3) := by decide +kernel
theorem dL_isCache_251 : decode cL_isCache 251 = .ok (.goto (-31), 3) := by decide +kernel
theorem dL_isCache_254 : decode cL_isCache 254 = .ok (.aload_n 0, 1) := by decide +kernel
theorem dL_isCache_255 : decode cL_isCache 255 = .ok (.iload 13, 2) := by decide +kernel
theorem dL_isCache_257 : decode cL_isCache 257 = .ok (.invokevirtual 100, 3) := by decide +kernel
theorem dL_isCache_260 : decode cL_isCache 260 = .ok (.iload 14, 2) := by decide +kernel
theorem dL_isCache_262 : decode cL_isCache 262 = .ok (.if_icmp .ne 159, 3) := by decide +kernel
theorem dL_isCache_265 : decode cL_isCache 265 = .ok (.aload_n 0, 1) := by decide +kernel
theorem dL_isCache_266 : decode cL_isCache 266 = .ok (.iload 13, 2) := by decide +kernel
theorem dL_isCache_268 : decode cL_isCache 268 = .ok (.invokevirtual 104, 3) := by decide +kernel
theorem dL_isCache_271 : decode cL_isCache 271 = .ok (.iload 14, 2) := by decide +kernel
theorem dL_isCache_273 : decode cL_isCache 273 = .ok (.ifCond .eq 18, 3) := by decide +kernel
theorem dL_isCache_276 : decode cL_isCache 276 = .ok (.aload_n 3, 1) := by decide +kernel
theorem dL_isCache_277 : decode cL_isCache 277 = .ok (.iload 13, 2) := by decide +kernel
theorem dL_isCache_279 : decode cL_isCache 279 = .ok (.iaload, 1) := by decide +kernel
theorem dL_isCache_280 : decode cL_isCache 280 = .ok (.aload 6, 2) := by decide +kernel
theorem dL_isCache_282 : decode cL_isCache 282 = .ok (.iconst 0, 1) := by decide +kernel
theorem dL_isCache_283 : decode cL_isCache 283 = .ok (.iaload, 1) := by decide +kernel
theorem dL_isCache_284 : decode cL_isCache 284 = .ok (.if_icmp .gt 7, 3) := by decide +kernel
theorem dL_isCache_287 : decode cL_isCache 287 = .ok (.iconst 1, 1) := by decide +kernel
theorem dL_isCache_288 : decode cL_isCache 288 = .ok (.goto 4, 3) := by decide +kernel
theorem dL_isCache_291 : decode cL_isCache 291 = .ok (.iconst 0, 1) := by decide +kernel
theorem dL_isCache_292 : decode cL_isCache 292 = .ok (.if_icmp .ne 129, 3) := by decide +kernel
theorem dL_isCache_295 : decode cL_isCache 295 = .ok (.aload_n 0, 1) := by decide +kernel
theorem dL_isCache_296 : decode cL_isCache 296 = .ok (.iload 13, 2) := by decide +kernel
theorem dL_isCache_298 : decode cL_isCache 298 = .ok (.invokevirtual 107, 3) := by decide +kernel
theorem dL_isCache_301 : decode cL_isCache 301 = .ok (.aload_n 1, 1) := by decide +kernel
theorem dL_isCache_302 : decode cL_isCache 302 = .ok (.iload 13, 2) := by decide +kernel
theorem dL_isCache_304 : decode cL_isCache 304 = .ok (.iaload, 1) := by decide +kernel
theorem dL_isCache_305 : decode cL_isCache 305 = .ok (.if_icmp .ne 116, 3) := by decide +kernel
theorem dL_isCache_308 : decode cL_isCache 308 = .ok (.aload_n 0, 1) := by decide +kernel
theorem dL_isCache_309 : decode cL_isCache 309 = .ok (.iload 13, 2) := by decide +kernel
theorem dL_isCache_311 : decode cL_isCache 311 = .ok (.invokevirtual 110, 3) := by decide +kernel
theorem dL_isCache_314 : decode cL_isCache 314 = .ok (.iload 14, 2) := by decide +kernel
theorem dL_isCache_316 : decode cL_isCache 316 = .ok (.ifCond .eq 10, 3) := by decide +kernel
theorem dL_isCache_319 : decode cL_isCache 319 = .ok (.aload_n 2, 1) := by decide +kernel
theorem dL_isCache_320 : decode cL_isCache 320 = .ok (.iload 13, 2) := by decide +kernel
theorem dL_isCache_322 : decode cL_isCache 322 = .ok (.iaload, 1) := by decide +kernel
theorem dL_isCache_323 : decode cL_isCache 323 = .ok (.goto 4, 3) := by decide +kernel
theorem dL_isCache_326 : decode cL_isCache 326 = .ok (.iconst 0, 1) := by decide +kernel
theorem dL_isCache_327 : decode cL_isCache 327 = .ok (.if_icmp .ne 94, 3) := by decide +kernel
theorem dL_isCache_330 : decode cL_isCache 330 = .ok (.aload_n 0, 1) := by decide +kernel
theorem dL_isCache_331 : decode cL_isCache 331 = .ok (.iload 13, 2) := by decide +kernel
theorem dL_isCache_333 : decode cL_isCache 333 = .ok (.invokevirtual 113, 3) := by decide +kernel
theorem dL_isCache_336 : decode cL_isCache 336 = .ok (.iload 14, 2) := by decide +kernel
theorem dL_isCache_338 : decode cL_isCache 338 = .ok (.ifCond .eq 11, 3) := by decide +kernel
theorem dL_isCache_341 : decode cL_isCache 341 = .ok (.aload 7, 2) := by decide +kernel
theorem dL_isCache_343 : decode cL_isCache 343 = .ok (.iload 13, 2) := by decide +kernel
theorem dL_isCache_345 : decode cL_isCache 345 = .ok (.laload, 1) := by decide +kernel
theorem dL_isCache_346 : decode cL_isCache 346 = .ok (.goto 6, 3) := by decide +kernel
theorem dL_isCache_349 : decode cL_isCache 349 = .ok (.ldc2_w 117, 3) := by decide +kernel
theorem dL_isCache_352 : decode cL_isCache 352 = .ok (.lcmp, 1) := by decide +kernel
theorem dL_isCache_353 : decode cL_isCache 353 = .ok (.ifCond .ne 68, 3) := by decide +kernel
theorem dL_isCache_356 : decode cL_isCache 356 = .ok (.aload_n 0, 1) := by decide +kernel
theorem dL_isCache_357 : decode cL_isCache 357 = .ok (.iload 13, 2) := by decide +kernel
theorem dL_isCache_359 : decode cL_isCache 359 = .ok (.invokevirtual 119, 3) := by decide +kernel
theorem dL_isCache_362 : decode cL_isCache 362 = .ok (.iload 14, 2) := by decide +kernel
theorem dL_isCache_364 : decode cL_isCache 364 = .ok (.ifCond .eq 10, 3) := by decide +kernel
theorem dL_isCache_367 : decode cL_isCache 367 = .ok (.aload_n 3, 1) := by decide +kernel
theorem dL_isCache_368 : decode cL_isCache 368 = .ok (.iload 13, 2) := by decide +kernel
theorem dL_isCache_370 : decode cL_isCache 370 = .ok (.iaload, 1) := by decide +kernel
theorem dL_isCache_371 : decode cL_isCache 371 = .ok (.goto 4, 3) := by decide +kernel
theorem dL_isCache_374 : decode cL_isCache 374 = .ok (.iconst (-1), 1) := by decide +kernel
theorem dL_isCache_375 : decode cL_isCache 375 = .ok (.if_icmp .ne 46, 3) := by decide +kernel
theorem dL_isCache_378 : decode cL_isCache 378 = .ok (.aload_n 0, 1) := by decide +kernel
theorem dL_isCache_379 : decode cL_isCache 379 = .ok (.iload 13, 2) := by decide +kernel
theorem dL_isCache_381 : decode cL_isCache 381 = .ok (.invokevirtual 122, 3) := by decide +kernel
theorem dL_isCache_384 : decode cL_isCache 384 = .ok (.iload 15, 2) := by decide +kernel
theorem dL_isCache_386 : decode cL_isCache 386 = .ok (.if_icmp .ne 35, 3) := by decide +kernel
theorem dL_isCache_389 : decode cL_isCache 389 = .ok (.aload_n 0, 1) := by decide +kernel
theorem dL_isCache_390 : decode cL_isCache 390 = .ok (.iload 13, 2) := by decide +kernel
theorem dL_isCache_392 : decode cL_isCache 392 = .ok (.invokestatic 125, 3) := by decide +kernel
theorem dL_isCache_395 : decode cL_isCache 395 = .ok (.iload 13, 2) := by decide +kernel
theorem dL_isCache_397 : decode cL_isCache 397 = .ok (.aload 6, 2) := by decide +kernel
theorem dL_isCache_399 : decode cL_isCache 399 = .ok (.iconst 3, 1) := by decide +kernel
theorem dL_isCache_400 : decode cL_isCache 400 = .ok (.iaload, 1) := by decide +kernel
theorem dL_isCache_401 : decode cL_isCache 401 = .ok (.if_icmp .ge 11, 3) := by decide +kernel
theorem dL_isCache_404 : decode cL_isCache 404 = .ok (.aload 5, 2) := by decide +kernel
theorem dL_isCache_406 : decode cL_isCache 406 = .ok (.iload 13, 2) := by decide +kernel
theorem dL_isCache_408 : decode cL_isCache 408 = .ok (.iaload, 1) := by decide +kernel
theorem dL_isCache_409 : decode cL_isCache 409 = .ok (.goto 5, 3) := by decide +kernel
theorem dL_isCache_412 : decode cL_isCache 412 = .ok (.bipush (-11), 2) := by decide +kernel
theorem dL_isCache_414 : decode cL_isCache 414 = .ok (.if_icmp .ne 7, 3) := by decide +kernel
theorem dL_isCache_417 : decode cL_isCache 417 = .ok (.iconst 1, 1) := by decide +kernel
theorem dL_isCache_418 : decode cL_isCache 418 = .ok (.goto 4, 3) := by decide +kernel
theorem dL_isCache_421 : decode cL_isCache 421 = .ok (.iconst 0, 1) := by decide +kernel
theorem dL_isCache_422 : decode cL_isCache 422 = .ok (.istore 12, 2) := by decide +kernel
theorem dL_isCache_424 : decode cL_isCache 424 = .ok (.iinc 13 1, 3) := by decide +kernel
theorem dL_isCache_427 : decode cL_isCache 427 = .ok (.goto (-284), 3) := by decide +kernel
theorem dL_isCache_430 : decode cL_isCache 430 = .ok (.iconst 1, 1) := by decide +kernel
theorem dL_isCache_431 : decode cL_isCache 431 = .ok (.iload 9, 2) := by decide +kernel
theorem dL_isCache_433 : decode cL_isCache 433 = .ok (.sipush 140, 3) := by decide +kernel
theorem dL_isCache_436 : decode cL_isCache 436 = .ok (.irem, 1) := by decide +kernel
theorem dL_isCache_437 : decode cL_isCache 437 = .ok (.iadd, 1) := by decide +kernel
theorem dL_isCache_438 : decode cL_isCache 438 = .ok (.istore 13, 2) := by decide +kernel
theorem dL_isCache_440 : decode cL_isCache 440 = .ok (.iload 12, 2) := by decide +kernel
theorem dL_isCache_442 : decode cL_isCache 442 = .ok (.ifCond .eq 47, 3) := by decide +kernel
theorem dL_isCache_445 : decode cL_isCache 445 = .ok (.aload_n 0, 1) := by decide +kernel
theorem dL_isCache_446 : decode cL_isCache 446 = .ok (.invokevirtual 129, 3) := by decide +kernel
theorem dL_isCache_449 : decode cL_isCache 449 = .ok (.iload 10, 2) := by decide +kernel
theorem dL_isCache_451 : decode cL_isCache 451 = .ok (.if_icmp .ne 38, 3) := by decide +kernel
theorem dL_isCache_454 : decode cL_isCache 454 = .ok (.aload_n 0, 1) := by decide +kernel
theorem dL_isCache_455 : decode cL_isCache 455 = .ok (.invokevirtual 132, 3) := by decide +kernel
theorem dL_isCache_458 : decode cL_isCache 458 = .ok (.iload 11, 2) := by decide +kernel
theorem dL_isCache_460 : decode cL_isCache 460 = .ok (.if_icmp .ne 29, 3) := by decide +kernel
theorem dL_isCache_463 : decode cL_isCache 463 = .ok (.aload_n 0, 1) := by decide +kernel
theorem dL_isCache_464 : decode cL_isCache 464 = .ok (.iload 13, 2) := by decide +kernel
theorem dL_isCache_466 : decode cL_isCache 466 = .ok (.invokevirtual 135, 3) := by decide +kernel
theorem dL_isCache_469 : decode cL_isCache 469 = .ok (.aload_n 1, 1) := by decide +kernel
theorem dL_isCache_470 : decode cL_isCache 470 = .ok (.aload_n 3, 1) := by decide +kernel
theorem dL_isCache_471 : decode cL_isCache 471 = .ok (.aload 4, 2) := by decide +kernel
theorem dL_isCache_473 : decode cL_isCache 473 = .ok (.aload 5, 2) := by decide +kernel
theorem dL_isCache_475 : decode cL_isCache 475 = .ok (.aload 6, 2) := by decide +kernel
theorem dL_isCache_477 : decode cL_isCache 477 = .ok (.iload 13, 2) := by decide +kernel
theorem dL_isCache_479 : decode cL_isCache 479 = .ok (.invokestatic 138, 3) := by decide +kernel
theorem dL_isCache_482 : decode cL_isCache 482 = .ok (.if_icmp .ne 7, 3) := by decide +kernel
theorem dL_isCache_485 : decode cL_isCache 485 = .ok (.iconst 1, 1) := by decide +kernel
theorem dL_isCache_486 : decode cL_isCache 486 = .ok (.goto 4, 3) := by decide +kernel
theorem dL_isCache_489 : decode cL_isCache 489 = .ok (.iconst 0, 1) := by decide +kernel
theorem dL_isCache_490 : decode cL_isCache 490 = .ok (.ireturn, 1) := by decide +kernel
set_option maxRecDepth 20000 in
theorem ggL_law_X1_init : GoodIn wsL_law wsX1_init := goodIn_r _ [9, 10, 11, 12, 13, 14, 15, 16, 17, 18, 19, 20, 21, 22, 23, 292, 293, 294, 295, 296, 297, 298, 299, 300, 301, 302, 303, 304, 305, 306, 307, 308, 309, 310, 311, 312, 313] (by decide +kernel) (by decide +kernel)
set_option maxRecDepth 20000 in
theorem gL_law_X1_init : GoodIn wsL_law (wsX1_init) := ggL_law_X1_init
set_option maxRecDepth 20000 in
theorem ggL_law_L_isCache : GoodIn wsL_law wsL_isCache := goodIn_ca (goodIn_ca (goodIn_r _ [27, 28, 29, 30, 31, 2, 32, 33, 34, 35, 36, 37, 15, 38, 39, 40, 41, 42, 43, 44, 45, 46, 47, 48, 49, 50, 51, 52, 53, 54, 55, 56, 57, 58, 59, 60, 61, 62, 63, 64, 65, 66, 67, 68, 69, 70, 71, 72, 73, 74, 75, 76, 77, 78, 79, 80, 81, 14, 82, 83, 26, 84, 85, 86, 87, 88, 89, 90, 91, 92, 93, 94, 95, 96, 97, 98, 99, 100, 101, 102, 103, 104, 105, 106, 107, 108, 109, 110, 111, 112, 113, 114, 115, 116, 117, 118, 119, 120, 121, 122, 123, 124, 125, 126, 127, 128, 129, 130, 131, 132, 133, 134, 135, 136, 137, 138, 139, 140, 141, 142, 143, 144, 145, 146, 147, 148, 149, 150, 151, 152, 153, 154, 155, 156, 157, 158, 159, 160, 161, 162, 163, 164, 165, 166, 167, 168, 169, 170, 171, 172, 173, 174, 175, 176, 177, 292, 293, 294, 295, 296, 297, 298, 299, 300, 301, 302, 303, 304, 305, 306, 307, 308, 309, 310, 311, 312, 313] (by decide +kernel) (by decide +kernel)) (goodIn_sub (fun _ h => List.mem_append_left _ (List.mem_append_left _ (List.mem_append_right _ h))) (by decide +kernel))) (goodIn_sub (fun _ h => List.mem_append_left _ (List.mem_append_right _ h)) (by decide +kernel))
set_option maxRecDepth 20000 in
theorem gL_law_L_isCache : GoodIn wsL_law (va_wsS RL 143 yL_isCache wsL_isCache) := goodIn_app (goodIn_of _ (by decide +kernel)) ggL_law_L_isCache
set_option maxRecDepth 20000 in
theorem ggL_law_X1_fetch : GoodIn wsL_law wsX1_fetch := goodIn_ca (goodIn_ca (goodIn_r _ [181, 89, 90, 91, 2, 92, 93, 94, 14, 158, 159, 160, 161, 162, 99, 100, 101, 102, 33, 182, 183, 184, 185, 42, 67, 72, 186, 187, 188, 189, 190, 62, 191, 192, 193, 194, 195, 47, 77, 196, 197, 198, 199, 15, 16, 200, 201, 202, 203, 204, 205, 206, 207, 57, 208, 209, 210, 211, 212, 213, 214, 215, 216, 79, 80, 81, 217, 218, 219, 220, 163, 164, 165, 166, 221, 222, 223, 224, 225, 226, 227, 228, 52, 138, 139, 140, 141, 142, 143, 144, 145, 127, 128, 129, 124, 125, 126, 229, 230, 231, 232, 305, 306, 307, 308, 309, 310, 311, 312, 313, 292, 293, 294, 295, 296, 297, 298, 299, 300, 301, 302, 303, 304] (by decide +kernel) (by decide +kernel)) (goodIn_sub (fun _ h => List.mem_append_left _ (List.mem_append_left _ (List.mem_append_right _ h))) (by decide +kernel))) (goodIn_sub (fun _ h => List.mem_append_left _ (List.mem_append_right _ h)) (by decide +kernel))
set_option maxRecDepth 20000 in
theorem gL_law_X1_fetch : GoodIn wsL_law (wsV RL 149 RX1 yX1_fetch wsX1_fetch) := goodIn_app (goodIn_of _ (by decide +kernel)) ggL_law_X1_fetch
set_option maxRecDepth 20000 in
theorem ggL_law_L_fetches : GoodIn wsL_law wsL_fetches := goodIn_r _ [235, 236, 237, 26, 238, 239, 240, 241, 242, 243, 244, 245, 246, 247, 248, 82, 83, 84, 249, 250, 251, 252, 253, 254, 255, 256, 257] (by decide +kernel) (by decide +kernel)
set_option maxRecDepth 20000 in
theorem gL_law_L_fetches : GoodIn wsL_law (va_wsS RL 153 yL_fetches wsL_fetches) := goodIn_app (goodIn_of _ (by decide +kernel)) ggL_law_L_fetches
set_option maxRecDepth 20000 in
theorem ggL_law_X1_pass : GoodIn wsL_law wsX1_pass := goodIn_ca (goodIn_r _ [261, 33, 158, 159, 2, 160, 161, 162, 292, 293, 294, 295, 296, 297, 298, 299, 300, 301, 302, 303, 304] (by decide +kernel) (by decide +kernel)) (goodIn_sub (fun _ h => List.mem_append_left _ (List.mem_append_right _ h)) (by decide +kernel))
set_option maxRecDepth 20000 in
theorem gL_law_X1_pass : GoodIn wsL_law (wsV RL 157 RX1 yX1_pass wsX1_pass) := goodIn_app (goodIn_of _ (by decide +kernel)) ggL_law_X1_pass
set_option maxRecDepth 20000 in
theorem ggL_law_L_told : GoodIn wsL_law wsL_told := goodIn_ca (goodIn_ca (goodIn_ca (goodIn_r _ [264, 265, 266, 267, 268, 2, 269, 270, 271, 272, 273, 274, 275, 89, 90, 91, 92, 93, 94, 14, 276, 277, 278, 279, 280, 281, 282, 283, 15, 158, 159, 160, 161, 162, 163, 164, 165, 166, 99, 100, 101, 102, 33, 216, 79, 80, 81, 217, 218, 219, 220, 57, 221, 222, 223, 224, 62, 225, 226, 227, 228, 52, 138, 139, 140, 141, 142, 143, 144, 145, 127, 128, 129, 124, 125, 126, 284, 285, 286, 287, 16, 305, 306, 307, 308, 309, 310, 311, 312, 313, 292, 293, 294, 295, 296, 297, 298, 299, 300, 301, 302, 303, 304] (by decide +kernel) (by decide +kernel)) (goodIn_sub (fun _ h => List.mem_append_right _ h) (by decide +kernel))) (goodIn_sub (fun _ h => List.mem_append_left _ (List.mem_append_left _ (List.mem_append_right _ h))) (by decide +kernel))) (goodIn_sub (fun _ h => List.mem_append_left _ (List.mem_append_right _ h)) (by decide +kernel))
set_option maxRecDepth 20000 in
theorem gL_law_L_told : GoodIn wsL_law (va_wsS RL 160 yL_told wsL_told) := goodIn_app (goodIn_of _ (by decide +kernel)) ggL_law_L_told
set_option maxRecDepth 20000 in
theorem ggL_law_L_takeOut : GoodIn wsL_law wsL_takeOut := goodIn_r _ [242] (by decide +kernel) (by decide +kernel)
set_option maxRecDepth 20000 in
theorem gL_law_L_takeOut : GoodIn wsL_law (va_wsS RL 7 yL_takeOut wsL_takeOut) := goodIn_app (goodIn_of _ (by decide +kernel)) ggL_law_L_takeOut
set_option maxRecDepth 20000 in
theorem ggL_law_L_putIn : GoodIn wsL_law wsL_putIn := goodIn_r _ [245] (by decide +kernel) (by decide +kernel)
set_option maxRecDepth 20000 in
theorem gL_law_L_putIn : GoodIn wsL_law (va_wsS RL 23 yL_putIn wsL_putIn) := goodIn_app (goodIn_of _ (by decide +kernel)) ggL_law_L_putIn
set_option maxRecDepth 20000 in
theorem ggL_law_L_removes : GoodIn wsL_law wsL_removes := goodIn_r _ [248, 240, 241, 26, 242] (by decide +kernel) (by decide +kernel)
set_option maxRecDepth 20000 in
theorem gL_law_L_removes : GoodIn wsL_law (va_wsS RL 13 yL_removes wsL_removes) := goodIn_app (goodIn_of _ (by decide +kernel)) ggL_law_L_removes
set_option maxRecDepth 20000 in
theorem ggL_law_X1_purge : GoodIn wsL_law wsX1_purge := goodIn_r _ [291, 217, 218, 219, 2, 220, 14, 57, 99, 100, 101, 102, 33, 292, 293, 294, 295, 296, 297, 298, 299, 300, 301, 302, 303, 304, 305, 306, 307, 308, 309, 310, 311, 312, 313] (by decide +kernel) (by decide +kernel)
set_option maxRecDepth 20000 in
theorem gL_law_X1_purge : GoodIn wsL_law (wsV RL 164 RX1 yX1_purge wsX1_purge) := goodIn_app (goodIn_of _ (by decide +kernel)) ggL_law_X1_purge
set_option maxRecDepth 20000 in
theorem ggL_law_L_clears : GoodIn wsL_law wsL_clears := goodIn_r _ [251, 246, 247, 26, 248, 240, 241, 242] (by decide +kernel) (by decide +kernel)
set_option maxRecDepth 20000 in
theorem gL_law_L_clears : GoodIn wsL_law (va_wsS RL 31 yL_clears wsL_clears) := goodIn_app (goodIn_of _ (by decide +kernel)) ggL_law_L_clears
set_option maxRecDepth 20000 in
theorem ggL_law_L_pinned : GoodIn wsL_law wsL_pinned := goodIn_r _ [254] (by decide +kernel) (by decide +kernel)
set_option maxRecDepth 20000 in
theorem gL_law_L_pinned : GoodIn wsL_law (va_wsS RL 35 yL_pinned wsL_pinned) := goodIn_app (goodIn_of _ (by decide +kernel)) ggL_law_L_pinned
set_option maxRecDepth 20000 in
theorem ggL_law_L_used : GoodIn wsL_law wsL_used := goodIn_r _ [84] (by decide +kernel) (by decide +kernel)
set_option maxRecDepth 20000 in
theorem gL_law_L_used : GoodIn wsL_law (va_wsS RL 27 yL_used wsL_used) := goodIn_app (goodIn_of _ (by decide +kernel)) ggL_law_L_used
set_option maxRecDepth 20000 in
theorem ggL_law_L_leaves : GoodIn wsL_law wsL_leaves := goodIn_r _ [257, 246, 247, 26, 248, 240, 241, 242] (by decide +kernel) (by decide +kernel)
set_option maxRecDepth 20000 in
theorem gL_law_L_leaves : GoodIn wsL_law (va_wsS RL 39 yL_leaves wsL_leaves) := goodIn_app (goodIn_of _ (by decide +kernel)) ggL_law_L_leaves
end
section
theorem dL_law_0 : decode cL_law 0 = .ok (.new 44, 3) := by decide +kernel
theorem dL_law_3 : decode cL_law 3 = .ok (.dup, 1) := by decide +kernel
theorem dL_law_4 : decode cL_law 4 = .ok (.invokespecial 142, 3) := by decide +kernel
theorem dL_law_7 : decode cL_law 7 = .ok (.astore_n 1, 1) := by decide +kernel
theorem dL_law_8 : decode cL_law 8 = .ok (.bipush 32, 2) := by decide +kernel
theorem dL_law_10 : decode cL_law 10 = .ok (.newarray .int, 2) := by decide +kernel
theorem dL_law_12 : decode cL_law 12 = .ok (.astore_n 2, 1) := by decide +kernel
theorem dL_law_13 : decode cL_law 13 = .ok (.bipush 32, 2) := by decide +kernel
theorem dL_law_15 : decode cL_law 15 = .ok (.newarray .int, 2) := by decide +kernel
theorem dL_law_17 : decode cL_law 17 = .ok (.astore_n 3, 1) := by decide +kernel
theorem dL_law_18 : decode cL_law 18 = .ok (.bipush 32, 2) := by decide +kernel
theorem dL_law_20 : decode cL_law 20 = .ok (.newarray .int, 2) := by decide +kernel
theorem dL_law_22 : decode cL_law 22 = .ok (.astore 4, 2) := by decide +kernel
theorem dL_law_24 : decode cL_law 24 = .ok (.bipush 32, 2) := by decide +kernel
theorem dL_law_26 : decode cL_law 26 = .ok (.newarray .int, 2) := by decide +kernel
theorem dL_law_28 : decode cL_law 28 = .ok (.astore 5, 2) := by decide +kernel
theorem dL_law_30 : decode cL_law 30 = .ok (.bipush 32, 2) := by decide +kernel
theorem dL_law_32 : decode cL_law 32 = .ok (.newarray .int, 2) := by decide +kernel
theorem dL_law_34 : decode cL_law 34 = .ok (.astore 6, 2) := by decide +kernel
theorem dL_law_36 : decode cL_law 36 = .ok (.bipush 33, 2) := by decide +kernel
theorem dL_law_38 : decode cL_law 38 = .ok (.newarray .int, 2) := by decide +kernel
theorem dL_law_40 : decode cL_law 40 = .ok (.astore 7, 2) := by decide +kernel
theorem dL_law_42 : decode cL_law 42 = .ok (.bipush 8, 2) := by decide +kernel
theorem dL_law_44 : decode cL_law 44 = .ok (.newarray .int, 2) := by decide +kernel
theorem dL_law_46 : decode cL_law 46 = .ok (.astore 8, 2) := by decide +kernel
theorem dL_law_48 : decode cL_law 48 = .ok (.bipush 64, 2) := by decide +kernel
theorem dL_law_50 : decode cL_law 50 = .ok (.newarray .long, 2) := by decide +kernel
theorem dL_law_52 : decode cL_law 52 = .ok (.astore 9, 2) := by decide +kernel
theorem dL_law_54 : decode cL_law 54 = .ok (.iconst 5, 1) := by decide +kernel
theorem dL_law_55 : decode cL_law 55 = .ok (.newarray .long, 2) := by decide +kernel
theorem dL_law_57 : decode cL_law 57 = .ok (.astore 10, 2) := by decide +kernel
theorem dL_law_59 : decode cL_law 59 = .ok (.aload 8, 2) := by decide +kernel
theorem dL_law_61 : decode cL_law 61 = .ok (.iconst 1, 1) := by decide +kernel
theorem dL_law_62 : decode cL_law 62 = .ok (.bipush 100, 2) := by decide +kernel
theorem dL_law_64 : decode cL_law 64 = .ok (.iastore, 1) := by decide +kernel
theorem dL_law_65 : decode cL_law 65 = .ok (.aload 8, 2) := by decide +kernel
theorem dL_law_67 : decode cL_law 67 = .ok (.iconst 2, 1) := by decide +kernel
theorem dL_law_68 : decode cL_law 68 = .ok (.sipush 1000, 3) := by decide +kernel
theorem dL_law_71 : decode cL_law 71 = .ok (.iastore, 1) := by decide +kernel
theorem dL_law_72 : decode cL_law 72 = .ok (.aload_n 1, 1) := by decide +kernel
theorem dL_law_73 : decode cL_law 73 = .ok (.aload_n 2, 1) := by decide +kernel
theorem dL_law_74 : decode cL_law 74 = .ok (.aload_n 3, 1) := by decide +kernel
theorem dL_law_75 : decode cL_law 75 = .ok (.aload 4, 2) := by decide +kernel
theorem dL_law_77 : decode cL_law 77 = .ok (.aload 5, 2) := by decide +kernel
theorem dL_law_79 : decode cL_law 79 = .ok (.aload 7, 2) := by decide +kernel
theorem dL_law_81 : decode cL_law 81 = .ok (.aload 8, 2) := by decide +kernel
theorem dL_law_83 : decode cL_law 83 = .ok (.aload 9, 2) := by decide +kernel
theorem dL_law_85 : decode cL_law 85 = .ok (.aload 10, 2) := by decide +kernel
theorem dL_law_87 : decode cL_law 87 = .ok (.bipush 9, 2) := by decide +kernel
theorem dL_law_89 : decode cL_law 89 = .ok (.invokestatic 143, 3) := by decide +kernel
theorem dL_law_92 : decode cL_law 92 = .ok (.istore 11, 2) := by decide +kernel
theorem dL_law_94 : decode cL_law 94 = .ok (.iconst 0, 1) := by decide +kernel
theorem dL_law_95 : decode cL_law 95 = .ok (.istore 12, 2) := by decide +kernel
theorem dL_law_97 : decode cL_law 97 = .ok (.iload 12, 2) := by decide +kernel
theorem dL_law_99 : decode cL_law 99 = .ok (.bipush 100, 2) := by decide +kernel
theorem dL_law_101 : decode cL_law 101 = .ok (.if_icmp .ge 790, 3) := by decide +kernel
theorem dL_law_104 : decode cL_law 104 = .ok (.iload 11, 2) := by decide +kernel
theorem dL_law_106 : decode cL_law 106 = .ok (.ifCond .eq 785, 3) := by decide +kernel
theorem dL_law_109 : decode cL_law 109 = .ok (.iload 12, 2) := by decide +kernel
theorem dL_law_111 : decode cL_law 111 = .ok (.aload_n 0, 1) := by decide +kernel
theorem dL_law_112 : decode cL_law 112 = .ok (.arraylength, 1) := by decide +kernel
theorem dL_law_113 : decode cL_law 113 = .ok (.if_icmp .ge 13, 3) := by decide +kernel
theorem dL_law_116 : decode cL_law 116 = .ok (.aload_n 0, 1) := by decide +kernel
theorem dL_law_117 : decode cL_law 117 = .ok (.iload 12, 2) := by decide +kernel
theorem dL_law_119 : decode cL_law 119 = .ok (.iaload, 1) := by decide +kernel
theorem dL_law_120 : decode cL_law 120 = .ok (.ldc 147, 2) := by decide +kernel
theorem dL_law_122 : decode cL_law 122 = .ok (.iand, 1) := by decide +kernel
theorem dL_law_123 : decode cL_law 123 = .ok (.goto 24, 3) := by decide +kernel
theorem dL_law_126 : decode cL_law 126 = .ok (.ldc 148, 2) := by decide +kernel
theorem dL_law_128 : decode cL_law 128 = .ok (.iload 12, 2) := by decide +kernel
theorem dL_law_130 : decode cL_law 130 = .ok (.imul, 1) := by decide +kernel
theorem dL_law_131 : decode cL_law 131 = .ok (.iload 12, 2) := by decide +kernel
theorem dL_law_133 : decode cL_law 133 = .ok (.imul, 1) := by decide +kernel
theorem dL_law_134 : decode cL_law 134 = .ok (.sipush 3001, 3) := by decide +kernel
theorem dL_law_137 : decode cL_law 137 = .ok (.iload 12, 2) := by decide +kernel
theorem dL_law_139 : decode cL_law 139 = .ok (.imul, 1) := by decide +kernel
theorem dL_law_140 : decode cL_law 140 = .ok (.iadd, 1) := by decide +kernel
theorem dL_law_141 : decode cL_law 141 = .ok (.bipush 47, 2) := by decide +kernel
theorem dL_law_143 : decode cL_law 143 = .ok (.iadd, 1) := by decide +kernel
theorem dL_law_144 : decode cL_law 144 = .ok (.ldc 147, 2) := by decide +kernel
theorem dL_law_146 : decode cL_law 146 = .ok (.iand, 1) := by decide +kernel
theorem dL_law_147 : decode cL_law 147 = .ok (.istore 13, 2) := by decide +kernel
theorem dL_law_149 : decode cL_law 149 = .ok (.iload 13, 2) := by decide +kernel
theorem dL_law_151 : decode cL_law 151 = .ok (.bipush 16, 2) := by decide +kernel
theorem dL_law_153 : decode cL_law 153 = .ok (.irem, 1) := by decide +kernel
theorem dL_law_154 : decode cL_law 154 = .ok (.istore 14, 2) := by decide +kernel
theorem dL_law_156 : decode cL_law 156 = .ok (.iload 13, 2) := by decide +kernel
theorem dL_law_158 : decode cL_law 158 = .ok (.bipush 16, 2) := by decide +kernel
theorem dL_law_160 : decode cL_law 160 = .ok (.idiv, 1) := by decide +kernel
theorem dL_law_161 : decode cL_law 161 = .ok (.istore 15, 2) := by decide +kernel
theorem dL_law_163 : decode cL_law 163 = .ok (.iload 15, 2) := by decide +kernel
theorem dL_law_165 : decode cL_law 165 = .ok (.iconst 3, 1) := by decide +kernel
theorem dL_law_166 : decode cL_law 166 = .ok (.irem, 1) := by decide +kernel
theorem dL_law_167 : decode cL_law 167 = .ok (.ifCond .ne 13, 3) := by decide +kernel
theorem dL_law_170 : decode cL_law 170 = .ok (.iload 15, 2) := by decide +kernel
theorem dL_law_172 : decode cL_law 172 = .ok (.iconst 3, 1) := by decide +kernel
theorem dL_law_173 : decode cL_law 173 = .ok (.idiv, 1) := by decide +kernel
theorem dL_law_174 : decode cL_law 174 = .ok (.bipush 32, 2) := by decide +kernel
theorem dL_law_176 : decode cL_law 176 = .ok (.irem, 1) := by decide +kernel
theorem dL_law_177 : decode cL_law 177 = .ok (.goto 10, 3) := by decide +kernel
theorem dL_law_180 : decode cL_law 180 = .ok (.iload 15, 2) := by decide +kernel
theorem dL_law_182 : decode cL_law 182 = .ok (.iconst 3, 1) := by decide +kernel
theorem dL_law_183 : decode cL_law 183 = .ok (.idiv, 1) := by decide +kernel
theorem dL_law_184 : decode cL_law 184 = .ok (.bipush 9, 2) := by decide +kernel
theorem dL_law_186 : decode cL_law 186 = .ok (.irem, 1) := by decide +kernel
theorem dL_law_187 : decode cL_law 187 = .ok (.istore 16, 2) := by decide +kernel
theorem dL_law_189 : decode cL_law 189 = .ok (.iload 14, 2) := by decide +kernel
theorem dL_law_191 : decode cL_law 191 = .ok (.bipush 8, 2) := by decide +kernel
theorem dL_law_193 : decode cL_law 193 = .ok (.if_icmp .ge 147, 3) := by decide +kernel
theorem dL_law_196 : decode cL_law 196 = .ok (.iload 15, 2) := by decide +kernel
theorem dL_law_198 : decode cL_law 198 = .ok (.iconst 5, 1) := by decide +kernel
theorem dL_law_199 : decode cL_law 199 = .ok (.irem, 1) := by decide +kernel
theorem dL_law_200 : decode cL_law 200 = .ok (.iconst 2, 1) := by decide +kernel
theorem dL_law_201 : decode cL_law 201 = .ok (.if_icmp .ge 12, 3) := by decide +kernel
theorem dL_law_204 : decode cL_law 204 = .ok (.iconst 5, 1) := by decide +kernel
theorem dL_law_205 : decode cL_law 205 = .ok (.iload 16, 2) := by decide +kernel
theorem dL_law_207 : decode cL_law 207 = .ok (.iconst 3, 1) := by decide +kernel
theorem dL_law_208 : decode cL_law 208 = .ok (.imul, 1) := by decide +kernel
theorem dL_law_209 : decode cL_law 209 = .ok (.iadd, 1) := by decide +kernel
theorem dL_law_210 : decode cL_law 210 = .ok (.goto 13, 3) := by decide +kernel
theorem dL_law_213 : decode cL_law 213 = .ok (.iconst 1, 1) := by decide +kernel
theorem dL_law_214 : decode cL_law 214 = .ok (.iload 15, 2) := by decide +kernel
theorem dL_law_216 : decode cL_law 216 = .ok (.bipush 27, 2) := by decide +kernel
theorem dL_law_218 : decode cL_law 218 = .ok (.idiv, 1) := by decide +kernel
theorem dL_law_219 : decode cL_law 219 = .ok (.bipush 60, 2) := by decide +kernel
theorem dL_law_221 : decode cL_law 221 = .ok (.irem, 1) := by decide +kernel
theorem dL_law_222 : decode cL_law 222 = .ok (.iadd, 1) := by decide +kernel
theorem dL_law_223 : decode cL_law 223 = .ok (.istore 17, 2) := by decide +kernel
theorem dL_law_225 : decode cL_law 225 = .ok (.iload 15, 2) := by decide +kernel
theorem dL_law_227 : decode cL_law 227 = .ok (.bipush 40, 2) := by decide +kernel
theorem dL_law_229 : decode cL_law 229 = .ok (.idiv, 1) := by decide +kernel
theorem dL_law_230 : decode cL_law 230 = .ok (.iconst 3, 1) := by decide +kernel
theorem dL_law_231 : decode cL_law 231 = .ok (.irem, 1) := by decide +kernel
theorem dL_law_232 : decode cL_law 232 = .ok (.ifCond .ne 7, 3) := by decide +kernel
theorem dL_law_235 : decode cL_law 235 = .ok (.iconst 0, 1) := by decide +kernel
theorem dL_law_236 : decode cL_law 236 = .ok (.goto 25, 3) := by decide +kernel
theorem dL_law_239 : decode cL_law 239 = .ok (.iload 15, 2) := by decide +kernel
theorem dL_law_241 : decode cL_law 241 = .ok (.bipush 120, 2) := by decide +kernel
theorem dL_law_243 : decode cL_law 243 = .ok (.idiv, 1) := by decide +kernel
theorem dL_law_244 : decode cL_law 244 = .ok (.iload 15, 2) := by decide +kernel
theorem dL_law_246 : decode cL_law 246 = .ok (.bipush 7, 2) := by decide +kernel
theorem dL_law_248 : decode cL_law 248 = .ok (.irem, 1) := by decide +kernel
theorem dL_law_249 : decode cL_law 249 = .ok (.ifCond .ne 9, 3) := by decide +kernel
theorem dL_law_252 : decode cL_law 252 = .ok (.sipush 1001, 3) := by decide +kernel
theorem dL_law_255 : decode cL_law 255 = .ok (.goto 5, 3) := by decide +kernel
theorem dL_law_258 : decode cL_law 258 = .ok (.bipush 20, 2) := by decide +kernel
theorem dL_law_260 : decode cL_law 260 = .ok (.irem, 1) := by decide +kernel
theorem dL_law_261 : decode cL_law 261 = .ok (.istore 18, 2) := by decide +kernel
theorem dL_law_263 : decode cL_law 263 = .ok (.iconst 1, 1) := by decide +kernel
theorem dL_law_264 : decode cL_law 264 = .ok (.iload 15, 2) := by decide +kernel
theorem dL_law_266 : decode cL_law 266 = .ok (.bipush 11, 2) := by decide +kernel
theorem dL_law_268 : decode cL_law 268 = .ok (.idiv, 1) := by decide +kernel
theorem dL_law_269 : decode cL_law 269 = .ok (.iload 15, 2) := by decide +kernel
theorem dL_law_271 : decode cL_law 271 = .ok (.iconst 4, 1) := by decide +kernel
theorem dL_law_272 : decode cL_law 272 = .ok (.irem, 1) := by decide +kernel
theorem dL_law_273 : decode cL_law 273 = .ok (.ifCond .ne 9, 3) := by decide +kernel
theorem dL_law_276 : decode cL_law 276 = .ok (.sipush 10000, 3) := by decide +kernel
theorem dL_law_279 : decode cL_law 279 = .ok (.goto 5, 3) := by decide +kernel
theorem dL_law_282 : decode cL_law 282 = .ok (.bipush 60, 2) := by decide +kernel
theorem dL_law_284 : decode cL_law 284 = .ok (.irem, 1) := by decide +kernel
theorem dL_law_285 : decode cL_law 285 = .ok (.iadd, 1) := by decide +kernel
theorem dL_law_286 : decode cL_law 286 = .ok (.istore 19, 2) := by decide +kernel
theorem dL_law_288 : decode cL_law 288 = .ok (.aload_n 1, 1) := by decide +kernel
theorem dL_law_289 : decode cL_law 289 = .ok (.iload 16, 2) := by decide +kernel
theorem dL_law_291 : decode cL_law 291 = .ok (.iload 17, 2) := by decide +kernel
theorem dL_law_293 : decode cL_law 293 = .ok (.iload 18, 2) := by decide +kernel
theorem dL_law_295 : decode cL_law 295 = .ok (.iload 19, 2) := by decide +kernel
theorem dL_law_297 : decode cL_law 297 = .ok (.invokevirtual 149, 3) := by decide +kernel
theorem dL_law_300 : decode cL_law 300 = .ok (.aload_n 2, 1) := by decide +kernel
theorem dL_law_301 : decode cL_law 301 = .ok (.aload_n 3, 1) := by decide +kernel
theorem dL_law_302 : decode cL_law 302 = .ok (.aload 4, 2) := by decide +kernel
theorem dL_law_304 : decode cL_law 304 = .ok (.aload 5, 2) := by decide +kernel
theorem dL_law_306 : decode cL_law 306 = .ok (.aload 6, 2) := by decide +kernel
theorem dL_law_308 : decode cL_law 308 = .ok (.aload 7, 2) := by decide +kernel
theorem dL_law_310 : decode cL_law 310 = .ok (.aload 8, 2) := by decide +kernel
theorem dL_law_312 : decode cL_law 312 = .ok (.aload 9, 2) := by decide +kernel
theorem dL_law_314 : decode cL_law 314 = .ok (.aload 10, 2) := by decide +kernel
theorem dL_law_316 : decode cL_law 316 = .ok (.iload 16, 2) := by decide +kernel
theorem dL_law_318 : decode cL_law 318 = .ok (.iload 17, 2) := by decide +kernel
theorem dL_law_320 : decode cL_law 320 = .ok (.iload 18, 2) := by decide +kernel
theorem dL_law_322 : decode cL_law 322 = .ok (.iload 19, 2) := by decide +kernel
theorem dL_law_324 : decode cL_law 324 = .ok (.invokestatic 153, 3) := by decide +kernel
theorem dL_law_327 : decode cL_law 327 = .ok (.if_icmp .ne 7, 3) := by decide +kernel
theorem dL_law_330 : decode cL_law 330 = .ok (.iconst 1, 1) := by decide +kernel
theorem dL_law_331 : decode cL_law 331 = .ok (.goto 4, 3) := by decide +kernel
theorem dL_law_334 : decode cL_law 334 = .ok (.iconst 0, 1) := by decide +kernel
theorem dL_law_335 : decode cL_law 335 = .ok (.istore 11, 2) := by decide +kernel
theorem dL_law_337 : decode cL_law 337 = .ok (.goto 513, 3) := by decide +kernel
theorem dL_law_340 : decode cL_law 340 = .ok (.iload 14, 2) := by decide +kernel
theorem dL_law_342 : decode cL_law 342 = .ok (.bipush 10, 2) := by decide +kernel
theorem dL_law_344 : decode cL_law 344 = .ok (.if_icmp .ge 58, 3) := by decide +kernel
theorem dL_law_347 : decode cL_law 347 = .ok (.iconst 1, 1) := by decide +kernel
theorem dL_law_348 : decode cL_law 348 = .ok (.iload 15, 2) := by decide +kernel
theorem dL_law_350 : decode cL_law 350 = .ok (.iload 15, 2) := by decide +kernel
theorem dL_law_352 : decode cL_law 352 = .ok (.bipush 9, 2) := by decide +kernel
theorem dL_law_354 : decode cL_law 354 = .ok (.irem, 1) := by decide +kernel
theorem dL_law_355 : decode cL_law 355 = .ok (.ifCond .ne 9, 3) := by decide +kernel
theorem dL_law_358 : decode cL_law 358 = .ok (.sipush 10000, 3) := by decide +kernel
theorem dL_law_361 : decode cL_law 361 = .ok (.goto 5, 3) := by decide +kernel
theorem dL_law_364 : decode cL_law 364 = .ok (.bipush 30, 2) := by decide +kernel
theorem dL_law_366 : decode cL_law 366 = .ok (.irem, 1) := by decide +kernel
theorem dL_law_367 : decode cL_law 367 = .ok (.iadd, 1) := by decide +kernel
theorem dL_law_368 : decode cL_law 368 = .ok (.istore 17, 2) := by decide +kernel
theorem dL_law_370 : decode cL_law 370 = .ok (.aload 8, 2) := by decide +kernel
theorem dL_law_372 : decode cL_law 372 = .ok (.iconst 0, 1) := by decide +kernel
theorem dL_law_373 : decode cL_law 373 = .ok (.dup2, 1) := by decide +kernel
theorem dL_law_374 : decode cL_law 374 = .ok (.iaload, 1) := by decide +kernel
theorem dL_law_375 : decode cL_law 375 = .ok (.iload 17, 2) := by decide +kernel
theorem dL_law_377 : decode cL_law 377 = .ok (.iadd, 1) := by decide +kernel
theorem dL_law_378 : decode cL_law 378 = .ok (.iastore, 1) := by decide +kernel
theorem dL_law_379 : decode cL_law 379 = .ok (.aload_n 1, 1) := by decide +kernel
theorem dL_law_380 : decode cL_law 380 = .ok (.iload 17, 2) := by decide +kernel
theorem dL_law_382 : decode cL_law 382 = .ok (.invokevirtual 157, 3) := by decide +kernel
theorem dL_law_385 : decode cL_law 385 = .ok (.aload 8, 2) := by decide +kernel
theorem dL_law_387 : decode cL_law 387 = .ok (.iconst 0, 1) := by decide +kernel
theorem dL_law_388 : decode cL_law 388 = .ok (.iaload, 1) := by decide +kernel
theorem dL_law_389 : decode cL_law 389 = .ok (.if_icmp .ne 7, 3) := by decide +kernel
theorem dL_law_392 : decode cL_law 392 = .ok (.iconst 1, 1) := by decide +kernel
theorem dL_law_393 : decode cL_law 393 = .ok (.goto 4, 3) := by decide +kernel
theorem dL_law_396 : decode cL_law 396 = .ok (.iconst 0, 1) := by decide +kernel
theorem dL_law_397 : decode cL_law 397 = .ok (.istore 11, 2) := by decide +kernel
theorem dL_law_399 : decode cL_law 399 = .ok (.goto 451, 3) := by decide +kernel
theorem dL_law_402 : decode cL_law 402 = .ok (.iload 14, 2) := by decide +kernel
theorem dL_law_404 : decode cL_law 404 = .ok (.bipush 12, 2) := by decide +kernel
theorem dL_law_406 : decode cL_law 406 = .ok (.if_icmp .ge 146, 3) := by decide +kernel
theorem dL_law_409 : decode cL_law 409 = .ok (.iconst 0, 1) := by decide +kernel
theorem dL_law_410 : decode cL_law 410 = .ok (.istore 17, 2) := by decide +kernel
theorem dL_law_412 : decode cL_law 412 = .ok (.iload 17, 2) := by decide +kernel
theorem dL_law_414 : decode cL_law 414 = .ok (.bipush 32, 2) := by decide +kernel
theorem dL_law_416 : decode cL_law 416 = .ok (.if_icmp .ge 32, 3) := by decide +kernel
theorem dL_law_419 : decode cL_law 419 = .ok (.iload 15, 2) := by decide +kernel
theorem dL_law_421 : decode cL_law 421 = .ok (.iconst 4, 1) := by decide +kernel
theorem dL_law_422 : decode cL_law 422 = .ok (.irem, 1) := by decide +kernel
theorem dL_law_423 : decode cL_law 423 = .ok (.ifCond .le 25, 3) := by decide +kernel
theorem dL_law_426 : decode cL_law 426 = .ok (.aload_n 2, 1) := by decide +kernel
theorem dL_law_427 : decode cL_law 427 = .ok (.iload 16, 2) := by decide +kernel
theorem dL_law_429 : decode cL_law 429 = .ok (.iaload, 1) := by decide +kernel
theorem dL_law_430 : decode cL_law 430 = .ok (.ifCond .ne 18, 3) := by decide +kernel
theorem dL_law_433 : decode cL_law 433 = .ok (.iload 16, 2) := by decide +kernel
theorem dL_law_435 : decode cL_law 435 = .ok (.iconst 1, 1) := by decide +kernel
theorem dL_law_436 : decode cL_law 436 = .ok (.iadd, 1) := by decide +kernel
theorem dL_law_437 : decode cL_law 437 = .ok (.bipush 32, 2) := by decide +kernel
theorem dL_law_439 : decode cL_law 439 = .ok (.irem, 1) := by decide +kernel
theorem dL_law_440 : decode cL_law 440 = .ok (.istore 16, 2) := by decide +kernel
theorem dL_law_442 : decode cL_law 442 = .ok (.iinc 17 1, 3) := by decide +kernel
theorem dL_law_445 : decode cL_law 445 = .ok (.goto (-33), 3) := by decide +kernel
theorem dL_law_448 : decode cL_law 448 = .ok (.iload 15, 2) := by decide +kernel
theorem dL_law_450 : decode cL_law 450 = .ok (.bipush 96, 2) := by decide +kernel
theorem dL_law_452 : decode cL_law 452 = .ok (.idiv, 1) := by decide +kernel
theorem dL_law_453 : decode cL_law 453 = .ok (.iconst 3, 1) := by decide +kernel
theorem dL_law_454 : decode cL_law 454 = .ok (.irem, 1) := by decide +kernel
theorem dL_law_455 : decode cL_law 455 = .ok (.ifCond .ne 7, 3) := by decide +kernel
theorem dL_law_458 : decode cL_law 458 = .ok (.iconst 0, 1) := by decide +kernel
theorem dL_law_459 : decode cL_law 459 = .ok (.goto 4, 3) := by decide +kernel
theorem dL_law_462 : decode cL_law 462 = .ok (.iconst 1, 1) := by decide +kernel
theorem dL_law_463 : decode cL_law 463 = .ok (.istore 17, 2) := by decide +kernel
theorem dL_law_465 : decode cL_law 465 = .ok (.aload_n 2, 1) := by decide +kernel
theorem dL_law_466 : decode cL_law 466 = .ok (.iload 16, 2) := by decide +kernel
theorem dL_law_468 : decode cL_law 468 = .ok (.iaload, 1) := by decide +kernel
theorem dL_law_469 : decode cL_law 469 = .ok (.ifCond .ne 8, 3) := by decide +kernel
theorem dL_law_472 : decode cL_law 472 = .ok (.bipush (-13), 2) := by decide +kernel
theorem dL_law_474 : decode cL_law 474 = .ok (.goto 8, 3) := by decide +kernel
theorem dL_law_477 : decode cL_law 477 = .ok (.aload 5, 2) := by decide +kernel
theorem dL_law_479 : decode cL_law 479 = .ok (.iload 16, 2) := by decide +kernel
theorem dL_law_481 : decode cL_law 481 = .ok (.iaload, 1) := by decide +kernel
theorem dL_law_482 : decode cL_law 482 = .ok (.istore 18, 2) := by decide +kernel
theorem dL_law_484 : decode cL_law 484 = .ok (.aload_n 1, 1) := by decide +kernel
theorem dL_law_485 : decode cL_law 485 = .ok (.iconst 0, 1) := by decide +kernel
theorem dL_law_486 : decode cL_law 486 = .ok (.iload 16, 2) := by decide +kernel
theorem dL_law_488 : decode cL_law 488 = .ok (.iload 17, 2) := by decide +kernel
theorem dL_law_490 : decode cL_law 490 = .ok (.invokestatic 160, 3) := by decide +kernel
theorem dL_law_493 : decode cL_law 493 = .ok (.iload 18, 2) := by decide +kernel
theorem dL_law_495 : decode cL_law 495 = .ok (.if_icmp .ne 7, 3) := by decide +kernel
theorem dL_law_498 : decode cL_law 498 = .ok (.iconst 1, 1) := by decide +kernel
theorem dL_law_499 : decode cL_law 499 = .ok (.goto 4, 3) := by decide +kernel
theorem dL_law_502 : decode cL_law 502 = .ok (.iconst 0, 1) := by decide +kernel
theorem dL_law_503 : decode cL_law 503 = .ok (.istore 11, 2) := by decide +kernel
theorem dL_law_505 : decode cL_law 505 = .ok (.iload 18, 2) := by decide +kernel
theorem dL_law_507 : decode cL_law 507 = .ok (.ifCond .lt 42, 3) := by decide +kernel
theorem dL_law_510 : decode cL_law 510 = .ok (.iload 17, 2) := by decide +kernel
theorem dL_law_512 : decode cL_law 512 = .ok (.iload 18, 2) := by decide +kernel
theorem dL_law_514 : decode cL_law 514 = .ok (.if_icmp .eq 35, 3) := by decide +kernel
theorem dL_law_517 : decode cL_law 517 = .ok (.aload 5, 2) := by decide +kernel
theorem dL_law_519 : decode cL_law 519 = .ok (.iload 16, 2) := by decide +kernel
theorem dL_law_521 : decode cL_law 521 = .ok (.iload 17, 2) := by decide +kernel
theorem dL_law_523 : decode cL_law 523 = .ok (.iastore, 1) := by decide +kernel
theorem dL_law_524 : decode cL_law 524 = .ok (.aload 7, 2) := by decide +kernel
theorem dL_law_526 : decode cL_law 526 = .ok (.aload 8, 2) := by decide +kernel
theorem dL_law_528 : decode cL_law 528 = .ok (.iload 16, 2) := by decide +kernel
theorem dL_law_530 : decode cL_law 530 = .ok (.invokestatic 7, 3) := by decide +kernel
theorem dL_law_533 : decode cL_law 533 = .ok (.iload 17, 2) := by decide +kernel
theorem dL_law_535 : decode cL_law 535 = .ok (.ifCond .ne 14, 3) := by decide +kernel
theorem dL_law_538 : decode cL_law 538 = .ok (.aload 7, 2) := by decide +kernel
theorem dL_law_540 : decode cL_law 540 = .ok (.aload 8, 2) := by decide +kernel
theorem dL_law_542 : decode cL_law 542 = .ok (.aload 9, 2) := by decide +kernel
theorem dL_law_544 : decode cL_law 544 = .ok (.iload 16, 2) := by decide +kernel
theorem dL_law_546 : decode cL_law 546 = .ok (.invokestatic 23, 3) := by decide +kernel
theorem dL_law_549 : decode cL_law 549 = .ok (.goto 301, 3) := by decide +kernel
theorem dL_law_552 : decode cL_law 552 = .ok (.iload 14, 2) := by decide +kernel
theorem dL_law_554 : decode cL_law 554 = .ok (.bipush 12, 2) := by decide +kernel
theorem dL_law_556 : decode cL_law 556 = .ok (.if_icmp .ne 54, 3) := by decide +kernel
theorem dL_law_559 : decode cL_law 559 = .ok (.aload_n 2, 1) := by decide +kernel
theorem dL_law_560 : decode cL_law 560 = .ok (.iload 16, 2) := by decide +kernel
theorem dL_law_562 : decode cL_law 562 = .ok (.iaload, 1) := by decide +kernel
theorem dL_law_563 : decode cL_law 563 = .ok (.ifCond .ne 8, 3) := by decide +kernel
theorem dL_law_566 : decode cL_law 566 = .ok (.bipush (-13), 2) := by decide +kernel
theorem dL_law_568 : decode cL_law 568 = .ok (.goto 7, 3) := by decide +kernel
theorem dL_law_571 : decode cL_law 571 = .ok (.aload_n 2, 1) := by decide +kernel
theorem dL_law_572 : decode cL_law 572 = .ok (.iload 16, 2) := by decide +kernel
theorem dL_law_574 : decode cL_law 574 = .ok (.iaload, 1) := by decide +kernel
theorem dL_law_575 : decode cL_law 575 = .ok (.istore 17, 2) := by decide +kernel
theorem dL_law_577 : decode cL_law 577 = .ok (.aload_n 1, 1) := by decide +kernel
theorem dL_law_578 : decode cL_law 578 = .ok (.iconst 1, 1) := by decide +kernel
theorem dL_law_579 : decode cL_law 579 = .ok (.iload 16, 2) := by decide +kernel
theorem dL_law_581 : decode cL_law 581 = .ok (.iconst 0, 1) := by decide +kernel
theorem dL_law_582 : decode cL_law 582 = .ok (.invokestatic 160, 3) := by decide +kernel
theorem dL_law_585 : decode cL_law 585 = .ok (.iload 17, 2) := by decide +kernel
theorem dL_law_587 : decode cL_law 587 = .ok (.if_icmp .ne 7, 3) := by decide +kernel
theorem dL_law_590 : decode cL_law 590 = .ok (.iconst 1, 1) := by decide +kernel
theorem dL_law_591 : decode cL_law 591 = .ok (.goto 4, 3) := by decide +kernel
theorem dL_law_594 : decode cL_law 594 = .ok (.iconst 0, 1) := by decide +kernel
theorem dL_law_595 : decode cL_law 595 = .ok (.istore 11, 2) := by decide +kernel
theorem dL_law_597 : decode cL_law 597 = .ok (.aload_n 2, 1) := by decide +kernel
theorem dL_law_598 : decode cL_law 598 = .ok (.aload 7, 2) := by decide +kernel
theorem dL_law_600 : decode cL_law 600 = .ok (.aload 8, 2) := by decide +kernel
theorem dL_law_602 : decode cL_law 602 = .ok (.iload 16, 2) := by decide +kernel
theorem dL_law_604 : decode cL_law 604 = .ok (.invokestatic 13, 3) := by decide +kernel
theorem dL_law_607 : decode cL_law 607 = .ok (.goto 243, 3) := by decide +kernel
theorem dL_law_610 : decode cL_law 610 = .ok (.iload 14, 2) := by decide +kernel
theorem dL_law_612 : decode cL_law 612 = .ok (.bipush 13, 2) := by decide +kernel
theorem dL_law_614 : decode cL_law 614 = .ok (.if_icmp .ne 30, 3) := by decide +kernel
theorem dL_law_617 : decode cL_law 617 = .ok (.aload_n 1, 1) := by decide +kernel
theorem dL_law_618 : decode cL_law 618 = .ok (.invokevirtual 164, 3) := by decide +kernel
theorem dL_law_621 : decode cL_law 621 = .ok (.aload_n 2, 1) := by decide +kernel
theorem dL_law_622 : decode cL_law 622 = .ok (.aload 4, 2) := by decide +kernel
theorem dL_law_624 : decode cL_law 624 = .ok (.aload 7, 2) := by decide +kernel
theorem dL_law_626 : decode cL_law 626 = .ok (.aload 8, 2) := by decide +kernel
theorem dL_law_628 : decode cL_law 628 = .ok (.invokestatic 31, 3) := by decide +kernel
theorem dL_law_631 : decode cL_law 631 = .ok (.if_icmp .ne 7, 3) := by decide +kernel
theorem dL_law_634 : decode cL_law 634 = .ok (.iconst 1, 1) := by decide +kernel
theorem dL_law_635 : decode cL_law 635 = .ok (.goto 4, 3) := by decide +kernel
theorem dL_law_638 : decode cL_law 638 = .ok (.iconst 0, 1) := by decide +kernel
theorem dL_law_639 : decode cL_law 639 = .ok (.istore 11, 2) := by decide +kernel
theorem dL_law_641 : decode cL_law 641 = .ok (.goto 209, 3) := by decide +kernel
theorem dL_law_644 : decode cL_law 644 = .ok (.iload 14, 2) := by decide +kernel
theorem dL_law_646 : decode cL_law 646 = .ok (.bipush 14, 2) := by decide +kernel
theorem dL_law_648 : decode cL_law 648 = .ok (.if_icmp .ne 150, 3) := by decide +kernel
theorem dL_law_651 : decode cL_law 651 = .ok (.iconst 1, 1) := by decide +kernel
theorem dL_law_652 : decode cL_law 652 = .ok (.iload 15, 2) := by decide +kernel
theorem dL_law_654 : decode cL_law 654 = .ok (.iload 15, 2) := by decide +kernel
theorem dL_law_656 : decode cL_law 656 = .ok (.iconst 5, 1) := by decide +kernel
theorem dL_law_657 : decode cL_law 657 = .ok (.irem, 1) := by decide +kernel
theorem dL_law_658 : decode cL_law 658 = .ok (.ifCond .ne 9, 3) := by decide +kernel
theorem dL_law_661 : decode cL_law 661 = .ok (.sipush 10000, 3) := by decide +kernel
theorem dL_law_664 : decode cL_law 664 = .ok (.goto 6, 3) := by decide +kernel
theorem dL_law_667 : decode cL_law 667 = .ok (.sipush 200, 3) := by decide +kernel
theorem dL_law_670 : decode cL_law 670 = .ok (.irem, 1) := by decide +kernel
theorem dL_law_671 : decode cL_law 671 = .ok (.iadd, 1) := by decide +kernel
theorem dL_law_672 : decode cL_law 672 = .ok (.istore 17, 2) := by decide +kernel
theorem dL_law_674 : decode cL_law 674 = .ok (.aload_n 2, 1) := by decide +kernel
theorem dL_law_675 : decode cL_law 675 = .ok (.aload 4, 2) := by decide +kernel
theorem dL_law_677 : decode cL_law 677 = .ok (.aload 5, 2) := by decide +kernel
theorem dL_law_679 : decode cL_law 679 = .ok (.aload 8, 2) := by decide +kernel
theorem dL_law_681 : decode cL_law 681 = .ok (.iconst 0, 1) := by decide +kernel
theorem dL_law_682 : decode cL_law 682 = .ok (.invokestatic 35, 3) := by decide +kernel
theorem dL_law_685 : decode cL_law 685 = .ok (.iload 17, 2) := by decide +kernel
theorem dL_law_687 : decode cL_law 687 = .ok (.if_icmp .gt 7, 3) := by decide +kernel
theorem dL_law_690 : decode cL_law 690 = .ok (.iconst 1, 1) := by decide +kernel
theorem dL_law_691 : decode cL_law 691 = .ok (.goto 4, 3) := by decide +kernel
theorem dL_law_694 : decode cL_law 694 = .ok (.iconst 0, 1) := by decide +kernel
theorem dL_law_695 : decode cL_law 695 = .ok (.istore 18, 2) := by decide +kernel
theorem dL_law_697 : decode cL_law 697 = .ok (.aload 8, 2) := by decide +kernel
theorem dL_law_699 : decode cL_law 699 = .ok (.bipush 6, 2) := by decide +kernel
theorem dL_law_701 : decode cL_law 701 = .ok (.iaload, 1) := by decide +kernel
theorem dL_law_702 : decode cL_law 702 = .ok (.istore 19, 2) := by decide +kernel
theorem dL_law_704 : decode cL_law 704 = .ok (.iload 18, 2) := by decide +kernel
theorem dL_law_706 : decode cL_law 706 = .ok (.ifCond .eq 53, 3) := by decide +kernel
theorem dL_law_709 : decode cL_law 709 = .ok (.aload 8, 2) := by decide +kernel
theorem dL_law_711 : decode cL_law 711 = .ok (.iconst 1, 1) := by decide +kernel
theorem dL_law_712 : decode cL_law 712 = .ok (.iload 17, 2) := by decide +kernel
theorem dL_law_714 : decode cL_law 714 = .ok (.iastore, 1) := by decide +kernel
theorem dL_law_715 : decode cL_law 715 = .ok (.aload_n 2, 1) := by decide +kernel
theorem dL_law_716 : decode cL_law 716 = .ok (.invokestatic 27, 3) := by decide +kernel
theorem dL_law_719 : decode cL_law 719 = .ok (.iload 17, 2) := by decide +kernel
theorem dL_law_721 : decode cL_law 721 = .ok (.if_icmp .le 14, 3) := by decide +kernel
theorem dL_law_724 : decode cL_law 724 = .ok (.aload_n 2, 1) := by decide +kernel
theorem dL_law_725 : decode cL_law 725 = .ok (.aload 4, 2) := by decide +kernel
theorem dL_law_727 : decode cL_law 727 = .ok (.aload 7, 2) := by decide +kernel
theorem dL_law_729 : decode cL_law 729 = .ok (.aload 8, 2) := by decide +kernel
theorem dL_law_731 : decode cL_law 731 = .ok (.invokestatic 31, 3) := by decide +kernel
theorem dL_law_734 : decode cL_law 734 = .ok (.pop, 1) := by decide +kernel
theorem dL_law_735 : decode cL_law 735 = .ok (.aload_n 2, 1) := by decide +kernel
theorem dL_law_736 : decode cL_law 736 = .ok (.invokestatic 27, 3) := by decide +kernel
theorem dL_law_739 : decode cL_law 739 = .ok (.iload 17, 2) := by decide +kernel
theorem dL_law_741 : decode cL_law 741 = .ok (.if_icmp .le 18, 3) := by decide +kernel
theorem dL_law_744 : decode cL_law 744 = .ok (.aload_n 2, 1) := by decide +kernel
theorem dL_law_745 : decode cL_law 745 = .ok (.aload 7, 2) := by decide +kernel
theorem dL_law_747 : decode cL_law 747 = .ok (.aload 8, 2) := by decide +kernel
theorem dL_law_749 : decode cL_law 749 = .ok (.aload 9, 2) := by decide +kernel
theorem dL_law_751 : decode cL_law 751 = .ok (.aload 10, 2) := by decide +kernel
theorem dL_law_753 : decode cL_law 753 = .ok (.invokestatic 39, 3) := by decide +kernel
theorem dL_law_756 : decode cL_law 756 = .ok (.goto (-21), 3) := by decide +kernel
theorem dL_law_759 : decode cL_law 759 = .ok (.aload_n 1, 1) := by decide +kernel
theorem dL_law_760 : decode cL_law 760 = .ok (.iconst 2, 1) := by decide +kernel
theorem dL_law_761 : decode cL_law 761 = .ok (.iload 17, 2) := by decide +kernel
theorem dL_law_763 : decode cL_law 763 = .ok (.iconst 0, 1) := by decide +kernel
theorem dL_law_764 : decode cL_law 764 = .ok (.invokestatic 160, 3) := by decide +kernel
theorem dL_law_767 : decode cL_law 767 = .ok (.iload 18, 2) := by decide +kernel
theorem dL_law_769 : decode cL_law 769 = .ok (.ifCond .eq 14, 3) := by decide +kernel
theorem dL_law_772 : decode cL_law 772 = .ok (.aload 8, 2) := by decide +kernel
theorem dL_law_774 : decode cL_law 774 = .ok (.bipush 6, 2) := by decide +kernel
theorem dL_law_776 : decode cL_law 776 = .ok (.iaload, 1) := by decide +kernel
theorem dL_law_777 : decode cL_law 777 = .ok (.iload 19, 2) := by decide +kernel
theorem dL_law_779 : decode cL_law 779 = .ok (.isub, 1) := by decide +kernel
theorem dL_law_780 : decode cL_law 780 = .ok (.goto 5, 3) := by decide +kernel
theorem dL_law_783 : decode cL_law 783 = .ok (.bipush (-13), 2) := by decide +kernel
theorem dL_law_785 : decode cL_law 785 = .ok (.if_icmp .ne 7, 3) := by decide +kernel
theorem dL_law_788 : decode cL_law 788 = .ok (.iconst 1, 1) := by decide +kernel
theorem dL_law_789 : decode cL_law 789 = .ok (.goto 4, 3) := by decide +kernel
theorem dL_law_792 : decode cL_law 792 = .ok (.iconst 0, 1) := by decide +kernel
theorem dL_law_793 : decode cL_law 793 = .ok (.istore 11, 2) := by decide +kernel
theorem dL_law_795 : decode cL_law 795 = .ok (.goto 55, 3) := by decide +kernel
theorem dL_law_798 : decode cL_law 798 = .ok (.aload 8, 2) := by decide +kernel
theorem dL_law_800 : decode cL_law 800 = .ok (.iconst 2, 1) := by decide +kernel
theorem dL_law_801 : decode cL_law 801 = .ok (.iaload, 1) := by decide +kernel
theorem dL_law_802 : decode cL_law 802 = .ok (.istore 17, 2) := by decide +kernel
theorem dL_law_804 : decode cL_law 804 = .ok (.aload 8, 2) := by decide +kernel
theorem dL_law_806 : decode cL_law 806 = .ok (.iconst 2, 1) := by decide +kernel
theorem dL_law_807 : decode cL_law 807 = .ok (.iconst 1, 1) := by decide +kernel
theorem dL_law_808 : decode cL_law 808 = .ok (.iload 15, 2) := by decide +kernel
theorem dL_law_810 : decode cL_law 810 = .ok (.iload 15, 2) := by decide +kernel
theorem dL_law_812 : decode cL_law 812 = .ok (.iconst 3, 1) := by decide +kernel
theorem dL_law_813 : decode cL_law 813 = .ok (.irem, 1) := by decide +kernel
theorem dL_law_814 : decode cL_law 814 = .ok (.ifCond .ne 9, 3) := by decide +kernel
theorem dL_law_817 : decode cL_law 817 = .ok (.sipush 1000, 3) := by decide +kernel
theorem dL_law_820 : decode cL_law 820 = .ok (.goto 5, 3) := by decide +kernel
theorem dL_law_823 : decode cL_law 823 = .ok (.bipush 50, 2) := by decide +kernel
theorem dL_law_825 : decode cL_law 825 = .ok (.irem, 1) := by decide +kernel
theorem dL_law_826 : decode cL_law 826 = .ok (.iadd, 1) := by decide +kernel
theorem dL_law_827 : decode cL_law 827 = .ok (.iastore, 1) := by decide +kernel
theorem dL_law_828 : decode cL_law 828 = .ok (.aload_n 1, 1) := by decide +kernel
theorem dL_law_829 : decode cL_law 829 = .ok (.iconst 3, 1) := by decide +kernel
theorem dL_law_830 : decode cL_law 830 = .ok (.aload 8, 2) := by decide +kernel
theorem dL_law_832 : decode cL_law 832 = .ok (.iconst 2, 1) := by decide +kernel
theorem dL_law_833 : decode cL_law 833 = .ok (.iaload, 1) := by decide +kernel
theorem dL_law_834 : decode cL_law 834 = .ok (.iconst 0, 1) := by decide +kernel
theorem dL_law_835 : decode cL_law 835 = .ok (.invokestatic 160, 3) := by decide +kernel
theorem dL_law_838 : decode cL_law 838 = .ok (.iload 17, 2) := by decide +kernel
theorem dL_law_840 : decode cL_law 840 = .ok (.if_icmp .ne 7, 3) := by decide +kernel
theorem dL_law_843 : decode cL_law 843 = .ok (.iconst 1, 1) := by decide +kernel
theorem dL_law_844 : decode cL_law 844 = .ok (.goto 4, 3) := by decide +kernel
theorem dL_law_847 : decode cL_law 847 = .ok (.iconst 0, 1) := by decide +kernel
theorem dL_law_848 : decode cL_law 848 = .ok (.istore 11, 2) := by decide +kernel
theorem dL_law_850 : decode cL_law 850 = .ok (.iload 11, 2) := by decide +kernel
theorem dL_law_852 : decode cL_law 852 = .ok (.ifCond .eq 30, 3) := by decide +kernel
theorem dL_law_855 : decode cL_law 855 = .ok (.aload_n 1, 1) := by decide +kernel
theorem dL_law_856 : decode cL_law 856 = .ok (.aload_n 2, 1) := by decide +kernel
theorem dL_law_857 : decode cL_law 857 = .ok (.aload_n 3, 1) := by decide +kernel
theorem dL_law_858 : decode cL_law 858 = .ok (.aload 4, 2) := by decide +kernel
theorem dL_law_860 : decode cL_law 860 = .ok (.aload 5, 2) := by decide +kernel
theorem dL_law_862 : decode cL_law 862 = .ok (.aload 7, 2) := by decide +kernel
theorem dL_law_864 : decode cL_law 864 = .ok (.aload 8, 2) := by decide +kernel
theorem dL_law_866 : decode cL_law 866 = .ok (.aload 9, 2) := by decide +kernel
theorem dL_law_868 : decode cL_law 868 = .ok (.aload 10, 2) := by decide +kernel
theorem dL_law_870 : decode cL_law 870 = .ok (.iload 15, 2) := by decide +kernel
theorem dL_law_872 : decode cL_law 872 = .ok (.invokestatic 143, 3) := by decide +kernel
theorem dL_law_875 : decode cL_law 875 = .ok (.ifCond .eq 7, 3) := by decide +kernel
theorem dL_law_878 : decode cL_law 878 = .ok (.iconst 1, 1) := by decide +kernel
theorem dL_law_879 : decode cL_law 879 = .ok (.goto 4, 3) := by decide +kernel
theorem dL_law_882 : decode cL_law 882 = .ok (.iconst 0, 1) := by decide +kernel
theorem dL_law_883 : decode cL_law 883 = .ok (.istore 11, 2) := by decide +kernel
theorem dL_law_885 : decode cL_law 885 = .ok (.iinc 12 1, 3) := by decide +kernel
theorem dL_law_888 : decode cL_law 888 = .ok (.goto (-791), 3) := by decide +kernel
theorem dL_law_891 : decode cL_law 891 = .ok (.iload 11, 2) := by decide +kernel
theorem dL_law_893 : decode cL_law 893 = .ok (.ireturn, 1) := by decide +kernel
end
section
/-! ===== the state that both sides hold, by fields' numbers; its updates ===== -/
abbrev St : Type := (Nat → Int32) × (Nat → Int64) × (Nat → Nat → Int32) × (Nat → Nat → Int64) × (Nat → Nat → Bool)
def bI (b : Bool) : Int32 := if b then 1 else 0
def gI (σ : St) (j : Nat) : Int32 := σ.1 j
def gL (σ : St) (j : Nat) : Int64 := σ.2.1 j
def gS (σ : St) (j k : Nat) : Int32 := σ.2.2.1 j k
def gT (σ : St) (j k : Nat) : Int64 := σ.2.2.2.1 j k
def gB (σ : St) (j k : Nat) : Bool := σ.2.2.2.2 j k
def uI (σ : St) (j : Nat) (v : Int32) : St := (va_up σ.1 j v, σ.2)
def uL (σ : St) (j : Nat) (v : Int64) : St := (σ.1, va_up σ.2.1 j v, σ.2.2)
def uS (σ : St) (j k : Nat) (v : Int32) : St := (σ.1, σ.2.1, va_up σ.2.2.1 j (va_up (σ.2.2.1 j) k v), σ.2.2.2)
def uT (σ : St) (j k : Nat) (v : Int64) : St := (σ.1, σ.2.1, σ.2.2.1, va_up σ.2.2.2.1 j (va_up (σ.2.2.2.1 j) k v), σ.2.2.2.2)
def uB (σ : St) (j k : Nat) (v : Bool) : St := (σ.1, σ.2.1, σ.2.2.1, σ.2.2.2.1, va_up σ.2.2.2.2 j (va_up (σ.2.2.2.2 j) k v))
theorem bI_t : bI true = 1 := rfl
theorem bI_f : bI false = 0 := rfl
theorem bI_0 {b : Bool} : bI b = 0 ↔ b = false := by cases b <;> decide
theorem bI_n0 {b : Bool} : ¬ bI b = 0 ↔ b = true := by cases b <;> decide
theorem bI_nar (b : Bool) : narrow .boolean (.int (bI b)) = .int (bI b) := by cases b <;> rfl
theorem bI_fit (b : Bool) : fits .boolean (.int (bI b)) = true := by cases b <;> rfl
theorem bI_vp (b : Bool) : vp_nar .boolean (bI b) = bI b := by cases b <;> rfl
theorem bI_or (b : Bool) : bI b = 0 ∨ bI b = 1 := by cases b <;> decide
theorem bI_of {x : Int32} (h : x = 0 ∨ x = 1) : x = bI (decide (x = 1)) := by rcases h with rfl | rfl <;> decide
theorem bI_inj {a b : Bool} (h : bI a = bI b) : a = b := by revert h; cases a <;> cases b <;> decide
theorem bI_eqL {a b : Bool} : (bI a).toInt64 = (if b then (1 : Int64) else 0) ↔ a = b := by cases a <;> cases b <;> decide
/-! ===== the worlds ===== -/
def cF (ar : Nat) (σ : St) : List Value := [.ref ar, .int (gI σ 1), .long (gL σ 2), .int (gI σ 3), .int (gI σ 4), .long (gL σ 5), .int (gI σ 6), .int (gI σ 7), .long (gL σ 8), .long (gL σ 9), .long (gL σ 10), .int (gI σ 11), .int (gI σ 12)]
def sF (σ : St) (k : Nat) : List Value := [.int (gS σ 0 k), .int (bI (gB σ 1 k)), .int (bI (gB σ 2 k)), .int (gS σ 3 k), .int (gS σ 4 k), .int (gS σ 5 k), .long (gT σ 6 k), .long (gT σ 7 k), .int (gS σ 8 k)]
def xQ (f : Nat → Option Nat) : (Nat → Int32) ⊕ (Nat → Int64) ⊕ (Nat → UInt32) ⊕ (Nat → UInt64) ⊕ (Nat → Option Nat) := .inr (.inr (.inr (.inr f)))
def cPl (ad : Nat → Nat) (σ : St) : va_W := (List.range 32).map (fun k => (ad k, .inr (0, sF σ k)))
def cW (ax ar : Nat) (ad : Nat → Nat) (cO : ClassId) (σ : St) : va_W := (ax, .inr (1, cF ar σ)) :: (ar, .inl (cO, 32, .inr (.inr (.inr (.inr (fun k => some (ad k))))))) :: cPl ad σ
theorem cPl_get (ad : Nat → Nat) (σ : St) {k : Nat} (h : k < 32) : (cPl ad σ)[k]? = some (ad k, .inr (0, sF σ k)) := by simp [cPl, h]
theorem cW_slot {ax ar : Nat} {ad : Nat → Nat} {cO : ClassId} (σ : St) {k : Nat} (h : k < 32) : (cW ax ar ad cO σ)[k + 2]? = some (ad k, .inr (0, sF σ k)) := by
  show (cPl ad σ)[k]? = _
  exact cPl_get ad σ h
theorem cPl_set (ad : Nat → Nat) (σ τ : St) {k : Nat} (h : k < 32) {e : va_E} (he : e = .inr (0, sF τ k)) (ho : ∀ j, j ≠ k → sF τ j = sF σ j) : (cPl ad σ).set k (ad k, e) = cPl ad τ := by
  apply List.ext_getElem?
  intro j
  by_cases hj : j = k
  · subst hj
    rw [List.getElem?_set_self (by simpa [cPl] using h), cPl_get ad τ h, he]
  · rw [List.getElem?_set_ne (Ne.symm hj)]
    simp only [cPl, List.getElem?_map]
    cases hr : (List.range 32)[j]? with
    | none => rfl
    | some b =>
      have hb : b = j := by
        have h9 := List.getElem?_eq_some_iff.mp hr
        obtain ⟨h10, h11⟩ := h9
        simpa using h11.symm
      subst hb
      simp [ho b hj]
theorem cW_setS {ax ar : Nat} {ad : Nat → Nat} {cO : ClassId} (σ τ : St) {k : Nat} (h : k < 32) {e : va_E} (he : e = .inr (0, sF τ k)) (ho : ∀ j, j ≠ k → sF τ j = sF σ j) (hc : cF ar τ = cF ar σ) : (cW ax ar ad cO σ).set (k + 2) (ad k, e) = cW ax ar ad cO τ := by
  show (ax, Sum.inr (1, cF ar σ)) :: (ar, Sum.inl (cO, 32, .inr (.inr (.inr (.inr (fun k => some (ad k))))))) :: (cPl ad σ).set k (ad k, e) = _
  rw [cPl_set ad σ τ h he ho]
  unfold cW
  rw [hc]
theorem cW_setC {ax ar : Nat} {ad : Nat → Nat} {cO : ClassId} (σ τ : St) {e : va_E} (he : e = .inr (1, cF ar τ)) (ho : ∀ j, sF τ j = sF σ j) : (cW ax ar ad cO σ).set 0 (ax, e) = cW ax ar ad cO τ := by
  show (ax, e) :: (ar, Sum.inl (cO, 32, .inr (.inr (.inr (.inr (fun k => some (ad k))))))) :: cPl ad σ = _
  unfold cW cPl
  rw [he, show (fun k => (ad k, (Sum.inr (0, sF τ k) : va_E))) = (fun k => (ad k, Sum.inr (0, sF σ k))) from funext fun k => by rw [ho k]]
theorem cW_fst (ax ar : Nat) (ad : Nat → Nat) (cO : ClassId) (σ τ : St) : (cW ax ar ad cO σ).map Prod.fst = (cW ax ar ad cO τ).map Prod.fst := by
  simp [cW, cPl]
theorem va_D_same {A : Nat → Prop} {w w' : va_W} (h : va_D A w) (e : w'.map Prod.fst = w.map Prod.fst) : va_D A w' := by
  have key : ∀ (i : Nat) (p : Nat × va_E), w'[i]? = some p → ∃ q, w[i]? = some q ∧ q.1 = p.1 := by
    intro i p hp
    have h1 : (w'.map Prod.fst)[i]? = some p.1 := by rw [List.getElem?_map, hp]; rfl
    rw [e, List.getElem?_map] at h1
    cases hq : w[i]? with
    | none => rw [hq] at h1; cases h1
    | some q => rw [hq] at h1; exact ⟨q, rfl, Option.some.inj h1⟩
  refine ⟨fun i j p q hp hq hpq => ?_, fun k q hq => ?_⟩
  · obtain ⟨p0, h1, h2⟩ := key i p hp
    obtain ⟨q0, h3, h4⟩ := key j q hq
    exact h.1 i j p0 q0 h1 h3 (h2.trans (hpq.trans h4.symm))
  · obtain ⟨q0, h1, h2⟩ := key k q hq
    rw [← h2]
    exact h.2 k q0 h1
/-! ===== contracts: start, end ===== -/
/-- what a method's start says beside its world: closed under what a caller does before the call -/
def xEok (E : (Nat → Prop) → State → Heap → Prop) : Prop := ∀ (A B : Nat → Prop) (u U : State) (H H1 : Heap), u.WarmedH U.vm → (∀ a : Nat, a < H.size → ¬ A a → H1[a]? = H[a]?) → (∀ q, B q → A q) → E A u H → E B U H1
def xPre {S : Type} (D : va_G) (tys : List (ClassId × FieldType)) (E : (Nat → Prop) → State → Heap → Prop) (w : S → va_W) (σ : S) (sz : Nat) (U : State) : Prop :=
  U.heap.size = sz ∧ va_P D vwCl (w σ) U.heap ∧ va_K D vwCl tys U ∧ va_D (fun _ => True) (w σ) ∧ E (va_A (w σ) sz) U U.heap
def xB {S : Type} (D : va_G) (tys : List (ClassId × FieldType)) (w : S → va_W) (A : Nat → Prop) (u : S) (t : State) : Prop :=
  va_P D vwCl (w u) t.heap ∧ va_K D vwCl tys t ∧ va_D A (w u)
def xXC {S : Type} (D : va_G) (tys : List (ClassId × FieldType)) (w : S → va_W) (A : Nat → Prop) (σ : S) (xc : String → Prop) : String → State → State → Prop :=
  vx_X (fun _ : Unit => True) (fun E _ t => xc E ∧ xB D tys w A σ t) A
theorem xPre_blind {S : Type} {D : va_G} {tys : List (ClassId × FieldType)} {E : (Nat → Prop) → State → Heap → Prop} {w : S → va_W} {σ : S} {sz : Nat} {av : List Value} (hE : xEok E) : FrameBlind (va_Pc av (xPre D tys E w σ sz)) := by
  intro a U g mk q
  obtain ⟨q0, q1, q2, q3, q4, q5⟩ := q
  exact ⟨q0, q1, q2, va_K.moved (u := U) (U := U.calling g mk a) (Vm.Alike.refl U.vm) q3, q4, hE (va_A (w σ) sz) (va_A (w σ) sz) U (U.calling g mk a) U.heap U.heap (State.WarmedH.refl U) (fun _ _ _ => rfl) (fun _ h => h) q5⟩
theorem xA_in {S : Type} {A0 : Nat → Prop} {w : S → va_W} {σ : S} {H0 H : Heap} {locs : List Loc} (hD : va_D A0 (w σ)) (hS : va_S A0 H0 H locs) (hA : ∀ q, H0.size ≤ q → A0 q) : ∀ q, va_A (w σ) H.size q → A0 q := by
  intro q h
  rcases h with ⟨k, e, h⟩ | h
  · exact hD.2 k (q, e) h
  · exact hA q (Nat.le_trans hS.1 h)
theorem xPre_ok {S : Type} {s : State} {D : va_G} {tys : List (ClassId × FieldType)} {E : (Nat → Prop) → State → Heap → Prop} {w : S → va_W} {σ : S} {A0 : Nat → Prop} {H : Heap} {locs : List Loc} {av : List Value} (hE : xEok E) (hE0 : E A0 s s.heap) (hK : va_K D vwCl tys s) (hA : ∀ q, s.heap.size ≤ q → A0 q)
    (hP : va_P D vwCl (w σ) H) (hD : va_D A0 (w σ)) (hS : va_S A0 s.heap H locs) : ∀ U : State, U.heap = H → s.WarmedH U.vm → va_Pc av (xPre D tys E w σ H.size) av.toArray U := by
  intro U hU hW
  refine ⟨rfl, by rw [hU], by rw [hU]; exact hP, va_K.moved hW.alike hK, hD.weaken (fun _ _ _ _ => trivial), ?_⟩
  rw [hU]
  exact hE A0 _ s U s.heap H hW hS.2.1 (xA_in hD hS hA) hE0
theorem xPreS {S : Type} {s : State} {D : va_G} {tys : List (ClassId × FieldType)} {E : (Nat → Prop) → State → Heap → Prop} {w : S → va_W} {σ : S} {A0 : Nat → Prop} {H : Heap} {locs : List Loc} {av : List Value} (hE : xEok E) (hE0 : E A0 s s.heap) (hK : va_K D vwCl tys s) (hA : ∀ q, s.heap.size ≤ q → A0 q)
    (hP : va_P D vwCl (w σ) H) (hD : va_D A0 (w σ)) (hS : va_S A0 s.heap H locs) : PreS s H (va_Pc av (xPre D tys E w σ H.size)) av := ⟨xPre_blind hE, xPre_ok hE hE0 hK hA hP hD hS⟩
theorem xPreV {S : Type} {s : State} {D : va_G} {tys : List (ClassId × FieldType)} {E : (Nat → Prop) → State → Heap → Prop} {w : S → va_W} {σ : S} {A0 : Nat → Prop} {H : Heap} {locs : List Loc} {b : Nat} {As : List Value} {C : String} (hE : xEok E) (hE0 : E A0 s s.heap) (hK : va_K D vwCl tys s) (hA : ∀ q, s.heap.size ≤ q → A0 q)
    (hP : va_P D vwCl (w σ) H) (hD : va_D A0 (w σ)) (hS : va_S A0 s.heap H locs) {q0 ci : Nat} {r : vw_C} {fs : List Value} (hc : vwCl[ci]? = some r) (he : (w σ)[q0]? = some (b, .inr (ci, fs))) (hC : r.1 = C) : PreV s H C b (va_Pc (.ref b :: As) (xPre D tys E w σ H.size)) As := by
  subst hC
  exact ⟨xPre_blind hE, va_recv hK hP hc he, xPre_ok hE hE0 hK hA hP hD hS⟩
/-- a method's body, opened: it returns -/
theorem xOpen {S : Type} {l : Launch} {y : MethodName} {ws ws' : List Cond} {rm : Room} {cc : ByteArray} {maxL : Nat} {ret : Option FieldType} {D : va_G} {tys : List (ClassId × FieldType)} {E : (Nat → Prop) → State → Heap → Prop} {w : S → va_W} {σ : S} {av : List Value} {sz mc ms : Nat} {QQ : (Nat → Prop) → Array Value → State → Outcome → State → Prop}
    (hy : plainName y.cls = true) (hw : ws = Cond.code y cc maxL ret :: ws') (hn : (lg_sl av).length ≤ maxL)
    (body : ∀ (p : Program) (e : Env) (s : State) (m : MethodId) (below : List Frame) (meth : Method) (c : Code) (A : Nat → Prop), p.tables.exec = Jvm.exec → c.code = cc → meth.sig.returnType = ret → c.maxLocals = maxL → s.vm.findClass y.cls = some m.cls → (∀ w ∈ ws, w.before av.toArray s = true) → meth.locks = false → meth.name = y.name →
      va_K D vwCl tys s → E A s s.heap → (∀ q, s.heap.size ≤ q → A q) → va_P D vwCl (w σ) s.heap → va_D A (w σ) → va_S A s.heap s.heap [] → ∀ ls : Array Slot, lv_has ls maxL (lv_args 0 av) →
      W p l e (headSpec ws rm).room s m av.toArray below meth c s.heap [] 0 0 (MQ below (QQ A) av.toArray s mc ms A) (F0 m 0 ls [])) :
    Met l y ws rm (va_Pc av (xPre D tys E w σ sz)) (QQ (va_A (w σ) sz)) mc ms (va_A (w σ) sz) := by
  refine Met.ofW (cc := cc) (maxL := maxL) (ret := ret) hy hw ?_
  intro p e s m args below meth c s₁ B hml hv
  obtain ⟨rfl, hsz, hP, hK, hD0, hE⟩ := hv
  subst hsz
  have hl := lv_entry av (n := maxL) hn
  rw [lg_entry_eq]
  have hD := hD0.self (sz := s.heap.size)
  exact body p e s m below meth c (va_A (w σ) s.heap.size) B.exec B.bytes B.returns hml (findClass_of_methodNamed B.named) (atoms_spec (ws := ws) B.pre) B.notSynchronized (name_of_methodNamed B.named B.method).1 hK hE (fun q h => Or.inr h) hP hD va_S.rf _ hl
/-- .. it returns or throws -/
theorem xxOpen {S : Type} {l : Launch} {y : MethodName} {ws ws' : List Cond} {rm : Room} {cc : ByteArray} {maxL : Nat} {ret : Option FieldType} {D : va_G} {tys : List (ClassId × FieldType)} {E : (Nat → Prop) → State → Heap → Prop} {w : S → va_W} {σ : S} {av : List Value} {sz mc ms : Nat} {QQ : (Nat → Prop) → Array Value → State → Outcome → State → Prop} {XX : (Nat → Prop) → String → State → State → Prop}
    (hy : plainName y.cls = true) (hw : ws = Cond.code y cc maxL ret :: ws') (hn : (lg_sl av).length ≤ maxL)
    (body : ∀ (p : Program) (e : Env) (s : State) (m : MethodId) (below : List Frame) (meth : Method) (c : Code) (A : Nat → Prop), p.tables.exec = Jvm.exec → c.code = cc → meth.sig.returnType = ret → c.maxLocals = maxL → s.vm.findClass y.cls = some m.cls → (∀ w ∈ ws, w.before av.toArray s = true) → meth.locks = false → (∀ x ∈ c.exceptionTable.toList, False) →
      va_K D vwCl tys s → E A s s.heap → (∀ q, s.heap.size ≤ q → A q) → va_P D vwCl (w σ) s.heap → va_D A (w σ) → va_S A s.heap s.heap [] → ∀ ls : Array Slot, lv_has ls maxL (lv_args 0 av) →
      W p l e (headSpec ws rm).room s m av.toArray below meth c s.heap [] 0 0 (vx_MQ below (QQ A) (XX A) av.toArray s mc ms A) (F0 m 0 ls [])) :
    vx_Met l y ws rm (va_Pc av (xPre D tys E w σ sz)) (QQ (va_A (w σ) sz)) (XX (va_A (w σ) sz)) mc ms (va_A (w σ) sz) := by
  refine vx_ofW (cc := cc) (maxL := maxL) (ret := ret) hy hw ?_
  intro p e s m args below meth c s₁ B hml ht hv
  obtain ⟨rfl, hsz, hP, hK, hD0, hE⟩ := hv
  subst hsz
  have hl := lv_entry av (n := maxL) hn
  rw [lg_entry_eq]
  have hD := hD0.self (sz := s.heap.size)
  exact body p e s m below meth c (va_A (w σ) s.heap.size) B.exec B.bytes B.returns hml (findClass_of_methodNamed B.named) (atoms_spec (ws := ws) B.pre) B.notSynchronized ht hK hE (fun q h => Or.inr h) hP hD va_S.rf _ hl
end
section
section XR
variable {p : Program} {l : Launch} {e : Env} {R : Room} {s : State} {m : MethodId} {args : Array Value} {below : List Frame} {meth : Method} {c : Code} {H : Heap} {locs : List Loc} {cells slots : Nat} {Q : State → Prop}
variable {cc : ByteArray} {pc : Nat} {ls : Array Slot} {rest st0 : List Value} {D : va_G} {tys : List (ClassId × FieldType)} {A0 : Nat → Prop} {E : (Nat → Prop) → State → Heap → Prop}
/-! ===== branches over truth values, long comparisons, references that may be null ===== -/
theorem x_ifeq (hx : p.tables.exec = Jvm.exec) (hb : c.code = cc) {b : Bool} {off : Int} {tgt : Nat} (hdg : decode cc pc = .ok (.ifCond .eq off, 3)) (ht : (pc : Int) + off = (tgt : Int))
    (kt : b = false → W p l e R s m args below meth c H locs cells slots Q (F0 m tgt ls rest)) (kf : b = true → W p l e R s m args below meth c H locs cells slots Q (F0 m (pc + 3) ls rest)) : W p l e R s m args below meth c H locs cells slots Q (F0 m pc ls (.int (bI b) :: rest)) :=
  lv_if_eq hx hb hdg ht (fun h => kt (bI_0.mp h)) (fun h => kf (bI_n0.mp h))
theorem x_ifne (hx : p.tables.exec = Jvm.exec) (hb : c.code = cc) {b : Bool} {off : Int} {tgt : Nat} (hdg : decode cc pc = .ok (.ifCond .ne off, 3)) (ht : (pc : Int) + off = (tgt : Int))
    (kt : b = true → W p l e R s m args below meth c H locs cells slots Q (F0 m tgt ls rest)) (kf : b = false → W p l e R s m args below meth c H locs cells slots Q (F0 m (pc + 3) ls rest)) : W p l e R s m args below meth c H locs cells slots Q (F0 m pc ls (.int (bI b) :: rest)) :=
  lv_if_ne hx hb hdg ht (fun h => kt (bI_n0.mp h)) (fun h => kf (bI_0.mp h))
theorem lgc_lt {x y : Int64} : lg_cmp x y < 0 ↔ x < y := by
  unfold lg_cmp
  by_cases h1 : y < x
  · simp only [h1, if_true]
    exact ⟨fun h => absurd h (by decide), fun h => absurd (Int64.lt_iff_toInt_lt.mp h1) (Int.not_lt.mpr (Int.le_of_lt (Int64.lt_iff_toInt_lt.mp h)))⟩
  · by_cases h2 : x = y
    · subst h2
      simp only [h1, if_false, if_true]
      exact ⟨fun h => absurd h (by decide), fun h => absurd h (by simp)⟩
    · simp only [h1, h2, if_false]
      refine ⟨fun _ => ?_, fun _ => by decide⟩
      rw [Int64.lt_iff_toInt_lt] at h1 ⊢
      have h3 : x.toInt ≠ y.toInt := fun q => h2 (Int64.toInt_inj.mp q)
      omega
theorem lgc_eq {x y : Int64} : lg_cmp x y = 0 ↔ x = y := by
  unfold lg_cmp
  by_cases h1 : y < x
  · simp only [h1, if_true]
    exact ⟨fun h => absurd h (by decide), fun h => by subst h; exact absurd (Int64.lt_iff_toInt_lt.mp h1) (Int.lt_irrefl _)⟩
  · by_cases h2 : x = y
    · subst h2
      simp only [h1, if_false, if_true]
    · simp only [h1, h2, if_false]
      exact ⟨fun h => absurd h (by decide), fun h => h.elim⟩
theorem lgc_gt {x y : Int64} : 0 < lg_cmp x y ↔ y < x := by
  unfold lg_cmp
  by_cases h1 : y < x
  · simp only [h1, if_true]
    exact ⟨fun _ => trivial, fun _ => by decide⟩
  · by_cases h2 : x = y
    · subst h2
      simp only [h1, if_false, if_true]
      exact ⟨fun h => absurd h (by decide), fun h => h.elim⟩
    · simp only [h1, h2, if_false]
      exact ⟨fun h => absurd h (by decide), fun h => h.elim⟩
theorem i_lt_ge {x y : Int32} : x ≤ y ↔ ¬ y < x := by
  rw [Int32.lt_iff_toInt_lt, Int32.le_iff_toInt_le]; omega
theorem x_lt (hx : p.tables.exec = Jvm.exec) (hb : c.code = cc) {x y : Int64} {off : Int} {tgt : Nat} (hd0 : decode cc pc = .ok (.lcmp, 1)) (hdg : decode cc (pc + 1) = .ok (.ifCond .lt off, 3)) (ht : ((pc + 1 : Nat) : Int) + off = (tgt : Int))
    (kt : x < y → W p l e R s m args below meth c H locs cells slots Q (F0 m tgt ls rest)) (kf : ¬ x < y → W p l e R s m args below meth c H locs cells slots Q (F0 m (pc + 1 + 3) ls rest)) : W p l e R s m args below meth c H locs cells slots Q (F0 m pc ls (.long y :: .long x :: rest)) :=
  W.lcmp hx hb hd0 (lv_if_lt hx hb hdg ht (fun h => kt (lgc_lt.mp h)) (fun h => kf (fun q => h (lgc_lt.mpr q))))
theorem x_ge (hx : p.tables.exec = Jvm.exec) (hb : c.code = cc) {x y : Int64} {off : Int} {tgt : Nat} (hd0 : decode cc pc = .ok (.lcmp, 1)) (hdg : decode cc (pc + 1) = .ok (.ifCond .ge off, 3)) (ht : ((pc + 1 : Nat) : Int) + off = (tgt : Int))
    (kt : ¬ x < y → W p l e R s m args below meth c H locs cells slots Q (F0 m tgt ls rest)) (kf : x < y → W p l e R s m args below meth c H locs cells slots Q (F0 m (pc + 1 + 3) ls rest)) : W p l e R s m args below meth c H locs cells slots Q (F0 m pc ls (.long y :: .long x :: rest)) :=
  W.lcmp hx hb hd0 (lv_if_ge hx hb hdg ht (fun h => kt (fun q => (i_lt_ge.mp h) (lgc_lt.mpr q))) (fun h => kf (lgc_lt.mp (Classical.byContradiction fun q => h (i_lt_ge.mpr q)))))
theorem x_le (hx : p.tables.exec = Jvm.exec) (hb : c.code = cc) {x y : Int64} {off : Int} {tgt : Nat} (hd0 : decode cc pc = .ok (.lcmp, 1)) (hdg : decode cc (pc + 1) = .ok (.ifCond .le off, 3)) (ht : ((pc + 1 : Nat) : Int) + off = (tgt : Int))
    (kt : ¬ y < x → W p l e R s m args below meth c H locs cells slots Q (F0 m tgt ls rest)) (kf : y < x → W p l e R s m args below meth c H locs cells slots Q (F0 m (pc + 1 + 3) ls rest)) : W p l e R s m args below meth c H locs cells slots Q (F0 m pc ls (.long y :: .long x :: rest)) :=
  W.lcmp hx hb hd0 (lv_if_le hx hb hdg ht (fun h => kt (fun q => (i_lt_ge.mp h) (lgc_gt.mpr q))) (fun h => kf (lgc_gt.mp (Classical.byContradiction fun q => h (i_lt_ge.mpr q)))))
theorem x_eq (hx : p.tables.exec = Jvm.exec) (hb : c.code = cc) {x y : Int64} {off : Int} {tgt : Nat} (hd0 : decode cc pc = .ok (.lcmp, 1)) (hdg : decode cc (pc + 1) = .ok (.ifCond .eq off, 3)) (ht : ((pc + 1 : Nat) : Int) + off = (tgt : Int))
    (kt : x = y → W p l e R s m args below meth c H locs cells slots Q (F0 m tgt ls rest)) (kf : ¬ x = y → W p l e R s m args below meth c H locs cells slots Q (F0 m (pc + 1 + 3) ls rest)) : W p l e R s m args below meth c H locs cells slots Q (F0 m pc ls (.long y :: .long x :: rest)) :=
  W.lcmp hx hb hd0 (lv_if_eq hx hb hdg ht (fun h => kt (lgc_eq.mp h)) (fun h => kf (fun q => h (lgc_eq.mpr q))))
theorem x_ne (hx : p.tables.exec = Jvm.exec) (hb : c.code = cc) {x y : Int64} {off : Int} {tgt : Nat} (hd0 : decode cc pc = .ok (.lcmp, 1)) (hdg : decode cc (pc + 1) = .ok (.ifCond .ne off, 3)) (ht : ((pc + 1 : Nat) : Int) + off = (tgt : Int))
    (kt : ¬ x = y → W p l e R s m args below meth c H locs cells slots Q (F0 m tgt ls rest)) (kf : x = y → W p l e R s m args below meth c H locs cells slots Q (F0 m (pc + 1 + 3) ls rest)) : W p l e R s m args below meth c H locs cells slots Q (F0 m pc ls (.long y :: .long x :: rest)) :=
  W.lcmp hx hb hd0 (lv_if_ne hx hb hdg ht (fun h => kt (fun q => h (lgc_eq.mpr q))) (fun h => kf (lgc_eq.mp h)))
theorem x_icmp_ge (hx : p.tables.exec = Jvm.exec) (hb : c.code = cc) {x y : Int32} {off : Int} {tgt : Nat} (hdg : decode cc pc = .ok (.if_icmp .ge off, 3)) (ht : (pc : Int) + off = (tgt : Int))
    (kt : ¬ x < y → W p l e R s m args below meth c H locs cells slots Q (F0 m tgt ls rest)) (kf : x < y → W p l e R s m args below meth c H locs cells slots Q (F0 m (pc + 3) ls rest)) : W p l e R s m args below meth c H locs cells slots Q (F0 m pc ls (.int y :: .int x :: rest)) :=
  lv_icmp_ge hx hb hdg ht (fun h => kt (i_lt_ge.mp h)) (fun h => kf (Classical.byContradiction fun q => h (i_lt_ge.mpr q)))
theorem x_icmp_le (hx : p.tables.exec = Jvm.exec) (hb : c.code = cc) {x y : Int32} {off : Int} {tgt : Nat} (hdg : decode cc pc = .ok (.if_icmp .le off, 3)) (ht : (pc : Int) + off = (tgt : Int))
    (kt : ¬ y < x → W p l e R s m args below meth c H locs cells slots Q (F0 m tgt ls rest)) (kf : y < x → W p l e R s m args below meth c H locs cells slots Q (F0 m (pc + 3) ls rest)) : W p l e R s m args below meth c H locs cells slots Q (F0 m pc ls (.int y :: .int x :: rest)) :=
  lv_icmp_le hx hb hdg ht (fun h => kt (i_lt_ge.mp h)) (fun h => kf (Classical.byContradiction fun q => h (i_lt_ge.mpr q)))
theorem x_if_ge (hx : p.tables.exec = Jvm.exec) (hb : c.code = cc) {x : Int32} {off : Int} {tgt : Nat} (hdg : decode cc pc = .ok (.ifCond .ge off, 3)) (ht : (pc : Int) + off = (tgt : Int))
    (kt : ¬ x < 0 → W p l e R s m args below meth c H locs cells slots Q (F0 m tgt ls rest)) (kf : x < 0 → W p l e R s m args below meth c H locs cells slots Q (F0 m (pc + 3) ls rest)) : W p l e R s m args below meth c H locs cells slots Q (F0 m pc ls (.int x :: rest)) :=
  lv_if_ge hx hb hdg ht (fun h => kt (i_lt_ge.mp h)) (fun h => kf (Classical.byContradiction fun q => h (i_lt_ge.mpr q)))
theorem x_if_le (hx : p.tables.exec = Jvm.exec) (hb : c.code = cc) {x : Int32} {off : Int} {tgt : Nat} (hdg : decode cc pc = .ok (.ifCond .le off, 3)) (ht : (pc : Int) + off = (tgt : Int))
    (kt : ¬ 0 < x → W p l e R s m args below meth c H locs cells slots Q (F0 m tgt ls rest)) (kf : 0 < x → W p l e R s m args below meth c H locs cells slots Q (F0 m (pc + 3) ls rest)) : W p l e R s m args below meth c H locs cells slots Q (F0 m pc ls (.int x :: rest)) :=
  lv_if_le hx hb hdg ht (fun h => kt (i_lt_ge.mp h)) (fun h => kf (Classical.byContradiction fun q => h (i_lt_ge.mpr q)))
/-! ===== returns ===== -/
theorem x_iret {S : Type} {w : S → va_W} {post : Int32 → S → Prop} (hx : p.tables.exec = Jvm.exec) (hb : c.code = cc) (hr : meth.sig.returnType = some .int) (hlocks : meth.locks = false) (hK : va_K D vwCl tys s)
    (u : S) {v : Int32} (hP : va_P D vwCl (w u) H) (hD : va_D A0 (w u)) (hS : va_S A0 s.heap H locs) (hp : post v u) (hdg : decode cc pc = .ok (.ireturn, 1)) :
    W p l e R s m args below meth c H locs cells slots (MQ below (va_Qi post (xB D tys w A0) A0 ) args s cells slots A0) (F0 m pc ls [.int v]) :=
  W.iret (v := v) hx hb hr (fun t ht hW => ⟨⟨v, u, rfl, hp, by rw [ht]; exact hP, va_K.moved hW.alike hK, hD⟩, hS.F ht⟩) hS.2.2 hdg hlocks
theorem x_zret {S : Type} {w : S → va_W} {post : Int32 → S → Prop} (hx : p.tables.exec = Jvm.exec) (hb : c.code = cc) (hr : meth.sig.returnType = some .boolean) (hlocks : meth.locks = false) (hK : va_K D vwCl tys s)
    (u : S) {b : Bool} (hP : va_P D vwCl (w u) H) (hD : va_D A0 (w u)) (hS : va_S A0 s.heap H locs) (hp : post (bI b) u) (hdg : decode cc pc = .ok (.ireturn, 1)) :
    W p l e R s m args below meth c H locs cells slots (MQ below (va_Qi post (xB D tys w A0) A0) args s cells slots A0) (F0 m pc ls [.int (bI b)]) :=
  W.zret (v := bI b) hx hb hr (bI_nar b) (fun t ht hW => ⟨⟨bI b, u, rfl, hp, by rw [ht]; exact hP, va_K.moved hW.alike hK, hD⟩, hS.F ht⟩) hS.2.2 hdg hlocks
theorem x_lret {S : Type} {w : S → va_W} {post : Int64 → S → Prop} (hx : p.tables.exec = Jvm.exec) (hb : c.code = cc) (hr : meth.sig.returnType = some .long) (hlocks : meth.locks = false) (hK : va_K D vwCl tys s)
    (u : S) {v : Int64} (hP : va_P D vwCl (w u) H) (hD : va_D A0 (w u)) (hS : va_S A0 s.heap H locs) (hp : post v u) (hdg : decode cc pc = .ok (.lreturn, 1)) :
    W p l e R s m args below meth c H locs cells slots (MQ below (va_Ql post (xB D tys w A0) A0) args s cells slots A0) (F0 m pc ls [.long v]) :=
  W.lret (v := v) hx hb hr (fun t ht hW => ⟨⟨v, u, rfl, hp, by rw [ht]; exact hP, va_K.moved hW.alike hK, hD⟩, hS.F ht⟩) hS.2.2 hdg hlocks
theorem x_vret {S : Type} {w : S → va_W} {post : S → Prop} (hx : p.tables.exec = Jvm.exec) (hb : c.code = cc) (hr : meth.sig.returnType = none) (hlocks : meth.locks = false) (hK : va_K D vwCl tys s)
    (u : S) (hP : va_P D vwCl (w u) H) (hD : va_D A0 (w u)) (hS : va_S A0 s.heap H locs) (hp : post u) (hdg : decode cc pc = .ok (.return_, 1)) :
    W p l e R s m args below meth c H locs cells slots (MQ below (va_Qv post (xB D tys w A0) A0) args s cells slots A0) (F0 m pc ls []) :=
  W.vret hx hb hr (fun t ht hW => ⟨⟨u, rfl, hp, by rw [ht]; exact hP, va_K.moved hW.alike hK, hD⟩, hS.F ht⟩) hS.2.2 hdg hlocks
theorem x_qret {S : Type} {w : S → va_W} {post : Option Nat → S → Prop} {nm : String} (hx : p.tables.exec = Jvm.exec) (hb : c.code = cc) (hr : meth.sig.returnType = some (.object nm)) (hlocks : meth.locks = false) (hK : va_K D vwCl tys s)
    (u : S) {r : Option Nat} (hP : va_P D vwCl (w u) H) (hD : va_D A0 (w u)) (hS : va_S A0 s.heap H locs) (hp : post r u) (hdg : decode cc pc = .ok (.areturn, 1)) :
    W p l e R s m args below meth c H locs cells slots (MQ below (va_Qq post (xB D tys w A0) A0) args s cells slots A0) (F0 m pc ls [va_rf r]) :=
  W.aret (v := va_rf r) hx hb hr (Or.inl ⟨nm, rfl⟩) (va_rf_or r) (fun t ht hW => ⟨⟨r, u, rfl, hp, by rw [ht]; exact hP, va_K.moved hW.alike hK, hD⟩, hS.F ht⟩) hS.2.2 hdg hlocks
/-! ===== calls with the whole world ===== -/
theorem x_calli {S : Type} {w : S → va_W} {σ : S} {post : Int32 → S → Prop} {mc ms : Nat} {av : Array Value} (hr : va_Run p l e R s m args below meth c H locs cells slots mc ms (F0 m pc ls st0) rest (va_Qi post (xB D tys w (va_A (w σ) H.size)) (va_A (w σ) H.size) av) (va_A (w σ) H.size)) (hD : va_D A0 (w σ)) (hS : va_S A0 s.heap H locs) (hA : ∀ q, s.heap.size ≤ q → A0 q)
    (kk : ∀ (r : Int32) (u : S) (H1 : Heap) (locs1 : List Loc), post r u → va_P D vwCl (w u) H1 → va_D A0 (w u) → va_S A0 s.heap H1 locs1 → W p l e R s m args below meth c H1 locs1 (cells + mc) (slots + ms) Q (F0 m (pc + 3) ls (.int r :: rest))) : W p l e R s m args below meth c H locs cells slots Q (F0 m pc ls st0) :=
  va_calli hr hS (fun q _ h => xA_in hD hS hA q h) (xA_in hD hS hA) (fun r u t H1 locs1 ht hvm hp hB hz hk hS1 => by
    obtain ⟨hP1, -, hD1⟩ := hB
    rw [ht] at hP1
    exact kk r u H1 locs1 hp hP1 (hD1.weaken (fun k q _ h => xA_in hD hS hA q.1 h)) hS1)
theorem x_calll {S : Type} {w : S → va_W} {σ : S} {post : Int64 → S → Prop} {mc ms : Nat} {av : Array Value} (hr : va_Run p l e R s m args below meth c H locs cells slots mc ms (F0 m pc ls st0) rest (va_Ql post (xB D tys w (va_A (w σ) H.size)) (va_A (w σ) H.size) av) (va_A (w σ) H.size)) (hD : va_D A0 (w σ)) (hS : va_S A0 s.heap H locs) (hA : ∀ q, s.heap.size ≤ q → A0 q)
    (kk : ∀ (r : Int64) (u : S) (H1 : Heap) (locs1 : List Loc), post r u → va_P D vwCl (w u) H1 → va_D A0 (w u) → va_S A0 s.heap H1 locs1 → W p l e R s m args below meth c H1 locs1 (cells + mc) (slots + ms) Q (F0 m (pc + 3) ls (.long r :: rest))) : W p l e R s m args below meth c H locs cells slots Q (F0 m pc ls st0) :=
  va_calll hr hS (fun q _ h => xA_in hD hS hA q h) (xA_in hD hS hA) (fun r u t H1 locs1 ht hvm hp hB hz hk hS1 => by
    obtain ⟨hP1, -, hD1⟩ := hB
    rw [ht] at hP1
    exact kk r u H1 locs1 hp hP1 (hD1.weaken (fun k q _ h => xA_in hD hS hA q.1 h)) hS1)
theorem x_callv {S : Type} {w : S → va_W} {σ : S} {post : S → Prop} {mc ms : Nat} {av : Array Value} (hr : va_Run p l e R s m args below meth c H locs cells slots mc ms (F0 m pc ls st0) rest (va_Qv post (xB D tys w (va_A (w σ) H.size)) (va_A (w σ) H.size) av) (va_A (w σ) H.size)) (hD : va_D A0 (w σ)) (hS : va_S A0 s.heap H locs) (hA : ∀ q, s.heap.size ≤ q → A0 q)
    (kk : ∀ (u : S) (H1 : Heap) (locs1 : List Loc), post u → va_P D vwCl (w u) H1 → va_D A0 (w u) → va_S A0 s.heap H1 locs1 → W p l e R s m args below meth c H1 locs1 (cells + mc) (slots + ms) Q (F0 m (pc + 3) ls rest)) : W p l e R s m args below meth c H locs cells slots Q (F0 m pc ls st0) :=
  va_callv hr hS (fun q _ h => xA_in hD hS hA q h) (xA_in hD hS hA) (fun u t H1 locs1 ht hvm hp hB hz hk hS1 => by
    obtain ⟨hP1, -, hD1⟩ := hB
    rw [ht] at hP1
    exact kk u H1 locs1 hp hP1 (hD1.weaken (fun k q _ h => xA_in hD hS hA q.1 h)) hS1)
theorem x_callq {S : Type} {w : S → va_W} {σ : S} {post : Option Nat → S → Prop} {mc ms : Nat} {av : Array Value} (hr : va_Run p l e R s m args below meth c H locs cells slots mc ms (F0 m pc ls st0) rest (va_Qq post (xB D tys w (va_A (w σ) H.size)) (va_A (w σ) H.size) av) (va_A (w σ) H.size)) (hD : va_D A0 (w σ)) (hS : va_S A0 s.heap H locs) (hA : ∀ q, s.heap.size ≤ q → A0 q)
    (kk : ∀ (r : Option Nat) (u : S) (H1 : Heap) (locs1 : List Loc), post r u → va_P D vwCl (w u) H1 → va_D A0 (w u) → va_S A0 s.heap H1 locs1 → W p l e R s m args below meth c H1 locs1 (cells + mc) (slots + ms) Q (F0 m (pc + 3) ls (va_rf r :: rest))) : W p l e R s m args below meth c H locs cells slots Q (F0 m pc ls st0) :=
  va_callq hr hS (fun q _ h => xA_in hD hS hA q h) (xA_in hD hS hA) (fun r u t H1 locs1 ht hvm hp hB hz hk hS1 => by
    obtain ⟨hP1, -, hD1⟩ := hB
    rw [ht] at hP1
    exact kk r u H1 locs1 hp hP1 (hD1.weaken (fun k q _ h => xA_in hD hS hA q.1 h)) hS1)
/-! .. that may throw -/
theorem xx_calli {S : Type} {w : S → va_W} {σ : S} {post : Int32 → S → Prop} {xc : String → Prop} {mc ms : Nat} {av : Array Value} (hr : vx_Run p l e R s m args below meth c H locs cells slots mc ms (F0 m pc ls st0) rest (va_Qi post (xB D tys w (va_A (w σ) H.size)) (va_A (w σ) H.size) av) (xXC D tys w (va_A (w σ) H.size) σ xc) (va_A (w σ) H.size)) (hD : va_D A0 (w σ)) (hS : va_S A0 s.heap H locs) (hA : ∀ q, s.heap.size ≤ q → A0 q)
    (kx : ∀ (En : String) (ce : Cell) (q9 : Addr) (H1 : Heap) (locs1 : List Loc), xc En → va_P D vwCl (w σ) H1 → va_S A0 s.heap H1 locs1 → H1[q9]? = some ce → ce.vm = .none → s.vm.findClass En = some ce.cls → vx_W p l e R s m args below meth c H1 locs1 (cells + mc) (slots + ms) Q (F0 m pc ls rest) q9)
    (kk : ∀ (r : Int32) (u : S) (H1 : Heap) (locs1 : List Loc), post r u → va_P D vwCl (w u) H1 → va_D A0 (w u) → va_S A0 s.heap H1 locs1 → W p l e R s m args below meth c H1 locs1 (cells + mc) (slots + ms) Q (F0 m (pc + 3) ls (.int r :: rest))) : W p l e R s m args below meth c H locs cells slots Q (F0 m pc ls st0) :=
  vx_calli hr hS (fun q _ h => xA_in hD hS hA q h) (xA_in hD hS hA) (fun q _ h => xA_in hD hS hA q h) (fun En ce q9 u t H1 locs1 ht hvm _ hB hz hk hS1 h1 h2 h3 => by
    obtain ⟨hxc, hP1, -, -⟩ := hB
    rw [ht] at hP1
    exact kx En ce q9 H1 locs1 hxc hP1 hS1 h1 h2 h3) (fun r u t H1 locs1 ht hvm hp hB hz hk hS1 => by
    obtain ⟨hP1, -, hD1⟩ := hB
    rw [ht] at hP1
    exact kk r u H1 locs1 hp hP1 (hD1.weaken (fun k q _ h => xA_in hD hS hA q.1 h)) hS1)
theorem xx_calll {S : Type} {w : S → va_W} {σ : S} {post : Int64 → S → Prop} {xc : String → Prop} {mc ms : Nat} {av : Array Value} (hr : vx_Run p l e R s m args below meth c H locs cells slots mc ms (F0 m pc ls st0) rest (va_Ql post (xB D tys w (va_A (w σ) H.size)) (va_A (w σ) H.size) av) (xXC D tys w (va_A (w σ) H.size) σ xc) (va_A (w σ) H.size)) (hD : va_D A0 (w σ)) (hS : va_S A0 s.heap H locs) (hA : ∀ q, s.heap.size ≤ q → A0 q)
    (kx : ∀ (En : String) (ce : Cell) (q9 : Addr) (H1 : Heap) (locs1 : List Loc), xc En → va_P D vwCl (w σ) H1 → va_S A0 s.heap H1 locs1 → H1[q9]? = some ce → ce.vm = .none → s.vm.findClass En = some ce.cls → vx_W p l e R s m args below meth c H1 locs1 (cells + mc) (slots + ms) Q (F0 m pc ls rest) q9)
    (kk : ∀ (r : Int64) (u : S) (H1 : Heap) (locs1 : List Loc), post r u → va_P D vwCl (w u) H1 → va_D A0 (w u) → va_S A0 s.heap H1 locs1 → W p l e R s m args below meth c H1 locs1 (cells + mc) (slots + ms) Q (F0 m (pc + 3) ls (.long r :: rest))) : W p l e R s m args below meth c H locs cells slots Q (F0 m pc ls st0) :=
  vx_calll hr hS (fun q _ h => xA_in hD hS hA q h) (xA_in hD hS hA) (fun q _ h => xA_in hD hS hA q h) (fun En ce q9 u t H1 locs1 ht hvm _ hB hz hk hS1 h1 h2 h3 => by
    obtain ⟨hxc, hP1, -, -⟩ := hB
    rw [ht] at hP1
    exact kx En ce q9 H1 locs1 hxc hP1 hS1 h1 h2 h3) (fun r u t H1 locs1 ht hvm hp hB hz hk hS1 => by
    obtain ⟨hP1, -, hD1⟩ := hB
    rw [ht] at hP1
    exact kk r u H1 locs1 hp hP1 (hD1.weaken (fun k q _ h => xA_in hD hS hA q.1 h)) hS1)
theorem xx_callv {S : Type} {w : S → va_W} {σ : S} {post : S → Prop} {xc : String → Prop} {mc ms : Nat} {av : Array Value} (hr : vx_Run p l e R s m args below meth c H locs cells slots mc ms (F0 m pc ls st0) rest (va_Qv post (xB D tys w (va_A (w σ) H.size)) (va_A (w σ) H.size) av) (xXC D tys w (va_A (w σ) H.size) σ xc) (va_A (w σ) H.size)) (hD : va_D A0 (w σ)) (hS : va_S A0 s.heap H locs) (hA : ∀ q, s.heap.size ≤ q → A0 q)
    (kx : ∀ (En : String) (ce : Cell) (q9 : Addr) (H1 : Heap) (locs1 : List Loc), xc En → va_P D vwCl (w σ) H1 → va_S A0 s.heap H1 locs1 → H1[q9]? = some ce → ce.vm = .none → s.vm.findClass En = some ce.cls → vx_W p l e R s m args below meth c H1 locs1 (cells + mc) (slots + ms) Q (F0 m pc ls rest) q9)
    (kk : ∀ (u : S) (H1 : Heap) (locs1 : List Loc), post u → va_P D vwCl (w u) H1 → va_D A0 (w u) → va_S A0 s.heap H1 locs1 → W p l e R s m args below meth c H1 locs1 (cells + mc) (slots + ms) Q (F0 m (pc + 3) ls rest)) : W p l e R s m args below meth c H locs cells slots Q (F0 m pc ls st0) :=
  vx_callv hr hS (fun q _ h => xA_in hD hS hA q h) (xA_in hD hS hA) (fun q _ h => xA_in hD hS hA q h) (fun En ce q9 u t H1 locs1 ht hvm _ hB hz hk hS1 h1 h2 h3 => by
    obtain ⟨hxc, hP1, -, -⟩ := hB
    rw [ht] at hP1
    exact kx En ce q9 H1 locs1 hxc hP1 hS1 h1 h2 h3) (fun u t H1 locs1 ht hvm hp hB hz hk hS1 => by
    obtain ⟨hP1, -, hD1⟩ := hB
    rw [ht] at hP1
    exact kk u H1 locs1 hp hP1 (hD1.weaken (fun k q _ h => xA_in hD hS hA q.1 h)) hS1)
theorem xx_callq {S : Type} {w : S → va_W} {σ : S} {post : Option Nat → S → Prop} {xc : String → Prop} {mc ms : Nat} {av : Array Value} (hr : vx_Run p l e R s m args below meth c H locs cells slots mc ms (F0 m pc ls st0) rest (va_Qq post (xB D tys w (va_A (w σ) H.size)) (va_A (w σ) H.size) av) (xXC D tys w (va_A (w σ) H.size) σ xc) (va_A (w σ) H.size)) (hD : va_D A0 (w σ)) (hS : va_S A0 s.heap H locs) (hA : ∀ q, s.heap.size ≤ q → A0 q)
    (kx : ∀ (En : String) (ce : Cell) (q9 : Addr) (H1 : Heap) (locs1 : List Loc), xc En → va_P D vwCl (w σ) H1 → va_S A0 s.heap H1 locs1 → H1[q9]? = some ce → ce.vm = .none → s.vm.findClass En = some ce.cls → vx_W p l e R s m args below meth c H1 locs1 (cells + mc) (slots + ms) Q (F0 m pc ls rest) q9)
    (kk : ∀ (r : Option Nat) (u : S) (H1 : Heap) (locs1 : List Loc), post r u → va_P D vwCl (w u) H1 → va_D A0 (w u) → va_S A0 s.heap H1 locs1 → W p l e R s m args below meth c H1 locs1 (cells + mc) (slots + ms) Q (F0 m (pc + 3) ls (va_rf r :: rest))) : W p l e R s m args below meth c H locs cells slots Q (F0 m pc ls st0) := by
  have hA9 := xA_in hD hS hA
  intro T hT X
  rcases hr T hT X with ⟨v, st₀, t, T', L, h0, X', hL, e1, e2, ⟨⟨r, u, hv, hp, hb⟩, hF⟩, st⟩ | ⟨q, st₀, t, T', L, En, ce, h0, X', hL, e1, e2, ⟨u, hp, hb, hF⟩, hce, hcv, hcl, st⟩
  · cases hv
    obtain ⟨k1, k2, k3⟩ := vx_keep h0 e1 hS (fun q _ h => hA9 q h) hA9 hL hF
    obtain ⟨hP1, -, hD1⟩ := hb
    obtain ⟨t2, a1, b1⟩ := kk r u T'.heap (locs ++ L) hp (by rw [e1]; exact hP1) (hD1.weaken (fun k q _ h => hA9 q.1 h)) k3 T' rfl X'
    exact ⟨t2, st t2 a1, b1⟩
  · obtain ⟨k1, k2, k3⟩ := vx_keep h0 e1 hS (fun q _ h => hA9 q h) hA9 hL hF
    obtain ⟨hxc, hP1, -, -⟩ := hb
    obtain ⟨t2, a1, b1⟩ := kx En ce q T'.heap (locs ++ L) hxc (by rw [e1]; exact hP1) k3 (by rw [e1]; exact hce) hcv hcl T' rfl X'
    exact ⟨t2, st.trans a1, b1⟩
/-- an exception goes on to the caller: the world is the start's -/
theorem xx_out {S : Type} {w : S → va_W} {σ : S} {xc : String → Prop} {QC : Array Value → State → Outcome → State → Prop} {mc ms : Nat} {En : String} {ce : Cell} {q9 : Addr} (htab : ∀ x ∈ c.exceptionTable.toList, False) (hlocks : meth.locks = false) (hK : va_K D vwCl tys s) (hc : H[q9]? = some ce) (hv : ce.vm = .none) (hcl : s.vm.findClass En = some ce.cls)
    (hP : va_P D vwCl (w σ) H) (hD : va_D A0 (w σ)) (hS : va_S A0 s.heap H locs) (h : xc En) (h1 : cells ≤ mc) (h2 : slots ≤ ms) :
    vx_W p l e R s m args below meth c H locs cells slots (vx_MQ below QC (xXC D tys w A0 σ xc) args s mc ms A0) (F0 m pc ls rest) q9 :=
  vx_out (fun x hx => (htab x hx).elim) hlocks hc hv hcl (fun t ht hvm => ⟨(), trivial, ⟨h, by rw [ht]; exact hP, va_K.moved hvm hK, hD⟩, hS.F ht⟩) hS.2.2 h1 h2
end XR
end
section
/-! ===== what every method of the class may rely on, beside its world ===== -/
def xNs (k : Nat) : Nat := match k with
  | 0 => 110
  | 1 => 33
  | 2 => 61
  | 3 => 41
  | 4 => 85
  | 5 => 94
  | 6 => 88
  | 7 => 183
  | _ => 162
def xIO : String := "java/lang/IndexOutOfBoundsException"
def xIA : String := "java/lang/IllegalArgumentException"
def xIS : String := "java/lang/IllegalStateException"
def xStr : List (Nat × String) := [(147, "no such thing"), (153, "an argument is out of its range"), (149, "the thing has no entry"), (73, "the pinned entries are greater than the capacity"), (107, "the order has no such place")]
def xDec : List MethodName := [⟨"java/lang/RuntimeException", "<init>", "(Ljava/lang/String;)V"⟩, ⟨"java/lang/Exception", "<init>", "(Ljava/lang/String;)V"⟩, ⟨"java/lang/Throwable", "<init>", "(Ljava/lang/String;)V"⟩, ⟨"java/lang/RuntimeException", "<init>", "()V"⟩, ⟨"java/lang/Exception", "<init>", "()V"⟩, ⟨"java/lang/Throwable", "<init>", "()V"⟩]
def xNc : List (String × String) := [(xIA, xIO), (xIS, xIO), (xIO, xIA), (xIS, xIA), (xIO, xIS), (xIA, xIS)]
def xV (U : State) : Prop := (∀ k, k < 9 → va_Nw (.fieldLinkNest RX1 (xNs k) RX0 (TX0 k).2.1 (TX0 k).2.2.1 RX1) U) ∧ (∀ q ∈ xStr, ∃ a, vk_R RX1 q.1 q.2 a U) ∧ (∀ q ∈ xDec, va_Nw (.declares q) U) ∧ (∀ q ∈ [xIO, xIA, xIS], va_Nw (.castable q q) U) ∧ (∀ q ∈ xNc, va_Nc q.1 q.2 U)
def xE (A : Nat → Prop) (U : State) (H : Heap) : Prop := xV U ∧ vx_Zq Bundle.tN "UNASSIGNED_STACK" Bundle.steD A U H ∧ vx_Zq Bundle.tN "SUPPRESSED_SENTINEL" Bundle.listD A U H
theorem xV_warm {u U : State} (hW : u.WarmedH U.vm) (h : xV u) : xV U := by
  obtain ⟨h1, h2, h3, h4, h5⟩ := h
  refine ⟨fun k hk => va_Nw.warmF hW (h1 k hk), fun q hq => ?_, fun q hq => va_Nw.warmD hW (h3 q hq), fun q hq => va_Nw.warmC hW (h4 q hq), fun q hq => va_Nc.moved hW.alike (h5 q hq)⟩
  obtain ⟨a, ha⟩ := h2 q hq
  exact ⟨a, vk_R.warm hW ha⟩
theorem xE_ok : xEok xE := by
  intro A B u U H H1 hW hq hAB h
  obtain ⟨h1, h2, h3⟩ := h
  exact ⟨xV_warm hW h1, vx_Zq.moved hW.alike ((h2.kept hq).narrow hAB), vx_Zq.moved hW.alike ((h3.kept hq).narrow hAB)⟩
def mE (_ : Nat → Prop) (_ : State) (_ : Heap) : Prop := True
theorem mE_ok : xEok mE := fun _ _ _ _ _ _ _ _ _ _ => trivial
section XF
variable {p : Program} {l : Launch} {e : Env} {R : Room} {s : State} {m : MethodId} {args : Array Value} {below : List Frame} {meth : Method} {c : Code} {H : Heap} {locs : List Loc} {cells slots : Nat} {Q : State → Prop}
variable {cc : ByteArray} {pc : Nat} {ls : Array Slot} {rest st0 : List Value} {D : va_G} {A0 : Nat → Prop} {tys : List (ClassId × FieldType)} {Ts : List Cond} {σ : St}
variable {ax ar : Nat} {ad : Nat → Nat} {cO : ClassId} {bx : Nat} {ba : Nat → Nat} {cI cJ cZ : ClassId}
/-! ===== references that may be null: a place of the row, or none ===== -/
theorem x_aload_nQ (hx : p.tables.exec = Jvm.exec) (hb : c.code = cc) {k : Fin 4} {i : Nat} {r : Option Nat} (hdg : decode cc pc = .ok (.aload_n k, 1)) (hi : (k : Nat) = i) (hl : ls[i]? = some (.val (va_rf r)))
    (kk : W p l e R s m args below meth c H locs cells slots Q (F0 m (pc + 1) ls (va_rf r :: rest))) : W p l e R s m args below meth c H locs cells slots Q (F0 m pc ls rest) := by
  cases r with
  | none => exact lv_aload_nN hx hb hdg hi hl kk
  | some a => exact lv_aload_n hx hb hdg hi hl kk
theorem x_aloadQ (hx : p.tables.exec = Jvm.exec) (hb : c.code = cc) {i : Nat} {r : Option Nat} (hdg : decode cc pc = .ok (.aload i, 2)) (hl : ls[i]? = some (.val (va_rf r)))
    (kk : W p l e R s m args below meth c H locs cells slots Q (F0 m (pc + 2) ls (va_rf r :: rest))) : W p l e R s m args below meth c H locs cells slots Q (F0 m pc ls rest) := by
  cases r with
  | none => exact lv_aloadN hx hb hdg hl kk
  | some a => exact lv_aload hx hb hdg hl kk
theorem x_astore_nQ (hx : p.tables.exec = Jvm.exec) (hb : c.code = cc) {k : Fin 4} {i nL : Nat} {r : Option Nat} {lv lv' : List (Nat × Value)} (hdg : decode cc pc = .ok (.astore_n k, 1)) (hi : (k : Nat) = i) (h : lv_has ls nL lv) (hn : i < nL) (hl : (i, va_rf r) :: lv.filter (fun q => !(q.1 == i) && !(q.1 + 1 == i && q.2.category == 2)) = lv')
    (kk : ∀ ls' : Array Slot, lv_has ls' nL lv' → W p l e R s m args below meth c H locs cells slots Q (F0 m (pc + 1) ls' rest)) : W p l e R s m args below meth c H locs cells slots Q (F0 m pc ls (va_rf r :: rest)) := by
  cases r with
  | none => exact lv_astore_nN hx hb hdg hi h hn hl kk
  | some a => exact lv_astore_n hx hb hdg hi h hn hl kk
theorem x_astoreQ (hx : p.tables.exec = Jvm.exec) (hb : c.code = cc) {i nL : Nat} {r : Option Nat} {lv lv' : List (Nat × Value)} (hdg : decode cc pc = .ok (.astore i, 2)) (h : lv_has ls nL lv) (hn : i < nL) (hl : (i, va_rf r) :: lv.filter (fun q => !(q.1 == i) && !(q.1 + 1 == i && q.2.category == 2)) = lv')
    (kk : ∀ ls' : Array Slot, lv_has ls' nL lv' → W p l e R s m args below meth c H locs cells slots Q (F0 m (pc + 2) ls' rest)) : W p l e R s m args below meth c H locs cells slots Q (F0 m pc ls (va_rf r :: rest)) := by
  cases r with
  | none => exact lv_astoreN hx hb hdg h hn hl kk
  | some a => exact lv_astore hx hb hdg h hn hl kk
theorem x_ifnullQ (hx : p.tables.exec = Jvm.exec) (hb : c.code = cc) {r : Option Nat} {off : Int} {tgt : Nat} (hdg : decode cc pc = .ok (.ifnull off, 3)) (ht : (pc : Int) + off = (tgt : Int))
    (kt : r = none → W p l e R s m args below meth c H locs cells slots Q (F0 m tgt ls rest)) (kf : ∀ k, r = some k → W p l e R s m args below meth c H locs cells slots Q (F0 m (pc + 3) ls rest)) : W p l e R s m args below meth c H locs cells slots Q (F0 m pc ls (va_rf (r.map ad) :: rest)) := by
  cases r with
  | none => exact lv_ifnullN hx hb hdg ht (kt rfl)
  | some a => exact lv_ifnull hx hb hdg (kf a rfl)
theorem x_ifnonnullQ (hx : p.tables.exec = Jvm.exec) (hb : c.code = cc) {r : Option Nat} {off : Int} {tgt : Nat} (hdg : decode cc pc = .ok (.ifnonnull off, 3)) (ht : (pc : Int) + off = (tgt : Int))
    (kt : ∀ k, r = some k → W p l e R s m args below meth c H locs cells slots Q (F0 m tgt ls rest)) (kf : r = none → W p l e R s m args below meth c H locs cells slots Q (F0 m (pc + 3) ls rest)) : W p l e R s m args below meth c H locs cells slots Q (F0 m pc ls (va_rf (r.map ad) :: rest)) := by
  cases r with
  | none => exact lv_ifnonnullN hx hb hdg (kf rfl)
  | some a => exact lv_ifnonnull hx hb hdg ht (kt a rfl)
/-! ===== the class's own fields ===== -/
theorem c_get (hx : p.tables.exec = Jvm.exec) (hb : c.code = cc) (hts : ∀ w ∈ Ts, w.before args s = true) (hin : ∀ w ∈ wsX10, w ∈ Ts) (hown : s.vm.findClass RX1 = some m.cls) (hK : va_K D vwCl tys s) (hP : va_P D vwCl (cW ax ar ad cO σ) H) (k : Nat) (hk : k < 13) {index : Nat} (hlink : Cond.fieldLink RX1 index RX1 (TX1 k).2.1 (TX1 k).2.2.1 ∈ Ts) {v : Value} (hv : (cF ar σ)[k]? = some v) (hdg : decode cc pc = .ok (.getfield index, 3))
    (hsame : ∀ x, s.fieldFound? (TX1 k).1 (TX1 k).2.1 (TX1 k).2.2.1 = some x → s.fieldFound? RX1 (TX1 k).2.1 (TX1 k).2.2.1 = some x)
    (kk : W p l e R s m args below meth c H locs cells slots Q (F0 m (pc + 3) ls (v :: rest))) : W p l e R s m args below meth c H locs cells slots Q (F0 m pc ls (.ref ax :: rest)) :=
  va_get (C := RX1) (T := TX1) (N := 13) (ci := 1) hx hb hts hin hown hK hP 0 rfl rfl k hk (hts _ hlink) hsame hv hdg kk
theorem c_put (hx : p.tables.exec = Jvm.exec) (hb : c.code = cc) (hts : ∀ w ∈ Ts, w.before args s = true) (hin : ∀ w ∈ wsX10, w ∈ Ts) (hown : s.vm.findClass RX1 = some m.cls) (hK : va_K D vwCl tys s) (hP : va_P D vwCl (cW ax ar ad cO σ) H) (hD : va_D A0 (cW ax ar ad cO σ)) (hS : va_S A0 s.heap H locs) (k : Nat) (hk : k < 13) {index : Nat} (hlink : Cond.fieldLink RX1 index RX1 (TX1 k).2.1 (TX1 k).2.2.1 ∈ Ts) {v : Value} {ty : FieldType} (τ : St) (hτ : (cF ar σ).set k v = cF ar τ) (ho : ∀ j, sF τ j = sF σ j) (hl : k < 13)
    (hfin : (TX1 k).2.2.2 = false) (hd : parseFieldDescriptor (TX1 k).2.2.1 = some ty) (hn : narrow ty v = v) (hfit : fits ty v = true) (hdg : decode cc pc = .ok (.putfield index, 3))
    (hsame : ∀ x, s.fieldFound? (TX1 k).1 (TX1 k).2.1 (TX1 k).2.2.1 = some x → s.fieldFound? RX1 (TX1 k).2.1 (TX1 k).2.2.1 = some x)
    (kk : ∀ (H1 : Heap) (locs1 : List Loc), va_P D vwCl (cW ax ar ad cO τ) H1 → va_D A0 (cW ax ar ad cO τ) → va_S A0 s.heap H1 locs1 → W p l e R s m args below meth c H1 locs1 cells slots Q (F0 m (pc + 3) ls rest)) : W p l e R s m args below meth c H locs cells slots Q (F0 m pc ls (v :: .ref ax :: rest)) :=
  va_put (C := RX1) (T := TX1) (N := 13) (ci := 1) hx hb hts hin tyX1 tyX1_ok nmX1 hown hK hP hD hS 0 rfl rfl k hk (hts _ hlink) hsame hfin hd hn hfit hl hdg (fun H1 locs1 h1 h2 h3 => by
    rw [cW_setC σ τ (by rw [hτ]) ho] at h1 h2
    exact kk H1 locs1 h1 h2 h3)
/-! ===== a slot's fields, from the class that it is nested in ===== -/
theorem s_get (hx : p.tables.exec = Jvm.exec) (hb : c.code = cc) (hts : ∀ w ∈ Ts, w.before args s = true) (hin : ∀ w ∈ wsX00, w ∈ Ts) (hown : s.vm.findClass RX1 = some m.cls) (hK : va_K D vwCl tys s) (hE : xE A0 s s.heap) (hP : va_P D vwCl (cW ax ar ad cO σ) H) {k : Nat} (hk : k < 32) (j : Nat) (hj : j < 9) {index : Nat} (hi : xNs j = index) {v : Value} (hv : (sF σ k)[j]? = some v) (hdg : decode cc pc = .ok (.getfield index, 3))
    (hsame : ∀ x, s.fieldFound? (TX0 j).1 (TX0 j).2.1 (TX0 j).2.2.1 = some x → s.fieldFound? RX0 (TX0 j).2.1 (TX0 j).2.2.1 = some x)
    (kk : W p l e R s m args below meth c H locs cells slots Q (F0 m (pc + 3) ls (v :: rest))) : W p l e R s m args below meth c H locs cells slots Q (F0 m pc ls (.ref (ad k) :: rest)) := by
  subst hi
  exact va_getN (C := RX0) (T := TX0) (N := 9) (ci := 0) hx hb hts hin hown hK hP (k + 2) (cW_slot σ hk) rfl j hj (va_Nw.use rfl (hE.1.1 j hj)) hsame hv hdg kk
theorem s_put (hx : p.tables.exec = Jvm.exec) (hb : c.code = cc) (hts : ∀ w ∈ Ts, w.before args s = true) (hin : ∀ w ∈ wsX00, w ∈ Ts) (hown : s.vm.findClass RX1 = some m.cls) (hK : va_K D vwCl tys s) (hE : xE A0 s s.heap) (hP : va_P D vwCl (cW ax ar ad cO σ) H) (hD : va_D A0 (cW ax ar ad cO σ)) (hS : va_S A0 s.heap H locs) {k : Nat} (hk : k < 32) (j : Nat) (hj : j < 9) {index : Nat} (hi : xNs j = index) {v : Value} {ty : FieldType} (τ : St) (hτ : (sF σ k).set j v = sF τ k) (ho : ∀ i, i ≠ k → sF τ i = sF σ i) (hc : cF ar τ = cF ar σ)
    (hfin : (TX0 j).2.2.2 = false) (hd : parseFieldDescriptor (TX0 j).2.2.1 = some ty) (hn : narrow ty v = v) (hfit : fits ty v = true) (hdg : decode cc pc = .ok (.putfield index, 3))
    (hsame : ∀ x, s.fieldFound? (TX0 j).1 (TX0 j).2.1 (TX0 j).2.2.1 = some x → s.fieldFound? RX0 (TX0 j).2.1 (TX0 j).2.2.1 = some x)
    (kk : ∀ (H1 : Heap) (locs1 : List Loc), va_P D vwCl (cW ax ar ad cO τ) H1 → va_D A0 (cW ax ar ad cO τ) → va_S A0 s.heap H1 locs1 → W p l e R s m args below meth c H1 locs1 cells slots Q (F0 m (pc + 3) ls rest)) : W p l e R s m args below meth c H locs cells slots Q (F0 m pc ls (v :: .ref (ad k) :: rest)) := by
  subst hi
  exact va_putN (C := RX0) (T := TX0) (N := 9) (ci := 0) hx hb hts hin tyX0 tyX0_ok nmX0 hown hK hP hD hS (k + 2) (cW_slot σ hk) rfl j hj (va_Nw.use rfl (hE.1.1 j hj)) hsame hfin hd hn hfit hj hdg (fun H1 locs1 h1 h2 h3 => by
    rw [cW_setS σ τ hk (by rw [hτ]) ho hc] at h1 h2
    exact kk H1 locs1 h1 h2 h3)
/-! ===== the row of slots ===== -/
theorem c_alen (hx : p.tables.exec = Jvm.exec) (hb : c.code = cc) (hK : va_K D vwCl [(cO, .object RX0)] s) (hP : va_P D vwCl (cW ax ar ad cO σ) H) (hdg : decode cc pc = .ok (.arraylength, 1))
    (kk : W p l e R s m args below meth c H locs cells slots Q (F0 m (pc + 1) ls (.int 32 :: rest))) : W p l e R s m args below meth c H locs cells slots Q (F0 m pc ls (.ref ar :: rest)) :=
  va_alen hx hb hK hP 1 0 rfl rfl rfl hdg kk
theorem c_aald (hx : p.tables.exec = Jvm.exec) (hb : c.code = cc) (hK : va_K D vwCl [(cO, .object RX0)] s) (hP : va_P D vwCl (cW ax ar ad cO σ) H) {k : Nat} (hk : k < 32) (hdg : decode cc pc = .ok (.aaload, 1))
    (kk : W p l e R s m args below meth c H locs cells slots Q (F0 m (pc + 1) ls (.ref (ad k) :: rest))) : W p l e R s m args below meth c H locs cells slots Q (F0 m pc ls (.int (nI k) :: .ref ar :: rest)) := by
  refine va_aldq hx hb hK hP 1 0 rfl rfl (vp_in_nI hk (by decide)) hdg ?_
  show W p l e R s m args below meth c H locs cells slots Q (F0 m (pc + 1) ls (va_rf (some (ad (nI k).toNatClampNeg)) :: rest))
  rw [nI_clamp (Nat.lt_trans hk (by decide))]
  exact kk
/-! ===== the reference's fields and rows ===== -/
end XF
theorem cF_uI (ar : Nat) (σ : St) (v : Int32) : (cF ar σ).set 1 (.int v) = cF ar (uI σ 1 v) ∧ (cF ar σ).set 3 (.int v) = cF ar (uI σ 3 v) ∧ (cF ar σ).set 4 (.int v) = cF ar (uI σ 4 v) ∧ (cF ar σ).set 6 (.int v) = cF ar (uI σ 6 v) ∧ (cF ar σ).set 7 (.int v) = cF ar (uI σ 7 v) ∧ (cF ar σ).set 11 (.int v) = cF ar (uI σ 11 v) ∧ (cF ar σ).set 12 (.int v) = cF ar (uI σ 12 v) := by
  refine ⟨?_, ?_, ?_, ?_, ?_, ?_, ?_⟩ <;> rfl
theorem cF_uL (ar : Nat) (σ : St) (v : Int64) : (cF ar σ).set 2 (.long v) = cF ar (uL σ 2 v) ∧ (cF ar σ).set 5 (.long v) = cF ar (uL σ 5 v) ∧ (cF ar σ).set 8 (.long v) = cF ar (uL σ 8 v) ∧ (cF ar σ).set 9 (.long v) = cF ar (uL σ 9 v) ∧ (cF ar σ).set 10 (.long v) = cF ar (uL σ 10 v) := by
  refine ⟨?_, ?_, ?_, ?_, ?_⟩ <;> rfl
theorem sF_self (σ : St) (k : Nat) : (∀ v : Int32, (sF σ k).set 3 (.int v) = sF (uS σ 3 k v) k) ∧ (∀ v : Int32, (sF σ k).set 4 (.int v) = sF (uS σ 4 k v) k) ∧ (∀ v : Int32, (sF σ k).set 5 (.int v) = sF (uS σ 5 k v) k) ∧ (∀ v : Int32, (sF σ k).set 8 (.int v) = sF (uS σ 8 k v) k) ∧ (∀ v : Int64, (sF σ k).set 6 (.long v) = sF (uT σ 6 k v) k) ∧ (∀ v : Int64, (sF σ k).set 7 (.long v) = sF (uT σ 7 k v) k) ∧ (∀ v : Bool, (sF σ k).set 1 (.int (bI v)) = sF (uB σ 1 k v) k) ∧ (∀ v : Bool, (sF σ k).set 2 (.int (bI v)) = sF (uB σ 2 k v) k) := by
  refine ⟨?_, ?_, ?_, ?_, ?_, ?_, ?_, ?_⟩ <;> intro v <;> simp [sF, gS, gT, gB, uS, uT, uB, va_up]
theorem sF_other (σ : St) {k i : Nat} (h : i ≠ k) : (∀ v : Int32, sF (uS σ 3 k v) i = sF σ i) ∧ (∀ v : Int32, sF (uS σ 4 k v) i = sF σ i) ∧ (∀ v : Int32, sF (uS σ 5 k v) i = sF σ i) ∧ (∀ v : Int32, sF (uS σ 8 k v) i = sF σ i) ∧ (∀ v : Int64, sF (uT σ 6 k v) i = sF σ i) ∧ (∀ v : Int64, sF (uT σ 7 k v) i = sF σ i) ∧ (∀ v : Bool, sF (uB σ 1 k v) i = sF σ i) ∧ (∀ v : Bool, sF (uB σ 2 k v) i = sF σ i) := by
  refine ⟨?_, ?_, ?_, ?_, ?_, ?_, ?_, ?_⟩ <;> intro v <;> simp [sF, gS, gT, gB, uS, uT, uB, va_up, h]
end
section
/-! ===== what the class's methods do to a state: in the state's words ===== -/
def inR (x a b : Int32) : Bool := !decide (x < a) && !decide (b < x)
def isT (x : Int32) : Bool := !decide (x < 0) && decide (x < 32)
def sumI (f : Nat → Int32) : Nat → Int32
  | 0 => 0
  | n + 1 => sumI f n + f n
def ended (σ : St) (k : Nat) : Bool := !decide (gI σ 1 < gS σ 5 k)
def inO (σ : St) (k : Nat) : Bool := gB σ 1 k && !gB σ 2 k
def uF (σ : St) (k : Nat) : Int32 := if gB σ 1 k then gS σ 3 k else 0
def pF (σ : St) (k : Nat) : Int32 := if gB σ 1 k && gB σ 2 k && !ended σ k then gS σ 3 k else 0
def nF (σ : St) (k : Nat) : Int32 := if gB σ 1 k && !ended σ k then gS σ 3 k else 0
def eF (σ : St) (k : Nat) : Int32 := if gB σ 1 k then 1 else 0
def used (σ : St) : Int32 := sumI (uF σ) 32
def pinA (σ : St) : Int32 := sumI (pF σ) 32
def notO (σ : St) : Int32 := sumI (nF σ) 32
def ents (σ : St) : Int32 := sumI (eF σ) 32
def rmS (σ : St) : Nat → St
  | 0 => σ
  | n + 1 => if gB (rmS σ n) 1 n && ended (rmS σ n) n then uB (rmS σ n) 1 n false else rmS σ n
def rmC (σ : St) : Nat → Int32
  | 0 => 0
  | n + 1 => if gB (rmS σ n) 1 n && ended (rmS σ n) n then rmC σ n + 1 else rmC σ n
def rmO (σ : St) : St := uI (rmS σ 32) 12 (gI (rmS σ 32) 12 + rmC σ 32)
def bef (σ : St) (i j : Nat) : Bool := decide (gT σ 6 i < gT σ 6 j) || (decide (gT σ 6 i = gT σ 6 j) && decide (gT σ 7 i < gT σ 7 j))
def beh (σ : St) (b : Option Nat) (i : Nat) : Bool := match b with
  | none => true
  | some k => bef σ k i
def befO (σ : St) (i : Nat) (r : Option Nat) : Bool := match r with
  | none => true
  | some m => bef σ i m
def nxtR (σ : St) (b : Option Nat) : Nat → Option Nat
  | 0 => none
  | i + 1 => if inO σ i && beh σ b i && befO σ i (nxtR σ b i) then some i else nxtR σ b i
def nxt (σ : St) (b : Option Nat) : Option Nat := nxtR σ b 32
theorem nxtR_lt (σ : St) (b : Option Nat) : ∀ (i k : Nat), nxtR σ b i = some k → k < i
  | 0, _, h => by cases h
  | i + 1, k, h => by
    unfold nxtR at h
    by_cases c : (inO σ i && beh σ b i && befO σ i (nxtR σ b i)) = true
    · rw [if_pos c] at h
      cases h
      exact Nat.lt_succ_self i
    · rw [if_neg c] at h
      exact Nat.lt_succ_of_lt (nxtR_lt σ b i k h)
theorem nxt_lt {σ : St} {b : Option Nat} {k : Nat} (h : nxt σ b = some k) : k < 32 := nxtR_lt σ b 32 k h
def cSetW (σ : St) (k : Nat) (pr : Int32) : St :=
  uT (uT (uL σ 5 (gL σ 5 + 1)) 7 k (gL σ 5 + 1)) 6 k (if gS σ 3 k < 1 then gL σ 2 else gL σ 2 + 1000 * (gS σ 4 k).toInt64 * pr.toInt64 / (gS σ 3 k).toInt64)
def cHit (σ : St) (k : Nat) (pr : Int32) : St :=
  let a := cSetW (uS σ 4 k (gS σ 4 k + 1)) k pr
  uL (uL (uI a 6 (gI a 6 + 1)) 8 (gL a 8 + (gS a 3 k).toInt64)) 9 (gL a 9 + pr.toInt64)
def cMiss (σ : St) (pr : Int32) : St := uL (uI σ 7 (gI σ 7 + 1)) 10 (gL σ 10 + pr.toInt64)
def cLate (σ : St) (k : Nat) : Bool := !decide (gS σ 8 k = -1) && !decide (50 < gI σ 1 - gS σ 8 k)
def cRmOwn (σ : St) (k : Nat) : St := uB (if gB σ 1 k && ended σ k then uI σ 12 (gI σ 12 + 1) else σ) 1 k false
def lv1 (σ : St) (k : Nat) : St := uL (uB σ 1 k false) 2 (if gT σ 6 k < gL σ 2 then gL σ 2 else gT σ 6 k)
def lvI (σ : St) : Nat → St
  | 0 => σ
  | n + 1 => match nxt (lvI σ n) none with
    | none => lvI σ n
    | some k => lv1 (lvI σ n) k
def lvOk (b : Int32) (σ : St) (j : Nat) : Bool := (nxt (lvI σ j) none).isSome && decide (b < used (lvI σ j))
/-- the first place from j on, at most n on, where p does not hold -/
def stopN (q : Nat → Bool) : Nat → Nat → Nat
  | 0, j => j
  | n + 1, j => if q j then stopN q n (j + 1) else j
theorem stopN_spec (q : Nat → Bool) : ∀ (n j : Nat), j ≤ stopN q n j ∧ stopN q n j ≤ j + n ∧ (∀ i, j ≤ i → i < stopN q n j → q i = true) ∧ (stopN q n j = j + n ∨ q (stopN q n j) = false)
  | 0, j => ⟨Nat.le_refl _, Nat.le_refl _, fun i h1 h2 => absurd h2 (by unfold stopN; omega), Or.inl rfl⟩
  | n + 1, j => by
    unfold stopN
    by_cases h : q j = true
    · rw [if_pos h]
      obtain ⟨h1, h2, h3, h4⟩ := stopN_spec q n (j + 1)
      refine ⟨by omega, by omega, fun i g1 g2 => ?_, ?_⟩
      · rcases Nat.eq_or_lt_of_le g1 with g | g
        · rw [← g]; exact h
        · exact h3 i g g2
      · rcases h4 with h4 | h4
        · exact Or.inl (by omega)
        · exact Or.inr h4
    · rw [if_neg h]
      refine ⟨Nat.le_refl _, by omega, fun i g1 g2 => absurd g2 (by omega), Or.inr ?_⟩
      cases hq : q j with
      | true => exact absurd hq h
      | false => rfl
def lvE (b : Int32) (σ : St) : Nat := stopN (lvOk b σ) 32 0
def lvD (b : Int32) (σ : St) : St := uI (lvI σ (lvE b σ)) 11 (gI (lvI σ (lvE b σ)) 11 + nI (lvE b σ))
def cHasRoom (σ : St) (sz : Int32) : Bool := !decide (gI σ 3 - sz < used σ)
def cRoom (σ : St) (sz : Int32) : Bool × St := if cHasRoom σ sz then (true, σ) else if gI (rmO σ) 3 - pinA (rmO σ) < sz then (false, rmO σ) else (true, lvD (gI (rmO σ) 3 - sz) (rmO σ))
def cFill (σ : St) (k : Nat) (sz pr lf : Int32) : St := cSetW (uS (uS (uS (uB (uB σ 1 k true) 2 k false) 3 k sz) 4 k 1) 5 k (gI σ 1 + lf)) k pr
def cLetIn (σ : St) (k : Nat) (sz pr lf : Int32) : Bool × St :=
  let τ := cRmOwn (uS σ 8 k (gI σ 1)) k
  if gI τ 3 < sz then (false, τ) else if decide (gI τ 4 < sz) && !cLate σ k then (false, τ) else if (cRoom τ sz).1 then (true, cFill (cRoom τ sz).2 k sz pr lf) else (false, (cRoom τ sz).2)
def cFetch (σ : St) (k : Nat) (sz pr lf : Int32) : Int32 × St :=
  if gB σ 1 k && !ended σ k && decide (gS σ 3 k = sz) then (0, cHit σ k pr) else (if (cLetIn (cMiss σ pr) k sz pr lf).1 then 1 else 2, (cLetIn (cMiss σ pr) k sz pr lf).2)
def cSetCap (σ : St) (cp : Int32) : Int32 × St :=
  let τ := uI σ 3 cp
  if cp < used τ then (nI (lvE cp (rmO τ)), lvD cp (rmO τ)) else (0, τ)
def wlI (σ : St) : Nat → Int32 × Int32 × Option Nat
  | 0 => (notO σ, 0, nxt σ none)
  | n + 1 => match (wlI σ n).2.2 with
    | none => wlI σ n
    | some k => (if ended σ k then (wlI σ n).1 else (wlI σ n).1 - gS σ 3 k, if ended σ k then (wlI σ n).2.1 else (wlI σ n).2.1 + 1, nxt σ (some k))
def wlOk (σ : St) (sz : Int32) (j : Nat) : Bool := (wlI σ j).2.2.isSome && decide (gI σ 3 - sz < (wlI σ j).1)
def wlE (σ : St) (sz : Int32) : Nat := stopN (wlOk σ sz) 32 0
def cCount (σ : St) (sz : Int32) : Int32 := (wlI σ (wlE σ sz)).2.1
def cWould (σ : St) (sz : Int32) : Int32 := if gI σ 3 - pinA σ < sz then -1 else cCount σ sz
def endO (σ : St) (i : Nat) (r : Option Nat) : Bool := match r with
  | none => true
  | some m => decide (gS σ 5 i < gS σ 5 m)
def efR (σ : St) : Nat → Option Nat
  | 0 => none
  | i + 1 => if gB σ 1 i && endO σ i (efR σ i) then some i else efR σ i
theorem efR_lt (σ : St) : ∀ (i k : Nat), efR σ i = some k → k < i
  | 0, _, h => by cases h
  | i + 1, k, h => by
    unfold efR at h
    by_cases c : (gB σ 1 i && endO σ i (efR σ i)) = true
    · rw [if_pos c] at h
      cases h
      exact Nat.lt_succ_self i
    · rw [if_neg c] at h
      exact Nat.lt_succ_of_lt (efR_lt σ i k h)
def cEnds (σ : St) : Int32 := match efR σ 32 with
  | none => -1
  | some k => gS σ 0 k
def nth (σ : St) : Nat → Option Nat
  | 0 => nxt σ none
  | n + 1 => match nth σ n with
    | none => none
    | some k => nxt σ (some k)
def placeF (σ : St) (k i : Nat) : Int32 := if inO σ i && bef σ i k then 1 else 0
def cPlace (σ : St) (k : Nat) : Int32 := if inO σ k then sumI (placeF σ k) 32 else -1
end
section
abbrev cT (cO : ClassId) : List (ClassId × FieldType) := [(cO, .object RX0)]
abbrev xNm : List String := ["java/lang/RuntimeException", "java/lang/Exception"]
theorem nI_inj32 {a b : Nat} (ha : a < 32) (hb : b < 32) (h : nI a = nI b) : a = b := (nI_eq (Nat.lt_trans ha (by decide)) (Nat.lt_trans hb (by decide))).mp h
theorem nI_lt32 {i : Nat} (h : i ≤ 32) : nI i < 32 ↔ i < 32 := nI_ltI (b := 32) (Nat.lt_of_le_of_lt h (by decide)) (by decide)
theorem isT_nI {x : Int32} (h : isT x = true) : ∃ k, k < 32 ∧ x = nI k := by
  simp only [isT, Bool.and_eq_true, Bool.not_eq_true', decide_eq_false_iff_not, decide_eq_true_eq] at h
  obtain ⟨j, hj, rfl⟩ := nI_of h.1
  exact ⟨j, (nI_ltI (b := 32) hj (by decide)).mp h.2, rfl⟩
theorem isT_of {k : Nat} (h : k < 32) : isT (nI k) = true := by
  have h1 : ¬ nI k < 0 := nI_pos (Nat.lt_trans h (by decide))
  have h2 : nI k < 32 := nI_lt (b := 32) h (by decide)
  simp [isT, h1, h2]
theorem x_thr {S : Type} {s : State} {D : va_G} {tys : List (ClassId × FieldType)} {w : S → va_W} {σ : S} {A0 : Nat → Prop} {H : Heap} {locs : List Loc} {xc : String → Prop} {En : String} (hK : va_K D vwCl tys s) (hP : va_P D vwCl (w σ) H) (hD : va_D A0 (w σ)) (hS : va_S A0 s.heap H locs) (h : xc En) {t : State} (hvm : s.vm.Alike t.vm) (hz : H.size ≤ t.heap.size) (hk : ∀ q : Nat, q < H.size → t.heap[q]? = H[q]?) : xXC D tys w A0 σ xc En s t :=
  ⟨(), trivial, ⟨h, hP.kept (fun k q hq => hk q.1 ((hP k q hq).lt)), va_K.moved hvm hK, hD⟩, Nat.le_trans hS.1 hz, fun q h1 h2 => (hk q (Nat.lt_of_lt_of_le h1 hS.1)).trans (hS.2.1 q h1 h2)⟩
theorem hat_IO {args : Array Value} {s : State} (h1 : ∀ w ∈ (vx_atS RX1 109 "java/lang/IndexOutOfBoundsException" ["java/lang/RuntimeException", "java/lang/Exception"]).filter goodWord, w.before args s = true) (hV : xV s) : ∀ w ∈ vx_atS RX1 109 "java/lang/IndexOutOfBoundsException" ["java/lang/RuntimeException", "java/lang/Exception"], w.before args s = true :=
  vx_hat (B := [.declares ⟨"java/lang/RuntimeException", "<init>", "(Ljava/lang/String;)V"⟩, .declares ⟨"java/lang/Exception", "<init>", "(Ljava/lang/String;)V"⟩, .declares ⟨"java/lang/Throwable", "<init>", "(Ljava/lang/String;)V"⟩, .castable "java/lang/IndexOutOfBoundsException" "java/lang/IndexOutOfBoundsException"]) h1 (by decide +kernel)
    (vx_c (va_Nw.use rfl (hV.2.2.1 _ (List.mem_of_getElem? (i := 0) rfl))) (vx_c (va_Nw.use rfl (hV.2.2.1 _ (List.mem_of_getElem? (i := 1) rfl))) (vx_c (va_Nw.use rfl (hV.2.2.1 _ (List.mem_of_getElem? (i := 2) rfl))) (vx_c (va_Nw.use rfl (hV.2.2.2.1 _ (List.mem_of_getElem? (i := 0) rfl))) vx_n))))
theorem hat_IA {args : Array Value} {s : State} (h1 : ∀ w ∈ (vx_atS RX1 155 "java/lang/IllegalArgumentException" ["java/lang/RuntimeException", "java/lang/Exception"]).filter goodWord, w.before args s = true) (hV : xV s) : ∀ w ∈ vx_atS RX1 155 "java/lang/IllegalArgumentException" ["java/lang/RuntimeException", "java/lang/Exception"], w.before args s = true :=
  vx_hat (B := [.declares ⟨"java/lang/RuntimeException", "<init>", "(Ljava/lang/String;)V"⟩, .declares ⟨"java/lang/Exception", "<init>", "(Ljava/lang/String;)V"⟩, .declares ⟨"java/lang/Throwable", "<init>", "(Ljava/lang/String;)V"⟩, .castable "java/lang/IllegalArgumentException" "java/lang/IllegalArgumentException"]) h1 (by decide +kernel)
    (vx_c (va_Nw.use rfl (hV.2.2.1 _ (List.mem_of_getElem? (i := 0) rfl))) (vx_c (va_Nw.use rfl (hV.2.2.1 _ (List.mem_of_getElem? (i := 1) rfl))) (vx_c (va_Nw.use rfl (hV.2.2.1 _ (List.mem_of_getElem? (i := 2) rfl))) (vx_c (va_Nw.use rfl (hV.2.2.2.1 _ (List.mem_of_getElem? (i := 1) rfl))) vx_n))))
theorem hat_IS {args : Array Value} {s : State} (h1 : ∀ w ∈ (vx_atS RX1 75 "java/lang/IllegalStateException" ["java/lang/RuntimeException", "java/lang/Exception"]).filter goodWord, w.before args s = true) (hV : xV s) : ∀ w ∈ vx_atS RX1 75 "java/lang/IllegalStateException" ["java/lang/RuntimeException", "java/lang/Exception"], w.before args s = true :=
  vx_hat (B := [.declares ⟨"java/lang/RuntimeException", "<init>", "(Ljava/lang/String;)V"⟩, .declares ⟨"java/lang/Exception", "<init>", "(Ljava/lang/String;)V"⟩, .declares ⟨"java/lang/Throwable", "<init>", "(Ljava/lang/String;)V"⟩, .castable "java/lang/IllegalStateException" "java/lang/IllegalStateException"]) h1 (by decide +kernel)
    (vx_c (va_Nw.use rfl (hV.2.2.1 _ (List.mem_of_getElem? (i := 0) rfl))) (vx_c (va_Nw.use rfl (hV.2.2.1 _ (List.mem_of_getElem? (i := 1) rfl))) (vx_c (va_Nw.use rfl (hV.2.2.1 _ (List.mem_of_getElem? (i := 2) rfl))) (vx_c (va_Nw.use rfl (hV.2.2.2.1 _ (List.mem_of_getElem? (i := 2) rfl))) vx_n))))
theorem hgd_IO : ∀ w ∈ Cond.classLink RX1 105 "java/lang/IndexOutOfBoundsException" :: Cond.initialized "java/lang/IndexOutOfBoundsException" :: vx_atS RX1 109 "java/lang/IndexOutOfBoundsException" ["java/lang/RuntimeException", "java/lang/Exception"], vx_ot w = true := by decide +kernel
theorem hgd_IA : ∀ w ∈ Cond.classLink RX1 151 "java/lang/IllegalArgumentException" :: Cond.initialized "java/lang/IllegalArgumentException" :: vx_atS RX1 155 "java/lang/IllegalArgumentException" ["java/lang/RuntimeException", "java/lang/Exception"], vx_ot w = true := by decide +kernel
theorem hgd_IS : ∀ w ∈ Cond.classLink RX1 71 "java/lang/IllegalStateException" :: Cond.initialized "java/lang/IllegalStateException" :: vx_atS RX1 75 "java/lang/IllegalStateException" ["java/lang/RuntimeException", "java/lang/Exception"], vx_ot w = true := by decide +kernel
theorem toI64_0 {x : Int32} (h : x.toInt64 = 0) : x = 0 := by
  apply Int32.toInt_inj.mp
  have h1 : x.toInt64.toInt = (0 : Int64).toInt := by rw [h]
  rw [Int32.toInt_toInt64] at h1
  exact h1
theorem va_rf_cat (r : Option Nat) : (va_rf r).category = 1 := by cases r <;> rfl
theorem nxtR_s (σ : St) (b : Option Nat) (i : Nat) : nxtR σ b (i + 1) = if inO σ i && beh σ b i && befO σ i (nxtR σ b i) then some i else nxtR σ b i := rfl
theorem efR_s (σ : St) (i : Nat) : efR σ (i + 1) = if gB σ 1 i && endO σ i (efR σ i) then some i else efR σ i := rfl
theorem sF_uI (σ : St) (j : Nat) (v : Int32) (k : Nat) : sF (uI σ j v) k = sF σ k := rfl
theorem sF_uL (σ : St) (j : Nat) (v : Int64) (k : Nat) : sF (uL σ j v) k = sF σ k := rfl
theorem cF_uS (ar : Nat) (σ : St) (j k : Nat) (v : Int32) : cF ar (uS σ j k v) = cF ar σ := rfl
theorem cF_uT (ar : Nat) (σ : St) (j k : Nat) (v : Int64) : cF ar (uT σ j k v) = cF ar σ := rfl
theorem cF_uB (ar : Nat) (σ : St) (j k : Nat) (v : Bool) : cF ar (uB σ j k v) = cF ar σ := rfl
theorem wlI_s (σ : St) (n : Nat) : wlI σ (n + 1) = match (wlI σ n).2.2 with
    | none => wlI σ n
    | some k => (if ended σ k then (wlI σ n).1 else (wlI σ n).1 - gS σ 3 k, if ended σ k then (wlI σ n).2.1 else (wlI σ n).2.1 + 1, nxt σ (some k)) := rfl
theorem wlI_lt {σ : St} {k : Nat} : ∀ {n : Nat}, (wlI σ n).2.2 = some k → k < 32
  | 0, h => nxt_lt h
  | n + 1, h => by
    rw [wlI_s] at h
    cases hc : (wlI σ n).2.2 with
    | none => rw [hc] at h; exact wlI_lt (n := n) h
    | some j => rw [hc] at h; exact nxt_lt h
theorem nth_s (σ : St) (n : Nat) : nth σ (n + 1) = match nth σ n with
    | none => none
    | some k => nxt σ (some k) := rfl
theorem nth_lt {σ : St} {k : Nat} : ∀ {n : Nat}, nth σ n = some k → k < 32
  | 0, h => nxt_lt h
  | n + 1, h => by
    rw [nth_s] at h
    cases hc : nth σ n with
    | none => rw [hc] at h; cases h
    | some j => rw [hc] at h; exact nxt_lt h
end
section
set_option maxHeartbeats 4000000 in
set_option maxRecDepth 100000 in
theorem k_X1_hasEnded (l : Launch) (D : va_G) (ax ar : Nat) (ad : Nat → Nat) (cO : ClassId) (sz : Nat) (σ : St) {k : Nat} (hk : k < 32) : Met l yX1_hasEnded wsX1_hasEnded ({ frames := 0, cells := 0, slots := 0, locals := 0 } : Room) (va_Pc [.ref ax, .ref (ad k)] (xPre D (cT cO) xE (cW ax ar ad cO) σ sz)) (va_Qi (fun (r : Int32) (u : St) => r = bI (ended σ k) ∧ u = σ) (xB D (cT cO) (cW ax ar ad cO) (va_A (cW ax ar ad cO σ) sz)) (va_A (cW ax ar ad cO σ) sz)) 0 0 (va_A (cW ax ar ad cO σ) sz) := by
  refine xOpen (w := (cW ax ar ad cO)) (σ := σ) (cc := cX1_hasEnded) (maxL := 2) (ret := some .boolean) (QQ := fun A => va_Qi (fun (r : Int32) (u : St) => r = bI (ended σ k) ∧ u = σ) (xB D (cT cO) (cW ax ar ad cO) A) A) (by decide) rfl (Nat.le_of_ble_eq_true rfl) ?_
  intro p e s m below meth c A hx hb hr hml hown hts hlocks hname hK hE hA hP hD hS ls hl
  have hl : lv_has ls 2 [(0, .ref ax), (1, .ref (ad k))] := hl
  have hown : s.vm.findClass RX1 = some m.cls := hown
  have hi0 : ∀ w ∈ wsX00, w ∈ wsX1_hasEnded := (fun _ h => List.mem_cons_of_mem _ (List.mem_append_right _ h))
  have hi1 : ∀ w ∈ wsX10, w ∈ wsX1_hasEnded := (fun _ h => List.mem_cons_of_mem _ (List.mem_append_left _ (List.mem_append_right _ h)))
  generalize hH : s.heap = H at hP
  have hS : va_S A s.heap H [] := by rw [← hH]; exact va_S.rf
  generalize hlo : ([] : List Loc) = locs at hS
  refine lv_aload_n hx hb dX1_hasEnded_0 rfl (lv_at hl 0 rfl) ?_
  refine c_get hx hb hts hi1 hown hK hP 1 (by decide) (List.mem_of_getElem? (i := 1) rfl) (v := .int (gI σ 1)) rfl dX1_hasEnded_1 (fun _ h => h) ?_
  refine lv_aload_n hx hb dX1_hasEnded_4 rfl (lv_at hl 1 rfl) ?_
  refine s_get hx hb hts hi0 hown hK hE hP hk 5 (by decide) rfl (v := .int (gS σ 5 k)) rfl dX1_hasEnded_5 (fun _ h => h) ?_
  refine lv_icmp_lt (tgt := 15) hx hb dX1_hasEnded_8 (by decide) (fun c_1 => ?_) (fun c_1 => ?_)
  · refine lv_iconst (v := 0) hx hb dX1_hasEnded_15 (by decide) ?_
    exact x_zret (b := false) hx hb hr hlocks hK (σ) hP hD hS ⟨by simp only [ended]; simp [c_1], rfl⟩ dX1_hasEnded_16
  · refine lv_iconst (v := 1) hx hb dX1_hasEnded_11 (by decide) ?_
    refine lv_goto (tgt := 16) hx hb dX1_hasEnded_12 (by decide) ?_
    exact x_zret (b := true) hx hb hr hlocks hK (σ) hP hD hS ⟨by simp only [ended]; simp [c_1], rfl⟩ dX1_hasEnded_16
set_option maxHeartbeats 4000000 in
set_option maxRecDepth 100000 in
theorem k_X1_isInOrder (l : Launch) (D : va_G) (ax ar : Nat) (ad : Nat → Nat) (cO : ClassId) (sz : Nat) (σ : St) {k : Nat} (hk : k < 32) : Met l yX1_isInOrder wsX1_isInOrder ({ frames := 0, cells := 0, slots := 0, locals := 0 } : Room) (va_Pc [.ref (ad k)] (xPre D (cT cO) xE (cW ax ar ad cO) σ sz)) (va_Qi (fun (r : Int32) (u : St) => r = bI (inO σ k) ∧ u = σ) (xB D (cT cO) (cW ax ar ad cO) (va_A (cW ax ar ad cO σ) sz)) (va_A (cW ax ar ad cO σ) sz)) 0 0 (va_A (cW ax ar ad cO σ) sz) := by
  refine xOpen (w := (cW ax ar ad cO)) (σ := σ) (cc := cX1_isInOrder) (maxL := 1) (ret := some .boolean) (QQ := fun A => va_Qi (fun (r : Int32) (u : St) => r = bI (inO σ k) ∧ u = σ) (xB D (cT cO) (cW ax ar ad cO) A) A) (by decide) rfl (Nat.le_of_ble_eq_true rfl) ?_
  intro p e s m below meth c A hx hb hr hml hown hts hlocks hname hK hE hA hP hD hS ls hl
  have hl : lv_has ls 1 [(0, .ref (ad k))] := hl
  have hown : s.vm.findClass RX1 = some m.cls := hown
  have hi0 : ∀ w ∈ wsX00, w ∈ wsX1_isInOrder := (fun _ h => List.mem_cons_of_mem _ (List.mem_append_right _ h))
  generalize hH : s.heap = H at hP
  have hS : va_S A s.heap H [] := by rw [← hH]; exact va_S.rf
  generalize hlo : ([] : List Loc) = locs at hS
  refine lv_aload_n hx hb dX1_isInOrder_0 rfl (lv_at hl 0 rfl) ?_
  refine s_get hx hb hts hi0 hown hK hE hP hk 1 (by decide) rfl (v := .int (bI (gB σ 1 k))) rfl dX1_isInOrder_1 (fun _ h => h) ?_
  refine x_ifeq (tgt := 18) hx hb dX1_isInOrder_4 (by decide) (fun c_1 => ?_) (fun c_1 => ?_)
  · refine lv_iconst (v := 0) hx hb dX1_isInOrder_18 (by decide) ?_
    exact x_zret (b := false) hx hb hr hlocks hK (σ) hP hD hS ⟨by simp only [inO]; simp [c_1], rfl⟩ dX1_isInOrder_19
  · refine lv_aload_n hx hb dX1_isInOrder_7 rfl (lv_at hl 0 rfl) ?_
    refine s_get hx hb hts hi0 hown hK hE hP hk 2 (by decide) rfl (v := .int (bI (gB σ 2 k))) rfl dX1_isInOrder_8 (fun _ h => h) ?_
    refine x_ifne (tgt := 18) hx hb dX1_isInOrder_11 (by decide) (fun c_2 => ?_) (fun c_2 => ?_)
    · refine lv_iconst (v := 0) hx hb dX1_isInOrder_18 (by decide) ?_
      exact x_zret (b := false) hx hb hr hlocks hK (σ) hP hD hS ⟨by simp only [inO]; simp [c_1, c_2], rfl⟩ dX1_isInOrder_19
    · refine lv_iconst (v := 1) hx hb dX1_isInOrder_14 (by decide) ?_
      refine lv_goto (tgt := 19) hx hb dX1_isInOrder_15 (by decide) ?_
      exact x_zret (b := true) hx hb hr hlocks hK (σ) hP hD hS ⟨by simp only [inO]; simp [c_1, c_2], rfl⟩ dX1_isInOrder_19
set_option maxHeartbeats 4000000 in
set_option maxRecDepth 100000 in
theorem k_X1_leavesBefore (l : Launch) (D : va_G) (ax ar : Nat) (ad : Nat → Nat) (cO : ClassId) (sz : Nat) (σ : St) {i j : Nat} (hi : i < 32) (hj : j < 32) : Met l yX1_leavesBefore wsX1_leavesBefore ({ frames := 0, cells := 0, slots := 0, locals := 0 } : Room) (va_Pc [.ref (ad i), .ref (ad j)] (xPre D (cT cO) xE (cW ax ar ad cO) σ sz)) (va_Qi (fun (r : Int32) (u : St) => r = bI (bef σ i j) ∧ u = σ) (xB D (cT cO) (cW ax ar ad cO) (va_A (cW ax ar ad cO σ) sz)) (va_A (cW ax ar ad cO σ) sz)) 0 0 (va_A (cW ax ar ad cO σ) sz) := by
  refine xOpen (w := (cW ax ar ad cO)) (σ := σ) (cc := cX1_leavesBefore) (maxL := 2) (ret := some .boolean) (QQ := fun A => va_Qi (fun (r : Int32) (u : St) => r = bI (bef σ i j) ∧ u = σ) (xB D (cT cO) (cW ax ar ad cO) A) A) (by decide) rfl (Nat.le_of_ble_eq_true rfl) ?_
  intro p e s m below meth c A hx hb hr hml hown hts hlocks hname hK hE hA hP hD hS ls hl
  have hl : lv_has ls 2 [(0, .ref (ad i)), (1, .ref (ad j))] := hl
  have hown : s.vm.findClass RX1 = some m.cls := hown
  have hi0 : ∀ w ∈ wsX00, w ∈ wsX1_leavesBefore := (fun _ h => List.mem_cons_of_mem _ (List.mem_append_right _ h))
  generalize hH : s.heap = H at hP
  have hS : va_S A s.heap H [] := by rw [← hH]; exact va_S.rf
  generalize hlo : ([] : List Loc) = locs at hS
  refine lv_aload_n hx hb dX1_leavesBefore_0 rfl (lv_at hl 0 rfl) ?_
  refine s_get hx hb hts hi0 hown hK hE hP hi 6 (by decide) rfl (v := .long (gT σ 6 i)) rfl dX1_leavesBefore_1 (fun _ h => h) ?_
  refine lv_aload_n hx hb dX1_leavesBefore_4 rfl (lv_at hl 1 rfl) ?_
  refine s_get hx hb hts hi0 hown hK hE hP hj 6 (by decide) rfl (v := .long (gT σ 6 j)) rfl dX1_leavesBefore_5 (fun _ h => h) ?_
  refine x_lt (tgt := 36) hx hb dX1_leavesBefore_8 dX1_leavesBefore_9 (by decide) (fun c_1 => ?_) (fun c_1 => ?_)
  · refine lv_iconst (v := 1) hx hb dX1_leavesBefore_36 (by decide) ?_
    refine lv_goto (tgt := 41) hx hb dX1_leavesBefore_37 (by decide) ?_
    exact x_zret (b := true) hx hb hr hlocks hK (σ) hP hD hS ⟨by simp only [bef]; simp [c_1], rfl⟩ dX1_leavesBefore_41
  · refine lv_aload_n hx hb dX1_leavesBefore_12 rfl (lv_at hl 0 rfl) ?_
    refine s_get hx hb hts hi0 hown hK hE hP hi 6 (by decide) rfl (v := .long (gT σ 6 i)) rfl dX1_leavesBefore_13 (fun _ h => h) ?_
    refine lv_aload_n hx hb dX1_leavesBefore_16 rfl (lv_at hl 1 rfl) ?_
    refine s_get hx hb hts hi0 hown hK hE hP hj 6 (by decide) rfl (v := .long (gT σ 6 j)) rfl dX1_leavesBefore_17 (fun _ h => h) ?_
    refine x_ne (tgt := 40) hx hb dX1_leavesBefore_20 dX1_leavesBefore_21 (by decide) (fun c_2 => ?_) (fun c_2 => ?_)
    · refine lv_iconst (v := 0) hx hb dX1_leavesBefore_40 (by decide) ?_
      exact x_zret (b := false) hx hb hr hlocks hK (σ) hP hD hS ⟨by simp only [bef]; simp [c_1, c_2], rfl⟩ dX1_leavesBefore_41
    · refine lv_aload_n hx hb dX1_leavesBefore_24 rfl (lv_at hl 0 rfl) ?_
      refine s_get hx hb hts hi0 hown hK hE hP hi 7 (by decide) rfl (v := .long (gT σ 7 i)) rfl dX1_leavesBefore_25 (fun _ h => h) ?_
      refine lv_aload_n hx hb dX1_leavesBefore_28 rfl (lv_at hl 1 rfl) ?_
      refine s_get hx hb hts hi0 hown hK hE hP hj 7 (by decide) rfl (v := .long (gT σ 7 j)) rfl dX1_leavesBefore_29 (fun _ h => h) ?_
      refine x_ge (tgt := 40) hx hb dX1_leavesBefore_32 dX1_leavesBefore_33 (by decide) (fun c_3 => ?_) (fun c_3 => ?_)
      · refine lv_iconst (v := 0) hx hb dX1_leavesBefore_40 (by decide) ?_
        exact x_zret (b := false) hx hb hr hlocks hK (σ) hP hD hS ⟨by simp only [bef]; simp [c_1, c_2, c_3], rfl⟩ dX1_leavesBefore_41
      · refine lv_iconst (v := 1) hx hb dX1_leavesBefore_36 (by decide) ?_
        refine lv_goto (tgt := 41) hx hb dX1_leavesBefore_37 (by decide) ?_
        exact x_zret (b := true) hx hb hr hlocks hK (σ) hP hD hS ⟨by simp only [bef]; simp [c_1, c_2, c_3], rfl⟩ dX1_leavesBefore_41
end
section
set_option maxHeartbeats 4000000 in
set_option maxRecDepth 100000 in
theorem k_X1_used (l : Launch) (D : va_G) (ax ar : Nat) (ad : Nat → Nat) (cO : ClassId) (sz : Nat) (σ : St) : Met l yX1_used wsX1_used ({ frames := 1, cells := 0, slots := 0, locals := 30 } : Room) (va_Pc [.ref ax] (xPre D (cT cO) xE (cW ax ar ad cO) σ sz)) (va_Qi (fun (r : Int32) (u : St) => r = used σ ∧ u = σ) (xB D (cT cO) (cW ax ar ad cO) (va_A (cW ax ar ad cO σ) sz)) (va_A (cW ax ar ad cO σ) sz)) 0 0 (va_A (cW ax ar ad cO σ) sz) := by
  refine xOpen (w := (cW ax ar ad cO)) (σ := σ) (cc := cX1_used) (maxL := 6) (ret := some .int) (QQ := fun A => va_Qi (fun (r : Int32) (u : St) => r = used σ ∧ u = σ) (xB D (cT cO) (cW ax ar ad cO) A) A) (by decide) rfl (Nat.le_of_ble_eq_true rfl) ?_
  intro p e s m below meth c A hx hb hr hml hown hts hlocks hname hK hE hA hP hD hS ls hl
  have hl : lv_has ls 6 [(0, .ref ax)] := hl
  have hown : s.vm.findClass RX1 = some m.cls := hown
  have hi0 : ∀ w ∈ wsX00, w ∈ wsX1_used := (fun _ h => List.mem_cons_of_mem _ (List.mem_append_right _ h))
  have hi1 : ∀ w ∈ wsX10, w ∈ wsX1_used := (fun _ h => List.mem_cons_of_mem _ (List.mem_append_left _ (List.mem_append_right _ h)))
  generalize hH : s.heap = H at hP
  have hS : va_S A s.heap H [] := by rw [← hH]; exact va_S.rf
  generalize hlo : ([] : List Loc) = locs at hS
  refine lv_iconst (v := 0) hx hb dX1_used_0 (by decide) ?_
  refine lv_istore_n (lv' := [(1, .int 0), (0, .ref ax)]) hx hb dX1_used_1 rfl hl (by decide) rfl (fun ls hl => ?_)
  refine lv_aload_n hx hb dX1_used_2 rfl (lv_at hl 1 rfl) ?_
  refine c_get hx hb hts hi1 hown hK hP 0 (by decide) (List.mem_of_getElem? (i := 1) rfl) (v := .ref ar) rfl dX1_used_3 (fun _ h => h) ?_
  refine lv_astore_n (lv' := [(2, .ref ar), (1, .int 0), (0, .ref ax)]) hx hb dX1_used_6 rfl hl (by decide) rfl (fun ls hl => ?_)
  refine lv_aload_n hx hb dX1_used_7 rfl (lv_at hl 0 rfl) ?_
  refine c_alen hx hb hK hP dX1_used_8 ?_
  refine lv_istore_n (lv' := [(3, .int 32), (2, .ref ar), (1, .int 0), (0, .ref ax)]) hx hb dX1_used_9 rfl hl (by decide) rfl (fun ls hl => ?_)
  refine lv_iconst (v := 0) hx hb dX1_used_10 (by decide) ?_
  refine lv_istore (lv' := [(4, .int 0), (3, .int 32), (2, .ref ar), (1, .int 0), (0, .ref ax)]) hx hb dX1_used_11 hl (by decide) rfl (fun ls hl => ?_)
  have loop : ∀ (n i : Nat) (ls : Array Slot), i ≤ 32 → 32 - i < n → lv_has ls 6 [(0, .ref ax), (1, .int (sumI (uF σ) i)), (2, .ref ar), (3, .int 32), (4, .int (nI i))] → W p l e (headSpec wsX1_used ({ frames := 1, cells := 0, slots := 0, locals := 30 } : Room)).room s m [.ref ax].toArray below meth c H locs 0 0 (MQ below (va_Qi (fun (r : Int32) (u : St) => r = used σ ∧ u = σ) (xB D (cT cO) (cW ax ar ad cO) A) A) [.ref ax].toArray s 0 0 A) (F0 m 13 ls []) := by
    intro n
    induction n with
    | zero =>
      intro i ls h1 h2
      exact absurd h2 (by omega)
    | succ n ih =>
      intro i ls hi hn hl
      refine lv_iload hx hb dX1_used_13 (lv_at hl 4 rfl) ?_
      refine lv_iload_n hx hb dX1_used_15 rfl (lv_at hl 3 rfl) ?_
      refine x_icmp_ge (tgt := 47) hx hb dX1_used_16 (by decide) (fun c_1 => ?_) (fun c_1 => ?_)
      · have hi9 : i = 32 := by
          rcases Nat.lt_or_ge i 32 with q | q
          · exact absurd ((nI_lt32 hi).mpr q) c_1
          · omega
        subst hi9
        refine lv_iload_n hx hb dX1_used_47 rfl (lv_at hl 1 rfl) ?_
        exact x_iret hx hb hr hlocks hK (σ) hP hD hS ⟨rfl, rfl⟩ dX1_used_48
      · have hlt : i < 32 := (nI_lt32 hi).mp c_1
        refine lv_aload_n hx hb dX1_used_19 rfl (lv_at hl 2 rfl) ?_
        refine lv_iload hx hb dX1_used_20 (lv_at hl 4 rfl) ?_
        refine c_aald hx hb hK hP hlt dX1_used_22 ?_
        refine lv_astore (lv' := [(5, .ref (ad i)), (0, .ref ax), (1, .int (sumI (uF σ) i)), (2, .ref ar), (3, .int 32), (4, .int (nI i))]) hx hb dX1_used_23 hl (by decide) rfl (fun ls hl => ?_)
        refine lv_aload hx hb dX1_used_25 (lv_at hl 0 rfl) ?_
        refine s_get hx hb hts hi0 hown hK hE hP hlt 1 (by decide) rfl (v := .int (bI (gB σ 1 i))) rfl dX1_used_27 (fun _ h => h) ?_
        refine x_ifeq (tgt := 41) hx hb dX1_used_30 (by decide) (fun c_2 => ?_) (fun c_2 => ?_)
        · refine lv_iinc (v := (nI i) + 1) (lv' := [(4, .int ((nI i) + 1)), (5, .ref (ad i)), (0, .ref ax), (1, .int (sumI (uF σ) i)), (2, .ref ar), (3, .int 32)]) hx hb dX1_used_41 hl (k := 5) rfl rfl (by decide) rfl (fun ls hl => ?_)
          refine lv_goto (tgt := 13) hx hb dX1_used_44 (by decide) ?_
          have e9_0 : sumI (uF σ) (i + 1) = sumI (uF σ) i := by simp [sumI, uF, Int32.add_zero, c_1, c_2]
          exact ih (i + 1) ls (by omega) (by omega) (by rw [e9_0, nI_succ]; exact lv_sub hl [2, 3, 4, 5, 0] rfl)
        · refine lv_iload_n hx hb dX1_used_33 rfl (lv_at hl 2 rfl) ?_
          refine lv_aload hx hb dX1_used_34 (lv_at hl 0 rfl) ?_
          refine s_get hx hb hts hi0 hown hK hE hP hlt 3 (by decide) rfl (v := .int (gS σ 3 i)) rfl dX1_used_36 (fun _ h => h) ?_
          refine lv_iadd hx hb dX1_used_39 ?_
          refine lv_istore_n (lv' := [(1, .int ((sumI (uF σ) i) + (gS σ 3 i))), (5, .ref (ad i)), (0, .ref ax), (2, .ref ar), (3, .int 32), (4, .int (nI i))]) hx hb dX1_used_40 rfl hl (by decide) rfl (fun ls hl => ?_)
          refine lv_iinc (v := (nI i) + 1) (lv' := [(4, .int ((nI i) + 1)), (1, .int ((sumI (uF σ) i) + (gS σ 3 i))), (5, .ref (ad i)), (0, .ref ax), (2, .ref ar), (3, .int 32)]) hx hb dX1_used_41 hl (k := 5) rfl rfl (by decide) rfl (fun ls hl => ?_)
          refine lv_goto (tgt := 13) hx hb dX1_used_44 (by decide) ?_
          have e9_0 : sumI (uF σ) (i + 1) = (sumI (uF σ) i) + (gS σ 3 i) := by simp [sumI, uF, Int32.add_zero, c_1, c_2]
          exact ih (i + 1) ls (by omega) (by omega) (by rw [e9_0, nI_succ]; exact lv_sub hl [3, 1, 4, 5, 0] rfl)
  exact loop 33 0 _ (Nat.zero_le _) (by decide) (lv_sub hl [4, 3, 2, 1, 0] rfl)
set_option maxHeartbeats 4000000 in
set_option maxRecDepth 100000 in
theorem k_X1_bytesThatCannotLeave (l : Launch) (D : va_G) (ax ar : Nat) (ad : Nat → Nat) (cO : ClassId) (sz : Nat) (σ : St) : Met l yX1_bytesThatCannotLeave wsX1_bytesThatCannotLeave ({ frames := 1, cells := 0, slots := 0, locals := 30 } : Room) (va_Pc [.ref ax] (xPre D (cT cO) xE (cW ax ar ad cO) σ sz)) (va_Qi (fun (r : Int32) (u : St) => r = pinA σ ∧ u = σ) (xB D (cT cO) (cW ax ar ad cO) (va_A (cW ax ar ad cO σ) sz)) (va_A (cW ax ar ad cO σ) sz)) 0 0 (va_A (cW ax ar ad cO σ) sz) := by
  refine xOpen (w := (cW ax ar ad cO)) (σ := σ) (cc := cX1_bytesThatCannotLeave) (maxL := 6) (ret := some .int) (QQ := fun A => va_Qi (fun (r : Int32) (u : St) => r = pinA σ ∧ u = σ) (xB D (cT cO) (cW ax ar ad cO) A) A) (by decide) rfl (Nat.le_of_ble_eq_true rfl) ?_
  intro p e s m below meth c A hx hb hr hml hown hts hlocks hname hK hE hA hP hD hS ls hl
  have hl : lv_has ls 6 [(0, .ref ax)] := hl
  have hown : s.vm.findClass RX1 = some m.cls := hown
  have hi0 : ∀ w ∈ wsX00, w ∈ wsX1_bytesThatCannotLeave := (fun _ h => List.mem_cons_of_mem _ (List.mem_append_right _ h))
  have hi1 : ∀ w ∈ wsX10, w ∈ wsX1_bytesThatCannotLeave := (fun _ h => List.mem_cons_of_mem _ (List.mem_append_left _ (List.mem_append_right _ h)))
  generalize hH : s.heap = H at hP
  have hS : va_S A s.heap H [] := by rw [← hH]; exact va_S.rf
  generalize hlo : ([] : List Loc) = locs at hS
  refine lv_iconst (v := 0) hx hb dX1_bytesThatCannotLeave_0 (by decide) ?_
  refine lv_istore_n (lv' := [(1, .int 0), (0, .ref ax)]) hx hb dX1_bytesThatCannotLeave_1 rfl hl (by decide) rfl (fun ls hl => ?_)
  refine lv_aload_n hx hb dX1_bytesThatCannotLeave_2 rfl (lv_at hl 1 rfl) ?_
  refine c_get hx hb hts hi1 hown hK hP 0 (by decide) (List.mem_of_getElem? (i := 1) rfl) (v := .ref ar) rfl dX1_bytesThatCannotLeave_3 (fun _ h => h) ?_
  refine lv_astore_n (lv' := [(2, .ref ar), (1, .int 0), (0, .ref ax)]) hx hb dX1_bytesThatCannotLeave_6 rfl hl (by decide) rfl (fun ls hl => ?_)
  refine lv_aload_n hx hb dX1_bytesThatCannotLeave_7 rfl (lv_at hl 0 rfl) ?_
  refine c_alen hx hb hK hP dX1_bytesThatCannotLeave_8 ?_
  refine lv_istore_n (lv' := [(3, .int 32), (2, .ref ar), (1, .int 0), (0, .ref ax)]) hx hb dX1_bytesThatCannotLeave_9 rfl hl (by decide) rfl (fun ls hl => ?_)
  refine lv_iconst (v := 0) hx hb dX1_bytesThatCannotLeave_10 (by decide) ?_
  refine lv_istore (lv' := [(4, .int 0), (3, .int 32), (2, .ref ar), (1, .int 0), (0, .ref ax)]) hx hb dX1_bytesThatCannotLeave_11 hl (by decide) rfl (fun ls hl => ?_)
  have loop : ∀ (n i : Nat) (ls : Array Slot) (H : Heap) (locs : List Loc), i ≤ 32 → 32 - i < n → va_P D vwCl (cW ax ar ad cO (σ)) H → va_D A (cW ax ar ad cO (σ)) → va_S A s.heap H locs → lv_has ls 6 [(0, .ref ax), (1, .int (sumI (pF σ) i)), (2, .ref ar), (3, .int 32), (4, .int (nI i))] → W p l e (headSpec wsX1_bytesThatCannotLeave ({ frames := 1, cells := 0, slots := 0, locals := 30 } : Room)).room s m [.ref ax].toArray below meth c H locs 0 0 (MQ below (va_Qi (fun (r : Int32) (u : St) => r = pinA σ ∧ u = σ) (xB D (cT cO) (cW ax ar ad cO) A) A) [.ref ax].toArray s 0 0 A) (F0 m 13 ls []) := by
    intro n
    induction n with
    | zero =>
      intro i ls H locs h1 h2
      exact absurd h2 (by omega)
    | succ n ih =>
      intro i ls H locs hi hn hP hD hS hl
      refine lv_iload hx hb dX1_bytesThatCannotLeave_13 (lv_at hl 4 rfl) ?_
      refine lv_iload_n hx hb dX1_bytesThatCannotLeave_15 rfl (lv_at hl 3 rfl) ?_
      refine x_icmp_ge (tgt := 64) hx hb dX1_bytesThatCannotLeave_16 (by decide) (fun c_1 => ?_) (fun c_1 => ?_)
      · have hi9 : i = 32 := by
          rcases Nat.lt_or_ge i 32 with q | q
          · exact absurd ((nI_lt32 hi).mpr q) c_1
          · omega
        subst hi9
        refine lv_iload_n hx hb dX1_bytesThatCannotLeave_64 rfl (lv_at hl 1 rfl) ?_
        exact x_iret hx hb hr hlocks hK (σ) hP hD hS ⟨rfl, rfl⟩ dX1_bytesThatCannotLeave_65
      · have hlt : i < 32 := (nI_lt32 hi).mp c_1
        refine lv_aload_n hx hb dX1_bytesThatCannotLeave_19 rfl (lv_at hl 2 rfl) ?_
        refine lv_iload hx hb dX1_bytesThatCannotLeave_20 (lv_at hl 4 rfl) ?_
        refine c_aald hx hb hK hP hlt dX1_bytesThatCannotLeave_22 ?_
        refine lv_astore (lv' := [(5, .ref (ad i)), (0, .ref ax), (1, .int (sumI (pF σ) i)), (2, .ref ar), (3, .int 32), (4, .int (nI i))]) hx hb dX1_bytesThatCannotLeave_23 hl (by decide) rfl (fun ls hl => ?_)
        refine lv_aload hx hb dX1_bytesThatCannotLeave_25 (lv_at hl 0 rfl) ?_
        refine s_get hx hb hts hi0 hown hK hE hP hlt 1 (by decide) rfl (v := .int (bI (gB σ 1 i))) rfl dX1_bytesThatCannotLeave_27 (fun _ h => h) ?_
        refine x_ifeq (tgt := 58) hx hb dX1_bytesThatCannotLeave_30 (by decide) (fun c_2 => ?_) (fun c_2 => ?_)
        · refine lv_iinc (v := (nI i) + 1) (lv' := [(4, .int ((nI i) + 1)), (5, .ref (ad i)), (0, .ref ax), (1, .int (sumI (pF σ) i)), (2, .ref ar), (3, .int 32)]) hx hb dX1_bytesThatCannotLeave_58 hl (k := 5) rfl rfl (by decide) rfl (fun ls hl => ?_)
          refine lv_goto (tgt := 13) hx hb dX1_bytesThatCannotLeave_61 (by decide) ?_
          have e9_0 : sumI (pF σ) (i + 1) = sumI (pF σ) i := by simp [sumI, pF, Int32.add_zero, c_1, c_2]
          exact ih (i + 1) ls H locs (by omega) (by omega) hP hD hS (by rw [e9_0, nI_succ]; exact lv_sub hl [2, 3, 4, 5, 0] rfl)
        · refine lv_aload hx hb dX1_bytesThatCannotLeave_33 (lv_at hl 0 rfl) ?_
          refine s_get hx hb hts hi0 hown hK hE hP hlt 2 (by decide) rfl (v := .int (bI (gB σ 2 i))) rfl dX1_bytesThatCannotLeave_35 (fun _ h => h) ?_
          refine x_ifeq (tgt := 58) hx hb dX1_bytesThatCannotLeave_38 (by decide) (fun c_3 => ?_) (fun c_3 => ?_)
          · refine lv_iinc (v := (nI i) + 1) (lv' := [(4, .int ((nI i) + 1)), (5, .ref (ad i)), (0, .ref ax), (1, .int (sumI (pF σ) i)), (2, .ref ar), (3, .int 32)]) hx hb dX1_bytesThatCannotLeave_58 hl (k := 5) rfl rfl (by decide) rfl (fun ls hl => ?_)
            refine lv_goto (tgt := 13) hx hb dX1_bytesThatCannotLeave_61 (by decide) ?_
            have e9_0 : sumI (pF σ) (i + 1) = sumI (pF σ) i := by simp [sumI, pF, Int32.add_zero, c_1, c_2, c_3]
            exact ih (i + 1) ls H locs (by omega) (by omega) hP hD hS (by rw [e9_0, nI_succ]; exact lv_sub hl [2, 3, 4, 5, 0] rfl)
          · refine lv_aload_n hx hb dX1_bytesThatCannotLeave_41 rfl (lv_at hl 1 rfl) ?_
            refine lv_aload hx hb dX1_bytesThatCannotLeave_42 (lv_at hl 0 rfl) ?_
            refine x_calli (va_runV (As := [.ref (ad i)]) (rest := []) ⟨hx, hb, hml, hown, hts⟩ (k_X1_hasEnded l D ax ar ad cO H.size σ hlt) (cwV 1 hts gX1_bytesThatCannotLeave_X1_hasEnded rfl rfl rfl (by decide +kernel) ⟨Nat.le_of_ble_eq_true rfl, Nat.le_of_ble_eq_true rfl⟩) (xPreV xE_ok hE hK hA hP hD hS (q0 := 0) (ci := 1) rfl rfl rfl) rfl rfl hl.1 rfl (lv_room (Nat.le_of_ble_eq_true rfl)) dX1_bytesThatCannotLeave_44 ⟨Nat.le_of_ble_eq_true rfl, Nat.le_of_ble_eq_true rfl⟩) hD hS hA (fun r u H locs hp hP hD hS => ?_)
            obtain ⟨rfl, hu9⟩ := hp
            rw [hu9] at hP hD
            refine x_ifne (tgt := 58) hx hb dX1_bytesThatCannotLeave_47 (by decide) (fun c_4 => ?_) (fun c_4 => ?_)
            · refine lv_iinc (v := (nI i) + 1) (lv' := [(4, .int ((nI i) + 1)), (5, .ref (ad i)), (0, .ref ax), (1, .int (sumI (pF σ) i)), (2, .ref ar), (3, .int 32)]) hx hb dX1_bytesThatCannotLeave_58 hl (k := 5) rfl rfl (by decide) rfl (fun ls hl => ?_)
              refine lv_goto (tgt := 13) hx hb dX1_bytesThatCannotLeave_61 (by decide) ?_
              have e9_0 : sumI (pF σ) (i + 1) = sumI (pF σ) i := by simp [sumI, pF, Int32.add_zero, c_1, c_2, c_3, c_4]
              exact ih (i + 1) ls H locs (by omega) (by omega) hP hD hS (by rw [e9_0, nI_succ]; exact lv_sub hl [2, 3, 4, 5, 0] rfl)
            · refine lv_iload_n hx hb dX1_bytesThatCannotLeave_50 rfl (lv_at hl 2 rfl) ?_
              refine lv_aload hx hb dX1_bytesThatCannotLeave_51 (lv_at hl 0 rfl) ?_
              refine s_get hx hb hts hi0 hown hK hE hP hlt 3 (by decide) rfl (v := .int (gS σ 3 i)) rfl dX1_bytesThatCannotLeave_53 (fun _ h => h) ?_
              refine lv_iadd hx hb dX1_bytesThatCannotLeave_56 ?_
              refine lv_istore_n (lv' := [(1, .int ((sumI (pF σ) i) + (gS σ 3 i))), (5, .ref (ad i)), (0, .ref ax), (2, .ref ar), (3, .int 32), (4, .int (nI i))]) hx hb dX1_bytesThatCannotLeave_57 rfl hl (by decide) rfl (fun ls hl => ?_)
              refine lv_iinc (v := (nI i) + 1) (lv' := [(4, .int ((nI i) + 1)), (1, .int ((sumI (pF σ) i) + (gS σ 3 i))), (5, .ref (ad i)), (0, .ref ax), (2, .ref ar), (3, .int 32)]) hx hb dX1_bytesThatCannotLeave_58 hl (k := 5) rfl rfl (by decide) rfl (fun ls hl => ?_)
              refine lv_goto (tgt := 13) hx hb dX1_bytesThatCannotLeave_61 (by decide) ?_
              have e9_0 : sumI (pF σ) (i + 1) = (sumI (pF σ) i) + (gS σ 3 i) := by simp [sumI, pF, Int32.add_zero, c_1, c_2, c_3, c_4]
              exact ih (i + 1) ls H locs (by omega) (by omega) hP hD hS (by rw [e9_0, nI_succ]; exact lv_sub hl [3, 1, 4, 5, 0] rfl)
  exact loop 33 0 _ _ _ (Nat.zero_le _) (by decide) hP hD hS (lv_sub hl [4, 3, 2, 1, 0] rfl)
set_option maxHeartbeats 4000000 in
set_option maxRecDepth 100000 in
theorem k_X1_bytesNotOver (l : Launch) (D : va_G) (ax ar : Nat) (ad : Nat → Nat) (cO : ClassId) (sz : Nat) (σ : St) : Met l yX1_bytesNotOver wsX1_bytesNotOver ({ frames := 1, cells := 0, slots := 0, locals := 30 } : Room) (va_Pc [.ref ax] (xPre D (cT cO) xE (cW ax ar ad cO) σ sz)) (va_Qi (fun (r : Int32) (u : St) => r = notO σ ∧ u = σ) (xB D (cT cO) (cW ax ar ad cO) (va_A (cW ax ar ad cO σ) sz)) (va_A (cW ax ar ad cO σ) sz)) 0 0 (va_A (cW ax ar ad cO σ) sz) := by
  refine xOpen (w := (cW ax ar ad cO)) (σ := σ) (cc := cX1_bytesNotOver) (maxL := 6) (ret := some .int) (QQ := fun A => va_Qi (fun (r : Int32) (u : St) => r = notO σ ∧ u = σ) (xB D (cT cO) (cW ax ar ad cO) A) A) (by decide) rfl (Nat.le_of_ble_eq_true rfl) ?_
  intro p e s m below meth c A hx hb hr hml hown hts hlocks hname hK hE hA hP hD hS ls hl
  have hl : lv_has ls 6 [(0, .ref ax)] := hl
  have hown : s.vm.findClass RX1 = some m.cls := hown
  have hi0 : ∀ w ∈ wsX00, w ∈ wsX1_bytesNotOver := (fun _ h => List.mem_cons_of_mem _ (List.mem_append_right _ h))
  have hi1 : ∀ w ∈ wsX10, w ∈ wsX1_bytesNotOver := (fun _ h => List.mem_cons_of_mem _ (List.mem_append_left _ (List.mem_append_right _ h)))
  generalize hH : s.heap = H at hP
  have hS : va_S A s.heap H [] := by rw [← hH]; exact va_S.rf
  generalize hlo : ([] : List Loc) = locs at hS
  refine lv_iconst (v := 0) hx hb dX1_bytesNotOver_0 (by decide) ?_
  refine lv_istore_n (lv' := [(1, .int 0), (0, .ref ax)]) hx hb dX1_bytesNotOver_1 rfl hl (by decide) rfl (fun ls hl => ?_)
  refine lv_aload_n hx hb dX1_bytesNotOver_2 rfl (lv_at hl 1 rfl) ?_
  refine c_get hx hb hts hi1 hown hK hP 0 (by decide) (List.mem_of_getElem? (i := 1) rfl) (v := .ref ar) rfl dX1_bytesNotOver_3 (fun _ h => h) ?_
  refine lv_astore_n (lv' := [(2, .ref ar), (1, .int 0), (0, .ref ax)]) hx hb dX1_bytesNotOver_6 rfl hl (by decide) rfl (fun ls hl => ?_)
  refine lv_aload_n hx hb dX1_bytesNotOver_7 rfl (lv_at hl 0 rfl) ?_
  refine c_alen hx hb hK hP dX1_bytesNotOver_8 ?_
  refine lv_istore_n (lv' := [(3, .int 32), (2, .ref ar), (1, .int 0), (0, .ref ax)]) hx hb dX1_bytesNotOver_9 rfl hl (by decide) rfl (fun ls hl => ?_)
  refine lv_iconst (v := 0) hx hb dX1_bytesNotOver_10 (by decide) ?_
  refine lv_istore (lv' := [(4, .int 0), (3, .int 32), (2, .ref ar), (1, .int 0), (0, .ref ax)]) hx hb dX1_bytesNotOver_11 hl (by decide) rfl (fun ls hl => ?_)
  have loop : ∀ (n i : Nat) (ls : Array Slot) (H : Heap) (locs : List Loc), i ≤ 32 → 32 - i < n → va_P D vwCl (cW ax ar ad cO (σ)) H → va_D A (cW ax ar ad cO (σ)) → va_S A s.heap H locs → lv_has ls 6 [(0, .ref ax), (1, .int (sumI (nF σ) i)), (2, .ref ar), (3, .int 32), (4, .int (nI i))] → W p l e (headSpec wsX1_bytesNotOver ({ frames := 1, cells := 0, slots := 0, locals := 30 } : Room)).room s m [.ref ax].toArray below meth c H locs 0 0 (MQ below (va_Qi (fun (r : Int32) (u : St) => r = notO σ ∧ u = σ) (xB D (cT cO) (cW ax ar ad cO) A) A) [.ref ax].toArray s 0 0 A) (F0 m 13 ls []) := by
    intro n
    induction n with
    | zero =>
      intro i ls H locs h1 h2
      exact absurd h2 (by omega)
    | succ n ih =>
      intro i ls H locs hi hn hP hD hS hl
      refine lv_iload hx hb dX1_bytesNotOver_13 (lv_at hl 4 rfl) ?_
      refine lv_iload_n hx hb dX1_bytesNotOver_15 rfl (lv_at hl 3 rfl) ?_
      refine x_icmp_ge (tgt := 56) hx hb dX1_bytesNotOver_16 (by decide) (fun c_1 => ?_) (fun c_1 => ?_)
      · have hi9 : i = 32 := by
          rcases Nat.lt_or_ge i 32 with q | q
          · exact absurd ((nI_lt32 hi).mpr q) c_1
          · omega
        subst hi9
        refine lv_iload_n hx hb dX1_bytesNotOver_56 rfl (lv_at hl 1 rfl) ?_
        exact x_iret hx hb hr hlocks hK (σ) hP hD hS ⟨rfl, rfl⟩ dX1_bytesNotOver_57
      · have hlt : i < 32 := (nI_lt32 hi).mp c_1
        refine lv_aload_n hx hb dX1_bytesNotOver_19 rfl (lv_at hl 2 rfl) ?_
        refine lv_iload hx hb dX1_bytesNotOver_20 (lv_at hl 4 rfl) ?_
        refine c_aald hx hb hK hP hlt dX1_bytesNotOver_22 ?_
        refine lv_astore (lv' := [(5, .ref (ad i)), (0, .ref ax), (1, .int (sumI (nF σ) i)), (2, .ref ar), (3, .int 32), (4, .int (nI i))]) hx hb dX1_bytesNotOver_23 hl (by decide) rfl (fun ls hl => ?_)
        refine lv_aload hx hb dX1_bytesNotOver_25 (lv_at hl 0 rfl) ?_
        refine s_get hx hb hts hi0 hown hK hE hP hlt 1 (by decide) rfl (v := .int (bI (gB σ 1 i))) rfl dX1_bytesNotOver_27 (fun _ h => h) ?_
        refine x_ifeq (tgt := 50) hx hb dX1_bytesNotOver_30 (by decide) (fun c_2 => ?_) (fun c_2 => ?_)
        · refine lv_iinc (v := (nI i) + 1) (lv' := [(4, .int ((nI i) + 1)), (5, .ref (ad i)), (0, .ref ax), (1, .int (sumI (nF σ) i)), (2, .ref ar), (3, .int 32)]) hx hb dX1_bytesNotOver_50 hl (k := 5) rfl rfl (by decide) rfl (fun ls hl => ?_)
          refine lv_goto (tgt := 13) hx hb dX1_bytesNotOver_53 (by decide) ?_
          have e9_0 : sumI (nF σ) (i + 1) = sumI (nF σ) i := by simp [sumI, nF, Int32.add_zero, c_1, c_2]
          exact ih (i + 1) ls H locs (by omega) (by omega) hP hD hS (by rw [e9_0, nI_succ]; exact lv_sub hl [2, 3, 4, 5, 0] rfl)
        · refine lv_aload_n hx hb dX1_bytesNotOver_33 rfl (lv_at hl 1 rfl) ?_
          refine lv_aload hx hb dX1_bytesNotOver_34 (lv_at hl 0 rfl) ?_
          refine x_calli (va_runV (As := [.ref (ad i)]) (rest := []) ⟨hx, hb, hml, hown, hts⟩ (k_X1_hasEnded l D ax ar ad cO H.size σ hlt) (cwV 1 hts gX1_bytesNotOver_X1_hasEnded rfl rfl rfl (by decide +kernel) ⟨Nat.le_of_ble_eq_true rfl, Nat.le_of_ble_eq_true rfl⟩) (xPreV xE_ok hE hK hA hP hD hS (q0 := 0) (ci := 1) rfl rfl rfl) rfl rfl hl.1 rfl (lv_room (Nat.le_of_ble_eq_true rfl)) dX1_bytesNotOver_36 ⟨Nat.le_of_ble_eq_true rfl, Nat.le_of_ble_eq_true rfl⟩) hD hS hA (fun r u H locs hp hP hD hS => ?_)
          obtain ⟨rfl, hu9⟩ := hp
          rw [hu9] at hP hD
          refine x_ifne (tgt := 50) hx hb dX1_bytesNotOver_39 (by decide) (fun c_3 => ?_) (fun c_3 => ?_)
          · refine lv_iinc (v := (nI i) + 1) (lv' := [(4, .int ((nI i) + 1)), (5, .ref (ad i)), (0, .ref ax), (1, .int (sumI (nF σ) i)), (2, .ref ar), (3, .int 32)]) hx hb dX1_bytesNotOver_50 hl (k := 5) rfl rfl (by decide) rfl (fun ls hl => ?_)
            refine lv_goto (tgt := 13) hx hb dX1_bytesNotOver_53 (by decide) ?_
            have e9_0 : sumI (nF σ) (i + 1) = sumI (nF σ) i := by simp [sumI, nF, Int32.add_zero, c_1, c_2, c_3]
            exact ih (i + 1) ls H locs (by omega) (by omega) hP hD hS (by rw [e9_0, nI_succ]; exact lv_sub hl [2, 3, 4, 5, 0] rfl)
          · refine lv_iload_n hx hb dX1_bytesNotOver_42 rfl (lv_at hl 2 rfl) ?_
            refine lv_aload hx hb dX1_bytesNotOver_43 (lv_at hl 0 rfl) ?_
            refine s_get hx hb hts hi0 hown hK hE hP hlt 3 (by decide) rfl (v := .int (gS σ 3 i)) rfl dX1_bytesNotOver_45 (fun _ h => h) ?_
            refine lv_iadd hx hb dX1_bytesNotOver_48 ?_
            refine lv_istore_n (lv' := [(1, .int ((sumI (nF σ) i) + (gS σ 3 i))), (5, .ref (ad i)), (0, .ref ax), (2, .ref ar), (3, .int 32), (4, .int (nI i))]) hx hb dX1_bytesNotOver_49 rfl hl (by decide) rfl (fun ls hl => ?_)
            refine lv_iinc (v := (nI i) + 1) (lv' := [(4, .int ((nI i) + 1)), (1, .int ((sumI (nF σ) i) + (gS σ 3 i))), (5, .ref (ad i)), (0, .ref ax), (2, .ref ar), (3, .int 32)]) hx hb dX1_bytesNotOver_50 hl (k := 5) rfl rfl (by decide) rfl (fun ls hl => ?_)
            refine lv_goto (tgt := 13) hx hb dX1_bytesNotOver_53 (by decide) ?_
            have e9_0 : sumI (nF σ) (i + 1) = (sumI (nF σ) i) + (gS σ 3 i) := by simp [sumI, nF, Int32.add_zero, c_1, c_2, c_3]
            exact ih (i + 1) ls H locs (by omega) (by omega) hP hD hS (by rw [e9_0, nI_succ]; exact lv_sub hl [3, 1, 4, 5, 0] rfl)
  exact loop 33 0 _ _ _ (Nat.zero_le _) (by decide) hP hD hS (lv_sub hl [4, 3, 2, 1, 0] rfl)
end
section
set_option maxHeartbeats 4000000 in
set_option maxRecDepth 100000 in
theorem k_X1_entries (l : Launch) (D : va_G) (ax ar : Nat) (ad : Nat → Nat) (cO : ClassId) (sz : Nat) (σ : St) : Met l yX1_entries wsX1_entries ({ frames := 1, cells := 0, slots := 0, locals := 30 } : Room) (va_Pc [.ref ax] (xPre D (cT cO) xE (cW ax ar ad cO) σ sz)) (va_Qi (fun (r : Int32) (u : St) => r = ents σ ∧ u = σ) (xB D (cT cO) (cW ax ar ad cO) (va_A (cW ax ar ad cO σ) sz)) (va_A (cW ax ar ad cO σ) sz)) 0 0 (va_A (cW ax ar ad cO σ) sz) := by
  refine xOpen (w := (cW ax ar ad cO)) (σ := σ) (cc := cX1_entries) (maxL := 6) (ret := some .int) (QQ := fun A => va_Qi (fun (r : Int32) (u : St) => r = ents σ ∧ u = σ) (xB D (cT cO) (cW ax ar ad cO) A) A) (by decide) rfl (Nat.le_of_ble_eq_true rfl) ?_
  intro p e s m below meth c A hx hb hr hml hown hts hlocks hname hK hE hA hP hD hS ls hl
  have hl : lv_has ls 6 [(0, .ref ax)] := hl
  have hown : s.vm.findClass RX1 = some m.cls := hown
  have hi0 : ∀ w ∈ wsX00, w ∈ wsX1_entries := (fun _ h => List.mem_cons_of_mem _ (List.mem_append_right _ h))
  have hi1 : ∀ w ∈ wsX10, w ∈ wsX1_entries := (fun _ h => List.mem_cons_of_mem _ (List.mem_append_left _ (List.mem_append_right _ h)))
  generalize hH : s.heap = H at hP
  have hS : va_S A s.heap H [] := by rw [← hH]; exact va_S.rf
  generalize hlo : ([] : List Loc) = locs at hS
  refine lv_iconst (v := 0) hx hb dX1_entries_0 (by decide) ?_
  refine lv_istore_n (lv' := [(1, .int 0), (0, .ref ax)]) hx hb dX1_entries_1 rfl hl (by decide) rfl (fun ls hl => ?_)
  refine lv_aload_n hx hb dX1_entries_2 rfl (lv_at hl 1 rfl) ?_
  refine c_get hx hb hts hi1 hown hK hP 0 (by decide) (List.mem_of_getElem? (i := 1) rfl) (v := .ref ar) rfl dX1_entries_3 (fun _ h => h) ?_
  refine lv_astore_n (lv' := [(2, .ref ar), (1, .int 0), (0, .ref ax)]) hx hb dX1_entries_6 rfl hl (by decide) rfl (fun ls hl => ?_)
  refine lv_aload_n hx hb dX1_entries_7 rfl (lv_at hl 0 rfl) ?_
  refine c_alen hx hb hK hP dX1_entries_8 ?_
  refine lv_istore_n (lv' := [(3, .int 32), (2, .ref ar), (1, .int 0), (0, .ref ax)]) hx hb dX1_entries_9 rfl hl (by decide) rfl (fun ls hl => ?_)
  refine lv_iconst (v := 0) hx hb dX1_entries_10 (by decide) ?_
  refine lv_istore (lv' := [(4, .int 0), (3, .int 32), (2, .ref ar), (1, .int 0), (0, .ref ax)]) hx hb dX1_entries_11 hl (by decide) rfl (fun ls hl => ?_)
  have loop : ∀ (n i : Nat) (ls : Array Slot), i ≤ 32 → 32 - i < n → lv_has ls 6 [(0, .ref ax), (1, .int (sumI (eF σ) i)), (2, .ref ar), (3, .int 32), (4, .int (nI i))] → W p l e (headSpec wsX1_entries ({ frames := 1, cells := 0, slots := 0, locals := 30 } : Room)).room s m [.ref ax].toArray below meth c H locs 0 0 (MQ below (va_Qi (fun (r : Int32) (u : St) => r = ents σ ∧ u = σ) (xB D (cT cO) (cW ax ar ad cO) A) A) [.ref ax].toArray s 0 0 A) (F0 m 13 ls []) := by
    intro n
    induction n with
    | zero =>
      intro i ls h1 h2
      exact absurd h2 (by omega)
    | succ n ih =>
      intro i ls hi hn hl
      refine lv_iload hx hb dX1_entries_13 (lv_at hl 4 rfl) ?_
      refine lv_iload_n hx hb dX1_entries_15 rfl (lv_at hl 3 rfl) ?_
      refine x_icmp_ge (tgt := 42) hx hb dX1_entries_16 (by decide) (fun c_1 => ?_) (fun c_1 => ?_)
      · have hi9 : i = 32 := by
          rcases Nat.lt_or_ge i 32 with q | q
          · exact absurd ((nI_lt32 hi).mpr q) c_1
          · omega
        subst hi9
        refine lv_iload_n hx hb dX1_entries_42 rfl (lv_at hl 1 rfl) ?_
        exact x_iret hx hb hr hlocks hK (σ) hP hD hS ⟨rfl, rfl⟩ dX1_entries_43
      · have hlt : i < 32 := (nI_lt32 hi).mp c_1
        refine lv_aload_n hx hb dX1_entries_19 rfl (lv_at hl 2 rfl) ?_
        refine lv_iload hx hb dX1_entries_20 (lv_at hl 4 rfl) ?_
        refine c_aald hx hb hK hP hlt dX1_entries_22 ?_
        refine lv_astore (lv' := [(5, .ref (ad i)), (0, .ref ax), (1, .int (sumI (eF σ) i)), (2, .ref ar), (3, .int 32), (4, .int (nI i))]) hx hb dX1_entries_23 hl (by decide) rfl (fun ls hl => ?_)
        refine lv_aload hx hb dX1_entries_25 (lv_at hl 0 rfl) ?_
        refine s_get hx hb hts hi0 hown hK hE hP hlt 1 (by decide) rfl (v := .int (bI (gB σ 1 i))) rfl dX1_entries_27 (fun _ h => h) ?_
        refine x_ifeq (tgt := 36) hx hb dX1_entries_30 (by decide) (fun c_2 => ?_) (fun c_2 => ?_)
        · refine lv_iinc (v := (nI i) + 1) (lv' := [(4, .int ((nI i) + 1)), (5, .ref (ad i)), (0, .ref ax), (1, .int (sumI (eF σ) i)), (2, .ref ar), (3, .int 32)]) hx hb dX1_entries_36 hl (k := 5) rfl rfl (by decide) rfl (fun ls hl => ?_)
          refine lv_goto (tgt := 13) hx hb dX1_entries_39 (by decide) ?_
          have e9_0 : sumI (eF σ) (i + 1) = sumI (eF σ) i := by simp [sumI, eF, Int32.add_zero, c_1, c_2]
          exact ih (i + 1) ls (by omega) (by omega) (by rw [e9_0, nI_succ]; exact lv_sub hl [2, 3, 4, 5, 0] rfl)
        · refine lv_iinc (v := (sumI (eF σ) i) + 1) (lv' := [(1, .int ((sumI (eF σ) i) + 1)), (5, .ref (ad i)), (0, .ref ax), (2, .ref ar), (3, .int 32), (4, .int (nI i))]) hx hb dX1_entries_33 hl (k := 2) rfl rfl (by decide) rfl (fun ls hl => ?_)
          refine lv_iinc (v := (nI i) + 1) (lv' := [(4, .int ((nI i) + 1)), (1, .int ((sumI (eF σ) i) + 1)), (5, .ref (ad i)), (0, .ref ax), (2, .ref ar), (3, .int 32)]) hx hb dX1_entries_36 hl (k := 5) rfl rfl (by decide) rfl (fun ls hl => ?_)
          refine lv_goto (tgt := 13) hx hb dX1_entries_39 (by decide) ?_
          have e9_0 : sumI (eF σ) (i + 1) = (sumI (eF σ) i) + 1 := by simp [sumI, eF, Int32.add_zero, c_1, c_2]
          exact ih (i + 1) ls (by omega) (by omega) (by rw [e9_0, nI_succ]; exact lv_sub hl [3, 1, 4, 5, 0] rfl)
  exact loop 33 0 _ (Nat.zero_le _) (by decide) (lv_sub hl [4, 3, 2, 1, 0] rfl)
set_option maxHeartbeats 4000000 in
set_option maxRecDepth 100000 in
theorem k_X1_removeAllOver (l : Launch) (D : va_G) (ax ar : Nat) (ad : Nat → Nat) (cO : ClassId) (sz : Nat) (σ : St) : Met l yX1_removeAllOver wsX1_removeAllOver ({ frames := 1, cells := 0, slots := 0, locals := 30 } : Room) (va_Pc [.ref ax] (xPre D (cT cO) xE (cW ax ar ad cO) σ sz)) (va_Qi (fun (r : Int32) (u : St) => r = rmC σ 32 ∧ u = rmO σ) (xB D (cT cO) (cW ax ar ad cO) (va_A (cW ax ar ad cO σ) sz)) (va_A (cW ax ar ad cO σ) sz)) 0 0 (va_A (cW ax ar ad cO σ) sz) := by
  refine xOpen (w := (cW ax ar ad cO)) (σ := σ) (cc := cX1_removeAllOver) (maxL := 6) (ret := some .int) (QQ := fun A => va_Qi (fun (r : Int32) (u : St) => r = rmC σ 32 ∧ u = rmO σ) (xB D (cT cO) (cW ax ar ad cO) A) A) (by decide) rfl (Nat.le_of_ble_eq_true rfl) ?_
  intro p e s m below meth c A hx hb hr hml hown hts hlocks hname hK hE hA hP hD hS ls hl
  have hl : lv_has ls 6 [(0, .ref ax)] := hl
  have hown : s.vm.findClass RX1 = some m.cls := hown
  have hi0 : ∀ w ∈ wsX00, w ∈ wsX1_removeAllOver := (fun _ h => List.mem_cons_of_mem _ (List.mem_append_right _ h))
  have hi1 : ∀ w ∈ wsX10, w ∈ wsX1_removeAllOver := (fun _ h => List.mem_cons_of_mem _ (List.mem_append_left _ (List.mem_append_right _ h)))
  generalize hH : s.heap = H at hP
  have hS : va_S A s.heap H [] := by rw [← hH]; exact va_S.rf
  generalize hlo : ([] : List Loc) = locs at hS
  refine lv_iconst (v := 0) hx hb dX1_removeAllOver_0 (by decide) ?_
  refine lv_istore_n (lv' := [(1, .int 0), (0, .ref ax)]) hx hb dX1_removeAllOver_1 rfl hl (by decide) rfl (fun ls hl => ?_)
  refine lv_aload_n hx hb dX1_removeAllOver_2 rfl (lv_at hl 1 rfl) ?_
  refine c_get hx hb hts hi1 hown hK hP 0 (by decide) (List.mem_of_getElem? (i := 1) rfl) (v := .ref ar) rfl dX1_removeAllOver_3 (fun _ h => h) ?_
  refine lv_astore_n (lv' := [(2, .ref ar), (1, .int 0), (0, .ref ax)]) hx hb dX1_removeAllOver_6 rfl hl (by decide) rfl (fun ls hl => ?_)
  refine lv_aload_n hx hb dX1_removeAllOver_7 rfl (lv_at hl 0 rfl) ?_
  refine c_alen hx hb hK hP dX1_removeAllOver_8 ?_
  refine lv_istore_n (lv' := [(3, .int 32), (2, .ref ar), (1, .int 0), (0, .ref ax)]) hx hb dX1_removeAllOver_9 rfl hl (by decide) rfl (fun ls hl => ?_)
  refine lv_iconst (v := 0) hx hb dX1_removeAllOver_10 (by decide) ?_
  refine lv_istore (lv' := [(4, .int 0), (3, .int 32), (2, .ref ar), (1, .int 0), (0, .ref ax)]) hx hb dX1_removeAllOver_11 hl (by decide) rfl (fun ls hl => ?_)
  have loop : ∀ (n i : Nat) (ls : Array Slot) (H : Heap) (locs : List Loc), i ≤ 32 → 32 - i < n → va_P D vwCl (cW ax ar ad cO (rmS σ i)) H → va_D A (cW ax ar ad cO (rmS σ i)) → va_S A s.heap H locs → lv_has ls 6 [(0, .ref ax), (1, .int (rmC σ i)), (2, .ref ar), (3, .int 32), (4, .int (nI i))] → W p l e (headSpec wsX1_removeAllOver ({ frames := 1, cells := 0, slots := 0, locals := 30 } : Room)).room s m [.ref ax].toArray below meth c H locs 0 0 (MQ below (va_Qi (fun (r : Int32) (u : St) => r = rmC σ 32 ∧ u = rmO σ) (xB D (cT cO) (cW ax ar ad cO) A) A) [.ref ax].toArray s 0 0 A) (F0 m 13 ls []) := by
    intro n
    induction n with
    | zero =>
      intro i ls H locs h1 h2
      exact absurd h2 (by omega)
    | succ n ih =>
      intro i ls H locs hi hn hP hD hS hl
      refine lv_iload hx hb dX1_removeAllOver_13 (lv_at hl 4 rfl) ?_
      refine lv_iload_n hx hb dX1_removeAllOver_15 rfl (lv_at hl 3 rfl) ?_
      refine x_icmp_ge (tgt := 57) hx hb dX1_removeAllOver_16 (by decide) (fun c_1 => ?_) (fun c_1 => ?_)
      · have hi9 : i = 32 := by
          rcases Nat.lt_or_ge i 32 with q | q
          · exact absurd ((nI_lt32 hi).mpr q) c_1
          · omega
        subst hi9
        refine lv_aload_n hx hb dX1_removeAllOver_57 rfl (lv_at hl 0 rfl) ?_
        refine lv_dup hx hb dX1_removeAllOver_58 rfl ?_
        refine c_get hx hb hts hi1 hown hK hP 12 (by decide) (List.mem_of_getElem? (i := 2) rfl) (v := .int (gI (rmS σ 32) 12)) rfl dX1_removeAllOver_59 (fun _ h => h) ?_
        refine lv_iload_n hx hb dX1_removeAllOver_62 rfl (lv_at hl 1 rfl) ?_
        refine lv_iadd hx hb dX1_removeAllOver_63 ?_
        refine c_put hx hb hts hi1 hown hK hP hD hS 12 (by decide) (List.mem_of_getElem? (i := 2) rfl) (v := .int ((gI (rmS σ 32) 12) + (rmC σ 32))) (ty := .int) (uI (rmS σ 32) 12 ((gI (rmS σ 32) 12) + (rmC σ 32))) (cF_uI ar (rmS σ 32) ((gI (rmS σ 32) 12) + (rmC σ 32))).2.2.2.2.2.2 (fun _ => sF_uI _ _ _ _) (by decide) rfl (by decide +kernel) rfl rfl dX1_removeAllOver_64 (fun _ h => h) (fun H locs hP hD hS => ?_)
        refine lv_iload_n hx hb dX1_removeAllOver_67 rfl (lv_at hl 1 rfl) ?_
        exact x_iret hx hb hr hlocks hK (uI (rmS σ 32) 12 ((gI (rmS σ 32) 12) + (rmC σ 32))) hP hD hS ⟨rfl, rfl⟩ dX1_removeAllOver_68
      · have hlt : i < 32 := (nI_lt32 hi).mp c_1
        refine lv_aload_n hx hb dX1_removeAllOver_19 rfl (lv_at hl 2 rfl) ?_
        refine lv_iload hx hb dX1_removeAllOver_20 (lv_at hl 4 rfl) ?_
        refine c_aald hx hb hK hP hlt dX1_removeAllOver_22 ?_
        refine lv_astore (lv' := [(5, .ref (ad i)), (0, .ref ax), (1, .int (rmC σ i)), (2, .ref ar), (3, .int 32), (4, .int (nI i))]) hx hb dX1_removeAllOver_23 hl (by decide) rfl (fun ls hl => ?_)
        refine lv_aload hx hb dX1_removeAllOver_25 (lv_at hl 0 rfl) ?_
        refine s_get hx hb hts hi0 hown hK hE hP hlt 1 (by decide) rfl (v := .int (bI (gB (rmS σ i) 1 i))) rfl dX1_removeAllOver_27 (fun _ h => h) ?_
        refine x_ifeq (tgt := 51) hx hb dX1_removeAllOver_30 (by decide) (fun c_2 => ?_) (fun c_2 => ?_)
        · refine lv_iinc (v := (nI i) + 1) (lv' := [(4, .int ((nI i) + 1)), (5, .ref (ad i)), (0, .ref ax), (1, .int (rmC σ i)), (2, .ref ar), (3, .int 32)]) hx hb dX1_removeAllOver_51 hl (k := 5) rfl rfl (by decide) rfl (fun ls hl => ?_)
          refine lv_goto (tgt := 13) hx hb dX1_removeAllOver_54 (by decide) ?_
          have e9_0 : rmS σ (i + 1) = rmS σ i := by simp [rmS, c_1, c_2]
          have e9_1 : rmC σ (i + 1) = rmC σ i := by simp [rmC, c_1, c_2]
          exact ih (i + 1) ls H locs (by omega) (by omega) (by rw [e9_0]; exact hP) (by rw [e9_0]; exact hD) hS (by rw [e9_1, nI_succ]; exact lv_sub hl [2, 3, 4, 5, 0] rfl)
        · refine lv_aload_n hx hb dX1_removeAllOver_33 rfl (lv_at hl 1 rfl) ?_
          refine lv_aload hx hb dX1_removeAllOver_34 (lv_at hl 0 rfl) ?_
          refine x_calli (va_runV (As := [.ref (ad i)]) (rest := []) ⟨hx, hb, hml, hown, hts⟩ (k_X1_hasEnded l D ax ar ad cO H.size (rmS σ i) hlt) (cwV 1 hts gX1_removeAllOver_X1_hasEnded rfl rfl rfl (by decide +kernel) ⟨Nat.le_of_ble_eq_true rfl, Nat.le_of_ble_eq_true rfl⟩) (xPreV xE_ok hE hK hA hP hD hS (q0 := 0) (ci := 1) rfl rfl rfl) rfl rfl hl.1 rfl (lv_room (Nat.le_of_ble_eq_true rfl)) dX1_removeAllOver_36 ⟨Nat.le_of_ble_eq_true rfl, Nat.le_of_ble_eq_true rfl⟩) hD hS hA (fun r u H locs hp hP hD hS => ?_)
          obtain ⟨rfl, hu9⟩ := hp
          rw [hu9] at hP hD
          refine x_ifeq (tgt := 51) hx hb dX1_removeAllOver_39 (by decide) (fun c_3 => ?_) (fun c_3 => ?_)
          · refine lv_iinc (v := (nI i) + 1) (lv' := [(4, .int ((nI i) + 1)), (5, .ref (ad i)), (0, .ref ax), (1, .int (rmC σ i)), (2, .ref ar), (3, .int 32)]) hx hb dX1_removeAllOver_51 hl (k := 5) rfl rfl (by decide) rfl (fun ls hl => ?_)
            refine lv_goto (tgt := 13) hx hb dX1_removeAllOver_54 (by decide) ?_
            have e9_0 : rmS σ (i + 1) = rmS σ i := by simp [rmS, c_1, c_2, c_3]
            have e9_1 : rmC σ (i + 1) = rmC σ i := by simp [rmC, c_1, c_2, c_3]
            exact ih (i + 1) ls H locs (by omega) (by omega) (by rw [e9_0]; exact hP) (by rw [e9_0]; exact hD) hS (by rw [e9_1, nI_succ]; exact lv_sub hl [2, 3, 4, 5, 0] rfl)
          · refine lv_aload hx hb dX1_removeAllOver_42 (lv_at hl 0 rfl) ?_
            refine lv_iconst (v := 0) hx hb dX1_removeAllOver_44 (by decide) ?_
            refine s_put hx hb hts hi0 hown hK hE hP hD hS hlt 1 (by decide) rfl (v := .int (bI false)) (ty := .boolean) (uB (rmS σ i) 1 i false) ((sF_self (rmS σ i) i).2.2.2.2.2.2.1 _) (fun i9 hi9 => (sF_other (rmS σ i) hi9).2.2.2.2.2.2.1 _) (cF_uB _ _ _ _ _) rfl (by decide +kernel) (bI_nar _) (bI_fit _) dX1_removeAllOver_45 (fun _ h => h) (fun H locs hP hD hS => ?_)
            refine lv_iinc (v := (rmC σ i) + 1) (lv' := [(1, .int ((rmC σ i) + 1)), (5, .ref (ad i)), (0, .ref ax), (2, .ref ar), (3, .int 32), (4, .int (nI i))]) hx hb dX1_removeAllOver_48 hl (k := 2) rfl rfl (by decide) rfl (fun ls hl => ?_)
            refine lv_iinc (v := (nI i) + 1) (lv' := [(4, .int ((nI i) + 1)), (1, .int ((rmC σ i) + 1)), (5, .ref (ad i)), (0, .ref ax), (2, .ref ar), (3, .int 32)]) hx hb dX1_removeAllOver_51 hl (k := 5) rfl rfl (by decide) rfl (fun ls hl => ?_)
            refine lv_goto (tgt := 13) hx hb dX1_removeAllOver_54 (by decide) ?_
            have e9_0 : rmS σ (i + 1) = uB (rmS σ i) 1 i false := by simp [rmS, c_1, c_2, c_3]
            have e9_1 : rmC σ (i + 1) = (rmC σ i) + 1 := by simp [rmC, c_1, c_2, c_3]
            exact ih (i + 1) ls H locs (by omega) (by omega) (by rw [e9_0]; exact hP) (by rw [e9_0]; exact hD) hS (by rw [e9_1, nI_succ]; exact lv_sub hl [3, 1, 4, 5, 0] rfl)
  exact loop 33 0 _ _ _ (Nat.zero_le _) (by decide) hP hD hS (lv_sub hl [4, 3, 2, 1, 0] rfl)
set_option maxHeartbeats 4000000 in
set_option maxRecDepth 100000 in
theorem k_X1_nextInOrder (l : Launch) (D : va_G) (ax ar : Nat) (ad : Nat → Nat) (cO : ClassId) (sz : Nat) (σ : St) (b : Option Nat) (hb32 : ∀ k, b = some k → k < 32) : Met l yX1_nextInOrder wsX1_nextInOrder ({ frames := 1, cells := 0, slots := 0, locals := 30 } : Room) (va_Pc [.ref ax, va_rf ((b).map ad)] (xPre D (cT cO) xE (cW ax ar ad cO) σ sz)) (va_Qq (fun (r : Option Nat) (u : St) => r = (nxt σ b).map ad ∧ u = σ) (xB D (cT cO) (cW ax ar ad cO) (va_A (cW ax ar ad cO σ) sz)) (va_A (cW ax ar ad cO σ) sz)) 0 0 (va_A (cW ax ar ad cO σ) sz) := by
  refine xOpen (w := (cW ax ar ad cO)) (σ := σ) (cc := cX1_nextInOrder) (maxL := 8) (ret := some (.object "WorthCache$Slot")) (QQ := fun A => va_Qq (fun (r : Option Nat) (u : St) => r = (nxt σ b).map ad ∧ u = σ) (xB D (cT cO) (cW ax ar ad cO) A) A) (by decide) rfl (by cases b <;> exact Nat.le_of_ble_eq_true rfl) ?_
  intro p e s m below meth c A hx hb hr hml hown hts hlocks hname hK hE hA hP hD hS ls hl
  have hl : lv_has ls 8 [(0, .ref ax), (1, va_rf ((b).map ad))] := hl
  have hown : s.vm.findClass RX1 = some m.cls := hown
  have hi0 : ∀ w ∈ wsX00, w ∈ wsX1_nextInOrder := (fun _ h => List.mem_cons_of_mem _ (List.mem_append_right _ h))
  have hi1 : ∀ w ∈ wsX10, w ∈ wsX1_nextInOrder := (fun _ h => List.mem_cons_of_mem _ (List.mem_append_left _ (List.mem_append_right _ h)))
  generalize hH : s.heap = H at hP
  have hS : va_S A s.heap H [] := by rw [← hH]; exact va_S.rf
  generalize hlo : ([] : List Loc) = locs at hS
  refine lv_null hx hb dX1_nextInOrder_0 ?_
  refine lv_astore_nN (lv' := [(2, .null), (0, .ref ax), (1, va_rf ((b).map ad))]) hx hb dX1_nextInOrder_1 rfl hl (by decide) (by cases (b) <;> rfl) (fun ls hl => ?_)
  refine lv_aload_n hx hb dX1_nextInOrder_2 rfl (lv_at hl 1 rfl) ?_
  refine c_get hx hb hts hi1 hown hK hP 0 (by decide) (List.mem_of_getElem? (i := 1) rfl) (v := .ref ar) rfl dX1_nextInOrder_3 (fun _ h => h) ?_
  refine lv_astore_n (lv' := [(3, .ref ar), (2, .null), (0, .ref ax), (1, va_rf ((b).map ad))]) hx hb dX1_nextInOrder_6 rfl hl (by decide) rfl (fun ls hl => ?_)
  refine lv_aload_n hx hb dX1_nextInOrder_7 rfl (lv_at hl 0 rfl) ?_
  refine c_alen hx hb hK hP dX1_nextInOrder_8 ?_
  refine lv_istore (lv' := [(4, .int 32), (3, .ref ar), (2, .null), (0, .ref ax), (1, va_rf ((b).map ad))]) hx hb dX1_nextInOrder_9 hl (by decide) rfl (fun ls hl => ?_)
  refine lv_iconst (v := 0) hx hb dX1_nextInOrder_11 (by decide) ?_
  refine lv_istore (lv' := [(5, .int 0), (4, .int 32), (3, .ref ar), (2, .null), (0, .ref ax), (1, va_rf ((b).map ad))]) hx hb dX1_nextInOrder_12 hl (by decide) rfl (fun ls hl => ?_)
  have loop : ∀ (n i : Nat) (ls : Array Slot) (H : Heap) (locs : List Loc), i ≤ 32 → 32 - i < n → va_P D vwCl (cW ax ar ad cO (σ)) H → va_D A (cW ax ar ad cO (σ)) → va_S A s.heap H locs → lv_has ls 8 [(0, .ref ax), (1, va_rf ((b).map ad)), (2, va_rf ((nxtR σ b i).map ad)), (3, .ref ar), (4, .int 32), (5, .int (nI i))] → W p l e (headSpec wsX1_nextInOrder ({ frames := 1, cells := 0, slots := 0, locals := 30 } : Room)).room s m [.ref ax, va_rf ((b).map ad)].toArray below meth c H locs 0 0 (MQ below (va_Qq (fun (r : Option Nat) (u : St) => r = (nxt σ b).map ad ∧ u = σ) (xB D (cT cO) (cW ax ar ad cO) A) A) [.ref ax, va_rf ((b).map ad)].toArray s 0 0 A) (F0 m 14 ls []) := by
    intro n
    induction n with
    | zero =>
      intro i ls H locs h1 h2
      exact absurd h2 (by omega)
    | succ n ih =>
      intro i ls H locs hi hn hP hD hS hl
      refine lv_iload hx hb dX1_nextInOrder_14 (lv_at hl 5 rfl) ?_
      refine lv_iload hx hb dX1_nextInOrder_16 (lv_at hl 4 rfl) ?_
      refine x_icmp_ge (tgt := 82) hx hb dX1_nextInOrder_18 (by decide) (fun c_1 => ?_) (fun c_1 => ?_)
      · have hi9 : i = 32 := by
          rcases Nat.lt_or_ge i 32 with q | q
          · exact absurd ((nI_lt32 hi).mpr q) c_1
          · omega
        subst hi9
        refine x_aload_nQ hx hb dX1_nextInOrder_82 rfl (lv_at hl 2 rfl) ?_
        exact x_qret (r := (nxtR σ b 32).map ad) hx hb hr hlocks hK (σ) hP hD hS ⟨rfl, rfl⟩ dX1_nextInOrder_83
      · have hlt : i < 32 := (nI_lt32 hi).mp c_1
        refine lv_aload_n hx hb dX1_nextInOrder_21 rfl (lv_at hl 3 rfl) ?_
        refine lv_iload hx hb dX1_nextInOrder_22 (lv_at hl 5 rfl) ?_
        refine c_aald hx hb hK hP hlt dX1_nextInOrder_24 ?_
        refine lv_astore (lv' := [(6, .ref (ad i)), (0, .ref ax), (1, va_rf ((b).map ad)), (2, va_rf ((nxtR σ b i).map ad)), (3, .ref ar), (4, .int 32), (5, .int (nI i))]) hx hb dX1_nextInOrder_25 hl (by decide) rfl (fun ls hl => ?_)
        refine x_aload_nQ hx hb dX1_nextInOrder_27 rfl (lv_at hl 2 rfl) ?_
        refine x_ifnullQ (tgt := 40) hx hb dX1_nextInOrder_28 (by decide) (fun c_2 => ?_) (fun k_3 c_2 => ?_)
        · refine lv_iconst (v := 1) hx hb dX1_nextInOrder_40 (by decide) ?_
          refine lv_goto (tgt := 45) hx hb dX1_nextInOrder_41 (by decide) ?_
          refine lv_istore (lv' := [(7, .int 1), (6, .ref (ad i)), (0, .ref ax), (1, va_rf ((b).map ad)), (2, va_rf ((nxtR σ b i).map ad)), (3, .ref ar), (4, .int 32), (5, .int (nI i))]) hx hb dX1_nextInOrder_45 hl (by decide) rfl (fun ls hl => ?_)
          refine lv_aload hx hb dX1_nextInOrder_47 (lv_at hl 1 rfl) ?_
          refine x_calli (va_runS (As := [.ref (ad i)]) (rest := []) ⟨hx, hb, hml, hown, hts⟩ (k_X1_isInOrder l D ax ar ad cO H.size σ hlt) (va_cwS 1 hts gX1_nextInOrder_X1_isInOrder rfl rfl rfl (by decide +kernel) ⟨Nat.le_of_ble_eq_true rfl, Nat.le_of_ble_eq_true rfl⟩) (xPreS xE_ok hE hK hA hP hD hS) rfl rfl hl.1 rfl (lv_room (Nat.le_of_ble_eq_true rfl)) dX1_nextInOrder_49 ⟨Nat.le_of_ble_eq_true rfl, Nat.le_of_ble_eq_true rfl⟩) hD hS hA (fun r u H locs hp hP hD hS => ?_)
          obtain ⟨rfl, hu9⟩ := hp
          rw [hu9] at hP hD
          refine x_ifeq (tgt := 76) hx hb dX1_nextInOrder_52 (by decide) (fun c_4 => ?_) (fun c_4 => ?_)
          · refine lv_iinc (v := (nI i) + 1) (lv' := [(5, .int ((nI i) + 1)), (7, .int 1), (6, .ref (ad i)), (0, .ref ax), (1, va_rf ((b).map ad)), (2, va_rf ((nxtR σ b i).map ad)), (3, .ref ar), (4, .int 32)]) hx hb dX1_nextInOrder_76 hl (k := 7) rfl rfl (by decide) rfl (fun ls hl => ?_)
            refine lv_goto (tgt := 14) hx hb dX1_nextInOrder_79 (by decide) ?_
            have e9_0 : nxtR σ b (i + 1) = nxtR σ b i := by rw [nxtR_s]; simp [beh, befO, c_1, c_2, c_4]
            exact ih (i + 1) ls H locs (by omega) (by omega) hP hD hS (by rw [e9_0, nI_succ]; exact lv_sub hl [3, 4, 5, 6, 7, 0] rfl)
          · refine lv_iload hx hb dX1_nextInOrder_55 (lv_at hl 0 rfl) ?_
            refine lv_if_eq (tgt := 76) hx hb dX1_nextInOrder_57 (by decide) (fun c_5 => absurd c_5 (by decide)) (fun _ => ?_)
            refine x_aload_nQ hx hb dX1_nextInOrder_60 rfl (lv_at hl 4 rfl) ?_
            refine x_ifnullQ (tgt := 73) hx hb dX1_nextInOrder_61 (by decide) (fun c_6 => ?_) (fun k_7 c_6 => ?_)
            · refine lv_aload hx hb dX1_nextInOrder_73 (lv_at hl 1 rfl) ?_
              refine lv_astore_n (lv' := [(2, .ref (ad i)), (7, .int 1), (6, .ref (ad i)), (0, .ref ax), (1, va_rf ((b).map ad)), (3, .ref ar), (4, .int 32), (5, .int (nI i))]) hx hb dX1_nextInOrder_75 rfl hl (by decide) (by cases (b) <;> rfl) (fun ls hl => ?_)
              refine lv_iinc (v := (nI i) + 1) (lv' := [(5, .int ((nI i) + 1)), (2, .ref (ad i)), (7, .int 1), (6, .ref (ad i)), (0, .ref ax), (1, va_rf ((b).map ad)), (3, .ref ar), (4, .int 32)]) hx hb dX1_nextInOrder_76 hl (k := 7) rfl rfl (by decide) rfl (fun ls hl => ?_)
              refine lv_goto (tgt := 14) hx hb dX1_nextInOrder_79 (by decide) ?_
              have e9_0 : nxtR σ b (i + 1) = some i := by rw [nxtR_s, c_6]; simp [beh, befO, c_1, c_2, c_4]
              exact ih (i + 1) ls H locs (by omega) (by omega) hP hD hS (by rw [e9_0, nI_succ]; exact lv_sub hl [4, 5, 1, 6, 7, 0] rfl)
            · have hk_7 : k_7 < 32 := Nat.lt_trans (nxtR_lt _ _ _ _ c_6) hlt
              refine lv_aload hx hb dX1_nextInOrder_64 (lv_at hl 1 rfl) ?_
              refine x_aload_nQ hx hb dX1_nextInOrder_66 rfl (lv_at hl 4 rfl) ?_
              refine W.eq (g2 := F0 m 67 ls [.ref (ad k_7), .ref (ad i)]) (by rw [c_6]; rfl) ?_
              refine x_calli (va_runS (As := [.ref (ad i), .ref (ad k_7)]) (rest := []) ⟨hx, hb, hml, hown, hts⟩ (k_X1_leavesBefore l D ax ar ad cO H.size σ hlt hk_7) (va_cwS 2 hts gX1_nextInOrder_X1_leavesBefore rfl rfl rfl (by decide +kernel) ⟨Nat.le_of_ble_eq_true rfl, Nat.le_of_ble_eq_true rfl⟩) (xPreS xE_ok hE hK hA hP hD hS) rfl rfl hl.1 rfl (lv_room (Nat.le_of_ble_eq_true rfl)) dX1_nextInOrder_67 ⟨Nat.le_of_ble_eq_true rfl, Nat.le_of_ble_eq_true rfl⟩) hD hS hA (fun r u H locs hp hP hD hS => ?_)
              obtain ⟨rfl, hu9⟩ := hp
              rw [hu9] at hP hD
              refine x_ifeq (tgt := 76) hx hb dX1_nextInOrder_70 (by decide) (fun c_8 => ?_) (fun c_8 => ?_)
              · refine lv_iinc (v := (nI i) + 1) (lv' := [(5, .int ((nI i) + 1)), (7, .int 1), (6, .ref (ad i)), (0, .ref ax), (1, va_rf ((b).map ad)), (2, va_rf ((nxtR σ b i).map ad)), (3, .ref ar), (4, .int 32)]) hx hb dX1_nextInOrder_76 hl (k := 7) rfl rfl (by decide) rfl (fun ls hl => ?_)
                refine lv_goto (tgt := 14) hx hb dX1_nextInOrder_79 (by decide) ?_
                have e9_0 : nxtR σ b (i + 1) = nxtR σ b i := by rw [nxtR_s, c_6]; simp [beh, befO, c_1, c_2, c_4, c_8]
                exact ih (i + 1) ls H locs (by omega) (by omega) hP hD hS (by rw [e9_0, nI_succ]; exact lv_sub hl [3, 4, 5, 6, 7, 0] rfl)
              · refine lv_aload hx hb dX1_nextInOrder_73 (lv_at hl 1 rfl) ?_
                refine lv_astore_n (lv' := [(2, .ref (ad i)), (7, .int 1), (6, .ref (ad i)), (0, .ref ax), (1, va_rf ((b).map ad)), (3, .ref ar), (4, .int 32), (5, .int (nI i))]) hx hb dX1_nextInOrder_75 rfl hl (by decide) (by cases (b) <;> rfl) (fun ls hl => ?_)
                refine lv_iinc (v := (nI i) + 1) (lv' := [(5, .int ((nI i) + 1)), (2, .ref (ad i)), (7, .int 1), (6, .ref (ad i)), (0, .ref ax), (1, va_rf ((b).map ad)), (3, .ref ar), (4, .int 32)]) hx hb dX1_nextInOrder_76 hl (k := 7) rfl rfl (by decide) rfl (fun ls hl => ?_)
                refine lv_goto (tgt := 14) hx hb dX1_nextInOrder_79 (by decide) ?_
                have e9_0 : nxtR σ b (i + 1) = some i := by rw [nxtR_s, c_6]; simp [beh, befO, c_1, c_2, c_4, c_8]
                exact ih (i + 1) ls H locs (by omega) (by omega) hP hD hS (by rw [e9_0, nI_succ]; exact lv_sub hl [4, 5, 1, 6, 7, 0] rfl)
        · have hk_3 : k_3 < 32 := hb32 _ c_2
          refine x_aload_nQ hx hb dX1_nextInOrder_31 rfl (lv_at hl 2 rfl) ?_
          refine W.eq (g2 := F0 m 32 ls [.ref (ad k_3)]) (by rw [c_2]; rfl) ?_
          refine lv_aload hx hb dX1_nextInOrder_32 (lv_at hl 0 rfl) ?_
          refine x_calli (va_runS (As := [.ref (ad k_3), .ref (ad i)]) (rest := []) ⟨hx, hb, hml, hown, hts⟩ (k_X1_leavesBefore l D ax ar ad cO H.size σ hk_3 hlt) (va_cwS 2 hts gX1_nextInOrder_X1_leavesBefore rfl rfl rfl (by decide +kernel) ⟨Nat.le_of_ble_eq_true rfl, Nat.le_of_ble_eq_true rfl⟩) (xPreS xE_ok hE hK hA hP hD hS) rfl rfl hl.1 rfl (lv_room (Nat.le_of_ble_eq_true rfl)) dX1_nextInOrder_34 ⟨Nat.le_of_ble_eq_true rfl, Nat.le_of_ble_eq_true rfl⟩) hD hS hA (fun r u H locs hp hP hD hS => ?_)
          obtain ⟨rfl, hu9⟩ := hp
          rw [hu9] at hP hD
          refine x_ifeq (tgt := 44) hx hb dX1_nextInOrder_37 (by decide) (fun c_9 => ?_) (fun c_9 => ?_)
          · refine lv_iconst (v := 0) hx hb dX1_nextInOrder_44 (by decide) ?_
            refine lv_istore (lv' := [(7, .int 0), (6, .ref (ad i)), (0, .ref ax), (1, va_rf ((b).map ad)), (2, va_rf ((nxtR σ b i).map ad)), (3, .ref ar), (4, .int 32), (5, .int (nI i))]) hx hb dX1_nextInOrder_45 hl (by decide) rfl (fun ls hl => ?_)
            refine lv_aload hx hb dX1_nextInOrder_47 (lv_at hl 1 rfl) ?_
            refine x_calli (va_runS (As := [.ref (ad i)]) (rest := []) ⟨hx, hb, hml, hown, hts⟩ (k_X1_isInOrder l D ax ar ad cO H.size σ hlt) (va_cwS 1 hts gX1_nextInOrder_X1_isInOrder rfl rfl rfl (by decide +kernel) ⟨Nat.le_of_ble_eq_true rfl, Nat.le_of_ble_eq_true rfl⟩) (xPreS xE_ok hE hK hA hP hD hS) rfl rfl hl.1 rfl (lv_room (Nat.le_of_ble_eq_true rfl)) dX1_nextInOrder_49 ⟨Nat.le_of_ble_eq_true rfl, Nat.le_of_ble_eq_true rfl⟩) hD hS hA (fun r u H locs hp hP hD hS => ?_)
            obtain ⟨rfl, hu9⟩ := hp
            rw [hu9] at hP hD
            refine x_ifeq (tgt := 76) hx hb dX1_nextInOrder_52 (by decide) (fun c_10 => ?_) (fun c_10 => ?_)
            · refine lv_iinc (v := (nI i) + 1) (lv' := [(5, .int ((nI i) + 1)), (7, .int 0), (6, .ref (ad i)), (0, .ref ax), (1, va_rf ((b).map ad)), (2, va_rf ((nxtR σ b i).map ad)), (3, .ref ar), (4, .int 32)]) hx hb dX1_nextInOrder_76 hl (k := 7) rfl rfl (by decide) rfl (fun ls hl => ?_)
              refine lv_goto (tgt := 14) hx hb dX1_nextInOrder_79 (by decide) ?_
              have e9_0 : nxtR σ b (i + 1) = nxtR σ b i := by rw [nxtR_s]; simp [beh, befO, c_1, c_2, c_9, c_10]
              exact ih (i + 1) ls H locs (by omega) (by omega) hP hD hS (by rw [e9_0, nI_succ]; exact lv_sub hl [3, 4, 5, 6, 7, 0] rfl)
            · refine lv_iload hx hb dX1_nextInOrder_55 (lv_at hl 0 rfl) ?_
              refine lv_if_eq (tgt := 76) hx hb dX1_nextInOrder_57 (by decide) (fun _ => ?_) (fun c_11 => absurd (by decide) c_11)
              refine lv_iinc (v := (nI i) + 1) (lv' := [(5, .int ((nI i) + 1)), (7, .int 0), (6, .ref (ad i)), (0, .ref ax), (1, va_rf ((b).map ad)), (2, va_rf ((nxtR σ b i).map ad)), (3, .ref ar), (4, .int 32)]) hx hb dX1_nextInOrder_76 hl (k := 7) rfl rfl (by decide) rfl (fun ls hl => ?_)
              refine lv_goto (tgt := 14) hx hb dX1_nextInOrder_79 (by decide) ?_
              have e9_0 : nxtR σ b (i + 1) = nxtR σ b i := by rw [nxtR_s]; simp [beh, befO, c_1, c_2, c_9, c_10]
              exact ih (i + 1) ls H locs (by omega) (by omega) hP hD hS (by rw [e9_0, nI_succ]; exact lv_sub hl [3, 4, 5, 6, 7, 0] rfl)
          · refine lv_iconst (v := 1) hx hb dX1_nextInOrder_40 (by decide) ?_
            refine lv_goto (tgt := 45) hx hb dX1_nextInOrder_41 (by decide) ?_
            refine lv_istore (lv' := [(7, .int 1), (6, .ref (ad i)), (0, .ref ax), (1, va_rf ((b).map ad)), (2, va_rf ((nxtR σ b i).map ad)), (3, .ref ar), (4, .int 32), (5, .int (nI i))]) hx hb dX1_nextInOrder_45 hl (by decide) rfl (fun ls hl => ?_)
            refine lv_aload hx hb dX1_nextInOrder_47 (lv_at hl 1 rfl) ?_
            refine x_calli (va_runS (As := [.ref (ad i)]) (rest := []) ⟨hx, hb, hml, hown, hts⟩ (k_X1_isInOrder l D ax ar ad cO H.size σ hlt) (va_cwS 1 hts gX1_nextInOrder_X1_isInOrder rfl rfl rfl (by decide +kernel) ⟨Nat.le_of_ble_eq_true rfl, Nat.le_of_ble_eq_true rfl⟩) (xPreS xE_ok hE hK hA hP hD hS) rfl rfl hl.1 rfl (lv_room (Nat.le_of_ble_eq_true rfl)) dX1_nextInOrder_49 ⟨Nat.le_of_ble_eq_true rfl, Nat.le_of_ble_eq_true rfl⟩) hD hS hA (fun r u H locs hp hP hD hS => ?_)
            obtain ⟨rfl, hu9⟩ := hp
            rw [hu9] at hP hD
            refine x_ifeq (tgt := 76) hx hb dX1_nextInOrder_52 (by decide) (fun c_12 => ?_) (fun c_12 => ?_)
            · refine lv_iinc (v := (nI i) + 1) (lv' := [(5, .int ((nI i) + 1)), (7, .int 1), (6, .ref (ad i)), (0, .ref ax), (1, va_rf ((b).map ad)), (2, va_rf ((nxtR σ b i).map ad)), (3, .ref ar), (4, .int 32)]) hx hb dX1_nextInOrder_76 hl (k := 7) rfl rfl (by decide) rfl (fun ls hl => ?_)
              refine lv_goto (tgt := 14) hx hb dX1_nextInOrder_79 (by decide) ?_
              have e9_0 : nxtR σ b (i + 1) = nxtR σ b i := by rw [nxtR_s]; simp [beh, befO, c_1, c_2, c_9, c_12]
              exact ih (i + 1) ls H locs (by omega) (by omega) hP hD hS (by rw [e9_0, nI_succ]; exact lv_sub hl [3, 4, 5, 6, 7, 0] rfl)
            · refine lv_iload hx hb dX1_nextInOrder_55 (lv_at hl 0 rfl) ?_
              refine lv_if_eq (tgt := 76) hx hb dX1_nextInOrder_57 (by decide) (fun c_13 => absurd c_13 (by decide)) (fun _ => ?_)
              refine x_aload_nQ hx hb dX1_nextInOrder_60 rfl (lv_at hl 4 rfl) ?_
              refine x_ifnullQ (tgt := 73) hx hb dX1_nextInOrder_61 (by decide) (fun c_14 => ?_) (fun k_15 c_14 => ?_)
              · refine lv_aload hx hb dX1_nextInOrder_73 (lv_at hl 1 rfl) ?_
                refine lv_astore_n (lv' := [(2, .ref (ad i)), (7, .int 1), (6, .ref (ad i)), (0, .ref ax), (1, va_rf ((b).map ad)), (3, .ref ar), (4, .int 32), (5, .int (nI i))]) hx hb dX1_nextInOrder_75 rfl hl (by decide) (by cases (b) <;> rfl) (fun ls hl => ?_)
                refine lv_iinc (v := (nI i) + 1) (lv' := [(5, .int ((nI i) + 1)), (2, .ref (ad i)), (7, .int 1), (6, .ref (ad i)), (0, .ref ax), (1, va_rf ((b).map ad)), (3, .ref ar), (4, .int 32)]) hx hb dX1_nextInOrder_76 hl (k := 7) rfl rfl (by decide) rfl (fun ls hl => ?_)
                refine lv_goto (tgt := 14) hx hb dX1_nextInOrder_79 (by decide) ?_
                have e9_0 : nxtR σ b (i + 1) = some i := by rw [nxtR_s, c_14]; simp [beh, befO, c_1, c_2, c_9, c_12]
                exact ih (i + 1) ls H locs (by omega) (by omega) hP hD hS (by rw [e9_0, nI_succ]; exact lv_sub hl [4, 5, 1, 6, 7, 0] rfl)
              · have hk_15 : k_15 < 32 := Nat.lt_trans (nxtR_lt _ _ _ _ c_14) hlt
                refine lv_aload hx hb dX1_nextInOrder_64 (lv_at hl 1 rfl) ?_
                refine x_aload_nQ hx hb dX1_nextInOrder_66 rfl (lv_at hl 4 rfl) ?_
                refine W.eq (g2 := F0 m 67 ls [.ref (ad k_15), .ref (ad i)]) (by rw [c_14]; rfl) ?_
                refine x_calli (va_runS (As := [.ref (ad i), .ref (ad k_15)]) (rest := []) ⟨hx, hb, hml, hown, hts⟩ (k_X1_leavesBefore l D ax ar ad cO H.size σ hlt hk_15) (va_cwS 2 hts gX1_nextInOrder_X1_leavesBefore rfl rfl rfl (by decide +kernel) ⟨Nat.le_of_ble_eq_true rfl, Nat.le_of_ble_eq_true rfl⟩) (xPreS xE_ok hE hK hA hP hD hS) rfl rfl hl.1 rfl (lv_room (Nat.le_of_ble_eq_true rfl)) dX1_nextInOrder_67 ⟨Nat.le_of_ble_eq_true rfl, Nat.le_of_ble_eq_true rfl⟩) hD hS hA (fun r u H locs hp hP hD hS => ?_)
                obtain ⟨rfl, hu9⟩ := hp
                rw [hu9] at hP hD
                refine x_ifeq (tgt := 76) hx hb dX1_nextInOrder_70 (by decide) (fun c_16 => ?_) (fun c_16 => ?_)
                · refine lv_iinc (v := (nI i) + 1) (lv' := [(5, .int ((nI i) + 1)), (7, .int 1), (6, .ref (ad i)), (0, .ref ax), (1, va_rf ((b).map ad)), (2, va_rf ((nxtR σ b i).map ad)), (3, .ref ar), (4, .int 32)]) hx hb dX1_nextInOrder_76 hl (k := 7) rfl rfl (by decide) rfl (fun ls hl => ?_)
                  refine lv_goto (tgt := 14) hx hb dX1_nextInOrder_79 (by decide) ?_
                  have e9_0 : nxtR σ b (i + 1) = nxtR σ b i := by rw [nxtR_s, c_14]; simp [beh, befO, c_1, c_2, c_9, c_12, c_16]
                  exact ih (i + 1) ls H locs (by omega) (by omega) hP hD hS (by rw [e9_0, nI_succ]; exact lv_sub hl [3, 4, 5, 6, 7, 0] rfl)
                · refine lv_aload hx hb dX1_nextInOrder_73 (lv_at hl 1 rfl) ?_
                  refine lv_astore_n (lv' := [(2, .ref (ad i)), (7, .int 1), (6, .ref (ad i)), (0, .ref ax), (1, va_rf ((b).map ad)), (3, .ref ar), (4, .int 32), (5, .int (nI i))]) hx hb dX1_nextInOrder_75 rfl hl (by decide) (by cases (b) <;> rfl) (fun ls hl => ?_)
                  refine lv_iinc (v := (nI i) + 1) (lv' := [(5, .int ((nI i) + 1)), (2, .ref (ad i)), (7, .int 1), (6, .ref (ad i)), (0, .ref ax), (1, va_rf ((b).map ad)), (3, .ref ar), (4, .int 32)]) hx hb dX1_nextInOrder_76 hl (k := 7) rfl rfl (by decide) rfl (fun ls hl => ?_)
                  refine lv_goto (tgt := 14) hx hb dX1_nextInOrder_79 (by decide) ?_
                  have e9_0 : nxtR σ b (i + 1) = some i := by rw [nxtR_s, c_14]; simp [beh, befO, c_1, c_2, c_9, c_12, c_16]
                  exact ih (i + 1) ls H locs (by omega) (by omega) hP hD hS (by rw [e9_0, nI_succ]; exact lv_sub hl [4, 5, 1, 6, 7, 0] rfl)
  exact loop 33 0 _ _ _ (Nat.zero_le _) (by decide) hP hD hS (lv_sub hl [4, 5, 3, 2, 1, 0] rfl)
end
section
set_option maxHeartbeats 4000000 in
set_option maxRecDepth 100000 in
theorem k_X1_firstInOrder (l : Launch) (D : va_G) (ax ar : Nat) (ad : Nat → Nat) (cO : ClassId) (sz : Nat) (σ : St) : Met l yX1_firstInOrder wsX1_firstInOrder ({ frames := 2, cells := 0, slots := 0, locals := 60 } : Room) (va_Pc [.ref ax] (xPre D (cT cO) xE (cW ax ar ad cO) σ sz)) (va_Qq (fun (r : Option Nat) (u : St) => r = (nxt σ none).map ad ∧ u = σ) (xB D (cT cO) (cW ax ar ad cO) (va_A (cW ax ar ad cO σ) sz)) (va_A (cW ax ar ad cO σ) sz)) 0 0 (va_A (cW ax ar ad cO σ) sz) := by
  refine xOpen (w := (cW ax ar ad cO)) (σ := σ) (cc := cX1_firstInOrder) (maxL := 1) (ret := some (.object "WorthCache$Slot")) (QQ := fun A => va_Qq (fun (r : Option Nat) (u : St) => r = (nxt σ none).map ad ∧ u = σ) (xB D (cT cO) (cW ax ar ad cO) A) A) (by decide) rfl (Nat.le_of_ble_eq_true rfl) ?_
  intro p e s m below meth c A hx hb hr hml hown hts hlocks hname hK hE hA hP hD hS ls hl
  have hl : lv_has ls 1 [(0, .ref ax)] := hl
  have hown : s.vm.findClass RX1 = some m.cls := hown
  have hi0 : ∀ w ∈ wsX00, w ∈ wsX1_firstInOrder := (fun _ h => List.mem_cons_of_mem _ (List.mem_append_right _ h))
  have hi1 : ∀ w ∈ wsX10, w ∈ wsX1_firstInOrder := (fun _ h => List.mem_cons_of_mem _ (List.mem_append_left _ (List.mem_append_right _ h)))
  generalize hH : s.heap = H at hP
  have hS : va_S A s.heap H [] := by rw [← hH]; exact va_S.rf
  generalize hlo : ([] : List Loc) = locs at hS
  refine lv_aload_n hx hb dX1_firstInOrder_0 rfl (lv_at hl 0 rfl) ?_
  refine lv_null hx hb dX1_firstInOrder_1 ?_
  refine x_callq (va_runV (As := [.null]) (rest := []) ⟨hx, hb, hml, hown, hts⟩ (k_X1_nextInOrder l D ax ar ad cO H.size σ none (fun _ h => nomatch h)) (cwV 1 hts gX1_firstInOrder_X1_nextInOrder rfl rfl rfl (by decide +kernel) ⟨Nat.le_of_ble_eq_true rfl, Nat.le_of_ble_eq_true rfl⟩) (xPreV xE_ok hE hK hA hP hD hS (q0 := 0) (ci := 1) rfl rfl rfl) rfl rfl hl.1 rfl (lv_room (Nat.le_of_ble_eq_true rfl)) dX1_firstInOrder_2 ⟨Nat.le_of_ble_eq_true rfl, Nat.le_of_ble_eq_true rfl⟩) hD hS hA (fun r u H locs hp hP hD hS => ?_)
  obtain ⟨rfl, hu9⟩ := hp
  rw [hu9] at hP hD
  exact x_qret (r := (nxt σ none).map ad) hx hb hr hlocks hK (σ) hP hD hS ⟨rfl, rfl⟩ dX1_firstInOrder_5
set_option maxHeartbeats 4000000 in
set_option maxRecDepth 100000 in
theorem k_X1_setWorth (l : Launch) (D : va_G) (ax ar : Nat) (ad : Nat → Nat) (cO : ClassId) (sz : Nat) (σ : St) {k : Nat} (pr : Int32) (hk : k < 32) : Met l yX1_setWorth wsX1_setWorth ({ frames := 0, cells := 0, slots := 0, locals := 0 } : Room) (va_Pc [.ref ax, .ref (ad k), .int pr] (xPre D (cT cO) xE (cW ax ar ad cO) σ sz)) (va_Qv (fun (u : St) => u = cSetW σ k pr) (xB D (cT cO) (cW ax ar ad cO) (va_A (cW ax ar ad cO σ) sz)) (va_A (cW ax ar ad cO σ) sz)) 0 0 (va_A (cW ax ar ad cO σ) sz) := by
  refine xOpen (w := (cW ax ar ad cO)) (σ := σ) (cc := cX1_setWorth) (maxL := 3) (ret := none) (QQ := fun A => va_Qv (fun (u : St) => u = cSetW σ k pr) (xB D (cT cO) (cW ax ar ad cO) A) A) (by decide) rfl (Nat.le_of_ble_eq_true rfl) ?_
  intro p e s m below meth c A hx hb hr hml hown hts hlocks hname hK hE hA hP hD hS ls hl
  have hl : lv_has ls 3 [(0, .ref ax), (1, .ref (ad k)), (2, .int pr)] := hl
  have hown : s.vm.findClass RX1 = some m.cls := hown
  have hi0 : ∀ w ∈ wsX00, w ∈ wsX1_setWorth := (fun _ h => List.mem_cons_of_mem _ (List.mem_append_right _ h))
  have hi1 : ∀ w ∈ wsX10, w ∈ wsX1_setWorth := (fun _ h => List.mem_cons_of_mem _ (List.mem_append_left _ (List.mem_append_right _ h)))
  generalize hH : s.heap = H at hP
  have hS : va_S A s.heap H [] := by rw [← hH]; exact va_S.rf
  generalize hlo : ([] : List Loc) = locs at hS
  refine lv_aload_n hx hb dX1_setWorth_0 rfl (lv_at hl 0 rfl) ?_
  refine lv_dup hx hb dX1_setWorth_1 rfl ?_
  refine c_get hx hb hts hi1 hown hK hP 5 (by decide) (List.mem_of_getElem? (i := 1) rfl) (v := .long (gL σ 5)) rfl dX1_setWorth_2 (fun _ h => h) ?_
  refine lv_lconst (v := 1) hx hb dX1_setWorth_5 (by decide) ?_
  refine lv_ladd hx hb dX1_setWorth_6 ?_
  refine c_put hx hb hts hi1 hown hK hP hD hS 5 (by decide) (List.mem_of_getElem? (i := 1) rfl) (v := .long ((gL σ 5) + 1)) (ty := .long) (uL σ 5 ((gL σ 5) + 1)) (cF_uL ar σ ((gL σ 5) + 1)).2.1 (fun _ => sF_uL _ _ _ _) (by decide) rfl (by decide +kernel) rfl rfl dX1_setWorth_7 (fun _ h => h) (fun H locs hP hD hS => ?_)
  refine lv_aload_n hx hb dX1_setWorth_10 rfl (lv_at hl 1 rfl) ?_
  refine lv_aload_n hx hb dX1_setWorth_11 rfl (lv_at hl 0 rfl) ?_
  refine c_get hx hb hts hi1 hown hK hP 5 (by decide) (List.mem_of_getElem? (i := 1) rfl) (v := .long ((gL σ 5) + 1)) rfl dX1_setWorth_12 (fun _ h => h) ?_
  refine s_put hx hb hts hi0 hown hK hE hP hD hS hk 7 (by decide) rfl (v := .long ((gL σ 5) + 1)) (ty := .long) (uT (uL σ 5 ((gL σ 5) + 1)) 7 k ((gL σ 5) + 1)) ((sF_self (uL σ 5 ((gL σ 5) + 1)) k).2.2.2.2.2.1 _) (fun i9 hi9 => (sF_other (uL σ 5 ((gL σ 5) + 1)) hi9).2.2.2.2.2.1 _) (cF_uT _ _ _ _ _) rfl (by decide +kernel) rfl rfl dX1_setWorth_15 (fun _ h => h) (fun H locs hP hD hS => ?_)
  refine lv_aload_n hx hb dX1_setWorth_18 rfl (lv_at hl 1 rfl) ?_
  refine lv_aload_n hx hb dX1_setWorth_19 rfl (lv_at hl 1 rfl) ?_
  refine s_get hx hb hts hi0 hown hK hE hP hk 3 (by decide) rfl (v := .int (gS σ 3 k)) rfl dX1_setWorth_20 (fun _ h => h) ?_
  refine lv_iconst (v := 1) hx hb dX1_setWorth_23 (by decide) ?_
  refine x_icmp_ge (tgt := 34) hx hb dX1_setWorth_24 (by decide) (fun c_1 => ?_) (fun c_1 => ?_)
  · have hz9 : ¬ (gS σ 3 k).toInt64 = 0 := fun q => c_1 (by rw [toI64_0 q]; decide)
    refine lv_aload_n hx hb dX1_setWorth_34 rfl (lv_at hl 0 rfl) ?_
    refine c_get hx hb hts hi1 hown hK hP 2 (by decide) (List.mem_of_getElem? (i := 2) rfl) (v := .long (gL σ 2)) rfl dX1_setWorth_35 (fun _ h => h) ?_
    refine lv_ldc2 (v := 1000) hx hb hown (hts _ (List.mem_of_getElem? (i := 3) rfl)) dX1_setWorth_38 ?_
    refine lv_aload_n hx hb dX1_setWorth_41 rfl (lv_at hl 1 rfl) ?_
    refine s_get hx hb hts hi0 hown hK hE hP hk 4 (by decide) rfl (v := .int (gS σ 4 k)) rfl dX1_setWorth_42 (fun _ h => h) ?_
    refine lv_i2l (v := (gS σ 4 k).toInt64) hx hb dX1_setWorth_45 rfl ?_
    refine lv_lmul hx hb dX1_setWorth_46 ?_
    refine lv_iload_n hx hb dX1_setWorth_47 rfl (lv_at hl 2 rfl) ?_
    refine lv_i2l (v := pr.toInt64) hx hb dX1_setWorth_48 rfl ?_
    refine lv_lmul hx hb dX1_setWorth_49 ?_
    refine lv_aload_n hx hb dX1_setWorth_50 rfl (lv_at hl 1 rfl) ?_
    refine s_get hx hb hts hi0 hown hK hE hP hk 3 (by decide) rfl (v := .int (gS σ 3 k)) rfl dX1_setWorth_51 (fun _ h => h) ?_
    refine lv_i2l (v := (gS σ 3 k).toInt64) hx hb dX1_setWorth_54 rfl ?_
    refine lv_ldiv hx hb dX1_setWorth_55 (hz9) ?_
    refine lv_ladd hx hb dX1_setWorth_56 ?_
    refine s_put hx hb hts hi0 hown hK hE hP hD hS hk 6 (by decide) rfl (v := .long ((gL σ 2) + (((1000 * ((gS σ 4 k).toInt64)) * pr.toInt64) / ((gS σ 3 k).toInt64)))) (ty := .long) (uT (uT (uL σ 5 ((gL σ 5) + 1)) 7 k ((gL σ 5) + 1)) 6 k ((gL σ 2) + (((1000 * ((gS σ 4 k).toInt64)) * pr.toInt64) / ((gS σ 3 k).toInt64)))) ((sF_self (uT (uL σ 5 ((gL σ 5) + 1)) 7 k ((gL σ 5) + 1)) k).2.2.2.2.1 _) (fun i9 hi9 => (sF_other (uT (uL σ 5 ((gL σ 5) + 1)) 7 k ((gL σ 5) + 1)) hi9).2.2.2.2.1 _) (cF_uT _ _ _ _ _) rfl (by decide +kernel) rfl rfl dX1_setWorth_57 (fun _ h => h) (fun H locs hP hD hS => ?_)
    exact x_vret hx hb hr hlocks hK (uT (uT (uL σ 5 ((gL σ 5) + 1)) 7 k ((gL σ 5) + 1)) 6 k ((gL σ 2) + (((1000 * ((gS σ 4 k).toInt64)) * pr.toInt64) / ((gS σ 3 k).toInt64)))) hP hD hS (by unfold cSetW; simp [c_1]) dX1_setWorth_60
  · refine lv_aload_n hx hb dX1_setWorth_27 rfl (lv_at hl 0 rfl) ?_
    refine c_get hx hb hts hi1 hown hK hP 2 (by decide) (List.mem_of_getElem? (i := 2) rfl) (v := .long (gL σ 2)) rfl dX1_setWorth_28 (fun _ h => h) ?_
    refine lv_goto (tgt := 57) hx hb dX1_setWorth_31 (by decide) ?_
    refine s_put hx hb hts hi0 hown hK hE hP hD hS hk 6 (by decide) rfl (v := .long (gL σ 2)) (ty := .long) (uT (uT (uL σ 5 ((gL σ 5) + 1)) 7 k ((gL σ 5) + 1)) 6 k (gL σ 2)) ((sF_self (uT (uL σ 5 ((gL σ 5) + 1)) 7 k ((gL σ 5) + 1)) k).2.2.2.2.1 _) (fun i9 hi9 => (sF_other (uT (uL σ 5 ((gL σ 5) + 1)) 7 k ((gL σ 5) + 1)) hi9).2.2.2.2.1 _) (cF_uT _ _ _ _ _) rfl (by decide +kernel) rfl rfl dX1_setWorth_57 (fun _ h => h) (fun H locs hP hD hS => ?_)
    exact x_vret hx hb hr hlocks hK (uT (uT (uL σ 5 ((gL σ 5) + 1)) 7 k ((gL σ 5) + 1)) 6 k (gL σ 2)) hP hD hS (by unfold cSetW; simp [c_1]) dX1_setWorth_60
set_option maxHeartbeats 4000000 in
set_option maxRecDepth 100000 in
theorem k_X1_hit (l : Launch) (D : va_G) (ax ar : Nat) (ad : Nat → Nat) (cO : ClassId) (sz : Nat) (σ : St) {k : Nat} (pr : Int32) (hk : k < 32) : Met l yX1_hit wsX1_hit ({ frames := 1, cells := 0, slots := 0, locals := 40 } : Room) (va_Pc [.ref ax, .ref (ad k), .int pr] (xPre D (cT cO) xE (cW ax ar ad cO) σ sz)) (va_Qv (fun (u : St) => u = cHit σ k pr) (xB D (cT cO) (cW ax ar ad cO) (va_A (cW ax ar ad cO σ) sz)) (va_A (cW ax ar ad cO σ) sz)) 0 0 (va_A (cW ax ar ad cO σ) sz) := by
  refine xOpen (w := (cW ax ar ad cO)) (σ := σ) (cc := cX1_hit) (maxL := 3) (ret := none) (QQ := fun A => va_Qv (fun (u : St) => u = cHit σ k pr) (xB D (cT cO) (cW ax ar ad cO) A) A) (by decide) rfl (Nat.le_of_ble_eq_true rfl) ?_
  intro p e s m below meth c A hx hb hr hml hown hts hlocks hname hK hE hA hP hD hS ls hl
  have hl : lv_has ls 3 [(0, .ref ax), (1, .ref (ad k)), (2, .int pr)] := hl
  have hown : s.vm.findClass RX1 = some m.cls := hown
  have hi0 : ∀ w ∈ wsX00, w ∈ wsX1_hit := (fun _ h => List.mem_cons_of_mem _ (List.mem_append_left _ (List.mem_append_right _ h)))
  have hi1 : ∀ w ∈ wsX10, w ∈ wsX1_hit := (fun _ h => List.mem_cons_of_mem _ (List.mem_append_right _ h))
  generalize hH : s.heap = H at hP
  have hS : va_S A s.heap H [] := by rw [← hH]; exact va_S.rf
  generalize hlo : ([] : List Loc) = locs at hS
  refine lv_aload_n hx hb dX1_hit_0 rfl (lv_at hl 1 rfl) ?_
  refine lv_dup hx hb dX1_hit_1 rfl ?_
  refine s_get hx hb hts hi0 hown hK hE hP hk 4 (by decide) rfl (v := .int (gS σ 4 k)) rfl dX1_hit_2 (fun _ h => h) ?_
  refine lv_iconst (v := 1) hx hb dX1_hit_5 (by decide) ?_
  refine lv_iadd hx hb dX1_hit_6 ?_
  refine s_put hx hb hts hi0 hown hK hE hP hD hS hk 4 (by decide) rfl (v := .int ((gS σ 4 k) + 1)) (ty := .int) (uS σ 4 k ((gS σ 4 k) + 1)) ((sF_self σ k).2.1 _) (fun i9 hi9 => (sF_other σ hi9).2.1 _) (cF_uS _ _ _ _ _) rfl (by decide +kernel) rfl rfl dX1_hit_7 (fun _ h => h) (fun H locs hP hD hS => ?_)
  refine lv_aload_n hx hb dX1_hit_10 rfl (lv_at hl 0 rfl) ?_
  refine lv_aload_n hx hb dX1_hit_11 rfl (lv_at hl 1 rfl) ?_
  refine lv_iload_n hx hb dX1_hit_12 rfl (lv_at hl 2 rfl) ?_
  refine x_callv (va_runV (As := [.ref (ad k), .int pr]) (rest := []) ⟨hx, hb, hml, hown, hts⟩ (k_X1_setWorth l D ax ar ad cO H.size (uS σ 4 k ((gS σ 4 k) + 1)) pr hk) (cwV 2 hts gX1_hit_X1_setWorth rfl rfl rfl (by decide +kernel) ⟨Nat.le_of_ble_eq_true rfl, Nat.le_of_ble_eq_true rfl⟩) (xPreV xE_ok hE hK hA hP hD hS (q0 := 0) (ci := 1) rfl rfl rfl) rfl rfl hl.1 rfl (lv_room (Nat.le_of_ble_eq_true rfl)) dX1_hit_13 ⟨Nat.le_of_ble_eq_true rfl, Nat.le_of_ble_eq_true rfl⟩) hD hS hA (fun u H locs hp hP hD hS => ?_)
  rw [hp] at hP hD
  refine lv_aload_n hx hb dX1_hit_16 rfl (lv_at hl 0 rfl) ?_
  refine lv_dup hx hb dX1_hit_17 rfl ?_
  refine c_get hx hb hts hi1 hown hK hP 6 (by decide) (List.mem_of_getElem? (i := 1) rfl) (v := .int (gI (cSetW (uS σ 4 k ((gS σ 4 k) + 1)) k pr) 6)) rfl dX1_hit_18 (fun _ h => h) ?_
  refine lv_iconst (v := 1) hx hb dX1_hit_21 (by decide) ?_
  refine lv_iadd hx hb dX1_hit_22 ?_
  refine c_put hx hb hts hi1 hown hK hP hD hS 6 (by decide) (List.mem_of_getElem? (i := 1) rfl) (v := .int ((gI (cSetW (uS σ 4 k ((gS σ 4 k) + 1)) k pr) 6) + 1)) (ty := .int) (uI (cSetW (uS σ 4 k ((gS σ 4 k) + 1)) k pr) 6 ((gI (cSetW (uS σ 4 k ((gS σ 4 k) + 1)) k pr) 6) + 1)) (cF_uI ar (cSetW (uS σ 4 k ((gS σ 4 k) + 1)) k pr) ((gI (cSetW (uS σ 4 k ((gS σ 4 k) + 1)) k pr) 6) + 1)).2.2.2.1 (fun _ => sF_uI _ _ _ _) (by decide) rfl (by decide +kernel) rfl rfl dX1_hit_23 (fun _ h => h) (fun H locs hP hD hS => ?_)
  refine lv_aload_n hx hb dX1_hit_26 rfl (lv_at hl 0 rfl) ?_
  refine lv_dup hx hb dX1_hit_27 rfl ?_
  refine c_get hx hb hts hi1 hown hK hP 8 (by decide) (List.mem_of_getElem? (i := 2) rfl) (v := .long (gL (cSetW (uS σ 4 k ((gS σ 4 k) + 1)) k pr) 8)) rfl dX1_hit_28 (fun _ h => h) ?_
  refine lv_aload_n hx hb dX1_hit_31 rfl (lv_at hl 1 rfl) ?_
  refine s_get hx hb hts hi0 hown hK hE hP hk 3 (by decide) rfl (v := .int (gS (cSetW (uS σ 4 k ((gS σ 4 k) + 1)) k pr) 3 k)) rfl dX1_hit_32 (fun _ h => h) ?_
  refine lv_i2l (v := (gS (cSetW (uS σ 4 k ((gS σ 4 k) + 1)) k pr) 3 k).toInt64) hx hb dX1_hit_35 rfl ?_
  refine lv_ladd hx hb dX1_hit_36 ?_
  refine c_put hx hb hts hi1 hown hK hP hD hS 8 (by decide) (List.mem_of_getElem? (i := 2) rfl) (v := .long ((gL (cSetW (uS σ 4 k ((gS σ 4 k) + 1)) k pr) 8) + ((gS (cSetW (uS σ 4 k ((gS σ 4 k) + 1)) k pr) 3 k).toInt64))) (ty := .long) (uL (uI (cSetW (uS σ 4 k ((gS σ 4 k) + 1)) k pr) 6 ((gI (cSetW (uS σ 4 k ((gS σ 4 k) + 1)) k pr) 6) + 1)) 8 ((gL (cSetW (uS σ 4 k ((gS σ 4 k) + 1)) k pr) 8) + ((gS (cSetW (uS σ 4 k ((gS σ 4 k) + 1)) k pr) 3 k).toInt64))) (cF_uL ar (uI (cSetW (uS σ 4 k ((gS σ 4 k) + 1)) k pr) 6 ((gI (cSetW (uS σ 4 k ((gS σ 4 k) + 1)) k pr) 6) + 1)) ((gL (cSetW (uS σ 4 k ((gS σ 4 k) + 1)) k pr) 8) + ((gS (cSetW (uS σ 4 k ((gS σ 4 k) + 1)) k pr) 3 k).toInt64))).2.2.1 (fun _ => sF_uL _ _ _ _) (by decide) rfl (by decide +kernel) rfl rfl dX1_hit_37 (fun _ h => h) (fun H locs hP hD hS => ?_)
  refine lv_aload_n hx hb dX1_hit_40 rfl (lv_at hl 0 rfl) ?_
  refine lv_dup hx hb dX1_hit_41 rfl ?_
  refine c_get hx hb hts hi1 hown hK hP 9 (by decide) (List.mem_of_getElem? (i := 3) rfl) (v := .long (gL (cSetW (uS σ 4 k ((gS σ 4 k) + 1)) k pr) 9)) rfl dX1_hit_42 (fun _ h => h) ?_
  refine lv_iload_n hx hb dX1_hit_45 rfl (lv_at hl 2 rfl) ?_
  refine lv_i2l (v := pr.toInt64) hx hb dX1_hit_46 rfl ?_
  refine lv_ladd hx hb dX1_hit_47 ?_
  refine c_put hx hb hts hi1 hown hK hP hD hS 9 (by decide) (List.mem_of_getElem? (i := 3) rfl) (v := .long ((gL (cSetW (uS σ 4 k ((gS σ 4 k) + 1)) k pr) 9) + pr.toInt64)) (ty := .long) (uL (uL (uI (cSetW (uS σ 4 k ((gS σ 4 k) + 1)) k pr) 6 ((gI (cSetW (uS σ 4 k ((gS σ 4 k) + 1)) k pr) 6) + 1)) 8 ((gL (cSetW (uS σ 4 k ((gS σ 4 k) + 1)) k pr) 8) + ((gS (cSetW (uS σ 4 k ((gS σ 4 k) + 1)) k pr) 3 k).toInt64))) 9 ((gL (cSetW (uS σ 4 k ((gS σ 4 k) + 1)) k pr) 9) + pr.toInt64)) (cF_uL ar (uL (uI (cSetW (uS σ 4 k ((gS σ 4 k) + 1)) k pr) 6 ((gI (cSetW (uS σ 4 k ((gS σ 4 k) + 1)) k pr) 6) + 1)) 8 ((gL (cSetW (uS σ 4 k ((gS σ 4 k) + 1)) k pr) 8) + ((gS (cSetW (uS σ 4 k ((gS σ 4 k) + 1)) k pr) 3 k).toInt64))) ((gL (cSetW (uS σ 4 k ((gS σ 4 k) + 1)) k pr) 9) + pr.toInt64)).2.2.2.1 (fun _ => sF_uL _ _ _ _) (by decide) rfl (by decide +kernel) rfl rfl dX1_hit_48 (fun _ h => h) (fun H locs hP hD hS => ?_)
  exact x_vret hx hb hr hlocks hK (uL (uL (uI (cSetW (uS σ 4 k ((gS σ 4 k) + 1)) k pr) 6 ((gI (cSetW (uS σ 4 k ((gS σ 4 k) + 1)) k pr) 6) + 1)) 8 ((gL (cSetW (uS σ 4 k ((gS σ 4 k) + 1)) k pr) 8) + ((gS (cSetW (uS σ 4 k ((gS σ 4 k) + 1)) k pr) 3 k).toInt64))) 9 ((gL (cSetW (uS σ 4 k ((gS σ 4 k) + 1)) k pr) 9) + pr.toInt64)) hP hD hS rfl dX1_hit_51
end
section
set_option maxHeartbeats 4000000 in
set_option maxRecDepth 100000 in
theorem k_X1_countMiss (l : Launch) (D : va_G) (ax ar : Nat) (ad : Nat → Nat) (cO : ClassId) (sz : Nat) (σ : St) (pr : Int32) : Met l yX1_countMiss wsX1_countMiss ({ frames := 0, cells := 0, slots := 0, locals := 0 } : Room) (va_Pc [.ref ax, .int pr] (xPre D (cT cO) xE (cW ax ar ad cO) σ sz)) (va_Qv (fun (u : St) => u = cMiss σ pr) (xB D (cT cO) (cW ax ar ad cO) (va_A (cW ax ar ad cO σ) sz)) (va_A (cW ax ar ad cO σ) sz)) 0 0 (va_A (cW ax ar ad cO σ) sz) := by
  refine xOpen (w := (cW ax ar ad cO)) (σ := σ) (cc := cX1_countMiss) (maxL := 2) (ret := none) (QQ := fun A => va_Qv (fun (u : St) => u = cMiss σ pr) (xB D (cT cO) (cW ax ar ad cO) A) A) (by decide) rfl (Nat.le_of_ble_eq_true rfl) ?_
  intro p e s m below meth c A hx hb hr hml hown hts hlocks hname hK hE hA hP hD hS ls hl
  have hl : lv_has ls 2 [(0, .ref ax), (1, .int pr)] := hl
  have hown : s.vm.findClass RX1 = some m.cls := hown
  have hi1 : ∀ w ∈ wsX10, w ∈ wsX1_countMiss := (fun _ h => List.mem_cons_of_mem _ (List.mem_append_right _ h))
  generalize hH : s.heap = H at hP
  have hS : va_S A s.heap H [] := by rw [← hH]; exact va_S.rf
  generalize hlo : ([] : List Loc) = locs at hS
  refine lv_aload_n hx hb dX1_countMiss_0 rfl (lv_at hl 0 rfl) ?_
  refine lv_dup hx hb dX1_countMiss_1 rfl ?_
  refine c_get hx hb hts hi1 hown hK hP 7 (by decide) (List.mem_of_getElem? (i := 1) rfl) (v := .int (gI σ 7)) rfl dX1_countMiss_2 (fun _ h => h) ?_
  refine lv_iconst (v := 1) hx hb dX1_countMiss_5 (by decide) ?_
  refine lv_iadd hx hb dX1_countMiss_6 ?_
  refine c_put hx hb hts hi1 hown hK hP hD hS 7 (by decide) (List.mem_of_getElem? (i := 1) rfl) (v := .int ((gI σ 7) + 1)) (ty := .int) (uI σ 7 ((gI σ 7) + 1)) (cF_uI ar σ ((gI σ 7) + 1)).2.2.2.2.1 (fun _ => sF_uI _ _ _ _) (by decide) rfl (by decide +kernel) rfl rfl dX1_countMiss_7 (fun _ h => h) (fun H locs hP hD hS => ?_)
  refine lv_aload_n hx hb dX1_countMiss_10 rfl (lv_at hl 0 rfl) ?_
  refine lv_dup hx hb dX1_countMiss_11 rfl ?_
  refine c_get hx hb hts hi1 hown hK hP 10 (by decide) (List.mem_of_getElem? (i := 2) rfl) (v := .long (gL σ 10)) rfl dX1_countMiss_12 (fun _ h => h) ?_
  refine lv_iload_n hx hb dX1_countMiss_15 rfl (lv_at hl 1 rfl) ?_
  refine lv_i2l (v := pr.toInt64) hx hb dX1_countMiss_16 rfl ?_
  refine lv_ladd hx hb dX1_countMiss_17 ?_
  refine c_put hx hb hts hi1 hown hK hP hD hS 10 (by decide) (List.mem_of_getElem? (i := 2) rfl) (v := .long ((gL σ 10) + pr.toInt64)) (ty := .long) (uL (uI σ 7 ((gI σ 7) + 1)) 10 ((gL σ 10) + pr.toInt64)) (cF_uL ar (uI σ 7 ((gI σ 7) + 1)) ((gL σ 10) + pr.toInt64)).2.2.2.2 (fun _ => sF_uL _ _ _ _) (by decide) rfl (by decide +kernel) rfl rfl dX1_countMiss_18 (fun _ h => h) (fun H locs hP hD hS => ?_)
  exact x_vret hx hb hr hlocks hK (uL (uI σ 7 ((gI σ 7) + 1)) 10 ((gL σ 10) + pr.toInt64)) hP hD hS rfl dX1_countMiss_21
set_option maxHeartbeats 4000000 in
set_option maxRecDepth 100000 in
theorem k_X1_wasMissedLately (l : Launch) (D : va_G) (ax ar : Nat) (ad : Nat → Nat) (cO : ClassId) (sz : Nat) (σ : St) {k : Nat} (hk : k < 32) : Met l yX1_wasMissedLately wsX1_wasMissedLately ({ frames := 0, cells := 0, slots := 0, locals := 0 } : Room) (va_Pc [.ref ax, .ref (ad k)] (xPre D (cT cO) xE (cW ax ar ad cO) σ sz)) (va_Qi (fun (r : Int32) (u : St) => r = bI (cLate σ k) ∧ u = σ) (xB D (cT cO) (cW ax ar ad cO) (va_A (cW ax ar ad cO σ) sz)) (va_A (cW ax ar ad cO σ) sz)) 0 0 (va_A (cW ax ar ad cO σ) sz) := by
  refine xOpen (w := (cW ax ar ad cO)) (σ := σ) (cc := cX1_wasMissedLately) (maxL := 2) (ret := some .boolean) (QQ := fun A => va_Qi (fun (r : Int32) (u : St) => r = bI (cLate σ k) ∧ u = σ) (xB D (cT cO) (cW ax ar ad cO) A) A) (by decide) rfl (Nat.le_of_ble_eq_true rfl) ?_
  intro p e s m below meth c A hx hb hr hml hown hts hlocks hname hK hE hA hP hD hS ls hl
  have hl : lv_has ls 2 [(0, .ref ax), (1, .ref (ad k))] := hl
  have hown : s.vm.findClass RX1 = some m.cls := hown
  have hi0 : ∀ w ∈ wsX00, w ∈ wsX1_wasMissedLately := (fun _ h => List.mem_cons_of_mem _ (List.mem_append_left _ (List.mem_append_right _ h)))
  have hi1 : ∀ w ∈ wsX10, w ∈ wsX1_wasMissedLately := (fun _ h => List.mem_cons_of_mem _ (List.mem_append_right _ h))
  generalize hH : s.heap = H at hP
  have hS : va_S A s.heap H [] := by rw [← hH]; exact va_S.rf
  generalize hlo : ([] : List Loc) = locs at hS
  refine lv_aload_n hx hb dX1_wasMissedLately_0 rfl (lv_at hl 1 rfl) ?_
  refine s_get hx hb hts hi0 hown hK hE hP hk 8 (by decide) rfl (v := .int (gS σ 8 k)) rfl dX1_wasMissedLately_1 (fun _ h => h) ?_
  refine lv_iconst (v := (-1)) hx hb dX1_wasMissedLately_4 (by decide) ?_
  refine lv_icmp_eq (tgt := 26) hx hb dX1_wasMissedLately_5 (by decide) (fun c_1 => ?_) (fun c_1 => ?_)
  · refine lv_iconst (v := 0) hx hb dX1_wasMissedLately_26 (by decide) ?_
    exact x_zret (b := false) hx hb hr hlocks hK (σ) hP hD hS ⟨by simp only [cLate]; simp [c_1], rfl⟩ dX1_wasMissedLately_27
  · refine lv_aload_n hx hb dX1_wasMissedLately_8 rfl (lv_at hl 0 rfl) ?_
    refine c_get hx hb hts hi1 hown hK hP 1 (by decide) (List.mem_of_getElem? (i := 1) rfl) (v := .int (gI σ 1)) rfl dX1_wasMissedLately_9 (fun _ h => h) ?_
    refine lv_aload_n hx hb dX1_wasMissedLately_12 rfl (lv_at hl 1 rfl) ?_
    refine s_get hx hb hts hi0 hown hK hE hP hk 8 (by decide) rfl (v := .int (gS σ 8 k)) rfl dX1_wasMissedLately_13 (fun _ h => h) ?_
    refine lv_isub hx hb dX1_wasMissedLately_16 ?_
    refine lv_bipush (v := 50) hx hb dX1_wasMissedLately_17 (by decide) ?_
    refine lv_icmp_gt (tgt := 26) hx hb dX1_wasMissedLately_19 (by decide) (fun c_2 => ?_) (fun c_2 => ?_)
    · refine lv_iconst (v := 0) hx hb dX1_wasMissedLately_26 (by decide) ?_
      exact x_zret (b := false) hx hb hr hlocks hK (σ) hP hD hS ⟨by simp only [cLate]; simp [c_1, c_2], rfl⟩ dX1_wasMissedLately_27
    · refine lv_iconst (v := 1) hx hb dX1_wasMissedLately_22 (by decide) ?_
      refine lv_goto (tgt := 27) hx hb dX1_wasMissedLately_23 (by decide) ?_
      exact x_zret (b := true) hx hb hr hlocks hK (σ) hP hD hS ⟨by simp only [cLate]; simp [c_1, c_2], rfl⟩ dX1_wasMissedLately_27
set_option maxHeartbeats 4000000 in
set_option maxRecDepth 100000 in
theorem k_X1_removeOwn (l : Launch) (D : va_G) (ax ar : Nat) (ad : Nat → Nat) (cO : ClassId) (sz : Nat) (σ : St) {k : Nat} (hk : k < 32) : Met l yX1_removeOwn wsX1_removeOwn ({ frames := 1, cells := 0, slots := 0, locals := 40 } : Room) (va_Pc [.ref ax, .ref (ad k)] (xPre D (cT cO) xE (cW ax ar ad cO) σ sz)) (va_Qv (fun (u : St) => u = cRmOwn σ k) (xB D (cT cO) (cW ax ar ad cO) (va_A (cW ax ar ad cO σ) sz)) (va_A (cW ax ar ad cO σ) sz)) 0 0 (va_A (cW ax ar ad cO σ) sz) := by
  refine xOpen (w := (cW ax ar ad cO)) (σ := σ) (cc := cX1_removeOwn) (maxL := 2) (ret := none) (QQ := fun A => va_Qv (fun (u : St) => u = cRmOwn σ k) (xB D (cT cO) (cW ax ar ad cO) A) A) (by decide) rfl (Nat.le_of_ble_eq_true rfl) ?_
  intro p e s m below meth c A hx hb hr hml hown hts hlocks hname hK hE hA hP hD hS ls hl
  have hl : lv_has ls 2 [(0, .ref ax), (1, .ref (ad k))] := hl
  have hown : s.vm.findClass RX1 = some m.cls := hown
  have hi0 : ∀ w ∈ wsX00, w ∈ wsX1_removeOwn := (fun _ h => List.mem_cons_of_mem _ (List.mem_append_left _ (List.mem_append_right _ h)))
  have hi1 : ∀ w ∈ wsX10, w ∈ wsX1_removeOwn := (fun _ h => List.mem_cons_of_mem _ (List.mem_append_right _ h))
  generalize hH : s.heap = H at hP
  have hS : va_S A s.heap H [] := by rw [← hH]; exact va_S.rf
  generalize hlo : ([] : List Loc) = locs at hS
  refine lv_aload_n hx hb dX1_removeOwn_0 rfl (lv_at hl 1 rfl) ?_
  refine s_get hx hb hts hi0 hown hK hE hP hk 1 (by decide) rfl (v := .int (bI (gB σ 1 k))) rfl dX1_removeOwn_1 (fun _ h => h) ?_
  refine x_ifeq (tgt := 25) hx hb dX1_removeOwn_4 (by decide) (fun c_1 => ?_) (fun c_1 => ?_)
  · refine lv_aload_n hx hb dX1_removeOwn_25 rfl (lv_at hl 1 rfl) ?_
    refine lv_iconst (v := 0) hx hb dX1_removeOwn_26 (by decide) ?_
    refine s_put hx hb hts hi0 hown hK hE hP hD hS hk 1 (by decide) rfl (v := .int (bI false)) (ty := .boolean) (uB σ 1 k false) ((sF_self σ k).2.2.2.2.2.2.1 _) (fun i9 hi9 => (sF_other σ hi9).2.2.2.2.2.2.1 _) (cF_uB _ _ _ _ _) rfl (by decide +kernel) (bI_nar _) (bI_fit _) dX1_removeOwn_27 (fun _ h => h) (fun H locs hP hD hS => ?_)
    exact x_vret hx hb hr hlocks hK (uB σ 1 k false) hP hD hS (by simp [cRmOwn, c_1]) dX1_removeOwn_30
  · refine lv_aload_n hx hb dX1_removeOwn_7 rfl (lv_at hl 0 rfl) ?_
    refine lv_aload_n hx hb dX1_removeOwn_8 rfl (lv_at hl 1 rfl) ?_
    refine x_calli (va_runV (As := [.ref (ad k)]) (rest := []) ⟨hx, hb, hml, hown, hts⟩ (k_X1_hasEnded l D ax ar ad cO H.size σ hk) (cwV 1 hts gX1_removeOwn_X1_hasEnded rfl rfl rfl (by decide +kernel) ⟨Nat.le_of_ble_eq_true rfl, Nat.le_of_ble_eq_true rfl⟩) (xPreV xE_ok hE hK hA hP hD hS (q0 := 0) (ci := 1) rfl rfl rfl) rfl rfl hl.1 rfl (lv_room (Nat.le_of_ble_eq_true rfl)) dX1_removeOwn_9 ⟨Nat.le_of_ble_eq_true rfl, Nat.le_of_ble_eq_true rfl⟩) hD hS hA (fun r u H locs hp hP hD hS => ?_)
    obtain ⟨rfl, hu9⟩ := hp
    rw [hu9] at hP hD
    refine x_ifeq (tgt := 25) hx hb dX1_removeOwn_12 (by decide) (fun c_2 => ?_) (fun c_2 => ?_)
    · refine lv_aload_n hx hb dX1_removeOwn_25 rfl (lv_at hl 1 rfl) ?_
      refine lv_iconst (v := 0) hx hb dX1_removeOwn_26 (by decide) ?_
      refine s_put hx hb hts hi0 hown hK hE hP hD hS hk 1 (by decide) rfl (v := .int (bI false)) (ty := .boolean) (uB σ 1 k false) ((sF_self σ k).2.2.2.2.2.2.1 _) (fun i9 hi9 => (sF_other σ hi9).2.2.2.2.2.2.1 _) (cF_uB _ _ _ _ _) rfl (by decide +kernel) (bI_nar _) (bI_fit _) dX1_removeOwn_27 (fun _ h => h) (fun H locs hP hD hS => ?_)
      exact x_vret hx hb hr hlocks hK (uB σ 1 k false) hP hD hS (by simp [cRmOwn, c_1, c_2]) dX1_removeOwn_30
    · refine lv_aload_n hx hb dX1_removeOwn_15 rfl (lv_at hl 0 rfl) ?_
      refine lv_dup hx hb dX1_removeOwn_16 rfl ?_
      refine c_get hx hb hts hi1 hown hK hP 12 (by decide) (List.mem_of_getElem? (i := 1) rfl) (v := .int (gI σ 12)) rfl dX1_removeOwn_17 (fun _ h => h) ?_
      refine lv_iconst (v := 1) hx hb dX1_removeOwn_20 (by decide) ?_
      refine lv_iadd hx hb dX1_removeOwn_21 ?_
      refine c_put hx hb hts hi1 hown hK hP hD hS 12 (by decide) (List.mem_of_getElem? (i := 1) rfl) (v := .int ((gI σ 12) + 1)) (ty := .int) (uI σ 12 ((gI σ 12) + 1)) (cF_uI ar σ ((gI σ 12) + 1)).2.2.2.2.2.2 (fun _ => sF_uI _ _ _ _) (by decide) rfl (by decide +kernel) rfl rfl dX1_removeOwn_22 (fun _ h => h) (fun H locs hP hD hS => ?_)
      refine lv_aload_n hx hb dX1_removeOwn_25 rfl (lv_at hl 1 rfl) ?_
      refine lv_iconst (v := 0) hx hb dX1_removeOwn_26 (by decide) ?_
      refine s_put hx hb hts hi0 hown hK hE hP hD hS hk 1 (by decide) rfl (v := .int (bI false)) (ty := .boolean) (uB (uI σ 12 ((gI σ 12) + 1)) 1 k false) ((sF_self (uI σ 12 ((gI σ 12) + 1)) k).2.2.2.2.2.2.1 _) (fun i9 hi9 => (sF_other (uI σ 12 ((gI σ 12) + 1)) hi9).2.2.2.2.2.2.1 _) (cF_uB _ _ _ _ _) rfl (by decide +kernel) (bI_nar _) (bI_fit _) dX1_removeOwn_27 (fun _ h => h) (fun H locs hP hD hS => ?_)
      exact x_vret hx hb hr hlocks hK (uB (uI σ 12 ((gI σ 12) + 1)) 1 k false) hP hD hS (by simp [cRmOwn, c_1, c_2]) dX1_removeOwn_30
end
section
set_option maxHeartbeats 4000000 in
set_option maxRecDepth 100000 in
theorem k_X1_fill (l : Launch) (D : va_G) (ax ar : Nat) (ad : Nat → Nat) (cO : ClassId) (sz : Nat) (σ : St) {k : Nat} (sz9 pr lf : Int32) (hk : k < 32) : Met l yX1_fill wsX1_fill ({ frames := 1, cells := 0, slots := 0, locals := 40 } : Room) (va_Pc [.ref ax, .ref (ad k), .int sz9, .int pr, .int lf] (xPre D (cT cO) xE (cW ax ar ad cO) σ sz)) (va_Qv (fun (u : St) => u = cFill σ k sz9 pr lf) (xB D (cT cO) (cW ax ar ad cO) (va_A (cW ax ar ad cO σ) sz)) (va_A (cW ax ar ad cO σ) sz)) 0 0 (va_A (cW ax ar ad cO σ) sz) := by
  refine xOpen (w := (cW ax ar ad cO)) (σ := σ) (cc := cX1_fill) (maxL := 5) (ret := none) (QQ := fun A => va_Qv (fun (u : St) => u = cFill σ k sz9 pr lf) (xB D (cT cO) (cW ax ar ad cO) A) A) (by decide) rfl (Nat.le_of_ble_eq_true rfl) ?_
  intro p e s m below meth c A hx hb hr hml hown hts hlocks hname hK hE hA hP hD hS ls hl
  have hl : lv_has ls 5 [(0, .ref ax), (1, .ref (ad k)), (2, .int sz9), (3, .int pr), (4, .int lf)] := hl
  have hown : s.vm.findClass RX1 = some m.cls := hown
  have hi0 : ∀ w ∈ wsX00, w ∈ wsX1_fill := (fun _ h => List.mem_cons_of_mem _ (List.mem_append_left _ (List.mem_append_right _ h)))
  have hi1 : ∀ w ∈ wsX10, w ∈ wsX1_fill := (fun _ h => List.mem_cons_of_mem _ (List.mem_append_right _ h))
  generalize hH : s.heap = H at hP
  have hS : va_S A s.heap H [] := by rw [← hH]; exact va_S.rf
  generalize hlo : ([] : List Loc) = locs at hS
  refine lv_aload_n hx hb dX1_fill_0 rfl (lv_at hl 1 rfl) ?_
  refine lv_iconst (v := 1) hx hb dX1_fill_1 (by decide) ?_
  refine s_put hx hb hts hi0 hown hK hE hP hD hS hk 1 (by decide) rfl (v := .int (bI true)) (ty := .boolean) (uB σ 1 k true) ((sF_self σ k).2.2.2.2.2.2.1 _) (fun i9 hi9 => (sF_other σ hi9).2.2.2.2.2.2.1 _) (cF_uB _ _ _ _ _) rfl (by decide +kernel) (bI_nar _) (bI_fit _) dX1_fill_2 (fun _ h => h) (fun H locs hP hD hS => ?_)
  refine lv_aload_n hx hb dX1_fill_5 rfl (lv_at hl 1 rfl) ?_
  refine lv_iconst (v := 0) hx hb dX1_fill_6 (by decide) ?_
  refine s_put hx hb hts hi0 hown hK hE hP hD hS hk 2 (by decide) rfl (v := .int (bI false)) (ty := .boolean) (uB (uB σ 1 k true) 2 k false) ((sF_self (uB σ 1 k true) k).2.2.2.2.2.2.2 _) (fun i9 hi9 => (sF_other (uB σ 1 k true) hi9).2.2.2.2.2.2.2 _) (cF_uB _ _ _ _ _) rfl (by decide +kernel) (bI_nar _) (bI_fit _) dX1_fill_7 (fun _ h => h) (fun H locs hP hD hS => ?_)
  refine lv_aload_n hx hb dX1_fill_10 rfl (lv_at hl 1 rfl) ?_
  refine lv_iload_n hx hb dX1_fill_11 rfl (lv_at hl 2 rfl) ?_
  refine s_put hx hb hts hi0 hown hK hE hP hD hS hk 3 (by decide) rfl (v := .int sz9) (ty := .int) (uS (uB (uB σ 1 k true) 2 k false) 3 k sz9) ((sF_self (uB (uB σ 1 k true) 2 k false) k).1 _) (fun i9 hi9 => (sF_other (uB (uB σ 1 k true) 2 k false) hi9).1 _) (cF_uS _ _ _ _ _) rfl (by decide +kernel) rfl rfl dX1_fill_12 (fun _ h => h) (fun H locs hP hD hS => ?_)
  refine lv_aload_n hx hb dX1_fill_15 rfl (lv_at hl 1 rfl) ?_
  refine lv_iconst (v := 1) hx hb dX1_fill_16 (by decide) ?_
  refine s_put hx hb hts hi0 hown hK hE hP hD hS hk 4 (by decide) rfl (v := .int 1) (ty := .int) (uS (uS (uB (uB σ 1 k true) 2 k false) 3 k sz9) 4 k 1) ((sF_self (uS (uB (uB σ 1 k true) 2 k false) 3 k sz9) k).2.1 _) (fun i9 hi9 => (sF_other (uS (uB (uB σ 1 k true) 2 k false) 3 k sz9) hi9).2.1 _) (cF_uS _ _ _ _ _) rfl (by decide +kernel) rfl rfl dX1_fill_17 (fun _ h => h) (fun H locs hP hD hS => ?_)
  refine lv_aload_n hx hb dX1_fill_20 rfl (lv_at hl 1 rfl) ?_
  refine lv_aload_n hx hb dX1_fill_21 rfl (lv_at hl 0 rfl) ?_
  refine c_get hx hb hts hi1 hown hK hP 1 (by decide) (List.mem_of_getElem? (i := 1) rfl) (v := .int (gI σ 1)) rfl dX1_fill_22 (fun _ h => h) ?_
  refine lv_iload hx hb dX1_fill_25 (lv_at hl 4 rfl) ?_
  refine lv_iadd hx hb dX1_fill_27 ?_
  refine s_put hx hb hts hi0 hown hK hE hP hD hS hk 5 (by decide) rfl (v := .int ((gI σ 1) + lf)) (ty := .int) (uS (uS (uS (uB (uB σ 1 k true) 2 k false) 3 k sz9) 4 k 1) 5 k ((gI σ 1) + lf)) ((sF_self (uS (uS (uB (uB σ 1 k true) 2 k false) 3 k sz9) 4 k 1) k).2.2.1 _) (fun i9 hi9 => (sF_other (uS (uS (uB (uB σ 1 k true) 2 k false) 3 k sz9) 4 k 1) hi9).2.2.1 _) (cF_uS _ _ _ _ _) rfl (by decide +kernel) rfl rfl dX1_fill_28 (fun _ h => h) (fun H locs hP hD hS => ?_)
  refine lv_aload_n hx hb dX1_fill_31 rfl (lv_at hl 0 rfl) ?_
  refine lv_aload_n hx hb dX1_fill_32 rfl (lv_at hl 1 rfl) ?_
  refine lv_iload_n hx hb dX1_fill_33 rfl (lv_at hl 3 rfl) ?_
  refine x_callv (va_runV (As := [.ref (ad k), .int pr]) (rest := []) ⟨hx, hb, hml, hown, hts⟩ (k_X1_setWorth l D ax ar ad cO H.size (uS (uS (uS (uB (uB σ 1 k true) 2 k false) 3 k sz9) 4 k 1) 5 k ((gI σ 1) + lf)) pr hk) (cwV 2 hts gX1_fill_X1_setWorth rfl rfl rfl (by decide +kernel) ⟨Nat.le_of_ble_eq_true rfl, Nat.le_of_ble_eq_true rfl⟩) (xPreV xE_ok hE hK hA hP hD hS (q0 := 0) (ci := 1) rfl rfl rfl) rfl rfl hl.1 rfl (lv_room (Nat.le_of_ble_eq_true rfl)) dX1_fill_34 ⟨Nat.le_of_ble_eq_true rfl, Nat.le_of_ble_eq_true rfl⟩) hD hS hA (fun u H locs hp hP hD hS => ?_)
  rw [hp] at hP hD
  exact x_vret hx hb hr hlocks hK (cSetW (uS (uS (uS (uB (uB σ 1 k true) 2 k false) 3 k sz9) 4 k 1) 5 k ((gI σ 1) + lf)) k pr) hP hD hS rfl dX1_fill_37
set_option maxHeartbeats 4000000 in
set_option maxRecDepth 100000 in
theorem k_X1_hasRoom (l : Launch) (D : va_G) (ax ar : Nat) (ad : Nat → Nat) (cO : ClassId) (sz : Nat) (σ : St) (sz9 : Int32) : Met l yX1_hasRoom wsX1_hasRoom ({ frames := 2, cells := 0, slots := 0, locals := 60 } : Room) (va_Pc [.ref ax, .int sz9] (xPre D (cT cO) xE (cW ax ar ad cO) σ sz)) (va_Qi (fun (r : Int32) (u : St) => r = bI (cHasRoom σ sz9) ∧ u = σ) (xB D (cT cO) (cW ax ar ad cO) (va_A (cW ax ar ad cO σ) sz)) (va_A (cW ax ar ad cO σ) sz)) 0 0 (va_A (cW ax ar ad cO σ) sz) := by
  refine xOpen (w := (cW ax ar ad cO)) (σ := σ) (cc := cX1_hasRoom) (maxL := 2) (ret := some .boolean) (QQ := fun A => va_Qi (fun (r : Int32) (u : St) => r = bI (cHasRoom σ sz9) ∧ u = σ) (xB D (cT cO) (cW ax ar ad cO) A) A) (by decide) rfl (Nat.le_of_ble_eq_true rfl) ?_
  intro p e s m below meth c A hx hb hr hml hown hts hlocks hname hK hE hA hP hD hS ls hl
  have hl : lv_has ls 2 [(0, .ref ax), (1, .int sz9)] := hl
  have hown : s.vm.findClass RX1 = some m.cls := hown
  have hi0 : ∀ w ∈ wsX00, w ∈ wsX1_hasRoom := (fun _ h => List.mem_cons_of_mem _ (List.mem_append_right _ h))
  have hi1 : ∀ w ∈ wsX10, w ∈ wsX1_hasRoom := (fun _ h => List.mem_cons_of_mem _ (List.mem_append_left _ (List.mem_append_right _ h)))
  generalize hH : s.heap = H at hP
  have hS : va_S A s.heap H [] := by rw [← hH]; exact va_S.rf
  generalize hlo : ([] : List Loc) = locs at hS
  refine lv_aload_n hx hb dX1_hasRoom_0 rfl (lv_at hl 0 rfl) ?_
  refine x_calli (va_runV (As := []) (rest := []) ⟨hx, hb, hml, hown, hts⟩ (k_X1_used l D ax ar ad cO H.size σ) (cwV 0 hts gX1_hasRoom_X1_used rfl rfl rfl (by decide +kernel) ⟨Nat.le_of_ble_eq_true rfl, Nat.le_of_ble_eq_true rfl⟩) (xPreV xE_ok hE hK hA hP hD hS (q0 := 0) (ci := 1) rfl rfl rfl) rfl rfl hl.1 rfl (lv_room (Nat.le_of_ble_eq_true rfl)) dX1_hasRoom_1 ⟨Nat.le_of_ble_eq_true rfl, Nat.le_of_ble_eq_true rfl⟩) hD hS hA (fun r u H locs hp hP hD hS => ?_)
  obtain ⟨rfl, hu9⟩ := hp
  rw [hu9] at hP hD
  refine lv_aload_n hx hb dX1_hasRoom_4 rfl (lv_at hl 0 rfl) ?_
  refine c_get hx hb hts hi1 hown hK hP 3 (by decide) (List.mem_of_getElem? (i := 1) rfl) (v := .int (gI σ 3)) rfl dX1_hasRoom_5 (fun _ h => h) ?_
  refine lv_iload_n hx hb dX1_hasRoom_8 rfl (lv_at hl 1 rfl) ?_
  refine lv_isub hx hb dX1_hasRoom_9 ?_
  refine lv_icmp_gt (tgt := 17) hx hb dX1_hasRoom_10 (by decide) (fun c_1 => ?_) (fun c_1 => ?_)
  · refine lv_iconst (v := 0) hx hb dX1_hasRoom_17 (by decide) ?_
    exact x_zret (b := false) hx hb hr hlocks hK (σ) hP hD hS ⟨by simp only [cHasRoom]; simp [c_1], rfl⟩ dX1_hasRoom_18
  · refine lv_iconst (v := 1) hx hb dX1_hasRoom_13 (by decide) ?_
    refine lv_goto (tgt := 18) hx hb dX1_hasRoom_14 (by decide) ?_
    exact x_zret (b := true) hx hb hr hlocks hK (σ) hP hD hS ⟨by simp only [cHasRoom]; simp [c_1], rfl⟩ dX1_hasRoom_18
set_option maxHeartbeats 4000000 in
set_option maxRecDepth 100000 in
theorem k_X1_leaveDownTo (l : Launch) (D : va_G) (ax ar : Nat) (ad : Nat → Nat) (cO : ClassId) (sz : Nat) (σ : St) (by9 : Int32) : Met l yX1_leaveDownTo wsX1_leaveDownTo ({ frames := 3, cells := 0, slots := 0, locals := 90 } : Room) (va_Pc [.ref ax, .int by9] (xPre D (cT cO) xE (cW ax ar ad cO) σ sz)) (va_Qi (fun (r : Int32) (u : St) => r = nI (lvE by9 σ) ∧ u = lvD by9 σ) (xB D (cT cO) (cW ax ar ad cO) (va_A (cW ax ar ad cO σ) sz)) (va_A (cW ax ar ad cO σ) sz)) 0 0 (va_A (cW ax ar ad cO σ) sz) := by
  refine xOpen (w := (cW ax ar ad cO)) (σ := σ) (cc := cX1_leaveDownTo) (maxL := 4) (ret := some .int) (QQ := fun A => va_Qi (fun (r : Int32) (u : St) => r = nI (lvE by9 σ) ∧ u = lvD by9 σ) (xB D (cT cO) (cW ax ar ad cO) A) A) (by decide) rfl (Nat.le_of_ble_eq_true rfl) ?_
  intro p e s m below meth c A hx hb hr hml hown hts hlocks hname hK hE hA hP hD hS ls hl
  have hl : lv_has ls 4 [(0, .ref ax), (1, .int by9)] := hl
  have hown : s.vm.findClass RX1 = some m.cls := hown
  have hi0 : ∀ w ∈ wsX00, w ∈ wsX1_leaveDownTo := (fun _ h => List.mem_cons_of_mem _ (List.mem_append_left _ (List.mem_append_right _ h)))
  have hi1 : ∀ w ∈ wsX10, w ∈ wsX1_leaveDownTo := (fun _ h => List.mem_cons_of_mem _ (List.mem_append_right _ h))
  generalize hH : s.heap = H at hP
  have hS : va_S A s.heap H [] := by rw [← hH]; exact va_S.rf
  generalize hlo : ([] : List Loc) = locs at hS
  refine lv_iconst (v := 0) hx hb dX1_leaveDownTo_0 (by decide) ?_
  refine lv_istore_n (lv' := [(2, .int 0), (0, .ref ax), (1, .int by9)]) hx hb dX1_leaveDownTo_1 rfl hl (by decide) rfl (fun ls hl => ?_)
  refine lv_aload_n hx hb dX1_leaveDownTo_2 rfl (lv_at hl 1 rfl) ?_
  refine x_callq (va_runV (As := []) (rest := []) ⟨hx, hb, hml, hown, hts⟩ (k_X1_firstInOrder l D ax ar ad cO H.size σ) (cwV 0 hts gX1_leaveDownTo_X1_firstInOrder rfl rfl rfl (by decide +kernel) ⟨Nat.le_of_ble_eq_true rfl, Nat.le_of_ble_eq_true rfl⟩) (xPreV xE_ok hE hK hA hP hD hS (q0 := 0) (ci := 1) rfl rfl rfl) rfl rfl hl.1 rfl (lv_room (Nat.le_of_ble_eq_true rfl)) dX1_leaveDownTo_3 ⟨Nat.le_of_ble_eq_true rfl, Nat.le_of_ble_eq_true rfl⟩) hD hS hA (fun r u H locs hp hP hD hS => ?_)
  obtain ⟨rfl, hu9⟩ := hp
  rw [hu9] at hP hD
  refine x_astore_nQ (lv' := [(3, va_rf ((nxt σ none).map ad)), (2, .int 0), (0, .ref ax), (1, .int by9)]) hx hb dX1_leaveDownTo_6 rfl hl (by decide) rfl (fun ls hl => ?_)
  obtain ⟨-, hN1, hN2, hN3⟩ := stopN_spec (lvOk by9 σ) 32 0
  have hN1 : lvE by9 σ ≤ 32 := by have h := hN1; unfold lvE; omega
  have hN2 : ∀ j, j < lvE by9 σ → lvOk by9 σ j = true := fun j h => hN2 j (Nat.zero_le _) h
  have hN3 : lvE by9 σ = 32 ∨ lvOk by9 σ (lvE by9 σ) = false := by rw [Nat.zero_add] at hN3; exact hN3
  have loop : ∀ (n j : Nat) (ls : Array Slot) (H : Heap) (locs : List Loc), j ≤ lvE by9 σ → lvE by9 σ - j < n → va_P D vwCl (cW ax ar ad cO (lvI σ j)) H → va_D A (cW ax ar ad cO (lvI σ j)) → va_S A s.heap H locs → lv_has ls 4 [(0, .ref ax), (1, .int by9), (2, .int (nI j)), (3, va_rf ((nxt (lvI σ j) none).map ad))] → W p l e (headSpec wsX1_leaveDownTo ({ frames := 3, cells := 0, slots := 0, locals := 90 } : Room)).room s m [.ref ax, .int by9].toArray below meth c H locs 0 0 (MQ below (va_Qi (fun (r : Int32) (u : St) => r = nI (lvE by9 σ) ∧ u = lvD by9 σ) (xB D (cT cO) (cW ax ar ad cO) A) A) [.ref ax, .int by9].toArray s 0 0 A) (F0 m 7 ls []) := by
    intro n
    induction n with
    | zero =>
      intro j ls H locs h1 h2
      exact absurd h2 (by omega)
    | succ n ih =>
      intro j ls H locs hj hn hP hD hS hl
      have hj32 : j ≤ 32 := Nat.le_trans hj hN1
      refine lv_iload_n hx hb dX1_leaveDownTo_7 rfl (lv_at hl 2 rfl) ?_
      refine lv_bipush (v := 32) hx hb dX1_leaveDownTo_8 (by decide) ?_
      refine x_icmp_ge (tgt := 56) hx hb dX1_leaveDownTo_10 (by decide) (fun c_1 => ?_) (fun c_1 => ?_)
      · have hjN : j = lvE by9 σ := by
          rcases Nat.lt_or_ge j (lvE by9 σ) with q | q
          · exact absurd ((nI_lt32 hj32).mpr (Nat.lt_of_lt_of_le q hN1)) c_1
          · omega
        refine lv_aload_n hx hb dX1_leaveDownTo_56 rfl (lv_at hl 0 rfl) ?_
        refine lv_dup hx hb dX1_leaveDownTo_57 rfl ?_
        refine c_get hx hb hts hi1 hown hK hP 11 (by decide) (List.mem_of_getElem? (i := 6) rfl) (v := .int (gI (lvI σ j) 11)) rfl dX1_leaveDownTo_58 (fun _ h => h) ?_
        refine lv_iload_n hx hb dX1_leaveDownTo_61 rfl (lv_at hl 2 rfl) ?_
        refine lv_iadd hx hb dX1_leaveDownTo_62 ?_
        refine c_put hx hb hts hi1 hown hK hP hD hS 11 (by decide) (List.mem_of_getElem? (i := 6) rfl) (v := .int ((gI (lvI σ j) 11) + (nI j))) (ty := .int) (uI (lvI σ j) 11 ((gI (lvI σ j) 11) + (nI j))) (cF_uI ar (lvI σ j) ((gI (lvI σ j) 11) + (nI j))).2.2.2.2.2.1 (fun _ => sF_uI _ _ _ _) (by decide) rfl (by decide +kernel) rfl rfl dX1_leaveDownTo_63 (fun _ h => h) (fun H locs hP hD hS => ?_)
        refine lv_iload_n hx hb dX1_leaveDownTo_66 rfl (lv_at hl 2 rfl) ?_
        exact x_iret hx hb hr hlocks hK (uI (lvI σ j) 11 ((gI (lvI σ j) 11) + (nI j))) hP hD hS ⟨by rw [hjN], by rw [lvD, ← hjN]⟩ dX1_leaveDownTo_67
      · refine x_aload_nQ hx hb dX1_leaveDownTo_13 rfl (lv_at hl 3 rfl) ?_
        refine x_ifnullQ (tgt := 56) hx hb dX1_leaveDownTo_14 (by decide) (fun c_2 => ?_) (fun k_3 c_2 => ?_)
        · have hjN : j = lvE by9 σ := by
            rcases Nat.lt_or_ge j (lvE by9 σ) with q | q
            · have h9 := hN2 j q
              rw [lvOk, c_2] at h9
              simp at h9
            · omega
          refine lv_aload_n hx hb dX1_leaveDownTo_56 rfl (lv_at hl 0 rfl) ?_
          refine lv_dup hx hb dX1_leaveDownTo_57 rfl ?_
          refine c_get hx hb hts hi1 hown hK hP 11 (by decide) (List.mem_of_getElem? (i := 6) rfl) (v := .int (gI (lvI σ j) 11)) rfl dX1_leaveDownTo_58 (fun _ h => h) ?_
          refine lv_iload_n hx hb dX1_leaveDownTo_61 rfl (lv_at hl 2 rfl) ?_
          refine lv_iadd hx hb dX1_leaveDownTo_62 ?_
          refine c_put hx hb hts hi1 hown hK hP hD hS 11 (by decide) (List.mem_of_getElem? (i := 6) rfl) (v := .int ((gI (lvI σ j) 11) + (nI j))) (ty := .int) (uI (lvI σ j) 11 ((gI (lvI σ j) 11) + (nI j))) (cF_uI ar (lvI σ j) ((gI (lvI σ j) 11) + (nI j))).2.2.2.2.2.1 (fun _ => sF_uI _ _ _ _) (by decide) rfl (by decide +kernel) rfl rfl dX1_leaveDownTo_63 (fun _ h => h) (fun H locs hP hD hS => ?_)
          refine lv_iload_n hx hb dX1_leaveDownTo_66 rfl (lv_at hl 2 rfl) ?_
          exact x_iret hx hb hr hlocks hK (uI (lvI σ j) 11 ((gI (lvI σ j) 11) + (nI j))) hP hD hS ⟨by rw [hjN], by rw [lvD, ← hjN]⟩ dX1_leaveDownTo_67
        · have hk_3 : k_3 < 32 := nxt_lt c_2
          refine lv_aload_n hx hb dX1_leaveDownTo_17 rfl (lv_at hl 0 rfl) ?_
          refine x_calli (va_runV (As := []) (rest := []) ⟨hx, hb, hml, hown, hts⟩ (k_X1_used l D ax ar ad cO H.size (lvI σ j)) (cwV 0 hts gX1_leaveDownTo_X1_used rfl rfl rfl (by decide +kernel) ⟨Nat.le_of_ble_eq_true rfl, Nat.le_of_ble_eq_true rfl⟩) (xPreV xE_ok hE hK hA hP hD hS (q0 := 0) (ci := 1) rfl rfl rfl) rfl rfl hl.1 rfl (lv_room (Nat.le_of_ble_eq_true rfl)) dX1_leaveDownTo_18 ⟨Nat.le_of_ble_eq_true rfl, Nat.le_of_ble_eq_true rfl⟩) hD hS hA (fun r u H locs hp hP hD hS => ?_)
          obtain ⟨rfl, hu9⟩ := hp
          rw [hu9] at hP hD
          refine lv_iload_n hx hb dX1_leaveDownTo_21 rfl (lv_at hl 1 rfl) ?_
          refine x_icmp_le (tgt := 56) hx hb dX1_leaveDownTo_22 (by decide) (fun c_4 => ?_) (fun c_4 => ?_)
          · have hjN : j = lvE by9 σ := by
              rcases Nat.lt_or_ge j (lvE by9 σ) with q | q
              · have h9 := hN2 j q
                rw [lvOk, c_2] at h9
                simp [c_4] at h9
              · omega
            refine lv_aload_n hx hb dX1_leaveDownTo_56 rfl (lv_at hl 0 rfl) ?_
            refine lv_dup hx hb dX1_leaveDownTo_57 rfl ?_
            refine c_get hx hb hts hi1 hown hK hP 11 (by decide) (List.mem_of_getElem? (i := 6) rfl) (v := .int (gI (lvI σ j) 11)) rfl dX1_leaveDownTo_58 (fun _ h => h) ?_
            refine lv_iload_n hx hb dX1_leaveDownTo_61 rfl (lv_at hl 2 rfl) ?_
            refine lv_iadd hx hb dX1_leaveDownTo_62 ?_
            refine c_put hx hb hts hi1 hown hK hP hD hS 11 (by decide) (List.mem_of_getElem? (i := 6) rfl) (v := .int ((gI (lvI σ j) 11) + (nI j))) (ty := .int) (uI (lvI σ j) 11 ((gI (lvI σ j) 11) + (nI j))) (cF_uI ar (lvI σ j) ((gI (lvI σ j) 11) + (nI j))).2.2.2.2.2.1 (fun _ => sF_uI _ _ _ _) (by decide) rfl (by decide +kernel) rfl rfl dX1_leaveDownTo_63 (fun _ h => h) (fun H locs hP hD hS => ?_)
            refine lv_iload_n hx hb dX1_leaveDownTo_66 rfl (lv_at hl 2 rfl) ?_
            exact x_iret hx hb hr hlocks hK (uI (lvI σ j) 11 ((gI (lvI σ j) 11) + (nI j))) hP hD hS ⟨by rw [hjN], by rw [lvD, ← hjN]⟩ dX1_leaveDownTo_67
          · refine x_aload_nQ hx hb dX1_leaveDownTo_25 rfl (lv_at hl 3 rfl) ?_
            refine W.eq (g2 := F0 m 26 ls [.ref (ad k_3)]) (by rw [c_2]; rfl) ?_
            refine lv_iconst (v := 0) hx hb dX1_leaveDownTo_26 (by decide) ?_
            refine s_put hx hb hts hi0 hown hK hE hP hD hS hk_3 1 (by decide) rfl (v := .int (bI false)) (ty := .boolean) (uB (lvI σ j) 1 k_3 false) ((sF_self (lvI σ j) k_3).2.2.2.2.2.2.1 _) (fun i9 hi9 => (sF_other (lvI σ j) hi9).2.2.2.2.2.2.1 _) (cF_uB _ _ _ _ _) rfl (by decide +kernel) (bI_nar _) (bI_fit _) dX1_leaveDownTo_27 (fun _ h => h) (fun H locs hP hD hS => ?_)
            refine lv_aload_n hx hb dX1_leaveDownTo_30 rfl (lv_at hl 0 rfl) ?_
            refine lv_aload_n hx hb dX1_leaveDownTo_31 rfl (lv_at hl 0 rfl) ?_
            refine c_get hx hb hts hi1 hown hK hP 2 (by decide) (List.mem_of_getElem? (i := 1) rfl) (v := .long (gL (lvI σ j) 2)) rfl dX1_leaveDownTo_32 (fun _ h => h) ?_
            refine x_aload_nQ hx hb dX1_leaveDownTo_35 rfl (lv_at hl 3 rfl) ?_
            refine W.eq (g2 := F0 m 36 ls [.ref (ad k_3), .long (gL (lvI σ j) 2), .ref ax]) (by rw [c_2]; rfl) ?_
            refine s_get hx hb hts hi0 hown hK hE hP hk_3 6 (by decide) rfl (v := .long (gT (lvI σ j) 6 k_3)) rfl dX1_leaveDownTo_36 (fun _ h => h) ?_
            refine va_mmax_long hx hb (hml.trans hl.1.symm) hown (hts _ (List.mem_of_getElem? (i := 2) rfl)) (hts _ (List.mem_of_getElem? (i := 3) rfl)) (hts _ (List.mem_of_getElem? (i := 4) rfl)) (hts _ (List.mem_of_getElem? (i := 5) rfl)) (Nat.le_of_ble_eq_true rfl) (Nat.le_of_ble_eq_true rfl) (Nat.le_of_ble_eq_true rfl) (Nat.le_of_ble_eq_true rfl) dX1_leaveDownTo_39 ?_
            refine c_put hx hb hts hi1 hown hK hP hD hS 2 (by decide) (List.mem_of_getElem? (i := 1) rfl) (v := .long (if gT (lvI σ j) 6 k_3 < gL (lvI σ j) 2 then gL (lvI σ j) 2 else gT (lvI σ j) 6 k_3)) (ty := .long) (uL (uB (lvI σ j) 1 k_3 false) 2 (if gT (lvI σ j) 6 k_3 < gL (lvI σ j) 2 then gL (lvI σ j) 2 else gT (lvI σ j) 6 k_3)) (cF_uL ar (uB (lvI σ j) 1 k_3 false) (if gT (lvI σ j) 6 k_3 < gL (lvI σ j) 2 then gL (lvI σ j) 2 else gT (lvI σ j) 6 k_3)).1 (fun _ => sF_uL _ _ _ _) (by decide) rfl (by decide +kernel) rfl rfl dX1_leaveDownTo_42 (fun _ h => h) (fun H locs hP hD hS => ?_)
            have e9 : lvI σ (j + 1) = uL (uB (lvI σ j) 1 k_3 false) 2 (if gT (lvI σ j) 6 k_3 < gL (lvI σ j) 2 then gL (lvI σ j) 2 else gT (lvI σ j) 6 k_3) := by
              show (match nxt (lvI σ j) none with | none => lvI σ j | some k => lv1 (lvI σ j) k) = _
              rw [c_2]
              rfl
            rw [← e9] at hP hD
            refine lv_iinc (v := (nI j) + 1) (lv' := [(2, .int ((nI j) + 1)), (0, .ref ax), (1, .int by9), (3, va_rf ((nxt (lvI σ j) none).map ad))]) hx hb dX1_leaveDownTo_45 hl (k := 2) rfl rfl (by decide) rfl (fun ls hl => ?_)
            refine lv_aload_n hx hb dX1_leaveDownTo_48 rfl (lv_at hl 1 rfl) ?_
            refine x_callq (va_runV (As := []) (rest := []) ⟨hx, hb, hml, hown, hts⟩ (k_X1_firstInOrder l D ax ar ad cO H.size (lvI σ (j + 1))) (cwV 0 hts gX1_leaveDownTo_X1_firstInOrder rfl rfl rfl (by decide +kernel) ⟨Nat.le_of_ble_eq_true rfl, Nat.le_of_ble_eq_true rfl⟩) (xPreV xE_ok hE hK hA hP hD hS (q0 := 0) (ci := 1) rfl rfl rfl) rfl rfl hl.1 rfl (lv_room (Nat.le_of_ble_eq_true rfl)) dX1_leaveDownTo_49 ⟨Nat.le_of_ble_eq_true rfl, Nat.le_of_ble_eq_true rfl⟩) hD hS hA (fun r u H locs hp hP hD hS => ?_)
            obtain ⟨rfl, hu9⟩ := hp
            rw [hu9] at hP hD
            refine x_astore_nQ (lv' := [(3, va_rf ((nxt (lvI σ (j + 1)) none).map ad)), (2, .int ((nI j) + 1)), (0, .ref ax), (1, .int by9)]) hx hb dX1_leaveDownTo_52 rfl hl (by decide) rfl (fun ls hl => ?_)
            refine lv_goto (tgt := 7) hx hb dX1_leaveDownTo_53 (by decide) ?_
            have hlt : j < lvE by9 σ := by
              rcases Nat.lt_or_ge j (lvE by9 σ) with q | q
              · exact q
              · have hjN : j = lvE by9 σ := by omega
                rcases hN3 with h9 | h9
                · exact absurd ((nI_lt32 hj32).mp c_1) (by omega)
                · rw [← hjN, lvOk, c_2] at h9
                  simp [c_4] at h9
            exact ih (j + 1) ls H locs hlt (by omega) hP hD hS (by rw [nI_succ]; exact lv_sub hl [2, 3, 1, 0] rfl)
  exact loop (lvE by9 σ + 1) 0 _ _ _ (Nat.zero_le _) (by omega) hP hD hS (lv_sub hl [2, 3, 1, 0] rfl)
end
section
set_option maxHeartbeats 4000000 in
set_option maxRecDepth 100000 in
theorem k_X1_countThatWouldLeave (l : Launch) (D : va_G) (ax ar : Nat) (ad : Nat → Nat) (cO : ClassId) (sz : Nat) (σ : St) (sz9 : Int32) : Met l yX1_countThatWouldLeave wsX1_countThatWouldLeave ({ frames := 3, cells := 0, slots := 0, locals := 90 } : Room) (va_Pc [.ref ax, .int sz9] (xPre D (cT cO) xE (cW ax ar ad cO) σ sz)) (va_Qi (fun (r : Int32) (u : St) => r = cCount σ sz9 ∧ u = σ) (xB D (cT cO) (cW ax ar ad cO) (va_A (cW ax ar ad cO σ) sz)) (va_A (cW ax ar ad cO σ) sz)) 0 0 (va_A (cW ax ar ad cO σ) sz) := by
  refine xOpen (w := (cW ax ar ad cO)) (σ := σ) (cc := cX1_countThatWouldLeave) (maxL := 6) (ret := some .int) (QQ := fun A => va_Qi (fun (r : Int32) (u : St) => r = cCount σ sz9 ∧ u = σ) (xB D (cT cO) (cW ax ar ad cO) A) A) (by decide) rfl (Nat.le_of_ble_eq_true rfl) ?_
  intro p e s m below meth c A hx hb hr hml hown hts hlocks hname hK hE hA hP hD hS ls hl
  have hl : lv_has ls 6 [(0, .ref ax), (1, .int sz9)] := hl
  have hown : s.vm.findClass RX1 = some m.cls := hown
  have hi0 : ∀ w ∈ wsX00, w ∈ wsX1_countThatWouldLeave := (fun _ h => List.mem_cons_of_mem _ (List.mem_append_right _ h))
  have hi1 : ∀ w ∈ wsX10, w ∈ wsX1_countThatWouldLeave := (fun _ h => List.mem_cons_of_mem _ (List.mem_append_left _ (List.mem_append_right _ h)))
  generalize hH : s.heap = H at hP
  have hS : va_S A s.heap H [] := by rw [← hH]; exact va_S.rf
  generalize hlo : ([] : List Loc) = locs at hS
  refine lv_aload_n hx hb dX1_countThatWouldLeave_0 rfl (lv_at hl 0 rfl) ?_
  refine x_calli (va_runV (As := []) (rest := []) ⟨hx, hb, hml, hown, hts⟩ (k_X1_bytesNotOver l D ax ar ad cO H.size σ) (cwV 0 hts gX1_countThatWouldLeave_X1_bytesNotOver rfl rfl rfl (by decide +kernel) ⟨Nat.le_of_ble_eq_true rfl, Nat.le_of_ble_eq_true rfl⟩) (xPreV xE_ok hE hK hA hP hD hS (q0 := 0) (ci := 1) rfl rfl rfl) rfl rfl hl.1 rfl (lv_room (Nat.le_of_ble_eq_true rfl)) dX1_countThatWouldLeave_1 ⟨Nat.le_of_ble_eq_true rfl, Nat.le_of_ble_eq_true rfl⟩) hD hS hA (fun r u H locs hp hP hD hS => ?_)
  obtain ⟨rfl, hu9⟩ := hp
  rw [hu9] at hP hD
  refine lv_istore_n (lv' := [(2, .int (notO σ)), (0, .ref ax), (1, .int sz9)]) hx hb dX1_countThatWouldLeave_4 rfl hl (by decide) rfl (fun ls hl => ?_)
  refine lv_iconst (v := 0) hx hb dX1_countThatWouldLeave_5 (by decide) ?_
  refine lv_istore_n (lv' := [(3, .int 0), (2, .int (notO σ)), (0, .ref ax), (1, .int sz9)]) hx hb dX1_countThatWouldLeave_6 rfl hl (by decide) rfl (fun ls hl => ?_)
  refine lv_aload_n hx hb dX1_countThatWouldLeave_7 rfl (lv_at hl 2 rfl) ?_
  refine x_callq (va_runV (As := []) (rest := []) ⟨hx, hb, hml, hown, hts⟩ (k_X1_firstInOrder l D ax ar ad cO H.size σ) (cwV 0 hts gX1_countThatWouldLeave_X1_firstInOrder rfl rfl rfl (by decide +kernel) ⟨Nat.le_of_ble_eq_true rfl, Nat.le_of_ble_eq_true rfl⟩) (xPreV xE_ok hE hK hA hP hD hS (q0 := 0) (ci := 1) rfl rfl rfl) rfl rfl hl.1 rfl (lv_room (Nat.le_of_ble_eq_true rfl)) dX1_countThatWouldLeave_8 ⟨Nat.le_of_ble_eq_true rfl, Nat.le_of_ble_eq_true rfl⟩) hD hS hA (fun r u H locs hp hP hD hS => ?_)
  obtain ⟨rfl, hu9⟩ := hp
  rw [hu9] at hP hD
  refine x_astoreQ (lv' := [(4, va_rf ((nxt σ none).map ad)), (3, .int 0), (2, .int (notO σ)), (0, .ref ax), (1, .int sz9)]) hx hb dX1_countThatWouldLeave_11 hl (by decide) rfl (fun ls hl => ?_)
  refine lv_iconst (v := 0) hx hb dX1_countThatWouldLeave_13 (by decide) ?_
  refine lv_istore (lv' := [(5, .int 0), (4, va_rf ((nxt σ none).map ad)), (3, .int 0), (2, .int (notO σ)), (0, .ref ax), (1, .int sz9)]) hx hb dX1_countThatWouldLeave_14 hl (by decide) (by cases (nxt σ none) <;> rfl) (fun ls hl => ?_)
  obtain ⟨-, hN1, hN2, hN3⟩ := stopN_spec (wlOk σ sz9) 32 0
  have hN1 : wlE σ sz9 ≤ 32 := by have h := hN1; unfold wlE; omega
  have hN2 : ∀ j, j < wlE σ sz9 → wlOk σ sz9 j = true := fun j h => hN2 j (Nat.zero_le _) h
  have hN3 : wlE σ sz9 = 32 ∨ wlOk σ sz9 (wlE σ sz9) = false := by rw [Nat.zero_add] at hN3; exact hN3
  have loop : ∀ (n j : Nat) (ls : Array Slot) (H : Heap) (locs : List Loc), j ≤ wlE σ sz9 → wlE σ sz9 - j < n → va_P D vwCl (cW ax ar ad cO σ) H → va_D A (cW ax ar ad cO σ) → va_S A s.heap H locs → lv_has ls 6 [(0, .ref ax), (1, .int sz9), (2, .int ((wlI σ j).1)), (3, .int ((wlI σ j).2.1)), (4, va_rf (((wlI σ j).2.2).map ad)), (5, .int (nI j))] → W p l e (headSpec wsX1_countThatWouldLeave ({ frames := 3, cells := 0, slots := 0, locals := 90 } : Room)).room s m [.ref ax, .int sz9].toArray below meth c H locs 0 0 (MQ below (va_Qi (fun (r : Int32) (u : St) => r = cCount σ sz9 ∧ u = σ) (xB D (cT cO) (cW ax ar ad cO) A) A) [.ref ax, .int sz9].toArray s 0 0 A) (F0 m 16 ls []) := by
    intro n
    induction n with
    | zero =>
      intro j ls H locs h1 h2
      exact absurd h2 (by omega)
    | succ n ih =>
      intro j ls H locs hj hn hP hD hS hl
      have hj32 : j ≤ 32 := Nat.le_trans hj hN1
      refine lv_iload hx hb dX1_countThatWouldLeave_16 (lv_at hl 5 rfl) ?_
      refine lv_bipush (v := 32) hx hb dX1_countThatWouldLeave_18 (by decide) ?_
      refine x_icmp_ge (tgt := 72) hx hb dX1_countThatWouldLeave_20 (by decide) (fun c_1 => ?_) (fun c_1 => ?_)
      · have hjN : j = wlE σ sz9 := by
          rcases Nat.lt_or_ge j (wlE σ sz9) with q | q
          · exact absurd ((nI_lt32 hj32).mpr (Nat.lt_of_lt_of_le q hN1)) c_1
          · omega
        refine lv_iload_n hx hb dX1_countThatWouldLeave_72 rfl (lv_at hl 3 rfl) ?_
        exact x_iret hx hb hr hlocks hK (σ) hP hD hS ⟨by rw [cCount, ← hjN], rfl⟩ dX1_countThatWouldLeave_73
      · refine x_aloadQ hx hb dX1_countThatWouldLeave_23 (lv_at hl 4 rfl) ?_
        refine x_ifnullQ (tgt := 72) hx hb dX1_countThatWouldLeave_25 (by decide) (fun c_2 => ?_) (fun k_3 c_2 => ?_)
        · have hjN : j = wlE σ sz9 := by
            rcases Nat.lt_or_ge j (wlE σ sz9) with q | q
            · have h9 := hN2 j q
              rw [wlOk, c_2] at h9
              simp at h9
            · omega
          refine lv_iload_n hx hb dX1_countThatWouldLeave_72 rfl (lv_at hl 3 rfl) ?_
          exact x_iret hx hb hr hlocks hK (σ) hP hD hS ⟨by rw [cCount, ← hjN], rfl⟩ dX1_countThatWouldLeave_73
        · have hk_3 : k_3 < 32 := wlI_lt c_2
          refine lv_iload_n hx hb dX1_countThatWouldLeave_28 rfl (lv_at hl 2 rfl) ?_
          refine lv_aload_n hx hb dX1_countThatWouldLeave_29 rfl (lv_at hl 0 rfl) ?_
          refine c_get hx hb hts hi1 hown hK hP 3 (by decide) (List.mem_of_getElem? (i := 1) rfl) (v := .int (gI σ 3)) rfl dX1_countThatWouldLeave_30 (fun _ h => h) ?_
          refine lv_iload_n hx hb dX1_countThatWouldLeave_33 rfl (lv_at hl 1 rfl) ?_
          refine lv_isub hx hb dX1_countThatWouldLeave_34 ?_
          refine x_icmp_le (tgt := 72) hx hb dX1_countThatWouldLeave_35 (by decide) (fun c_4 => ?_) (fun c_4 => ?_)
          · have hjN : j = wlE σ sz9 := by
              rcases Nat.lt_or_ge j (wlE σ sz9) with q | q
              · have h9 := hN2 j q
                rw [wlOk, c_2] at h9
                simp [c_4] at h9
              · omega
            refine lv_iload_n hx hb dX1_countThatWouldLeave_72 rfl (lv_at hl 3 rfl) ?_
            exact x_iret hx hb hr hlocks hK (σ) hP hD hS ⟨by rw [cCount, ← hjN], rfl⟩ dX1_countThatWouldLeave_73
          · refine lv_aload_n hx hb dX1_countThatWouldLeave_38 rfl (lv_at hl 0 rfl) ?_
            refine x_aloadQ hx hb dX1_countThatWouldLeave_39 (lv_at hl 4 rfl) ?_
            refine W.eq (g2 := F0 m 41 ls [.ref (ad k_3), .ref ax]) (by rw [c_2]; rfl) ?_
            refine x_calli (va_runV (As := [.ref (ad k_3)]) (rest := []) ⟨hx, hb, hml, hown, hts⟩ (k_X1_hasEnded l D ax ar ad cO H.size σ hk_3) (cwV 1 hts gX1_countThatWouldLeave_X1_hasEnded rfl rfl rfl (by decide +kernel) ⟨Nat.le_of_ble_eq_true rfl, Nat.le_of_ble_eq_true rfl⟩) (xPreV xE_ok hE hK hA hP hD hS (q0 := 0) (ci := 1) rfl rfl rfl) rfl rfl hl.1 rfl (lv_room (Nat.le_of_ble_eq_true rfl)) dX1_countThatWouldLeave_41 ⟨Nat.le_of_ble_eq_true rfl, Nat.le_of_ble_eq_true rfl⟩) hD hS hA (fun r u H locs hp hP hD hS => ?_)
            obtain ⟨rfl, hu9⟩ := hp
            rw [hu9] at hP hD
            refine x_ifne (tgt := 58) hx hb dX1_countThatWouldLeave_44 (by decide) (fun c_5 => ?_) (fun c_5 => ?_)
            · refine lv_aload_n hx hb dX1_countThatWouldLeave_58 rfl (lv_at hl 0 rfl) ?_
              refine x_aloadQ hx hb dX1_countThatWouldLeave_59 (lv_at hl 4 rfl) ?_
              refine W.eq (g2 := F0 m 61 ls [.ref (ad k_3), .ref ax]) (by rw [c_2]; rfl) ?_
              refine x_callq (va_runV (As := [.ref (ad k_3)]) (rest := []) ⟨hx, hb, hml, hown, hts⟩ (k_X1_nextInOrder l D ax ar ad cO H.size σ (some k_3) (fun _ h => by cases h; exact hk_3)) (cwV 1 hts gX1_countThatWouldLeave_X1_nextInOrder rfl rfl rfl (by decide +kernel) ⟨Nat.le_of_ble_eq_true rfl, Nat.le_of_ble_eq_true rfl⟩) (xPreV xE_ok hE hK hA hP hD hS (q0 := 0) (ci := 1) rfl rfl rfl) rfl rfl hl.1 rfl (lv_room (Nat.le_of_ble_eq_true rfl)) dX1_countThatWouldLeave_61 ⟨Nat.le_of_ble_eq_true rfl, Nat.le_of_ble_eq_true rfl⟩) hD hS hA (fun r u H locs hp hP hD hS => ?_)
              obtain ⟨rfl, hu9⟩ := hp
              rw [hu9] at hP hD
              refine x_astoreQ (lv' := [(4, va_rf ((nxt σ (some k_3)).map ad)), (0, .ref ax), (1, .int sz9), (2, .int ((wlI σ j).1)), (3, .int ((wlI σ j).2.1)), (5, .int (nI j))]) hx hb dX1_countThatWouldLeave_64 hl (by decide) rfl (fun ls hl => ?_)
              refine lv_iinc (v := (nI j) + 1) (lv' := [(5, .int ((nI j) + 1)), (4, va_rf ((nxt σ (some k_3)).map ad)), (0, .ref ax), (1, .int sz9), (2, .int ((wlI σ j).1)), (3, .int ((wlI σ j).2.1))]) hx hb dX1_countThatWouldLeave_66 hl (k := 5) rfl rfl (by decide) (by cases (nxt σ (some k_3)) <;> rfl) (fun ls hl => ?_)
              refine lv_goto (tgt := 16) hx hb dX1_countThatWouldLeave_69 (by decide) ?_
              have hlt : j < wlE σ sz9 := by
                rcases Nat.lt_or_ge j (wlE σ sz9) with q | q
                · exact q
                · have hjN : j = wlE σ sz9 := by omega
                  rcases hN3 with h9 | h9
                  · exact absurd ((nI_lt32 hj32).mp c_1) (by omega)
                  · rw [← hjN, wlOk, c_2] at h9
                    simp [c_4] at h9
              have e9 : wlI σ (j + 1) = ((wlI σ j).1, (wlI σ j).2.1, nxt σ (some k_3)) := by
                rw [wlI_s, c_2]
                simp [c_5]
              exact ih (j + 1) ls H locs hlt (by omega) hP hD hS (by rw [nI_succ, e9]; exact lv_sub hl [2, 3, 4, 5, 1, 0] rfl)
            · refine lv_iload_n hx hb dX1_countThatWouldLeave_47 rfl (lv_at hl 2 rfl) ?_
              refine x_aloadQ hx hb dX1_countThatWouldLeave_48 (lv_at hl 4 rfl) ?_
              refine W.eq (g2 := F0 m 50 ls [.ref (ad k_3), .int ((wlI σ j).1)]) (by rw [c_2]; rfl) ?_
              refine s_get hx hb hts hi0 hown hK hE hP hk_3 3 (by decide) rfl (v := .int (gS σ 3 k_3)) rfl dX1_countThatWouldLeave_50 (fun _ h => h) ?_
              refine lv_isub hx hb dX1_countThatWouldLeave_53 ?_
              refine lv_istore_n (lv' := [(2, .int (((wlI σ j).1) - (gS σ 3 k_3))), (0, .ref ax), (1, .int sz9), (3, .int ((wlI σ j).2.1)), (4, va_rf (((wlI σ j).2.2).map ad)), (5, .int (nI j))]) hx hb dX1_countThatWouldLeave_54 rfl hl (by decide) rfl (fun ls hl => ?_)
              refine lv_iinc (v := ((wlI σ j).2.1) + 1) (lv' := [(3, .int (((wlI σ j).2.1) + 1)), (2, .int (((wlI σ j).1) - (gS σ 3 k_3))), (0, .ref ax), (1, .int sz9), (4, va_rf (((wlI σ j).2.2).map ad)), (5, .int (nI j))]) hx hb dX1_countThatWouldLeave_55 hl (k := 3) rfl rfl (by decide) rfl (fun ls hl => ?_)
              refine lv_aload_n hx hb dX1_countThatWouldLeave_58 rfl (lv_at hl 2 rfl) ?_
              refine x_aloadQ hx hb dX1_countThatWouldLeave_59 (lv_at hl 4 rfl) ?_
              refine W.eq (g2 := F0 m 61 ls [.ref (ad k_3), .ref ax]) (by rw [c_2]; rfl) ?_
              refine x_callq (va_runV (As := [.ref (ad k_3)]) (rest := []) ⟨hx, hb, hml, hown, hts⟩ (k_X1_nextInOrder l D ax ar ad cO H.size σ (some k_3) (fun _ h => by cases h; exact hk_3)) (cwV 1 hts gX1_countThatWouldLeave_X1_nextInOrder rfl rfl rfl (by decide +kernel) ⟨Nat.le_of_ble_eq_true rfl, Nat.le_of_ble_eq_true rfl⟩) (xPreV xE_ok hE hK hA hP hD hS (q0 := 0) (ci := 1) rfl rfl rfl) rfl rfl hl.1 rfl (lv_room (Nat.le_of_ble_eq_true rfl)) dX1_countThatWouldLeave_61 ⟨Nat.le_of_ble_eq_true rfl, Nat.le_of_ble_eq_true rfl⟩) hD hS hA (fun r u H locs hp hP hD hS => ?_)
              obtain ⟨rfl, hu9⟩ := hp
              rw [hu9] at hP hD
              refine x_astoreQ (lv' := [(4, va_rf ((nxt σ (some k_3)).map ad)), (3, .int (((wlI σ j).2.1) + 1)), (2, .int (((wlI σ j).1) - (gS σ 3 k_3))), (0, .ref ax), (1, .int sz9), (5, .int (nI j))]) hx hb dX1_countThatWouldLeave_64 hl (by decide) rfl (fun ls hl => ?_)
              refine lv_iinc (v := (nI j) + 1) (lv' := [(5, .int ((nI j) + 1)), (4, va_rf ((nxt σ (some k_3)).map ad)), (3, .int (((wlI σ j).2.1) + 1)), (2, .int (((wlI σ j).1) - (gS σ 3 k_3))), (0, .ref ax), (1, .int sz9)]) hx hb dX1_countThatWouldLeave_66 hl (k := 5) rfl rfl (by decide) (by cases (nxt σ (some k_3)) <;> rfl) (fun ls hl => ?_)
              refine lv_goto (tgt := 16) hx hb dX1_countThatWouldLeave_69 (by decide) ?_
              have hlt : j < wlE σ sz9 := by
                rcases Nat.lt_or_ge j (wlE σ sz9) with q | q
                · exact q
                · have hjN : j = wlE σ sz9 := by omega
                  rcases hN3 with h9 | h9
                  · exact absurd ((nI_lt32 hj32).mp c_1) (by omega)
                  · rw [← hjN, wlOk, c_2] at h9
                    simp [c_4] at h9
              have e9 : wlI σ (j + 1) = (((wlI σ j).1) - (gS σ 3 k_3), ((wlI σ j).2.1) + 1, nxt σ (some k_3)) := by
                rw [wlI_s, c_2]
                simp [c_5]
              exact ih (j + 1) ls H locs hlt (by omega) hP hD hS (by rw [nI_succ, e9]; exact lv_sub hl [4, 5, 3, 2, 1, 0] rfl)
  exact loop (wlE σ sz9 + 1) 0 _ _ _ (Nat.zero_le _) (by omega) hP hD hS (lv_sub hl [4, 5, 3, 2, 1, 0] rfl)
set_option maxHeartbeats 4000000 in
set_option maxRecDepth 100000 in
theorem k_X1_makeRoom (l : Launch) (D : va_G) (ax ar : Nat) (ad : Nat → Nat) (cO : ClassId) (sz : Nat) (σ : St) (sz9 : Int32) : Met l yX1_makeRoom wsX1_makeRoom ({ frames := 4, cells := 0, slots := 0, locals := 120 } : Room) (va_Pc [.ref ax, .int sz9] (xPre D (cT cO) xE (cW ax ar ad cO) σ sz)) (va_Qi (fun (r : Int32) (u : St) => r = bI (cRoom σ sz9).1 ∧ u = (cRoom σ sz9).2) (xB D (cT cO) (cW ax ar ad cO) (va_A (cW ax ar ad cO σ) sz)) (va_A (cW ax ar ad cO σ) sz)) 0 0 (va_A (cW ax ar ad cO σ) sz) := by
  refine xOpen (w := (cW ax ar ad cO)) (σ := σ) (cc := cX1_makeRoom) (maxL := 2) (ret := some .boolean) (QQ := fun A => va_Qi (fun (r : Int32) (u : St) => r = bI (cRoom σ sz9).1 ∧ u = (cRoom σ sz9).2) (xB D (cT cO) (cW ax ar ad cO) A) A) (by decide) rfl (Nat.le_of_ble_eq_true rfl) ?_
  intro p e s m below meth c A hx hb hr hml hown hts hlocks hname hK hE hA hP hD hS ls hl
  have hl : lv_has ls 2 [(0, .ref ax), (1, .int sz9)] := hl
  have hown : s.vm.findClass RX1 = some m.cls := hown
  have hi0 : ∀ w ∈ wsX00, w ∈ wsX1_makeRoom := (fun _ h => List.mem_cons_of_mem _ (List.mem_append_right _ h))
  have hi1 : ∀ w ∈ wsX10, w ∈ wsX1_makeRoom := (fun _ h => List.mem_cons_of_mem _ (List.mem_append_left _ (List.mem_append_right _ h)))
  generalize hH : s.heap = H at hP
  have hS : va_S A s.heap H [] := by rw [← hH]; exact va_S.rf
  generalize hlo : ([] : List Loc) = locs at hS
  refine lv_aload_n hx hb dX1_makeRoom_0 rfl (lv_at hl 0 rfl) ?_
  refine lv_iload_n hx hb dX1_makeRoom_1 rfl (lv_at hl 1 rfl) ?_
  refine x_calli (va_runV (As := [.int sz9]) (rest := []) ⟨hx, hb, hml, hown, hts⟩ (k_X1_hasRoom l D ax ar ad cO H.size σ sz9) (cwV 1 hts gX1_makeRoom_X1_hasRoom rfl rfl rfl (by decide +kernel) ⟨Nat.le_of_ble_eq_true rfl, Nat.le_of_ble_eq_true rfl⟩) (xPreV xE_ok hE hK hA hP hD hS (q0 := 0) (ci := 1) rfl rfl rfl) rfl rfl hl.1 rfl (lv_room (Nat.le_of_ble_eq_true rfl)) dX1_makeRoom_2 ⟨Nat.le_of_ble_eq_true rfl, Nat.le_of_ble_eq_true rfl⟩) hD hS hA (fun r u H locs hp hP hD hS => ?_)
  obtain ⟨rfl, hu9⟩ := hp
  rw [hu9] at hP hD
  refine x_ifeq (tgt := 10) hx hb dX1_makeRoom_5 (by decide) (fun c_1 => ?_) (fun c_1 => ?_)
  · refine lv_aload_n hx hb dX1_makeRoom_10 rfl (lv_at hl 0 rfl) ?_
    refine x_calli (va_runV (As := []) (rest := []) ⟨hx, hb, hml, hown, hts⟩ (k_X1_removeAllOver l D ax ar ad cO H.size σ) (cwV 0 hts gX1_makeRoom_X1_removeAllOver rfl rfl rfl (by decide +kernel) ⟨Nat.le_of_ble_eq_true rfl, Nat.le_of_ble_eq_true rfl⟩) (xPreV xE_ok hE hK hA hP hD hS (q0 := 0) (ci := 1) rfl rfl rfl) rfl rfl hl.1 rfl (lv_room (Nat.le_of_ble_eq_true rfl)) dX1_makeRoom_11 ⟨Nat.le_of_ble_eq_true rfl, Nat.le_of_ble_eq_true rfl⟩) hD hS hA (fun r u H locs hp hP hD hS => ?_)
    obtain ⟨rfl, hu9⟩ := hp
    rw [hu9] at hP hD
    refine lv_pop hx hb dX1_makeRoom_14 rfl ?_
    refine lv_iload_n hx hb dX1_makeRoom_15 rfl (lv_at hl 1 rfl) ?_
    refine lv_aload_n hx hb dX1_makeRoom_16 rfl (lv_at hl 0 rfl) ?_
    refine c_get hx hb hts hi1 hown hK hP 3 (by decide) (List.mem_of_getElem? (i := 1) rfl) (v := .int (gI (rmO σ) 3)) rfl dX1_makeRoom_17 (fun _ h => h) ?_
    refine lv_aload_n hx hb dX1_makeRoom_20 rfl (lv_at hl 0 rfl) ?_
    refine x_calli (va_runV (As := []) (rest := [.int (gI (rmO σ) 3), .int sz9]) ⟨hx, hb, hml, hown, hts⟩ (k_X1_bytesThatCannotLeave l D ax ar ad cO H.size (rmO σ)) (cwV 0 hts gX1_makeRoom_X1_bytesThatCannotLeave rfl rfl rfl (by decide +kernel) ⟨Nat.le_of_ble_eq_true rfl, Nat.le_of_ble_eq_true rfl⟩) (xPreV xE_ok hE hK hA hP hD hS (q0 := 0) (ci := 1) rfl rfl rfl) rfl rfl hl.1 rfl (lv_room (Nat.le_of_ble_eq_true rfl)) dX1_makeRoom_21 ⟨Nat.le_of_ble_eq_true rfl, Nat.le_of_ble_eq_true rfl⟩) hD hS hA (fun r u H locs hp hP hD hS => ?_)
    obtain ⟨rfl, hu9⟩ := hp
    rw [hu9] at hP hD
    refine lv_isub hx hb dX1_makeRoom_24 ?_
    refine x_icmp_le (tgt := 30) hx hb dX1_makeRoom_25 (by decide) (fun c_2 => ?_) (fun c_2 => ?_)
    · refine lv_aload_n hx hb dX1_makeRoom_30 rfl (lv_at hl 0 rfl) ?_
      refine lv_aload_n hx hb dX1_makeRoom_31 rfl (lv_at hl 0 rfl) ?_
      refine c_get hx hb hts hi1 hown hK hP 3 (by decide) (List.mem_of_getElem? (i := 1) rfl) (v := .int (gI (rmO σ) 3)) rfl dX1_makeRoom_32 (fun _ h => h) ?_
      refine lv_iload_n hx hb dX1_makeRoom_35 rfl (lv_at hl 1 rfl) ?_
      refine lv_isub hx hb dX1_makeRoom_36 ?_
      refine x_calli (va_runV (As := [.int ((gI (rmO σ) 3) - sz9)]) (rest := []) ⟨hx, hb, hml, hown, hts⟩ (k_X1_leaveDownTo l D ax ar ad cO H.size (rmO σ) ((gI (rmO σ) 3) - sz9)) (cwV 1 hts gX1_makeRoom_X1_leaveDownTo rfl rfl rfl (by decide +kernel) ⟨Nat.le_of_ble_eq_true rfl, Nat.le_of_ble_eq_true rfl⟩) (xPreV xE_ok hE hK hA hP hD hS (q0 := 0) (ci := 1) rfl rfl rfl) rfl rfl hl.1 rfl (lv_room (Nat.le_of_ble_eq_true rfl)) dX1_makeRoom_37 ⟨Nat.le_of_ble_eq_true rfl, Nat.le_of_ble_eq_true rfl⟩) hD hS hA (fun r u H locs hp hP hD hS => ?_)
      obtain ⟨rfl, hu9⟩ := hp
      rw [hu9] at hP hD
      refine lv_pop hx hb dX1_makeRoom_40 rfl ?_
      refine lv_iconst (v := 1) hx hb dX1_makeRoom_41 (by decide) ?_
      exact x_zret (b := true) hx hb hr hlocks hK (lvD ((gI (rmO σ) 3) - sz9) (rmO σ)) hP hD hS ⟨by simp [cRoom, c_1, c_2], by simp [cRoom, c_1, c_2]⟩ dX1_makeRoom_42
    · refine lv_iconst (v := 0) hx hb dX1_makeRoom_28 (by decide) ?_
      exact x_zret (b := false) hx hb hr hlocks hK (rmO σ) hP hD hS ⟨by simp [cRoom, c_1, c_2], by simp [cRoom, c_1, c_2]⟩ dX1_makeRoom_29
  · refine lv_iconst (v := 1) hx hb dX1_makeRoom_8 (by decide) ?_
    exact x_zret (b := true) hx hb hr hlocks hK (σ) hP hD hS ⟨by simp [cRoom, c_1], by simp [cRoom, c_1]⟩ dX1_makeRoom_9
set_option maxHeartbeats 4000000 in
set_option maxRecDepth 100000 in
theorem k_X1_letInIfPossible (l : Launch) (D : va_G) (ax ar : Nat) (ad : Nat → Nat) (cO : ClassId) (sz : Nat) (σ : St) {k : Nat} (sz9 pr lf : Int32) (hk : k < 32) : Met l yX1_letInIfPossible wsX1_letInIfPossible ({ frames := 5, cells := 0, slots := 0, locals := 150 } : Room) (va_Pc [.ref ax, .ref (ad k), .int sz9, .int pr, .int lf] (xPre D (cT cO) xE (cW ax ar ad cO) σ sz)) (va_Qi (fun (r : Int32) (u : St) => r = bI (cLetIn σ k sz9 pr lf).1 ∧ u = (cLetIn σ k sz9 pr lf).2) (xB D (cT cO) (cW ax ar ad cO) (va_A (cW ax ar ad cO σ) sz)) (va_A (cW ax ar ad cO σ) sz)) 0 0 (va_A (cW ax ar ad cO σ) sz) := by
  refine xOpen (w := (cW ax ar ad cO)) (σ := σ) (cc := cX1_letInIfPossible) (maxL := 6) (ret := some .boolean) (QQ := fun A => va_Qi (fun (r : Int32) (u : St) => r = bI (cLetIn σ k sz9 pr lf).1 ∧ u = (cLetIn σ k sz9 pr lf).2) (xB D (cT cO) (cW ax ar ad cO) A) A) (by decide) rfl (Nat.le_of_ble_eq_true rfl) ?_
  intro p e s m below meth c A hx hb hr hml hown hts hlocks hname hK hE hA hP hD hS ls hl
  have hl : lv_has ls 6 [(0, .ref ax), (1, .ref (ad k)), (2, .int sz9), (3, .int pr), (4, .int lf)] := hl
  have hown : s.vm.findClass RX1 = some m.cls := hown
  have hi0 : ∀ w ∈ wsX00, w ∈ wsX1_letInIfPossible := (fun _ h => List.mem_cons_of_mem _ (List.mem_append_right _ h))
  have hi1 : ∀ w ∈ wsX10, w ∈ wsX1_letInIfPossible := (fun _ h => List.mem_cons_of_mem _ (List.mem_append_left _ (List.mem_append_right _ h)))
  generalize hH : s.heap = H at hP
  have hS : va_S A s.heap H [] := by rw [← hH]; exact va_S.rf
  generalize hlo : ([] : List Loc) = locs at hS
  refine lv_aload_n hx hb dX1_letInIfPossible_0 rfl (lv_at hl 0 rfl) ?_
  refine lv_aload_n hx hb dX1_letInIfPossible_1 rfl (lv_at hl 1 rfl) ?_
  refine x_calli (va_runV (As := [.ref (ad k)]) (rest := []) ⟨hx, hb, hml, hown, hts⟩ (k_X1_wasMissedLately l D ax ar ad cO H.size σ hk) (cwV 1 hts gX1_letInIfPossible_X1_wasMissedLately rfl rfl rfl (by decide +kernel) ⟨Nat.le_of_ble_eq_true rfl, Nat.le_of_ble_eq_true rfl⟩) (xPreV xE_ok hE hK hA hP hD hS (q0 := 0) (ci := 1) rfl rfl rfl) rfl rfl hl.1 rfl (lv_room (Nat.le_of_ble_eq_true rfl)) dX1_letInIfPossible_2 ⟨Nat.le_of_ble_eq_true rfl, Nat.le_of_ble_eq_true rfl⟩) hD hS hA (fun r u H locs hp hP hD hS => ?_)
  obtain ⟨rfl, hu9⟩ := hp
  rw [hu9] at hP hD
  refine lv_istore (lv' := [(5, .int (bI (cLate σ k))), (0, .ref ax), (1, .ref (ad k)), (2, .int sz9), (3, .int pr), (4, .int lf)]) hx hb dX1_letInIfPossible_5 hl (by decide) rfl (fun ls hl => ?_)
  refine lv_aload_n hx hb dX1_letInIfPossible_7 rfl (lv_at hl 2 rfl) ?_
  refine lv_aload_n hx hb dX1_letInIfPossible_8 rfl (lv_at hl 1 rfl) ?_
  refine c_get hx hb hts hi1 hown hK hP 1 (by decide) (List.mem_of_getElem? (i := 1) rfl) (v := .int (gI σ 1)) rfl dX1_letInIfPossible_9 (fun _ h => h) ?_
  refine s_put hx hb hts hi0 hown hK hE hP hD hS hk 8 (by decide) rfl (v := .int (gI σ 1)) (ty := .int) (uS σ 8 k (gI σ 1)) ((sF_self σ k).2.2.2.1 _) (fun i9 hi9 => (sF_other σ hi9).2.2.2.1 _) (cF_uS _ _ _ _ _) rfl (by decide +kernel) rfl rfl dX1_letInIfPossible_12 (fun _ h => h) (fun H locs hP hD hS => ?_)
  refine lv_aload_n hx hb dX1_letInIfPossible_15 rfl (lv_at hl 1 rfl) ?_
  refine lv_aload_n hx hb dX1_letInIfPossible_16 rfl (lv_at hl 2 rfl) ?_
  refine x_callv (va_runV (As := [.ref (ad k)]) (rest := []) ⟨hx, hb, hml, hown, hts⟩ (k_X1_removeOwn l D ax ar ad cO H.size (uS σ 8 k (gI σ 1)) hk) (cwV 1 hts gX1_letInIfPossible_X1_removeOwn rfl rfl rfl (by decide +kernel) ⟨Nat.le_of_ble_eq_true rfl, Nat.le_of_ble_eq_true rfl⟩) (xPreV xE_ok hE hK hA hP hD hS (q0 := 0) (ci := 1) rfl rfl rfl) rfl rfl hl.1 rfl (lv_room (Nat.le_of_ble_eq_true rfl)) dX1_letInIfPossible_17 ⟨Nat.le_of_ble_eq_true rfl, Nat.le_of_ble_eq_true rfl⟩) hD hS hA (fun u H locs hp hP hD hS => ?_)
  rw [hp] at hP hD
  refine lv_iload_n hx hb dX1_letInIfPossible_20 rfl (lv_at hl 3 rfl) ?_
  refine lv_aload_n hx hb dX1_letInIfPossible_21 rfl (lv_at hl 1 rfl) ?_
  refine c_get hx hb hts hi1 hown hK hP 3 (by decide) (List.mem_of_getElem? (i := 2) rfl) (v := .int (gI (cRmOwn (uS σ 8 k (gI σ 1)) k) 3)) rfl dX1_letInIfPossible_22 (fun _ h => h) ?_
  refine lv_icmp_gt (tgt := 49) hx hb dX1_letInIfPossible_25 (by decide) (fun c_1 => ?_) (fun c_1 => ?_)
  · refine lv_iconst (v := 0) hx hb dX1_letInIfPossible_49 (by decide) ?_
    exact x_zret (b := false) hx hb hr hlocks hK (cRmOwn (uS σ 8 k (gI σ 1)) k) hP hD hS ⟨by simp [cLetIn, c_1], by simp [cLetIn, c_1]⟩ dX1_letInIfPossible_50
  · refine lv_iload_n hx hb dX1_letInIfPossible_28 rfl (lv_at hl 3 rfl) ?_
    refine lv_aload_n hx hb dX1_letInIfPossible_29 rfl (lv_at hl 1 rfl) ?_
    refine c_get hx hb hts hi1 hown hK hP 4 (by decide) (List.mem_of_getElem? (i := 3) rfl) (v := .int (gI (cRmOwn (uS σ 8 k (gI σ 1)) k) 4)) rfl dX1_letInIfPossible_30 (fun _ h => h) ?_
    refine x_icmp_le (tgt := 41) hx hb dX1_letInIfPossible_33 (by decide) (fun c_2 => ?_) (fun c_2 => ?_)
    · refine lv_aload_n hx hb dX1_letInIfPossible_41 rfl (lv_at hl 1 rfl) ?_
      refine lv_iload_n hx hb dX1_letInIfPossible_42 rfl (lv_at hl 3 rfl) ?_
      refine x_calli (va_runV (As := [.int sz9]) (rest := []) ⟨hx, hb, hml, hown, hts⟩ (k_X1_makeRoom l D ax ar ad cO H.size (cRmOwn (uS σ 8 k (gI σ 1)) k) sz9) (cwV 1 hts gX1_letInIfPossible_X1_makeRoom rfl rfl rfl (by decide +kernel) ⟨Nat.le_of_ble_eq_true rfl, Nat.le_of_ble_eq_true rfl⟩) (xPreV xE_ok hE hK hA hP hD hS (q0 := 0) (ci := 1) rfl rfl rfl) rfl rfl hl.1 rfl (lv_room (Nat.le_of_ble_eq_true rfl)) dX1_letInIfPossible_43 ⟨Nat.le_of_ble_eq_true rfl, Nat.le_of_ble_eq_true rfl⟩) hD hS hA (fun r u H locs hp hP hD hS => ?_)
      obtain ⟨rfl, hu9⟩ := hp
      rw [hu9] at hP hD
      refine x_ifne (tgt := 51) hx hb dX1_letInIfPossible_46 (by decide) (fun c_3 => ?_) (fun c_3 => ?_)
      · refine lv_aload_n hx hb dX1_letInIfPossible_51 rfl (lv_at hl 1 rfl) ?_
        refine lv_aload_n hx hb dX1_letInIfPossible_52 rfl (lv_at hl 2 rfl) ?_
        refine lv_iload_n hx hb dX1_letInIfPossible_53 rfl (lv_at hl 3 rfl) ?_
        refine lv_iload_n hx hb dX1_letInIfPossible_54 rfl (lv_at hl 4 rfl) ?_
        refine lv_iload hx hb dX1_letInIfPossible_55 (lv_at hl 5 rfl) ?_
        refine x_callv (va_runV (As := [.ref (ad k), .int sz9, .int pr, .int lf]) (rest := []) ⟨hx, hb, hml, hown, hts⟩ (k_X1_fill l D ax ar ad cO H.size ((cRoom (cRmOwn (uS σ 8 k (gI σ 1)) k) sz9).2) sz9 pr lf hk) (cwV 4 hts gX1_letInIfPossible_X1_fill rfl rfl rfl (by decide +kernel) ⟨Nat.le_of_ble_eq_true rfl, Nat.le_of_ble_eq_true rfl⟩) (xPreV xE_ok hE hK hA hP hD hS (q0 := 0) (ci := 1) rfl rfl rfl) rfl rfl hl.1 rfl (lv_room (Nat.le_of_ble_eq_true rfl)) dX1_letInIfPossible_57 ⟨Nat.le_of_ble_eq_true rfl, Nat.le_of_ble_eq_true rfl⟩) hD hS hA (fun u H locs hp hP hD hS => ?_)
        rw [hp] at hP hD
        refine lv_iconst (v := 1) hx hb dX1_letInIfPossible_60 (by decide) ?_
        exact x_zret (b := true) hx hb hr hlocks hK (cFill ((cRoom (cRmOwn (uS σ 8 k (gI σ 1)) k) sz9).2) k sz9 pr lf) hP hD hS ⟨by simp [cLetIn, c_1, c_2, c_3], by simp [cLetIn, c_1, c_2, c_3]⟩ dX1_letInIfPossible_61
      · refine lv_iconst (v := 0) hx hb dX1_letInIfPossible_49 (by decide) ?_
        exact x_zret (b := false) hx hb hr hlocks hK ((cRoom (cRmOwn (uS σ 8 k (gI σ 1)) k) sz9).2) hP hD hS ⟨by simp [cLetIn, c_1, c_2, c_3], by simp [cLetIn, c_1, c_2, c_3]⟩ dX1_letInIfPossible_50
    · refine lv_iload hx hb dX1_letInIfPossible_36 (lv_at hl 0 rfl) ?_
      refine x_ifeq (tgt := 49) hx hb dX1_letInIfPossible_38 (by decide) (fun c_4 => ?_) (fun c_4 => ?_)
      · refine lv_iconst (v := 0) hx hb dX1_letInIfPossible_49 (by decide) ?_
        exact x_zret (b := false) hx hb hr hlocks hK (cRmOwn (uS σ 8 k (gI σ 1)) k) hP hD hS ⟨by simp [cLetIn, c_1, c_2, c_4], by simp [cLetIn, c_1, c_2, c_4]⟩ dX1_letInIfPossible_50
      · refine lv_aload_n hx hb dX1_letInIfPossible_41 rfl (lv_at hl 1 rfl) ?_
        refine lv_iload_n hx hb dX1_letInIfPossible_42 rfl (lv_at hl 3 rfl) ?_
        refine x_calli (va_runV (As := [.int sz9]) (rest := []) ⟨hx, hb, hml, hown, hts⟩ (k_X1_makeRoom l D ax ar ad cO H.size (cRmOwn (uS σ 8 k (gI σ 1)) k) sz9) (cwV 1 hts gX1_letInIfPossible_X1_makeRoom rfl rfl rfl (by decide +kernel) ⟨Nat.le_of_ble_eq_true rfl, Nat.le_of_ble_eq_true rfl⟩) (xPreV xE_ok hE hK hA hP hD hS (q0 := 0) (ci := 1) rfl rfl rfl) rfl rfl hl.1 rfl (lv_room (Nat.le_of_ble_eq_true rfl)) dX1_letInIfPossible_43 ⟨Nat.le_of_ble_eq_true rfl, Nat.le_of_ble_eq_true rfl⟩) hD hS hA (fun r u H locs hp hP hD hS => ?_)
        obtain ⟨rfl, hu9⟩ := hp
        rw [hu9] at hP hD
        refine x_ifne (tgt := 51) hx hb dX1_letInIfPossible_46 (by decide) (fun c_5 => ?_) (fun c_5 => ?_)
        · refine lv_aload_n hx hb dX1_letInIfPossible_51 rfl (lv_at hl 1 rfl) ?_
          refine lv_aload_n hx hb dX1_letInIfPossible_52 rfl (lv_at hl 2 rfl) ?_
          refine lv_iload_n hx hb dX1_letInIfPossible_53 rfl (lv_at hl 3 rfl) ?_
          refine lv_iload_n hx hb dX1_letInIfPossible_54 rfl (lv_at hl 4 rfl) ?_
          refine lv_iload hx hb dX1_letInIfPossible_55 (lv_at hl 5 rfl) ?_
          refine x_callv (va_runV (As := [.ref (ad k), .int sz9, .int pr, .int lf]) (rest := []) ⟨hx, hb, hml, hown, hts⟩ (k_X1_fill l D ax ar ad cO H.size ((cRoom (cRmOwn (uS σ 8 k (gI σ 1)) k) sz9).2) sz9 pr lf hk) (cwV 4 hts gX1_letInIfPossible_X1_fill rfl rfl rfl (by decide +kernel) ⟨Nat.le_of_ble_eq_true rfl, Nat.le_of_ble_eq_true rfl⟩) (xPreV xE_ok hE hK hA hP hD hS (q0 := 0) (ci := 1) rfl rfl rfl) rfl rfl hl.1 rfl (lv_room (Nat.le_of_ble_eq_true rfl)) dX1_letInIfPossible_57 ⟨Nat.le_of_ble_eq_true rfl, Nat.le_of_ble_eq_true rfl⟩) hD hS hA (fun u H locs hp hP hD hS => ?_)
          rw [hp] at hP hD
          refine lv_iconst (v := 1) hx hb dX1_letInIfPossible_60 (by decide) ?_
          exact x_zret (b := true) hx hb hr hlocks hK (cFill ((cRoom (cRmOwn (uS σ 8 k (gI σ 1)) k) sz9).2) k sz9 pr lf) hP hD hS ⟨by simp [cLetIn, c_1, c_2, c_4, c_5], by simp [cLetIn, c_1, c_2, c_4, c_5]⟩ dX1_letInIfPossible_61
        · refine lv_iconst (v := 0) hx hb dX1_letInIfPossible_49 (by decide) ?_
          exact x_zret (b := false) hx hb hr hlocks hK ((cRoom (cRmOwn (uS σ 8 k (gI σ 1)) k) sz9).2) hP hD hS ⟨by simp [cLetIn, c_1, c_2, c_4, c_5], by simp [cLetIn, c_1, c_2, c_4, c_5]⟩ dX1_letInIfPossible_50
end
section
set_option maxHeartbeats 4000000 in
set_option maxRecDepth 100000 in
theorem k_X1_requireWithin (l : Launch) (D : va_G) (ax ar : Nat) (ad : Nat → Nat) (cO : ClassId) (sz : Nat) (σ : St) (t a b : Int32) (hfl : l.stackTraces = false) : vx_Met l yX1_requireWithin wsX1_requireWithin ({ frames := 6, cells := 1, slots := 6, locals := 90 } : Room) (va_Pc [.int t, .int a, .int b] (xPre D (cT cO) xE (cW ax ar ad cO) σ sz)) (va_Qv (fun (u : St) => inR t a b = true ∧ u = σ) (xB D (cT cO) (cW ax ar ad cO) (va_A (cW ax ar ad cO σ) sz)) (va_A (cW ax ar ad cO σ) sz)) (xXC D (cT cO) (cW ax ar ad cO) (va_A (cW ax ar ad cO σ) sz) σ (fun En => En = xIA ∧ inR t a b = false)) 1 6 (va_A (cW ax ar ad cO σ) sz) := by
  refine xxOpen (w := (cW ax ar ad cO)) (σ := σ) (cc := cX1_requireWithin) (maxL := 3) (ret := none) (QQ := fun A => va_Qv (fun (u : St) => inR t a b = true ∧ u = σ) (xB D (cT cO) (cW ax ar ad cO) A) A) (XX := fun A => xXC D (cT cO) (cW ax ar ad cO) A σ (fun En => En = xIA ∧ inR t a b = false)) (by decide) rfl (Nat.le_of_ble_eq_true rfl) ?_
  intro p e s m below meth c A hx hb hr hml hown hts hlocks htab hK hE hA hP hD hS ls hl
  have hl : lv_has ls 3 [(0, .int t), (1, .int a), (2, .int b)] := hl
  have hown : s.vm.findClass RX1 = some m.cls := hown
  generalize hH : s.heap = H at hP
  have hS : va_S A s.heap H [] := by rw [← hH]; exact va_S.rf
  generalize hlo : ([] : List Loc) = locs at hS
  refine lv_iload_n hx hb dX1_requireWithin_0 rfl (lv_at hl 0 rfl) ?_
  refine lv_iload_n hx hb dX1_requireWithin_1 rfl (lv_at hl 1 rfl) ?_
  refine lv_icmp_lt (tgt := 10) hx hb dX1_requireWithin_2 (by decide) (fun c_1 => ?_) (fun c_1 => ?_)
  · obtain ⟨sa, hsa⟩ := hE.1.2.1 (153, "an argument is out of its range") (List.mem_of_getElem? (i := 1) rfl)
    exact vx_throwS (A := A) (text := "an argument is out of its range") (names := ["java/lang/RuntimeException", "java/lang/Exception"]) (sa := sa) hx hb hfl hown (by decide +kernel) (by decide +kernel) (hts _ (List.mem_of_getElem? (i := 1) rfl)) (hts _ (List.mem_of_getElem? (i := 2) rfl)) hsa (hat_IA (fun w h => hts w (List.mem_cons_of_mem _ (List.mem_append_right _ h))) hE.1) hgd_IA hE.2.1 hE.2.2 hS (hl.1.trans hml.symm) dX1_requireWithin_10 dX1_requireWithin_13 dX1_requireWithin_14 dX1_requireWithin_16 dX1_requireWithin_19 (fun x hx => (htab x hx).elim) (Nat.le_of_ble_eq_true rfl) (Nat.le_of_ble_eq_true rfl) (Nat.le_of_ble_eq_true rfl) (Nat.le_of_ble_eq_true rfl) hlocks (fun t9 hvm9 hz9 hk9 => x_thr hK hP hD hS (⟨rfl, by simp [inR, c_1]⟩) hvm9 hz9 hk9) hS.2.2 (Nat.le_of_ble_eq_true rfl) (Nat.le_of_ble_eq_true rfl)
  · refine lv_iload_n hx hb dX1_requireWithin_5 rfl (lv_at hl 0 rfl) ?_
    refine lv_iload_n hx hb dX1_requireWithin_6 rfl (lv_at hl 2 rfl) ?_
    refine x_icmp_le (tgt := 20) hx hb dX1_requireWithin_7 (by decide) (fun c_2 => ?_) (fun c_2 => ?_)
    · refine vx_ret ?_
      refine W.widen (k := 1) (n := 6) (by decide) (by decide) ?_
      exact x_vret hx hb hr hlocks hK (σ) hP hD hS ⟨by simp [inR, c_1, c_2], rfl⟩ dX1_requireWithin_20
    · obtain ⟨sa, hsa⟩ := hE.1.2.1 (153, "an argument is out of its range") (List.mem_of_getElem? (i := 1) rfl)
      exact vx_throwS (A := A) (text := "an argument is out of its range") (names := ["java/lang/RuntimeException", "java/lang/Exception"]) (sa := sa) hx hb hfl hown (by decide +kernel) (by decide +kernel) (hts _ (List.mem_of_getElem? (i := 1) rfl)) (hts _ (List.mem_of_getElem? (i := 2) rfl)) hsa (hat_IA (fun w h => hts w (List.mem_cons_of_mem _ (List.mem_append_right _ h))) hE.1) hgd_IA hE.2.1 hE.2.2 hS (hl.1.trans hml.symm) dX1_requireWithin_10 dX1_requireWithin_13 dX1_requireWithin_14 dX1_requireWithin_16 dX1_requireWithin_19 (fun x hx => (htab x hx).elim) (Nat.le_of_ble_eq_true rfl) (Nat.le_of_ble_eq_true rfl) (Nat.le_of_ble_eq_true rfl) (Nat.le_of_ble_eq_true rfl) hlocks (fun t9 hvm9 hz9 hk9 => x_thr hK hP hD hS (⟨rfl, by simp [inR, c_1, c_2]⟩) hvm9 hz9 hk9) hS.2.2 (Nat.le_of_ble_eq_true rfl) (Nat.le_of_ble_eq_true rfl)
set_option maxHeartbeats 4000000 in
set_option maxRecDepth 100000 in
theorem k_X1_slotOf (l : Launch) (D : va_G) (ax ar : Nat) (ad : Nat → Nat) (cO : ClassId) (sz : Nat) (σ : St) (t : Int32) (hfl : l.stackTraces = false) : vx_Met l yX1_slotOf wsX1_slotOf ({ frames := 6, cells := 1, slots := 6, locals := 90 } : Room) (va_Pc [.ref ax, .int t] (xPre D (cT cO) xE (cW ax ar ad cO) σ sz)) (va_Qq (fun (r : Option Nat) (u : St) => isT t = true ∧ (∀ k, k < 32 → t = nI k → r = some (ad k)) ∧ u = σ) (xB D (cT cO) (cW ax ar ad cO) (va_A (cW ax ar ad cO σ) sz)) (va_A (cW ax ar ad cO σ) sz)) (xXC D (cT cO) (cW ax ar ad cO) (va_A (cW ax ar ad cO σ) sz) σ (fun En => En = xIO ∧ isT t = false)) 1 6 (va_A (cW ax ar ad cO σ) sz) := by
  refine xxOpen (w := (cW ax ar ad cO)) (σ := σ) (cc := cX1_slotOf) (maxL := 2) (ret := some (.object "WorthCache$Slot")) (QQ := fun A => va_Qq (fun (r : Option Nat) (u : St) => isT t = true ∧ (∀ k, k < 32 → t = nI k → r = some (ad k)) ∧ u = σ) (xB D (cT cO) (cW ax ar ad cO) A) A) (XX := fun A => xXC D (cT cO) (cW ax ar ad cO) A σ (fun En => En = xIO ∧ isT t = false)) (by decide) rfl (Nat.le_of_ble_eq_true rfl) ?_
  intro p e s m below meth c A hx hb hr hml hown hts hlocks htab hK hE hA hP hD hS ls hl
  have hl : lv_has ls 2 [(0, .ref ax), (1, .int t)] := hl
  have hown : s.vm.findClass RX1 = some m.cls := hown
  have hi1 : ∀ w ∈ wsX10, w ∈ wsX1_slotOf := (fun _ h => List.mem_cons_of_mem _ (List.mem_append_left _ (List.mem_append_right _ h)))
  generalize hH : s.heap = H at hP
  have hS : va_S A s.heap H [] := by rw [← hH]; exact va_S.rf
  generalize hlo : ([] : List Loc) = locs at hS
  refine lv_iload_n hx hb dX1_slotOf_0 rfl (lv_at hl 1 rfl) ?_
  refine lv_if_lt (tgt := 13) hx hb dX1_slotOf_1 (by decide) (fun c_1 => ?_) (fun c_1 => ?_)
  · obtain ⟨sa, hsa⟩ := hE.1.2.1 (147, "no such thing") (List.mem_of_getElem? (i := 0) rfl)
    exact vx_throwS (A := A) (text := "no such thing") (names := ["java/lang/RuntimeException", "java/lang/Exception"]) (sa := sa) hx hb hfl hown (by decide +kernel) (by decide +kernel) (hts _ (List.mem_of_getElem? (i := 1) rfl)) (hts _ (List.mem_of_getElem? (i := 2) rfl)) hsa (hat_IO (fun w h => hts w (List.mem_cons_of_mem _ (List.mem_append_right _ h))) hE.1) hgd_IO hE.2.1 hE.2.2 hS (hl.1.trans hml.symm) dX1_slotOf_13 dX1_slotOf_16 dX1_slotOf_17 dX1_slotOf_19 dX1_slotOf_22 (fun x hx => (htab x hx).elim) (Nat.le_of_ble_eq_true rfl) (Nat.le_of_ble_eq_true rfl) (Nat.le_of_ble_eq_true rfl) (Nat.le_of_ble_eq_true rfl) hlocks (fun t9 hvm9 hz9 hk9 => x_thr hK hP hD hS (⟨rfl, by simp [isT, c_1]⟩) hvm9 hz9 hk9) hS.2.2 (Nat.le_of_ble_eq_true rfl) (Nat.le_of_ble_eq_true rfl)
  · refine lv_iload_n hx hb dX1_slotOf_4 rfl (lv_at hl 1 rfl) ?_
    refine lv_aload_n hx hb dX1_slotOf_5 rfl (lv_at hl 0 rfl) ?_
    refine c_get hx hb hts hi1 hown hK hP 0 (by decide) (List.mem_of_getElem? (i := 3) rfl) (v := .ref ar) rfl dX1_slotOf_6 (fun _ h => h) ?_
    refine c_alen hx hb hK hP dX1_slotOf_9 ?_
    refine lv_icmp_lt (tgt := 23) hx hb dX1_slotOf_10 (by decide) (fun c_2 => ?_) (fun c_2 => ?_)
    · have hT : isT t = true := by simp [isT, c_1, c_2]
      obtain ⟨k, hk, rfl⟩ := isT_nI hT
      refine lv_aload_n hx hb dX1_slotOf_23 rfl (lv_at hl 0 rfl) ?_
      refine c_get hx hb hts hi1 hown hK hP 0 (by decide) (List.mem_of_getElem? (i := 3) rfl) (v := .ref ar) rfl dX1_slotOf_24 (fun _ h => h) ?_
      refine lv_iload_n hx hb dX1_slotOf_27 rfl (lv_at hl 1 rfl) ?_
      refine c_aald hx hb hK hP hk dX1_slotOf_28 ?_
      refine vx_ret ?_
      refine W.widen (k := 1) (n := 6) (by decide) (by decide) ?_
      exact x_qret (r := some (ad k)) hx hb hr hlocks hK (σ) hP hD hS ⟨hT, fun j hj e => by rw [nI_inj32 hk hj e], rfl⟩ dX1_slotOf_29
    · obtain ⟨sa, hsa⟩ := hE.1.2.1 (147, "no such thing") (List.mem_of_getElem? (i := 0) rfl)
      exact vx_throwS (A := A) (text := "no such thing") (names := ["java/lang/RuntimeException", "java/lang/Exception"]) (sa := sa) hx hb hfl hown (by decide +kernel) (by decide +kernel) (hts _ (List.mem_of_getElem? (i := 1) rfl)) (hts _ (List.mem_of_getElem? (i := 2) rfl)) hsa (hat_IO (fun w h => hts w (List.mem_cons_of_mem _ (List.mem_append_right _ h))) hE.1) hgd_IO hE.2.1 hE.2.2 hS (hl.1.trans hml.symm) dX1_slotOf_13 dX1_slotOf_16 dX1_slotOf_17 dX1_slotOf_19 dX1_slotOf_22 (fun x hx => (htab x hx).elim) (Nat.le_of_ble_eq_true rfl) (Nat.le_of_ble_eq_true rfl) (Nat.le_of_ble_eq_true rfl) (Nat.le_of_ble_eq_true rfl) hlocks (fun t9 hvm9 hz9 hk9 => x_thr hK hP hD hS (⟨rfl, by simp [isT, c_1, c_2]⟩) hvm9 hz9 hk9) hS.2.2 (Nat.le_of_ble_eq_true rfl) (Nat.le_of_ble_eq_true rfl)
set_option maxHeartbeats 4000000 in
set_option maxRecDepth 100000 in
theorem k_X1_filledSlotOf (l : Launch) (D : va_G) (ax ar : Nat) (ad : Nat → Nat) (cO : ClassId) (sz : Nat) (σ : St) (t : Int32) (hfl : l.stackTraces = false) : vx_Met l yX1_filledSlotOf wsX1_filledSlotOf ({ frames := 7, cells := 2, slots := 12, locals := 120 } : Room) (va_Pc [.ref ax, .int t] (xPre D (cT cO) xE (cW ax ar ad cO) σ sz)) (va_Qq (fun (r : Option Nat) (u : St) => isT t = true ∧ (∀ k, k < 32 → t = nI k → gB σ 1 k = true ∧ r = some (ad k)) ∧ u = σ) (xB D (cT cO) (cW ax ar ad cO) (va_A (cW ax ar ad cO σ) sz)) (va_A (cW ax ar ad cO σ) sz)) (xXC D (cT cO) (cW ax ar ad cO) (va_A (cW ax ar ad cO σ) sz) σ (fun En => (En = xIO ∧ isT t = false) ∨ (En = xIS ∧ isT t = true ∧ ∀ k, k < 32 → t = nI k → gB σ 1 k = false))) 2 12 (va_A (cW ax ar ad cO σ) sz) := by
  refine xxOpen (w := (cW ax ar ad cO)) (σ := σ) (cc := cX1_filledSlotOf) (maxL := 3) (ret := some (.object "WorthCache$Slot")) (QQ := fun A => va_Qq (fun (r : Option Nat) (u : St) => isT t = true ∧ (∀ k, k < 32 → t = nI k → gB σ 1 k = true ∧ r = some (ad k)) ∧ u = σ) (xB D (cT cO) (cW ax ar ad cO) A) A) (XX := fun A => xXC D (cT cO) (cW ax ar ad cO) A σ (fun En => (En = xIO ∧ isT t = false) ∨ (En = xIS ∧ isT t = true ∧ ∀ k, k < 32 → t = nI k → gB σ 1 k = false))) (by decide) rfl (Nat.le_of_ble_eq_true rfl) ?_
  intro p e s m below meth c A hx hb hr hml hown hts hlocks htab hK hE hA hP hD hS ls hl
  have hl : lv_has ls 3 [(0, .ref ax), (1, .int t)] := hl
  have hown : s.vm.findClass RX1 = some m.cls := hown
  have hi0 : ∀ w ∈ wsX00, w ∈ wsX1_filledSlotOf := (fun _ h => List.mem_cons_of_mem _ (List.mem_append_left _ (List.mem_append_left _ (List.mem_append_left _ (List.mem_append_right _ h)))))
  have hi1 : ∀ w ∈ wsX10, w ∈ wsX1_filledSlotOf := (fun _ h => List.mem_cons_of_mem _ (List.mem_append_left _ (List.mem_append_left _ (List.mem_append_right _ h))))
  generalize hH : s.heap = H at hP
  have hS : va_S A s.heap H [] := by rw [← hH]; exact va_S.rf
  generalize hlo : ([] : List Loc) = locs at hS
  refine lv_aload_n hx hb dX1_filledSlotOf_0 rfl (lv_at hl 0 rfl) ?_
  refine lv_iload_n hx hb dX1_filledSlotOf_1 rfl (lv_at hl 1 rfl) ?_
  refine xx_callq (vx_runV (As := [.int t]) (rest := []) ⟨hx, hb, hml, hown, hts⟩ (k_X1_slotOf l D ax ar ad cO H.size σ t hfl) (cwV 1 hts gX1_filledSlotOf_X1_slotOf rfl rfl rfl (by decide +kernel) ⟨Nat.le_of_ble_eq_true rfl, Nat.le_of_ble_eq_true rfl⟩) (xPreV xE_ok hE hK hA hP hD hS (q0 := 0) (ci := 1) rfl rfl rfl) rfl rfl hl.1 rfl (lv_room (Nat.le_of_ble_eq_true rfl)) dX1_filledSlotOf_2 ⟨Nat.le_of_ble_eq_true rfl, Nat.le_of_ble_eq_true rfl⟩) hD hS hA (fun En ce q9 H locs hxc hP hS hq9 hv9 hcl9 => ?_) (fun r u H locs hp hP hD hS => ?_)
  · exact xx_out htab hlocks hK hq9 hv9 hcl9 hP hD hS (Or.inl hxc) (Nat.le_of_ble_eq_true rfl) (Nat.le_of_ble_eq_true rfl)
  obtain ⟨hT, hq, hu9⟩ := hp
  rw [hu9] at hP hD
  obtain ⟨k, hk, rfl⟩ := isT_nI hT
  obtain rfl := hq k hk rfl
  have hl : lv_has ls 3 [(0, .ref ax), (1, .int (nI k))] := hl
  refine W.eq (g2 := F0 m 5 ls [.ref (ad k)]) rfl ?_
  · refine lv_astore_n (lv' := [(2, .ref (ad k)), (0, .ref ax), (1, .int (nI k))]) hx hb dX1_filledSlotOf_5 rfl hl (by decide) rfl (fun ls hl => ?_)
    refine lv_aload_n hx hb dX1_filledSlotOf_6 rfl (lv_at hl 0 rfl) ?_
    refine s_get hx hb hts hi0 hown hK hE hP hk 1 (by decide) rfl (v := .int (bI (gB σ 1 k))) rfl dX1_filledSlotOf_7 (fun _ h => h) ?_
    refine x_ifne (tgt := 23) hx hb dX1_filledSlotOf_10 (by decide) (fun c_1 => ?_) (fun c_1 => ?_)
    · refine lv_aload_n hx hb dX1_filledSlotOf_23 rfl (lv_at hl 0 rfl) ?_
      refine vx_ret ?_
      refine W.widen (k := 2) (n := 12) (by decide) (by decide) ?_
      exact x_qret (r := some (ad k)) hx hb hr hlocks hK (σ) hP hD hS ⟨hT, fun j hj e => ⟨by rw [← nI_inj32 hk hj e]; exact c_1, by rw [nI_inj32 hk hj e]⟩, rfl⟩ dX1_filledSlotOf_24
    · obtain ⟨sa, hsa⟩ := hE.1.2.1 (149, "the thing has no entry") (List.mem_of_getElem? (i := 2) rfl)
      exact vx_throwS (A := A) (text := "the thing has no entry") (names := ["java/lang/RuntimeException", "java/lang/Exception"]) (sa := sa) hx hb hfl hown (by decide +kernel) (by decide +kernel) (hts _ (List.mem_of_getElem? (i := 1) rfl)) (hts _ (List.mem_of_getElem? (i := 2) rfl)) hsa (hat_IS (fun w h => hts w (List.mem_cons_of_mem _ (List.mem_append_left _ (List.mem_append_right _ h)))) hE.1) hgd_IS hE.2.1 hE.2.2 hS (hl.1.trans hml.symm) dX1_filledSlotOf_13 dX1_filledSlotOf_16 dX1_filledSlotOf_17 dX1_filledSlotOf_19 dX1_filledSlotOf_22 (fun x hx => (htab x hx).elim) (Nat.le_of_ble_eq_true rfl) (Nat.le_of_ble_eq_true rfl) (Nat.le_of_ble_eq_true rfl) (Nat.le_of_ble_eq_true rfl) hlocks (fun t9 hvm9 hz9 hk9 => x_thr hK hP hD hS (Or.inr ⟨rfl, hT, fun j hj e => by rw [← nI_inj32 hk hj e]; exact c_1⟩) hvm9 hz9 hk9) hS.2.2 (Nat.le_of_ble_eq_true rfl) (Nat.le_of_ble_eq_true rfl)
end
section
set_option maxHeartbeats 4000000 in
set_option maxRecDepth 100000 in
theorem k_X1_time (l : Launch) (D : va_G) (ax ar : Nat) (ad : Nat → Nat) (cO : ClassId) (sz : Nat) (σ : St) : Met l yX1_time wsX1_time ({ frames := 0, cells := 0, slots := 0, locals := 0 } : Room) (va_Pc [.ref ax] (xPre D (cT cO) xE (cW ax ar ad cO) σ sz)) (va_Qi (fun (r : Int32) (u : St) => r = gI σ 1 ∧ u = σ) (xB D (cT cO) (cW ax ar ad cO) (va_A (cW ax ar ad cO σ) sz)) (va_A (cW ax ar ad cO σ) sz)) 0 0 (va_A (cW ax ar ad cO σ) sz) := by
  refine xOpen (w := (cW ax ar ad cO)) (σ := σ) (cc := cX1_time) (maxL := 1) (ret := some .int) (QQ := fun A => va_Qi (fun (r : Int32) (u : St) => r = gI σ 1 ∧ u = σ) (xB D (cT cO) (cW ax ar ad cO) A) A) (by decide) rfl (Nat.le_of_ble_eq_true rfl) ?_
  intro p e s m below meth c A hx hb hr hml hown hts hlocks hname hK hE hA hP hD hS ls hl
  have hl : lv_has ls 1 [(0, .ref ax)] := hl
  have hown : s.vm.findClass RX1 = some m.cls := hown
  have hi1 : ∀ w ∈ wsX10, w ∈ wsX1_time := (fun _ h => List.mem_cons_of_mem _ (List.mem_append_right _ h))
  generalize hH : s.heap = H at hP
  have hS : va_S A s.heap H [] := by rw [← hH]; exact va_S.rf
  generalize hlo : ([] : List Loc) = locs at hS
  refine lv_aload_n hx hb dX1_time_0 rfl (lv_at hl 0 rfl) ?_
  refine c_get hx hb hts hi1 hown hK hP 1 (by decide) (List.mem_of_getElem? (i := 1) rfl) (v := .int (gI σ 1)) rfl dX1_time_1 (fun _ h => h) ?_
  exact x_iret hx hb hr hlocks hK (σ) hP hD hS ⟨rfl, rfl⟩ dX1_time_4
set_option maxHeartbeats 4000000 in
set_option maxRecDepth 100000 in
theorem k_X1_clock (l : Launch) (D : va_G) (ax ar : Nat) (ad : Nat → Nat) (cO : ClassId) (sz : Nat) (σ : St) : Met l yX1_clock wsX1_clock ({ frames := 0, cells := 0, slots := 0, locals := 0 } : Room) (va_Pc [.ref ax] (xPre D (cT cO) xE (cW ax ar ad cO) σ sz)) (va_Ql (fun (r : Int64) (u : St) => r = gL σ 2 ∧ u = σ) (xB D (cT cO) (cW ax ar ad cO) (va_A (cW ax ar ad cO σ) sz)) (va_A (cW ax ar ad cO σ) sz)) 0 0 (va_A (cW ax ar ad cO σ) sz) := by
  refine xOpen (w := (cW ax ar ad cO)) (σ := σ) (cc := cX1_clock) (maxL := 1) (ret := some .long) (QQ := fun A => va_Ql (fun (r : Int64) (u : St) => r = gL σ 2 ∧ u = σ) (xB D (cT cO) (cW ax ar ad cO) A) A) (by decide) rfl (Nat.le_of_ble_eq_true rfl) ?_
  intro p e s m below meth c A hx hb hr hml hown hts hlocks hname hK hE hA hP hD hS ls hl
  have hl : lv_has ls 1 [(0, .ref ax)] := hl
  have hown : s.vm.findClass RX1 = some m.cls := hown
  have hi1 : ∀ w ∈ wsX10, w ∈ wsX1_clock := (fun _ h => List.mem_cons_of_mem _ (List.mem_append_right _ h))
  generalize hH : s.heap = H at hP
  have hS : va_S A s.heap H [] := by rw [← hH]; exact va_S.rf
  generalize hlo : ([] : List Loc) = locs at hS
  refine lv_aload_n hx hb dX1_clock_0 rfl (lv_at hl 0 rfl) ?_
  refine c_get hx hb hts hi1 hown hK hP 2 (by decide) (List.mem_of_getElem? (i := 1) rfl) (v := .long (gL σ 2)) rfl dX1_clock_1 (fun _ h => h) ?_
  exact x_lret hx hb hr hlocks hK (σ) hP hD hS ⟨rfl, rfl⟩ dX1_clock_4
set_option maxHeartbeats 4000000 in
set_option maxRecDepth 100000 in
theorem k_X1_capacity (l : Launch) (D : va_G) (ax ar : Nat) (ad : Nat → Nat) (cO : ClassId) (sz : Nat) (σ : St) : Met l yX1_capacity wsX1_capacity ({ frames := 0, cells := 0, slots := 0, locals := 0 } : Room) (va_Pc [.ref ax] (xPre D (cT cO) xE (cW ax ar ad cO) σ sz)) (va_Qi (fun (r : Int32) (u : St) => r = gI σ 3 ∧ u = σ) (xB D (cT cO) (cW ax ar ad cO) (va_A (cW ax ar ad cO σ) sz)) (va_A (cW ax ar ad cO σ) sz)) 0 0 (va_A (cW ax ar ad cO σ) sz) := by
  refine xOpen (w := (cW ax ar ad cO)) (σ := σ) (cc := cX1_capacity) (maxL := 1) (ret := some .int) (QQ := fun A => va_Qi (fun (r : Int32) (u : St) => r = gI σ 3 ∧ u = σ) (xB D (cT cO) (cW ax ar ad cO) A) A) (by decide) rfl (Nat.le_of_ble_eq_true rfl) ?_
  intro p e s m below meth c A hx hb hr hml hown hts hlocks hname hK hE hA hP hD hS ls hl
  have hl : lv_has ls 1 [(0, .ref ax)] := hl
  have hown : s.vm.findClass RX1 = some m.cls := hown
  have hi1 : ∀ w ∈ wsX10, w ∈ wsX1_capacity := (fun _ h => List.mem_cons_of_mem _ (List.mem_append_right _ h))
  generalize hH : s.heap = H at hP
  have hS : va_S A s.heap H [] := by rw [← hH]; exact va_S.rf
  generalize hlo : ([] : List Loc) = locs at hS
  refine lv_aload_n hx hb dX1_capacity_0 rfl (lv_at hl 0 rfl) ?_
  refine c_get hx hb hts hi1 hown hK hP 3 (by decide) (List.mem_of_getElem? (i := 1) rfl) (v := .int (gI σ 3)) rfl dX1_capacity_1 (fun _ h => h) ?_
  exact x_iret hx hb hr hlocks hK (σ) hP hD hS ⟨rfl, rfl⟩ dX1_capacity_4
end
section
set_option maxHeartbeats 4000000 in
set_option maxRecDepth 100000 in
theorem k_X1_hits (l : Launch) (D : va_G) (ax ar : Nat) (ad : Nat → Nat) (cO : ClassId) (sz : Nat) (σ : St) : Met l yX1_hits wsX1_hits ({ frames := 0, cells := 0, slots := 0, locals := 0 } : Room) (va_Pc [.ref ax] (xPre D (cT cO) xE (cW ax ar ad cO) σ sz)) (va_Qi (fun (r : Int32) (u : St) => r = gI σ 6 ∧ u = σ) (xB D (cT cO) (cW ax ar ad cO) (va_A (cW ax ar ad cO σ) sz)) (va_A (cW ax ar ad cO σ) sz)) 0 0 (va_A (cW ax ar ad cO σ) sz) := by
  refine xOpen (w := (cW ax ar ad cO)) (σ := σ) (cc := cX1_hits) (maxL := 1) (ret := some .int) (QQ := fun A => va_Qi (fun (r : Int32) (u : St) => r = gI σ 6 ∧ u = σ) (xB D (cT cO) (cW ax ar ad cO) A) A) (by decide) rfl (Nat.le_of_ble_eq_true rfl) ?_
  intro p e s m below meth c A hx hb hr hml hown hts hlocks hname hK hE hA hP hD hS ls hl
  have hl : lv_has ls 1 [(0, .ref ax)] := hl
  have hown : s.vm.findClass RX1 = some m.cls := hown
  have hi1 : ∀ w ∈ wsX10, w ∈ wsX1_hits := (fun _ h => List.mem_cons_of_mem _ (List.mem_append_right _ h))
  generalize hH : s.heap = H at hP
  have hS : va_S A s.heap H [] := by rw [← hH]; exact va_S.rf
  generalize hlo : ([] : List Loc) = locs at hS
  refine lv_aload_n hx hb dX1_hits_0 rfl (lv_at hl 0 rfl) ?_
  refine c_get hx hb hts hi1 hown hK hP 6 (by decide) (List.mem_of_getElem? (i := 1) rfl) (v := .int (gI σ 6)) rfl dX1_hits_1 (fun _ h => h) ?_
  exact x_iret hx hb hr hlocks hK (σ) hP hD hS ⟨rfl, rfl⟩ dX1_hits_4
set_option maxHeartbeats 4000000 in
set_option maxRecDepth 100000 in
theorem k_X1_misses (l : Launch) (D : va_G) (ax ar : Nat) (ad : Nat → Nat) (cO : ClassId) (sz : Nat) (σ : St) : Met l yX1_misses wsX1_misses ({ frames := 0, cells := 0, slots := 0, locals := 0 } : Room) (va_Pc [.ref ax] (xPre D (cT cO) xE (cW ax ar ad cO) σ sz)) (va_Qi (fun (r : Int32) (u : St) => r = gI σ 7 ∧ u = σ) (xB D (cT cO) (cW ax ar ad cO) (va_A (cW ax ar ad cO σ) sz)) (va_A (cW ax ar ad cO σ) sz)) 0 0 (va_A (cW ax ar ad cO σ) sz) := by
  refine xOpen (w := (cW ax ar ad cO)) (σ := σ) (cc := cX1_misses) (maxL := 1) (ret := some .int) (QQ := fun A => va_Qi (fun (r : Int32) (u : St) => r = gI σ 7 ∧ u = σ) (xB D (cT cO) (cW ax ar ad cO) A) A) (by decide) rfl (Nat.le_of_ble_eq_true rfl) ?_
  intro p e s m below meth c A hx hb hr hml hown hts hlocks hname hK hE hA hP hD hS ls hl
  have hl : lv_has ls 1 [(0, .ref ax)] := hl
  have hown : s.vm.findClass RX1 = some m.cls := hown
  have hi1 : ∀ w ∈ wsX10, w ∈ wsX1_misses := (fun _ h => List.mem_cons_of_mem _ (List.mem_append_right _ h))
  generalize hH : s.heap = H at hP
  have hS : va_S A s.heap H [] := by rw [← hH]; exact va_S.rf
  generalize hlo : ([] : List Loc) = locs at hS
  refine lv_aload_n hx hb dX1_misses_0 rfl (lv_at hl 0 rfl) ?_
  refine c_get hx hb hts hi1 hown hK hP 7 (by decide) (List.mem_of_getElem? (i := 1) rfl) (v := .int (gI σ 7)) rfl dX1_misses_1 (fun _ h => h) ?_
  exact x_iret hx hb hr hlocks hK (σ) hP hD hS ⟨rfl, rfl⟩ dX1_misses_4
set_option maxHeartbeats 4000000 in
set_option maxRecDepth 100000 in
theorem k_X1_bytesHit (l : Launch) (D : va_G) (ax ar : Nat) (ad : Nat → Nat) (cO : ClassId) (sz : Nat) (σ : St) : Met l yX1_bytesHit wsX1_bytesHit ({ frames := 0, cells := 0, slots := 0, locals := 0 } : Room) (va_Pc [.ref ax] (xPre D (cT cO) xE (cW ax ar ad cO) σ sz)) (va_Ql (fun (r : Int64) (u : St) => r = gL σ 8 ∧ u = σ) (xB D (cT cO) (cW ax ar ad cO) (va_A (cW ax ar ad cO σ) sz)) (va_A (cW ax ar ad cO σ) sz)) 0 0 (va_A (cW ax ar ad cO σ) sz) := by
  refine xOpen (w := (cW ax ar ad cO)) (σ := σ) (cc := cX1_bytesHit) (maxL := 1) (ret := some .long) (QQ := fun A => va_Ql (fun (r : Int64) (u : St) => r = gL σ 8 ∧ u = σ) (xB D (cT cO) (cW ax ar ad cO) A) A) (by decide) rfl (Nat.le_of_ble_eq_true rfl) ?_
  intro p e s m below meth c A hx hb hr hml hown hts hlocks hname hK hE hA hP hD hS ls hl
  have hl : lv_has ls 1 [(0, .ref ax)] := hl
  have hown : s.vm.findClass RX1 = some m.cls := hown
  have hi1 : ∀ w ∈ wsX10, w ∈ wsX1_bytesHit := (fun _ h => List.mem_cons_of_mem _ (List.mem_append_right _ h))
  generalize hH : s.heap = H at hP
  have hS : va_S A s.heap H [] := by rw [← hH]; exact va_S.rf
  generalize hlo : ([] : List Loc) = locs at hS
  refine lv_aload_n hx hb dX1_bytesHit_0 rfl (lv_at hl 0 rfl) ?_
  refine c_get hx hb hts hi1 hown hK hP 8 (by decide) (List.mem_of_getElem? (i := 1) rfl) (v := .long (gL σ 8)) rfl dX1_bytesHit_1 (fun _ h => h) ?_
  exact x_lret hx hb hr hlocks hK (σ) hP hD hS ⟨rfl, rfl⟩ dX1_bytesHit_4
end
section
set_option maxHeartbeats 4000000 in
set_option maxRecDepth 100000 in
theorem k_X1_saved (l : Launch) (D : va_G) (ax ar : Nat) (ad : Nat → Nat) (cO : ClassId) (sz : Nat) (σ : St) : Met l yX1_saved wsX1_saved ({ frames := 0, cells := 0, slots := 0, locals := 0 } : Room) (va_Pc [.ref ax] (xPre D (cT cO) xE (cW ax ar ad cO) σ sz)) (va_Ql (fun (r : Int64) (u : St) => r = gL σ 9 ∧ u = σ) (xB D (cT cO) (cW ax ar ad cO) (va_A (cW ax ar ad cO σ) sz)) (va_A (cW ax ar ad cO σ) sz)) 0 0 (va_A (cW ax ar ad cO σ) sz) := by
  refine xOpen (w := (cW ax ar ad cO)) (σ := σ) (cc := cX1_saved) (maxL := 1) (ret := some .long) (QQ := fun A => va_Ql (fun (r : Int64) (u : St) => r = gL σ 9 ∧ u = σ) (xB D (cT cO) (cW ax ar ad cO) A) A) (by decide) rfl (Nat.le_of_ble_eq_true rfl) ?_
  intro p e s m below meth c A hx hb hr hml hown hts hlocks hname hK hE hA hP hD hS ls hl
  have hl : lv_has ls 1 [(0, .ref ax)] := hl
  have hown : s.vm.findClass RX1 = some m.cls := hown
  have hi1 : ∀ w ∈ wsX10, w ∈ wsX1_saved := (fun _ h => List.mem_cons_of_mem _ (List.mem_append_right _ h))
  generalize hH : s.heap = H at hP
  have hS : va_S A s.heap H [] := by rw [← hH]; exact va_S.rf
  generalize hlo : ([] : List Loc) = locs at hS
  refine lv_aload_n hx hb dX1_saved_0 rfl (lv_at hl 0 rfl) ?_
  refine c_get hx hb hts hi1 hown hK hP 9 (by decide) (List.mem_of_getElem? (i := 1) rfl) (v := .long (gL σ 9)) rfl dX1_saved_1 (fun _ h => h) ?_
  exact x_lret hx hb hr hlocks hK (σ) hP hD hS ⟨rfl, rfl⟩ dX1_saved_4
set_option maxHeartbeats 4000000 in
set_option maxRecDepth 100000 in
theorem k_X1_paid (l : Launch) (D : va_G) (ax ar : Nat) (ad : Nat → Nat) (cO : ClassId) (sz : Nat) (σ : St) : Met l yX1_paid wsX1_paid ({ frames := 0, cells := 0, slots := 0, locals := 0 } : Room) (va_Pc [.ref ax] (xPre D (cT cO) xE (cW ax ar ad cO) σ sz)) (va_Ql (fun (r : Int64) (u : St) => r = gL σ 10 ∧ u = σ) (xB D (cT cO) (cW ax ar ad cO) (va_A (cW ax ar ad cO σ) sz)) (va_A (cW ax ar ad cO σ) sz)) 0 0 (va_A (cW ax ar ad cO σ) sz) := by
  refine xOpen (w := (cW ax ar ad cO)) (σ := σ) (cc := cX1_paid) (maxL := 1) (ret := some .long) (QQ := fun A => va_Ql (fun (r : Int64) (u : St) => r = gL σ 10 ∧ u = σ) (xB D (cT cO) (cW ax ar ad cO) A) A) (by decide) rfl (Nat.le_of_ble_eq_true rfl) ?_
  intro p e s m below meth c A hx hb hr hml hown hts hlocks hname hK hE hA hP hD hS ls hl
  have hl : lv_has ls 1 [(0, .ref ax)] := hl
  have hown : s.vm.findClass RX1 = some m.cls := hown
  have hi1 : ∀ w ∈ wsX10, w ∈ wsX1_paid := (fun _ h => List.mem_cons_of_mem _ (List.mem_append_right _ h))
  generalize hH : s.heap = H at hP
  have hS : va_S A s.heap H [] := by rw [← hH]; exact va_S.rf
  generalize hlo : ([] : List Loc) = locs at hS
  refine lv_aload_n hx hb dX1_paid_0 rfl (lv_at hl 0 rfl) ?_
  refine c_get hx hb hts hi1 hown hK hP 10 (by decide) (List.mem_of_getElem? (i := 1) rfl) (v := .long (gL σ 10)) rfl dX1_paid_1 (fun _ h => h) ?_
  exact x_lret hx hb hr hlocks hK (σ) hP hD hS ⟨rfl, rfl⟩ dX1_paid_4
set_option maxHeartbeats 4000000 in
set_option maxRecDepth 100000 in
theorem k_X1_left (l : Launch) (D : va_G) (ax ar : Nat) (ad : Nat → Nat) (cO : ClassId) (sz : Nat) (σ : St) : Met l yX1_left wsX1_left ({ frames := 0, cells := 0, slots := 0, locals := 0 } : Room) (va_Pc [.ref ax] (xPre D (cT cO) xE (cW ax ar ad cO) σ sz)) (va_Qi (fun (r : Int32) (u : St) => r = gI σ 11 ∧ u = σ) (xB D (cT cO) (cW ax ar ad cO) (va_A (cW ax ar ad cO σ) sz)) (va_A (cW ax ar ad cO σ) sz)) 0 0 (va_A (cW ax ar ad cO σ) sz) := by
  refine xOpen (w := (cW ax ar ad cO)) (σ := σ) (cc := cX1_left) (maxL := 1) (ret := some .int) (QQ := fun A => va_Qi (fun (r : Int32) (u : St) => r = gI σ 11 ∧ u = σ) (xB D (cT cO) (cW ax ar ad cO) A) A) (by decide) rfl (Nat.le_of_ble_eq_true rfl) ?_
  intro p e s m below meth c A hx hb hr hml hown hts hlocks hname hK hE hA hP hD hS ls hl
  have hl : lv_has ls 1 [(0, .ref ax)] := hl
  have hown : s.vm.findClass RX1 = some m.cls := hown
  have hi1 : ∀ w ∈ wsX10, w ∈ wsX1_left := (fun _ h => List.mem_cons_of_mem _ (List.mem_append_right _ h))
  generalize hH : s.heap = H at hP
  have hS : va_S A s.heap H [] := by rw [← hH]; exact va_S.rf
  generalize hlo : ([] : List Loc) = locs at hS
  refine lv_aload_n hx hb dX1_left_0 rfl (lv_at hl 0 rfl) ?_
  refine c_get hx hb hts hi1 hown hK hP 11 (by decide) (List.mem_of_getElem? (i := 1) rfl) (v := .int (gI σ 11)) rfl dX1_left_1 (fun _ h => h) ?_
  exact x_iret hx hb hr hlocks hK (σ) hP hD hS ⟨rfl, rfl⟩ dX1_left_4
end
section
set_option maxHeartbeats 4000000 in
set_option maxRecDepth 100000 in
theorem k_X1_removedOver (l : Launch) (D : va_G) (ax ar : Nat) (ad : Nat → Nat) (cO : ClassId) (sz : Nat) (σ : St) : Met l yX1_removedOver wsX1_removedOver ({ frames := 0, cells := 0, slots := 0, locals := 0 } : Room) (va_Pc [.ref ax] (xPre D (cT cO) xE (cW ax ar ad cO) σ sz)) (va_Qi (fun (r : Int32) (u : St) => r = gI σ 12 ∧ u = σ) (xB D (cT cO) (cW ax ar ad cO) (va_A (cW ax ar ad cO σ) sz)) (va_A (cW ax ar ad cO σ) sz)) 0 0 (va_A (cW ax ar ad cO σ) sz) := by
  refine xOpen (w := (cW ax ar ad cO)) (σ := σ) (cc := cX1_removedOver) (maxL := 1) (ret := some .int) (QQ := fun A => va_Qi (fun (r : Int32) (u : St) => r = gI σ 12 ∧ u = σ) (xB D (cT cO) (cW ax ar ad cO) A) A) (by decide) rfl (Nat.le_of_ble_eq_true rfl) ?_
  intro p e s m below meth c A hx hb hr hml hown hts hlocks hname hK hE hA hP hD hS ls hl
  have hl : lv_has ls 1 [(0, .ref ax)] := hl
  have hown : s.vm.findClass RX1 = some m.cls := hown
  have hi1 : ∀ w ∈ wsX10, w ∈ wsX1_removedOver := (fun _ h => List.mem_cons_of_mem _ (List.mem_append_right _ h))
  generalize hH : s.heap = H at hP
  have hS : va_S A s.heap H [] := by rw [← hH]; exact va_S.rf
  generalize hlo : ([] : List Loc) = locs at hS
  refine lv_aload_n hx hb dX1_removedOver_0 rfl (lv_at hl 0 rfl) ?_
  refine c_get hx hb hts hi1 hown hK hP 12 (by decide) (List.mem_of_getElem? (i := 1) rfl) (v := .int (gI σ 12)) rfl dX1_removedOver_1 (fun _ h => h) ?_
  exact x_iret hx hb hr hlocks hK (σ) hP hD hS ⟨rfl, rfl⟩ dX1_removedOver_4
set_option maxHeartbeats 4000000 in
set_option maxRecDepth 100000 in
theorem k_X1_purge (l : Launch) (D : va_G) (ax ar : Nat) (ad : Nat → Nat) (cO : ClassId) (sz : Nat) (σ : St) : Met l yX1_purge wsX1_purge ({ frames := 2, cells := 0, slots := 0, locals := 60 } : Room) (va_Pc [.ref ax] (xPre D (cT cO) xE (cW ax ar ad cO) σ sz)) (va_Qi (fun (r : Int32) (u : St) => r = rmC σ 32 ∧ u = rmO σ) (xB D (cT cO) (cW ax ar ad cO) (va_A (cW ax ar ad cO σ) sz)) (va_A (cW ax ar ad cO σ) sz)) 0 0 (va_A (cW ax ar ad cO σ) sz) := by
  refine xOpen (w := (cW ax ar ad cO)) (σ := σ) (cc := cX1_purge) (maxL := 1) (ret := some .int) (QQ := fun A => va_Qi (fun (r : Int32) (u : St) => r = rmC σ 32 ∧ u = rmO σ) (xB D (cT cO) (cW ax ar ad cO) A) A) (by decide) rfl (Nat.le_of_ble_eq_true rfl) ?_
  intro p e s m below meth c A hx hb hr hml hown hts hlocks hname hK hE hA hP hD hS ls hl
  have hl : lv_has ls 1 [(0, .ref ax)] := hl
  have hown : s.vm.findClass RX1 = some m.cls := hown
  have hi0 : ∀ w ∈ wsX00, w ∈ wsX1_purge := (fun _ h => List.mem_cons_of_mem _ (List.mem_append_right _ h))
  have hi1 : ∀ w ∈ wsX10, w ∈ wsX1_purge := (fun _ h => List.mem_cons_of_mem _ (List.mem_append_left _ (List.mem_append_right _ h)))
  generalize hH : s.heap = H at hP
  have hS : va_S A s.heap H [] := by rw [← hH]; exact va_S.rf
  generalize hlo : ([] : List Loc) = locs at hS
  refine lv_aload_n hx hb dX1_purge_0 rfl (lv_at hl 0 rfl) ?_
  refine x_calli (va_runV (As := []) (rest := []) ⟨hx, hb, hml, hown, hts⟩ (k_X1_removeAllOver l D ax ar ad cO H.size σ) (cwV 0 hts gX1_purge_X1_removeAllOver rfl rfl rfl (by decide +kernel) ⟨Nat.le_of_ble_eq_true rfl, Nat.le_of_ble_eq_true rfl⟩) (xPreV xE_ok hE hK hA hP hD hS (q0 := 0) (ci := 1) rfl rfl rfl) rfl rfl hl.1 rfl (lv_room (Nat.le_of_ble_eq_true rfl)) dX1_purge_1 ⟨Nat.le_of_ble_eq_true rfl, Nat.le_of_ble_eq_true rfl⟩) hD hS hA (fun r u H locs hp hP hD hS => ?_)
  obtain ⟨rfl, hu9⟩ := hp
  rw [hu9] at hP hD
  exact x_iret hx hb hr hlocks hK (rmO σ) hP hD hS ⟨rfl, rfl⟩ dX1_purge_4
set_option maxHeartbeats 4000000 in
set_option maxRecDepth 100000 in
theorem k_X1_pass (l : Launch) (D : va_G) (ax ar : Nat) (ad : Nat → Nat) (cO : ClassId) (sz : Nat) (σ : St) (t : Int32) (hfl : l.stackTraces = false) : vx_Met l yX1_pass wsX1_pass ({ frames := 7, cells := 1, slots := 6, locals := 120 } : Room) (va_Pc [.ref ax, .int t] (xPre D (cT cO) xE (cW ax ar ad cO) σ sz)) (va_Qi (fun (r : Int32) (u : St) => inR t 1 10000 = true ∧ r = gI σ 1 + t ∧ u = uI σ 1 (gI σ 1 + t)) (xB D (cT cO) (cW ax ar ad cO) (va_A (cW ax ar ad cO σ) sz)) (va_A (cW ax ar ad cO σ) sz)) (xXC D (cT cO) (cW ax ar ad cO) (va_A (cW ax ar ad cO σ) sz) σ (fun En => En = xIA ∧ inR t 1 10000 = false)) 1 6 (va_A (cW ax ar ad cO σ) sz) := by
  refine xxOpen (w := (cW ax ar ad cO)) (σ := σ) (cc := cX1_pass) (maxL := 2) (ret := some .int) (QQ := fun A => va_Qi (fun (r : Int32) (u : St) => inR t 1 10000 = true ∧ r = gI σ 1 + t ∧ u = uI σ 1 (gI σ 1 + t)) (xB D (cT cO) (cW ax ar ad cO) A) A) (XX := fun A => xXC D (cT cO) (cW ax ar ad cO) A σ (fun En => En = xIA ∧ inR t 1 10000 = false)) (by decide) rfl (Nat.le_of_ble_eq_true rfl) ?_
  intro p e s m below meth c A hx hb hr hml hown hts hlocks htab hK hE hA hP hD hS ls hl
  have hl : lv_has ls 2 [(0, .ref ax), (1, .int t)] := hl
  have hown : s.vm.findClass RX1 = some m.cls := hown
  have hi1 : ∀ w ∈ wsX10, w ∈ wsX1_pass := (fun _ h => List.mem_cons_of_mem _ (List.mem_append_left _ (List.mem_append_right _ h)))
  generalize hH : s.heap = H at hP
  have hS : va_S A s.heap H [] := by rw [← hH]; exact va_S.rf
  generalize hlo : ([] : List Loc) = locs at hS
  refine lv_iload_n hx hb dX1_pass_0 rfl (lv_at hl 1 rfl) ?_
  refine lv_iconst (v := 1) hx hb dX1_pass_1 (by decide) ?_
  refine lv_sipush (v := 10000) hx hb dX1_pass_2 (by decide) ?_
  refine xx_callv (vx_runS (As := [.int t, .int 1, .int 10000]) (rest := []) ⟨hx, hb, hml, hown, hts⟩ (k_X1_requireWithin l D ax ar ad cO H.size σ t 1 10000 hfl) (va_cwS 3 hts gX1_pass_X1_requireWithin rfl rfl rfl (by decide +kernel) ⟨Nat.le_of_ble_eq_true rfl, Nat.le_of_ble_eq_true rfl⟩) (xPreS xE_ok hE hK hA hP hD hS) rfl rfl hl.1 rfl (lv_room (Nat.le_of_ble_eq_true rfl)) dX1_pass_5 ⟨Nat.le_of_ble_eq_true rfl, Nat.le_of_ble_eq_true rfl⟩) hD hS hA (fun En ce q9 H locs hxc hP hS hq9 hv9 hcl9 => ?_) (fun u H locs hp hP hD hS => ?_)
  · exact xx_out htab hlocks hK hq9 hv9 hcl9 hP hD hS (hxc) (Nat.le_of_ble_eq_true rfl) (Nat.le_of_ble_eq_true rfl)
  obtain ⟨v_1, hu9⟩ := hp
  rw [hu9] at hP hD
  · refine lv_aload_n hx hb dX1_pass_8 rfl (lv_at hl 0 rfl) ?_
    refine lv_dup hx hb dX1_pass_9 rfl ?_
    refine c_get hx hb hts hi1 hown hK hP 1 (by decide) (List.mem_of_getElem? (i := 1) rfl) (v := .int (gI σ 1)) rfl dX1_pass_10 (fun _ h => h) ?_
    refine lv_iload_n hx hb dX1_pass_13 rfl (lv_at hl 1 rfl) ?_
    refine lv_iadd hx hb dX1_pass_14 ?_
    refine c_put hx hb hts hi1 hown hK hP hD hS 1 (by decide) (List.mem_of_getElem? (i := 1) rfl) (v := .int ((gI σ 1) + t)) (ty := .int) (uI σ 1 ((gI σ 1) + t)) (cF_uI ar σ ((gI σ 1) + t)).1 (fun _ => sF_uI _ _ _ _) (by decide) rfl (by decide +kernel) rfl rfl dX1_pass_15 (fun _ h => h) (fun H locs hP hD hS => ?_)
    refine lv_aload_n hx hb dX1_pass_18 rfl (lv_at hl 0 rfl) ?_
    refine c_get hx hb hts hi1 hown hK hP 1 (by decide) (List.mem_of_getElem? (i := 1) rfl) (v := .int ((gI σ 1) + t)) rfl dX1_pass_19 (fun _ h => h) ?_
    refine vx_ret ?_
    refine W.widen (k := 1) (n := 6) (by decide) (by decide) ?_
    exact x_iret hx hb hr hlocks hK (uI σ 1 ((gI σ 1) + t)) hP hD hS ⟨v_1, rfl, rfl⟩ dX1_pass_22
end
section
set_option maxHeartbeats 4000000 in
set_option maxRecDepth 100000 in
theorem k_X1_setThreshold (l : Launch) (D : va_G) (ax ar : Nat) (ad : Nat → Nat) (cO : ClassId) (sz : Nat) (σ : St) (t : Int32) (hfl : l.stackTraces = false) : vx_Met l yX1_setThreshold wsX1_setThreshold ({ frames := 7, cells := 1, slots := 6, locals := 120 } : Room) (va_Pc [.ref ax, .int t] (xPre D (cT cO) xE (cW ax ar ad cO) σ sz)) (va_Qi (fun (r : Int32) (u : St) => inR t 1 1000 = true ∧ r = gI σ 4 ∧ u = uI σ 4 t) (xB D (cT cO) (cW ax ar ad cO) (va_A (cW ax ar ad cO σ) sz)) (va_A (cW ax ar ad cO σ) sz)) (xXC D (cT cO) (cW ax ar ad cO) (va_A (cW ax ar ad cO σ) sz) σ (fun En => En = xIA ∧ inR t 1 1000 = false)) 1 6 (va_A (cW ax ar ad cO σ) sz) := by
  refine xxOpen (w := (cW ax ar ad cO)) (σ := σ) (cc := cX1_setThreshold) (maxL := 3) (ret := some .int) (QQ := fun A => va_Qi (fun (r : Int32) (u : St) => inR t 1 1000 = true ∧ r = gI σ 4 ∧ u = uI σ 4 t) (xB D (cT cO) (cW ax ar ad cO) A) A) (XX := fun A => xXC D (cT cO) (cW ax ar ad cO) A σ (fun En => En = xIA ∧ inR t 1 1000 = false)) (by decide) rfl (Nat.le_of_ble_eq_true rfl) ?_
  intro p e s m below meth c A hx hb hr hml hown hts hlocks htab hK hE hA hP hD hS ls hl
  have hl : lv_has ls 3 [(0, .ref ax), (1, .int t)] := hl
  have hown : s.vm.findClass RX1 = some m.cls := hown
  have hi1 : ∀ w ∈ wsX10, w ∈ wsX1_setThreshold := (fun _ h => List.mem_cons_of_mem _ (List.mem_append_left _ (List.mem_append_right _ h)))
  generalize hH : s.heap = H at hP
  have hS : va_S A s.heap H [] := by rw [← hH]; exact va_S.rf
  generalize hlo : ([] : List Loc) = locs at hS
  refine lv_iload_n hx hb dX1_setThreshold_0 rfl (lv_at hl 1 rfl) ?_
  refine lv_iconst (v := 1) hx hb dX1_setThreshold_1 (by decide) ?_
  refine lv_sipush (v := 1000) hx hb dX1_setThreshold_2 (by decide) ?_
  refine xx_callv (vx_runS (As := [.int t, .int 1, .int 1000]) (rest := []) ⟨hx, hb, hml, hown, hts⟩ (k_X1_requireWithin l D ax ar ad cO H.size σ t 1 1000 hfl) (va_cwS 3 hts gX1_setThreshold_X1_requireWithin rfl rfl rfl (by decide +kernel) ⟨Nat.le_of_ble_eq_true rfl, Nat.le_of_ble_eq_true rfl⟩) (xPreS xE_ok hE hK hA hP hD hS) rfl rfl hl.1 rfl (lv_room (Nat.le_of_ble_eq_true rfl)) dX1_setThreshold_5 ⟨Nat.le_of_ble_eq_true rfl, Nat.le_of_ble_eq_true rfl⟩) hD hS hA (fun En ce q9 H locs hxc hP hS hq9 hv9 hcl9 => ?_) (fun u H locs hp hP hD hS => ?_)
  · exact xx_out htab hlocks hK hq9 hv9 hcl9 hP hD hS (hxc) (Nat.le_of_ble_eq_true rfl) (Nat.le_of_ble_eq_true rfl)
  obtain ⟨v_1, hu9⟩ := hp
  rw [hu9] at hP hD
  · refine lv_aload_n hx hb dX1_setThreshold_8 rfl (lv_at hl 0 rfl) ?_
    refine c_get hx hb hts hi1 hown hK hP 4 (by decide) (List.mem_of_getElem? (i := 1) rfl) (v := .int (gI σ 4)) rfl dX1_setThreshold_9 (fun _ h => h) ?_
    refine lv_istore_n (lv' := [(2, .int (gI σ 4)), (0, .ref ax), (1, .int t)]) hx hb dX1_setThreshold_12 rfl hl (by decide) rfl (fun ls hl => ?_)
    refine lv_aload_n hx hb dX1_setThreshold_13 rfl (lv_at hl 1 rfl) ?_
    refine lv_iload_n hx hb dX1_setThreshold_14 rfl (lv_at hl 2 rfl) ?_
    refine c_put hx hb hts hi1 hown hK hP hD hS 4 (by decide) (List.mem_of_getElem? (i := 1) rfl) (v := .int t) (ty := .int) (uI σ 4 t) (cF_uI ar σ t).2.2.1 (fun _ => sF_uI _ _ _ _) (by decide) rfl (by decide +kernel) rfl rfl dX1_setThreshold_15 (fun _ h => h) (fun H locs hP hD hS => ?_)
    refine lv_iload_n hx hb dX1_setThreshold_18 rfl (lv_at hl 0 rfl) ?_
    refine vx_ret ?_
    refine W.widen (k := 1) (n := 6) (by decide) (by decide) ?_
    exact x_iret hx hb hr hlocks hK (uI σ 4 t) hP hD hS ⟨v_1, rfl, rfl⟩ dX1_setThreshold_19
set_option maxHeartbeats 4000000 in
set_option maxRecDepth 100000 in
theorem k_X1_setCapacity (l : Launch) (D : va_G) (ax ar : Nat) (ad : Nat → Nat) (cO : ClassId) (sz : Nat) (σ : St) (t : Int32) (hfl : l.stackTraces = false) : vx_Met l yX1_setCapacity wsX1_setCapacity ({ frames := 7, cells := 2, slots := 12, locals := 150 } : Room) (va_Pc [.ref ax, .int t] (xPre D (cT cO) xE (cW ax ar ad cO) σ sz)) (va_Qi (fun (r : Int32) (u : St) => inR t 1 10000 = true ∧ ¬ t < pinA σ ∧ r = (cSetCap σ t).1 ∧ u = (cSetCap σ t).2) (xB D (cT cO) (cW ax ar ad cO) (va_A (cW ax ar ad cO σ) sz)) (va_A (cW ax ar ad cO σ) sz)) (xXC D (cT cO) (cW ax ar ad cO) (va_A (cW ax ar ad cO σ) sz) σ (fun En => (En = xIA ∧ inR t 1 10000 = false) ∨ (En = xIS ∧ inR t 1 10000 = true ∧ t < pinA σ))) 2 12 (va_A (cW ax ar ad cO σ) sz) := by
  refine xxOpen (w := (cW ax ar ad cO)) (σ := σ) (cc := cX1_setCapacity) (maxL := 2) (ret := some .int) (QQ := fun A => va_Qi (fun (r : Int32) (u : St) => inR t 1 10000 = true ∧ ¬ t < pinA σ ∧ r = (cSetCap σ t).1 ∧ u = (cSetCap σ t).2) (xB D (cT cO) (cW ax ar ad cO) A) A) (XX := fun A => xXC D (cT cO) (cW ax ar ad cO) A σ (fun En => (En = xIA ∧ inR t 1 10000 = false) ∨ (En = xIS ∧ inR t 1 10000 = true ∧ t < pinA σ))) (by decide) rfl (Nat.le_of_ble_eq_true rfl) ?_
  intro p e s m below meth c A hx hb hr hml hown hts hlocks htab hK hE hA hP hD hS ls hl
  have hl : lv_has ls 2 [(0, .ref ax), (1, .int t)] := hl
  have hown : s.vm.findClass RX1 = some m.cls := hown
  have hi0 : ∀ w ∈ wsX00, w ∈ wsX1_setCapacity := (fun _ h => List.mem_cons_of_mem _ (List.mem_append_left _ (List.mem_append_left _ (List.mem_append_right _ h))))
  have hi1 : ∀ w ∈ wsX10, w ∈ wsX1_setCapacity := (fun _ h => List.mem_cons_of_mem _ (List.mem_append_left _ (List.mem_append_left _ (List.mem_append_left _ (List.mem_append_right _ h)))))
  generalize hH : s.heap = H at hP
  have hS : va_S A s.heap H [] := by rw [← hH]; exact va_S.rf
  generalize hlo : ([] : List Loc) = locs at hS
  refine lv_iload_n hx hb dX1_setCapacity_0 rfl (lv_at hl 1 rfl) ?_
  refine lv_iconst (v := 1) hx hb dX1_setCapacity_1 (by decide) ?_
  refine lv_sipush (v := 10000) hx hb dX1_setCapacity_2 (by decide) ?_
  refine xx_callv (vx_runS (As := [.int t, .int 1, .int 10000]) (rest := []) ⟨hx, hb, hml, hown, hts⟩ (k_X1_requireWithin l D ax ar ad cO H.size σ t 1 10000 hfl) (va_cwS 3 hts gX1_setCapacity_X1_requireWithin rfl rfl rfl (by decide +kernel) ⟨Nat.le_of_ble_eq_true rfl, Nat.le_of_ble_eq_true rfl⟩) (xPreS xE_ok hE hK hA hP hD hS) rfl rfl hl.1 rfl (lv_room (Nat.le_of_ble_eq_true rfl)) dX1_setCapacity_5 ⟨Nat.le_of_ble_eq_true rfl, Nat.le_of_ble_eq_true rfl⟩) hD hS hA (fun En ce q9 H locs hxc hP hS hq9 hv9 hcl9 => ?_) (fun u H locs hp hP hD hS => ?_)
  · exact xx_out htab hlocks hK hq9 hv9 hcl9 hP hD hS (Or.inl hxc) (Nat.le_of_ble_eq_true rfl) (Nat.le_of_ble_eq_true rfl)
  obtain ⟨v_1, hu9⟩ := hp
  rw [hu9] at hP hD
  · refine lv_aload_n hx hb dX1_setCapacity_8 rfl (lv_at hl 0 rfl) ?_
    refine x_calli (va_runV (As := []) (rest := []) ⟨hx, hb, hml, hown, hts⟩ (k_X1_bytesThatCannotLeave l D ax ar ad cO H.size σ) (cwV 0 hts gX1_setCapacity_X1_bytesThatCannotLeave rfl rfl rfl (by decide +kernel) ⟨Nat.le_of_ble_eq_true rfl, Nat.le_of_ble_eq_true rfl⟩) (xPreV xE_ok hE hK hA hP hD hS (q0 := 0) (ci := 1) rfl rfl rfl) rfl rfl hl.1 rfl (lv_room (Nat.le_of_ble_eq_true rfl)) dX1_setCapacity_9 ⟨Nat.le_of_ble_eq_true rfl, Nat.le_of_ble_eq_true rfl⟩) hD hS hA (fun r u H locs hp hP hD hS => ?_)
    obtain ⟨rfl, hu9⟩ := hp
    rw [hu9] at hP hD
    refine lv_iload_n hx hb dX1_setCapacity_12 rfl (lv_at hl 1 rfl) ?_
    refine x_icmp_le (tgt := 26) hx hb dX1_setCapacity_13 (by decide) (fun c_2 => ?_) (fun c_2 => ?_)
    · refine lv_aload_n hx hb dX1_setCapacity_26 rfl (lv_at hl 0 rfl) ?_
      refine lv_iload_n hx hb dX1_setCapacity_27 rfl (lv_at hl 1 rfl) ?_
      refine c_put hx hb hts hi1 hown hK hP hD hS 3 (by decide) (List.mem_of_getElem? (i := 3) rfl) (v := .int t) (ty := .int) (uI σ 3 t) (cF_uI ar σ t).2.1 (fun _ => sF_uI _ _ _ _) (by decide) rfl (by decide +kernel) rfl rfl dX1_setCapacity_28 (fun _ h => h) (fun H locs hP hD hS => ?_)
      refine lv_aload_n hx hb dX1_setCapacity_31 rfl (lv_at hl 0 rfl) ?_
      refine x_calli (va_runV (As := []) (rest := []) ⟨hx, hb, hml, hown, hts⟩ (k_X1_used l D ax ar ad cO H.size (uI σ 3 t)) (cwV 0 hts gX1_setCapacity_X1_used rfl rfl rfl (by decide +kernel) ⟨Nat.le_of_ble_eq_true rfl, Nat.le_of_ble_eq_true rfl⟩) (xPreV xE_ok hE hK hA hP hD hS (q0 := 0) (ci := 1) rfl rfl rfl) rfl rfl hl.1 rfl (lv_room (Nat.le_of_ble_eq_true rfl)) dX1_setCapacity_32 ⟨Nat.le_of_ble_eq_true rfl, Nat.le_of_ble_eq_true rfl⟩) hD hS hA (fun r u H locs hp hP hD hS => ?_)
      obtain ⟨rfl, hu9⟩ := hp
      rw [hu9] at hP hD
      refine lv_iload_n hx hb dX1_setCapacity_35 rfl (lv_at hl 1 rfl) ?_
      refine lv_icmp_gt (tgt := 41) hx hb dX1_setCapacity_36 (by decide) (fun c_3 => ?_) (fun c_3 => ?_)
      · refine lv_aload_n hx hb dX1_setCapacity_41 rfl (lv_at hl 0 rfl) ?_
        refine x_calli (va_runV (As := []) (rest := []) ⟨hx, hb, hml, hown, hts⟩ (k_X1_removeAllOver l D ax ar ad cO H.size (uI σ 3 t)) (cwV 0 hts gX1_setCapacity_X1_removeAllOver rfl rfl rfl (by decide +kernel) ⟨Nat.le_of_ble_eq_true rfl, Nat.le_of_ble_eq_true rfl⟩) (xPreV xE_ok hE hK hA hP hD hS (q0 := 0) (ci := 1) rfl rfl rfl) rfl rfl hl.1 rfl (lv_room (Nat.le_of_ble_eq_true rfl)) dX1_setCapacity_42 ⟨Nat.le_of_ble_eq_true rfl, Nat.le_of_ble_eq_true rfl⟩) hD hS hA (fun r u H locs hp hP hD hS => ?_)
        obtain ⟨rfl, hu9⟩ := hp
        rw [hu9] at hP hD
        refine lv_pop hx hb dX1_setCapacity_45 rfl ?_
        refine lv_aload_n hx hb dX1_setCapacity_46 rfl (lv_at hl 0 rfl) ?_
        refine lv_iload_n hx hb dX1_setCapacity_47 rfl (lv_at hl 1 rfl) ?_
        refine x_calli (va_runV (As := [.int t]) (rest := []) ⟨hx, hb, hml, hown, hts⟩ (k_X1_leaveDownTo l D ax ar ad cO H.size (rmO (uI σ 3 t)) t) (cwV 1 hts gX1_setCapacity_X1_leaveDownTo rfl rfl rfl (by decide +kernel) ⟨Nat.le_of_ble_eq_true rfl, Nat.le_of_ble_eq_true rfl⟩) (xPreV xE_ok hE hK hA hP hD hS (q0 := 0) (ci := 1) rfl rfl rfl) rfl rfl hl.1 rfl (lv_room (Nat.le_of_ble_eq_true rfl)) dX1_setCapacity_48 ⟨Nat.le_of_ble_eq_true rfl, Nat.le_of_ble_eq_true rfl⟩) hD hS hA (fun r u H locs hp hP hD hS => ?_)
        obtain ⟨rfl, hu9⟩ := hp
        rw [hu9] at hP hD
        refine vx_ret ?_
        refine W.widen (k := 2) (n := 12) (by decide) (by decide) ?_
        exact x_iret hx hb hr hlocks hK (lvD t (rmO (uI σ 3 t))) hP hD hS ⟨v_1, c_2, by simp [cSetCap, c_3], by simp [cSetCap, c_3]⟩ dX1_setCapacity_51
      · refine lv_iconst (v := 0) hx hb dX1_setCapacity_39 (by decide) ?_
        refine vx_ret ?_
        refine W.widen (k := 2) (n := 12) (by decide) (by decide) ?_
        exact x_iret hx hb hr hlocks hK (uI σ 3 t) hP hD hS ⟨v_1, c_2, by simp [cSetCap, c_3], by simp [cSetCap, c_3]⟩ dX1_setCapacity_40
    · obtain ⟨sa, hsa⟩ := hE.1.2.1 (73, "the pinned entries are greater than the capacity") (List.mem_of_getElem? (i := 3) rfl)
      exact vx_throwS (A := A) (text := "the pinned entries are greater than the capacity") (names := ["java/lang/RuntimeException", "java/lang/Exception"]) (sa := sa) hx hb hfl hown (by decide +kernel) (by decide +kernel) (hts _ (List.mem_of_getElem? (i := 1) rfl)) (hts _ (List.mem_of_getElem? (i := 2) rfl)) hsa (hat_IS (fun w h => hts w (List.mem_cons_of_mem _ (List.mem_append_left _ (List.mem_append_right _ h)))) hE.1) hgd_IS hE.2.1 hE.2.2 hS (hl.1.trans hml.symm) dX1_setCapacity_16 dX1_setCapacity_19 dX1_setCapacity_20 dX1_setCapacity_22 dX1_setCapacity_25 (fun x hx => (htab x hx).elim) (Nat.le_of_ble_eq_true rfl) (Nat.le_of_ble_eq_true rfl) (Nat.le_of_ble_eq_true rfl) (Nat.le_of_ble_eq_true rfl) hlocks (fun t9 hvm9 hz9 hk9 => x_thr hK hP hD hS (Or.inr ⟨rfl, v_1, c_2⟩) hvm9 hz9 hk9) hS.2.2 (Nat.le_of_ble_eq_true rfl) (Nat.le_of_ble_eq_true rfl)
set_option maxHeartbeats 4000000 in
set_option maxRecDepth 100000 in
theorem k_X1_has (l : Launch) (D : va_G) (ax ar : Nat) (ad : Nat → Nat) (cO : ClassId) (sz : Nat) (σ : St) (t : Int32) (hfl : l.stackTraces = false) : vx_Met l yX1_has wsX1_has ({ frames := 7, cells := 1, slots := 6, locals := 120 } : Room) (va_Pc [.ref ax, .int t] (xPre D (cT cO) xE (cW ax ar ad cO) σ sz)) (va_Qi (fun (r : Int32) (u : St) => isT t = true ∧ (∀ k, k < 32 → t = nI k → r = bI (gB σ 1 k)) ∧ u = σ) (xB D (cT cO) (cW ax ar ad cO) (va_A (cW ax ar ad cO σ) sz)) (va_A (cW ax ar ad cO σ) sz)) (xXC D (cT cO) (cW ax ar ad cO) (va_A (cW ax ar ad cO σ) sz) σ (fun En => En = xIO ∧ isT t = false)) 1 6 (va_A (cW ax ar ad cO σ) sz) := by
  refine xxOpen (w := (cW ax ar ad cO)) (σ := σ) (cc := cX1_has) (maxL := 2) (ret := some .boolean) (QQ := fun A => va_Qi (fun (r : Int32) (u : St) => isT t = true ∧ (∀ k, k < 32 → t = nI k → r = bI (gB σ 1 k)) ∧ u = σ) (xB D (cT cO) (cW ax ar ad cO) A) A) (XX := fun A => xXC D (cT cO) (cW ax ar ad cO) A σ (fun En => En = xIO ∧ isT t = false)) (by decide) rfl (Nat.le_of_ble_eq_true rfl) ?_
  intro p e s m below meth c A hx hb hr hml hown hts hlocks htab hK hE hA hP hD hS ls hl
  have hl : lv_has ls 2 [(0, .ref ax), (1, .int t)] := hl
  have hown : s.vm.findClass RX1 = some m.cls := hown
  have hi0 : ∀ w ∈ wsX00, w ∈ wsX1_has := (fun _ h => List.mem_cons_of_mem _ (List.mem_append_left _ (List.mem_append_left _ (List.mem_append_right _ h))))
  have hi1 : ∀ w ∈ wsX10, w ∈ wsX1_has := (fun _ h => List.mem_cons_of_mem _ (List.mem_append_left _ (List.mem_append_right _ h)))
  generalize hH : s.heap = H at hP
  have hS : va_S A s.heap H [] := by rw [← hH]; exact va_S.rf
  generalize hlo : ([] : List Loc) = locs at hS
  refine lv_aload_n hx hb dX1_has_0 rfl (lv_at hl 0 rfl) ?_
  refine lv_iload_n hx hb dX1_has_1 rfl (lv_at hl 1 rfl) ?_
  refine xx_callq (vx_runV (As := [.int t]) (rest := []) ⟨hx, hb, hml, hown, hts⟩ (k_X1_slotOf l D ax ar ad cO H.size σ t hfl) (cwV 1 hts gX1_has_X1_slotOf rfl rfl rfl (by decide +kernel) ⟨Nat.le_of_ble_eq_true rfl, Nat.le_of_ble_eq_true rfl⟩) (xPreV xE_ok hE hK hA hP hD hS (q0 := 0) (ci := 1) rfl rfl rfl) rfl rfl hl.1 rfl (lv_room (Nat.le_of_ble_eq_true rfl)) dX1_has_2 ⟨Nat.le_of_ble_eq_true rfl, Nat.le_of_ble_eq_true rfl⟩) hD hS hA (fun En ce q9 H locs hxc hP hS hq9 hv9 hcl9 => ?_) (fun r u H locs hp hP hD hS => ?_)
  · exact xx_out htab hlocks hK hq9 hv9 hcl9 hP hD hS (hxc) (Nat.le_of_ble_eq_true rfl) (Nat.le_of_ble_eq_true rfl)
  obtain ⟨hT, hq, hu9⟩ := hp
  rw [hu9] at hP hD
  obtain ⟨k, hk, rfl⟩ := isT_nI hT
  obtain rfl := hq k hk rfl
  have hl : lv_has ls 2 [(0, .ref ax), (1, .int (nI k))] := hl
  refine W.eq (g2 := F0 m 5 ls [.ref (ad k)]) rfl ?_
  · refine s_get hx hb hts hi0 hown hK hE hP hk 1 (by decide) rfl (v := .int (bI (gB σ 1 k))) rfl dX1_has_5 (fun _ h => h) ?_
    refine vx_ret ?_
    refine W.widen (k := 1) (n := 6) (by decide) (by decide) ?_
    exact x_zret (b := gB σ 1 k) hx hb hr hlocks hK (σ) hP hD hS ⟨hT, fun j hj e9 => by rw [← nI_inj32 hk hj e9], rfl⟩ dX1_has_8
end
section
set_option maxHeartbeats 4000000 in
set_option maxRecDepth 100000 in
theorem k_X1_isOver (l : Launch) (D : va_G) (ax ar : Nat) (ad : Nat → Nat) (cO : ClassId) (sz : Nat) (σ : St) (t : Int32) (hfl : l.stackTraces = false) : vx_Met l yX1_isOver wsX1_isOver ({ frames := 7, cells := 1, slots := 6, locals := 120 } : Room) (va_Pc [.ref ax, .int t] (xPre D (cT cO) xE (cW ax ar ad cO) σ sz)) (va_Qi (fun (r : Int32) (u : St) => isT t = true ∧ (∀ k, k < 32 → t = nI k → r = bI (gB σ 1 k && ended σ k)) ∧ u = σ) (xB D (cT cO) (cW ax ar ad cO) (va_A (cW ax ar ad cO σ) sz)) (va_A (cW ax ar ad cO σ) sz)) (xXC D (cT cO) (cW ax ar ad cO) (va_A (cW ax ar ad cO σ) sz) σ (fun En => En = xIO ∧ isT t = false)) 1 6 (va_A (cW ax ar ad cO σ) sz) := by
  refine xxOpen (w := (cW ax ar ad cO)) (σ := σ) (cc := cX1_isOver) (maxL := 3) (ret := some .boolean) (QQ := fun A => va_Qi (fun (r : Int32) (u : St) => isT t = true ∧ (∀ k, k < 32 → t = nI k → r = bI (gB σ 1 k && ended σ k)) ∧ u = σ) (xB D (cT cO) (cW ax ar ad cO) A) A) (XX := fun A => xXC D (cT cO) (cW ax ar ad cO) A σ (fun En => En = xIO ∧ isT t = false)) (by decide) rfl (Nat.le_of_ble_eq_true rfl) ?_
  intro p e s m below meth c A hx hb hr hml hown hts hlocks htab hK hE hA hP hD hS ls hl
  have hl : lv_has ls 3 [(0, .ref ax), (1, .int t)] := hl
  have hown : s.vm.findClass RX1 = some m.cls := hown
  have hi0 : ∀ w ∈ wsX00, w ∈ wsX1_isOver := (fun _ h => List.mem_cons_of_mem _ (List.mem_append_left _ (List.mem_append_left _ (List.mem_append_right _ h))))
  have hi1 : ∀ w ∈ wsX10, w ∈ wsX1_isOver := (fun _ h => List.mem_cons_of_mem _ (List.mem_append_left _ (List.mem_append_right _ h)))
  generalize hH : s.heap = H at hP
  have hS : va_S A s.heap H [] := by rw [← hH]; exact va_S.rf
  generalize hlo : ([] : List Loc) = locs at hS
  refine lv_aload_n hx hb dX1_isOver_0 rfl (lv_at hl 0 rfl) ?_
  refine lv_iload_n hx hb dX1_isOver_1 rfl (lv_at hl 1 rfl) ?_
  refine xx_callq (vx_runV (As := [.int t]) (rest := []) ⟨hx, hb, hml, hown, hts⟩ (k_X1_slotOf l D ax ar ad cO H.size σ t hfl) (cwV 1 hts gX1_isOver_X1_slotOf rfl rfl rfl (by decide +kernel) ⟨Nat.le_of_ble_eq_true rfl, Nat.le_of_ble_eq_true rfl⟩) (xPreV xE_ok hE hK hA hP hD hS (q0 := 0) (ci := 1) rfl rfl rfl) rfl rfl hl.1 rfl (lv_room (Nat.le_of_ble_eq_true rfl)) dX1_isOver_2 ⟨Nat.le_of_ble_eq_true rfl, Nat.le_of_ble_eq_true rfl⟩) hD hS hA (fun En ce q9 H locs hxc hP hS hq9 hv9 hcl9 => ?_) (fun r u H locs hp hP hD hS => ?_)
  · exact xx_out htab hlocks hK hq9 hv9 hcl9 hP hD hS (hxc) (Nat.le_of_ble_eq_true rfl) (Nat.le_of_ble_eq_true rfl)
  obtain ⟨hT, hq, hu9⟩ := hp
  rw [hu9] at hP hD
  obtain ⟨k, hk, rfl⟩ := isT_nI hT
  obtain rfl := hq k hk rfl
  have hl : lv_has ls 3 [(0, .ref ax), (1, .int (nI k))] := hl
  refine W.eq (g2 := F0 m 5 ls [.ref (ad k)]) rfl ?_
  · refine lv_astore_n (lv' := [(2, .ref (ad k)), (0, .ref ax), (1, .int (nI k))]) hx hb dX1_isOver_5 rfl hl (by decide) rfl (fun ls hl => ?_)
    refine lv_aload_n hx hb dX1_isOver_6 rfl (lv_at hl 0 rfl) ?_
    refine s_get hx hb hts hi0 hown hK hE hP hk 1 (by decide) rfl (v := .int (bI (gB σ 1 k))) rfl dX1_isOver_7 (fun _ h => h) ?_
    refine x_ifeq (tgt := 25) hx hb dX1_isOver_10 (by decide) (fun c_1 => ?_) (fun c_1 => ?_)
    · refine lv_iconst (v := 0) hx hb dX1_isOver_25 (by decide) ?_
      refine vx_ret ?_
      refine W.widen (k := 1) (n := 6) (by decide) (by decide) ?_
      exact x_zret (b := false) hx hb hr hlocks hK (σ) hP hD hS ⟨hT, fun j hj e9 => by rw [← nI_inj32 hk hj e9]; simp [c_1], rfl⟩ dX1_isOver_26
    · refine lv_aload_n hx hb dX1_isOver_13 rfl (lv_at hl 1 rfl) ?_
      refine lv_aload_n hx hb dX1_isOver_14 rfl (lv_at hl 0 rfl) ?_
      refine x_calli (va_runV (As := [.ref (ad k)]) (rest := []) ⟨hx, hb, hml, hown, hts⟩ (k_X1_hasEnded l D ax ar ad cO H.size σ hk) (cwV 1 hts gX1_isOver_X1_hasEnded rfl rfl rfl (by decide +kernel) ⟨Nat.le_of_ble_eq_true rfl, Nat.le_of_ble_eq_true rfl⟩) (xPreV xE_ok hE hK hA hP hD hS (q0 := 0) (ci := 1) rfl rfl rfl) rfl rfl hl.1 rfl (lv_room (Nat.le_of_ble_eq_true rfl)) dX1_isOver_15 ⟨Nat.le_of_ble_eq_true rfl, Nat.le_of_ble_eq_true rfl⟩) hD hS hA (fun r u H locs hp hP hD hS => ?_)
      obtain ⟨rfl, hu9⟩ := hp
      rw [hu9] at hP hD
      refine x_ifeq (tgt := 25) hx hb dX1_isOver_18 (by decide) (fun c_2 => ?_) (fun c_2 => ?_)
      · refine lv_iconst (v := 0) hx hb dX1_isOver_25 (by decide) ?_
        refine vx_ret ?_
        refine W.widen (k := 1) (n := 6) (by decide) (by decide) ?_
        exact x_zret (b := false) hx hb hr hlocks hK (σ) hP hD hS ⟨hT, fun j hj e9 => by rw [← nI_inj32 hk hj e9]; simp [c_1, c_2], rfl⟩ dX1_isOver_26
      · refine lv_iconst (v := 1) hx hb dX1_isOver_21 (by decide) ?_
        refine lv_goto (tgt := 26) hx hb dX1_isOver_22 (by decide) ?_
        refine vx_ret ?_
        refine W.widen (k := 1) (n := 6) (by decide) (by decide) ?_
        exact x_zret (b := true) hx hb hr hlocks hK (σ) hP hD hS ⟨hT, fun j hj e9 => by rw [← nI_inj32 hk hj e9]; simp [c_1, c_2], rfl⟩ dX1_isOver_26
set_option maxHeartbeats 4000000 in
set_option maxRecDepth 100000 in
theorem k_X1_sizeOf (l : Launch) (D : va_G) (ax ar : Nat) (ad : Nat → Nat) (cO : ClassId) (sz : Nat) (σ : St) (t : Int32) (hfl : l.stackTraces = false) : vx_Met l yX1_sizeOf wsX1_sizeOf ({ frames := 7, cells := 1, slots := 6, locals := 120 } : Room) (va_Pc [.ref ax, .int t] (xPre D (cT cO) xE (cW ax ar ad cO) σ sz)) (va_Qi (fun (r : Int32) (u : St) => isT t = true ∧ (∀ k, k < 32 → t = nI k → r = if gB σ 1 k then gS σ 3 k else 0) ∧ u = σ) (xB D (cT cO) (cW ax ar ad cO) (va_A (cW ax ar ad cO σ) sz)) (va_A (cW ax ar ad cO σ) sz)) (xXC D (cT cO) (cW ax ar ad cO) (va_A (cW ax ar ad cO σ) sz) σ (fun En => En = xIO ∧ isT t = false)) 1 6 (va_A (cW ax ar ad cO σ) sz) := by
  refine xxOpen (w := (cW ax ar ad cO)) (σ := σ) (cc := cX1_sizeOf) (maxL := 3) (ret := some .int) (QQ := fun A => va_Qi (fun (r : Int32) (u : St) => isT t = true ∧ (∀ k, k < 32 → t = nI k → r = if gB σ 1 k then gS σ 3 k else 0) ∧ u = σ) (xB D (cT cO) (cW ax ar ad cO) A) A) (XX := fun A => xXC D (cT cO) (cW ax ar ad cO) A σ (fun En => En = xIO ∧ isT t = false)) (by decide) rfl (Nat.le_of_ble_eq_true rfl) ?_
  intro p e s m below meth c A hx hb hr hml hown hts hlocks htab hK hE hA hP hD hS ls hl
  have hl : lv_has ls 3 [(0, .ref ax), (1, .int t)] := hl
  have hown : s.vm.findClass RX1 = some m.cls := hown
  have hi0 : ∀ w ∈ wsX00, w ∈ wsX1_sizeOf := (fun _ h => List.mem_cons_of_mem _ (List.mem_append_left _ (List.mem_append_left _ (List.mem_append_right _ h))))
  have hi1 : ∀ w ∈ wsX10, w ∈ wsX1_sizeOf := (fun _ h => List.mem_cons_of_mem _ (List.mem_append_left _ (List.mem_append_right _ h)))
  generalize hH : s.heap = H at hP
  have hS : va_S A s.heap H [] := by rw [← hH]; exact va_S.rf
  generalize hlo : ([] : List Loc) = locs at hS
  refine lv_aload_n hx hb dX1_sizeOf_0 rfl (lv_at hl 0 rfl) ?_
  refine lv_iload_n hx hb dX1_sizeOf_1 rfl (lv_at hl 1 rfl) ?_
  refine xx_callq (vx_runV (As := [.int t]) (rest := []) ⟨hx, hb, hml, hown, hts⟩ (k_X1_slotOf l D ax ar ad cO H.size σ t hfl) (cwV 1 hts gX1_sizeOf_X1_slotOf rfl rfl rfl (by decide +kernel) ⟨Nat.le_of_ble_eq_true rfl, Nat.le_of_ble_eq_true rfl⟩) (xPreV xE_ok hE hK hA hP hD hS (q0 := 0) (ci := 1) rfl rfl rfl) rfl rfl hl.1 rfl (lv_room (Nat.le_of_ble_eq_true rfl)) dX1_sizeOf_2 ⟨Nat.le_of_ble_eq_true rfl, Nat.le_of_ble_eq_true rfl⟩) hD hS hA (fun En ce q9 H locs hxc hP hS hq9 hv9 hcl9 => ?_) (fun r u H locs hp hP hD hS => ?_)
  · exact xx_out htab hlocks hK hq9 hv9 hcl9 hP hD hS (hxc) (Nat.le_of_ble_eq_true rfl) (Nat.le_of_ble_eq_true rfl)
  obtain ⟨hT, hq, hu9⟩ := hp
  rw [hu9] at hP hD
  obtain ⟨k, hk, rfl⟩ := isT_nI hT
  obtain rfl := hq k hk rfl
  have hl : lv_has ls 3 [(0, .ref ax), (1, .int (nI k))] := hl
  refine W.eq (g2 := F0 m 5 ls [.ref (ad k)]) rfl ?_
  · refine lv_astore_n (lv' := [(2, .ref (ad k)), (0, .ref ax), (1, .int (nI k))]) hx hb dX1_sizeOf_5 rfl hl (by decide) rfl (fun ls hl => ?_)
    refine lv_aload_n hx hb dX1_sizeOf_6 rfl (lv_at hl 0 rfl) ?_
    refine s_get hx hb hts hi0 hown hK hE hP hk 1 (by decide) rfl (v := .int (bI (gB σ 1 k))) rfl dX1_sizeOf_7 (fun _ h => h) ?_
    refine x_ifeq (tgt := 20) hx hb dX1_sizeOf_10 (by decide) (fun c_1 => ?_) (fun c_1 => ?_)
    · refine lv_iconst (v := 0) hx hb dX1_sizeOf_20 (by decide) ?_
      refine vx_ret ?_
      refine W.widen (k := 1) (n := 6) (by decide) (by decide) ?_
      exact x_iret hx hb hr hlocks hK (σ) hP hD hS ⟨hT, fun j hj e9 => by rw [← nI_inj32 hk hj e9]; simp [c_1], rfl⟩ dX1_sizeOf_21
    · refine lv_aload_n hx hb dX1_sizeOf_13 rfl (lv_at hl 0 rfl) ?_
      refine s_get hx hb hts hi0 hown hK hE hP hk 3 (by decide) rfl (v := .int (gS σ 3 k)) rfl dX1_sizeOf_14 (fun _ h => h) ?_
      refine lv_goto (tgt := 21) hx hb dX1_sizeOf_17 (by decide) ?_
      refine vx_ret ?_
      refine W.widen (k := 1) (n := 6) (by decide) (by decide) ?_
      exact x_iret hx hb hr hlocks hK (σ) hP hD hS ⟨hT, fun j hj e9 => by rw [← nI_inj32 hk hj e9]; simp [c_1], rfl⟩ dX1_sizeOf_21
set_option maxHeartbeats 4000000 in
set_option maxRecDepth 100000 in
theorem k_X1_frequencyOf (l : Launch) (D : va_G) (ax ar : Nat) (ad : Nat → Nat) (cO : ClassId) (sz : Nat) (σ : St) (t : Int32) (hfl : l.stackTraces = false) : vx_Met l yX1_frequencyOf wsX1_frequencyOf ({ frames := 7, cells := 1, slots := 6, locals := 120 } : Room) (va_Pc [.ref ax, .int t] (xPre D (cT cO) xE (cW ax ar ad cO) σ sz)) (va_Qi (fun (r : Int32) (u : St) => isT t = true ∧ (∀ k, k < 32 → t = nI k → r = if gB σ 1 k then gS σ 4 k else 0) ∧ u = σ) (xB D (cT cO) (cW ax ar ad cO) (va_A (cW ax ar ad cO σ) sz)) (va_A (cW ax ar ad cO σ) sz)) (xXC D (cT cO) (cW ax ar ad cO) (va_A (cW ax ar ad cO σ) sz) σ (fun En => En = xIO ∧ isT t = false)) 1 6 (va_A (cW ax ar ad cO σ) sz) := by
  refine xxOpen (w := (cW ax ar ad cO)) (σ := σ) (cc := cX1_frequencyOf) (maxL := 3) (ret := some .int) (QQ := fun A => va_Qi (fun (r : Int32) (u : St) => isT t = true ∧ (∀ k, k < 32 → t = nI k → r = if gB σ 1 k then gS σ 4 k else 0) ∧ u = σ) (xB D (cT cO) (cW ax ar ad cO) A) A) (XX := fun A => xXC D (cT cO) (cW ax ar ad cO) A σ (fun En => En = xIO ∧ isT t = false)) (by decide) rfl (Nat.le_of_ble_eq_true rfl) ?_
  intro p e s m below meth c A hx hb hr hml hown hts hlocks htab hK hE hA hP hD hS ls hl
  have hl : lv_has ls 3 [(0, .ref ax), (1, .int t)] := hl
  have hown : s.vm.findClass RX1 = some m.cls := hown
  have hi0 : ∀ w ∈ wsX00, w ∈ wsX1_frequencyOf := (fun _ h => List.mem_cons_of_mem _ (List.mem_append_left _ (List.mem_append_left _ (List.mem_append_right _ h))))
  have hi1 : ∀ w ∈ wsX10, w ∈ wsX1_frequencyOf := (fun _ h => List.mem_cons_of_mem _ (List.mem_append_left _ (List.mem_append_right _ h)))
  generalize hH : s.heap = H at hP
  have hS : va_S A s.heap H [] := by rw [← hH]; exact va_S.rf
  generalize hlo : ([] : List Loc) = locs at hS
  refine lv_aload_n hx hb dX1_frequencyOf_0 rfl (lv_at hl 0 rfl) ?_
  refine lv_iload_n hx hb dX1_frequencyOf_1 rfl (lv_at hl 1 rfl) ?_
  refine xx_callq (vx_runV (As := [.int t]) (rest := []) ⟨hx, hb, hml, hown, hts⟩ (k_X1_slotOf l D ax ar ad cO H.size σ t hfl) (cwV 1 hts gX1_frequencyOf_X1_slotOf rfl rfl rfl (by decide +kernel) ⟨Nat.le_of_ble_eq_true rfl, Nat.le_of_ble_eq_true rfl⟩) (xPreV xE_ok hE hK hA hP hD hS (q0 := 0) (ci := 1) rfl rfl rfl) rfl rfl hl.1 rfl (lv_room (Nat.le_of_ble_eq_true rfl)) dX1_frequencyOf_2 ⟨Nat.le_of_ble_eq_true rfl, Nat.le_of_ble_eq_true rfl⟩) hD hS hA (fun En ce q9 H locs hxc hP hS hq9 hv9 hcl9 => ?_) (fun r u H locs hp hP hD hS => ?_)
  · exact xx_out htab hlocks hK hq9 hv9 hcl9 hP hD hS (hxc) (Nat.le_of_ble_eq_true rfl) (Nat.le_of_ble_eq_true rfl)
  obtain ⟨hT, hq, hu9⟩ := hp
  rw [hu9] at hP hD
  obtain ⟨k, hk, rfl⟩ := isT_nI hT
  obtain rfl := hq k hk rfl
  have hl : lv_has ls 3 [(0, .ref ax), (1, .int (nI k))] := hl
  refine W.eq (g2 := F0 m 5 ls [.ref (ad k)]) rfl ?_
  · refine lv_astore_n (lv' := [(2, .ref (ad k)), (0, .ref ax), (1, .int (nI k))]) hx hb dX1_frequencyOf_5 rfl hl (by decide) rfl (fun ls hl => ?_)
    refine lv_aload_n hx hb dX1_frequencyOf_6 rfl (lv_at hl 0 rfl) ?_
    refine s_get hx hb hts hi0 hown hK hE hP hk 1 (by decide) rfl (v := .int (bI (gB σ 1 k))) rfl dX1_frequencyOf_7 (fun _ h => h) ?_
    refine x_ifeq (tgt := 20) hx hb dX1_frequencyOf_10 (by decide) (fun c_1 => ?_) (fun c_1 => ?_)
    · refine lv_iconst (v := 0) hx hb dX1_frequencyOf_20 (by decide) ?_
      refine vx_ret ?_
      refine W.widen (k := 1) (n := 6) (by decide) (by decide) ?_
      exact x_iret hx hb hr hlocks hK (σ) hP hD hS ⟨hT, fun j hj e9 => by rw [← nI_inj32 hk hj e9]; simp [c_1], rfl⟩ dX1_frequencyOf_21
    · refine lv_aload_n hx hb dX1_frequencyOf_13 rfl (lv_at hl 0 rfl) ?_
      refine s_get hx hb hts hi0 hown hK hE hP hk 4 (by decide) rfl (v := .int (gS σ 4 k)) rfl dX1_frequencyOf_14 (fun _ h => h) ?_
      refine lv_goto (tgt := 21) hx hb dX1_frequencyOf_17 (by decide) ?_
      refine vx_ret ?_
      refine W.widen (k := 1) (n := 6) (by decide) (by decide) ?_
      exact x_iret hx hb hr hlocks hK (σ) hP hD hS ⟨hT, fun j hj e9 => by rw [← nI_inj32 hk hj e9]; simp [c_1], rfl⟩ dX1_frequencyOf_21
end
section
set_option maxHeartbeats 4000000 in
set_option maxRecDepth 100000 in
theorem k_X1_worthOf (l : Launch) (D : va_G) (ax ar : Nat) (ad : Nat → Nat) (cO : ClassId) (sz : Nat) (σ : St) (t : Int32) (hfl : l.stackTraces = false) : vx_Met l yX1_worthOf wsX1_worthOf ({ frames := 7, cells := 1, slots := 6, locals := 120 } : Room) (va_Pc [.ref ax, .int t] (xPre D (cT cO) xE (cW ax ar ad cO) σ sz)) (va_Ql (fun (r : Int64) (u : St) => isT t = true ∧ (∀ k, k < 32 → t = nI k → r = if gB σ 1 k then gT σ 6 k else -1) ∧ u = σ) (xB D (cT cO) (cW ax ar ad cO) (va_A (cW ax ar ad cO σ) sz)) (va_A (cW ax ar ad cO σ) sz)) (xXC D (cT cO) (cW ax ar ad cO) (va_A (cW ax ar ad cO σ) sz) σ (fun En => En = xIO ∧ isT t = false)) 1 6 (va_A (cW ax ar ad cO σ) sz) := by
  refine xxOpen (w := (cW ax ar ad cO)) (σ := σ) (cc := cX1_worthOf) (maxL := 3) (ret := some .long) (QQ := fun A => va_Ql (fun (r : Int64) (u : St) => isT t = true ∧ (∀ k, k < 32 → t = nI k → r = if gB σ 1 k then gT σ 6 k else -1) ∧ u = σ) (xB D (cT cO) (cW ax ar ad cO) A) A) (XX := fun A => xXC D (cT cO) (cW ax ar ad cO) A σ (fun En => En = xIO ∧ isT t = false)) (by decide) rfl (Nat.le_of_ble_eq_true rfl) ?_
  intro p e s m below meth c A hx hb hr hml hown hts hlocks htab hK hE hA hP hD hS ls hl
  have hl : lv_has ls 3 [(0, .ref ax), (1, .int t)] := hl
  have hown : s.vm.findClass RX1 = some m.cls := hown
  have hi0 : ∀ w ∈ wsX00, w ∈ wsX1_worthOf := (fun _ h => List.mem_cons_of_mem _ (List.mem_append_left _ (List.mem_append_left _ (List.mem_append_right _ h))))
  have hi1 : ∀ w ∈ wsX10, w ∈ wsX1_worthOf := (fun _ h => List.mem_cons_of_mem _ (List.mem_append_left _ (List.mem_append_right _ h)))
  generalize hH : s.heap = H at hP
  have hS : va_S A s.heap H [] := by rw [← hH]; exact va_S.rf
  generalize hlo : ([] : List Loc) = locs at hS
  refine lv_aload_n hx hb dX1_worthOf_0 rfl (lv_at hl 0 rfl) ?_
  refine lv_iload_n hx hb dX1_worthOf_1 rfl (lv_at hl 1 rfl) ?_
  refine xx_callq (vx_runV (As := [.int t]) (rest := []) ⟨hx, hb, hml, hown, hts⟩ (k_X1_slotOf l D ax ar ad cO H.size σ t hfl) (cwV 1 hts gX1_worthOf_X1_slotOf rfl rfl rfl (by decide +kernel) ⟨Nat.le_of_ble_eq_true rfl, Nat.le_of_ble_eq_true rfl⟩) (xPreV xE_ok hE hK hA hP hD hS (q0 := 0) (ci := 1) rfl rfl rfl) rfl rfl hl.1 rfl (lv_room (Nat.le_of_ble_eq_true rfl)) dX1_worthOf_2 ⟨Nat.le_of_ble_eq_true rfl, Nat.le_of_ble_eq_true rfl⟩) hD hS hA (fun En ce q9 H locs hxc hP hS hq9 hv9 hcl9 => ?_) (fun r u H locs hp hP hD hS => ?_)
  · exact xx_out htab hlocks hK hq9 hv9 hcl9 hP hD hS (hxc) (Nat.le_of_ble_eq_true rfl) (Nat.le_of_ble_eq_true rfl)
  obtain ⟨hT, hq, hu9⟩ := hp
  rw [hu9] at hP hD
  obtain ⟨k, hk, rfl⟩ := isT_nI hT
  obtain rfl := hq k hk rfl
  have hl : lv_has ls 3 [(0, .ref ax), (1, .int (nI k))] := hl
  refine W.eq (g2 := F0 m 5 ls [.ref (ad k)]) rfl ?_
  · refine lv_astore_n (lv' := [(2, .ref (ad k)), (0, .ref ax), (1, .int (nI k))]) hx hb dX1_worthOf_5 rfl hl (by decide) rfl (fun ls hl => ?_)
    refine lv_aload_n hx hb dX1_worthOf_6 rfl (lv_at hl 0 rfl) ?_
    refine s_get hx hb hts hi0 hown hK hE hP hk 1 (by decide) rfl (v := .int (bI (gB σ 1 k))) rfl dX1_worthOf_7 (fun _ h => h) ?_
    refine x_ifeq (tgt := 20) hx hb dX1_worthOf_10 (by decide) (fun c_1 => ?_) (fun c_1 => ?_)
    · refine lv_ldc2 (v := (-1)) hx hb hown (hts _ (List.mem_of_getElem? (i := 1) rfl)) dX1_worthOf_20 ?_
      refine vx_ret ?_
      refine W.widen (k := 1) (n := 6) (by decide) (by decide) ?_
      exact x_lret hx hb hr hlocks hK (σ) hP hD hS ⟨hT, fun j hj e9 => by rw [← nI_inj32 hk hj e9]; simp [c_1], rfl⟩ dX1_worthOf_23
    · refine lv_aload_n hx hb dX1_worthOf_13 rfl (lv_at hl 0 rfl) ?_
      refine s_get hx hb hts hi0 hown hK hE hP hk 6 (by decide) rfl (v := .long (gT σ 6 k)) rfl dX1_worthOf_14 (fun _ h => h) ?_
      refine lv_goto (tgt := 23) hx hb dX1_worthOf_17 (by decide) ?_
      refine vx_ret ?_
      refine W.widen (k := 1) (n := 6) (by decide) (by decide) ?_
      exact x_lret hx hb hr hlocks hK (σ) hP hD hS ⟨hT, fun j hj e9 => by rw [← nI_inj32 hk hj e9]; simp [c_1], rfl⟩ dX1_worthOf_23
set_option maxHeartbeats 4000000 in
set_option maxRecDepth 100000 in
theorem k_X1_endOf (l : Launch) (D : va_G) (ax ar : Nat) (ad : Nat → Nat) (cO : ClassId) (sz : Nat) (σ : St) (t : Int32) (hfl : l.stackTraces = false) : vx_Met l yX1_endOf wsX1_endOf ({ frames := 7, cells := 1, slots := 6, locals := 120 } : Room) (va_Pc [.ref ax, .int t] (xPre D (cT cO) xE (cW ax ar ad cO) σ sz)) (va_Qi (fun (r : Int32) (u : St) => isT t = true ∧ (∀ k, k < 32 → t = nI k → r = if gB σ 1 k then gS σ 5 k else -1) ∧ u = σ) (xB D (cT cO) (cW ax ar ad cO) (va_A (cW ax ar ad cO σ) sz)) (va_A (cW ax ar ad cO σ) sz)) (xXC D (cT cO) (cW ax ar ad cO) (va_A (cW ax ar ad cO σ) sz) σ (fun En => En = xIO ∧ isT t = false)) 1 6 (va_A (cW ax ar ad cO σ) sz) := by
  refine xxOpen (w := (cW ax ar ad cO)) (σ := σ) (cc := cX1_endOf) (maxL := 3) (ret := some .int) (QQ := fun A => va_Qi (fun (r : Int32) (u : St) => isT t = true ∧ (∀ k, k < 32 → t = nI k → r = if gB σ 1 k then gS σ 5 k else -1) ∧ u = σ) (xB D (cT cO) (cW ax ar ad cO) A) A) (XX := fun A => xXC D (cT cO) (cW ax ar ad cO) A σ (fun En => En = xIO ∧ isT t = false)) (by decide) rfl (Nat.le_of_ble_eq_true rfl) ?_
  intro p e s m below meth c A hx hb hr hml hown hts hlocks htab hK hE hA hP hD hS ls hl
  have hl : lv_has ls 3 [(0, .ref ax), (1, .int t)] := hl
  have hown : s.vm.findClass RX1 = some m.cls := hown
  have hi0 : ∀ w ∈ wsX00, w ∈ wsX1_endOf := (fun _ h => List.mem_cons_of_mem _ (List.mem_append_left _ (List.mem_append_left _ (List.mem_append_right _ h))))
  have hi1 : ∀ w ∈ wsX10, w ∈ wsX1_endOf := (fun _ h => List.mem_cons_of_mem _ (List.mem_append_left _ (List.mem_append_right _ h)))
  generalize hH : s.heap = H at hP
  have hS : va_S A s.heap H [] := by rw [← hH]; exact va_S.rf
  generalize hlo : ([] : List Loc) = locs at hS
  refine lv_aload_n hx hb dX1_endOf_0 rfl (lv_at hl 0 rfl) ?_
  refine lv_iload_n hx hb dX1_endOf_1 rfl (lv_at hl 1 rfl) ?_
  refine xx_callq (vx_runV (As := [.int t]) (rest := []) ⟨hx, hb, hml, hown, hts⟩ (k_X1_slotOf l D ax ar ad cO H.size σ t hfl) (cwV 1 hts gX1_endOf_X1_slotOf rfl rfl rfl (by decide +kernel) ⟨Nat.le_of_ble_eq_true rfl, Nat.le_of_ble_eq_true rfl⟩) (xPreV xE_ok hE hK hA hP hD hS (q0 := 0) (ci := 1) rfl rfl rfl) rfl rfl hl.1 rfl (lv_room (Nat.le_of_ble_eq_true rfl)) dX1_endOf_2 ⟨Nat.le_of_ble_eq_true rfl, Nat.le_of_ble_eq_true rfl⟩) hD hS hA (fun En ce q9 H locs hxc hP hS hq9 hv9 hcl9 => ?_) (fun r u H locs hp hP hD hS => ?_)
  · exact xx_out htab hlocks hK hq9 hv9 hcl9 hP hD hS (hxc) (Nat.le_of_ble_eq_true rfl) (Nat.le_of_ble_eq_true rfl)
  obtain ⟨hT, hq, hu9⟩ := hp
  rw [hu9] at hP hD
  obtain ⟨k, hk, rfl⟩ := isT_nI hT
  obtain rfl := hq k hk rfl
  have hl : lv_has ls 3 [(0, .ref ax), (1, .int (nI k))] := hl
  refine W.eq (g2 := F0 m 5 ls [.ref (ad k)]) rfl ?_
  · refine lv_astore_n (lv' := [(2, .ref (ad k)), (0, .ref ax), (1, .int (nI k))]) hx hb dX1_endOf_5 rfl hl (by decide) rfl (fun ls hl => ?_)
    refine lv_aload_n hx hb dX1_endOf_6 rfl (lv_at hl 0 rfl) ?_
    refine s_get hx hb hts hi0 hown hK hE hP hk 1 (by decide) rfl (v := .int (bI (gB σ 1 k))) rfl dX1_endOf_7 (fun _ h => h) ?_
    refine x_ifeq (tgt := 20) hx hb dX1_endOf_10 (by decide) (fun c_1 => ?_) (fun c_1 => ?_)
    · refine lv_iconst (v := (-1)) hx hb dX1_endOf_20 (by decide) ?_
      refine vx_ret ?_
      refine W.widen (k := 1) (n := 6) (by decide) (by decide) ?_
      exact x_iret hx hb hr hlocks hK (σ) hP hD hS ⟨hT, fun j hj e9 => by rw [← nI_inj32 hk hj e9]; simp [c_1], rfl⟩ dX1_endOf_21
    · refine lv_aload_n hx hb dX1_endOf_13 rfl (lv_at hl 0 rfl) ?_
      refine s_get hx hb hts hi0 hown hK hE hP hk 5 (by decide) rfl (v := .int (gS σ 5 k)) rfl dX1_endOf_14 (fun _ h => h) ?_
      refine lv_goto (tgt := 21) hx hb dX1_endOf_17 (by decide) ?_
      refine vx_ret ?_
      refine W.widen (k := 1) (n := 6) (by decide) (by decide) ?_
      exact x_iret hx hb hr hlocks hK (σ) hP hD hS ⟨hT, fun j hj e9 => by rw [← nI_inj32 hk hj e9]; simp [c_1], rfl⟩ dX1_endOf_21
set_option maxHeartbeats 4000000 in
set_option maxRecDepth 100000 in
theorem k_X1_pin (l : Launch) (D : va_G) (ax ar : Nat) (ad : Nat → Nat) (cO : ClassId) (sz : Nat) (σ : St) (t : Int32) (b : Bool) (hfl : l.stackTraces = false) : vx_Met l yX1_pin wsX1_pin ({ frames := 8, cells := 2, slots := 12, locals := 150 } : Room) (va_Pc [.ref ax, .int t, .int (bI b)] (xPre D (cT cO) xE (cW ax ar ad cO) σ sz)) (va_Qi (fun (r : Int32) (u : St) => isT t = true ∧ (∀ k, k < 32 → t = nI k → gB σ 1 k = true ∧ r = bI (gB σ 2 k) ∧ u = uB σ 2 k b)) (xB D (cT cO) (cW ax ar ad cO) (va_A (cW ax ar ad cO σ) sz)) (va_A (cW ax ar ad cO σ) sz)) (xXC D (cT cO) (cW ax ar ad cO) (va_A (cW ax ar ad cO σ) sz) σ (fun En => (En = xIO ∧ isT t = false) ∨ (En = xIS ∧ isT t = true ∧ ∀ k, k < 32 → t = nI k → gB σ 1 k = false))) 2 12 (va_A (cW ax ar ad cO σ) sz) := by
  refine xxOpen (w := (cW ax ar ad cO)) (σ := σ) (cc := cX1_pin) (maxL := 5) (ret := some .boolean) (QQ := fun A => va_Qi (fun (r : Int32) (u : St) => isT t = true ∧ (∀ k, k < 32 → t = nI k → gB σ 1 k = true ∧ r = bI (gB σ 2 k) ∧ u = uB σ 2 k b)) (xB D (cT cO) (cW ax ar ad cO) A) A) (XX := fun A => xXC D (cT cO) (cW ax ar ad cO) A σ (fun En => (En = xIO ∧ isT t = false) ∨ (En = xIS ∧ isT t = true ∧ ∀ k, k < 32 → t = nI k → gB σ 1 k = false))) (by decide) rfl (Nat.le_of_ble_eq_true rfl) ?_
  intro p e s m below meth c A hx hb hr hml hown hts hlocks htab hK hE hA hP hD hS ls hl
  have hl : lv_has ls 5 [(0, .ref ax), (1, .int t), (2, .int (bI b))] := hl
  have hown : s.vm.findClass RX1 = some m.cls := hown
  have hi0 : ∀ w ∈ wsX00, w ∈ wsX1_pin := (fun _ h => List.mem_cons_of_mem _ (List.mem_append_left _ (List.mem_append_left _ (List.mem_append_left _ (List.mem_append_right _ h)))))
  have hi1 : ∀ w ∈ wsX10, w ∈ wsX1_pin := (fun _ h => List.mem_cons_of_mem _ (List.mem_append_left _ (List.mem_append_left _ (List.mem_append_right _ h))))
  generalize hH : s.heap = H at hP
  have hS : va_S A s.heap H [] := by rw [← hH]; exact va_S.rf
  generalize hlo : ([] : List Loc) = locs at hS
  refine lv_aload_n hx hb dX1_pin_0 rfl (lv_at hl 0 rfl) ?_
  refine lv_iload_n hx hb dX1_pin_1 rfl (lv_at hl 1 rfl) ?_
  refine xx_callq (vx_runV (As := [.int t]) (rest := []) ⟨hx, hb, hml, hown, hts⟩ (k_X1_filledSlotOf l D ax ar ad cO H.size σ t hfl) (cwV 1 hts gX1_pin_X1_filledSlotOf rfl rfl rfl (by decide +kernel) ⟨Nat.le_of_ble_eq_true rfl, Nat.le_of_ble_eq_true rfl⟩) (xPreV xE_ok hE hK hA hP hD hS (q0 := 0) (ci := 1) rfl rfl rfl) rfl rfl hl.1 rfl (lv_room (Nat.le_of_ble_eq_true rfl)) dX1_pin_2 ⟨Nat.le_of_ble_eq_true rfl, Nat.le_of_ble_eq_true rfl⟩) hD hS hA (fun En ce q9 H locs hxc hP hS hq9 hv9 hcl9 => ?_) (fun r u H locs hp hP hD hS => ?_)
  · exact xx_out htab hlocks hK hq9 hv9 hcl9 hP hD hS (hxc) (Nat.le_of_ble_eq_true rfl) (Nat.le_of_ble_eq_true rfl)
  obtain ⟨hT, hq, hu9⟩ := hp
  rw [hu9] at hP hD
  obtain ⟨k, hk, rfl⟩ := isT_nI hT
  obtain ⟨hF, rfl⟩ := hq k hk rfl
  have hl : lv_has ls 5 [(0, .ref ax), (1, .int (nI k)), (2, .int (bI b))] := hl
  refine W.eq (g2 := F0 m 5 ls [.ref (ad k)]) rfl ?_
  · refine lv_astore_n (lv' := [(3, .ref (ad k)), (0, .ref ax), (1, .int (nI k)), (2, .int (bI b))]) hx hb dX1_pin_5 rfl hl (by decide) rfl (fun ls hl => ?_)
    refine lv_aload_n hx hb dX1_pin_6 rfl (lv_at hl 0 rfl) ?_
    refine s_get hx hb hts hi0 hown hK hE hP hk 2 (by decide) rfl (v := .int (bI (gB σ 2 k))) rfl dX1_pin_7 (fun _ h => h) ?_
    refine lv_istore (lv' := [(4, .int (bI (gB σ 2 k))), (3, .ref (ad k)), (0, .ref ax), (1, .int (nI k)), (2, .int (bI b))]) hx hb dX1_pin_10 hl (by decide) rfl (fun ls hl => ?_)
    refine lv_aload_n hx hb dX1_pin_12 rfl (lv_at hl 1 rfl) ?_
    refine lv_iload_n hx hb dX1_pin_13 rfl (lv_at hl 4 rfl) ?_
    refine s_put hx hb hts hi0 hown hK hE hP hD hS hk 2 (by decide) rfl (v := .int (bI b)) (ty := .boolean) (uB σ 2 k b) ((sF_self σ k).2.2.2.2.2.2.2 _) (fun i9 hi9 => (sF_other σ hi9).2.2.2.2.2.2.2 _) (cF_uB _ _ _ _ _) rfl (by decide +kernel) (bI_nar _) (bI_fit _) dX1_pin_14 (fun _ h => h) (fun H locs hP hD hS => ?_)
    refine lv_iload hx hb dX1_pin_17 (lv_at hl 0 rfl) ?_
    refine vx_ret ?_
    refine W.widen (k := 2) (n := 12) (by decide) (by decide) ?_
    exact x_zret (b := gB σ 2 k) hx hb hr hlocks hK (uB σ 2 k b) hP hD hS ⟨hT, fun j hj e9 => by rw [← nI_inj32 hk hj e9]; exact ⟨hF, rfl, rfl⟩⟩ dX1_pin_19
end
section
set_option maxHeartbeats 4000000 in
set_option maxRecDepth 100000 in
theorem k_X1_drop (l : Launch) (D : va_G) (ax ar : Nat) (ad : Nat → Nat) (cO : ClassId) (sz : Nat) (σ : St) (t : Int32) (hfl : l.stackTraces = false) : vx_Met l yX1_drop wsX1_drop ({ frames := 8, cells := 2, slots := 12, locals := 150 } : Room) (va_Pc [.ref ax, .int t] (xPre D (cT cO) xE (cW ax ar ad cO) σ sz)) (va_Qi (fun (r : Int32) (u : St) => isT t = true ∧ (∀ k, k < 32 → t = nI k → gB σ 1 k = true ∧ r = gS σ 3 k ∧ u = uB σ 1 k false)) (xB D (cT cO) (cW ax ar ad cO) (va_A (cW ax ar ad cO σ) sz)) (va_A (cW ax ar ad cO σ) sz)) (xXC D (cT cO) (cW ax ar ad cO) (va_A (cW ax ar ad cO σ) sz) σ (fun En => (En = xIO ∧ isT t = false) ∨ (En = xIS ∧ isT t = true ∧ ∀ k, k < 32 → t = nI k → gB σ 1 k = false))) 2 12 (va_A (cW ax ar ad cO σ) sz) := by
  refine xxOpen (w := (cW ax ar ad cO)) (σ := σ) (cc := cX1_drop) (maxL := 3) (ret := some .int) (QQ := fun A => va_Qi (fun (r : Int32) (u : St) => isT t = true ∧ (∀ k, k < 32 → t = nI k → gB σ 1 k = true ∧ r = gS σ 3 k ∧ u = uB σ 1 k false)) (xB D (cT cO) (cW ax ar ad cO) A) A) (XX := fun A => xXC D (cT cO) (cW ax ar ad cO) A σ (fun En => (En = xIO ∧ isT t = false) ∨ (En = xIS ∧ isT t = true ∧ ∀ k, k < 32 → t = nI k → gB σ 1 k = false))) (by decide) rfl (Nat.le_of_ble_eq_true rfl) ?_
  intro p e s m below meth c A hx hb hr hml hown hts hlocks htab hK hE hA hP hD hS ls hl
  have hl : lv_has ls 3 [(0, .ref ax), (1, .int t)] := hl
  have hown : s.vm.findClass RX1 = some m.cls := hown
  have hi0 : ∀ w ∈ wsX00, w ∈ wsX1_drop := (fun _ h => List.mem_cons_of_mem _ (List.mem_append_left _ (List.mem_append_left _ (List.mem_append_left _ (List.mem_append_right _ h)))))
  have hi1 : ∀ w ∈ wsX10, w ∈ wsX1_drop := (fun _ h => List.mem_cons_of_mem _ (List.mem_append_left _ (List.mem_append_left _ (List.mem_append_right _ h))))
  generalize hH : s.heap = H at hP
  have hS : va_S A s.heap H [] := by rw [← hH]; exact va_S.rf
  generalize hlo : ([] : List Loc) = locs at hS
  refine lv_aload_n hx hb dX1_drop_0 rfl (lv_at hl 0 rfl) ?_
  refine lv_iload_n hx hb dX1_drop_1 rfl (lv_at hl 1 rfl) ?_
  refine xx_callq (vx_runV (As := [.int t]) (rest := []) ⟨hx, hb, hml, hown, hts⟩ (k_X1_filledSlotOf l D ax ar ad cO H.size σ t hfl) (cwV 1 hts gX1_drop_X1_filledSlotOf rfl rfl rfl (by decide +kernel) ⟨Nat.le_of_ble_eq_true rfl, Nat.le_of_ble_eq_true rfl⟩) (xPreV xE_ok hE hK hA hP hD hS (q0 := 0) (ci := 1) rfl rfl rfl) rfl rfl hl.1 rfl (lv_room (Nat.le_of_ble_eq_true rfl)) dX1_drop_2 ⟨Nat.le_of_ble_eq_true rfl, Nat.le_of_ble_eq_true rfl⟩) hD hS hA (fun En ce q9 H locs hxc hP hS hq9 hv9 hcl9 => ?_) (fun r u H locs hp hP hD hS => ?_)
  · exact xx_out htab hlocks hK hq9 hv9 hcl9 hP hD hS (hxc) (Nat.le_of_ble_eq_true rfl) (Nat.le_of_ble_eq_true rfl)
  obtain ⟨hT, hq, hu9⟩ := hp
  rw [hu9] at hP hD
  obtain ⟨k, hk, rfl⟩ := isT_nI hT
  obtain ⟨hF, rfl⟩ := hq k hk rfl
  have hl : lv_has ls 3 [(0, .ref ax), (1, .int (nI k))] := hl
  refine W.eq (g2 := F0 m 5 ls [.ref (ad k)]) rfl ?_
  · refine lv_astore_n (lv' := [(2, .ref (ad k)), (0, .ref ax), (1, .int (nI k))]) hx hb dX1_drop_5 rfl hl (by decide) rfl (fun ls hl => ?_)
    refine lv_aload_n hx hb dX1_drop_6 rfl (lv_at hl 0 rfl) ?_
    refine lv_iconst (v := 0) hx hb dX1_drop_7 (by decide) ?_
    refine s_put hx hb hts hi0 hown hK hE hP hD hS hk 1 (by decide) rfl (v := .int (bI false)) (ty := .boolean) (uB σ 1 k false) ((sF_self σ k).2.2.2.2.2.2.1 _) (fun i9 hi9 => (sF_other σ hi9).2.2.2.2.2.2.1 _) (cF_uB _ _ _ _ _) rfl (by decide +kernel) (bI_nar _) (bI_fit _) dX1_drop_8 (fun _ h => h) (fun H locs hP hD hS => ?_)
    refine lv_aload_n hx hb dX1_drop_11 rfl (lv_at hl 0 rfl) ?_
    refine s_get hx hb hts hi0 hown hK hE hP hk 3 (by decide) rfl (v := .int (gS σ 3 k)) rfl dX1_drop_12 (fun _ h => h) ?_
    refine vx_ret ?_
    refine W.widen (k := 2) (n := 12) (by decide) (by decide) ?_
    exact x_iret hx hb hr hlocks hK (uB σ 1 k false) hP hD hS ⟨hT, fun j hj e9 => by rw [← nI_inj32 hk hj e9]; exact ⟨hF, rfl, rfl⟩⟩ dX1_drop_15
set_option maxHeartbeats 4000000 in
set_option maxRecDepth 100000 in
theorem k_X1_wouldLeave (l : Launch) (D : va_G) (ax ar : Nat) (ad : Nat → Nat) (cO : ClassId) (sz : Nat) (σ : St) (t : Int32) (hfl : l.stackTraces = false) : vx_Met l yX1_wouldLeave wsX1_wouldLeave ({ frames := 7, cells := 1, slots := 6, locals := 150 } : Room) (va_Pc [.ref ax, .int t] (xPre D (cT cO) xE (cW ax ar ad cO) σ sz)) (va_Qi (fun (r : Int32) (u : St) => inR t 1 1000 = true ∧ r = cWould σ t ∧ u = σ) (xB D (cT cO) (cW ax ar ad cO) (va_A (cW ax ar ad cO σ) sz)) (va_A (cW ax ar ad cO σ) sz)) (xXC D (cT cO) (cW ax ar ad cO) (va_A (cW ax ar ad cO σ) sz) σ (fun En => En = xIA ∧ inR t 1 1000 = false)) 1 6 (va_A (cW ax ar ad cO σ) sz) := by
  refine xxOpen (w := (cW ax ar ad cO)) (σ := σ) (cc := cX1_wouldLeave) (maxL := 2) (ret := some .int) (QQ := fun A => va_Qi (fun (r : Int32) (u : St) => inR t 1 1000 = true ∧ r = cWould σ t ∧ u = σ) (xB D (cT cO) (cW ax ar ad cO) A) A) (XX := fun A => xXC D (cT cO) (cW ax ar ad cO) A σ (fun En => En = xIA ∧ inR t 1 1000 = false)) (by decide) rfl (Nat.le_of_ble_eq_true rfl) ?_
  intro p e s m below meth c A hx hb hr hml hown hts hlocks htab hK hE hA hP hD hS ls hl
  have hl : lv_has ls 2 [(0, .ref ax), (1, .int t)] := hl
  have hown : s.vm.findClass RX1 = some m.cls := hown
  have hi0 : ∀ w ∈ wsX00, w ∈ wsX1_wouldLeave := (fun _ h => List.mem_cons_of_mem _ (List.mem_append_left _ (List.mem_append_right _ h)))
  have hi1 : ∀ w ∈ wsX10, w ∈ wsX1_wouldLeave := (fun _ h => List.mem_cons_of_mem _ (List.mem_append_left _ (List.mem_append_left _ (List.mem_append_right _ h))))
  generalize hH : s.heap = H at hP
  have hS : va_S A s.heap H [] := by rw [← hH]; exact va_S.rf
  generalize hlo : ([] : List Loc) = locs at hS
  refine lv_iload_n hx hb dX1_wouldLeave_0 rfl (lv_at hl 1 rfl) ?_
  refine lv_iconst (v := 1) hx hb dX1_wouldLeave_1 (by decide) ?_
  refine lv_sipush (v := 1000) hx hb dX1_wouldLeave_2 (by decide) ?_
  refine xx_callv (vx_runS (As := [.int t, .int 1, .int 1000]) (rest := []) ⟨hx, hb, hml, hown, hts⟩ (k_X1_requireWithin l D ax ar ad cO H.size σ t 1 1000 hfl) (va_cwS 3 hts gX1_wouldLeave_X1_requireWithin rfl rfl rfl (by decide +kernel) ⟨Nat.le_of_ble_eq_true rfl, Nat.le_of_ble_eq_true rfl⟩) (xPreS xE_ok hE hK hA hP hD hS) rfl rfl hl.1 rfl (lv_room (Nat.le_of_ble_eq_true rfl)) dX1_wouldLeave_5 ⟨Nat.le_of_ble_eq_true rfl, Nat.le_of_ble_eq_true rfl⟩) hD hS hA (fun En ce q9 H locs hxc hP hS hq9 hv9 hcl9 => ?_) (fun u H locs hp hP hD hS => ?_)
  · exact xx_out htab hlocks hK hq9 hv9 hcl9 hP hD hS (hxc) (Nat.le_of_ble_eq_true rfl) (Nat.le_of_ble_eq_true rfl)
  obtain ⟨v_1, hu9⟩ := hp
  rw [hu9] at hP hD
  · refine lv_iload_n hx hb dX1_wouldLeave_8 rfl (lv_at hl 1 rfl) ?_
    refine lv_aload_n hx hb dX1_wouldLeave_9 rfl (lv_at hl 0 rfl) ?_
    refine c_get hx hb hts hi1 hown hK hP 3 (by decide) (List.mem_of_getElem? (i := 1) rfl) (v := .int (gI σ 3)) rfl dX1_wouldLeave_10 (fun _ h => h) ?_
    refine lv_aload_n hx hb dX1_wouldLeave_13 rfl (lv_at hl 0 rfl) ?_
    refine x_calli (va_runV (As := []) (rest := [.int (gI σ 3), .int t]) ⟨hx, hb, hml, hown, hts⟩ (k_X1_bytesThatCannotLeave l D ax ar ad cO H.size σ) (cwV 0 hts gX1_wouldLeave_X1_bytesThatCannotLeave rfl rfl rfl (by decide +kernel) ⟨Nat.le_of_ble_eq_true rfl, Nat.le_of_ble_eq_true rfl⟩) (xPreV xE_ok hE hK hA hP hD hS (q0 := 0) (ci := 1) rfl rfl rfl) rfl rfl hl.1 rfl (lv_room (Nat.le_of_ble_eq_true rfl)) dX1_wouldLeave_14 ⟨Nat.le_of_ble_eq_true rfl, Nat.le_of_ble_eq_true rfl⟩) hD hS hA (fun r u H locs hp hP hD hS => ?_)
    obtain ⟨rfl, hu9⟩ := hp
    rw [hu9] at hP hD
    refine lv_isub hx hb dX1_wouldLeave_17 ?_
    refine x_icmp_le (tgt := 25) hx hb dX1_wouldLeave_18 (by decide) (fun c_2 => ?_) (fun c_2 => ?_)
    · refine lv_aload_n hx hb dX1_wouldLeave_25 rfl (lv_at hl 0 rfl) ?_
      refine lv_iload_n hx hb dX1_wouldLeave_26 rfl (lv_at hl 1 rfl) ?_
      refine x_calli (va_runV (As := [.int t]) (rest := []) ⟨hx, hb, hml, hown, hts⟩ (k_X1_countThatWouldLeave l D ax ar ad cO H.size σ t) (cwV 1 hts gX1_wouldLeave_X1_countThatWouldLeave rfl rfl rfl (by decide +kernel) ⟨Nat.le_of_ble_eq_true rfl, Nat.le_of_ble_eq_true rfl⟩) (xPreV xE_ok hE hK hA hP hD hS (q0 := 0) (ci := 1) rfl rfl rfl) rfl rfl hl.1 rfl (lv_room (Nat.le_of_ble_eq_true rfl)) dX1_wouldLeave_27 ⟨Nat.le_of_ble_eq_true rfl, Nat.le_of_ble_eq_true rfl⟩) hD hS hA (fun r u H locs hp hP hD hS => ?_)
      obtain ⟨rfl, hu9⟩ := hp
      rw [hu9] at hP hD
      refine vx_ret ?_
      refine W.widen (k := 1) (n := 6) (by decide) (by decide) ?_
      exact x_iret hx hb hr hlocks hK (σ) hP hD hS ⟨v_1, by simp [cWould, c_2], rfl⟩ dX1_wouldLeave_30
    · refine lv_iconst (v := (-1)) hx hb dX1_wouldLeave_21 (by decide) ?_
      refine lv_goto (tgt := 30) hx hb dX1_wouldLeave_22 (by decide) ?_
      refine vx_ret ?_
      refine W.widen (k := 1) (n := 6) (by decide) (by decide) ?_
      exact x_iret hx hb hr hlocks hK (σ) hP hD hS ⟨v_1, by simp [cWould, c_2], rfl⟩ dX1_wouldLeave_30
set_option maxHeartbeats 4000000 in
set_option maxRecDepth 100000 in
theorem k_X1_placeOf (l : Launch) (D : va_G) (ax ar : Nat) (ad : Nat → Nat) (cO : ClassId) (sz : Nat) (σ : St) (t : Int32) (hfl : l.stackTraces = false) : vx_Met l yX1_placeOf wsX1_placeOf ({ frames := 7, cells := 1, slots := 6, locals := 150 } : Room) (va_Pc [.ref ax, .int t] (xPre D (cT cO) xE (cW ax ar ad cO) σ sz)) (va_Qi (fun (r : Int32) (u : St) => isT t = true ∧ (∀ k9, k9 < 32 → t = nI k9 → r = cPlace σ k9) ∧ u = σ) (xB D (cT cO) (cW ax ar ad cO) (va_A (cW ax ar ad cO σ) sz)) (va_A (cW ax ar ad cO σ) sz)) (xXC D (cT cO) (cW ax ar ad cO) (va_A (cW ax ar ad cO σ) sz) σ (fun En => En = xIO ∧ isT t = false)) 1 6 (va_A (cW ax ar ad cO σ) sz) := by
  refine xxOpen (w := (cW ax ar ad cO)) (σ := σ) (cc := cX1_placeOf) (maxL := 8) (ret := some .int) (QQ := fun A => va_Qi (fun (r : Int32) (u : St) => isT t = true ∧ (∀ k9, k9 < 32 → t = nI k9 → r = cPlace σ k9) ∧ u = σ) (xB D (cT cO) (cW ax ar ad cO) A) A) (XX := fun A => xXC D (cT cO) (cW ax ar ad cO) A σ (fun En => En = xIO ∧ isT t = false)) (by decide) rfl (Nat.le_of_ble_eq_true rfl) ?_
  intro p e s m below meth c A hx hb hr hml hown hts hlocks htab hK hE hA hP hD hS ls hl
  have hl : lv_has ls 8 [(0, .ref ax), (1, .int t)] := hl
  have hown : s.vm.findClass RX1 = some m.cls := hown
  have hi0 : ∀ w ∈ wsX00, w ∈ wsX1_placeOf := (fun _ h => List.mem_cons_of_mem _ (List.mem_append_left _ (List.mem_append_right _ h)))
  have hi1 : ∀ w ∈ wsX10, w ∈ wsX1_placeOf := (fun _ h => List.mem_cons_of_mem _ (List.mem_append_left _ (List.mem_append_left _ (List.mem_append_right _ h))))
  generalize hH : s.heap = H at hP
  have hS : va_S A s.heap H [] := by rw [← hH]; exact va_S.rf
  generalize hlo : ([] : List Loc) = locs at hS
  refine lv_aload_n hx hb dX1_placeOf_0 rfl (lv_at hl 0 rfl) ?_
  refine lv_iload_n hx hb dX1_placeOf_1 rfl (lv_at hl 1 rfl) ?_
  refine xx_callq (vx_runV (As := [.int t]) (rest := []) ⟨hx, hb, hml, hown, hts⟩ (k_X1_slotOf l D ax ar ad cO H.size σ t hfl) (cwV 1 hts gX1_placeOf_X1_slotOf rfl rfl rfl (by decide +kernel) ⟨Nat.le_of_ble_eq_true rfl, Nat.le_of_ble_eq_true rfl⟩) (xPreV xE_ok hE hK hA hP hD hS (q0 := 0) (ci := 1) rfl rfl rfl) rfl rfl hl.1 rfl (lv_room (Nat.le_of_ble_eq_true rfl)) dX1_placeOf_2 ⟨Nat.le_of_ble_eq_true rfl, Nat.le_of_ble_eq_true rfl⟩) hD hS hA (fun En ce q9 H locs hxc hP hS hq9 hv9 hcl9 => ?_) (fun r u H locs hp hP hD hS => ?_)
  · exact xx_out htab hlocks hK hq9 hv9 hcl9 hP hD hS (hxc) (Nat.le_of_ble_eq_true rfl) (Nat.le_of_ble_eq_true rfl)
  obtain ⟨hT, hq, hu9⟩ := hp
  rw [hu9] at hP hD
  obtain ⟨k, hk, rfl⟩ := isT_nI hT
  obtain rfl := hq k hk rfl
  have hl : lv_has ls 8 [(0, .ref ax), (1, .int (nI k))] := hl
  refine W.eq (g2 := F0 m 5 ls [.ref (ad k)]) rfl ?_
  · refine lv_astore_n (lv' := [(2, .ref (ad k)), (0, .ref ax), (1, .int (nI k))]) hx hb dX1_placeOf_5 rfl hl (by decide) rfl (fun ls hl => ?_)
    refine lv_aload_n hx hb dX1_placeOf_6 rfl (lv_at hl 0 rfl) ?_
    refine x_calli (va_runS (As := [.ref (ad k)]) (rest := []) ⟨hx, hb, hml, hown, hts⟩ (k_X1_isInOrder l D ax ar ad cO H.size σ hk) (va_cwS 1 hts gX1_placeOf_X1_isInOrder rfl rfl rfl (by decide +kernel) ⟨Nat.le_of_ble_eq_true rfl, Nat.le_of_ble_eq_true rfl⟩) (xPreS xE_ok hE hK hA hP hD hS) rfl rfl hl.1 rfl (lv_room (Nat.le_of_ble_eq_true rfl)) dX1_placeOf_7 ⟨Nat.le_of_ble_eq_true rfl, Nat.le_of_ble_eq_true rfl⟩) hD hS hA (fun r u H locs hp hP hD hS => ?_)
    obtain ⟨rfl, hu9⟩ := hp
    rw [hu9] at hP hD
    refine x_ifne (tgt := 15) hx hb dX1_placeOf_10 (by decide) (fun c_1 => ?_) (fun c_1 => ?_)
    · refine lv_iconst (v := 0) hx hb dX1_placeOf_15 (by decide) ?_
      refine lv_istore_n (lv' := [(3, .int 0), (2, .ref (ad k)), (0, .ref ax), (1, .int (nI k))]) hx hb dX1_placeOf_16 rfl hl (by decide) rfl (fun ls hl => ?_)
      refine lv_aload_n hx hb dX1_placeOf_17 rfl (lv_at hl 2 rfl) ?_
      refine c_get hx hb hts hi1 hown hK hP 0 (by decide) (List.mem_of_getElem? (i := 1) rfl) (v := .ref ar) rfl dX1_placeOf_18 (fun _ h => h) ?_
      refine lv_astore (lv' := [(4, .ref ar), (3, .int 0), (2, .ref (ad k)), (0, .ref ax), (1, .int (nI k))]) hx hb dX1_placeOf_21 hl (by decide) rfl (fun ls hl => ?_)
      refine lv_aload hx hb dX1_placeOf_23 (lv_at hl 0 rfl) ?_
      refine c_alen hx hb hK hP dX1_placeOf_25 ?_
      refine lv_istore (lv' := [(5, .int 32), (4, .ref ar), (3, .int 0), (2, .ref (ad k)), (0, .ref ax), (1, .int (nI k))]) hx hb dX1_placeOf_26 hl (by decide) rfl (fun ls hl => ?_)
      refine lv_iconst (v := 0) hx hb dX1_placeOf_28 (by decide) ?_
      refine lv_istore (lv' := [(6, .int 0), (5, .int 32), (4, .ref ar), (3, .int 0), (2, .ref (ad k)), (0, .ref ax), (1, .int (nI k))]) hx hb dX1_placeOf_29 hl (by decide) rfl (fun ls hl => ?_)
      have loop : ∀ (n i : Nat) (ls : Array Slot) (H : Heap) (locs : List Loc), i ≤ 32 → 32 - i < n → va_P D vwCl (cW ax ar ad cO (σ)) H → va_D A (cW ax ar ad cO (σ)) → va_S A s.heap H locs → lv_has ls 8 [(0, .ref ax), (1, .int (nI k)), (2, .ref (ad k)), (3, .int (sumI (placeF σ k) i)), (4, .ref ar), (5, .int 32), (6, .int (nI i))] → W p l e (headSpec wsX1_placeOf ({ frames := 7, cells := 1, slots := 6, locals := 150 } : Room)).room s m [.ref ax, .int (nI k)].toArray below meth c H locs 1 6 (vx_MQ below (va_Qi (fun (r : Int32) (u : St) => isT (nI k) = true ∧ (∀ k9, k9 < 32 → (nI k) = nI k9 → r = cPlace σ k9) ∧ u = σ) (xB D (cT cO) (cW ax ar ad cO) A) A) (xXC D (cT cO) (cW ax ar ad cO) A σ (fun En => En = xIO ∧ isT (nI k) = false)) [.ref ax, .int (nI k)].toArray s 1 6 A) (F0 m 31 ls []) := by
        intro n
        induction n with
        | zero =>
          intro i ls H locs h1 h2
          exact absurd h2 (by omega)
        | succ n ih =>
          intro i ls H locs hi hn hP hD hS hl
          refine lv_iload hx hb dX1_placeOf_31 (lv_at hl 6 rfl) ?_
          refine lv_iload hx hb dX1_placeOf_33 (lv_at hl 5 rfl) ?_
          refine x_icmp_ge (tgt := 71) hx hb dX1_placeOf_35 (by decide) (fun c_2 => ?_) (fun c_2 => ?_)
          · have hi9 : i = 32 := by
              rcases Nat.lt_or_ge i 32 with q | q
              · exact absurd ((nI_lt32 hi).mpr q) c_2
              · omega
            subst hi9
            refine lv_iload_n hx hb dX1_placeOf_71 rfl (lv_at hl 3 rfl) ?_
            refine vx_ret ?_
            refine W.widen (k := 1) (n := 6) (by decide) (by decide) ?_
            exact x_iret hx hb hr hlocks hK (σ) hP hD hS ⟨hT, fun j hj e9 => by rw [← nI_inj32 hk hj e9]; simp [cPlace, c_1], rfl⟩ dX1_placeOf_72
          · have hlt : i < 32 := (nI_lt32 hi).mp c_2
            refine lv_aload hx hb dX1_placeOf_38 (lv_at hl 4 rfl) ?_
            refine lv_iload hx hb dX1_placeOf_40 (lv_at hl 6 rfl) ?_
            refine c_aald hx hb hK hP hlt dX1_placeOf_42 ?_
            refine lv_astore (lv' := [(7, .ref (ad i)), (0, .ref ax), (1, .int (nI k)), (2, .ref (ad k)), (3, .int (sumI (placeF σ k) i)), (4, .ref ar), (5, .int 32), (6, .int (nI i))]) hx hb dX1_placeOf_43 hl (by decide) rfl (fun ls hl => ?_)
            refine lv_aload hx hb dX1_placeOf_45 (lv_at hl 0 rfl) ?_
            refine x_calli (va_runS (As := [.ref (ad i)]) (rest := []) ⟨hx, hb, hml, hown, hts⟩ (k_X1_isInOrder l D ax ar ad cO H.size σ hlt) (va_cwS 1 hts gX1_placeOf_X1_isInOrder rfl rfl rfl (by decide +kernel) ⟨Nat.le_of_ble_eq_true rfl, Nat.le_of_ble_eq_true rfl⟩) (xPreS xE_ok hE hK hA hP hD hS) rfl rfl hl.1 rfl (lv_room (Nat.le_of_ble_eq_true rfl)) dX1_placeOf_47 ⟨Nat.le_of_ble_eq_true rfl, Nat.le_of_ble_eq_true rfl⟩) hD hS hA (fun r u H locs hp hP hD hS => ?_)
            obtain ⟨rfl, hu9⟩ := hp
            rw [hu9] at hP hD
            refine x_ifeq (tgt := 65) hx hb dX1_placeOf_50 (by decide) (fun c_3 => ?_) (fun c_3 => ?_)
            · refine lv_iinc (v := (nI i) + 1) (lv' := [(6, .int ((nI i) + 1)), (7, .ref (ad i)), (0, .ref ax), (1, .int (nI k)), (2, .ref (ad k)), (3, .int (sumI (placeF σ k) i)), (4, .ref ar), (5, .int 32)]) hx hb dX1_placeOf_65 hl (k := 7) rfl rfl (by decide) rfl (fun ls hl => ?_)
              refine lv_goto (tgt := 31) hx hb dX1_placeOf_68 (by decide) ?_
              have e9_0 : sumI (placeF σ k) (i + 1) = sumI (placeF σ k) i := by simp [sumI, placeF, Int32.add_zero, c_1, c_2, c_3]
              exact ih (i + 1) ls H locs (by omega) (by omega) hP hD hS (by rw [e9_0, nI_succ]; exact lv_sub hl [2, 3, 4, 5, 6, 7, 0] rfl)
            · refine lv_aload hx hb dX1_placeOf_53 (lv_at hl 0 rfl) ?_
              refine lv_aload_n hx hb dX1_placeOf_55 rfl (lv_at hl 3 rfl) ?_
              refine x_calli (va_runS (As := [.ref (ad i), .ref (ad k)]) (rest := []) ⟨hx, hb, hml, hown, hts⟩ (k_X1_leavesBefore l D ax ar ad cO H.size σ hlt hk) (va_cwS 2 hts gX1_placeOf_X1_leavesBefore rfl rfl rfl (by decide +kernel) ⟨Nat.le_of_ble_eq_true rfl, Nat.le_of_ble_eq_true rfl⟩) (xPreS xE_ok hE hK hA hP hD hS) rfl rfl hl.1 rfl (lv_room (Nat.le_of_ble_eq_true rfl)) dX1_placeOf_56 ⟨Nat.le_of_ble_eq_true rfl, Nat.le_of_ble_eq_true rfl⟩) hD hS hA (fun r u H locs hp hP hD hS => ?_)
              obtain ⟨rfl, hu9⟩ := hp
              rw [hu9] at hP hD
              refine x_ifeq (tgt := 65) hx hb dX1_placeOf_59 (by decide) (fun c_4 => ?_) (fun c_4 => ?_)
              · refine lv_iinc (v := (nI i) + 1) (lv' := [(6, .int ((nI i) + 1)), (7, .ref (ad i)), (0, .ref ax), (1, .int (nI k)), (2, .ref (ad k)), (3, .int (sumI (placeF σ k) i)), (4, .ref ar), (5, .int 32)]) hx hb dX1_placeOf_65 hl (k := 7) rfl rfl (by decide) rfl (fun ls hl => ?_)
                refine lv_goto (tgt := 31) hx hb dX1_placeOf_68 (by decide) ?_
                have e9_0 : sumI (placeF σ k) (i + 1) = sumI (placeF σ k) i := by simp [sumI, placeF, Int32.add_zero, c_1, c_2, c_3, c_4]
                exact ih (i + 1) ls H locs (by omega) (by omega) hP hD hS (by rw [e9_0, nI_succ]; exact lv_sub hl [2, 3, 4, 5, 6, 7, 0] rfl)
              · refine lv_iinc (v := (sumI (placeF σ k) i) + 1) (lv' := [(3, .int ((sumI (placeF σ k) i) + 1)), (7, .ref (ad i)), (0, .ref ax), (1, .int (nI k)), (2, .ref (ad k)), (4, .ref ar), (5, .int 32), (6, .int (nI i))]) hx hb dX1_placeOf_62 hl (k := 4) rfl rfl (by decide) rfl (fun ls hl => ?_)
                refine lv_iinc (v := (nI i) + 1) (lv' := [(6, .int ((nI i) + 1)), (3, .int ((sumI (placeF σ k) i) + 1)), (7, .ref (ad i)), (0, .ref ax), (1, .int (nI k)), (2, .ref (ad k)), (4, .ref ar), (5, .int 32)]) hx hb dX1_placeOf_65 hl (k := 7) rfl rfl (by decide) rfl (fun ls hl => ?_)
                refine lv_goto (tgt := 31) hx hb dX1_placeOf_68 (by decide) ?_
                have e9_0 : sumI (placeF σ k) (i + 1) = (sumI (placeF σ k) i) + 1 := by simp [sumI, placeF, Int32.add_zero, c_1, c_2, c_3, c_4]
                exact ih (i + 1) ls H locs (by omega) (by omega) hP hD hS (by rw [e9_0, nI_succ]; exact lv_sub hl [3, 4, 5, 1, 6, 7, 0] rfl)
      exact loop 33 0 _ _ _ (Nat.zero_le _) (by decide) hP hD hS (lv_sub hl [5, 6, 4, 3, 2, 1, 0] rfl)
    · refine lv_iconst (v := (-1)) hx hb dX1_placeOf_13 (by decide) ?_
      refine vx_ret ?_
      refine W.widen (k := 1) (n := 6) (by decide) (by decide) ?_
      exact x_iret hx hb hr hlocks hK (σ) hP hD hS ⟨hT, fun j hj e9 => by rw [← nI_inj32 hk hj e9]; simp [cPlace, c_1], rfl⟩ dX1_placeOf_14
end
section
set_option maxHeartbeats 4000000 in
set_option maxRecDepth 100000 in
theorem k_X1_endsFirst (l : Launch) (D : va_G) (ax ar : Nat) (ad : Nat → Nat) (cO : ClassId) (sz : Nat) (σ : St) : Met l yX1_endsFirst wsX1_endsFirst ({ frames := 0, cells := 0, slots := 0, locals := 0 } : Room) (va_Pc [.ref ax] (xPre D (cT cO) xE (cW ax ar ad cO) σ sz)) (va_Qi (fun (r : Int32) (u : St) => r = cEnds σ ∧ u = σ) (xB D (cT cO) (cW ax ar ad cO) (va_A (cW ax ar ad cO σ) sz)) (va_A (cW ax ar ad cO σ) sz)) 0 0 (va_A (cW ax ar ad cO σ) sz) := by
  refine xOpen (w := (cW ax ar ad cO)) (σ := σ) (cc := cX1_endsFirst) (maxL := 6) (ret := some .int) (QQ := fun A => va_Qi (fun (r : Int32) (u : St) => r = cEnds σ ∧ u = σ) (xB D (cT cO) (cW ax ar ad cO) A) A) (by decide) rfl (Nat.le_of_ble_eq_true rfl) ?_
  intro p e s m below meth c A hx hb hr hml hown hts hlocks hname hK hE hA hP hD hS ls hl
  have hl : lv_has ls 6 [(0, .ref ax)] := hl
  have hown : s.vm.findClass RX1 = some m.cls := hown
  have hi0 : ∀ w ∈ wsX00, w ∈ wsX1_endsFirst := (fun _ h => List.mem_cons_of_mem _ (List.mem_append_right _ h))
  have hi1 : ∀ w ∈ wsX10, w ∈ wsX1_endsFirst := (fun _ h => List.mem_cons_of_mem _ (List.mem_append_left _ (List.mem_append_right _ h)))
  generalize hH : s.heap = H at hP
  have hS : va_S A s.heap H [] := by rw [← hH]; exact va_S.rf
  generalize hlo : ([] : List Loc) = locs at hS
  refine lv_null hx hb dX1_endsFirst_0 ?_
  refine lv_astore_nN (lv' := [(1, .null), (0, .ref ax)]) hx hb dX1_endsFirst_1 rfl hl (by decide) rfl (fun ls hl => ?_)
  refine lv_aload_n hx hb dX1_endsFirst_2 rfl (lv_at hl 1 rfl) ?_
  refine c_get hx hb hts hi1 hown hK hP 0 (by decide) (List.mem_of_getElem? (i := 1) rfl) (v := .ref ar) rfl dX1_endsFirst_3 (fun _ h => h) ?_
  refine lv_astore_n (lv' := [(2, .ref ar), (1, .null), (0, .ref ax)]) hx hb dX1_endsFirst_6 rfl hl (by decide) rfl (fun ls hl => ?_)
  refine lv_aload_n hx hb dX1_endsFirst_7 rfl (lv_at hl 0 rfl) ?_
  refine c_alen hx hb hK hP dX1_endsFirst_8 ?_
  refine lv_istore_n (lv' := [(3, .int 32), (2, .ref ar), (1, .null), (0, .ref ax)]) hx hb dX1_endsFirst_9 rfl hl (by decide) rfl (fun ls hl => ?_)
  refine lv_iconst (v := 0) hx hb dX1_endsFirst_10 (by decide) ?_
  refine lv_istore (lv' := [(4, .int 0), (3, .int 32), (2, .ref ar), (1, .null), (0, .ref ax)]) hx hb dX1_endsFirst_11 hl (by decide) rfl (fun ls hl => ?_)
  have loop : ∀ (n i : Nat) (ls : Array Slot), i ≤ 32 → 32 - i < n → lv_has ls 6 [(0, .ref ax), (1, va_rf ((efR σ i).map ad)), (2, .ref ar), (3, .int 32), (4, .int (nI i))] → W p l e (headSpec wsX1_endsFirst ({ frames := 0, cells := 0, slots := 0, locals := 0 } : Room)).room s m [.ref ax].toArray below meth c H locs 0 0 (MQ below (va_Qi (fun (r : Int32) (u : St) => r = cEnds σ ∧ u = σ) (xB D (cT cO) (cW ax ar ad cO) A) A) [.ref ax].toArray s 0 0 A) (F0 m 13 ls []) := by
    intro n
    induction n with
    | zero =>
      intro i ls h1 h2
      exact absurd h2 (by omega)
    | succ n ih =>
      intro i ls hi hn hl
      refine lv_iload hx hb dX1_endsFirst_13 (lv_at hl 4 rfl) ?_
      refine lv_iload_n hx hb dX1_endsFirst_15 rfl (lv_at hl 3 rfl) ?_
      refine x_icmp_ge (tgt := 58) hx hb dX1_endsFirst_16 (by decide) (fun c_1 => ?_) (fun c_1 => ?_)
      · have hi9 : i = 32 := by
          rcases Nat.lt_or_ge i 32 with q | q
          · exact absurd ((nI_lt32 hi).mpr q) c_1
          · omega
        subst hi9
        refine x_aload_nQ hx hb dX1_endsFirst_58 rfl (lv_at hl 1 rfl) ?_
        refine x_ifnonnullQ (tgt := 66) hx hb dX1_endsFirst_59 (by decide) (fun k_3 c_2 => ?_) (fun c_2 => ?_)
        · have hk_3 : k_3 < 32 := Nat.lt_of_lt_of_le (efR_lt _ _ _ c_2) hi
          refine x_aload_nQ hx hb dX1_endsFirst_66 rfl (lv_at hl 1 rfl) ?_
          refine W.eq (g2 := F0 m 67 ls [.ref (ad k_3)]) (by rw [c_2]; rfl) ?_
          refine s_get hx hb hts hi0 hown hK hE hP hk_3 0 (by decide) rfl (v := .int (gS σ 0 k_3)) rfl dX1_endsFirst_67 (fun _ h => h) ?_
          exact x_iret hx hb hr hlocks hK (σ) hP hD hS ⟨by rw [cEnds, c_2], rfl⟩ dX1_endsFirst_70
        · refine lv_iconst (v := (-1)) hx hb dX1_endsFirst_62 (by decide) ?_
          refine lv_goto (tgt := 70) hx hb dX1_endsFirst_63 (by decide) ?_
          exact x_iret hx hb hr hlocks hK (σ) hP hD hS ⟨by rw [cEnds, c_2], rfl⟩ dX1_endsFirst_70
      · have hlt : i < 32 := (nI_lt32 hi).mp c_1
        refine lv_aload_n hx hb dX1_endsFirst_19 rfl (lv_at hl 2 rfl) ?_
        refine lv_iload hx hb dX1_endsFirst_20 (lv_at hl 4 rfl) ?_
        refine c_aald hx hb hK hP hlt dX1_endsFirst_22 ?_
        refine lv_astore (lv' := [(5, .ref (ad i)), (0, .ref ax), (1, va_rf ((efR σ i).map ad)), (2, .ref ar), (3, .int 32), (4, .int (nI i))]) hx hb dX1_endsFirst_23 hl (by decide) rfl (fun ls hl => ?_)
        refine lv_aload hx hb dX1_endsFirst_25 (lv_at hl 0 rfl) ?_
        refine s_get hx hb hts hi0 hown hK hE hP hlt 1 (by decide) rfl (v := .int (bI (gB σ 1 i))) rfl dX1_endsFirst_27 (fun _ h => h) ?_
        refine x_ifeq (tgt := 52) hx hb dX1_endsFirst_30 (by decide) (fun c_4 => ?_) (fun c_4 => ?_)
        · refine lv_iinc (v := (nI i) + 1) (lv' := [(4, .int ((nI i) + 1)), (5, .ref (ad i)), (0, .ref ax), (1, va_rf ((efR σ i).map ad)), (2, .ref ar), (3, .int 32)]) hx hb dX1_endsFirst_52 hl (k := 5) rfl rfl (by decide) rfl (fun ls hl => ?_)
          refine lv_goto (tgt := 13) hx hb dX1_endsFirst_55 (by decide) ?_
          have e9_0 : efR σ (i + 1) = efR σ i := by rw [efR_s]; simp [endO, c_1, c_4]
          exact ih (i + 1) ls (by omega) (by omega) (by rw [e9_0, nI_succ]; exact lv_sub hl [2, 3, 4, 5, 0] rfl)
        · refine x_aload_nQ hx hb dX1_endsFirst_33 rfl (lv_at hl 2 rfl) ?_
          refine x_ifnullQ (tgt := 49) hx hb dX1_endsFirst_34 (by decide) (fun c_5 => ?_) (fun k_6 c_5 => ?_)
          · refine lv_aload hx hb dX1_endsFirst_49 (lv_at hl 0 rfl) ?_
            refine lv_astore_n (lv' := [(1, .ref (ad i)), (5, .ref (ad i)), (0, .ref ax), (2, .ref ar), (3, .int 32), (4, .int (nI i))]) hx hb dX1_endsFirst_51 rfl hl (by decide) rfl (fun ls hl => ?_)
            refine lv_iinc (v := (nI i) + 1) (lv' := [(4, .int ((nI i) + 1)), (1, .ref (ad i)), (5, .ref (ad i)), (0, .ref ax), (2, .ref ar), (3, .int 32)]) hx hb dX1_endsFirst_52 hl (k := 5) rfl rfl (by decide) rfl (fun ls hl => ?_)
            refine lv_goto (tgt := 13) hx hb dX1_endsFirst_55 (by decide) ?_
            have e9_0 : efR σ (i + 1) = some i := by rw [efR_s, c_5]; simp [endO, c_1, c_4]
            exact ih (i + 1) ls (by omega) (by omega) (by rw [e9_0, nI_succ]; exact lv_sub hl [3, 1, 4, 5, 0] rfl)
          · have hk_6 : k_6 < 32 := Nat.lt_of_lt_of_le (efR_lt _ _ _ c_5) hi
            refine lv_aload hx hb dX1_endsFirst_37 (lv_at hl 0 rfl) ?_
            refine s_get hx hb hts hi0 hown hK hE hP hlt 5 (by decide) rfl (v := .int (gS σ 5 i)) rfl dX1_endsFirst_39 (fun _ h => h) ?_
            refine x_aload_nQ hx hb dX1_endsFirst_42 rfl (lv_at hl 2 rfl) ?_
            refine W.eq (g2 := F0 m 43 ls [.ref (ad k_6), .int (gS σ 5 i)]) (by rw [c_5]; rfl) ?_
            refine s_get hx hb hts hi0 hown hK hE hP hk_6 5 (by decide) rfl (v := .int (gS σ 5 k_6)) rfl dX1_endsFirst_43 (fun _ h => h) ?_
            refine x_icmp_ge (tgt := 52) hx hb dX1_endsFirst_46 (by decide) (fun c_7 => ?_) (fun c_7 => ?_)
            · refine lv_iinc (v := (nI i) + 1) (lv' := [(4, .int ((nI i) + 1)), (5, .ref (ad i)), (0, .ref ax), (1, va_rf ((efR σ i).map ad)), (2, .ref ar), (3, .int 32)]) hx hb dX1_endsFirst_52 hl (k := 5) rfl rfl (by decide) rfl (fun ls hl => ?_)
              refine lv_goto (tgt := 13) hx hb dX1_endsFirst_55 (by decide) ?_
              have e9_0 : efR σ (i + 1) = efR σ i := by rw [efR_s, c_5]; simp [endO, c_1, c_4, c_7]
              exact ih (i + 1) ls (by omega) (by omega) (by rw [e9_0, nI_succ]; exact lv_sub hl [2, 3, 4, 5, 0] rfl)
            · refine lv_aload hx hb dX1_endsFirst_49 (lv_at hl 0 rfl) ?_
              refine lv_astore_n (lv' := [(1, .ref (ad i)), (5, .ref (ad i)), (0, .ref ax), (2, .ref ar), (3, .int 32), (4, .int (nI i))]) hx hb dX1_endsFirst_51 rfl hl (by decide) rfl (fun ls hl => ?_)
              refine lv_iinc (v := (nI i) + 1) (lv' := [(4, .int ((nI i) + 1)), (1, .ref (ad i)), (5, .ref (ad i)), (0, .ref ax), (2, .ref ar), (3, .int 32)]) hx hb dX1_endsFirst_52 hl (k := 5) rfl rfl (by decide) rfl (fun ls hl => ?_)
              refine lv_goto (tgt := 13) hx hb dX1_endsFirst_55 (by decide) ?_
              have e9_0 : efR σ (i + 1) = some i := by rw [efR_s, c_5]; simp [endO, c_1, c_4, c_7]
              exact ih (i + 1) ls (by omega) (by omega) (by rw [e9_0, nI_succ]; exact lv_sub hl [3, 1, 4, 5, 0] rfl)
  exact loop 33 0 _ (Nat.zero_le _) (by decide) (lv_sub hl [4, 3, 2, 1, 0] rfl)
set_option maxHeartbeats 4000000 in
set_option maxRecDepth 100000 in
theorem k_X1_leaving (l : Launch) (D : va_G) (ax ar : Nat) (ad : Nat → Nat) (cO : ClassId) (sz : Nat) (σ : St) (t : Int32) (N : Nat) (hN : N < 64) (h1 : ∀ j, j < N → nI j < t ∧ nth σ j ≠ none) (h2 : (¬ nI N < t ∨ nth σ N = none) ∧ (¬ t < 32 → nth σ N = none)) (hfl : l.stackTraces = false) : vx_Met l yX1_leaving wsX1_leaving ({ frames := 6, cells := 1, slots := 6, locals := 150 } : Room) (va_Pc [.ref ax, .int t] (xPre D (cT cO) xE (cW ax ar ad cO) σ sz)) (va_Qi (fun (r : Int32) (u : St) => ¬ t < 0 ∧ (∃ k, nth σ N = some k ∧ r = gS σ 0 k) ∧ u = σ) (xB D (cT cO) (cW ax ar ad cO) (va_A (cW ax ar ad cO σ) sz)) (va_A (cW ax ar ad cO σ) sz)) (xXC D (cT cO) (cW ax ar ad cO) (va_A (cW ax ar ad cO σ) sz) σ (fun En => En = xIO ∧ (t < 0 ∨ nth σ N = none))) 1 6 (va_A (cW ax ar ad cO σ) sz) := by
  refine xxOpen (w := (cW ax ar ad cO)) (σ := σ) (cc := cX1_leaving) (maxL := 4) (ret := some .int) (QQ := fun A => va_Qi (fun (r : Int32) (u : St) => ¬ t < 0 ∧ (∃ k, nth σ N = some k ∧ r = gS σ 0 k) ∧ u = σ) (xB D (cT cO) (cW ax ar ad cO) A) A) (XX := fun A => xXC D (cT cO) (cW ax ar ad cO) A σ (fun En => En = xIO ∧ (t < 0 ∨ nth σ N = none))) (by decide) rfl (Nat.le_of_ble_eq_true rfl) ?_
  intro p e s m below meth c A hx hb hr hml hown hts hlocks htab hK hE hA hP hD hS ls hl
  have hl : lv_has ls 4 [(0, .ref ax), (1, .int t)] := hl
  have hown : s.vm.findClass RX1 = some m.cls := hown
  have hi0 : ∀ w ∈ wsX00, w ∈ wsX1_leaving := (fun _ h => List.mem_cons_of_mem _ (List.mem_append_left _ (List.mem_append_left _ (List.mem_append_right _ h))))
  have hi1 : ∀ w ∈ wsX10, w ∈ wsX1_leaving := (fun _ h => List.mem_cons_of_mem _ (List.mem_append_left _ (List.mem_append_right _ h)))
  generalize hH : s.heap = H at hP
  have hS : va_S A s.heap H [] := by rw [← hH]; exact va_S.rf
  generalize hlo : ([] : List Loc) = locs at hS
  refine lv_iload_n hx hb dX1_leaving_0 rfl (lv_at hl 1 rfl) ?_
  refine lv_if_lt (tgt := 10) hx hb dX1_leaving_1 (by decide) (fun c_1 => ?_) (fun c_1 => ?_)
  · refine lv_null hx hb dX1_leaving_10 ?_
    refine lv_goto (tgt := 18) hx hb dX1_leaving_11 (by decide) ?_
    refine lv_astore_nN (lv' := [(2, .null), (0, .ref ax), (1, .int t)]) hx hb dX1_leaving_18 rfl hl (by decide) rfl (fun ls hl => ?_)
    refine lv_iconst (v := 0) hx hb dX1_leaving_19 (by decide) ?_
    refine lv_istore_n (lv' := [(3, .int 0), (2, .null), (0, .ref ax), (1, .int t)]) hx hb dX1_leaving_20 rfl hl (by decide) rfl (fun ls hl => ?_)
    refine lv_iload_n hx hb dX1_leaving_21 rfl (lv_at hl 0 rfl) ?_
    refine lv_iload_n hx hb dX1_leaving_22 rfl (lv_at hl 3 rfl) ?_
    refine x_icmp_ge (tgt := 42) hx hb dX1_leaving_23 (by decide) (fun c_2 => ?_) (fun c_2 => ?_)
    · refine lv_aload_nN hx hb dX1_leaving_42 rfl (lv_at hl 1 rfl) ?_
      refine lv_ifnonnullN hx hb dX1_leaving_43 ?_
      obtain ⟨sa, hsa⟩ := hE.1.2.1 (107, "the order has no such place") (List.mem_of_getElem? (i := 4) rfl)
      exact vx_throwS (A := A) (text := "the order has no such place") (names := ["java/lang/RuntimeException", "java/lang/Exception"]) (sa := sa) hx hb hfl hown (by decide +kernel) (by decide +kernel) (hts _ (List.mem_of_getElem? (i := 1) rfl)) (hts _ (List.mem_of_getElem? (i := 2) rfl)) hsa (hat_IO (fun w h => hts w (List.mem_cons_of_mem _ (List.mem_append_right _ h))) hE.1) hgd_IO hE.2.1 hE.2.2 hS (hl.1.trans hml.symm) dX1_leaving_46 dX1_leaving_49 dX1_leaving_50 dX1_leaving_52 dX1_leaving_55 (fun x hx => (htab x hx).elim) (Nat.le_of_ble_eq_true rfl) (Nat.le_of_ble_eq_true rfl) (Nat.le_of_ble_eq_true rfl) (Nat.le_of_ble_eq_true rfl) hlocks (fun t9 hvm9 hz9 hk9 => x_thr hK hP hD hS (⟨rfl, Or.inl c_1⟩) hvm9 hz9 hk9) hS.2.2 (Nat.le_of_ble_eq_true rfl) (Nat.le_of_ble_eq_true rfl)
    · refine lv_aload_nN hx hb dX1_leaving_26 rfl (lv_at hl 1 rfl) ?_
      refine lv_ifnullN (tgt := 42) hx hb dX1_leaving_27 (by decide) ?_
      refine lv_aload_nN hx hb dX1_leaving_42 rfl (lv_at hl 1 rfl) ?_
      refine lv_ifnonnullN hx hb dX1_leaving_43 ?_
      obtain ⟨sa, hsa⟩ := hE.1.2.1 (107, "the order has no such place") (List.mem_of_getElem? (i := 4) rfl)
      exact vx_throwS (A := A) (text := "the order has no such place") (names := ["java/lang/RuntimeException", "java/lang/Exception"]) (sa := sa) hx hb hfl hown (by decide +kernel) (by decide +kernel) (hts _ (List.mem_of_getElem? (i := 1) rfl)) (hts _ (List.mem_of_getElem? (i := 2) rfl)) hsa (hat_IO (fun w h => hts w (List.mem_cons_of_mem _ (List.mem_append_right _ h))) hE.1) hgd_IO hE.2.1 hE.2.2 hS (hl.1.trans hml.symm) dX1_leaving_46 dX1_leaving_49 dX1_leaving_50 dX1_leaving_52 dX1_leaving_55 (fun x hx => (htab x hx).elim) (Nat.le_of_ble_eq_true rfl) (Nat.le_of_ble_eq_true rfl) (Nat.le_of_ble_eq_true rfl) (Nat.le_of_ble_eq_true rfl) hlocks (fun t9 hvm9 hz9 hk9 => x_thr hK hP hD hS (⟨rfl, Or.inl c_1⟩) hvm9 hz9 hk9) hS.2.2 (Nat.le_of_ble_eq_true rfl) (Nat.le_of_ble_eq_true rfl)
  · refine lv_iload_n hx hb dX1_leaving_4 rfl (lv_at hl 1 rfl) ?_
    refine lv_bipush (v := 32) hx hb dX1_leaving_5 (by decide) ?_
    refine lv_icmp_lt (tgt := 14) hx hb dX1_leaving_7 (by decide) (fun c_3 => ?_) (fun c_3 => ?_)
    · refine lv_aload_n hx hb dX1_leaving_14 rfl (lv_at hl 0 rfl) ?_
      refine x_callq (va_runV (As := []) (rest := []) ⟨hx, hb, hml, hown, hts⟩ (k_X1_firstInOrder l D ax ar ad cO H.size σ) (cwV 0 hts gX1_leaving_X1_firstInOrder rfl rfl rfl (by decide +kernel) ⟨Nat.le_of_ble_eq_true rfl, Nat.le_of_ble_eq_true rfl⟩) (xPreV xE_ok hE hK hA hP hD hS (q0 := 0) (ci := 1) rfl rfl rfl) rfl rfl hl.1 rfl (lv_room (Nat.le_of_ble_eq_true rfl)) dX1_leaving_15 ⟨Nat.le_of_ble_eq_true rfl, Nat.le_of_ble_eq_true rfl⟩) hD hS hA (fun r u H locs hp hP hD hS => ?_)
      obtain ⟨rfl, hu9⟩ := hp
      rw [hu9] at hP hD
      refine x_astore_nQ (lv' := [(2, va_rf ((nxt σ none).map ad)), (0, .ref ax), (1, .int t)]) hx hb dX1_leaving_18 rfl hl (by decide) rfl (fun ls hl => ?_)
      refine lv_iconst (v := 0) hx hb dX1_leaving_19 (by decide) ?_
      refine lv_istore_n (lv' := [(3, .int 0), (2, va_rf ((nxt σ none).map ad)), (0, .ref ax), (1, .int t)]) hx hb dX1_leaving_20 rfl hl (by decide) (by cases (nxt σ none) <;> rfl) (fun ls hl => ?_)
      have loop : ∀ (n j : Nat) (ls : Array Slot) (H : Heap) (locs : List Loc), j ≤ N → N - j < n → va_P D vwCl (cW ax ar ad cO σ) H → va_D A (cW ax ar ad cO σ) → va_S A s.heap H locs → lv_has ls 4 [(0, .ref ax), (1, .int t), (2, va_rf ((nth σ j).map ad)), (3, .int (nI j))] → W p l e (headSpec wsX1_leaving ({ frames := 6, cells := 1, slots := 6, locals := 150 } : Room)).room s m [.ref ax, .int t].toArray below meth c H locs 0 0 (vx_MQ below (va_Qi (fun (r : Int32) (u : St) => ¬ t < 0 ∧ (∃ k, nth σ N = some k ∧ r = gS σ 0 k) ∧ u = σ) (xB D (cT cO) (cW ax ar ad cO) A) A) (xXC D (cT cO) (cW ax ar ad cO) A σ (fun En => En = xIO ∧ (t < 0 ∨ nth σ N = none))) [.ref ax, .int t].toArray s 1 6 A) (F0 m 21 ls []) := by
        intro n
        induction n with
        | zero =>
          intro j ls H locs h1 h2
          exact absurd h2 (by omega)
        | succ n ih =>
          intro j ls H locs hj hn hP hD hS hl
          refine lv_iload_n hx hb dX1_leaving_21 rfl (lv_at hl 3 rfl) ?_
          refine lv_iload_n hx hb dX1_leaving_22 rfl (lv_at hl 1 rfl) ?_
          refine x_icmp_ge (tgt := 42) hx hb dX1_leaving_23 (by decide) (fun c_4 => ?_) (fun c_4 => ?_)
          · have hjN : j = N := by
              rcases Nat.lt_or_ge j N with q | q
              · exact absurd (h1 j q).1 (fun z => c_4 z)
              · omega
            subst hjN
            refine x_aload_nQ hx hb dX1_leaving_42 rfl (lv_at hl 2 rfl) ?_
            refine x_ifnonnullQ (tgt := 56) hx hb dX1_leaving_43 (by decide) (fun k_6 c_5 => ?_) (fun c_5 => ?_)
            · have hk_6 : k_6 < 32 := nth_lt c_5
              refine x_aload_nQ hx hb dX1_leaving_56 rfl (lv_at hl 2 rfl) ?_
              refine W.eq (g2 := F0 m 57 ls [.ref (ad k_6)]) (by rw [c_5]; rfl) ?_
              refine s_get hx hb hts hi0 hown hK hE hP hk_6 0 (by decide) rfl (v := .int (gS σ 0 k_6)) rfl dX1_leaving_57 (fun _ h => h) ?_
              refine vx_ret ?_
              refine W.widen (k := 1) (n := 6) (by decide) (by decide) ?_
              exact x_iret hx hb hr hlocks hK (σ) hP hD hS ⟨c_1, ⟨k_6, c_5, rfl⟩, rfl⟩ dX1_leaving_60
            · obtain ⟨sa, hsa⟩ := hE.1.2.1 (107, "the order has no such place") (List.mem_of_getElem? (i := 4) rfl)
              exact vx_throwS (A := A) (text := "the order has no such place") (names := ["java/lang/RuntimeException", "java/lang/Exception"]) (sa := sa) hx hb hfl hown (by decide +kernel) (by decide +kernel) (hts _ (List.mem_of_getElem? (i := 1) rfl)) (hts _ (List.mem_of_getElem? (i := 2) rfl)) hsa (hat_IO (fun w h => hts w (List.mem_cons_of_mem _ (List.mem_append_right _ h))) hE.1) hgd_IO hE.2.1 hE.2.2 hS (hl.1.trans hml.symm) dX1_leaving_46 dX1_leaving_49 dX1_leaving_50 dX1_leaving_52 dX1_leaving_55 (fun x hx => (htab x hx).elim) (Nat.le_of_ble_eq_true rfl) (Nat.le_of_ble_eq_true rfl) (Nat.le_of_ble_eq_true rfl) (Nat.le_of_ble_eq_true rfl) hlocks (fun t9 hvm9 hz9 hk9 => x_thr hK hP hD hS (⟨rfl, Or.inr c_5⟩) hvm9 hz9 hk9) hS.2.2 (Nat.le_of_ble_eq_true rfl) (Nat.le_of_ble_eq_true rfl)
          · refine x_aload_nQ hx hb dX1_leaving_26 rfl (lv_at hl 2 rfl) ?_
            refine x_ifnullQ (tgt := 42) hx hb dX1_leaving_27 (by decide) (fun c_7 => ?_) (fun k_8 c_7 => ?_)
            · have hjN : j = N := by
                rcases Nat.lt_or_ge j N with q | q
                · exact absurd (h1 j q).2 (fun z => z c_7)
                · omega
              subst hjN
              refine x_aload_nQ hx hb dX1_leaving_42 rfl (lv_at hl 2 rfl) ?_
              refine W.eq (g2 := F0 m 43 ls [.null]) (by rw [c_7]; rfl) ?_
              refine lv_ifnonnullN hx hb dX1_leaving_43 ?_
              obtain ⟨sa, hsa⟩ := hE.1.2.1 (107, "the order has no such place") (List.mem_of_getElem? (i := 4) rfl)
              exact vx_throwS (A := A) (text := "the order has no such place") (names := ["java/lang/RuntimeException", "java/lang/Exception"]) (sa := sa) hx hb hfl hown (by decide +kernel) (by decide +kernel) (hts _ (List.mem_of_getElem? (i := 1) rfl)) (hts _ (List.mem_of_getElem? (i := 2) rfl)) hsa (hat_IO (fun w h => hts w (List.mem_cons_of_mem _ (List.mem_append_right _ h))) hE.1) hgd_IO hE.2.1 hE.2.2 hS (hl.1.trans hml.symm) dX1_leaving_46 dX1_leaving_49 dX1_leaving_50 dX1_leaving_52 dX1_leaving_55 (fun x hx => (htab x hx).elim) (Nat.le_of_ble_eq_true rfl) (Nat.le_of_ble_eq_true rfl) (Nat.le_of_ble_eq_true rfl) (Nat.le_of_ble_eq_true rfl) hlocks (fun t9 hvm9 hz9 hk9 => x_thr hK hP hD hS (⟨rfl, Or.inr c_7⟩) hvm9 hz9 hk9) hS.2.2 (Nat.le_of_ble_eq_true rfl) (Nat.le_of_ble_eq_true rfl)
            · have hk_8 : k_8 < 32 := nth_lt c_7
              refine lv_aload_n hx hb dX1_leaving_30 rfl (lv_at hl 0 rfl) ?_
              refine x_aload_nQ hx hb dX1_leaving_31 rfl (lv_at hl 2 rfl) ?_
              refine W.eq (g2 := F0 m 32 ls [.ref (ad k_8), .ref ax]) (by rw [c_7]; rfl) ?_
              refine x_callq (va_runV (As := [.ref (ad k_8)]) (rest := []) ⟨hx, hb, hml, hown, hts⟩ (k_X1_nextInOrder l D ax ar ad cO H.size σ (some k_8) (fun _ h => by cases h; exact hk_8)) (cwV 1 hts gX1_leaving_X1_nextInOrder rfl rfl rfl (by decide +kernel) ⟨Nat.le_of_ble_eq_true rfl, Nat.le_of_ble_eq_true rfl⟩) (xPreV xE_ok hE hK hA hP hD hS (q0 := 0) (ci := 1) rfl rfl rfl) rfl rfl hl.1 rfl (lv_room (Nat.le_of_ble_eq_true rfl)) dX1_leaving_32 ⟨Nat.le_of_ble_eq_true rfl, Nat.le_of_ble_eq_true rfl⟩) hD hS hA (fun r u H locs hp hP hD hS => ?_)
              obtain ⟨rfl, hu9⟩ := hp
              rw [hu9] at hP hD
              refine x_astore_nQ (lv' := [(2, va_rf ((nxt σ (some k_8)).map ad)), (0, .ref ax), (1, .int t), (3, .int (nI j))]) hx hb dX1_leaving_35 rfl hl (by decide) rfl (fun ls hl => ?_)
              refine lv_iinc (v := (nI j) + 1) (lv' := [(3, .int ((nI j) + 1)), (2, va_rf ((nxt σ (some k_8)).map ad)), (0, .ref ax), (1, .int t)]) hx hb dX1_leaving_36 hl (k := 3) rfl rfl (by decide) (by cases (nxt σ (some k_8)) <;> rfl) (fun ls hl => ?_)
              refine lv_goto (tgt := 21) hx hb dX1_leaving_39 (by decide) ?_
              have hlt : j < N := by
                rcases Nat.lt_or_ge j N with q | q
                · exact q
                · have hjN : j = N := by omega
                  subst hjN
                  rcases h2.1 with h9 | h9
                  · exact absurd c_4 h9
                  · rw [c_7] at h9
                    cases h9
              have e9 : nth σ (j + 1) = nxt σ (some k_8) := by rw [nth_s, c_7]
              exact ih (j + 1) ls H locs hlt (by omega) hP hD hS (by rw [nI_succ, e9]; exact lv_sub hl [2, 3, 1, 0] rfl)
      exact loop (N + 1) 0 _ _ _ (Nat.zero_le _) (by omega) hP hD hS (lv_sub hl [2, 3, 1, 0] rfl)
    · refine lv_null hx hb dX1_leaving_10 ?_
      refine lv_goto (tgt := 18) hx hb dX1_leaving_11 (by decide) ?_
      refine lv_astore_nN (lv' := [(2, .null), (0, .ref ax), (1, .int t)]) hx hb dX1_leaving_18 rfl hl (by decide) rfl (fun ls hl => ?_)
      refine lv_iconst (v := 0) hx hb dX1_leaving_19 (by decide) ?_
      refine lv_istore_n (lv' := [(3, .int 0), (2, .null), (0, .ref ax), (1, .int t)]) hx hb dX1_leaving_20 rfl hl (by decide) rfl (fun ls hl => ?_)
      refine lv_iload_n hx hb dX1_leaving_21 rfl (lv_at hl 0 rfl) ?_
      refine lv_iload_n hx hb dX1_leaving_22 rfl (lv_at hl 3 rfl) ?_
      refine x_icmp_ge (tgt := 42) hx hb dX1_leaving_23 (by decide) (fun c_9 => ?_) (fun c_9 => ?_)
      · refine lv_aload_nN hx hb dX1_leaving_42 rfl (lv_at hl 1 rfl) ?_
        refine lv_ifnonnullN hx hb dX1_leaving_43 ?_
        obtain ⟨sa, hsa⟩ := hE.1.2.1 (107, "the order has no such place") (List.mem_of_getElem? (i := 4) rfl)
        exact vx_throwS (A := A) (text := "the order has no such place") (names := ["java/lang/RuntimeException", "java/lang/Exception"]) (sa := sa) hx hb hfl hown (by decide +kernel) (by decide +kernel) (hts _ (List.mem_of_getElem? (i := 1) rfl)) (hts _ (List.mem_of_getElem? (i := 2) rfl)) hsa (hat_IO (fun w h => hts w (List.mem_cons_of_mem _ (List.mem_append_right _ h))) hE.1) hgd_IO hE.2.1 hE.2.2 hS (hl.1.trans hml.symm) dX1_leaving_46 dX1_leaving_49 dX1_leaving_50 dX1_leaving_52 dX1_leaving_55 (fun x hx => (htab x hx).elim) (Nat.le_of_ble_eq_true rfl) (Nat.le_of_ble_eq_true rfl) (Nat.le_of_ble_eq_true rfl) (Nat.le_of_ble_eq_true rfl) hlocks (fun t9 hvm9 hz9 hk9 => x_thr hK hP hD hS (⟨rfl, Or.inr (h2.2 c_3)⟩) hvm9 hz9 hk9) hS.2.2 (Nat.le_of_ble_eq_true rfl) (Nat.le_of_ble_eq_true rfl)
      · refine lv_aload_nN hx hb dX1_leaving_26 rfl (lv_at hl 1 rfl) ?_
        refine lv_ifnullN (tgt := 42) hx hb dX1_leaving_27 (by decide) ?_
        refine lv_aload_nN hx hb dX1_leaving_42 rfl (lv_at hl 1 rfl) ?_
        refine lv_ifnonnullN hx hb dX1_leaving_43 ?_
        obtain ⟨sa, hsa⟩ := hE.1.2.1 (107, "the order has no such place") (List.mem_of_getElem? (i := 4) rfl)
        exact vx_throwS (A := A) (text := "the order has no such place") (names := ["java/lang/RuntimeException", "java/lang/Exception"]) (sa := sa) hx hb hfl hown (by decide +kernel) (by decide +kernel) (hts _ (List.mem_of_getElem? (i := 1) rfl)) (hts _ (List.mem_of_getElem? (i := 2) rfl)) hsa (hat_IO (fun w h => hts w (List.mem_cons_of_mem _ (List.mem_append_right _ h))) hE.1) hgd_IO hE.2.1 hE.2.2 hS (hl.1.trans hml.symm) dX1_leaving_46 dX1_leaving_49 dX1_leaving_50 dX1_leaving_52 dX1_leaving_55 (fun x hx => (htab x hx).elim) (Nat.le_of_ble_eq_true rfl) (Nat.le_of_ble_eq_true rfl) (Nat.le_of_ble_eq_true rfl) (Nat.le_of_ble_eq_true rfl) hlocks (fun t9 hvm9 hz9 hk9 => x_thr hK hP hD hS (⟨rfl, Or.inr (h2.2 c_3)⟩) hvm9 hz9 hk9) hS.2.2 (Nat.le_of_ble_eq_true rfl) (Nat.le_of_ble_eq_true rfl)
set_option maxHeartbeats 4000000 in
set_option maxRecDepth 100000 in
theorem k_X1_fetch (l : Launch) (D : va_G) (ax ar : Nat) (ad : Nat → Nat) (cO : ClassId) (sz : Nat) (σ : St) (t sz9 pr lf : Int32) (hfl : l.stackTraces = false) : vx_Met l yX1_fetch wsX1_fetch ({ frames := 7, cells := 4, slots := 24, locals := 180 } : Room) (va_Pc [.ref ax, .int t, .int sz9, .int pr, .int lf] (xPre D (cT cO) xE (cW ax ar ad cO) σ sz)) (va_Qi (fun (r : Int32) (u : St) => isT t = true ∧ (inR sz9 1 1000 && inR pr 0 1000 && inR lf 1 10000) = true ∧ (∀ k, k < 32 → t = nI k → r = (cFetch σ k sz9 pr lf).1 ∧ u = (cFetch σ k sz9 pr lf).2)) (xB D (cT cO) (cW ax ar ad cO) (va_A (cW ax ar ad cO σ) sz)) (va_A (cW ax ar ad cO σ) sz)) (xXC D (cT cO) (cW ax ar ad cO) (va_A (cW ax ar ad cO σ) sz) σ (fun En => (En = xIO ∧ isT t = false) ∨ (En = xIA ∧ isT t = true ∧ (inR sz9 1 1000 && inR pr 0 1000 && inR lf 1 10000) = false))) 4 24 (va_A (cW ax ar ad cO σ) sz) := by
  refine xxOpen (w := (cW ax ar ad cO)) (σ := σ) (cc := cX1_fetch) (maxL := 6) (ret := some .int) (QQ := fun A => va_Qi (fun (r : Int32) (u : St) => isT t = true ∧ (inR sz9 1 1000 && inR pr 0 1000 && inR lf 1 10000) = true ∧ (∀ k, k < 32 → t = nI k → r = (cFetch σ k sz9 pr lf).1 ∧ u = (cFetch σ k sz9 pr lf).2)) (xB D (cT cO) (cW ax ar ad cO) A) A) (XX := fun A => xXC D (cT cO) (cW ax ar ad cO) A σ (fun En => (En = xIO ∧ isT t = false) ∨ (En = xIA ∧ isT t = true ∧ (inR sz9 1 1000 && inR pr 0 1000 && inR lf 1 10000) = false))) (by decide) rfl (Nat.le_of_ble_eq_true rfl) ?_
  intro p e s m below meth c A hx hb hr hml hown hts hlocks htab hK hE hA hP hD hS ls hl
  have hl : lv_has ls 6 [(0, .ref ax), (1, .int t), (2, .int sz9), (3, .int pr), (4, .int lf)] := hl
  have hown : s.vm.findClass RX1 = some m.cls := hown
  have hi0 : ∀ w ∈ wsX00, w ∈ wsX1_fetch := (fun _ h => List.mem_cons_of_mem _ (List.mem_append_left _ (List.mem_append_left _ (List.mem_append_left _ (List.mem_append_right _ h)))))
  have hi1 : ∀ w ∈ wsX10, w ∈ wsX1_fetch := (fun _ h => List.mem_cons_of_mem _ (List.mem_append_left _ (List.mem_append_left _ (List.mem_append_right _ h))))
  generalize hH : s.heap = H at hP
  have hS : va_S A s.heap H [] := by rw [← hH]; exact va_S.rf
  generalize hlo : ([] : List Loc) = locs at hS
  refine lv_aload_n hx hb dX1_fetch_0 rfl (lv_at hl 0 rfl) ?_
  refine lv_iload_n hx hb dX1_fetch_1 rfl (lv_at hl 1 rfl) ?_
  refine xx_callq (vx_runV (As := [.int t]) (rest := []) ⟨hx, hb, hml, hown, hts⟩ (k_X1_slotOf l D ax ar ad cO H.size σ t hfl) (cwV 1 hts gX1_fetch_X1_slotOf rfl rfl rfl (by decide +kernel) ⟨Nat.le_of_ble_eq_true rfl, Nat.le_of_ble_eq_true rfl⟩) (xPreV xE_ok hE hK hA hP hD hS (q0 := 0) (ci := 1) rfl rfl rfl) rfl rfl hl.1 rfl (lv_room (Nat.le_of_ble_eq_true rfl)) dX1_fetch_2 ⟨Nat.le_of_ble_eq_true rfl, Nat.le_of_ble_eq_true rfl⟩) hD hS hA (fun En ce q9 H locs hxc hP hS hq9 hv9 hcl9 => ?_) (fun r u H locs hp hP hD hS => ?_)
  · exact xx_out htab hlocks hK hq9 hv9 hcl9 hP hD hS (Or.inl hxc) (Nat.le_of_ble_eq_true rfl) (Nat.le_of_ble_eq_true rfl)
  obtain ⟨hT, hq, hu9⟩ := hp
  rw [hu9] at hP hD
  obtain ⟨k, hk, rfl⟩ := isT_nI hT
  obtain rfl := hq k hk rfl
  have hl : lv_has ls 6 [(0, .ref ax), (1, .int (nI k)), (2, .int sz9), (3, .int pr), (4, .int lf)] := hl
  refine W.eq (g2 := F0 m 5 ls [.ref (ad k)]) rfl ?_
  · refine lv_astore (lv' := [(5, .ref (ad k)), (0, .ref ax), (1, .int (nI k)), (2, .int sz9), (3, .int pr), (4, .int lf)]) hx hb dX1_fetch_5 hl (by decide) rfl (fun ls hl => ?_)
    refine lv_iload_n hx hb dX1_fetch_7 rfl (lv_at hl 3 rfl) ?_
    refine lv_iconst (v := 1) hx hb dX1_fetch_8 (by decide) ?_
    refine lv_sipush (v := 1000) hx hb dX1_fetch_9 (by decide) ?_
    refine xx_callv (vx_runS (As := [.int sz9, .int 1, .int 1000]) (rest := []) ⟨hx, hb, hml, hown, hts⟩ (k_X1_requireWithin l D ax ar ad cO H.size σ sz9 1 1000 hfl) (va_cwS 3 hts gX1_fetch_X1_requireWithin rfl rfl rfl (by decide +kernel) ⟨Nat.le_of_ble_eq_true rfl, Nat.le_of_ble_eq_true rfl⟩) (xPreS xE_ok hE hK hA hP hD hS) rfl rfl hl.1 rfl (lv_room (Nat.le_of_ble_eq_true rfl)) dX1_fetch_12 ⟨Nat.le_of_ble_eq_true rfl, Nat.le_of_ble_eq_true rfl⟩) hD hS hA (fun En ce q9 H locs hxc hP hS hq9 hv9 hcl9 => ?_) (fun u H locs hp hP hD hS => ?_)
    · exact xx_out htab hlocks hK hq9 hv9 hcl9 hP hD hS (Or.inr ⟨hxc.1, hT, by rw [hxc.2]; simp⟩) (Nat.le_of_ble_eq_true rfl) (Nat.le_of_ble_eq_true rfl)
    obtain ⟨v_1, hu9⟩ := hp
    rw [hu9] at hP hD
    · refine lv_iload_n hx hb dX1_fetch_15 rfl (lv_at hl 4 rfl) ?_
      refine lv_iconst (v := 0) hx hb dX1_fetch_16 (by decide) ?_
      refine lv_sipush (v := 1000) hx hb dX1_fetch_17 (by decide) ?_
      refine xx_callv (vx_runS (As := [.int pr, .int 0, .int 1000]) (rest := []) ⟨hx, hb, hml, hown, hts⟩ (k_X1_requireWithin l D ax ar ad cO H.size σ pr 0 1000 hfl) (va_cwS 3 hts gX1_fetch_X1_requireWithin rfl rfl rfl (by decide +kernel) ⟨Nat.le_of_ble_eq_true rfl, Nat.le_of_ble_eq_true rfl⟩) (xPreS xE_ok hE hK hA hP hD hS) rfl rfl hl.1 rfl (lv_room (Nat.le_of_ble_eq_true rfl)) dX1_fetch_20 ⟨Nat.le_of_ble_eq_true rfl, Nat.le_of_ble_eq_true rfl⟩) hD hS hA (fun En ce q9 H locs hxc hP hS hq9 hv9 hcl9 => ?_) (fun u H locs hp hP hD hS => ?_)
      · exact xx_out htab hlocks hK hq9 hv9 hcl9 hP hD hS (Or.inr ⟨hxc.1, hT, by rw [hxc.2]; simp [v_1]⟩) (Nat.le_of_ble_eq_true rfl) (Nat.le_of_ble_eq_true rfl)
      obtain ⟨v_2, hu9⟩ := hp
      rw [hu9] at hP hD
      · refine lv_iload hx hb dX1_fetch_23 (lv_at hl 5 rfl) ?_
        refine lv_iconst (v := 1) hx hb dX1_fetch_25 (by decide) ?_
        refine lv_sipush (v := 10000) hx hb dX1_fetch_26 (by decide) ?_
        refine xx_callv (vx_runS (As := [.int lf, .int 1, .int 10000]) (rest := []) ⟨hx, hb, hml, hown, hts⟩ (k_X1_requireWithin l D ax ar ad cO H.size σ lf 1 10000 hfl) (va_cwS 3 hts gX1_fetch_X1_requireWithin rfl rfl rfl (by decide +kernel) ⟨Nat.le_of_ble_eq_true rfl, Nat.le_of_ble_eq_true rfl⟩) (xPreS xE_ok hE hK hA hP hD hS) rfl rfl hl.1 rfl (lv_room (Nat.le_of_ble_eq_true rfl)) dX1_fetch_29 ⟨Nat.le_of_ble_eq_true rfl, Nat.le_of_ble_eq_true rfl⟩) hD hS hA (fun En ce q9 H locs hxc hP hS hq9 hv9 hcl9 => ?_) (fun u H locs hp hP hD hS => ?_)
        · exact xx_out htab hlocks hK hq9 hv9 hcl9 hP hD hS (Or.inr ⟨hxc.1, hT, by rw [hxc.2]; simp [v_1, v_2]⟩) (Nat.le_of_ble_eq_true rfl) (Nat.le_of_ble_eq_true rfl)
        obtain ⟨v_3, hu9⟩ := hp
        rw [hu9] at hP hD
        · refine lv_aload hx hb dX1_fetch_32 (lv_at hl 0 rfl) ?_
          refine s_get hx hb hts hi0 hown hK hE hP hk 1 (by decide) rfl (v := .int (bI (gB σ 1 k))) rfl dX1_fetch_34 (fun _ h => h) ?_
          refine x_ifeq (tgt := 67) hx hb dX1_fetch_37 (by decide) (fun c_4 => ?_) (fun c_4 => ?_)
          · have hh : (gB σ 1 k && !ended σ k && decide (gS σ 3 k = sz9)) = false := by simp [c_4]
            refine lv_aload_n hx hb dX1_fetch_67 rfl (lv_at hl 1 rfl) ?_
            refine lv_iload_n hx hb dX1_fetch_68 rfl (lv_at hl 4 rfl) ?_
            refine x_callv (va_runV (As := [.int pr]) (rest := []) ⟨hx, hb, hml, hown, hts⟩ (k_X1_countMiss l D ax ar ad cO H.size σ pr) (cwV 1 hts gX1_fetch_X1_countMiss rfl rfl rfl (by decide +kernel) ⟨Nat.le_of_ble_eq_true rfl, Nat.le_of_ble_eq_true rfl⟩) (xPreV xE_ok hE hK hA hP hD hS (q0 := 0) (ci := 1) rfl rfl rfl) rfl rfl hl.1 rfl (lv_room (Nat.le_of_ble_eq_true rfl)) dX1_fetch_69 ⟨Nat.le_of_ble_eq_true rfl, Nat.le_of_ble_eq_true rfl⟩) hD hS hA (fun u H locs hp hP hD hS => ?_)
            rw [hp] at hP hD
            refine lv_aload_n hx hb dX1_fetch_72 rfl (lv_at hl 1 rfl) ?_
            refine lv_aload hx hb dX1_fetch_73 (lv_at hl 0 rfl) ?_
            refine lv_iload_n hx hb dX1_fetch_75 rfl (lv_at hl 3 rfl) ?_
            refine lv_iload_n hx hb dX1_fetch_76 rfl (lv_at hl 4 rfl) ?_
            refine lv_iload hx hb dX1_fetch_77 (lv_at hl 5 rfl) ?_
            refine x_calli (va_runV (As := [.ref (ad k), .int sz9, .int pr, .int lf]) (rest := []) ⟨hx, hb, hml, hown, hts⟩ (k_X1_letInIfPossible l D ax ar ad cO H.size (cMiss σ pr) sz9 pr lf hk) (cwV 4 hts gX1_fetch_X1_letInIfPossible rfl rfl rfl (by decide +kernel) ⟨Nat.le_of_ble_eq_true rfl, Nat.le_of_ble_eq_true rfl⟩) (xPreV xE_ok hE hK hA hP hD hS (q0 := 0) (ci := 1) rfl rfl rfl) rfl rfl hl.1 rfl (lv_room (Nat.le_of_ble_eq_true rfl)) dX1_fetch_79 ⟨Nat.le_of_ble_eq_true rfl, Nat.le_of_ble_eq_true rfl⟩) hD hS hA (fun r u H locs hp hP hD hS => ?_)
            obtain ⟨rfl, hu9⟩ := hp
            rw [hu9] at hP hD
            refine x_ifeq (tgt := 89) hx hb dX1_fetch_82 (by decide) (fun c_5 => ?_) (fun c_5 => ?_)
            · refine lv_iconst (v := 2) hx hb dX1_fetch_89 (by decide) ?_
              refine vx_ret ?_
              refine W.widen (k := 4) (n := 24) (by decide) (by decide) ?_
              exact x_iret hx hb hr hlocks hK ((cLetIn (cMiss σ pr) k sz9 pr lf).2) hP hD hS ⟨hT, by simp [v_1, v_2, v_3], fun j hj e9 => by rw [← nI_inj32 hk hj e9]; simp [cFetch, hh, c_5]⟩ dX1_fetch_90
            · refine lv_iconst (v := 1) hx hb dX1_fetch_85 (by decide) ?_
              refine lv_goto (tgt := 90) hx hb dX1_fetch_86 (by decide) ?_
              refine vx_ret ?_
              refine W.widen (k := 4) (n := 24) (by decide) (by decide) ?_
              exact x_iret hx hb hr hlocks hK ((cLetIn (cMiss σ pr) k sz9 pr lf).2) hP hD hS ⟨hT, by simp [v_1, v_2, v_3], fun j hj e9 => by rw [← nI_inj32 hk hj e9]; simp [cFetch, hh, c_5]⟩ dX1_fetch_90
          · refine lv_aload_n hx hb dX1_fetch_40 rfl (lv_at hl 1 rfl) ?_
            refine lv_aload hx hb dX1_fetch_41 (lv_at hl 0 rfl) ?_
            refine x_calli (va_runV (As := [.ref (ad k)]) (rest := []) ⟨hx, hb, hml, hown, hts⟩ (k_X1_hasEnded l D ax ar ad cO H.size σ hk) (cwV 1 hts gX1_fetch_X1_hasEnded rfl rfl rfl (by decide +kernel) ⟨Nat.le_of_ble_eq_true rfl, Nat.le_of_ble_eq_true rfl⟩) (xPreV xE_ok hE hK hA hP hD hS (q0 := 0) (ci := 1) rfl rfl rfl) rfl rfl hl.1 rfl (lv_room (Nat.le_of_ble_eq_true rfl)) dX1_fetch_43 ⟨Nat.le_of_ble_eq_true rfl, Nat.le_of_ble_eq_true rfl⟩) hD hS hA (fun r u H locs hp hP hD hS => ?_)
            obtain ⟨rfl, hu9⟩ := hp
            rw [hu9] at hP hD
            refine x_ifne (tgt := 67) hx hb dX1_fetch_46 (by decide) (fun c_6 => ?_) (fun c_6 => ?_)
            · have hh : (gB σ 1 k && !ended σ k && decide (gS σ 3 k = sz9)) = false := by simp [c_6]
              refine lv_aload_n hx hb dX1_fetch_67 rfl (lv_at hl 1 rfl) ?_
              refine lv_iload_n hx hb dX1_fetch_68 rfl (lv_at hl 4 rfl) ?_
              refine x_callv (va_runV (As := [.int pr]) (rest := []) ⟨hx, hb, hml, hown, hts⟩ (k_X1_countMiss l D ax ar ad cO H.size σ pr) (cwV 1 hts gX1_fetch_X1_countMiss rfl rfl rfl (by decide +kernel) ⟨Nat.le_of_ble_eq_true rfl, Nat.le_of_ble_eq_true rfl⟩) (xPreV xE_ok hE hK hA hP hD hS (q0 := 0) (ci := 1) rfl rfl rfl) rfl rfl hl.1 rfl (lv_room (Nat.le_of_ble_eq_true rfl)) dX1_fetch_69 ⟨Nat.le_of_ble_eq_true rfl, Nat.le_of_ble_eq_true rfl⟩) hD hS hA (fun u H locs hp hP hD hS => ?_)
              rw [hp] at hP hD
              refine lv_aload_n hx hb dX1_fetch_72 rfl (lv_at hl 1 rfl) ?_
              refine lv_aload hx hb dX1_fetch_73 (lv_at hl 0 rfl) ?_
              refine lv_iload_n hx hb dX1_fetch_75 rfl (lv_at hl 3 rfl) ?_
              refine lv_iload_n hx hb dX1_fetch_76 rfl (lv_at hl 4 rfl) ?_
              refine lv_iload hx hb dX1_fetch_77 (lv_at hl 5 rfl) ?_
              refine x_calli (va_runV (As := [.ref (ad k), .int sz9, .int pr, .int lf]) (rest := []) ⟨hx, hb, hml, hown, hts⟩ (k_X1_letInIfPossible l D ax ar ad cO H.size (cMiss σ pr) sz9 pr lf hk) (cwV 4 hts gX1_fetch_X1_letInIfPossible rfl rfl rfl (by decide +kernel) ⟨Nat.le_of_ble_eq_true rfl, Nat.le_of_ble_eq_true rfl⟩) (xPreV xE_ok hE hK hA hP hD hS (q0 := 0) (ci := 1) rfl rfl rfl) rfl rfl hl.1 rfl (lv_room (Nat.le_of_ble_eq_true rfl)) dX1_fetch_79 ⟨Nat.le_of_ble_eq_true rfl, Nat.le_of_ble_eq_true rfl⟩) hD hS hA (fun r u H locs hp hP hD hS => ?_)
              obtain ⟨rfl, hu9⟩ := hp
              rw [hu9] at hP hD
              refine x_ifeq (tgt := 89) hx hb dX1_fetch_82 (by decide) (fun c_7 => ?_) (fun c_7 => ?_)
              · refine lv_iconst (v := 2) hx hb dX1_fetch_89 (by decide) ?_
                refine vx_ret ?_
                refine W.widen (k := 4) (n := 24) (by decide) (by decide) ?_
                exact x_iret hx hb hr hlocks hK ((cLetIn (cMiss σ pr) k sz9 pr lf).2) hP hD hS ⟨hT, by simp [v_1, v_2, v_3], fun j hj e9 => by rw [← nI_inj32 hk hj e9]; simp [cFetch, hh, c_7]⟩ dX1_fetch_90
              · refine lv_iconst (v := 1) hx hb dX1_fetch_85 (by decide) ?_
                refine lv_goto (tgt := 90) hx hb dX1_fetch_86 (by decide) ?_
                refine vx_ret ?_
                refine W.widen (k := 4) (n := 24) (by decide) (by decide) ?_
                exact x_iret hx hb hr hlocks hK ((cLetIn (cMiss σ pr) k sz9 pr lf).2) hP hD hS ⟨hT, by simp [v_1, v_2, v_3], fun j hj e9 => by rw [← nI_inj32 hk hj e9]; simp [cFetch, hh, c_7]⟩ dX1_fetch_90
            · refine lv_aload hx hb dX1_fetch_49 (lv_at hl 0 rfl) ?_
              refine s_get hx hb hts hi0 hown hK hE hP hk 3 (by decide) rfl (v := .int (gS σ 3 k)) rfl dX1_fetch_51 (fun _ h => h) ?_
              refine lv_iload_n hx hb dX1_fetch_54 rfl (lv_at hl 3 rfl) ?_
              refine lv_icmp_ne (tgt := 67) hx hb dX1_fetch_55 (by decide) (fun c_8 => ?_) (fun c_8 => ?_)
              · have hh : (gB σ 1 k && !ended σ k && decide (gS σ 3 k = sz9)) = false := by simp [c_8]
                refine lv_aload_n hx hb dX1_fetch_67 rfl (lv_at hl 1 rfl) ?_
                refine lv_iload_n hx hb dX1_fetch_68 rfl (lv_at hl 4 rfl) ?_
                refine x_callv (va_runV (As := [.int pr]) (rest := []) ⟨hx, hb, hml, hown, hts⟩ (k_X1_countMiss l D ax ar ad cO H.size σ pr) (cwV 1 hts gX1_fetch_X1_countMiss rfl rfl rfl (by decide +kernel) ⟨Nat.le_of_ble_eq_true rfl, Nat.le_of_ble_eq_true rfl⟩) (xPreV xE_ok hE hK hA hP hD hS (q0 := 0) (ci := 1) rfl rfl rfl) rfl rfl hl.1 rfl (lv_room (Nat.le_of_ble_eq_true rfl)) dX1_fetch_69 ⟨Nat.le_of_ble_eq_true rfl, Nat.le_of_ble_eq_true rfl⟩) hD hS hA (fun u H locs hp hP hD hS => ?_)
                rw [hp] at hP hD
                refine lv_aload_n hx hb dX1_fetch_72 rfl (lv_at hl 1 rfl) ?_
                refine lv_aload hx hb dX1_fetch_73 (lv_at hl 0 rfl) ?_
                refine lv_iload_n hx hb dX1_fetch_75 rfl (lv_at hl 3 rfl) ?_
                refine lv_iload_n hx hb dX1_fetch_76 rfl (lv_at hl 4 rfl) ?_
                refine lv_iload hx hb dX1_fetch_77 (lv_at hl 5 rfl) ?_
                refine x_calli (va_runV (As := [.ref (ad k), .int sz9, .int pr, .int lf]) (rest := []) ⟨hx, hb, hml, hown, hts⟩ (k_X1_letInIfPossible l D ax ar ad cO H.size (cMiss σ pr) sz9 pr lf hk) (cwV 4 hts gX1_fetch_X1_letInIfPossible rfl rfl rfl (by decide +kernel) ⟨Nat.le_of_ble_eq_true rfl, Nat.le_of_ble_eq_true rfl⟩) (xPreV xE_ok hE hK hA hP hD hS (q0 := 0) (ci := 1) rfl rfl rfl) rfl rfl hl.1 rfl (lv_room (Nat.le_of_ble_eq_true rfl)) dX1_fetch_79 ⟨Nat.le_of_ble_eq_true rfl, Nat.le_of_ble_eq_true rfl⟩) hD hS hA (fun r u H locs hp hP hD hS => ?_)
                obtain ⟨rfl, hu9⟩ := hp
                rw [hu9] at hP hD
                refine x_ifeq (tgt := 89) hx hb dX1_fetch_82 (by decide) (fun c_9 => ?_) (fun c_9 => ?_)
                · refine lv_iconst (v := 2) hx hb dX1_fetch_89 (by decide) ?_
                  refine vx_ret ?_
                  refine W.widen (k := 4) (n := 24) (by decide) (by decide) ?_
                  exact x_iret hx hb hr hlocks hK ((cLetIn (cMiss σ pr) k sz9 pr lf).2) hP hD hS ⟨hT, by simp [v_1, v_2, v_3], fun j hj e9 => by rw [← nI_inj32 hk hj e9]; simp [cFetch, hh, c_9]⟩ dX1_fetch_90
                · refine lv_iconst (v := 1) hx hb dX1_fetch_85 (by decide) ?_
                  refine lv_goto (tgt := 90) hx hb dX1_fetch_86 (by decide) ?_
                  refine vx_ret ?_
                  refine W.widen (k := 4) (n := 24) (by decide) (by decide) ?_
                  exact x_iret hx hb hr hlocks hK ((cLetIn (cMiss σ pr) k sz9 pr lf).2) hP hD hS ⟨hT, by simp [v_1, v_2, v_3], fun j hj e9 => by rw [← nI_inj32 hk hj e9]; simp [cFetch, hh, c_9]⟩ dX1_fetch_90
              · refine lv_aload_n hx hb dX1_fetch_58 rfl (lv_at hl 1 rfl) ?_
                refine lv_aload hx hb dX1_fetch_59 (lv_at hl 0 rfl) ?_
                refine lv_iload_n hx hb dX1_fetch_61 rfl (lv_at hl 4 rfl) ?_
                refine x_callv (va_runV (As := [.ref (ad k), .int pr]) (rest := []) ⟨hx, hb, hml, hown, hts⟩ (k_X1_hit l D ax ar ad cO H.size σ pr hk) (cwV 2 hts gX1_fetch_X1_hit rfl rfl rfl (by decide +kernel) ⟨Nat.le_of_ble_eq_true rfl, Nat.le_of_ble_eq_true rfl⟩) (xPreV xE_ok hE hK hA hP hD hS (q0 := 0) (ci := 1) rfl rfl rfl) rfl rfl hl.1 rfl (lv_room (Nat.le_of_ble_eq_true rfl)) dX1_fetch_62 ⟨Nat.le_of_ble_eq_true rfl, Nat.le_of_ble_eq_true rfl⟩) hD hS hA (fun u H locs hp hP hD hS => ?_)
                rw [hp] at hP hD
                refine lv_iconst (v := 0) hx hb dX1_fetch_65 (by decide) ?_
                refine vx_ret ?_
                refine W.widen (k := 4) (n := 24) (by decide) (by decide) ?_
                exact x_iret hx hb hr hlocks hK (cHit σ k pr) hP hD hS ⟨hT, by simp [v_1, v_2, v_3], fun j hj e9 => by rw [← nI_inj32 hk hj e9]; simp [cFetch, c_4, c_6, c_8]⟩ dX1_fetch_66
end
section
/-! ===== what the reference's methods do to a state ===== -/
def oI (r : Option Nat) : Int32 := match r with
  | none => -1
  | some k => nI k
def ovr (σ : St) (k : Nat) : Bool := gB σ 1 k && ended σ k
def mPl (σ : St) (k i : Nat) : Int32 := if gB σ 1 i && !gB σ 2 i && !decide (nI i = nI k) && bef σ i k then 1 else 0
def mPlace (σ : St) (k : Nat) : Int32 := if gB σ 1 k && !gB σ 2 k then sumI (mPl σ k) 32 else -1
def atR (σ : St) (q : Int32) : Nat → Option Nat
  | 0 => none
  | n + 1 => match atR σ q n with
    | some k => some k
    | none => if mPlace σ n = q then some n else none
theorem atR_lt {σ : St} {q : Int32} {k : Nat} : ∀ {n : Nat}, atR σ q n = some k → k < n
  | 0, h => by cases h
  | n + 1, h => by
    unfold atR at h
    cases hc : atR σ q n with
    | none =>
      rw [hc] at h
      by_cases c : mPlace σ n = q
      · simp [c] at h
        omega
      · simp [c] at h
    | some j =>
      rw [hc] at h
      have h1 : some j = some k := h
      cases h1
      exact Nat.lt_succ_of_lt (atR_lt hc)
theorem atR_s (σ : St) (q : Int32) (n : Nat) : atR σ q (n + 1) = match atR σ q n with
    | some k => some k
    | none => if mPlace σ n = q then some n else none := rfl
theorem atR_none {σ : St} {q : Int32} {i : Nat} (h : atR σ q i = none) (c : ¬ mPlace σ i = q) : atR σ q (i + 1) = none := by
  rw [atR_s, h]
  simp [c]
theorem atR_some {σ : St} {q : Int32} {i : Nat} (h : atR σ q i = none) (c : mPlace σ i = q) : ∀ {n : Nat}, i < n → atR σ q n = some i
  | 0, h9 => absurd h9 (Nat.not_lt_zero _)
  | n + 1, h9 => by
    rw [atR_s]
    rcases Nat.lt_or_ge i n with q9 | q9
    · rw [atR_some h c q9]
    · have e : i = n := by omega
      subst e
      rw [h]
      simp [c]
def mLv1 (σ : St) (k : Nat) : St := uI (uL (uB σ 1 k false) 2 (if gL σ 2 < gT σ 6 k then gT σ 6 k else gL σ 2)) 11 (gI σ 11 + 1)
def mSetW (σ : St) (k : Nat) : St :=
  uT (uL (uT σ 6 k (gL σ 2 + 1000 * (gS σ 4 k).toInt64 * (gS σ 9 k).toInt64 / (gS σ 3 k).toInt64)) 5 (gL σ 5 + 1)) 7 k (gL σ 5 + 1)
def mPF (σ : St) (b : Bool) (i : Nat) : Int32 := if gB σ 1 i && gB σ 2 i && (b || !ovr σ i) then gS σ 3 i else 0
def mPin (σ : St) (b : Bool) : Int32 := sumI (mPF σ b) 32
/-- N rounds of a loop in which the first entry leaves: c holds before each, and not behind the last -/
def mRun (c : St → Prop) (N : Nat) (τ : Nat → St) : Prop := (∀ j, j < N → c (τ j) ∧ ∃ k, k < 32 ∧ atR (τ j) 0 32 = some k ∧ τ (j + 1) = mLv1 (τ j) k) ∧ ¬ c (τ N)
def mRoom0 (σ : St) (z : Int32) : St := if gI σ 3 < used σ + z then rmO σ else σ
def mSubI (σ : St) : Nat → Int32
  | 0 => used σ
  | n + 1 => mSubI σ n - (if ovr σ n then gS σ 3 n else 0)
def mStep (σ : St) (o : Option Nat) (b : Int32 × Int32) : Int32 × Int32 := match o with
  | none => b
  | some k => (b.1 - (if ovr σ k then 0 else gS σ 3 k), b.2 + (if ovr σ k then 0 else 1))
def mWl (σ : St) : Nat → Int32 × Int32
  | 0 => (mSubI σ 32, 0)
  | n + 1 => mStep σ (atR σ (nI n) 32) (mWl σ n)
def mHit (σ : St) (k : Nat) (z pr : Int32) : St :=
  let a := mSetW (uS (uS σ 4 k (gS σ 4 k + 1)) 9 k pr) k
  uL (uL (uI a 6 (gI a 6 + 1)) 8 (gL a 8 + z.toInt64)) 9 (gL a 9 + pr.toInt64)
def mMiss (σ : St) (k : Nat) (pr : Int32) : St :=
  let a := uL (uI (uS σ 8 k (gI σ 1)) 7 (gI σ 7 + 1)) 10 (gL σ 10 + pr.toInt64)
  uB (uI a 12 (gI σ 12 + (if ovr a k then 1 else 0))) 1 k false
def mFill (σ : St) (k : Nat) (z pr lf : Int32) : St := mSetW (uS (uS (uS (uS (uB (uB σ 1 k true) 2 k false) 3 k z) 9 k pr) 4 k 1) 5 k (gI σ 1 + lf)) k
def mEnd (σ : St) (i : Nat) (r : Int32) : Bool := decide (r = -1)
def efM (σ : St) : Nat → Option Nat
  | 0 => none
  | i + 1 => if gB σ 1 i && endO σ i (efM σ i) then some i else efM σ i
theorem oI_neg {r : Option Nat} (h : ∀ k, r = some k → k < 32) : oI r = -1 ↔ r = none := by
  cases r with
  | none => exact ⟨fun _ => rfl, fun _ => rfl⟩
  | some k =>
    refine ⟨fun q => ?_, fun q => by cases q⟩
    have h1 : nI k = -1 := q
    have h2 : (nI k).toInt = (-1 : Int32).toInt := by rw [h1]
    rw [nI_toInt (Nat.lt_trans (h k rfl) (by decide))] at h2
    have h3 : (-1 : Int32).toInt = -1 := by decide
    omega
theorem isT_in (t : Int32) : isT t = inR t 0 31 := by
  unfold isT inR
  by_cases h : t < 32
  · have h1 : ¬ (31 : Int32) < t := by
      rw [Int32.lt_iff_toInt_lt] at h ⊢
      have e1 : (32 : Int32).toInt = 32 := by decide
      have e2 : (31 : Int32).toInt = 31 := by decide
      omega
    simp [h, h1]
  · have h1 : (31 : Int32) < t := by
      rw [Int32.lt_iff_toInt_lt] at h ⊢
      have e1 : (32 : Int32).toInt = 32 := by decide
      have e2 : (31 : Int32).toInt = 31 := by decide
      omega
    simp [h, h1]
theorem rmS_s (σ : St) (n : Nat) : rmS σ (n + 1) = if gB (rmS σ n) 1 n && ended (rmS σ n) n then uB (rmS σ n) 1 n false else rmS σ n := rfl
theorem rmC_s (σ : St) (n : Nat) : rmC σ (n + 1) = if gB (rmS σ n) 1 n && ended (rmS σ n) n then rmC σ n + 1 else rmC σ n := rfl
theorem isT_ff {t : Int32} (h : isT t = false) {j : Nat} (hj : j < 32) (e : t = nI j) : False := by
  rw [e, isT_of hj] at h
  cases h
def mCap0 (σ : St) (t : Int32) : St := if t < used (uI (uI σ 20 0) 3 t) then rmO (uI (uI σ 20 0) 3 t) else uI (uI σ 20 0) 3 t
theorem mSubI_s (σ : St) (n : Nat) : mSubI σ (n + 1) = mSubI σ n - (if ovr σ n then gS σ 3 n else 0) := rfl
theorem mWl_s (σ : St) (n : Nat) : mWl σ (n + 1) = mStep σ (atR σ (nI n) 32) (mWl σ n) := rfl
def mFetch (σ : St) (k : Nat) (z pr lf : Int32) (X : St) : Int32 × St :=
  if gB σ 1 k && !ovr σ k && decide (gS σ 3 k = z) then (0, mHit σ k z pr) else
  if gI (mMiss σ k pr) 3 < z then (2, mMiss σ k pr) else if decide (gI (mMiss σ k pr) 4 < z) && !cLate σ k then (2, mMiss σ k pr) else
  if gI (mRoom0 (mMiss σ k pr) z) 3 < mPin (mRoom0 (mMiss σ k pr) z) true + z then (2, mRoom0 (mMiss σ k pr) z) else (1, mFill X k z pr lf)
theorem inR_ne0 {x b : Int32} (h : inR x 1 b = true) : ¬ x = 0 := by
  intro q
  subst q
  simp [inR] at h
end
section
/-! ===== the law's own cache: nine arrays, read off a state of the class, and the row of the order ===== -/
abbrev LSt : Type := St × (Nat → Int32) × Nat
def nF8 (σ : St) (γ : Nat) : Nat → Int32 := fun j => match j with
  | 0 => gI σ 1
  | 1 => gI σ 3
  | 2 => gI σ 4
  | 3 => nI γ
  | 4 => gI σ 6
  | 5 => gI σ 7
  | 6 => gI σ 11
  | 7 => gI σ 12
  | _ => 0
def qF5 (σ : St) : Nat → Int64 := fun j => match j with
  | 0 => gL σ 2
  | 1 => gL σ 8
  | 2 => gL σ 9
  | 3 => gL σ 10
  | 4 => gL σ 5
  | _ => 0
def wF (σ : St) : Nat → Int64 := fun j => if j < 32 then gT σ 6 j else gT σ 7 (j - 32)
def mF8 (σ : St) : Nat → Int32 := fun j => gS σ 8 j + 1
def kF (σ : St) : Nat → Int32 := fun j => bI (gB σ 2 j)
def lW (be : Nat → Nat) (cI cJ : ClassId) (u : LSt) : va_W :=
  [(be 0, .inl (cI, 32, .inl (uF u.1))), (be 1, .inl (cI, 32, .inl (gS u.1 4))), (be 2, .inl (cI, 32, .inl (gS u.1 5))), (be 3, .inl (cI, 32, .inl (kF u.1))), (be 4, .inl (cI, 32, .inl (mF8 u.1))), (be 5, .inl (cI, 33, .inl u.2.1)), (be 6, .inl (cI, 8, .inl (nF8 u.1 u.2.2))), (be 7, .inl (cJ, 64, .inr (.inl (wF u.1)))), (be 8, .inl (cJ, 5, .inr (.inl (qF5 u.1))))]
def lX (be : Nat → Nat) (cI cJ : ClassId) (wr : va_W) (u : LSt) : va_W := lW be cI cJ u ++ wr
abbrev tX (cI cJ : ClassId) (ty : List (ClassId × FieldType)) : List (ClassId × FieldType) := (cI, .int) :: (cJ, .long) :: ty
theorem P_eq {D : va_G} {w w' : va_W} {H : Heap} (e : w = w') (h : va_P D vwCl w H) : va_P D vwCl w' H := e ▸ h
theorem D_eq {A : Nat → Prop} {w w' : va_W} (e : w = w') (h : va_D A w) : va_D A w' := e ▸ h
theorem gS_up (X : St) (j k : Nat) (v : Int32) (a i : Nat) : gS (uS X j k v) a i = if a = j then (if i = k then v else gS X j i) else gS X a i := by
  by_cases p : a = j
  · by_cases q : i = k
    · simp [gS, uS, va_up, p, q]
    · simp [gS, uS, va_up, p, q]
  · simp [gS, uS, va_up, p]
theorem gB_up (X : St) (j k : Nat) (v : Bool) (a i : Nat) : gB (uB X j k v) a i = if a = j then (if i = k then v else gB X j i) else gB X a i := by
  by_cases p : a = j
  · by_cases q : i = k
    · simp [gB, uB, va_up, p, q]
    · simp [gB, uB, va_up, p, q]
  · simp [gB, uB, va_up, p]
theorem gT_up (X : St) (j k : Nat) (v : Int64) (a i : Nat) : gT (uT X j k v) a i = if a = j then (if i = k then v else gT X j i) else gT X a i := by
  by_cases p : a = j
  · by_cases q : i = k
    · simp [gT, uT, va_up, p, q]
    · simp [gT, uT, va_up, p, q]
  · simp [gT, uT, va_up, p]
theorem SB_i (X : St) (j k : Nat) (v : Bool) (a i : Nat) : gS (uB X j k v) a i = gS X a i := rfl
theorem BS_i (X : St) (j k : Nat) (v : Int32) (a i : Nat) : gB (uS X j k v) a i = gB X a i := rfl
theorem n32 (k : Nat) : (32 : Int32) + nI k = nI (32 + k) := nI_add 32 k
theorem bI_1 {b : Bool} : bI b = 1 ↔ b = true := by cases b <;> decide
/-! ===== what a store makes of the arrays ===== -/
theorem e_set0 (σ : St) (k : Nat) : upd (uF σ) k 0 = uF (uB σ 1 k false) := by
  funext j
  unfold upd uF
  rw [gB_up, SB_i]
  by_cases q : j = k
  · simp [q]
  · simp [q]
theorem e_setv (σ : St) (k : Nat) (v : Int32) : upd (uF σ) k v = uF (uB (uS σ 3 k v) 1 k true) := by
  funext j
  unfold upd uF
  rw [gB_up, SB_i, BS_i, gS_up]
  by_cases q : j = k
  · simp [q]
  · simp [q]
theorem f_set (σ : St) (k : Nat) (v : Int32) : upd (gS σ 4) k v = gS (uS σ 4 k v) 4 := by
  funext j
  rw [gS_up]
  unfold upd
  simp
theorem d_set (σ : St) (k : Nat) (v : Int32) : upd (gS σ 5) k v = gS (uS σ 5 k v) 5 := by
  funext j
  rw [gS_up]
  unfold upd
  simp
theorem k_set (σ : St) (k : Nat) (b : Bool) : upd (kF σ) k (bI b) = kF (uB σ 2 k b) := by
  funext j
  unfold upd kF
  rw [gB_up]
  by_cases q : j = k
  · simp [q]
  · simp [q]
theorem m_set (σ : St) (k : Nat) (v : Int32) : upd (mF8 σ) k (v + 1) = mF8 (uS σ 8 k v) := by
  funext j
  unfold upd mF8
  rw [gS_up]
  by_cases q : j = k
  · simp [q]
  · simp [q]
theorem w_set6 (σ : St) {k : Nat} (hk : k < 32) (v : Int64) : vp_updL (wF σ) k v = wF (uT σ 6 k v) := by
  funext j
  unfold vp_updL wF
  rw [gT_up, gT_up]
  by_cases q : j = k
  · subst q
    simp [hk]
  · simp [q]
theorem w_set7 (σ : St) {k : Nat} (v : Int64) : vp_updL (wF σ) (32 + k) v = wF (uT σ 7 k v) := by
  funext j
  unfold vp_updL wF
  rw [gT_up, gT_up]
  by_cases q : j = 32 + k
  · subst q
    have h1 : ¬ 32 + k < 32 := by omega
    have h2 : 32 + k - 32 = k := by omega
    simp [h1, h2]
  · by_cases h1 : j < 32
    · simp [q, h1]
    · have h2 : ¬ j - 32 = k := by omega
      simp [q, h1, h2]
theorem n_set0 (σ : St) (γ : Nat) (v : Int32) : upd (nF8 σ γ) 0 v = nF8 (uI σ 1 v) γ := by
  funext j
  match j with
  | 0 => rfl
  | 1 => rfl
  | 2 => rfl
  | 3 => rfl
  | 4 => rfl
  | 5 => rfl
  | 6 => rfl
  | 7 => rfl
  | j + 8 => rfl
theorem n_set1 (σ : St) (γ : Nat) (v : Int32) : upd (nF8 σ γ) 1 v = nF8 (uI σ 3 v) γ := by
  funext j
  match j with
  | 0 => rfl
  | 1 => rfl
  | 2 => rfl
  | 3 => rfl
  | 4 => rfl
  | 5 => rfl
  | 6 => rfl
  | 7 => rfl
  | j + 8 => rfl
theorem n_set2 (σ : St) (γ : Nat) (v : Int32) : upd (nF8 σ γ) 2 v = nF8 (uI σ 4 v) γ := by
  funext j
  match j with
  | 0 => rfl
  | 1 => rfl
  | 2 => rfl
  | 3 => rfl
  | 4 => rfl
  | 5 => rfl
  | 6 => rfl
  | 7 => rfl
  | j + 8 => rfl
theorem n_set4 (σ : St) (γ : Nat) (v : Int32) : upd (nF8 σ γ) 4 v = nF8 (uI σ 6 v) γ := by
  funext j
  match j with
  | 0 => rfl
  | 1 => rfl
  | 2 => rfl
  | 3 => rfl
  | 4 => rfl
  | 5 => rfl
  | 6 => rfl
  | 7 => rfl
  | j + 8 => rfl
theorem n_set5 (σ : St) (γ : Nat) (v : Int32) : upd (nF8 σ γ) 5 v = nF8 (uI σ 7 v) γ := by
  funext j
  match j with
  | 0 => rfl
  | 1 => rfl
  | 2 => rfl
  | 3 => rfl
  | 4 => rfl
  | 5 => rfl
  | 6 => rfl
  | 7 => rfl
  | j + 8 => rfl
theorem n_set6 (σ : St) (γ : Nat) (v : Int32) : upd (nF8 σ γ) 6 v = nF8 (uI σ 11 v) γ := by
  funext j
  match j with
  | 0 => rfl
  | 1 => rfl
  | 2 => rfl
  | 3 => rfl
  | 4 => rfl
  | 5 => rfl
  | 6 => rfl
  | 7 => rfl
  | j + 8 => rfl
theorem n_set7 (σ : St) (γ : Nat) (v : Int32) : upd (nF8 σ γ) 7 v = nF8 (uI σ 12 v) γ := by
  funext j
  match j with
  | 0 => rfl
  | 1 => rfl
  | 2 => rfl
  | 3 => rfl
  | 4 => rfl
  | 5 => rfl
  | 6 => rfl
  | 7 => rfl
  | j + 8 => rfl
theorem n_set3 (σ : St) (γ η : Nat) : upd (nF8 σ γ) 3 (nI η) = nF8 σ η := by
  funext j
  match j with
  | 0 => rfl
  | 1 => rfl
  | 2 => rfl
  | 3 => rfl
  | 4 => rfl
  | 5 => rfl
  | 6 => rfl
  | 7 => rfl
  | j + 8 => rfl
theorem q_set0 (σ : St) (v : Int64) : vp_updL (qF5 σ) 0 v = qF5 (uL σ 2 v) := by
  funext j
  match j with
  | 0 => rfl
  | 1 => rfl
  | 2 => rfl
  | 3 => rfl
  | 4 => rfl
  | j + 5 => rfl
theorem q_set1 (σ : St) (v : Int64) : vp_updL (qF5 σ) 1 v = qF5 (uL σ 8 v) := by
  funext j
  match j with
  | 0 => rfl
  | 1 => rfl
  | 2 => rfl
  | 3 => rfl
  | 4 => rfl
  | j + 5 => rfl
theorem q_set2 (σ : St) (v : Int64) : vp_updL (qF5 σ) 2 v = qF5 (uL σ 9 v) := by
  funext j
  match j with
  | 0 => rfl
  | 1 => rfl
  | 2 => rfl
  | 3 => rfl
  | 4 => rfl
  | j + 5 => rfl
theorem q_set3 (σ : St) (v : Int64) : vp_updL (qF5 σ) 3 v = qF5 (uL σ 10 v) := by
  funext j
  match j with
  | 0 => rfl
  | 1 => rfl
  | 2 => rfl
  | 3 => rfl
  | 4 => rfl
  | j + 5 => rfl
theorem q_set4 (σ : St) (v : Int64) : vp_updL (qF5 σ) 4 v = qF5 (uL σ 5 v) := by
  funext j
  match j with
  | 0 => rfl
  | 1 => rfl
  | 2 => rfl
  | 3 => rfl
  | 4 => rfl
  | j + 5 => rfl
section LR
variable {p : Program} {l : Launch} {e : Env} {R : Room} {s : State} {m : MethodId} {args : Array Value} {below : List Frame} {meth : Method} {c : Code} {H : Heap} {locs : List Loc} {cells slots : Nat} {Q : State → Prop}
variable {cc : ByteArray} {pc : Nat} {ls : Array Slot} {rest : List Value} {D : va_G} {A0 : Nat → Prop} {ty : List (ClassId × FieldType)} {σ : St} {ρ : Nat → Int32} {γ : Nat}
variable {be : Nat → Nat} {cI cJ : ClassId} {wr : va_W}
theorem l_ld0 (hx : p.tables.exec = Jvm.exec) (hb : c.code = cc) (hK : va_K D vwCl (tX cI cJ ty) s) (hP : va_P D vwCl (lX be cI cJ wr (σ, ρ, γ)) H) {k : Nat} (hk : k < 32) (hdg : decode cc pc = .ok (.iaload, 1))
    (kk : W p l e R s m args below meth c H locs cells slots Q (F0 m (pc + 1) ls (.int (uF σ k) :: rest))) : W p l e R s m args below meth c H locs cells slots Q (F0 m pc ls (.int (nI k) :: .ref (be 0) :: rest)) := by
  refine va_iald hx hb hK hP 0 0 rfl rfl (vp_in_nI hk (by decide)) hdg ?_
  rw [nI_clamp (Nat.lt_trans hk (by decide))]
  exact kk
theorem l_ld1 (hx : p.tables.exec = Jvm.exec) (hb : c.code = cc) (hK : va_K D vwCl (tX cI cJ ty) s) (hP : va_P D vwCl (lX be cI cJ wr (σ, ρ, γ)) H) {k : Nat} (hk : k < 32) (hdg : decode cc pc = .ok (.iaload, 1))
    (kk : W p l e R s m args below meth c H locs cells slots Q (F0 m (pc + 1) ls (.int (gS σ 4 k) :: rest))) : W p l e R s m args below meth c H locs cells slots Q (F0 m pc ls (.int (nI k) :: .ref (be 1) :: rest)) := by
  refine va_iald hx hb hK hP 1 0 rfl rfl (vp_in_nI hk (by decide)) hdg ?_
  rw [nI_clamp (Nat.lt_trans hk (by decide))]
  exact kk
theorem l_ld2 (hx : p.tables.exec = Jvm.exec) (hb : c.code = cc) (hK : va_K D vwCl (tX cI cJ ty) s) (hP : va_P D vwCl (lX be cI cJ wr (σ, ρ, γ)) H) {k : Nat} (hk : k < 32) (hdg : decode cc pc = .ok (.iaload, 1))
    (kk : W p l e R s m args below meth c H locs cells slots Q (F0 m (pc + 1) ls (.int (gS σ 5 k) :: rest))) : W p l e R s m args below meth c H locs cells slots Q (F0 m pc ls (.int (nI k) :: .ref (be 2) :: rest)) := by
  refine va_iald hx hb hK hP 2 0 rfl rfl (vp_in_nI hk (by decide)) hdg ?_
  rw [nI_clamp (Nat.lt_trans hk (by decide))]
  exact kk
theorem l_ld3 (hx : p.tables.exec = Jvm.exec) (hb : c.code = cc) (hK : va_K D vwCl (tX cI cJ ty) s) (hP : va_P D vwCl (lX be cI cJ wr (σ, ρ, γ)) H) {k : Nat} (hk : k < 32) (hdg : decode cc pc = .ok (.iaload, 1))
    (kk : W p l e R s m args below meth c H locs cells slots Q (F0 m (pc + 1) ls (.int (bI (gB σ 2 k)) :: rest))) : W p l e R s m args below meth c H locs cells slots Q (F0 m pc ls (.int (nI k) :: .ref (be 3) :: rest)) := by
  refine va_iald hx hb hK hP 3 0 rfl rfl (vp_in_nI hk (by decide)) hdg ?_
  rw [nI_clamp (Nat.lt_trans hk (by decide))]
  exact kk
theorem l_ld4 (hx : p.tables.exec = Jvm.exec) (hb : c.code = cc) (hK : va_K D vwCl (tX cI cJ ty) s) (hP : va_P D vwCl (lX be cI cJ wr (σ, ρ, γ)) H) {k : Nat} (hk : k < 32) (hdg : decode cc pc = .ok (.iaload, 1))
    (kk : W p l e R s m args below meth c H locs cells slots Q (F0 m (pc + 1) ls (.int (gS σ 8 k + 1) :: rest))) : W p l e R s m args below meth c H locs cells slots Q (F0 m pc ls (.int (nI k) :: .ref (be 4) :: rest)) := by
  refine va_iald hx hb hK hP 4 0 rfl rfl (vp_in_nI hk (by decide)) hdg ?_
  rw [nI_clamp (Nat.lt_trans hk (by decide))]
  exact kk
theorem l_ld5 (hx : p.tables.exec = Jvm.exec) (hb : c.code = cc) (hK : va_K D vwCl (tX cI cJ ty) s) (hP : va_P D vwCl (lX be cI cJ wr (σ, ρ, γ)) H) {k : Nat} (hk : k < 33) (hdg : decode cc pc = .ok (.iaload, 1))
    (kk : W p l e R s m args below meth c H locs cells slots Q (F0 m (pc + 1) ls (.int (ρ k) :: rest))) : W p l e R s m args below meth c H locs cells slots Q (F0 m pc ls (.int (nI k) :: .ref (be 5) :: rest)) := by
  refine va_iald hx hb hK hP 5 0 rfl rfl (vp_in_nI hk (by decide)) hdg ?_
  rw [nI_clamp (Nat.lt_trans hk (by decide))]
  exact kk
theorem l_ld6 (hx : p.tables.exec = Jvm.exec) (hb : c.code = cc) (hK : va_K D vwCl (tX cI cJ ty) s) (hP : va_P D vwCl (lX be cI cJ wr (σ, ρ, γ)) H) {k : Nat} (hk : k < 8) {v : Int32} (hv : nF8 σ γ k = v) (hdg : decode cc pc = .ok (.iaload, 1))
    (kk : W p l e R s m args below meth c H locs cells slots Q (F0 m (pc + 1) ls (.int (v) :: rest))) : W p l e R s m args below meth c H locs cells slots Q (F0 m pc ls (.int (nI k) :: .ref (be 6) :: rest)) := by
  refine va_iald hx hb hK hP 6 0 rfl rfl (vp_in_nI hk (by decide)) hdg ?_
  rw [nI_clamp (Nat.lt_trans hk (by decide))]
  subst hv
  exact kk
theorem l_ld7 (hx : p.tables.exec = Jvm.exec) (hb : c.code = cc) (hK : va_K D vwCl (tX cI cJ ty) s) (hP : va_P D vwCl (lX be cI cJ wr (σ, ρ, γ)) H) {k : Nat} (hk : k < 32) (hdg : decode cc pc = .ok (.laload, 1))
    (kk : W p l e R s m args below meth c H locs cells slots Q (F0 m (pc + 1) ls (.long (gT σ 6 k) :: rest))) : W p l e R s m args below meth c H locs cells slots Q (F0 m pc ls (.int (nI k) :: .ref (be 7) :: rest)) := by
  refine va_lald hx hb hK hP 7 1 rfl rfl (vp_in_nI (n := k) (N := 64) (by omega) (by decide)) hdg ?_
  rw [nI_clamp (Nat.lt_trans hk (by decide))]
  have e9 : wF σ k = gT σ 6 k := by unfold wF; rw [if_pos hk]
  rw [show wF (σ, ρ, γ).1 k = gT σ 6 k from e9]
  exact kk
theorem l_ld7b (hx : p.tables.exec = Jvm.exec) (hb : c.code = cc) (hK : va_K D vwCl (tX cI cJ ty) s) (hP : va_P D vwCl (lX be cI cJ wr (σ, ρ, γ)) H) {k : Nat} (hk : k < 32) (hdg : decode cc pc = .ok (.laload, 1))
    (kk : W p l e R s m args below meth c H locs cells slots Q (F0 m (pc + 1) ls (.long (gT σ 7 k) :: rest))) : W p l e R s m args below meth c H locs cells slots Q (F0 m pc ls (.int ((32 : Int32) + nI k) :: .ref (be 7) :: rest)) := by
  refine va_lald hx hb hK hP 7 1 rfl rfl (by rw [n32]; exact vp_in_nI (n := 32 + k) (N := 64) (by omega) (by decide)) hdg ?_
  rw [n32, nI_clamp (by omega)]
  have e9 : wF σ (32 + k) = gT σ 7 k := by unfold wF; rw [if_neg (by omega), show 32 + k - 32 = k by omega]
  rw [show wF (σ, ρ, γ).1 (32 + k) = gT σ 7 k from e9]
  exact kk
theorem l_ld8 (hx : p.tables.exec = Jvm.exec) (hb : c.code = cc) (hK : va_K D vwCl (tX cI cJ ty) s) (hP : va_P D vwCl (lX be cI cJ wr (σ, ρ, γ)) H) {k : Nat} (hk : k < 5) {v : Int64} (hv : qF5 σ k = v) (hdg : decode cc pc = .ok (.laload, 1))
    (kk : W p l e R s m args below meth c H locs cells slots Q (F0 m (pc + 1) ls (.long (v) :: rest))) : W p l e R s m args below meth c H locs cells slots Q (F0 m pc ls (.int (nI k) :: .ref (be 8) :: rest)) := by
  refine va_lald hx hb hK hP 8 1 rfl rfl (vp_in_nI hk (by decide)) hdg ?_
  rw [nI_clamp (Nat.lt_trans hk (by decide))]
  subst hv
  exact kk
theorem l_st0ze  {k : Nat} {v : Int32} {η : Nat} {b9 : Bool} : (lX be cI cJ wr (σ, ρ, γ)).set 0 (be 0, .inl (cI, 32, .inl (upd (uF σ) (k) (0)))) = lX be cI cJ wr (uB σ 1 k false, ρ, γ) := by
  rw [e_set0]
  rfl
theorem l_st0z (hx : p.tables.exec = Jvm.exec) (hb : c.code = cc) (hK : va_K D vwCl (tX cI cJ ty) s) (hP : va_P D vwCl (lX be cI cJ wr (σ, ρ, γ)) H) (hD : va_D A0 (lX be cI cJ wr (σ, ρ, γ))) (hS : va_S A0 s.heap H locs) {k : Nat} (hk : k < 32) (hdg : decode cc pc = .ok (.iastore, 1))
    (kk : ∀ (H1 : Heap) (locs1 : List Loc), va_P D vwCl (lX be cI cJ wr (uB σ 1 k false, ρ, γ)) H1 → va_D A0 (lX be cI cJ wr (uB σ 1 k false, ρ, γ)) → va_S A0 s.heap H1 locs1 → W p l e R s m args below meth c H1 locs1 cells slots Q (F0 m (pc + 1) ls rest)) : W p l e R s m args below meth c H locs cells slots Q (F0 m pc ls (.int (0) :: .int (nI k) :: .ref (be 0) :: rest)) := by
  refine va_iast hx hb hK hP hD hS 0 0 rfl rfl (vp_in_nI hk (by decide)) hdg (fun H1 locs1 h1 h2 h3 => ?_)
  rw [nI_clamp (Nat.lt_trans hk (by decide))] at h1 h2
  exact kk H1 locs1 (P_eq (l_st0ze (be := be) (cI := cI) (cJ := cJ) (wr := wr) (σ := σ) (ρ := ρ) (γ := γ) (k := k) (v := 0) (η := 0) (b9 := false)) h1) (D_eq (l_st0ze (be := be) (cI := cI) (cJ := cJ) (wr := wr) (σ := σ) (ρ := ρ) (γ := γ) (k := k) (v := 0) (η := 0) (b9 := false)) h2) h3
theorem l_st0e  {k : Nat} {v : Int32} {η : Nat} {b9 : Bool} : (lX be cI cJ wr (σ, ρ, γ)).set 0 (be 0, .inl (cI, 32, .inl (upd (uF σ) (k) (v)))) = lX be cI cJ wr (uB (uS σ 3 k v) 1 k true, ρ, γ) := by
  rw [e_setv]
  rfl
theorem l_st0 (hx : p.tables.exec = Jvm.exec) (hb : c.code = cc) (hK : va_K D vwCl (tX cI cJ ty) s) (hP : va_P D vwCl (lX be cI cJ wr (σ, ρ, γ)) H) (hD : va_D A0 (lX be cI cJ wr (σ, ρ, γ))) (hS : va_S A0 s.heap H locs) {k : Nat} (hk : k < 32) {v : Int32} (hdg : decode cc pc = .ok (.iastore, 1))
    (kk : ∀ (H1 : Heap) (locs1 : List Loc), va_P D vwCl (lX be cI cJ wr (uB (uS σ 3 k v) 1 k true, ρ, γ)) H1 → va_D A0 (lX be cI cJ wr (uB (uS σ 3 k v) 1 k true, ρ, γ)) → va_S A0 s.heap H1 locs1 → W p l e R s m args below meth c H1 locs1 cells slots Q (F0 m (pc + 1) ls rest)) : W p l e R s m args below meth c H locs cells slots Q (F0 m pc ls (.int (v) :: .int (nI k) :: .ref (be 0) :: rest)) := by
  refine va_iast hx hb hK hP hD hS 0 0 rfl rfl (vp_in_nI hk (by decide)) hdg (fun H1 locs1 h1 h2 h3 => ?_)
  rw [nI_clamp (Nat.lt_trans hk (by decide))] at h1 h2
  exact kk H1 locs1 (P_eq (l_st0e (be := be) (cI := cI) (cJ := cJ) (wr := wr) (σ := σ) (ρ := ρ) (γ := γ) (k := k) (v := v) (η := 0) (b9 := false)) h1) (D_eq (l_st0e (be := be) (cI := cI) (cJ := cJ) (wr := wr) (σ := σ) (ρ := ρ) (γ := γ) (k := k) (v := v) (η := 0) (b9 := false)) h2) h3
theorem l_st1e  {k : Nat} {v : Int32} {η : Nat} {b9 : Bool} : (lX be cI cJ wr (σ, ρ, γ)).set 1 (be 1, .inl (cI, 32, .inl (upd (gS σ 4) (k) (v)))) = lX be cI cJ wr (uS σ 4 k v, ρ, γ) := by
  rw [f_set]
  rfl
theorem l_st1 (hx : p.tables.exec = Jvm.exec) (hb : c.code = cc) (hK : va_K D vwCl (tX cI cJ ty) s) (hP : va_P D vwCl (lX be cI cJ wr (σ, ρ, γ)) H) (hD : va_D A0 (lX be cI cJ wr (σ, ρ, γ))) (hS : va_S A0 s.heap H locs) {k : Nat} (hk : k < 32) {v : Int32} (hdg : decode cc pc = .ok (.iastore, 1))
    (kk : ∀ (H1 : Heap) (locs1 : List Loc), va_P D vwCl (lX be cI cJ wr (uS σ 4 k v, ρ, γ)) H1 → va_D A0 (lX be cI cJ wr (uS σ 4 k v, ρ, γ)) → va_S A0 s.heap H1 locs1 → W p l e R s m args below meth c H1 locs1 cells slots Q (F0 m (pc + 1) ls rest)) : W p l e R s m args below meth c H locs cells slots Q (F0 m pc ls (.int (v) :: .int (nI k) :: .ref (be 1) :: rest)) := by
  refine va_iast hx hb hK hP hD hS 1 0 rfl rfl (vp_in_nI hk (by decide)) hdg (fun H1 locs1 h1 h2 h3 => ?_)
  rw [nI_clamp (Nat.lt_trans hk (by decide))] at h1 h2
  exact kk H1 locs1 (P_eq (l_st1e (be := be) (cI := cI) (cJ := cJ) (wr := wr) (σ := σ) (ρ := ρ) (γ := γ) (k := k) (v := v) (η := 0) (b9 := false)) h1) (D_eq (l_st1e (be := be) (cI := cI) (cJ := cJ) (wr := wr) (σ := σ) (ρ := ρ) (γ := γ) (k := k) (v := v) (η := 0) (b9 := false)) h2) h3
theorem l_st2e  {k : Nat} {v : Int32} {η : Nat} {b9 : Bool} : (lX be cI cJ wr (σ, ρ, γ)).set 2 (be 2, .inl (cI, 32, .inl (upd (gS σ 5) (k) (v)))) = lX be cI cJ wr (uS σ 5 k v, ρ, γ) := by
  rw [d_set]
  rfl
theorem l_st2 (hx : p.tables.exec = Jvm.exec) (hb : c.code = cc) (hK : va_K D vwCl (tX cI cJ ty) s) (hP : va_P D vwCl (lX be cI cJ wr (σ, ρ, γ)) H) (hD : va_D A0 (lX be cI cJ wr (σ, ρ, γ))) (hS : va_S A0 s.heap H locs) {k : Nat} (hk : k < 32) {v : Int32} (hdg : decode cc pc = .ok (.iastore, 1))
    (kk : ∀ (H1 : Heap) (locs1 : List Loc), va_P D vwCl (lX be cI cJ wr (uS σ 5 k v, ρ, γ)) H1 → va_D A0 (lX be cI cJ wr (uS σ 5 k v, ρ, γ)) → va_S A0 s.heap H1 locs1 → W p l e R s m args below meth c H1 locs1 cells slots Q (F0 m (pc + 1) ls rest)) : W p l e R s m args below meth c H locs cells slots Q (F0 m pc ls (.int (v) :: .int (nI k) :: .ref (be 2) :: rest)) := by
  refine va_iast hx hb hK hP hD hS 2 0 rfl rfl (vp_in_nI hk (by decide)) hdg (fun H1 locs1 h1 h2 h3 => ?_)
  rw [nI_clamp (Nat.lt_trans hk (by decide))] at h1 h2
  exact kk H1 locs1 (P_eq (l_st2e (be := be) (cI := cI) (cJ := cJ) (wr := wr) (σ := σ) (ρ := ρ) (γ := γ) (k := k) (v := v) (η := 0) (b9 := false)) h1) (D_eq (l_st2e (be := be) (cI := cI) (cJ := cJ) (wr := wr) (σ := σ) (ρ := ρ) (γ := γ) (k := k) (v := v) (η := 0) (b9 := false)) h2) h3
theorem l_st3e  {k : Nat} {v : Int32} {η : Nat} {b9 : Bool} : (lX be cI cJ wr (σ, ρ, γ)).set 3 (be 3, .inl (cI, 32, .inl (upd (kF σ) (k) (bI b9)))) = lX be cI cJ wr (uB σ 2 k b9, ρ, γ) := by
  rw [k_set]
  rfl
theorem l_st3 (hx : p.tables.exec = Jvm.exec) (hb : c.code = cc) (hK : va_K D vwCl (tX cI cJ ty) s) (hP : va_P D vwCl (lX be cI cJ wr (σ, ρ, γ)) H) (hD : va_D A0 (lX be cI cJ wr (σ, ρ, γ))) (hS : va_S A0 s.heap H locs) {k : Nat} (hk : k < 32) {b9 : Bool} (hdg : decode cc pc = .ok (.iastore, 1))
    (kk : ∀ (H1 : Heap) (locs1 : List Loc), va_P D vwCl (lX be cI cJ wr (uB σ 2 k b9, ρ, γ)) H1 → va_D A0 (lX be cI cJ wr (uB σ 2 k b9, ρ, γ)) → va_S A0 s.heap H1 locs1 → W p l e R s m args below meth c H1 locs1 cells slots Q (F0 m (pc + 1) ls rest)) : W p l e R s m args below meth c H locs cells slots Q (F0 m pc ls (.int (bI b9) :: .int (nI k) :: .ref (be 3) :: rest)) := by
  refine va_iast hx hb hK hP hD hS 3 0 rfl rfl (vp_in_nI hk (by decide)) hdg (fun H1 locs1 h1 h2 h3 => ?_)
  rw [nI_clamp (Nat.lt_trans hk (by decide))] at h1 h2
  exact kk H1 locs1 (P_eq (l_st3e (be := be) (cI := cI) (cJ := cJ) (wr := wr) (σ := σ) (ρ := ρ) (γ := γ) (k := k) (v := 0) (η := 0) (b9 := b9)) h1) (D_eq (l_st3e (be := be) (cI := cI) (cJ := cJ) (wr := wr) (σ := σ) (ρ := ρ) (γ := γ) (k := k) (v := 0) (η := 0) (b9 := b9)) h2) h3
theorem l_st4e  {k : Nat} {v : Int32} {η : Nat} {b9 : Bool} : (lX be cI cJ wr (σ, ρ, γ)).set 4 (be 4, .inl (cI, 32, .inl (upd (mF8 σ) (k) (v + 1)))) = lX be cI cJ wr (uS σ 8 k v, ρ, γ) := by
  rw [m_set]
  rfl
theorem l_st4 (hx : p.tables.exec = Jvm.exec) (hb : c.code = cc) (hK : va_K D vwCl (tX cI cJ ty) s) (hP : va_P D vwCl (lX be cI cJ wr (σ, ρ, γ)) H) (hD : va_D A0 (lX be cI cJ wr (σ, ρ, γ))) (hS : va_S A0 s.heap H locs) {k : Nat} (hk : k < 32) {v : Int32} (hdg : decode cc pc = .ok (.iastore, 1))
    (kk : ∀ (H1 : Heap) (locs1 : List Loc), va_P D vwCl (lX be cI cJ wr (uS σ 8 k v, ρ, γ)) H1 → va_D A0 (lX be cI cJ wr (uS σ 8 k v, ρ, γ)) → va_S A0 s.heap H1 locs1 → W p l e R s m args below meth c H1 locs1 cells slots Q (F0 m (pc + 1) ls rest)) : W p l e R s m args below meth c H locs cells slots Q (F0 m pc ls (.int (v + 1) :: .int (nI k) :: .ref (be 4) :: rest)) := by
  refine va_iast hx hb hK hP hD hS 4 0 rfl rfl (vp_in_nI hk (by decide)) hdg (fun H1 locs1 h1 h2 h3 => ?_)
  rw [nI_clamp (Nat.lt_trans hk (by decide))] at h1 h2
  exact kk H1 locs1 (P_eq (l_st4e (be := be) (cI := cI) (cJ := cJ) (wr := wr) (σ := σ) (ρ := ρ) (γ := γ) (k := k) (v := v) (η := 0) (b9 := false)) h1) (D_eq (l_st4e (be := be) (cI := cI) (cJ := cJ) (wr := wr) (σ := σ) (ρ := ρ) (γ := γ) (k := k) (v := v) (η := 0) (b9 := false)) h2) h3
theorem l_st5e {k : Nat} {v : Int32} {η : Nat} {b9 : Bool} : (lX be cI cJ wr (σ, ρ, γ)).set 5 (be 5, .inl (cI, 33, .inl (upd (ρ) (k) (v)))) = lX be cI cJ wr (σ, upd ρ k v, γ) := rfl
theorem l_st5 (hx : p.tables.exec = Jvm.exec) (hb : c.code = cc) (hK : va_K D vwCl (tX cI cJ ty) s) (hP : va_P D vwCl (lX be cI cJ wr (σ, ρ, γ)) H) (hD : va_D A0 (lX be cI cJ wr (σ, ρ, γ))) (hS : va_S A0 s.heap H locs) {k : Nat} (hk : k < 33) {v : Int32} (hdg : decode cc pc = .ok (.iastore, 1))
    (kk : ∀ (H1 : Heap) (locs1 : List Loc), va_P D vwCl (lX be cI cJ wr (σ, upd ρ k v, γ)) H1 → va_D A0 (lX be cI cJ wr (σ, upd ρ k v, γ)) → va_S A0 s.heap H1 locs1 → W p l e R s m args below meth c H1 locs1 cells slots Q (F0 m (pc + 1) ls rest)) : W p l e R s m args below meth c H locs cells slots Q (F0 m pc ls (.int (v) :: .int (nI k) :: .ref (be 5) :: rest)) := by
  refine va_iast hx hb hK hP hD hS 5 0 rfl rfl (vp_in_nI hk (by decide)) hdg (fun H1 locs1 h1 h2 h3 => ?_)
  rw [nI_clamp (Nat.lt_trans hk (by decide))] at h1 h2
  exact kk H1 locs1 (P_eq (l_st5e (be := be) (cI := cI) (cJ := cJ) (wr := wr) (σ := σ) (ρ := ρ) (γ := γ) (k := k) (v := v) (η := 0) (b9 := false)) h1) (D_eq (l_st5e (be := be) (cI := cI) (cJ := cJ) (wr := wr) (σ := σ) (ρ := ρ) (γ := γ) (k := k) (v := v) (η := 0) (b9 := false)) h2) h3
theorem l_st6_0e  {k : Nat} {v : Int32} {η : Nat} {b9 : Bool} : (lX be cI cJ wr (σ, ρ, γ)).set 6 (be 6, .inl (cI, 8, .inl (upd (nF8 σ γ) (0) (v)))) = lX be cI cJ wr (uI σ 1 v, ρ, γ) := by
  rw [n_set0]
  rfl
theorem l_st6_0 (hx : p.tables.exec = Jvm.exec) (hb : c.code = cc) (hK : va_K D vwCl (tX cI cJ ty) s) (hP : va_P D vwCl (lX be cI cJ wr (σ, ρ, γ)) H) (hD : va_D A0 (lX be cI cJ wr (σ, ρ, γ))) (hS : va_S A0 s.heap H locs) {v : Int32} (hdg : decode cc pc = .ok (.iastore, 1))
    (kk : ∀ (H1 : Heap) (locs1 : List Loc), va_P D vwCl (lX be cI cJ wr (uI σ 1 v, ρ, γ)) H1 → va_D A0 (lX be cI cJ wr (uI σ 1 v, ρ, γ)) → va_S A0 s.heap H1 locs1 → W p l e R s m args below meth c H1 locs1 cells slots Q (F0 m (pc + 1) ls rest)) : W p l e R s m args below meth c H locs cells slots Q (F0 m pc ls (.int (v) :: .int (0) :: .ref (be 6) :: rest)) := by
  refine va_iast hx hb hK hP hD hS 6 0 rfl rfl (vp_in_nI (n := 0) (N := 8) (by decide) (by decide)) hdg (fun H1 locs1 h1 h2 h3 => ?_)
  rw [(by decide : (0 : Int32).toNatClampNeg = 0)] at h1 h2
  exact kk H1 locs1 (P_eq (l_st6_0e (be := be) (cI := cI) (cJ := cJ) (wr := wr) (σ := σ) (ρ := ρ) (γ := γ) (k := 0) (v := v) (η := 0) (b9 := false)) h1) (D_eq (l_st6_0e (be := be) (cI := cI) (cJ := cJ) (wr := wr) (σ := σ) (ρ := ρ) (γ := γ) (k := 0) (v := v) (η := 0) (b9 := false)) h2) h3
theorem l_st6_1e  {k : Nat} {v : Int32} {η : Nat} {b9 : Bool} : (lX be cI cJ wr (σ, ρ, γ)).set 6 (be 6, .inl (cI, 8, .inl (upd (nF8 σ γ) (1) (v)))) = lX be cI cJ wr (uI σ 3 v, ρ, γ) := by
  rw [n_set1]
  rfl
theorem l_st6_1 (hx : p.tables.exec = Jvm.exec) (hb : c.code = cc) (hK : va_K D vwCl (tX cI cJ ty) s) (hP : va_P D vwCl (lX be cI cJ wr (σ, ρ, γ)) H) (hD : va_D A0 (lX be cI cJ wr (σ, ρ, γ))) (hS : va_S A0 s.heap H locs) {v : Int32} (hdg : decode cc pc = .ok (.iastore, 1))
    (kk : ∀ (H1 : Heap) (locs1 : List Loc), va_P D vwCl (lX be cI cJ wr (uI σ 3 v, ρ, γ)) H1 → va_D A0 (lX be cI cJ wr (uI σ 3 v, ρ, γ)) → va_S A0 s.heap H1 locs1 → W p l e R s m args below meth c H1 locs1 cells slots Q (F0 m (pc + 1) ls rest)) : W p l e R s m args below meth c H locs cells slots Q (F0 m pc ls (.int (v) :: .int (1) :: .ref (be 6) :: rest)) := by
  refine va_iast hx hb hK hP hD hS 6 0 rfl rfl (vp_in_nI (n := 1) (N := 8) (by decide) (by decide)) hdg (fun H1 locs1 h1 h2 h3 => ?_)
  rw [(by decide : (1 : Int32).toNatClampNeg = 1)] at h1 h2
  exact kk H1 locs1 (P_eq (l_st6_1e (be := be) (cI := cI) (cJ := cJ) (wr := wr) (σ := σ) (ρ := ρ) (γ := γ) (k := 0) (v := v) (η := 0) (b9 := false)) h1) (D_eq (l_st6_1e (be := be) (cI := cI) (cJ := cJ) (wr := wr) (σ := σ) (ρ := ρ) (γ := γ) (k := 0) (v := v) (η := 0) (b9 := false)) h2) h3
theorem l_st6_2e  {k : Nat} {v : Int32} {η : Nat} {b9 : Bool} : (lX be cI cJ wr (σ, ρ, γ)).set 6 (be 6, .inl (cI, 8, .inl (upd (nF8 σ γ) (2) (v)))) = lX be cI cJ wr (uI σ 4 v, ρ, γ) := by
  rw [n_set2]
  rfl
theorem l_st6_2 (hx : p.tables.exec = Jvm.exec) (hb : c.code = cc) (hK : va_K D vwCl (tX cI cJ ty) s) (hP : va_P D vwCl (lX be cI cJ wr (σ, ρ, γ)) H) (hD : va_D A0 (lX be cI cJ wr (σ, ρ, γ))) (hS : va_S A0 s.heap H locs) {v : Int32} (hdg : decode cc pc = .ok (.iastore, 1))
    (kk : ∀ (H1 : Heap) (locs1 : List Loc), va_P D vwCl (lX be cI cJ wr (uI σ 4 v, ρ, γ)) H1 → va_D A0 (lX be cI cJ wr (uI σ 4 v, ρ, γ)) → va_S A0 s.heap H1 locs1 → W p l e R s m args below meth c H1 locs1 cells slots Q (F0 m (pc + 1) ls rest)) : W p l e R s m args below meth c H locs cells slots Q (F0 m pc ls (.int (v) :: .int (2) :: .ref (be 6) :: rest)) := by
  refine va_iast hx hb hK hP hD hS 6 0 rfl rfl (vp_in_nI (n := 2) (N := 8) (by decide) (by decide)) hdg (fun H1 locs1 h1 h2 h3 => ?_)
  rw [(by decide : (2 : Int32).toNatClampNeg = 2)] at h1 h2
  exact kk H1 locs1 (P_eq (l_st6_2e (be := be) (cI := cI) (cJ := cJ) (wr := wr) (σ := σ) (ρ := ρ) (γ := γ) (k := 0) (v := v) (η := 0) (b9 := false)) h1) (D_eq (l_st6_2e (be := be) (cI := cI) (cJ := cJ) (wr := wr) (σ := σ) (ρ := ρ) (γ := γ) (k := 0) (v := v) (η := 0) (b9 := false)) h2) h3
theorem l_st6_4e  {k : Nat} {v : Int32} {η : Nat} {b9 : Bool} : (lX be cI cJ wr (σ, ρ, γ)).set 6 (be 6, .inl (cI, 8, .inl (upd (nF8 σ γ) (4) (v)))) = lX be cI cJ wr (uI σ 6 v, ρ, γ) := by
  rw [n_set4]
  rfl
theorem l_st6_4 (hx : p.tables.exec = Jvm.exec) (hb : c.code = cc) (hK : va_K D vwCl (tX cI cJ ty) s) (hP : va_P D vwCl (lX be cI cJ wr (σ, ρ, γ)) H) (hD : va_D A0 (lX be cI cJ wr (σ, ρ, γ))) (hS : va_S A0 s.heap H locs) {v : Int32} (hdg : decode cc pc = .ok (.iastore, 1))
    (kk : ∀ (H1 : Heap) (locs1 : List Loc), va_P D vwCl (lX be cI cJ wr (uI σ 6 v, ρ, γ)) H1 → va_D A0 (lX be cI cJ wr (uI σ 6 v, ρ, γ)) → va_S A0 s.heap H1 locs1 → W p l e R s m args below meth c H1 locs1 cells slots Q (F0 m (pc + 1) ls rest)) : W p l e R s m args below meth c H locs cells slots Q (F0 m pc ls (.int (v) :: .int (4) :: .ref (be 6) :: rest)) := by
  refine va_iast hx hb hK hP hD hS 6 0 rfl rfl (vp_in_nI (n := 4) (N := 8) (by decide) (by decide)) hdg (fun H1 locs1 h1 h2 h3 => ?_)
  rw [(by decide : (4 : Int32).toNatClampNeg = 4)] at h1 h2
  exact kk H1 locs1 (P_eq (l_st6_4e (be := be) (cI := cI) (cJ := cJ) (wr := wr) (σ := σ) (ρ := ρ) (γ := γ) (k := 0) (v := v) (η := 0) (b9 := false)) h1) (D_eq (l_st6_4e (be := be) (cI := cI) (cJ := cJ) (wr := wr) (σ := σ) (ρ := ρ) (γ := γ) (k := 0) (v := v) (η := 0) (b9 := false)) h2) h3
theorem l_st6_5e  {k : Nat} {v : Int32} {η : Nat} {b9 : Bool} : (lX be cI cJ wr (σ, ρ, γ)).set 6 (be 6, .inl (cI, 8, .inl (upd (nF8 σ γ) (5) (v)))) = lX be cI cJ wr (uI σ 7 v, ρ, γ) := by
  rw [n_set5]
  rfl
theorem l_st6_5 (hx : p.tables.exec = Jvm.exec) (hb : c.code = cc) (hK : va_K D vwCl (tX cI cJ ty) s) (hP : va_P D vwCl (lX be cI cJ wr (σ, ρ, γ)) H) (hD : va_D A0 (lX be cI cJ wr (σ, ρ, γ))) (hS : va_S A0 s.heap H locs) {v : Int32} (hdg : decode cc pc = .ok (.iastore, 1))
    (kk : ∀ (H1 : Heap) (locs1 : List Loc), va_P D vwCl (lX be cI cJ wr (uI σ 7 v, ρ, γ)) H1 → va_D A0 (lX be cI cJ wr (uI σ 7 v, ρ, γ)) → va_S A0 s.heap H1 locs1 → W p l e R s m args below meth c H1 locs1 cells slots Q (F0 m (pc + 1) ls rest)) : W p l e R s m args below meth c H locs cells slots Q (F0 m pc ls (.int (v) :: .int (5) :: .ref (be 6) :: rest)) := by
  refine va_iast hx hb hK hP hD hS 6 0 rfl rfl (vp_in_nI (n := 5) (N := 8) (by decide) (by decide)) hdg (fun H1 locs1 h1 h2 h3 => ?_)
  rw [(by decide : (5 : Int32).toNatClampNeg = 5)] at h1 h2
  exact kk H1 locs1 (P_eq (l_st6_5e (be := be) (cI := cI) (cJ := cJ) (wr := wr) (σ := σ) (ρ := ρ) (γ := γ) (k := 0) (v := v) (η := 0) (b9 := false)) h1) (D_eq (l_st6_5e (be := be) (cI := cI) (cJ := cJ) (wr := wr) (σ := σ) (ρ := ρ) (γ := γ) (k := 0) (v := v) (η := 0) (b9 := false)) h2) h3
theorem l_st6_6e  {k : Nat} {v : Int32} {η : Nat} {b9 : Bool} : (lX be cI cJ wr (σ, ρ, γ)).set 6 (be 6, .inl (cI, 8, .inl (upd (nF8 σ γ) (6) (v)))) = lX be cI cJ wr (uI σ 11 v, ρ, γ) := by
  rw [n_set6]
  rfl
theorem l_st6_6 (hx : p.tables.exec = Jvm.exec) (hb : c.code = cc) (hK : va_K D vwCl (tX cI cJ ty) s) (hP : va_P D vwCl (lX be cI cJ wr (σ, ρ, γ)) H) (hD : va_D A0 (lX be cI cJ wr (σ, ρ, γ))) (hS : va_S A0 s.heap H locs) {v : Int32} (hdg : decode cc pc = .ok (.iastore, 1))
    (kk : ∀ (H1 : Heap) (locs1 : List Loc), va_P D vwCl (lX be cI cJ wr (uI σ 11 v, ρ, γ)) H1 → va_D A0 (lX be cI cJ wr (uI σ 11 v, ρ, γ)) → va_S A0 s.heap H1 locs1 → W p l e R s m args below meth c H1 locs1 cells slots Q (F0 m (pc + 1) ls rest)) : W p l e R s m args below meth c H locs cells slots Q (F0 m pc ls (.int (v) :: .int (6) :: .ref (be 6) :: rest)) := by
  refine va_iast hx hb hK hP hD hS 6 0 rfl rfl (vp_in_nI (n := 6) (N := 8) (by decide) (by decide)) hdg (fun H1 locs1 h1 h2 h3 => ?_)
  rw [(by decide : (6 : Int32).toNatClampNeg = 6)] at h1 h2
  exact kk H1 locs1 (P_eq (l_st6_6e (be := be) (cI := cI) (cJ := cJ) (wr := wr) (σ := σ) (ρ := ρ) (γ := γ) (k := 0) (v := v) (η := 0) (b9 := false)) h1) (D_eq (l_st6_6e (be := be) (cI := cI) (cJ := cJ) (wr := wr) (σ := σ) (ρ := ρ) (γ := γ) (k := 0) (v := v) (η := 0) (b9 := false)) h2) h3
theorem l_st6_7e  {k : Nat} {v : Int32} {η : Nat} {b9 : Bool} : (lX be cI cJ wr (σ, ρ, γ)).set 6 (be 6, .inl (cI, 8, .inl (upd (nF8 σ γ) (7) (v)))) = lX be cI cJ wr (uI σ 12 v, ρ, γ) := by
  rw [n_set7]
  rfl
theorem l_st6_7 (hx : p.tables.exec = Jvm.exec) (hb : c.code = cc) (hK : va_K D vwCl (tX cI cJ ty) s) (hP : va_P D vwCl (lX be cI cJ wr (σ, ρ, γ)) H) (hD : va_D A0 (lX be cI cJ wr (σ, ρ, γ))) (hS : va_S A0 s.heap H locs) {v : Int32} (hdg : decode cc pc = .ok (.iastore, 1))
    (kk : ∀ (H1 : Heap) (locs1 : List Loc), va_P D vwCl (lX be cI cJ wr (uI σ 12 v, ρ, γ)) H1 → va_D A0 (lX be cI cJ wr (uI σ 12 v, ρ, γ)) → va_S A0 s.heap H1 locs1 → W p l e R s m args below meth c H1 locs1 cells slots Q (F0 m (pc + 1) ls rest)) : W p l e R s m args below meth c H locs cells slots Q (F0 m pc ls (.int (v) :: .int (7) :: .ref (be 6) :: rest)) := by
  refine va_iast hx hb hK hP hD hS 6 0 rfl rfl (vp_in_nI (n := 7) (N := 8) (by decide) (by decide)) hdg (fun H1 locs1 h1 h2 h3 => ?_)
  rw [(by decide : (7 : Int32).toNatClampNeg = 7)] at h1 h2
  exact kk H1 locs1 (P_eq (l_st6_7e (be := be) (cI := cI) (cJ := cJ) (wr := wr) (σ := σ) (ρ := ρ) (γ := γ) (k := 0) (v := v) (η := 0) (b9 := false)) h1) (D_eq (l_st6_7e (be := be) (cI := cI) (cJ := cJ) (wr := wr) (σ := σ) (ρ := ρ) (γ := γ) (k := 0) (v := v) (η := 0) (b9 := false)) h2) h3
theorem l_st6_3e  {k : Nat} {v : Int32} {η : Nat} {b9 : Bool} : (lX be cI cJ wr (σ, ρ, γ)).set 6 (be 6, .inl (cI, 8, .inl (upd (nF8 σ γ) (3) (nI η)))) = lX be cI cJ wr (σ, ρ, η) := by
  rw [n_set3]
  rfl
theorem l_st6_3 (hx : p.tables.exec = Jvm.exec) (hb : c.code = cc) (hK : va_K D vwCl (tX cI cJ ty) s) (hP : va_P D vwCl (lX be cI cJ wr (σ, ρ, γ)) H) (hD : va_D A0 (lX be cI cJ wr (σ, ρ, γ))) (hS : va_S A0 s.heap H locs) {η : Nat} (hdg : decode cc pc = .ok (.iastore, 1))
    (kk : ∀ (H1 : Heap) (locs1 : List Loc), va_P D vwCl (lX be cI cJ wr (σ, ρ, η)) H1 → va_D A0 (lX be cI cJ wr (σ, ρ, η)) → va_S A0 s.heap H1 locs1 → W p l e R s m args below meth c H1 locs1 cells slots Q (F0 m (pc + 1) ls rest)) : W p l e R s m args below meth c H locs cells slots Q (F0 m pc ls (.int (nI η) :: .int (3) :: .ref (be 6) :: rest)) := by
  refine va_iast hx hb hK hP hD hS 6 0 rfl rfl (vp_in_nI (n := 3) (N := 8) (by decide) (by decide)) hdg (fun H1 locs1 h1 h2 h3 => ?_)
  rw [(by decide : (3 : Int32).toNatClampNeg = 3)] at h1 h2
  exact kk H1 locs1 (P_eq (l_st6_3e (be := be) (cI := cI) (cJ := cJ) (wr := wr) (σ := σ) (ρ := ρ) (γ := γ) (k := 0) (v := 0) (η := η) (b9 := false)) h1) (D_eq (l_st6_3e (be := be) (cI := cI) (cJ := cJ) (wr := wr) (σ := σ) (ρ := ρ) (γ := γ) (k := 0) (v := 0) (η := η) (b9 := false)) h2) h3
theorem l_st7e {k : Nat} (hk : k < 32) {v : Int64} {η : Nat} {b9 : Bool} : (lX be cI cJ wr (σ, ρ, γ)).set 7 (be 7, .inl (cJ, 64, .inr (.inl (vp_updL (wF σ) (k) (v))))) = lX be cI cJ wr (uT σ 6 k v, ρ, γ) := by
  rw [w_set6 σ hk]
  rfl
theorem l_st7 (hx : p.tables.exec = Jvm.exec) (hb : c.code = cc) (hK : va_K D vwCl (tX cI cJ ty) s) (hP : va_P D vwCl (lX be cI cJ wr (σ, ρ, γ)) H) (hD : va_D A0 (lX be cI cJ wr (σ, ρ, γ))) (hS : va_S A0 s.heap H locs) {k : Nat} (hk : k < 32) {v : Int64} (hdg : decode cc pc = .ok (.lastore, 1))
    (kk : ∀ (H1 : Heap) (locs1 : List Loc), va_P D vwCl (lX be cI cJ wr (uT σ 6 k v, ρ, γ)) H1 → va_D A0 (lX be cI cJ wr (uT σ 6 k v, ρ, γ)) → va_S A0 s.heap H1 locs1 → W p l e R s m args below meth c H1 locs1 cells slots Q (F0 m (pc + 1) ls rest)) : W p l e R s m args below meth c H locs cells slots Q (F0 m pc ls (.long (v) :: .int (nI k) :: .ref (be 7) :: rest)) := by
  refine va_last hx hb hK hP hD hS 7 1 rfl rfl (vp_in_nI (n := k) (N := 64) (by omega) (by decide)) hdg (fun H1 locs1 h1 h2 h3 => ?_)
  rw [nI_clamp (Nat.lt_trans hk (by decide))] at h1 h2
  exact kk H1 locs1 (P_eq (l_st7e (be := be) (cI := cI) (cJ := cJ) (wr := wr) (σ := σ) (ρ := ρ) (γ := γ) hk (v := v) (η := 0) (b9 := false)) h1) (D_eq (l_st7e (be := be) (cI := cI) (cJ := cJ) (wr := wr) (σ := σ) (ρ := ρ) (γ := γ) hk (v := v) (η := 0) (b9 := false)) h2) h3
theorem l_st7be  {k : Nat} {v : Int64} {η : Nat} {b9 : Bool} : (lX be cI cJ wr (σ, ρ, γ)).set 7 (be 7, .inl (cJ, 64, .inr (.inl (vp_updL (wF σ) (32 + k) (v))))) = lX be cI cJ wr (uT σ 7 k v, ρ, γ) := by
  rw [w_set7]
  rfl
theorem l_st7b (hx : p.tables.exec = Jvm.exec) (hb : c.code = cc) (hK : va_K D vwCl (tX cI cJ ty) s) (hP : va_P D vwCl (lX be cI cJ wr (σ, ρ, γ)) H) (hD : va_D A0 (lX be cI cJ wr (σ, ρ, γ))) (hS : va_S A0 s.heap H locs) {k : Nat} (hk : k < 32) {v : Int64} (hdg : decode cc pc = .ok (.lastore, 1))
    (kk : ∀ (H1 : Heap) (locs1 : List Loc), va_P D vwCl (lX be cI cJ wr (uT σ 7 k v, ρ, γ)) H1 → va_D A0 (lX be cI cJ wr (uT σ 7 k v, ρ, γ)) → va_S A0 s.heap H1 locs1 → W p l e R s m args below meth c H1 locs1 cells slots Q (F0 m (pc + 1) ls rest)) : W p l e R s m args below meth c H locs cells slots Q (F0 m pc ls (.long (v) :: .int ((32 : Int32) + nI k) :: .ref (be 7) :: rest)) := by
  refine va_last hx hb hK hP hD hS 7 1 rfl rfl (by rw [n32]; exact vp_in_nI (n := 32 + k) (N := 64) (by omega) (by decide)) hdg (fun H1 locs1 h1 h2 h3 => ?_)
  rw [n32, nI_clamp (n := 32 + k) (by omega)] at h1 h2
  exact kk H1 locs1 (P_eq (l_st7be (be := be) (cI := cI) (cJ := cJ) (wr := wr) (σ := σ) (ρ := ρ) (γ := γ) (k := k) (v := v) (η := 0) (b9 := false)) h1) (D_eq (l_st7be (be := be) (cI := cI) (cJ := cJ) (wr := wr) (σ := σ) (ρ := ρ) (γ := γ) (k := k) (v := v) (η := 0) (b9 := false)) h2) h3
theorem l_st8_0e  {k : Nat} {v : Int64} {η : Nat} {b9 : Bool} : (lX be cI cJ wr (σ, ρ, γ)).set 8 (be 8, .inl (cJ, 5, .inr (.inl (vp_updL (qF5 σ) (0) (v))))) = lX be cI cJ wr (uL σ 2 v, ρ, γ) := by
  rw [q_set0]
  rfl
theorem l_st8_0 (hx : p.tables.exec = Jvm.exec) (hb : c.code = cc) (hK : va_K D vwCl (tX cI cJ ty) s) (hP : va_P D vwCl (lX be cI cJ wr (σ, ρ, γ)) H) (hD : va_D A0 (lX be cI cJ wr (σ, ρ, γ))) (hS : va_S A0 s.heap H locs) {v : Int64} (hdg : decode cc pc = .ok (.lastore, 1))
    (kk : ∀ (H1 : Heap) (locs1 : List Loc), va_P D vwCl (lX be cI cJ wr (uL σ 2 v, ρ, γ)) H1 → va_D A0 (lX be cI cJ wr (uL σ 2 v, ρ, γ)) → va_S A0 s.heap H1 locs1 → W p l e R s m args below meth c H1 locs1 cells slots Q (F0 m (pc + 1) ls rest)) : W p l e R s m args below meth c H locs cells slots Q (F0 m pc ls (.long (v) :: .int (0) :: .ref (be 8) :: rest)) := by
  refine va_last hx hb hK hP hD hS 8 1 rfl rfl (vp_in_nI (n := 0) (N := 5) (by decide) (by decide)) hdg (fun H1 locs1 h1 h2 h3 => ?_)
  rw [(by decide : (0 : Int32).toNatClampNeg = 0)] at h1 h2
  exact kk H1 locs1 (P_eq (l_st8_0e (be := be) (cI := cI) (cJ := cJ) (wr := wr) (σ := σ) (ρ := ρ) (γ := γ) (k := 0) (v := v) (η := 0) (b9 := false)) h1) (D_eq (l_st8_0e (be := be) (cI := cI) (cJ := cJ) (wr := wr) (σ := σ) (ρ := ρ) (γ := γ) (k := 0) (v := v) (η := 0) (b9 := false)) h2) h3
theorem l_st8_1e  {k : Nat} {v : Int64} {η : Nat} {b9 : Bool} : (lX be cI cJ wr (σ, ρ, γ)).set 8 (be 8, .inl (cJ, 5, .inr (.inl (vp_updL (qF5 σ) (1) (v))))) = lX be cI cJ wr (uL σ 8 v, ρ, γ) := by
  rw [q_set1]
  rfl
theorem l_st8_1 (hx : p.tables.exec = Jvm.exec) (hb : c.code = cc) (hK : va_K D vwCl (tX cI cJ ty) s) (hP : va_P D vwCl (lX be cI cJ wr (σ, ρ, γ)) H) (hD : va_D A0 (lX be cI cJ wr (σ, ρ, γ))) (hS : va_S A0 s.heap H locs) {v : Int64} (hdg : decode cc pc = .ok (.lastore, 1))
    (kk : ∀ (H1 : Heap) (locs1 : List Loc), va_P D vwCl (lX be cI cJ wr (uL σ 8 v, ρ, γ)) H1 → va_D A0 (lX be cI cJ wr (uL σ 8 v, ρ, γ)) → va_S A0 s.heap H1 locs1 → W p l e R s m args below meth c H1 locs1 cells slots Q (F0 m (pc + 1) ls rest)) : W p l e R s m args below meth c H locs cells slots Q (F0 m pc ls (.long (v) :: .int (1) :: .ref (be 8) :: rest)) := by
  refine va_last hx hb hK hP hD hS 8 1 rfl rfl (vp_in_nI (n := 1) (N := 5) (by decide) (by decide)) hdg (fun H1 locs1 h1 h2 h3 => ?_)
  rw [(by decide : (1 : Int32).toNatClampNeg = 1)] at h1 h2
  exact kk H1 locs1 (P_eq (l_st8_1e (be := be) (cI := cI) (cJ := cJ) (wr := wr) (σ := σ) (ρ := ρ) (γ := γ) (k := 0) (v := v) (η := 0) (b9 := false)) h1) (D_eq (l_st8_1e (be := be) (cI := cI) (cJ := cJ) (wr := wr) (σ := σ) (ρ := ρ) (γ := γ) (k := 0) (v := v) (η := 0) (b9 := false)) h2) h3
theorem l_st8_2e  {k : Nat} {v : Int64} {η : Nat} {b9 : Bool} : (lX be cI cJ wr (σ, ρ, γ)).set 8 (be 8, .inl (cJ, 5, .inr (.inl (vp_updL (qF5 σ) (2) (v))))) = lX be cI cJ wr (uL σ 9 v, ρ, γ) := by
  rw [q_set2]
  rfl
theorem l_st8_2 (hx : p.tables.exec = Jvm.exec) (hb : c.code = cc) (hK : va_K D vwCl (tX cI cJ ty) s) (hP : va_P D vwCl (lX be cI cJ wr (σ, ρ, γ)) H) (hD : va_D A0 (lX be cI cJ wr (σ, ρ, γ))) (hS : va_S A0 s.heap H locs) {v : Int64} (hdg : decode cc pc = .ok (.lastore, 1))
    (kk : ∀ (H1 : Heap) (locs1 : List Loc), va_P D vwCl (lX be cI cJ wr (uL σ 9 v, ρ, γ)) H1 → va_D A0 (lX be cI cJ wr (uL σ 9 v, ρ, γ)) → va_S A0 s.heap H1 locs1 → W p l e R s m args below meth c H1 locs1 cells slots Q (F0 m (pc + 1) ls rest)) : W p l e R s m args below meth c H locs cells slots Q (F0 m pc ls (.long (v) :: .int (2) :: .ref (be 8) :: rest)) := by
  refine va_last hx hb hK hP hD hS 8 1 rfl rfl (vp_in_nI (n := 2) (N := 5) (by decide) (by decide)) hdg (fun H1 locs1 h1 h2 h3 => ?_)
  rw [(by decide : (2 : Int32).toNatClampNeg = 2)] at h1 h2
  exact kk H1 locs1 (P_eq (l_st8_2e (be := be) (cI := cI) (cJ := cJ) (wr := wr) (σ := σ) (ρ := ρ) (γ := γ) (k := 0) (v := v) (η := 0) (b9 := false)) h1) (D_eq (l_st8_2e (be := be) (cI := cI) (cJ := cJ) (wr := wr) (σ := σ) (ρ := ρ) (γ := γ) (k := 0) (v := v) (η := 0) (b9 := false)) h2) h3
theorem l_st8_3e  {k : Nat} {v : Int64} {η : Nat} {b9 : Bool} : (lX be cI cJ wr (σ, ρ, γ)).set 8 (be 8, .inl (cJ, 5, .inr (.inl (vp_updL (qF5 σ) (3) (v))))) = lX be cI cJ wr (uL σ 10 v, ρ, γ) := by
  rw [q_set3]
  rfl
theorem l_st8_3 (hx : p.tables.exec = Jvm.exec) (hb : c.code = cc) (hK : va_K D vwCl (tX cI cJ ty) s) (hP : va_P D vwCl (lX be cI cJ wr (σ, ρ, γ)) H) (hD : va_D A0 (lX be cI cJ wr (σ, ρ, γ))) (hS : va_S A0 s.heap H locs) {v : Int64} (hdg : decode cc pc = .ok (.lastore, 1))
    (kk : ∀ (H1 : Heap) (locs1 : List Loc), va_P D vwCl (lX be cI cJ wr (uL σ 10 v, ρ, γ)) H1 → va_D A0 (lX be cI cJ wr (uL σ 10 v, ρ, γ)) → va_S A0 s.heap H1 locs1 → W p l e R s m args below meth c H1 locs1 cells slots Q (F0 m (pc + 1) ls rest)) : W p l e R s m args below meth c H locs cells slots Q (F0 m pc ls (.long (v) :: .int (3) :: .ref (be 8) :: rest)) := by
  refine va_last hx hb hK hP hD hS 8 1 rfl rfl (vp_in_nI (n := 3) (N := 5) (by decide) (by decide)) hdg (fun H1 locs1 h1 h2 h3 => ?_)
  rw [(by decide : (3 : Int32).toNatClampNeg = 3)] at h1 h2
  exact kk H1 locs1 (P_eq (l_st8_3e (be := be) (cI := cI) (cJ := cJ) (wr := wr) (σ := σ) (ρ := ρ) (γ := γ) (k := 0) (v := v) (η := 0) (b9 := false)) h1) (D_eq (l_st8_3e (be := be) (cI := cI) (cJ := cJ) (wr := wr) (σ := σ) (ρ := ρ) (γ := γ) (k := 0) (v := v) (η := 0) (b9 := false)) h2) h3
theorem l_st8_4e  {k : Nat} {v : Int64} {η : Nat} {b9 : Bool} : (lX be cI cJ wr (σ, ρ, γ)).set 8 (be 8, .inl (cJ, 5, .inr (.inl (vp_updL (qF5 σ) (4) (v))))) = lX be cI cJ wr (uL σ 5 v, ρ, γ) := by
  rw [q_set4]
  rfl
theorem l_st8_4 (hx : p.tables.exec = Jvm.exec) (hb : c.code = cc) (hK : va_K D vwCl (tX cI cJ ty) s) (hP : va_P D vwCl (lX be cI cJ wr (σ, ρ, γ)) H) (hD : va_D A0 (lX be cI cJ wr (σ, ρ, γ))) (hS : va_S A0 s.heap H locs) {v : Int64} (hdg : decode cc pc = .ok (.lastore, 1))
    (kk : ∀ (H1 : Heap) (locs1 : List Loc), va_P D vwCl (lX be cI cJ wr (uL σ 5 v, ρ, γ)) H1 → va_D A0 (lX be cI cJ wr (uL σ 5 v, ρ, γ)) → va_S A0 s.heap H1 locs1 → W p l e R s m args below meth c H1 locs1 cells slots Q (F0 m (pc + 1) ls rest)) : W p l e R s m args below meth c H locs cells slots Q (F0 m pc ls (.long (v) :: .int (4) :: .ref (be 8) :: rest)) := by
  refine va_last hx hb hK hP hD hS 8 1 rfl rfl (vp_in_nI (n := 4) (N := 5) (by decide) (by decide)) hdg (fun H1 locs1 h1 h2 h3 => ?_)
  rw [(by decide : (4 : Int32).toNatClampNeg = 4)] at h1 h2
  exact kk H1 locs1 (P_eq (l_st8_4e (be := be) (cI := cI) (cJ := cJ) (wr := wr) (σ := σ) (ρ := ρ) (γ := γ) (k := 0) (v := v) (η := 0) (b9 := false)) h1) (D_eq (l_st8_4e (be := be) (cI := cI) (cJ := cJ) (wr := wr) (σ := σ) (ρ := ρ) (γ := γ) (k := 0) (v := v) (η := 0) (b9 := false)) h2) h3
end LR
end
section
/-! ===== the start's state ===== -/
def mI (i : Nat) : St := (fun j => if j = 3 then 100 else if j = 4 then 1000 else 0, fun _ => 0, fun j k => if j = 0 then nI k else if j = 8 then (if k < i then -1 else 0) else 0, fun _ _ => 0, fun _ _ => false)
def σ0 : St := mI 32
theorem mI_s (i : Nat) : uS (mI i) 8 i (-1) = mI (i + 1) := by
  have h : va_up (mI i).2.2.1 8 (va_up ((mI i).2.2.1 8) i (-1)) = (mI (i + 1)).2.2.1 := by
    funext j k
    by_cases hj : j = 8
    · subst hj
      by_cases hk : k = i
      · subst hk; simp [va_up, mI]
      · have h1 : (k < i + 1) ↔ k < i := by omega
        simp [va_up, mI, hk, h1]
    · simp [va_up, mI, hj]
  show ((mI i).1, (mI i).2.1, va_up (mI i).2.2.1 8 (va_up ((mI i).2.2.1 8) i (-1)), (mI i).2.2.2) = mI (i + 1)
  rw [h]
  rfl
theorem sF_0 {k : Nat} (h : k < 32) : sF σ0 k = [.int (nI k), .int 0, .int 0, .int 0, .int 0, .int 0, .long 0, .long 0, .int (-1)] := by
  have h1 : gS σ0 8 k = -1 := by simp [gS, σ0, mI, h]
  show ([.int (nI k), .int 0, .int 0, .int 0, .int 0, .int 0, .long 0, .long 0, .int (gS σ0 8 k)] : List Value) = _
  rw [h1]
theorem arrV_congr (cI : ClassId) {N : Nat} {f g : Nat → Value} (h : ∀ j, j < N → f j = g j) : arrV cI N f = arrV cI N g := by
  unfold arrV
  have e : (fun j : Fin N => f j.val) = (fun j : Fin N => g j.val) := funext fun j => h j.val j.isLt
  rw [e]
abbrev z0 : List Value := [.int 0, .int 0, .int 0, .int 0, .int 0, .int 0, .long 0, .long 0, .int 0]
abbrev wI0 (ws : va_W) (h0 : Nat) (fs : List Value) : va_W := ws ++ [(h0, .inr (0, fs))]
abbrev z1 : List Value := [.null, .int 0, .long 0, .int 0, .int 0, .long 0, .int 0, .int 0, .long 0, .long 0, .long 0, .int 0, .int 0]
abbrev wI1 (ax : Nat) (fs : List Value) : va_W := [(ax, .inr (1, fs))]
theorem set_app {α : Type} (ws : List α) (x y : α) : (ws ++ [x]).set ws.length y = ws ++ [y] := by simp
theorem get_app {α : Type} (ws : List α) (x : α) : (ws ++ [x])[ws.length]? = some x := by simp
set_option maxHeartbeats 4000000 in
set_option maxRecDepth 100000 in
theorem k_X0_init (l : Launch) (D : va_G) (ws : va_W) (h0 : Nat) (tys : List (ClassId × FieldType)) (sz : Nat) (k : Int32) : Met l yX0_init wsX0_init ({ frames := 1, cells := 0, slots := 0, locals := 20 } : Room) (va_Pc [.ref h0, .int k] (xPre D tys mE (wI0 ws h0) z0 sz)) (va_Qv (fun (u : List Value) => u = [.int k, .int 0, .int 0, .int 0, .int 0, .int 0, .long 0, .long 0, .int (-1)]) (xB D tys (wI0 ws h0) (va_A (wI0 ws h0 z0) sz)) (va_A (wI0 ws h0 z0) sz)) 0 0 (va_A (wI0 ws h0 z0) sz) := by
  refine xOpen (w := wI0 ws h0) (σ := z0) (cc := cX0_init) (maxL := 2) (ret := none) (QQ := fun A => va_Qv (fun (u : List Value) => u = [.int k, .int 0, .int 0, .int 0, .int 0, .int 0, .long 0, .long 0, .int (-1)]) (xB D tys (wI0 ws h0) A) A) (by decide) rfl (Nat.le_of_ble_eq_true rfl) ?_
  intro p e s m below meth c A hx hb hr hml hown hts hlocks hname hK hE hA hP hD hS ls hl
  have hl : lv_has ls 2 [(0, .ref h0), (1, .int k)] := hl
  have hown : s.vm.findClass RX0 = some m.cls := hown
  have hname : meth.name = "<init>" := hname
  have hi : ∀ w ∈ wsX00, w ∈ wsX0_init := (fun _ h => List.mem_cons_of_mem _ (List.mem_append_right _ h))
  generalize hH : s.heap = H at hP
  have hS : va_S A s.heap H [] := by rw [← hH]; exact va_S.rf
  generalize hlo : ([] : List Loc) = locs at hS
  refine lv_aload_n hx hb dX0_init_0 rfl (lv_at hl 0 rfl) ?_
  refine W.objInit hx hb hown (hts (.methodLink RX0 3 objectInit) (List.mem_of_getElem? (i := 1) rfl)) (hts (.instanceMethod objectInit) (List.mem_of_getElem? (i := 2) rfl)) (hts _ (List.mem_of_getElem? (i := 3) rfl)) rfl (by rw [hml]; exact hl.1) rfl dX0_init_1 (Nat.le_of_ble_eq_true rfl) (Nat.le_of_ble_eq_true rfl) ?_
  refine W.eq (g2 := F0 m 4 ls []) rfl ?_
  refine lv_aload_n hx hb dX0_init_4 rfl (lv_at hl 0 rfl) ?_
  refine lv_iconst (v := -1) hx hb dX0_init_5 (by decide) ?_
  refine va_put (ci := 0) (v := .int (-1)) (ty := .int) (C := RX0) (T := TX0) (N := 9) hx hb hts hi tyX0 tyX0_ok nmX0 hown hK hP hD hS ws.length (get_app _ _) rfl 8 (by decide) (hts (.fieldLink RX0 9 "WorthCache$Slot" "lastMiss" "I") (List.mem_of_getElem? (i := 4) rfl)) (fun _ h => h) rfl (by decide +kernel) rfl rfl (Nat.le_of_ble_eq_true rfl) dX0_init_6 (fun H locs hP hD hS => ?_)
  rw [set_app] at hP hD
  refine lv_aload_n hx hb dX0_init_9 rfl (lv_at hl 0 rfl) ?_
  refine lv_iload_n hx hb dX0_init_10 rfl (lv_at hl 1 rfl) ?_
  refine va_putF (ci := 0) (v := .int k) (ty := .int) (C := RX0) (T := TX0) (N := 9) hx hb hts hi tyX0 tyX0_ok nmX0 hown hK hP hD hS ws.length (get_app _ _) rfl 0 (by decide) (hts (.fieldLink RX0 15 "WorthCache$Slot" "thing" "I") (List.mem_of_getElem? (i := 5) rfl)) (fun _ h => h) rfl hname rfl (by decide +kernel) rfl rfl (Nat.le_of_ble_eq_true rfl) dX0_init_11 (fun H locs hP hD hS => ?_)
  rw [set_app] at hP hD
  exact x_vret (w := wI0 ws h0) hx hb hr hlocks hK [.int k, .int 0, .int 0, .int 0, .int 0, .int 0, .long 0, .long 0, .int (-1)] hP hD hS rfl dX0_init_14
def xN : Cond := .methodLinkNest "WorthCache" 22 yX0_init "WorthCache"
def xNE (_ : Nat → Prop) (U : State) (_ : Heap) : Prop := va_AO RX0 U ∧ va_Nw xN U
theorem xNE_ok : xEok xNE := fun _ _ _ _ _ _ hW _ _ h => ⟨va_AO.moved hW.alike h.1, va_Nw.warmM hW h.2⟩
def cWi (ax ar : Nat) (ad : Nat → Nat) (cO : ClassId) (i : Nat) : va_W := (ax, .inr (1, cF ar σ0)) :: (ar, .inl (cO, 32, .inr (.inr (.inr (.inr (fun k => if k < i then some (ad k) else none)))))) :: (List.range i).map (fun k => (ad k, .inr (0, sF σ0 k)))
theorem cWi_len (ax ar : Nat) (ad : Nat → Nat) (cO : ClassId) (i : Nat) : (cWi ax ar ad cO i).length = i + 2 := by simp [cWi]
theorem cWi_s (ax ar : Nat) (ad : Nat → Nat) (cO : ClassId) (i q : Nat) : (cWi ax ar ad cO i ++ [(q, (Sum.inr (0, sF σ0 i) : va_E))]).set 1 (ar, .inl (cO, 32, .inr (.inr (.inr (.inr (va_up (fun k => if k < i then some (ad k) else none) i (some q))))))) = cWi ax ar (va_up ad i q) cO (i + 1) := by
  have e1 : va_up (fun k => if k < i then some (ad k) else none) i (some q) = (fun k => if k < i + 1 then some (va_up ad i q k) else none) := by
    funext k
    by_cases hk : k = i
    · subst hk; simp [va_up]
    · have h1 : (k < i + 1) ↔ k < i := by omega
      simp [va_up, hk, h1]
  have e2 : (List.range i).map (fun k => (va_up ad i q k, (Sum.inr (0, sF σ0 k) : va_E))) = (List.range i).map (fun k => (ad k, (Sum.inr (0, sF σ0 k) : va_E))) := by
    apply List.map_congr_left
    intro k hk
    have h1 : k ≠ i := by have := List.mem_range.mp hk; omega
    simp [va_up, h1]
  have e3 : (va_up ad i q i) = q := by simp [va_up]
  unfold cWi
  rw [List.range_succ, List.map_append, e1, e2]
  simp [e3]
theorem cWi_32 {D : va_G} {ax ar : Nat} {ad : Nat → Nat} {cO : ClassId} {H : Heap} (h : va_P D vwCl (cWi ax ar ad cO 32) H) : va_P D vwCl (cW ax ar ad cO σ0) H := by
  intro k q hk
  by_cases h1 : k = 1
  · subst h1
    have h2 : q = (ar, .inl (cO, 32, .inr (.inr (.inr (.inr (fun k => some (ad k))))))) := (Option.some.inj hk).symm
    have h3 := h 1 _ rfl
    rw [h2]
    show H[ar]? = some (vp_cell cO _)
    have h4 : H[ar]? = some (vp_cell cO (32, .inr (.inr (.inr (.inr (fun k => if k < 32 then some (ad k) else none)))))) := h3
    rw [h4, vp_cell_q, vp_cell_q]
    congr 1
  · refine h k q ?_
    cases k with
    | zero => exact hk
    | succ k =>
      cases k with
      | zero => exact absurd rfl h1
      | succ k => exact hk
theorem cWi_D {A : Nat → Prop} {ax ar : Nat} {ad : Nat → Nat} {cO : ClassId} (h : va_D A (cWi ax ar ad cO 32)) : va_D A (cW ax ar ad cO σ0) := va_D_same h (by simp [cWi, cW, cPl])
def xO (D : va_G) (ax : Nat) (A : Nat → Prop) (u : Nat × (Nat → Nat) × ClassId) (t : State) : Prop := va_P D vwCl (cW ax u.1 u.2.1 u.2.2 σ0) t.heap ∧ va_K D vwCl (cT u.2.2) t ∧ va_D A (cW ax u.1 u.2.1 u.2.2 σ0)
set_option maxHeartbeats 4000000 in
set_option maxRecDepth 100000 in
theorem k_X1_init (l : Launch) (D : va_G) (ax : Nat) (sz : Nat) : Met l yX1_init wsX1_init ({ frames := 2, cells := 33, slots := 320, locals := 41 } : Room) (va_Pc [.ref ax] (xPre D [] xNE (wI1 ax) z1 sz)) (va_Qv (fun _ => True) (xO D ax (va_A (wI1 ax z1) sz)) (va_A (wI1 ax z1) sz)) 33 320 (va_A (wI1 ax z1) sz) := by
  refine xOpen (w := wI1 ax) (σ := z1) (cc := cX1_init) (maxL := 2) (ret := none) (QQ := fun A => va_Qv (fun _ => True) (xO D ax A) A) (by decide) rfl (Nat.le_of_ble_eq_true rfl) ?_
  intro p e s m below meth c A hx hb hr hml hown hts hlocks hname hK hE hA hP hD hS ls hl
  have hl : lv_has ls 2 [(0, .ref ax)] := hl
  have hown : s.vm.findClass RX1 = some m.cls := hown
  have hname : meth.name = "<init>" := hname
  have hi1 : ∀ w ∈ wsX10, w ∈ wsX1_init := (fun _ h => List.mem_cons_of_mem _ (List.mem_append_left _ (List.mem_append_right _ h)))
  have hi0 : ∀ w ∈ wsX00, w ∈ wsX1_init := (fun _ h => List.mem_cons_of_mem _ (List.mem_append_right _ h))
  generalize hH : s.heap = H at hP
  have hS : va_S A s.heap H [] := by rw [← hH]; exact va_S.rf
  generalize hlo : ([] : List Loc) = locs at hS
  have hP : va_P D vwCl [(ax, .inr (1, z1))] H := hP
  have hD : va_D A [(ax, .inr (1, z1))] := hD
  refine lv_aload_n hx hb dX1_init_0 rfl (lv_at hl 0 rfl) ?_
  refine W.objInit hx hb hown (hts (.methodLink RX1 1 objectInit) (List.mem_of_getElem? (i := 1) rfl)) (hts (.instanceMethod objectInit) (List.mem_of_getElem? (i := 2) rfl)) (hts _ (List.mem_of_getElem? (i := 3) rfl)) rfl (by rw [hml]; exact hl.1) rfl dX1_init_1 (Nat.le_of_ble_eq_true rfl) (Nat.le_of_ble_eq_true rfl) ?_
  refine W.eq (g2 := F0 m 4 ls []) rfl ?_
  refine lv_aload_n hx hb dX1_init_4 rfl (lv_at hl 0 rfl) ?_
  refine lv_bipush (v := 32) hx hb dX1_init_5 (by decide) ?_
  refine va_newq (C := RX0) (N' := 32) hx hb hown (hts (.classLink RX1 9 RX0) (List.mem_of_getElem? (i := 4) rfl)) hE.1 hK hP hD hS hA (by decide) (by decide) (by decide) (Nat.le_of_ble_eq_true rfl) (Nat.le_of_ble_eq_true rfl) dX1_init_7 (fun ar cO H hK hP hD hS => ?_)
  have hK : va_K D vwCl (cT cO) s := hK
  refine va_putF (ci := 1) (v := .ref ar) (ty := .array (.object "WorthCache$Slot")) (C := RX1) (T := TX1) (N := 13) hx hb hts hi1 tyX1 tyX1_ok nmX1 hown hK hP hD hS 0 rfl rfl 0 (by decide) (hts (.fieldLink RX1 11 "WorthCache" "slots" "[LWorthCache$Slot;") (List.mem_of_getElem? (i := 5) rfl)) (fun _ h => h) rfl hname rfl (by decide +kernel) rfl rfl (Nat.le_of_ble_eq_true rfl) dX1_init_10 (fun H locs hP hD hS => ?_)
  refine lv_aload_n hx hb dX1_init_13 rfl (lv_at hl 0 rfl) ?_
  refine lv_bipush (v := 100) hx hb dX1_init_14 (by decide) ?_
  refine va_put (ci := 1) (v := .int 100) (ty := .int) (C := RX1) (T := TX1) (N := 13) hx hb hts hi1 tyX1 tyX1_ok nmX1 hown hK hP hD hS 0 rfl rfl 3 (by decide) (hts (.fieldLink RX1 15 "WorthCache" "capacity" "I") (List.mem_of_getElem? (i := 6) rfl)) (fun _ h => h) rfl (by decide +kernel) rfl rfl (Nat.le_of_ble_eq_true rfl) dX1_init_16 (fun H locs hP hD hS => ?_)
  refine lv_aload_n hx hb dX1_init_19 rfl (lv_at hl 0 rfl) ?_
  refine lv_sipush (v := 1000) hx hb dX1_init_20 (by decide) ?_
  refine va_put (ci := 1) (v := .int 1000) (ty := .int) (C := RX1) (T := TX1) (N := 13) hx hb hts hi1 tyX1 tyX1_ok nmX1 hown hK hP hD hS 0 rfl rfl 4 (by decide) (hts (.fieldLink RX1 19 "WorthCache" "threshold" "I") (List.mem_of_getElem? (i := 7) rfl)) (fun _ h => h) rfl (by decide +kernel) rfl rfl (Nat.le_of_ble_eq_true rfl) dX1_init_23 (fun H locs hP hD hS => ?_)
  have e0 : ∀ ad : Nat → Nat, cWi ax ar ad cO 0 = [(ax, .inr (1, [.ref ar, .int 0, .long 0, .int 100, .int 1000, .long 0, .int 0, .int 0, .long 0, .long 0, .long 0, .int 0, .int 0])), (ar, .inl (cO, 32, .inr (.inr (.inr (.inr (fun _ => none))))))] := fun ad => by simp [cWi, cF, gI, gL, σ0, mI]
  have hP : va_P D vwCl (cWi ax ar (fun _ => 0) cO 0) H := by rw [e0]; exact hP
  have hD : va_D A (cWi ax ar (fun _ => 0) cO 0) := by rw [e0]; exact hD
  refine lv_iconst (v := 0) hx hb dX1_init_26 (by decide) ?_
  refine lv_istore_n (lv' := [(1, .int 0), (0, .ref ax)]) hx hb dX1_init_27 rfl hl (by decide) rfl (fun ls hl => ?_)
  have loop : ∀ (n i : Nat) (ad : Nat → Nat) (ls : Array Slot) (H : Heap) (locs : List Loc), i ≤ 32 → 32 - i < n → va_P D vwCl (cWi ax ar ad cO i) H → va_D A (cWi ax ar ad cO i) → va_S A s.heap H locs → lv_has ls 2 [(0, .ref ax), (1, .int (nI i))] → W p l e (headSpec wsX1_init ({ frames := 2, cells := 33, slots := 320, locals := 41 } : Room)).room s m [.ref ax].toArray below meth c H locs (1 + i) (32 + 9 * i) (MQ below (va_Qv (fun _ => True) (xO D ax A) A) [.ref ax].toArray s 33 320 A) (F0 m 28 ls []) := by
    intro n
    induction n with
    | zero =>
      intro i ad ls H locs h1 h2
      exact absurd h2 (by omega)
    | succ n ih =>
      intro i ad ls H locs hi hn hP hD hS hl
      refine lv_iload_n hx hb dX1_init_28 rfl (lv_at hl 1 rfl) ?_
      refine lv_aload_n hx hb dX1_init_29 rfl (lv_at hl 0 rfl) ?_
      refine va_get (ci := 1) (v := .ref ar) (C := RX1) (T := TX1) (N := 13) hx hb hts hi1 hown hK hP 0 rfl rfl 0 (by decide) (hts (.fieldLink RX1 11 "WorthCache" "slots" "[LWorthCache$Slot;") (List.mem_of_getElem? (i := 5) rfl)) (fun _ h => h) rfl dX1_init_30 ?_
      refine va_alen hx hb hK hP 1 0 rfl rfl (v := 32) rfl dX1_init_33 ?_
      refine x_icmp_ge (tgt := 57) hx hb dX1_init_34 (by decide) (fun c_1 => ?_) (fun c_1 => ?_)
      · have hi9 : i = 32 := by
          rcases Nat.lt_or_ge i 32 with q | q
          · exact absurd ((nI_lt32 hi).mpr q) c_1
          · omega
        subst hi9
        exact W.vret hx hb hr (fun t ht hW => ⟨⟨(ar, ad, cO), rfl, trivial, by rw [ht]; exact cWi_32 hP, va_K.moved hW.alike hK, cWi_D hD⟩, hS.F ht⟩) hS.2.2 dX1_init_57
      · have hlt : i < 32 := (nI_lt32 hi).mp c_1
        refine lv_aload_n hx hb dX1_init_37 rfl (lv_at hl 0 rfl) ?_
        refine va_get (ci := 1) (v := .ref ar) (C := RX1) (T := TX1) (N := 13) hx hb hts hi1 hown hK hP 0 rfl rfl 0 (by decide) (hts (.fieldLink RX1 11 "WorthCache" "slots" "[LWorthCache$Slot;") (List.mem_of_getElem? (i := 5) rfl)) (fun _ h => h) rfl dX1_init_38 ?_
        refine lv_iload_n hx hb dX1_init_41 rfl (lv_at hl 1 rfl) ?_
        have hcl : 1 + i + 1 ≤ 33 := by omega
        have hsl : 32 + 9 * i + 9 ≤ 320 := by omega
        refine va_new (ci := 0) (fs := [.int 0, .int 0, .int 0, .int 0, .int 0, .int 0, .long 0, .long 0, .int 0]) (C := RX0) (T := TX0) (N := 9) hx hb hts hi0 tyX0 tyX0_ok hown (hts (.classLink RX1 9 RX0) (List.mem_of_getElem? (i := 4) rfl)) (hts (.instantiable RX0 9) (List.mem_of_getElem? (i := 8) rfl)) (hts (.initialized RX0) (List.mem_of_getElem? (i := 9) rfl)) hK hP hD hS hA rfl (fun j hj => by rcases (show j = 0 ∨ j = 1 ∨ j = 2 ∨ j = 3 ∨ j = 4 ∨ j = 5 ∨ j = 6 ∨ j = 7 ∨ j = 8 by omega) with rfl | rfl | rfl | rfl | rfl | rfl | rfl | rfl | rfl <;> rfl) hcl hsl dX1_init_42 (fun q5 H hP hD hS => ?_)
        refine lv_dup hx hb dX1_init_45 rfl ?_
        refine lv_iload_n hx hb dX1_init_46 rfl (lv_at hl 1 rfl) ?_
        refine x_callv (va_runIN (As := [.int (nI i)]) (rest := [.ref q5, .int (nI i), .ref ar]) ⟨hx, hb, hml, hown, hts⟩ (k_X0_init l D (cWi ax ar ad cO i) q5 (cT cO) H.size (nI i)) ⟨va_cnB 1 hts gX1_init_X0_init_n22 rfl rfl rfl hE.2 (hts (.initialized RX0) (List.mem_of_getElem? (i := 9) rfl)) (by decide +kernel) ⟨Nat.le_of_ble_eq_true rfl, Nat.le_of_ble_eq_true rfl⟩, rfl, hts (.instanceMethod yX0_init) (List.mem_of_getElem? (i := 10) rfl)⟩ (xPreS mE_ok trivial hK hA hP hD hS) rfl rfl hl.1 rfl (lv_room (Nat.le_of_ble_eq_true rfl)) dX1_init_47 ⟨hcl, hsl⟩) hD hS hA (fun u H locs hp hP hD hS => ?_)
        rw [hp, ← sF_0 hlt] at hP hD
        refine va_astq hx hb hK hP hD hS 1 0 (i + 2) 0 rfl rfl (by rw [← cWi_len ax ar ad cO i]; exact get_app _ _) rfl (vp_in_nI hlt (by decide)) dX1_init_50 (fun H locs hP hD hS => ?_)
        rw [nI_clamp (Nat.lt_trans hlt (by decide)), cWi_s] at hP hD
        refine lv_iinc (v := (nI i) + 1) (lv' := [(1, .int ((nI i) + 1)), (0, .ref ax)]) hx hb dX1_init_51 hl (k := 1) rfl rfl (by decide) rfl (fun ls hl => ?_)
        refine lv_goto (tgt := 28) hx hb dX1_init_54 (by decide) ?_
        exact ih (i + 1) (va_up ad i q5) ls _ _ (by omega) (by omega) hP hD hS (by rw [nI_succ]; exact lv_sub hl [1, 0] rfl)
  exact loop 33 0 _ _ _ _ (Nat.zero_le _) (by omega) hP hD hS (lv_sub hl [1, 0] rfl)
end
section
/-! ===== a call in a greater world: the callee's part first ===== -/
theorem P_l {D : va_G} {cl : List vw_C} {a b : va_W} {H : Heap} (h : va_P D cl (a ++ b) H) : va_P D cl a H := fun k q hk => h k q (by rw [List.getElem?_append_left (List.getElem?_eq_some_iff.mp hk).1]; exact hk)
theorem P_r {D : va_G} {cl : List vw_C} {a b : va_W} {H : Heap} (h : va_P D cl (a ++ b) H) : va_P D cl b H := fun k q hk => h (a.length + k) q (by rw [List.getElem?_append_right (by omega)]; rw [show a.length + k - a.length = k by omega]; exact hk)
theorem P_c {D : va_G} {cl : List vw_C} {a b : va_W} {H : Heap} (h : va_P D cl (a ++ b) H) : va_P D cl (b ++ a) H := va_P.app (P_r h) (P_l h)
theorem D_lk {a b : va_W} {k : Nat} {q : Nat × va_E} (hk : a[k]? = some q) : (a ++ b)[k]? = some q := by rw [List.getElem?_append_left (List.getElem?_eq_some_iff.mp hk).1]; exact hk
theorem D_rk {a b : va_W} {k : Nat} {q : Nat × va_E} (hk : b[k]? = some q) : (a ++ b)[a.length + k]? = some q := by rw [List.getElem?_append_right (by omega)]; rw [show a.length + k - a.length = k by omega]; exact hk
theorem D_l {A : Nat → Prop} {a b : va_W} (h : va_D A (a ++ b)) : va_D A a := ⟨fun i j p q hp hq e => h.1 i j p q (D_lk hp) (D_lk hq) e, fun k q hk => h.2 k q (D_lk hk)⟩
theorem D_r {A : Nat → Prop} {a b : va_W} (h : va_D A (a ++ b)) : va_D A b := ⟨fun i j p q hp hq e => by have := h.1 _ _ p q (D_rk hp) (D_rk hq) e; omega, fun k q hk => h.2 _ q (D_rk hk)⟩
theorem D_x {A : Nat → Prop} {a b : va_W} (h : va_D A (a ++ b)) (i j : Nat) (p q : Nat × va_E) (hp : a[i]? = some p) (hq : b[j]? = some q) : p.1 ≠ q.1 := fun e => by
  have h1 := h.1 _ _ p q (D_lk hp) (D_rk hq) e
  have h2 := (List.getElem?_eq_some_iff.mp hp).1
  omega
theorem D_c {A : Nat → Prop} {a b : va_W} (h : va_D A (a ++ b)) : va_D A (b ++ a) := va_D.app (D_r h) (D_l h) (fun i j p q hp hq e => D_x h j i q p hq hp e.symm)
theorem f_join {A0 : Nat → Prop} {D : va_G} {wc wr w1 : va_W} {H H1 : Heap} (hP : va_P D vwCl (wc ++ wr) H) (hD : va_D A0 (wc ++ wr)) (hk : ∀ q : Nat, q < H.size → ¬ va_A wc H.size q → H1[q]? = H[q]?) (hF : ∀ q, va_A wc H.size q → A0 q) (hP1 : va_P D vwCl w1 H1) (hD1 : va_D (va_A wc H.size) w1) : va_P D vwCl (w1 ++ wr) H1 ∧ va_D A0 (w1 ++ wr) := by
  have apart : ∀ (k : Nat) (q : Nat × va_E), wr[k]? = some q → q.1 < H.size ∧ ¬ va_A wc H.size q.1 := by
    intro k q hq
    have hl := ((P_r hP) k q hq).lt
    refine ⟨hl, fun h => ?_⟩
    rcases h with ⟨k2, e, h⟩ | h
    · exact D_x hD k2 k (q.1, e) q h hq rfl
    · omega
  refine ⟨va_P.app hP1 (fun k q hq => ((P_r hP) k q hq).kept (hk q.1 (apart k q hq).1 (apart k q hq).2)), va_D.app (hD1.weaken (fun k q _ h => hF q.1 h)) (D_r hD) (fun i j x y hx hy hxy => ?_)⟩
  exact (apart j y hy).2 (by rw [← hxy]; exact hD1.2 i x hx)
section XF
variable {p : Program} {l : Launch} {e : Env} {R : Room} {s : State} {m : MethodId} {args : Array Value} {below : List Frame} {meth : Method} {c : Code} {H : Heap} {locs : List Loc} {cells slots : Nat} {Q : State → Prop}
variable {cc : ByteArray} {pc : Nat} {ls : Array Slot} {rest st0 : List Value} {D : va_G} {tys : List (ClassId × FieldType)} {A0 : Nat → Prop} {wr : va_W}
theorem f_calli {S : Type} {w : S → va_W} {σ : S} {post : Int32 → S → Prop} {mc ms : Nat} {av : Array Value} (hr : va_Run p l e R s m args below meth c H locs cells slots mc ms (F0 m pc ls st0) rest (va_Qi post (xB D tys w (va_A (w σ) H.size)) (va_A (w σ) H.size) av) (va_A (w σ) H.size)) (hP : va_P D vwCl (w σ ++ wr) H) (hD : va_D A0 (w σ ++ wr)) (hS : va_S A0 s.heap H locs) (hA : ∀ q, s.heap.size ≤ q → A0 q)
    (kk : ∀ (r : Int32) (u : S) (H1 : Heap) (locs1 : List Loc), post r u → va_P D vwCl (w u ++ wr) H1 → va_D A0 (w u ++ wr) → va_S A0 s.heap H1 locs1 → W p l e R s m args below meth c H1 locs1 (cells + mc) (slots + ms) Q (F0 m (pc + 3) ls (.int r :: rest))) : W p l e R s m args below meth c H locs cells slots Q (F0 m pc ls st0) :=
  va_calli hr hS (fun q _ h => xA_in (D_l hD) hS hA q h) (xA_in (D_l hD) hS hA) (fun r u t H1 locs1 ht hvm hp hB hz hk hS1 => by
    obtain ⟨hP1, -, hD1⟩ := hB
    rw [ht] at hP1
    obtain ⟨g1, g2⟩ := f_join hP hD hk (xA_in (D_l hD) hS hA) hP1 hD1
    exact kk r u H1 locs1 hp g1 g2 hS1)
theorem ff_calli {S : Type} {w : S → va_W} {σ : S} {post : Int32 → S → Prop} {xc : String → Prop} {mc ms : Nat} {av : Array Value} (hr : vx_Run p l e R s m args below meth c H locs cells slots mc ms (F0 m pc ls st0) rest (va_Qi post (xB D tys w (va_A (w σ) H.size)) (va_A (w σ) H.size) av) (xXC D tys w (va_A (w σ) H.size) σ xc) (va_A (w σ) H.size)) (hP : va_P D vwCl (w σ ++ wr) H) (hD : va_D A0 (w σ ++ wr)) (hS : va_S A0 s.heap H locs) (hA : ∀ q, s.heap.size ≤ q → A0 q)
    (kx : ∀ (En : String) (ce : Cell) (q9 : Addr) (H1 : Heap) (locs1 : List Loc), xc En → va_P D vwCl (w σ ++ wr) H1 → va_S A0 s.heap H1 locs1 → H1[q9]? = some ce → ce.vm = .none → s.vm.findClass En = some ce.cls → vx_W p l e R s m args below meth c H1 locs1 (cells + mc) (slots + ms) Q (F0 m pc ls rest) q9)
    (kk : ∀ (r : Int32) (u : S) (H1 : Heap) (locs1 : List Loc), post r u → va_P D vwCl (w u ++ wr) H1 → va_D A0 (w u ++ wr) → va_S A0 s.heap H1 locs1 → W p l e R s m args below meth c H1 locs1 (cells + mc) (slots + ms) Q (F0 m (pc + 3) ls (.int r :: rest))) : W p l e R s m args below meth c H locs cells slots Q (F0 m pc ls st0) :=
  vx_calli hr hS (fun q _ h => xA_in (D_l hD) hS hA q h) (xA_in (D_l hD) hS hA) (fun q _ h => xA_in (D_l hD) hS hA q h) (fun En ce q9 u t H1 locs1 ht hvm _ hB hz hk hS1 h1 h2 h3 => by
    obtain ⟨hxc, hP1, -, hD1⟩ := hB
    rw [ht] at hP1
    obtain ⟨g1, -⟩ := f_join hP hD hk (xA_in (D_l hD) hS hA) hP1 hD1
    exact kx En ce q9 H1 locs1 hxc g1 hS1 h1 h2 h3) (fun r u t H1 locs1 ht hvm hp hB hz hk hS1 => by
    obtain ⟨hP1, -, hD1⟩ := hB
    rw [ht] at hP1
    obtain ⟨g1, g2⟩ := f_join hP hD hk (xA_in (D_l hD) hS hA) hP1 hD1
    exact kk r u H1 locs1 hp g1 g2 hS1)
theorem f_calll {S : Type} {w : S → va_W} {σ : S} {post : Int64 → S → Prop} {mc ms : Nat} {av : Array Value} (hr : va_Run p l e R s m args below meth c H locs cells slots mc ms (F0 m pc ls st0) rest (va_Ql post (xB D tys w (va_A (w σ) H.size)) (va_A (w σ) H.size) av) (va_A (w σ) H.size)) (hP : va_P D vwCl (w σ ++ wr) H) (hD : va_D A0 (w σ ++ wr)) (hS : va_S A0 s.heap H locs) (hA : ∀ q, s.heap.size ≤ q → A0 q)
    (kk : ∀ (r : Int64) (u : S) (H1 : Heap) (locs1 : List Loc), post r u → va_P D vwCl (w u ++ wr) H1 → va_D A0 (w u ++ wr) → va_S A0 s.heap H1 locs1 → W p l e R s m args below meth c H1 locs1 (cells + mc) (slots + ms) Q (F0 m (pc + 3) ls (.long r :: rest))) : W p l e R s m args below meth c H locs cells slots Q (F0 m pc ls st0) :=
  va_calll hr hS (fun q _ h => xA_in (D_l hD) hS hA q h) (xA_in (D_l hD) hS hA) (fun r u t H1 locs1 ht hvm hp hB hz hk hS1 => by
    obtain ⟨hP1, -, hD1⟩ := hB
    rw [ht] at hP1
    obtain ⟨g1, g2⟩ := f_join hP hD hk (xA_in (D_l hD) hS hA) hP1 hD1
    exact kk r u H1 locs1 hp g1 g2 hS1)
theorem ff_calll {S : Type} {w : S → va_W} {σ : S} {post : Int64 → S → Prop} {xc : String → Prop} {mc ms : Nat} {av : Array Value} (hr : vx_Run p l e R s m args below meth c H locs cells slots mc ms (F0 m pc ls st0) rest (va_Ql post (xB D tys w (va_A (w σ) H.size)) (va_A (w σ) H.size) av) (xXC D tys w (va_A (w σ) H.size) σ xc) (va_A (w σ) H.size)) (hP : va_P D vwCl (w σ ++ wr) H) (hD : va_D A0 (w σ ++ wr)) (hS : va_S A0 s.heap H locs) (hA : ∀ q, s.heap.size ≤ q → A0 q)
    (kx : ∀ (En : String) (ce : Cell) (q9 : Addr) (H1 : Heap) (locs1 : List Loc), xc En → va_P D vwCl (w σ ++ wr) H1 → va_S A0 s.heap H1 locs1 → H1[q9]? = some ce → ce.vm = .none → s.vm.findClass En = some ce.cls → vx_W p l e R s m args below meth c H1 locs1 (cells + mc) (slots + ms) Q (F0 m pc ls rest) q9)
    (kk : ∀ (r : Int64) (u : S) (H1 : Heap) (locs1 : List Loc), post r u → va_P D vwCl (w u ++ wr) H1 → va_D A0 (w u ++ wr) → va_S A0 s.heap H1 locs1 → W p l e R s m args below meth c H1 locs1 (cells + mc) (slots + ms) Q (F0 m (pc + 3) ls (.long r :: rest))) : W p l e R s m args below meth c H locs cells slots Q (F0 m pc ls st0) :=
  vx_calll hr hS (fun q _ h => xA_in (D_l hD) hS hA q h) (xA_in (D_l hD) hS hA) (fun q _ h => xA_in (D_l hD) hS hA q h) (fun En ce q9 u t H1 locs1 ht hvm _ hB hz hk hS1 h1 h2 h3 => by
    obtain ⟨hxc, hP1, -, hD1⟩ := hB
    rw [ht] at hP1
    obtain ⟨g1, -⟩ := f_join hP hD hk (xA_in (D_l hD) hS hA) hP1 hD1
    exact kx En ce q9 H1 locs1 hxc g1 hS1 h1 h2 h3) (fun r u t H1 locs1 ht hvm hp hB hz hk hS1 => by
    obtain ⟨hP1, -, hD1⟩ := hB
    rw [ht] at hP1
    obtain ⟨g1, g2⟩ := f_join hP hD hk (xA_in (D_l hD) hS hA) hP1 hD1
    exact kk r u H1 locs1 hp g1 g2 hS1)
end XF
/-! ===== the law's own methods that catch ===== -/
theorem xwOpen {S : Type} {l : Launch} {y : MethodName} {ws ws' : List Cond} {rm : Room} {cc : ByteArray} {maxL : Nat} {ret : Option FieldType} {hh : List (Nat × Nat × Nat × Nat)} {D : va_G} {tys : List (ClassId × FieldType)} {E : (Nat → Prop) → State → Heap → Prop} {w : S → va_W} {σ : S} {av : List Value} {sz mc ms : Nat} {QQ : (Nat → Prop) → Array Value → State → Outcome → State → Prop}
    (hy : plainName y.cls = true) (hw : ws = Cond.codeWith y cc maxL ret hh :: ws') (hn : (lg_sl av).length ≤ maxL)
    (body : ∀ (p : Program) (e : Env) (s : State) (m : MethodId) (below : List Frame) (meth : Method) (c : Code) (A : Nat → Prop), p.tables.exec = Jvm.exec → c.code = cc → meth.sig.returnType = ret → c.maxLocals = maxL → s.vm.findClass y.cls = some m.cls → (∀ w ∈ ws, w.before av.toArray s = true) → meth.locks = false → c.exceptionTable.toList = tableOf hh →
      va_K D vwCl tys s → E A s s.heap → (∀ q, s.heap.size ≤ q → A q) → va_P D vwCl (w σ) s.heap → va_D A (w σ) → va_S A s.heap s.heap [] → ∀ ls : Array Slot, lv_has ls maxL (lv_args 0 av) →
      W p l e (headSpec ws rm).room s m av.toArray below meth c s.heap [] 0 0 (MQ below (QQ A) av.toArray s mc ms A) (F0 m 0 ls [])) :
    Met l y ws rm (va_Pc av (xPre D tys E w σ sz)) (QQ (va_A (w σ) sz)) mc ms (va_A (w σ) sz) := by
  refine va_MetW (cc := cc) (maxL := maxL) (ret := ret) (hh := hh) hy hw ?_
  intro p e s m args below meth c s₁ B hml hv
  obtain ⟨rfl, hsz, hP, hK, hD0, hE⟩ := hv
  subst hsz
  have hl := lv_entry av (n := maxL) hn
  rw [lg_entry_eq]
  have hD := hD0.self (sz := s.heap.size)
  have hts := atoms_spec (ws := ws) B.pre
  exact body p e s m below meth c (va_A (w σ) s.heap.size) B.exec B.bytes B.returns hml (findClass_of_methodNamed B.named) hts B.notSynchronized (vx_table (x := y) B (hts _ (by rw [hw]; exact List.mem_cons_self))) hK hE (fun q h => Or.inr h) hP hD va_S.rf _ hl
abbrev oW (bo : Nat) (cL : ClassId) (v : Int64) : va_W := [(bo, .inl (cL, 1, .inr (.inl (fun _ => v))))]
abbrev wL (ax ar : Nat) (ad : Nat → Nat) (cO : ClassId) (bo : Nat) (cL : ClassId) (u : St × Int64) : va_W := cW ax ar ad cO u.1 ++ oW bo cL u.2
abbrev tL (cO cL : ClassId) : List (ClassId × FieldType) := [(cO, .object RX0), (cL, .long)]
theorem o_P {D : va_G} {ws : va_W} {bo : Nat} {cL : ClassId} {f : Nat → Int64} {x : Int64} {H : Heap} (h : va_P D vwCl (ws ++ [(bo, .inl (cL, 1, .inr (.inl f)))]) H) (hf : f 0 = x) : va_P D vwCl (ws ++ oW bo cL x) H := by
  refine va_P.app (P_l h) (fun k q hk => ?_)
  have h1 := (P_r h) 0 _ rfl
  cases k with
  | zero =>
    cases hk
    have h2 : H[bo]? = some (vp_cell cL (1, .inr (.inl f))) := h1
    show H[bo]? = some (vp_cell cL (1, .inr (.inl (fun _ => x))))
    rw [h2, vp_cell_l, vp_cell_l, arrV_congr cL (f := fun j => .long (f j)) (g := fun _ => .long x) (fun j hj => by rw [show j = 0 by omega, hf])]
  | succ k => cases hk
theorem o_D {A : Nat → Prop} {ws : va_W} {bo : Nat} {cL : ClassId} {f : Nat → Int64} {x : Int64} (h : va_D A (ws ++ [(bo, .inl (cL, 1, .inr (.inl f)))])) : va_D A (ws ++ oW bo cL x) := va_D_same h (by simp)
end
section
/-! ===== counts ===== -/
def cnt (P : Nat → Bool) : Nat → Nat
  | 0 => 0
  | n + 1 => cnt P n + (if P n then 1 else 0)
theorem cnt_s (P : Nat → Bool) (n : Nat) : cnt P (n + 1) = cnt P n + (if P n then 1 else 0) := rfl
theorem cnt_mono {P Q : Nat → Bool} : ∀ {n : Nat}, (∀ i, i < n → P i = true → Q i = true) → cnt P n ≤ cnt Q n
  | 0, _ => Nat.le_refl _
  | n + 1, h => by
    have h1 := cnt_mono (n := n) (fun i hi => h i (by omega))
    rw [cnt_s, cnt_s]
    by_cases hp : P n = true
    · rw [if_pos hp, if_pos (h n (by omega) hp)]; omega
    · rw [if_neg hp]; omega
theorem cnt_congr {P Q : Nat → Bool} {n : Nat} (h : ∀ i, i < n → P i = Q i) : cnt P n = cnt Q n :=
  Nat.le_antisymm (cnt_mono fun i hi hp => by rw [← h i hi]; exact hp) (cnt_mono fun i hi hp => by rw [h i hi]; exact hp)
theorem cnt_lt {P Q : Nat → Bool} {k : Nat} (hp : P k = false) (hq : Q k = true) : ∀ {n : Nat}, k < n → (∀ i, i < n → P i = true → Q i = true) → cnt P n < cnt Q n
  | 0, hk, _ => absurd hk (Nat.not_lt_zero _)
  | n + 1, hk, h => by
    rw [cnt_s, cnt_s]
    by_cases e : k = n
    · subst e
      have h1 := cnt_mono (n := k) (fun i hi => h i (by omega))
      rw [hp, hq]
      simp
      omega
    · have h1 := cnt_lt hp hq (n := n) (by omega) (fun i hi => h i (by omega))
      by_cases g : P n = true
      · rw [if_pos g, if_pos (h n (by omega) g)]; omega
      · rw [if_neg g]; omega
theorem cnt_add {P Q : Nat → Bool} {k : Nat} (hp : P k = false) (hq : Q k = true) : ∀ {n : Nat}, k < n → (∀ i, i < n → i ≠ k → Q i = P i) → cnt Q n = cnt P n + 1
  | 0, hk, _ => absurd hk (Nat.not_lt_zero _)
  | n + 1, hk, h => by
    rw [cnt_s, cnt_s]
    by_cases e : k = n
    · subst e
      have h1 := cnt_congr (P := Q) (Q := P) (n := k) (fun i hi => h i (by omega) (by omega))
      rw [h1, hp, hq]
      simp
    · have h1 := cnt_add hp hq (n := n) (by omega) (fun i hi => h i (by omega))
      rw [h1, h n (by omega) (fun q => e q.symm)]
      omega
theorem cnt_le (P : Nat → Bool) : ∀ n, cnt P n ≤ n
  | 0 => Nat.le_refl _
  | n + 1 => by
    rw [cnt_s]
    have := cnt_le P n
    by_cases h : P n = true
    · rw [if_pos h]; omega
    · rw [if_neg h]; omega
theorem cnt_0 {P : Nat → Bool} : ∀ {n : Nat}, (∀ i, i < n → P i = false) → cnt P n = 0
  | 0, _ => rfl
  | n + 1, h => by
    rw [cnt_s, cnt_0 (n := n) (fun i hi => h i (by omega)), h n (by omega)]
    rfl
theorem cnt_z {P : Nat → Bool} {n : Nat} (h : cnt P n = 0) {i : Nat} (hi : i < n) : P i = false := by
  cases hp : P i with
  | false => rfl
  | true =>
    have h1 := cnt_lt (P := fun _ => false) (Q := P) rfl hp hi (fun _ _ q => by cases q)
    omega
theorem sumI_s (f : Nat → Int32) (n : Nat) : sumI f (n + 1) = sumI f n + f n := rfl
theorem sumI_c {f g : Nat → Int32} : ∀ {n : Nat}, (∀ i, i < n → f i = g i) → sumI f n = sumI g n
  | 0, _ => rfl
  | n + 1, h => by rw [sumI_s, sumI_s, sumI_c (n := n) (fun i hi => h i (by omega)), h n (by omega)]
theorem sumI_cnt (P : Nat → Bool) : ∀ n, sumI (fun i => if P i then 1 else 0) n = nI (cnt P n)
  | 0 => rfl
  | n + 1 => by
    rw [sumI_s, sumI_cnt P n, cnt_s]
    by_cases h : P n = true
    · simp only [h, if_true]; rw [nI_succ]
    · simp only [h]; simp
/-! ===== the order of leaving ===== -/
theorem bef_iff (σ : St) (i j : Nat) : bef σ i j = true ↔ (gT σ 6 i).toInt < (gT σ 6 j).toInt ∨ ((gT σ 6 i).toInt = (gT σ 6 j).toInt ∧ (gT σ 7 i).toInt < (gT σ 7 j).toInt) := by
  unfold bef
  simp only [Bool.or_eq_true, Bool.and_eq_true, decide_eq_true_eq, Int64.lt_iff_toInt_lt, ← Int64.toInt_inj]
theorem bef_irr (σ : St) (i : Nat) : bef σ i i = false := by
  cases h : bef σ i i with
  | false => rfl
  | true => have := (bef_iff σ i i).mp h; omega
theorem bef_tr {σ : St} {i j k : Nat} (h1 : bef σ i j = true) (h2 : bef σ j k = true) : bef σ i k = true := by
  rw [bef_iff] at *
  omega
theorem bef_as {σ : St} {i j : Nat} (h1 : bef σ i j = true) : bef σ j i = false := by
  cases h : bef σ j i with
  | false => rfl
  | true => have := bef_tr h1 h; rw [bef_irr] at this; cases this
/-- of two in the order one leaves before the other -/
def Ord (σ : St) : Prop := ∀ i j, i < 32 → j < 32 → inO σ i = true → inO σ j = true → i ≠ j → gT σ 7 i ≠ gT σ 7 j
theorem bef_tot {σ : St} (h : Ord σ) {i j : Nat} (hi : i < 32) (hj : j < 32) (oi : inO σ i = true) (oj : inO σ j = true) (hb : bef σ i j = false) : i = j ∨ bef σ j i = true := by
  by_cases e : i = j
  · exact Or.inl e
  · right
    have h1 : (gT σ 7 i).toInt ≠ (gT σ 7 j).toInt := fun q => h i j hi hj oi oj e (Int64.toInt_inj.mp q)
    have h2 : ¬ (bef σ i j = true) := by rw [hb]; decide
    rw [bef_iff] at h2 ⊢
    omega
def rank (σ : St) (k : Nat) : Nat := cnt (fun i => inO σ i && bef σ i k) 32
theorem rank_lt {σ : St} {i k : Nat} (hi : i < 32) (oi : inO σ i = true) (h : bef σ i k = true) : rank σ i < rank σ k :=
  cnt_lt (k := i) (by simp [bef_irr]) (by simp [oi, h]) hi (fun j _ q => by
    simp only [Bool.and_eq_true] at q ⊢
    exact ⟨q.1, bef_tr q.2 h⟩)
theorem rank_inj {σ : St} (h : Ord σ) {i j : Nat} (hi : i < 32) (hj : j < 32) (oi : inO σ i = true) (oj : inO σ j = true) (e : rank σ i = rank σ j) : i = j := by
  cases hb : bef σ i j with
  | true => have := rank_lt hi oi hb; omega
  | false =>
    rcases bef_tot h hi hj oi oj hb with q | q
    · exact q
    · have := rank_lt hj oj q; omega
theorem nxtR_e (σ : St) (b : Option Nat) (i : Nat) : nxtR σ b (i + 1) = if inO σ i && beh σ b i && befO σ i (nxtR σ b i) then some i else nxtR σ b i := rfl
theorem nxtR_sp {σ : St} (h : Ord σ) (b : Option Nat) : ∀ n, n ≤ 32 → (nxtR σ b n = none ∧ ∀ i, i < n → (inO σ i && beh σ b i) = false) ∨ (∃ k, nxtR σ b n = some k ∧ k < n ∧ inO σ k = true ∧ beh σ b k = true ∧ ∀ i, i < n → (inO σ i && beh σ b i) = true → bef σ i k = false)
  | 0, _ => Or.inl ⟨rfl, fun i hi => absurd hi (Nat.not_lt_zero _)⟩
  | n + 1, hn => by
    rw [nxtR_e]
    rcases nxtR_sp h b n (by omega) with ⟨h1, h2⟩ | ⟨k, h1, h2, h3, h4, h5⟩
    · rw [h1]
      cases hc : (inO σ n && beh σ b n) with
      | true =>
        have e := hc
        simp only [Bool.and_eq_true] at e
        refine Or.inr ⟨n, by simp [befO, e.1, e.2], by omega, e.1, e.2, fun i hi q => ?_⟩
        rcases Nat.lt_or_ge i n with g | g
        · rw [h2 i g] at q; cases q
        · have : i = n := by omega
          subst this; exact bef_irr σ i
      | false =>
        refine Or.inl ⟨by simp, fun i hi => ?_⟩
        rcases Nat.lt_or_ge i n with g | g
        · exact h2 i g
        · have : i = n := by omega
          subst this; exact hc
    · rw [h1]
      cases hc : (inO σ n && beh σ b n) with
      | true =>
        have e := hc
        simp only [Bool.and_eq_true] at e
        cases hb : bef σ n k with
        | true =>
          refine Or.inr ⟨n, by simp [befO, hb], by omega, e.1, e.2, fun i hi q => ?_⟩
          rcases Nat.lt_or_ge i n with g | g
          · cases hb2 : bef σ i n with
            | false => rfl
            | true =>
              have := h5 i g q
              rw [bef_tr hb2 hb] at this; cases this
          · have : i = n := by omega
            subst this; exact bef_irr σ i
        | false =>
          refine Or.inr ⟨k, by simp [befO, hb], by omega, h3, h4, fun i hi q => ?_⟩
          rcases Nat.lt_or_ge i n with g | g
          · exact h5 i g q
          · have : i = n := by omega
            subst this; exact hb
      | false =>
        refine Or.inr ⟨k, by simp, by omega, h3, h4, fun i hi q => ?_⟩
        rcases Nat.lt_or_ge i n with g | g
        · exact h5 i g q
        · have : i = n := by omega
          subst this; rw [hc] at q; cases q
theorem nxt_n {σ : St} (h : Ord σ) {b : Option Nat} (e : nxt σ b = none) {i : Nat} (hi : i < 32) : (inO σ i && beh σ b i) = false := by
  rcases nxtR_sp h b 32 (by omega) with ⟨_, h2⟩ | ⟨k, h1, _⟩
  · exact h2 i hi
  · have : nxt σ b = some k := h1
    rw [e] at this; cases this
theorem nxt_k {σ : St} (h : Ord σ) {b : Option Nat} {k : Nat} (e : nxt σ b = some k) : k < 32 ∧ inO σ k = true ∧ beh σ b k = true ∧ ∀ i, i < 32 → (inO σ i && beh σ b i) = true → bef σ i k = false := by
  rcases nxtR_sp h b 32 (by omega) with ⟨h1, _⟩ | ⟨k', h1, h2, h3, h4, h5⟩
  · have : nxt σ b = none := h1
    rw [e] at this; cases this
  · have : nxt σ b = some k' := h1
    rw [e] at this
    cases this
    exact ⟨h2, h3, h4, h5⟩
theorem nth_0 (σ : St) : nth σ 0 = nxt σ none := by rw [nth]
theorem nth_k {σ : St} {j b : Nat} (e : nth σ j = some b) : nth σ (j + 1) = nxt σ (some b) := by rw [nth_s, e]
theorem nth_n {σ : St} {j : Nat} (e : nth σ j = none) : nth σ (j + 1) = none := by rw [nth_s, e]
theorem nth_sp0 {σ : St} (h : Ord σ) : (∃ k, nth σ 0 = some k ∧ k < 32 ∧ inO σ k = true ∧ rank σ k = 0) ∨ (nth σ 0 = none ∧ ∀ k, k < 32 → inO σ k = true → rank σ k < 0) := by
  rw [nth_0]
  cases e : nxt σ none with
  | none =>
    refine Or.inr ⟨rfl, fun k hk ok => ?_⟩
    have := nxt_n h e hk
    simp [beh, ok] at this
  | some k =>
    obtain ⟨h1, h2, h3, h4⟩ := nxt_k h e
    refine Or.inl ⟨k, rfl, h1, h2, ?_⟩
    unfold rank
    refine cnt_0 fun i hi => ?_
    cases ho : inO σ i with
    | false => rfl
    | true => simp [h4 i hi (by simp [ho, beh])]
theorem rank_s {σ : St} (h : Ord σ) {b k : Nat} (hb : b < 32) (ob : inO σ b = true) (e2 : nxt σ (some b) = some k) : rank σ k = rank σ b + 1 := by
  obtain ⟨h1, h2, h3, h4⟩ := nxt_k h e2
  have hbk : bef σ b k = true := h3
  unfold rank
  refine cnt_add (k := b) (by simp [bef_irr]) (by simp [ob, hbk]) hb (fun i hi hne => ?_)
  cases ho : inO σ i with
  | false => simp only [Bool.false_and]
  | true =>
    simp only [Bool.true_and]
    cases hbi : bef σ b i with
    | true => rw [h4 i hi (by simp [ho, beh, hbi]), bef_as hbi]
    | false =>
      rcases bef_tot h hb hi ob ho hbi with q | q
      · exact absurd q.symm hne
      · rw [q, bef_tr q hbk]
theorem rank_e {σ : St} (h : Ord σ) {b k : Nat} (hb : b < 32) (ob : inO σ b = true) (e2 : nxt σ (some b) = none) (hk : k < 32) (ok : inO σ k = true) : rank σ k ≤ rank σ b := by
  have h1 : (inO σ k && beh σ (some b) k) = false := nxt_n h e2 hk
  have h2 : bef σ b k = false := by simpa [beh, ok] using h1
  rcases bef_tot h hb hk ob ok h2 with q | q
  · rw [q]; exact Nat.le_refl _
  · exact Nat.le_of_lt (rank_lt hk ok q)
theorem nth_spS {σ : St} (h : Ord σ) {j : Nat} (ih : (∃ k, nth σ j = some k ∧ k < 32 ∧ inO σ k = true ∧ rank σ k = j) ∨ (nth σ j = none ∧ ∀ k, k < 32 → inO σ k = true → rank σ k < j)) : (∃ k, nth σ (j + 1) = some k ∧ k < 32 ∧ inO σ k = true ∧ rank σ k = j + 1) ∨ (nth σ (j + 1) = none ∧ ∀ k, k < 32 → inO σ k = true → rank σ k < j + 1) := by
  rcases ih with ⟨b, e, hb, ob, rb⟩ | ⟨e, hr⟩
  · rw [nth_k e]
    generalize e2 : nxt σ (some b) = o
    cases o with
    | none => exact Or.inr ⟨rfl, fun k hk ok => rb ▸ Nat.lt_succ_of_le (rank_e h hb ob e2 hk ok)⟩
    | some k =>
      obtain ⟨h1, h2, h3, h4⟩ := nxt_k h e2
      exact Or.inl ⟨k, rfl, h1, h2, rb ▸ rank_s h hb ob e2⟩
  · exact Or.inr ⟨nth_n e, fun k hk ok => Nat.lt_succ_of_lt (hr k hk ok)⟩
theorem nth_sp {σ : St} (h : Ord σ) : ∀ j, (∃ k, nth σ j = some k ∧ k < 32 ∧ inO σ k = true ∧ rank σ k = j) ∨ (nth σ j = none ∧ ∀ k, k < 32 → inO σ k = true → rank σ k < j) := by
  intro j
  induction j with
  | zero => exact nth_sp0 h
  | succ j ih => exact nth_spS h ih
theorem rank_32 {σ : St} {k : Nat} (hk : k < 32) (ok : inO σ k = true) : rank σ k < 32 := by
  have h1 : rank σ k < cnt (fun i => inO σ i) 32 := cnt_lt (k := k) (by simp [bef_irr]) ok hk (fun i _ q => by simp only [Bool.and_eq_true] at q; exact q.1)
  have h2 := cnt_le (fun i => inO σ i) 32
  omega
theorem nth_32 {σ : St} (h : Ord σ) {j : Nat} (hj : 32 ≤ j) : nth σ j = none := by
  rcases nth_sp h j with ⟨k, _, hk, ok, rk⟩ | ⟨e, _⟩
  · have := rank_32 hk ok; omega
  · exact e
theorem mPlace_eq {σ : St} {k : Nat} (hk : k < 32) : mPlace σ k = if inO σ k then nI (rank σ k) else -1 := by
  unfold mPlace rank
  rw [← sumI_cnt]
  have e : sumI (mPl σ k) 32 = sumI (fun i => if (inO σ i && bef σ i k) then 1 else 0) 32 := sumI_c fun i hi => by
    unfold mPl
    by_cases q : i = k
    · subst q
      simp [bef_irr]
    · have h1 : ¬ nI i = nI k := fun z => q (nI_inj32 hi hk z)
      simp [h1, inO]
  rw [e]
  rfl
theorem cPlace_eq {σ : St} {k : Nat} (hk : k < 32) : cPlace σ k = mPlace σ k := by
  rw [mPlace_eq hk]
  unfold cPlace rank
  rw [← sumI_cnt]
  rfl
theorem atR_f {σ : St} {q : Int32} : ∀ {n : Nat}, (∀ i, i < n → ¬ mPlace σ i = q) → atR σ q n = none
  | 0, _ => rfl
  | n + 1, h => atR_none (atR_f (n := n) fun i hi => h i (by omega)) (h n (by omega))
theorem nI_m1 {n : Nat} (h : n < 2 ^ 31) : ¬ (-1 : Int32) = nI n := by
  intro e
  have h2 : (-1 : Int32).toInt = (nI n).toInt := by rw [e]
  rw [nI_toInt h] at h2
  have h3 : (-1 : Int32).toInt = -1 := by decide
  omega
theorem at_nth {σ : St} (h : Ord σ) {j : Nat} (hj : j < 2 ^ 31) : atR σ (nI j) 32 = nth σ j := by
  rcases nth_sp h j with ⟨k, e, hk, ok, rk⟩ | ⟨e, hr⟩
  · rw [e]
    have h1 : atR σ (nI j) k = none := atR_f fun i hi => by
      rw [mPlace_eq (by omega)]
      cases oi : inO σ i with
      | false => simp only [Bool.false_eq_true, if_false]; exact nI_m1 hj
      | true =>
        simp only [if_true]
        intro q
        have h2 := (nI_eq (Nat.lt_trans (rank_32 (by omega) oi) (by decide)) hj).mp q
        have := rank_inj h (by omega) hk oi ok (by omega)
        omega
    exact atR_some h1 (by rw [mPlace_eq hk, ok, rk]; rfl) hk
  · rw [e]
    refine atR_f fun i hi => ?_
    rw [mPlace_eq hi]
    cases oi : inO σ i with
    | false => simp only [Bool.false_eq_true, if_false]; exact nI_m1 hj
    | true =>
      simp only [if_true]
      intro q
      have h2 := (nI_eq (Nat.lt_trans (rank_32 hi oi) (by decide)) hj).mp q
      have := hr i hi oi
      omega
end
section
/-! ===== sums that do not overflow ===== -/
theorem i_add {a b : Int32} (h1 : -2147483648 ≤ a.toInt + b.toInt) (h2 : a.toInt + b.toInt < 2147483648) : (a + b).toInt = a.toInt + b.toInt := by
  rw [Int32.toInt_add]
  exact Int.bmod_eq_of_le (by omega) (by omega)
theorem i_sub {a b : Int32} (h1 : -2147483648 ≤ a.toInt - b.toInt) (h2 : a.toInt - b.toInt < 2147483648) : (a - b).toInt = a.toInt - b.toInt := by
  rw [Int32.toInt_sub]
  exact Int.bmod_eq_of_le (by omega) (by omega)
theorem l_add {a b : Int64} (h1 : -9223372036854775808 ≤ a.toInt + b.toInt) (h2 : a.toInt + b.toInt < 9223372036854775808) : (a + b).toInt = a.toInt + b.toInt := by
  rw [Int64.toInt_add]
  exact Int.bmod_eq_of_le (by omega) (by omega)
theorem i0 : (0 : Int32).toInt = 0 := by decide
theorem sumI_b {f : Nat → Int32} : ∀ {n : Nat}, n ≤ 32 → (∀ i, i < n → 0 ≤ (f i).toInt ∧ (f i).toInt ≤ 1000) → 0 ≤ (sumI f n).toInt ∧ (sumI f n).toInt ≤ 1000 * (n : Int)
  | 0, _, _ => by
    show 0 ≤ (0 : Int32).toInt ∧ (0 : Int32).toInt ≤ _
    rw [i0]; omega
  | n + 1, hn, h => by
    have h1 := sumI_b (n := n) (by omega) (fun i hi => h i (by omega))
    have h2 := h n (by omega)
    rw [sumI_s, i_add (by omega) (by omega)]
    omega
theorem sumI_le {f g : Nat → Int32} : ∀ {n : Nat}, n ≤ 32 → (∀ i, i < n → 0 ≤ (f i).toInt ∧ (f i).toInt ≤ (g i).toInt ∧ (g i).toInt ≤ 1000) → (sumI f n).toInt ≤ (sumI g n).toInt
  | 0, _, _ => Int.le_refl _
  | n + 1, hn, h => by
    have h1 := sumI_le (n := n) (by omega) (fun i hi => h i (by omega))
    have h2 := h n (by omega)
    have h3 := sumI_b (f := f) (n := n) (by omega) (fun i hi => by have := h i (by omega); omega)
    have h4 := sumI_b (f := g) (n := n) (by omega) (fun i hi => by have := h i (by omega); omega)
    rw [sumI_s, sumI_s, i_add (by omega) (by omega), i_add (by omega) (by omega)]
    omega
theorem sumI_up {f g : Nat → Int32} {k : Nat} {d : Int32} (hk : g k = f k - d) : ∀ {n : Nat}, k < n → (∀ i, i < n → i ≠ k → g i = f i) → sumI g n = sumI f n - d
  | 0, h, _ => absurd h (Nat.not_lt_zero _)
  | n + 1, h, h2 => by
    rw [sumI_s, sumI_s]
    by_cases e : k = n
    · subst e
      rw [sumI_c (f := g) (g := f) (n := k) (fun i hi => h2 i (by omega) (by omega)), hk, Int32.sub_eq_add_neg, Int32.sub_eq_add_neg, Int32.add_assoc]
    · rw [sumI_up hk (n := n) (by omega) (fun i hi => h2 i (by omega)), h2 n (by omega) (fun q => e q.symm), Int32.sub_eq_add_neg, Int32.sub_eq_add_neg, Int32.add_assoc, Int32.add_assoc, Int32.add_comm (-d)]
/-! ===== the invariant of every run ===== -/
def V (n : Nat) (σ : St) : Prop := (∀ k, k < 32 → gB σ 1 k = true → 1 ≤ (gS σ 3 k).toInt ∧ (gS σ 3 k).toInt ≤ 1000) ∧ (1 ≤ (gI σ 3).toInt ∧ (gI σ 3).toInt ≤ 10000) ∧ (∀ k, k < 32 → gB σ 1 k = true → (gT σ 7 k).toInt ≤ (gL σ 5).toInt) ∧ (0 ≤ (gL σ 5).toInt ∧ (gL σ 5).toInt ≤ (n : Int)) ∧ (∀ i j, i < 32 → j < 32 → gB σ 1 i = true → gB σ 1 j = true → i ≠ j → gT σ 7 i ≠ gT σ 7 j) ∧ (∀ k, k < 32 → gS σ 0 k = nI k)
theorem inO_B {σ : St} {k : Nat} (h : inO σ k = true) : gB σ 1 k = true ∧ gB σ 2 k = false := by
  simpa [inO] using h
theorem V.ord {n : Nat} {σ : St} (h : V n σ) : Ord σ := fun i j hi hj oi oj e => h.2.2.2.2.1 i j hi hj (inO_B oi).1 (inO_B oj).1 e
theorem V.of {n : Nat} {σ τ : St} (h : V n σ) (h1 : ∀ k, k < 32 → gB τ 1 k = true → gB σ 1 k = true ∧ gS τ 3 k = gS σ 3 k ∧ gT τ 7 k = gT σ 7 k) (h2 : 1 ≤ (gI τ 3).toInt ∧ (gI τ 3).toInt ≤ 10000) (h3 : gL τ 5 = gL σ 5) (h4 : ∀ k, gS τ 0 k = gS σ 0 k) : V n τ := by
  obtain ⟨a1, a2, a3, a4, a5, a6⟩ := h
  refine ⟨fun k hk b => ?_, h2, fun k hk b => ?_, by rw [h3]; exact a4, fun i j hi hj bi bj e => ?_, fun k hk => by rw [h4]; exact a6 k hk⟩
  · obtain ⟨q1, q2, q3⟩ := h1 k hk b
    rw [q2]; exact a1 k hk q1
  · obtain ⟨q1, q2, q3⟩ := h1 k hk b
    rw [q3, h3]; exact a3 k hk q1
  · obtain ⟨q1, q2, q3⟩ := h1 i hi bi
    obtain ⟨p1, p2, p3⟩ := h1 j hj bj
    rw [q3, p3]; exact a5 i j hi hj q1 p1 e
theorem V.up {n m : Nat} {σ : St} (h : V n σ) (hm : n ≤ m) : V m σ := ⟨h.1, h.2.1, h.2.2.1, ⟨h.2.2.2.1.1, by have := h.2.2.2.1.2; omega⟩, h.2.2.2.2⟩
theorem V.use {n : Nat} {σ τ : St} {k : Nat} (h : V n σ) (hn : n < 2 ^ 30) (h0 : gI τ 3 = gI σ 3) (h1 : gL τ 5 = gL σ 5 + 1) (h2 : gT τ 7 k = gL σ 5 + 1) (h3 : 1 ≤ (gS τ 3 k).toInt ∧ (gS τ 3 k).toInt ≤ 1000) (h4 : ∀ i, i < 32 → i ≠ k → gB τ 1 i = true → gB σ 1 i = true ∧ gS τ 3 i = gS σ 3 i ∧ gT τ 7 i = gT σ 7 i) (h5 : ∀ i, gS τ 0 i = gS σ 0 i) : V (n + 1) τ := by
  obtain ⟨a1, a2, a3, a4, a5, a6⟩ := h
  have e1 : (gL σ 5 + 1).toInt = (gL σ 5).toInt + 1 := by
    rw [l_add (by have : (1 : Int64).toInt = 1 := by decide
                  omega) (by have : (1 : Int64).toInt = 1 := by decide
                             omega)]
    rfl
  refine ⟨fun i hi b => ?_, by rw [h0]; exact a2, fun i hi b => ?_, by rw [h1, e1]; omega, fun i j hi hj bi bj e => ?_, fun i hi => by rw [h5]; exact a6 i hi⟩
  · by_cases q : i = k
    · subst q; exact h3
    · obtain ⟨q1, q2, q3⟩ := h4 i hi q b
      rw [q2]; exact a1 i hi q1
  · by_cases q : i = k
    · subst q; rw [h2, h1]; exact Int.le_refl _
    · obtain ⟨q1, q2, q3⟩ := h4 i hi q b
      have := a3 i hi q1
      rw [q3, h1, e1]; omega
  · by_cases q : i = k
    · subst q
      obtain ⟨q1, q2, q3⟩ := h4 j hj (fun z => e z.symm) bj
      have := a3 j hj q1
      rw [h2, q3]
      intro z
      have z2 : (gL σ 5 + 1).toInt = (gT σ 7 j).toInt := by rw [z]
      omega
    · obtain ⟨q1, q2, q3⟩ := h4 i hi q bi
      by_cases g : j = k
      · subst g
        have := a3 i hi q1
        rw [h2, q3]
        intro z
        have z2 : (gT σ 7 i).toInt = (gL σ 5 + 1).toInt := by rw [z]
        omega
      · obtain ⟨p1, p2, p3⟩ := h4 j hj g bj
        rw [q3, p3]; exact a5 i j hi hj q1 p1 e
/-- entries' sizes -/
def Sz (σ : St) : Prop := ∀ k, k < 32 → gB σ 1 k = true → 1 ≤ (gS σ 3 k).toInt ∧ (gS σ 3 k).toInt ≤ 1000
theorem uF_b {σ : St} (h : Sz σ) (i : Nat) (hi : i < 32) : 0 ≤ (uF σ i).toInt ∧ (uF σ i).toInt ≤ 1000 := by
  unfold uF
  by_cases b : gB σ 1 i = true
  · rw [if_pos b]; have := h i hi b; omega
  · rw [if_neg b, i0]; omega
theorem used_b {σ : St} (h : Sz σ) : 0 ≤ (used σ).toInt ∧ (used σ).toInt ≤ 32000 := sumI_b (n := 32) (Nat.le_refl _) (uF_b h)
theorem pF_b {σ : St} (h : Sz σ) (i : Nat) (hi : i < 32) : 0 ≤ (pF σ i).toInt ∧ (pF σ i).toInt ≤ (uF σ i).toInt := by
  unfold pF uF
  by_cases b : gB σ 1 i = true
  · have := h i hi b
    simp only [b, if_true, Bool.true_and]
    by_cases c : (gB σ 2 i && !ended σ i) = true
    · rw [if_pos c]; omega
    · rw [if_neg c, i0]; omega
  · simp [b]
theorem pinA_b {σ : St} (h : Sz σ) : 0 ≤ (pinA σ).toInt ∧ (pinA σ).toInt ≤ (used σ).toInt :=
  ⟨(sumI_b (n := 32) (Nat.le_refl _) (fun i hi => ⟨(pF_b h i hi).1, Int.le_trans (pF_b h i hi).2 (uF_b h i hi).2⟩)).1, sumI_le (n := 32) (Nat.le_refl _) (fun i hi => ⟨(pF_b h i hi).1, (pF_b h i hi).2, (uF_b h i hi).2⟩)⟩
theorem nF_b {σ : St} (h : Sz σ) (i : Nat) (hi : i < 32) : 0 ≤ (nF σ i).toInt ∧ (nF σ i).toInt ≤ (uF σ i).toInt := by
  unfold nF uF
  by_cases b : gB σ 1 i = true
  · have := h i hi b
    simp only [b, if_true, Bool.true_and]
    by_cases c : (!ended σ i) = true
    · rw [if_pos c]; omega
    · rw [if_neg c, i0]; omega
  · simp [b]
theorem notO_b {σ : St} (h : Sz σ) : 0 ≤ (notO σ).toInt ∧ (notO σ).toInt ≤ (used σ).toInt :=
  ⟨(sumI_b (n := 32) (Nat.le_refl _) (fun i hi => ⟨(nF_b h i hi).1, Int.le_trans (nF_b h i hi).2 (uF_b h i hi).2⟩)).1, sumI_le (n := 32) (Nat.le_refl _) (fun i hi => ⟨(nF_b h i hi).1, (nF_b h i hi).2, (uF_b h i hi).2⟩)⟩
theorem mPinF {σ : St} : mPin σ false = pinA σ := sumI_c fun i _ => by
  unfold mPF pF ovr
  cases gB σ 1 i <;> cases gB σ 2 i <;> cases ended σ i <;> rfl
/-- with b bytes taken: two ways to ask whether z more are too many -/
theorem gt_sub {cp x z : Int32} (h1 : 0 ≤ x.toInt ∧ x.toInt ≤ 32000) (h2 : 1 ≤ cp.toInt ∧ cp.toInt ≤ 10000) (h3 : 1 ≤ z.toInt ∧ z.toInt ≤ 1000) : (cp < x + z ↔ cp - z < x) ∧ (cp < x + z ↔ cp - x < z) := by
  rw [Int32.lt_iff_toInt_lt, Int32.lt_iff_toInt_lt, Int32.lt_iff_toInt_lt, i_add (by omega) (by omega), i_sub (by omega) (by omega), i_sub (by omega) (by omega)]
  omega
/-! ===== what is over is removed ===== -/
theorem rmS_f (σ : St) : ∀ n, (rmS σ n).1 = σ.1 ∧ (rmS σ n).2.1 = σ.2.1 ∧ (rmS σ n).2.2.1 = σ.2.2.1 ∧ (rmS σ n).2.2.2.1 = σ.2.2.2.1 ∧ (∀ j i, j ≠ 1 → gB (rmS σ n) j i = gB σ j i) ∧ (∀ i, gB (rmS σ n) 1 i = (gB σ 1 i && !(decide (i < n) && ended σ i)))
  | 0 => ⟨rfl, rfl, rfl, rfl, fun _ _ _ => rfl, fun i => by simp [rmS]⟩
  | n + 1 => by
    obtain ⟨h1, h2, h3, h4, h5, h6⟩ := rmS_f σ n
    have he : ended (rmS σ n) n = ended σ n := by
      unfold ended gI gS
      rw [h1, h3]
    have hb : gB (rmS σ n) 1 n = gB σ 1 n := by rw [h6]; simp
    rw [rmS_s, he, hb]
    by_cases c : (gB σ 1 n && ended σ n) = true
    · rw [if_pos c]
      simp only [Bool.and_eq_true] at c
      refine ⟨h1, h2, h3, h4, fun j i hj => ?_, fun i => ?_⟩
      · rw [← h5 j i hj]
        simp [gB, uB, va_up, hj]
      · by_cases q : i = n
        · subst q
          simp [gB, uB, va_up, c.2]
        · have e1 : gB (uB (rmS σ n) 1 n false) 1 i = gB (rmS σ n) 1 i := by simp [gB, uB, va_up, q]
          have e2 : (i < n + 1) ↔ (i < n) := by omega
          rw [e1, h6]
          simp [e2]
    · rw [if_neg c]
      refine ⟨h1, h2, h3, h4, h5, fun i => ?_⟩
      rw [h6]
      by_cases q : i = n
      · subst q
        cases hb1 : gB σ 1 i with
        | false => rfl
        | true =>
          rw [hb1] at c
          simp only [Bool.true_and, Bool.not_eq_true] at c
          simp [c]
      · have e2 : (i < n + 1) ↔ (i < n) := by omega
        simp [e2]
theorem B_I (X : St) (j : Nat) (v : Int32) (a i : Nat) : gB (uI X j v) a i = gB X a i := rfl
theorem S_I (X : St) (j : Nat) (v : Int32) (a i : Nat) : gS (uI X j v) a i = gS X a i := rfl
theorem T_I (X : St) (j : Nat) (v : Int32) (a i : Nat) : gT (uI X j v) a i = gT X a i := rfl
theorem L_I (X : St) (j : Nat) (v : Int32) (a : Nat) : gL (uI X j v) a = gL X a := rfl
theorem I_I (X : St) {j a : Nat} (h : a ≠ j) (v : Int32) : gI (uI X j v) a = gI X a := by simp [gI, uI, va_up, h]
theorem S_e {X Y : St} (h : X.2.2.1 = Y.2.2.1) (j i : Nat) : gS X j i = gS Y j i := by unfold gS; rw [h]
theorem T_e {X Y : St} (h : X.2.2.2.1 = Y.2.2.2.1) (j i : Nat) : gT X j i = gT Y j i := by unfold gT; rw [h]
theorem L_e {X Y : St} (h : X.2.1 = Y.2.1) (j : Nat) : gL X j = gL Y j := by unfold gL; rw [h]
theorem I_e {X Y : St} (h : X.1 = Y.1) (j : Nat) : gI X j = gI Y j := by unfold gI; rw [h]
theorem rmO_B1 (σ : St) {i : Nat} (hi : i < 32) : gB (rmO σ) 1 i = (gB σ 1 i && !ended σ i) := by
  have h := (rmS_f σ 32).2.2.2.2.2 i
  rw [rmO, B_I, h]
  simp [hi]
theorem rmO_B2 (σ : St) (j i : Nat) (hj : j ≠ 1) : gB (rmO σ) j i = gB σ j i := by rw [rmO, B_I]; exact (rmS_f σ 32).2.2.2.2.1 j i hj
theorem rmO_S (σ : St) (j i : Nat) : gS (rmO σ) j i = gS σ j i := by rw [rmO, S_I]; exact S_e (rmS_f σ 32).2.2.1 j i
theorem rmO_T (σ : St) (j i : Nat) : gT (rmO σ) j i = gT σ j i := by rw [rmO, T_I]; exact T_e (rmS_f σ 32).2.2.2.1 j i
theorem rmO_L (σ : St) (j : Nat) : gL (rmO σ) j = gL σ j := by rw [rmO, L_I]; exact L_e (rmS_f σ 32).2.1 j
theorem rmO_I (σ : St) {j : Nat} (hj : j ≠ 12) : gI (rmO σ) j = gI σ j := by rw [rmO, I_I _ hj]; exact I_e (rmS_f σ 32).1 j
theorem rmO_en (σ : St) (i : Nat) : ended (rmO σ) i = ended σ i := by
  unfold ended
  rw [rmO_I σ (by decide), rmO_S]
theorem rmO_no {σ : St} {i : Nat} (hi : i < 32) (h : gB (rmO σ) 1 i = true) : ended (rmO σ) i = false := by
  rw [rmO_B1 σ hi] at h
  rw [rmO_en]
  cases he : ended σ i with
  | false => rfl
  | true => rw [he] at h; simp at h
theorem rmO_pin (σ : St) : pinA (rmO σ) = pinA σ := sumI_c fun i hi => by
  unfold pF
  rw [rmO_B1 σ hi, rmO_B2 σ 2 i (by decide), rmO_S, rmO_en]
  cases gB σ 1 i <;> cases ended σ i <;> simp
theorem rmO_V {n : Nat} {σ : St} (h : V n σ) : V n (rmO σ) := h.of (fun k hk b => ⟨by rw [rmO_B1 σ hk] at b; simp at b; exact b.1, rmO_S σ 3 k, rmO_T σ 7 k⟩) (by rw [rmO_I σ (by decide)]; exact h.2.1) (rmO_L σ 5) (rmO_S σ 0)
end
section
/-! ===== entries leave one after the other: the same run on both sides ===== -/
theorem nxtR_in {σ : St} {b : Option Nat} {k : Nat} : ∀ {n : Nat}, nxtR σ b n = some k → inO σ k = true
  | 0, h => by cases h
  | n + 1, h => by
    rw [nxtR_e] at h
    by_cases c : (inO σ n && beh σ b n && befO σ n (nxtR σ b n)) = true
    · rw [if_pos c] at h
      cases h
      simp only [Bool.and_eq_true] at c
      exact c.1.1
    · rw [if_neg c] at h
      exact nxtR_in (n := n) h
theorem nxt_in {σ : St} {b : Option Nat} {k : Nat} (h : nxt σ b = some k) : inO σ k = true := nxtR_in (n := 32) h
/-- τ is σ with some unpinned entries away, the clock apart -/
def Aw (σ τ : St) : Prop := τ.1 = σ.1 ∧ (∀ j, j ≠ 2 → gL τ j = gL σ j) ∧ τ.2.2.1 = σ.2.2.1 ∧ τ.2.2.2.1 = σ.2.2.2.1 ∧ (∀ j i, j ≠ 1 → gB τ j i = gB σ j i) ∧ (∀ i, gB τ 1 i = true → gB σ 1 i = true) ∧ (∀ i, gB σ 1 i = true → gB σ 2 i = true → gB τ 1 i = true)
theorem Aw.rf (σ : St) : Aw σ σ := ⟨rfl, fun _ _ => rfl, rfl, rfl, fun _ _ _ => rfl, fun _ h => h, fun _ h _ => h⟩
theorem lv1_B1 (τ : St) (k i : Nat) : gB (lv1 τ k) 1 i = if i = k then false else gB τ 1 i := by
  by_cases q : i = k
  · simp [lv1, gB, uL, uB, va_up, q]
  · simp [lv1, gB, uL, uB, va_up, q]
theorem lv1_Bj (τ : St) (k i : Nat) {j : Nat} (hj : j ≠ 1) : gB (lv1 τ k) j i = gB τ j i := by simp [lv1, gB, uL, uB, va_up, hj]
theorem aw_lv1 {σ τ : St} {k : Nat} (h : Aw σ τ) (hk : inO τ k = true) : Aw σ (lv1 τ k) := by
  obtain ⟨h1, h2, h3, h4, h5, h6, h7⟩ := h
  refine ⟨h1, fun j hj => ?_, h3, h4, fun j i hj => by rw [lv1_Bj τ k i hj]; exact h5 j i hj, fun i hb => ?_, fun i b1 b2 => ?_⟩
  · rw [← h2 j hj]
    simp [lv1, gL, uL, uB, va_up, hj]
  · rw [lv1_B1] at hb
    by_cases q : i = k
    · simp [q] at hb
    · rw [if_neg q] at hb; exact h6 i hb
  · rw [lv1_B1]
    by_cases q : i = k
    · subst q
      have := (inO_B hk).2
      rw [h5 2 i (by decide), b2] at this
      cases this
    · rw [if_neg q]; exact h7 i b1 b2
theorem lvI_s (σ : St) (n : Nat) : lvI σ (n + 1) = match nxt (lvI σ n) none with
    | none => lvI σ n
    | some k => lv1 (lvI σ n) k := rfl
theorem lvI_k {σ : St} {n k : Nat} (e : nxt (lvI σ n) none = some k) : lvI σ (n + 1) = lv1 (lvI σ n) k := by rw [lvI_s, e]
theorem lvI_n {σ : St} {n : Nat} (e : nxt (lvI σ n) none = none) : lvI σ (n + 1) = lvI σ n := by rw [lvI_s, e]
theorem lvI_aw (σ : St) (n : Nat) : Aw σ (lvI σ n) := by
  induction n with
  | zero => exact Aw.rf σ
  | succ n ih =>
    generalize e : nxt (lvI σ n) none = o
    cases o with
    | none => rw [lvI_n e]; exact ih
    | some k => rw [lvI_k e]; exact aw_lv1 ih (nxt_in e)
theorem aw_V {n : Nat} {σ τ : St} (h : Aw σ τ) (hV : V n σ) : V n τ := by
  obtain ⟨h1, h2, h3, h4, h5, h6, h7⟩ := h
  exact hV.of (fun k hk b => ⟨h6 k b, S_e h3 3 k, T_e h4 7 k⟩) (by rw [I_e h1 3]; exact hV.2.1) (h2 5 (by decide)) (fun k => S_e h3 0 k)
theorem aw_used {σ τ : St} (h : Aw σ τ) (hov : ∀ i, i < 32 → gB σ 1 i = true → ended σ i = false) (hn : ∀ i, i < 32 → inO τ i = false) : used τ = pinA σ := sumI_c fun i hi => by
  obtain ⟨h1, h2, h3, h4, h5, h6, h7⟩ := h
  unfold uF pF
  have e3 : gS τ 3 i = gS σ 3 i := S_e h3 3 i
  have e2 := h5 2 i (by decide)
  have hni := hn i hi
  unfold inO at hni
  cases hb : gB τ 1 i with
  | true =>
    have g1 := h6 i hb
    rw [hb, e2] at hni
    have g2 : gB σ 2 i = true := by simpa using hni
    rw [g1, g2, hov i hi g1, e3]
    rfl
  | false =>
    cases g1 : gB σ 1 i with
    | false => simp
    | true =>
      cases g2 : gB σ 2 i with
      | false => simp
      | true =>
        have := h7 i g1 g2
        rw [hb] at this; cases this
theorem inO_lv1 (τ : St) (k i : Nat) (h : i ≠ k) : inO (lv1 τ k) i = inO τ i := by
  unfold inO
  rw [lv1_B1, if_neg h, lv1_Bj τ k i (by decide)]
theorem inO_lv0 (τ : St) (k : Nat) : inO (lv1 τ k) k = false := by
  unfold inO
  rw [lv1_B1, if_pos rfl, Bool.false_and]
theorem lvI_cnt {σ : St} : ∀ n, (∀ j, j < n → nxt (lvI σ j) none ≠ none) → cnt (inO (lvI σ n)) 32 + n ≤ 32 := by
  intro n
  induction n with
  | zero =>
    intro _
    rw [Nat.add_zero]
    exact cnt_le (inO (lvI σ 0)) 32
  | succ n ih =>
    intro h
    have h1 := ih (fun j hj => h j (by omega))
    generalize e : nxt (lvI σ n) none = o
    cases o with
    | none => exact absurd e (h n (by omega))
    | some k =>
      have h2 : cnt (inO (lvI σ n)) 32 = cnt (inO (lv1 (lvI σ n) k)) 32 + 1 := cnt_add (k := k) (inO_lv0 _ k) (nxt_in e) (nxt_lt e) (fun i _ hne => (inO_lv1 _ k i hne).symm)
      rw [lvI_k e]
      omega
theorem lvE_ok {n : Nat} {σ : St} {b : Int32} (hV : V n σ) (hov : ∀ i, i < 32 → gB σ 1 i = true → ended σ i = false) (hb : ¬ b < pinA σ) : ¬ b < used (lvI σ (lvE b σ)) ∧ ∀ j, j < lvE b σ → b < used (lvI σ j) ∧ ∃ k, nxt (lvI σ j) none = some k := by
  obtain ⟨h1, h2, h3, h4⟩ := stopN_spec (lvOk b σ) 32 0
  have hall : ∀ j, j < lvE b σ → b < used (lvI σ j) ∧ ∃ k, nxt (lvI σ j) none = some k := by
    intro j hj
    have := h3 j (Nat.zero_le _) hj
    unfold lvOk at this
    simp only [Bool.and_eq_true, decide_eq_true_eq, Option.isSome_iff_exists] at this
    exact ⟨this.2, this.1⟩
  refine ⟨?_, hall⟩
  have key : (∀ i, i < 32 → inO (lvI σ (lvE b σ)) i = false) → ¬ b < used (lvI σ (lvE b σ)) := fun hn => by
    rw [aw_used (lvI_aw σ (lvE b σ)) hov hn]; exact hb
  rcases h4 with h4 | h4
  · have h5 : lvE b σ = 32 := by
      show stopN (lvOk b σ) 32 0 = 32
      omega
    refine key fun i hi => ?_
    have h6 := lvI_cnt (σ := σ) (lvE b σ) (fun j hj q => by obtain ⟨k, hk⟩ := (hall j hj).2; rw [q] at hk; cases hk)
    exact cnt_z (by omega) hi
  · have h5 : lvOk b σ (lvE b σ) = false := h4
    unfold lvOk at h5
    generalize e : nxt (lvI σ (lvE b σ)) none = o at h5
    cases o with
    | none =>
      refine key fun i hi => ?_
      have := nxt_n (aw_V (lvI_aw σ (lvE b σ)) hV).ord e hi
      simpa [beh] using this
    | some k => simpa using h5
theorem uI_uI (σ : St) (j : Nat) (a b : Int32) : uI (uI σ j a) j b = uI σ j b := by
  have e : va_up (va_up σ.1 j a) j b = va_up σ.1 j b := by
    funext x
    by_cases q : x = j <;> simp [va_up, q]
  show (va_up (va_up σ.1 j a) j b, σ.2) = _
  rw [e]
  rfl
theorem uI_self (σ : St) (j : Nat) : uI σ j (gI σ j) = σ := by
  have e : va_up σ.1 j (gI σ j) = σ.1 := by
    funext x
    by_cases q : x = j
    · subst q; simp [va_up, gI]
    · simp [va_up, q]
  show (va_up σ.1 j (gI σ j), σ.2) = σ
  rw [e]
theorem used_uI (σ : St) (j : Nat) (v : Int32) : used (uI σ j v) = used σ := congrArg (fun f => sumI f 32) (funext fun k => rfl)
theorem nxt_uI (σ : St) (j : Nat) (v : Int32) (b : Option Nat) : nxt (uI σ j v) b = nxt σ b := by
  unfold nxt
  generalize 32 = n
  induction n with
  | zero => rfl
  | succ n ih =>
    rw [nxtR_e, nxtR_e, ih]
    have e1 : inO (uI σ j v) n = inO σ n := rfl
    have e2 : beh (uI σ j v) b n = beh σ b n := by cases b <;> rfl
    have e3 : befO (uI σ j v) n (nxtR σ b n) = befO σ n (nxtR σ b n) := by cases nxtR σ b n <;> rfl
    rw [e1, e2, e3]
theorem V_uI {n : Nat} {σ : St} (h : V n σ) {j : Nat} (hj : j ≠ 3) (v : Int32) : V n (uI σ j v) := h.of (fun k _ b => ⟨b, rfl, rfl⟩) (by rw [I_I σ (fun q => hj q.symm)]; exact h.2.1) rfl (fun _ => rfl)
theorem at_0 {σ : St} (h : Ord σ) : atR σ 0 32 = nxt σ none := by
  have := at_nth h (j := 0) (by decide)
  rw [nth_0] at this
  exact this
theorem max_eq (a b : Int64) : (if a < b then b else a) = (if b < a then a else b) := by
  by_cases h1 : a < b
  · have h2 : ¬ b < a := by rw [Int64.lt_iff_toInt_lt] at h1 ⊢; omega
    rw [if_pos h1, if_neg h2]
  · by_cases h2 : b < a
    · rw [if_neg h1, if_pos h2]
    · rw [if_neg h1, if_neg h2]
      apply Int64.toInt_inj.mp
      rw [Int64.lt_iff_toInt_lt] at h1 h2
      omega
def runT (ρ : St) (j : Nat) : St := uI (lvI ρ j) 11 (gI ρ 11 + nI j)
theorem runT_0 (ρ : St) : runT ρ 0 = ρ := by
  have e : gI ρ 11 + nI 0 = gI ρ 11 := Int32.add_zero _
  show uI ρ 11 (gI ρ 11 + nI 0) = ρ
  rw [e, uI_self]
theorem runT_s {ρ : St} {j k : Nat} (e : nxt (lvI ρ j) none = some k) : runT ρ (j + 1) = mLv1 (runT ρ j) k := by
  unfold runT
  rw [lvI_k e]
  generalize lvI ρ j = X
  have e1 : gI (uI X 11 (gI ρ 11 + nI j)) 11 + 1 = gI ρ 11 + nI (j + 1) := by
    have : gI (uI X 11 (gI ρ 11 + nI j)) 11 = gI ρ 11 + nI j := by simp [gI, uI, va_up]
    rw [this, nI_succ, Int32.add_assoc]
  unfold mLv1
  rw [e1]
  show uI (lv1 X k) 11 (gI ρ 11 + nI (j + 1)) = uI (uI (uL (uB X 1 k false) 2 (if gL X 2 < gT X 6 k then gT X 6 k else gL X 2)) 11 (gI ρ 11 + nI j)) 11 (gI ρ 11 + nI (j + 1))
  rw [uI_uI, max_eq]
  rfl
theorem runT_e (b : Int32) (ρ : St) : runT ρ (lvE b ρ) = lvD b ρ := by
  unfold runT lvD
  rw [I_e (lvI_aw ρ (lvE b ρ)).1 11]
theorem runT_V {n : Nat} {ρ : St} (h : V n ρ) (j : Nat) : V n (runT ρ j) := V_uI (aw_V (lvI_aw ρ j) h) (by decide) _
theorem runT_3 (ρ : St) (j : Nat) : gI (runT ρ j) 3 = gI ρ 3 := by
  unfold runT
  rw [I_I _ (by decide)]
  exact I_e (lvI_aw ρ j).1 3
/-- the run of the class's loop is one of the reference's -/
theorem run_ok {n : Nat} {ρ : St} {b : Int32} (hV : V n ρ) (hov : ∀ i, i < 32 → gB ρ 1 i = true → ended ρ i = false) (hb : ¬ b < pinA ρ) : (∀ j, j < lvE b ρ → b < used (runT ρ j) ∧ ∃ k, k < 32 ∧ atR (runT ρ j) 0 32 = some k ∧ runT ρ (j + 1) = mLv1 (runT ρ j) k) ∧ ¬ b < used (runT ρ (lvE b ρ)) := by
  obtain ⟨h1, h2⟩ := lvE_ok hV hov hb
  refine ⟨fun j hj => ?_, by rw [runT, used_uI]; exact h1⟩
  obtain ⟨h3, k, hk⟩ := h2 j hj
  refine ⟨by rw [runT, used_uI]; exact h3, k, nxt_lt hk, ?_, runT_s hk⟩
  rw [at_0 (runT_V hV j).ord, runT, nxt_uI]
  exact hk
theorem mPinT {σ : St} (h : ∀ i, i < 32 → gB σ 1 i = true → ended σ i = false) : mPin σ true = pinA σ := sumI_c fun i hi => by
  unfold mPF pF
  cases hb : gB σ 1 i with
  | false => simp
  | true => simp [h i hi hb]
theorem mPinT_b {σ : St} (h : Sz σ) : 0 ≤ (mPin σ true).toInt ∧ (mPin σ true).toInt ≤ (used σ).toInt := by
  have h1 : ∀ i, i < 32 → 0 ≤ (mPF σ true i).toInt ∧ (mPF σ true i).toInt ≤ (uF σ i).toInt := fun i hi => by
    unfold mPF uF
    by_cases b : gB σ 1 i = true
    · have := h i hi b
      simp only [b, if_true, Bool.true_and, Bool.true_or, Bool.and_true]
      by_cases c : gB σ 2 i = true
      · rw [if_pos c]; omega
      · rw [if_neg c, i0]; omega
    · simp [b]
  exact ⟨(sumI_b (n := 32) (Nat.le_refl _) (fun i hi => ⟨(h1 i hi).1, Int.le_trans (h1 i hi).2 (uF_b h i hi).2⟩)).1, sumI_le (n := 32) (Nat.le_refl _) (fun i hi => ⟨(h1 i hi).1, (h1 i hi).2, (uF_b h i hi).2⟩)⟩
theorem room_ok {n : Nat} {ρ : St} {z : Int32} (hV : V n ρ) (hz : 1 ≤ z.toInt ∧ z.toInt ≤ 1000) : ∃ (N : Nat) (τ : Nat → St), (gI (mRoom0 ρ z) 3 < mPin (mRoom0 ρ z) true + z ∨ (τ 0 = mRoom0 ρ z ∧ mRun (fun s => gI s 3 < used s + z) N τ)) ∧ cRoom ρ z = (if gI (mRoom0 ρ z) 3 < mPin (mRoom0 ρ z) true + z then (false, mRoom0 ρ z) else (true, τ N)) ∧ V n (cRoom ρ z).2 := by
  have hu := used_b hV.1
  have g1 := gt_sub hu hV.2.1 hz
  by_cases hr : gI ρ 3 - z < used ρ
  · have m0 : mRoom0 ρ z = rmO ρ := by unfold mRoom0; rw [if_pos (g1.1.mpr hr)]
    have c0 : cRoom ρ z = if gI (rmO ρ) 3 - pinA (rmO ρ) < z then (false, rmO ρ) else (true, lvD (gI (rmO ρ) 3 - z) (rmO ρ)) := by
      unfold cRoom cHasRoom
      rw [if_neg (by simp [hr])]
    have hW := rmO_V hV
    have hov : ∀ i, i < 32 → gB (rmO ρ) 1 i = true → ended (rmO ρ) i = false := fun i hi h => rmO_no hi h
    have hpt := mPinT hov
    have hpb := pinA_b hW.1
    have hub := used_b hW.1
    have g2 := gt_sub (cp := gI (rmO ρ) 3) (x := pinA (rmO ρ)) ⟨hpb.1, by omega⟩ hW.2.1 hz
    rw [m0, hpt]
    generalize hρ : rmO ρ = X at *
    by_cases hf : gI X 3 < pinA X + z
    · refine ⟨0, fun _ => ρ, Or.inl hf, ?_, ?_⟩
      · rw [c0, if_pos (g2.2.mp hf), if_pos hf]
      · rw [c0, if_pos (g2.2.mp hf)]; exact hW
    · obtain ⟨r1, r2⟩ := run_ok (b := gI X 3 - z) hW hov (fun q => hf (g2.1.mpr q))
      refine ⟨lvE (gI X 3 - z) X, runT X, Or.inr ⟨runT_0 X, fun j hj => ?_, ?_⟩, ?_, ?_⟩
      · obtain ⟨q1, k, q2⟩ := r1 j hj
        refine ⟨?_, k, q2⟩
        show gI (runT X j) 3 < used (runT X j) + z
        rw [runT_3]
        exact (gt_sub (used_b (runT_V hW j).1) hW.2.1 hz).1.mpr q1
      · show ¬ gI (runT X _) 3 < used (runT X _) + z
        rw [runT_3]
        exact fun q => r2 ((gt_sub (used_b (runT_V hW _).1) hW.2.1 hz).1.mp q)
      · rw [c0, if_neg (fun q => hf (g2.2.mpr q)), if_neg hf, runT_e]
      · rw [c0, if_neg (fun q => hf (g2.2.mpr q)), ← runT_e]; exact runT_V hW _
  · have m0 : mRoom0 ρ z = ρ := by unfold mRoom0; rw [if_neg (fun q => hr (g1.1.mp q))]
    have c0 : cRoom ρ z = (true, ρ) := by
      unfold cRoom cHasRoom
      rw [if_pos (by simp [hr])]
    have hpb := mPinT_b hV.1
    have hf : ¬ gI ρ 3 < mPin ρ true + z := fun q => by
      have q2 := g1.1.mp
      have a := hV.2.1
      rw [Int32.lt_iff_toInt_lt, i_add (by omega) (by omega)] at q
      refine hr (q2 ?_)
      rw [Int32.lt_iff_toInt_lt, i_add (by omega) (by omega)]
      omega
    rw [m0]
    refine ⟨0, fun _ => ρ, Or.inr ⟨rfl, fun j hj => absurd hj (Nat.not_lt_zero _), fun q => hr (g1.1.mp q)⟩, ?_, ?_⟩
    · rw [c0, if_neg hf]
    · rw [c0]; exact hV
theorem inR_i {x a b : Int32} (h : inR x a b = true) : a.toInt ≤ x.toInt ∧ x.toInt ≤ b.toInt := by
  simp only [inR, Bool.and_eq_true, Bool.not_eq_true', decide_eq_false_iff_not, Int32.lt_iff_toInt_lt] at h
  omega
theorem cap_ok {n : Nat} {σ : St} {t : Int32} (hV : V n σ) (ht : inR t 1 10000 = true) (hp : ¬ t < pinA σ) : ∃ (N : Nat) (τ : Nat → St), (τ 0 = (if t < used (uI σ 3 t) then rmO (uI σ 3 t) else uI σ 3 t) ∧ mRun (fun s => t < used s) N τ) ∧ cSetCap σ t = (nI N, τ N) ∧ V n (τ N) := by
  have hi := inR_i ht
  have e1 : (1 : Int32).toInt = 1 := by decide
  have e2 : (10000 : Int32).toInt = 10000 := by decide
  rw [e1, e2] at hi
  have hA : V n (uI σ 3 t) := hV.of (fun k _ b => ⟨b, rfl, rfl⟩) (by have : gI (uI σ 3 t) 3 = t := by simp [gI, uI, va_up]
                                                                     rw [this]; exact hi) rfl (fun _ => rfl)
  have hpin : pinA (uI σ 3 t) = pinA σ := congrArg (fun f => sumI f 32) (funext fun k => rfl)
  unfold cSetCap
  generalize uI σ 3 t = X at *
  by_cases hu : t < used X
  · have hW := rmO_V hA
    obtain ⟨r1, r2⟩ := run_ok (b := t) hW (fun i hi h => rmO_no hi h) (by rw [rmO_pin, hpin]; exact hp)
    refine ⟨lvE t (rmO X), runT (rmO X), ⟨by rw [runT_0, if_pos hu], r1, r2⟩, ?_, runT_V hW _⟩
    show (if t < used X then _ else _) = _
    rw [if_pos hu, runT_e]
  · refine ⟨0, fun _ => X, ⟨by rw [if_neg hu], fun j hj => absurd hj (Nat.not_lt_zero _), hu⟩, ?_, hA⟩
    show (if t < used X then _ else _) = _
    rw [if_neg hu]
    rfl
end
section
/-! ===== what would leave ===== -/
theorem nF_sub (σ : St) (i : Nat) : nF σ i = uF σ i - (if ovr σ i then gS σ 3 i else 0) := by
  unfold nF uF ovr
  cases gB σ 1 i <;> cases ended σ i <;> simp
theorem mSubI_n (σ : St) : ∀ n, n ≤ 32 → mSubI σ n = sumI (fun i => if i < n then nF σ i else uF σ i) 32 := by
  intro n
  induction n with
  | zero => exact fun _ => sumI_c fun i _ => by rw [if_neg (Nat.not_lt_zero i)]
  | succ n ih =>
    intro hn
    rw [mSubI_s, ih (by omega)]
    refine (sumI_up (k := n) ?_ (by omega) (fun i _ hne => ?_)).symm
    · show (if n < n + 1 then nF σ n else uF σ n) = (if n < n then nF σ n else uF σ n) - _
      rw [if_pos (Nat.lt_succ_self n), if_neg (Nat.lt_irrefl n), nF_sub]
    · have e : (i < n + 1) ↔ (i < n) := by omega
      show (if i < n + 1 then nF σ i else uF σ i) = (if i < n then nF σ i else uF σ i)
      simp only [e]
theorem mSubI_32 (σ : St) : mSubI σ 32 = notO σ := by
  rw [mSubI_n σ 32 (Nat.le_refl _)]
  exact sumI_c fun i hi => by rw [if_pos hi]
def gW (σ : St) (n i : Nat) : Int32 := if inO σ i && decide (rank σ i < n) then 0 else nF σ i
theorem ovr_in {σ : St} {k : Nat} (h : inO σ k = true) : ovr σ k = ended σ k := by
  unfold ovr
  rw [(inO_B h).1, Bool.true_and]
theorem nF_in {σ : St} {k : Nat} (h : inO σ k = true) : nF σ k = if ovr σ k then 0 else gS σ 3 k := by
  rw [ovr_in h]
  unfold nF
  rw [(inO_B h).1]
  cases ended σ k <;> rfl
theorem mWl_sum {σ : St} (h : Ord σ) : ∀ n, n < 2 ^ 31 → (mWl σ n).1 = sumI (gW σ n) 32 := by
  intro n
  induction n with
  | zero =>
    intro _
    show mSubI σ 32 = _
    rw [mSubI_32]
    exact sumI_c fun i _ => by unfold gW; simp
  | succ n ih =>
    intro hn
    have ih := ih (by omega)
    rw [mWl_s, at_nth h (by omega)]
    rcases nth_sp h n with ⟨k, e, hk, okk, rk⟩ | ⟨e, hr⟩
    · rw [e]
      show (mWl σ n).1 - (if ovr σ k then 0 else gS σ 3 k) = _
      rw [ih, ← nF_in okk]
      refine (sumI_up (k := k) ?_ hk (fun i hi hne => ?_)).symm
      · unfold gW
        rw [okk, rk]
        simp
      · unfold gW
        cases oi : inO σ i with
        | false => simp
        | true =>
          have e2 : (rank σ i < n + 1) ↔ (rank σ i < n) := by
            have : rank σ i ≠ n := fun q => hne (rank_inj h hi hk oi okk (by omega))
            omega
          simp only [e2]
    · rw [e]
      show (mWl σ n).1 = _
      rw [ih]
      refine sumI_c fun i hi => ?_
      unfold gW
      cases oi : inO σ i with
      | false => simp
      | true =>
        have h1 := hr i hi oi
        have h2 : rank σ i < n + 1 := by omega
        simp [h1, h2]
theorem wlI_k {σ : St} {n k : Nat} (e : (wlI σ n).2.2 = some k) : wlI σ (n + 1) = (if ended σ k then (wlI σ n).1 else (wlI σ n).1 - gS σ 3 k, if ended σ k then (wlI σ n).2.1 else (wlI σ n).2.1 + 1, nxt σ (some k)) := by rw [wlI_s, e]
theorem wlI_n {σ : St} {n : Nat} (e : (wlI σ n).2.2 = none) : wlI σ (n + 1) = wlI σ n := by rw [wlI_s, e]
theorem wlI_eq {σ : St} (h : Ord σ) : ∀ n, n < 2 ^ 31 → wlI σ n = ((mWl σ n).1, (mWl σ n).2, nth σ n) := by
  intro n
  induction n with
  | zero =>
    intro _
    have e : (mWl σ 0).1 = notO σ := mSubI_32 σ
    rw [e, nth_0]
    rfl
  | succ n ih =>
    intro hn
    have ih := ih (by omega)
    rw [mWl_s, at_nth h (by omega)]
    rcases nth_sp h n with ⟨k, e, hk, okk, rk⟩ | ⟨e, hr⟩
    · rw [wlI_k (σ := σ) (n := n) (k := k) (by rw [ih]; exact e), nth_k e, e, ih, ← ovr_in okk]
      generalize nxt σ (some k) = o
      unfold mStep
      by_cases c : ovr σ k = true
      · simp [c]
      · simp [c]
    · rw [wlI_n (σ := σ) (n := n) (by rw [ih]; exact e), nth_n e, e, ih, e]
      rfl
theorem gW_b {σ : St} (h : Sz σ) (n : Nat) : 0 ≤ (sumI (gW σ n) 32).toInt ∧ (sumI (gW σ n) 32).toInt ≤ 32000 :=
  sumI_b (n := 32) (Nat.le_refl _) fun i hi => by
    have h1 := nF_b h i hi
    have h2 := uF_b h i hi
    unfold gW
    by_cases c : (inO σ i && decide (rank σ i < n)) = true
    · rw [if_pos c, i0]; omega
    · rw [if_neg c]; omega
theorem gW_end {σ : St} (h : Ord σ) {n : Nat} (e : nth σ n = none) : sumI (gW σ n) 32 = pinA σ := sumI_c fun i hi => by
  rcases nth_sp h n with ⟨k, e2, _⟩ | ⟨_, hr⟩
  · rw [e] at e2; cases e2
  · unfold gW nF pF
    cases oi : inO σ i with
    | true =>
      have h1 := hr i hi oi
      have h2 := inO_B oi
      simp [h1, h2.1, h2.2]
    | false =>
      unfold inO at oi
      cases hb : gB σ 1 i with
      | false => simp
      | true =>
        have h3 : gB σ 2 i = true := by rw [hb] at oi; simpa using oi
        simp [h3]
theorem would_ok {n : Nat} {σ : St} {t : Int32} (hV : V n σ) (ht : 1 ≤ t.toInt ∧ t.toInt ≤ 1000) : ∃ N, (¬ gI σ 3 < used σ + t ∨ gI σ 3 < mPin σ false + t ∨ ((∀ j, j < N → gI σ 3 < (mWl σ j).1 + t ∧ ∃ k, k < 32 ∧ atR σ (nI j) 32 = some k) ∧ ¬ gI σ 3 < (mWl σ N).1 + t)) ∧ cWould σ t = (if gI σ 3 < used σ + t then (if gI σ 3 < mPin σ false + t then -1 else (mWl σ N).2) else 0) := by
  have ho := hV.ord
  have hub := used_b hV.1
  have hpb := pinA_b hV.1
  have hnb := notO_b hV.1
  have gu := gt_sub hub hV.2.1 ht
  have gp := gt_sub (x := pinA σ) ⟨hpb.1, by omega⟩ hV.2.1 ht
  have gn := gt_sub (x := notO σ) ⟨hnb.1, by omega⟩ hV.2.1 ht
  obtain ⟨s1, s2, s3, s4⟩ := stopN_spec (wlOk σ t) 32 0
  have hE : wlE σ t ≤ 32 := by show stopN (wlOk σ t) 32 0 ≤ 32; omega
  have hc : cCount σ t = (mWl σ (wlE σ t)).2 := by
    unfold cCount
    rw [wlI_eq ho _ (by omega)]
  rw [mPinF]
  by_cases hu : gI σ 3 < used σ + t
  · by_cases hp : gI σ 3 < pinA σ + t
    · refine ⟨0, Or.inr (Or.inl hp), ?_⟩
      unfold cWould
      rw [if_pos (gp.2.mp hp), if_pos hu, if_pos hp]
    · refine ⟨wlE σ t, Or.inr (Or.inr ⟨fun j hj => ?_, ?_⟩), ?_⟩
      · have h1 := s3 j (Nat.zero_le _) hj
        unfold wlOk at h1
        rw [wlI_eq ho j (by omega)] at h1
        simp only [Bool.and_eq_true, decide_eq_true_eq, Option.isSome_iff_exists] at h1
        obtain ⟨⟨k, hk⟩, h2⟩ := h1
        rw [mWl_sum ho j (by omega)] at h2 ⊢
        exact ⟨(gt_sub (gW_b hV.1 j) hV.2.1 ht).1.mpr h2, k, nth_lt hk, by rw [at_nth ho (by omega)]; exact hk⟩
      · have key : nth σ (wlE σ t) = none → ¬ gI σ 3 < (mWl σ (wlE σ t)).1 + t := fun e => by
          rw [mWl_sum ho _ (by omega), gW_end ho e]; exact hp
        rcases s4 with s4 | s4
        · have h5 : wlE σ t = 32 := by
            show stopN (wlOk σ t) 32 0 = 32
            omega
          exact key (by rw [h5]; exact nth_32 ho (Nat.le_refl _))
        · have h5 : wlOk σ t (wlE σ t) = false := s4
          unfold wlOk at h5
          rw [wlI_eq ho _ (by omega)] at h5
          cases e : nth σ (wlE σ t) with
          | none => exact key e
          | some k =>
            have h6 : ¬ gI σ 3 - t < (mWl σ (wlE σ t)).1 := by simpa [e] using h5
            rw [mWl_sum ho _ (by omega)] at h6 ⊢
            exact fun q => h6 ((gt_sub (gW_b hV.1 _) hV.2.1 ht).1.mp q)
      · unfold cWould
        rw [if_neg (fun q => hp (gp.2.mpr q)), if_pos hu, if_neg hp, hc]
  · have hnp : ¬ gI σ 3 < pinA σ + t := by
      rw [Int32.lt_iff_toInt_lt, i_add (by omega) (by omega)] at hu ⊢
      omega
    have hnn : ¬ gI σ 3 - t < notO σ := fun q => by
      have q := gn.1.mpr q
      rw [Int32.lt_iff_toInt_lt, i_add (by omega) (by omega)] at hu q
      omega
    refine ⟨0, Or.inl hu, ?_⟩
    unfold cWould
    rw [if_neg (fun q => hnp (gp.2.mpr q)), if_neg hu]
    have h0 : wlOk σ t 0 = false := by
      have e : (wlI σ 0).1 = notO σ := rfl
      unfold wlOk
      rw [e]
      simp [hnn]
    have h1 : wlE σ t = 0 := by
      unfold wlE stopN
      rw [h0]
      rfl
    rw [hc, h1]
    rfl
end
section
/-! ===== the class's state and the reference's: the same where both look ===== -/
def Cq (X Y : St) : Prop := (∀ j, j ≠ 20 → gI X j = gI Y j) ∧ X.2.1 = Y.2.1 ∧ (∀ j i, j ≠ 9 → gS X j i = gS Y j i) ∧ X.2.2.2.1 = Y.2.2.2.1 ∧ X.2.2.2.2 = Y.2.2.2.2
theorem Cq.rf (X : St) : Cq X X := ⟨fun _ _ => rfl, rfl, fun _ _ _ => rfl, rfl, rfl⟩
theorem B_e {X Y : St} (h : X.2.2.2.2 = Y.2.2.2.2) (j i : Nat) : gB X j i = gB Y j i := by unfold gB; rw [h]
theorem Cq_w {X Y : St} (h : Cq X Y) (ax ar : Nat) (ad : Nat → Nat) (cO : ClassId) : cW ax ar ad cO X = cW ax ar ad cO Y := by
  obtain ⟨h1, h2, h3, h4, h5⟩ := h
  have e1 : cF ar X = cF ar Y := by
    unfold cF
    simp only [L_e h2]
    rw [h1 1 (by decide), h1 3 (by decide), h1 4 (by decide), h1 6 (by decide), h1 7 (by decide), h1 11 (by decide), h1 12 (by decide)]
  have e2 : ∀ k, sF X k = sF Y k := fun k => by
    unfold sF
    simp only [T_e h4, B_e h5]
    rw [h3 0 k (by decide), h3 3 k (by decide), h3 4 k (by decide), h3 5 k (by decide), h3 8 k (by decide)]
  unfold cW cPl
  rw [e1, show (fun k => (ad k, (Sum.inr (0, sF X k) : va_E))) = (fun k => (ad k, Sum.inr (0, sF Y k))) from funext fun k => by rw [e2 k]]
theorem gI_u (X : St) (j : Nat) (v : Int32) (a : Nat) : gI (uI X j v) a = if a = j then v else gI X a := by
  by_cases p : a = j
  · simp [gI, uI, va_up, p]
  · simp [gI, uI, va_up, p]
theorem Cq_I {X Y : St} (h : Cq X Y) (j : Nat) {v w : Int32} (e : v = w) : Cq (uI X j v) (uI Y j w) := by
  subst e
  exact ⟨fun a ha => by rw [gI_u, gI_u, h.1 a ha], h.2.1, h.2.2.1, h.2.2.2.1, h.2.2.2.2⟩
theorem Cq_L {X Y : St} (h : Cq X Y) (j : Nat) {v w : Int64} (e : v = w) : Cq (uL X j v) (uL Y j w) := by
  subst e
  exact ⟨h.1, by show va_up X.2.1 j v = va_up Y.2.1 j v; rw [h.2.1], h.2.2.1, h.2.2.2.1, h.2.2.2.2⟩
theorem gS_u (X : St) (j k : Nat) (v : Int32) (a i : Nat) : gS (uS X j k v) a i = if a = j then (if i = k then v else gS X j i) else gS X a i := by
  by_cases p : a = j
  · by_cases q : i = k
    · simp [gS, uS, va_up, p, q]
    · simp [gS, uS, va_up, p, q]
  · simp [gS, uS, va_up, p]
theorem Cq_S {X Y : St} (h : Cq X Y) (j k : Nat) {v w : Int32} (e : v = w) (hj : j ≠ 9) : Cq (uS X j k v) (uS Y j k w) := by
  subst e
  refine ⟨h.1, h.2.1, fun a i ha => ?_, h.2.2.2.1, h.2.2.2.2⟩
  rw [gS_u, gS_u, h.2.2.1 j i hj, h.2.2.1 a i ha]
theorem Cq_9 {X Y : St} (h : Cq X Y) (k : Nat) (v : Int32) : Cq X (uS Y 9 k v) := by
  refine ⟨h.1, h.2.1, fun a i ha => ?_, h.2.2.2.1, h.2.2.2.2⟩
  rw [gS_u, if_neg ha, h.2.2.1 a i ha]
theorem Cq_20 {X Y : St} (h : Cq X Y) (v : Int32) : Cq X (uI Y 20 v) := ⟨fun a ha => by rw [gI_u, if_neg ha, h.1 a ha], h.2⟩
theorem Cq_02 {X Y : St} (h : Cq X Y) (v : Int32) : Cq (uI X 20 v) Y := ⟨fun a ha => by rw [gI_u, if_neg ha, h.1 a ha], h.2⟩
theorem gB_u (X : St) (j k : Nat) (v : Bool) (a i : Nat) : gB (uB X j k v) a i = if a = j then (if i = k then v else gB X j i) else gB X a i := by
  by_cases p : a = j
  · by_cases q : i = k
    · simp [gB, uB, va_up, p, q]
    · simp [gB, uB, va_up, p, q]
  · simp [gB, uB, va_up, p]
theorem Cq_B {X Y : St} (h : Cq X Y) (j k : Nat) (v : Bool) : Cq (uB X j k v) (uB Y j k v) := by
  refine ⟨h.1, h.2.1, h.2.2.1, h.2.2.2.1, ?_⟩
  show va_up X.2.2.2.2 j (va_up (X.2.2.2.2 j) k v) = va_up Y.2.2.2.2 j (va_up (Y.2.2.2.2 j) k v)
  rw [h.2.2.2.2]
theorem gT_u (X : St) (j k : Nat) (v : Int64) (a i : Nat) : gT (uT X j k v) a i = if a = j then (if i = k then v else gT X j i) else gT X a i := by
  by_cases p : a = j
  · by_cases q : i = k
    · simp [gT, uT, va_up, p, q]
    · simp [gT, uT, va_up, p, q]
  · simp [gT, uT, va_up, p]
theorem gT_UL (X : St) (j : Nat) (v : Int64) (a i : Nat) : gT (uL X j v) a i = gT X a i := rfl
theorem T_x {X Y : St} (h : ∀ j i, gT X j i = gT Y j i) : X.2.2.2.1 = Y.2.2.2.1 := funext fun j => funext fun i => h j i
theorem Cq_setW {X Y : St} (h : Cq X Y) {k : Nat} {pr : Int32} (h9 : gS Y 9 k = pr) (hz : 1 ≤ (gS X 3 k).toInt) : Cq (cSetW X k pr) (mSetW Y k) := by
  obtain ⟨h1, h2, h3, h4, h5⟩ := h
  have e1 : ¬ gS X 3 k < 1 := by
    rw [Int32.lt_iff_toInt_lt]
    have : (1 : Int32).toInt = 1 := by decide
    omega
  unfold cSetW mSetW
  rw [if_neg e1, h9, h3 3 k (by decide), h3 4 k (by decide), L_e h2 2, L_e h2 5]
  refine ⟨h1, ?_, fun j i hj => h3 j i hj, T_x fun j i => ?_, h5⟩
  · show va_up X.2.1 5 _ = va_up Y.2.1 5 _
    rw [h2]
  · have g1 : ∀ a, gT X a i = gT Y a i := fun a => T_e h4 a i
    simp only [gT_u, gT_UL, g1]
    by_cases p : j = 6
    · subst p
      simp
    · by_cases p7 : j = 7
      · subst p7
        simp
      · simp [p, p7]
theorem mMiss_eq (σ : St) (k : Nat) (pr : Int32) : cRmOwn (uS (cMiss σ pr) 8 k (gI (cMiss σ pr) 1)) k = mMiss σ k pr := by
  have e0 : uS (cMiss σ pr) 8 k (gI (cMiss σ pr) 1) = uL (uI (uS σ 8 k (gI σ 1)) 7 (gI σ 7 + 1)) 10 (gL σ 10 + pr.toInt64) := rfl
  have e1 : mMiss σ k pr = uB (uI (uL (uI (uS σ 8 k (gI σ 1)) 7 (gI σ 7 + 1)) 10 (gL σ 10 + pr.toInt64)) 12 (gI (uL (uI (uS σ 8 k (gI σ 1)) 7 (gI σ 7 + 1)) 10 (gL σ 10 + pr.toInt64)) 12 + (if ovr (uL (uI (uS σ 8 k (gI σ 1)) 7 (gI σ 7 + 1)) 10 (gL σ 10 + pr.toInt64)) k then 1 else 0))) 1 k false := rfl
  rw [e0, e1]
  generalize uL (uI (uS σ 8 k (gI σ 1)) 7 (gI σ 7 + 1)) 10 (gL σ 10 + pr.toInt64) = X
  unfold cRmOwn ovr
  by_cases c : (gB X 1 k && ended X k) = true
  · rw [if_pos c, if_pos c]
  · rw [if_neg c, if_neg c, Int32.add_zero, uI_self]
theorem mMiss_V {n : Nat} {σ : St} (h : V n σ) (k : Nat) (pr : Int32) : V n (mMiss σ k pr) := by
  refine h.of (fun i _ b => ?_) h.2.1 rfl (fun _ => rfl)
  have e : gB (mMiss σ k pr) 1 i = if i = k then false else gB σ 1 i := by
    unfold mMiss
    rw [gB_u]
    rfl
  rw [e] at b
  by_cases q : i = k
  · rw [if_pos q] at b; cases b
  · rw [if_neg q] at b; exact ⟨b, rfl, rfl⟩
theorem setW_V {n : Nat} {σ X : St} {k : Nat} (h : V n σ) (hn : n < 2 ^ 30) (h0 : gI X 3 = gI σ 3) (h1 : gL X 5 = gL σ 5) (h3 : 1 ≤ (gS X 3 k).toInt ∧ (gS X 3 k).toInt ≤ 1000) (h4 : ∀ i, i < 32 → i ≠ k → gB X 1 i = true → gB σ 1 i = true ∧ gS X 3 i = gS σ 3 i ∧ gT X 7 i = gT σ 7 i) (h5 : ∀ i, gS X 0 i = gS σ 0 i) : V (n + 1) (mSetW X k) := by
  refine h.use (k := k) hn h0 ?_ ?_ h3 (fun i hi hne b => ?_) h5
  · show va_up X.2.1 5 (gL X 5 + 1) 5 = _
    simp [va_up, h1]
  · unfold mSetW
    rw [gT_u, if_pos rfl, if_pos rfl, h1]
  · obtain ⟨q1, q2, q3⟩ := h4 i hi hne b
    refine ⟨q1, q2, ?_⟩
    unfold mSetW
    rw [gT_u, if_pos rfl, if_neg hne]
    show gT (uT X 6 k _) 7 i = _
    rw [gT_u, if_neg (by decide)]
    exact q3
theorem rmO_20 (σ : St) : gI (rmO σ) 20 = gI σ 20 := rmO_I σ (by decide)
theorem lvD_20 (b : Int32) (σ : St) : gI (lvD b σ) 20 = gI σ 20 := by
  unfold lvD
  rw [I_I _ (by decide)]
  exact I_e (lvI_aw σ _).1 20
theorem cap_20 {σ : St} {t : Int32} : gI (cSetCap σ t).2 20 = gI σ 20 := by
  unfold cSetCap
  have e : gI (uI σ 3 t) 20 = gI σ 20 := I_I σ (by decide) t
  generalize uI σ 3 t = X at e ⊢
  show gI (if t < used X then (nI (lvE t (rmO X)), lvD t (rmO X)) else (0, X)).2 20 = _
  by_cases c : t < used X
  · rw [if_pos c, ← e]
    show gI (lvD t (rmO X)) 20 = _
    rw [lvD_20, rmO_20]
  · rw [if_neg c]; exact e
theorem room_20 (σ : St) (z : Int32) : gI (cRoom σ z).2 20 = gI σ 20 := by
  unfold cRoom
  by_cases c : cHasRoom σ z = true
  · rw [if_pos c]
  · rw [if_neg c]
    by_cases c2 : gI (rmO σ) 3 - pinA (rmO σ) < z
    · rw [if_pos c2]; exact rmO_20 σ
    · rw [if_neg c2]
      show gI (lvD _ (rmO σ)) 20 = _
      rw [lvD_20, rmO_20]
theorem fetch_ok {n : Nat} {σ : St} {k : Nat} {z pr lf : Int32} (hV : V n σ) (hn : n < 2 ^ 30) (hk : k < 32) (hz : 1 ≤ z.toInt ∧ z.toInt ≤ 1000) : ∃ (N : Nat) (τ : Nat → St), (gI (mRoom0 (mMiss σ k pr) z) 3 < mPin (mRoom0 (mMiss σ k pr) z) true + z ∨ (τ 0 = mRoom0 (mMiss σ k pr) z ∧ mRun (fun s => gI s 3 < used s + z) N τ)) ∧ (cFetch σ k z pr lf).1 = (mFetch σ k z pr lf (τ N)).1 ∧ Cq (cFetch σ k z pr lf).2 (mFetch σ k z pr lf (τ N)).2 ∧ V (n + 1) (mFetch σ k z pr lf (τ N)).2 ∧ gI (mFetch σ k z pr lf (τ N)).2 20 = gI σ 20 := by
  obtain ⟨N, τ, h1, h2, h3⟩ := room_ok (mMiss_V hV k pr) hz
  refine ⟨N, τ, h1, ?_⟩
  have ec : (gB σ 1 k && !ovr σ k && decide (gS σ 3 k = z)) = (gB σ 1 k && !ended σ k && decide (gS σ 3 k = z)) := by
    unfold ovr
    cases gB σ 1 k <;> rfl
  unfold cFetch mFetch
  rw [ec]
  by_cases c : (gB σ 1 k && !ended σ k && decide (gS σ 3 k = z)) = true
  · rw [if_pos c, if_pos c]
    simp only [Bool.and_eq_true, decide_eq_true_eq] at c
    obtain ⟨⟨c1, -⟩, c3⟩ := c
    refine ⟨rfl, ?_, ?_, rfl⟩
    · have g0 : Cq (uS σ 4 k (gS σ 4 k + 1)) (uS (uS σ 4 k (gS σ 4 k + 1)) 9 k pr) := Cq_9 (Cq.rf _) k pr
      have e3 : gS (uS σ 4 k (gS σ 4 k + 1)) 3 k = z := by rw [gS_u, if_neg (by decide), c3]
      have g1 := Cq_setW g0 (k := k) (pr := pr) (by rw [gS_u, if_pos rfl, if_pos rfl]) (by rw [e3]; exact hz.1)
      have e4 : gS (cSetW (uS σ 4 k (gS σ 4 k + 1)) k pr) 3 k = z := e3
      show Cq (cHit σ k pr) (mHit σ k z pr)
      unfold cHit mHit
      generalize cSetW (uS σ 4 k (gS σ 4 k + 1)) k pr = P at g1 e4 ⊢
      generalize mSetW (uS (uS σ 4 k (gS σ 4 k + 1)) 9 k pr) k = R at g1 ⊢
      show Cq (uL (uL (uI P 6 (gI P 6 + 1)) 8 (gL P 8 + (gS P 3 k).toInt64)) 9 (gL P 9 + pr.toInt64)) (uL (uL (uI R 6 (gI R 6 + 1)) 8 (gL R 8 + z.toInt64)) 9 (gL R 9 + pr.toInt64))
      rw [e4]
      exact Cq_L (Cq_L (Cq_I g1 6 (by rw [g1.1 6 (by decide)])) 8 (by rw [L_e g1.2.1 8])) 9 (by rw [L_e g1.2.1 9])
    · have g2 : V (n + 1) (mSetW (uS (uS σ 4 k (gS σ 4 k + 1)) 9 k pr) k) := setW_V hV hn rfl rfl (by rw [gS_u, if_neg (by decide), gS_u, if_neg (by decide), c3]; exact hz) (fun i _ _ b => ⟨b, by rw [gS_u, if_neg (by decide), gS_u, if_neg (by decide)], rfl⟩) (fun i => by rw [gS_u, if_neg (by decide), gS_u, if_neg (by decide)])
      show V (n + 1) (mHit σ k z pr)
      unfold mHit
      generalize mSetW (uS (uS σ 4 k (gS σ 4 k + 1)) 9 k pr) k = R at g2 ⊢
      exact g2.of (fun _ _ b => ⟨b, rfl, rfl⟩) g2.2.1 rfl (fun _ => rfl)
  · rw [if_neg c, if_neg c]
    have el : cLetIn (cMiss σ pr) k z pr lf = if gI (mMiss σ k pr) 3 < z then (false, mMiss σ k pr) else if decide (gI (mMiss σ k pr) 4 < z) && !cLate σ k then (false, mMiss σ k pr) else if (cRoom (mMiss σ k pr) z).1 then (true, cFill (cRoom (mMiss σ k pr) z).2 k z pr lf) else (false, (cRoom (mMiss σ k pr) z).2) := by
      have e9 : cLate (cMiss σ pr) k = cLate σ k := rfl
      unfold cLetIn
      rw [mMiss_eq, e9]
    rw [el]
    have hM := mMiss_V hV k pr
    have eM : gI (mMiss σ k pr) 20 = gI σ 20 := rfl
    generalize mMiss σ k pr = M at h1 h2 h3 hM eM ⊢
    by_cases c1 : gI M 3 < z
    · rw [if_pos c1, if_pos c1]; exact ⟨rfl, Cq.rf _, hM.up (Nat.le_succ n), eM⟩
    · rw [if_neg c1, if_neg c1]
      by_cases c2 : (decide (gI M 4 < z) && !cLate σ k) = true
      · rw [if_pos c2, if_pos c2]; exact ⟨rfl, Cq.rf _, hM.up (Nat.le_succ n), eM⟩
      · rw [if_neg c2, if_neg c2, h2]
        rw [h2] at h3
        have e20 := room_20 M z
        rw [h2] at e20
        by_cases c3 : gI (mRoom0 M z) 3 < mPin (mRoom0 M z) true + z
        · rw [if_pos c3] at h3 e20 ⊢
          rw [if_pos c3]
          exact ⟨rfl, Cq.rf _, h3.up (Nat.le_succ n), e20.trans eM⟩
        · rw [if_neg c3] at h3 e20 ⊢
          rw [if_neg c3]
          have h3 : V n (τ N) := h3
          refine ⟨rfl, ?_, ?_, (show gI (τ N) 20 = _ from e20.trans eM)⟩
          · show Cq (cFill (τ N) k z pr lf) (mFill (τ N) k z pr lf)
            generalize τ N = X
            unfold cFill mFill
            refine Cq_setW (Cq_S (Cq_S (Cq_9 (Cq.rf _) k pr) 4 k rfl (by decide)) 5 k rfl (by decide)) ?_ ?_
            · rw [gS_u, if_neg (by decide), gS_u, if_neg (by decide), gS_u, if_pos rfl, if_pos rfl]
            · rw [gS_u, if_neg (by decide), gS_u, if_neg (by decide), gS_u, if_pos rfl, if_pos rfl]; exact hz.1
          · show V (n + 1) (mFill (τ N) k z pr lf)
            generalize τ N = X at h3 ⊢
            unfold mFill
            refine setW_V h3 hn rfl rfl ?_ (fun i _ hne b => ?_) (fun i => ?_)
            · rw [gS_u, if_neg (by decide), gS_u, if_neg (by decide), gS_u, if_neg (by decide), gS_u, if_pos rfl, if_pos rfl]; exact hz
            · have b : gB (uB (uB X 1 k true) 2 k false) 1 i = true := b
              rw [gB_u, if_neg (by decide), gB_u, if_pos rfl, if_neg hne] at b
              exact ⟨b, by rw [gS_u, if_neg (by decide), gS_u, if_neg (by decide), gS_u, if_neg (by decide), gS_u, if_pos rfl, if_neg hne]; rfl, rfl⟩
            · rw [gS_u, if_neg (by decide), gS_u, if_neg (by decide), gS_u, if_neg (by decide), gS_u, if_neg (by decide)]; rfl
end
section
/-! ===== the law's row of the order, as a list ===== -/
def Row (ρ : Nat → Int32) (γ : Nat) (L : List Nat) : Prop := γ = L.length ∧ ∀ j x, L[j]? = some x → ρ j = nI x
def SR (σ : St) (P : Nat → Bool) (L : List Nat) : Prop := (∀ k, k ∈ L ↔ k < 32 ∧ P k = true) ∧ L.Pairwise (fun i j => bef σ i j = true)
def OK (σ : St) (ρ : Nat → Int32) (γ : Nat) : Prop := ∃ L, Row ρ γ L ∧ SR σ (inO σ) L
abbrev wo (t : Nat) (L : List Nat) : List Nat := L.filter (fun x => decide (x ≠ t))
theorem pg_one {a : Nat} : ∀ {L : List Nat}, L.Pairwise (fun i j => i ≠ j) → L.length ≤ (wo a L).length + 1
  | [], _ => Nat.zero_le _
  | x :: L, h => by
    have h2 := List.pairwise_cons.mp h
    by_cases q : x = a
    · subst q
      have h3 : wo x L = L := List.filter_eq_self.mpr (fun y hy => decide_eq_true (fun e => h2.1 y hy e.symm))
      have h4 : wo x (x :: L) = wo x L := List.filter_cons_of_neg (by simp)
      rw [h4, h3]
      exact Nat.le_refl _
    · have h4 : wo a (x :: L) = x :: wo a L := List.filter_cons_of_pos (decide_eq_true q)
      have h5 := pg_one (a := a) h2.2
      rw [h4]
      simp only [List.length_cons]
      omega
theorem pg_len : ∀ {n : Nat} {L : List Nat}, L.Pairwise (fun i j => i ≠ j) → (∀ x, x ∈ L → x < n) → L.length ≤ n
  | 0, L, _, h => by
    cases L with
    | nil => exact Nat.le_refl _
    | cons x L => exact absurd (h x List.mem_cons_self) (Nat.not_lt_zero _)
  | n + 1, L, hp, h => by
    have h1 := pg_one (a := n) hp
    have h2 := pg_len (n := n) (L := wo n L) (List.Pairwise.filter _ hp) (fun x hx => by
      have h3 := List.mem_filter.mp hx
      have h4 := h x h3.1
      have h5 : x ≠ n := of_decide_eq_true h3.2
      omega)
    omega
theorem sr_lt {σ : St} {P : Nat → Bool} {L : List Nat} (h : SR σ P L) {x : Nat} (hx : x ∈ L) : x < 32 := ((h.1 x).mp hx).1
theorem sr_len {σ : St} {P : Nat → Bool} {L : List Nat} (h : SR σ P L) : L.length ≤ 32 :=
  pg_len (List.Pairwise.imp (fun {a b} (q : bef σ a b = true) (e : a = b) => by
    subst e
    rw [bef_irr] at q
    cases q) h.2) (fun x hx => sr_lt h hx)
theorem sr_flt {σ : St} {P : Nat → Bool} {L : List Nat} (h : SR σ P L) (p : Nat → Bool) : SR σ (fun k => P k && p k) (L.filter p) := by
  refine ⟨fun k => ?_, List.Pairwise.filter _ h.2⟩
  show _ ↔ k < 32 ∧ (P k && p k) = true
  rw [List.mem_filter, h.1 k, Bool.and_eq_true]
  exact ⟨fun q => ⟨q.1.1, q.1.2, q.2⟩, fun q => ⟨⟨q.1, q.2.1⟩, q.2.2⟩⟩
theorem sr_cg {σ τ : St} {P Q : Nat → Bool} {L : List Nat} (h : SR σ P L) (h1 : ∀ k, k < 32 → P k = Q k) (h2 : ∀ i j, i < 32 → j < 32 → P i = true → P j = true → bef σ i j = true → bef τ i j = true) : SR τ Q L := by
  refine ⟨fun k => ?_, List.Pairwise.imp_of_mem (fun {a b} ha hb q => h2 a b (sr_lt h ha) (sr_lt h hb) ((h.1 a).mp ha).2 ((h.1 b).mp hb).2 q) h.2⟩
  rw [h.1 k]
  exact ⟨fun q => ⟨q.1, by rw [← h1 k q.1]; exact q.2⟩, fun q => ⟨q.1, by rw [h1 k q.1]; exact q.2⟩⟩
theorem sr_ins {σ : St} {P : Nat → Bool} {A B : List Nat} {t : Nat} (h : SR σ P (A ++ B)) (ht : t < 32) (hA : ∀ x, x ∈ A → bef σ x t = true) (hB : ∀ x, x ∈ B → bef σ t x = true) : SR σ (fun k => P k || decide (k = t)) (A ++ t :: B) := by
  have hp := List.pairwise_append.mp h.2
  refine ⟨fun k => ?_, List.pairwise_append.mpr ⟨hp.1, List.pairwise_cons.mpr ⟨hB, hp.2.1⟩, fun a ha b hb => ?_⟩⟩
  · have h1 := h.1 k
    rw [List.mem_append] at h1
    show _ ↔ k < 32 ∧ (P k || decide (k = t)) = true
    rw [List.mem_append, List.mem_cons, Bool.or_eq_true, decide_eq_true_eq]
    constructor
    · intro q
      rcases q with q | q | q
      · have h2 := h1.mp (Or.inl q)
        exact ⟨h2.1, Or.inl h2.2⟩
      · exact ⟨by rw [q]; exact ht, Or.inr q⟩
      · have h2 := h1.mp (Or.inr q)
        exact ⟨h2.1, Or.inl h2.2⟩
    · intro q
      rcases q with ⟨q1, q | q⟩
      · rcases h1.mpr ⟨q1, q⟩ with g | g
        · exact Or.inl g
        · exact Or.inr (Or.inr g)
      · exact Or.inr (Or.inl q)
  · rcases List.mem_cons.mp hb with q | q
    · rw [q]; exact hA a ha
    · exact hp.2.2 a ha b q
theorem row_at {ρ : Nat → Int32} {γ : Nat} {L : List Nat} (h : Row ρ γ L) {j : Nat} (hj : j < γ) : ∃ x, L[j]? = some x ∧ ρ j = nI x := by
  have h1 : j < L.length := by rw [← h.1]; exact hj
  exact ⟨L[j], List.getElem?_eq_getElem h1, h.2 j _ (List.getElem?_eq_getElem h1)⟩
/-! ===== one thing is taken out ===== -/
def TF (t : Nat) (L : List Nat) (k : Nat) : List Nat := wo t (L.take k)
def TI (ρ ρ' : Nat → Int32) (t : Nat) (L : List Nat) (k : Nat) : Prop := (∀ j, k ≤ j → ρ' j = ρ j) ∧ ∀ j x, (TF t L k)[j]? = some x → ρ' j = nI x
theorem tf_le (t : Nat) (L : List Nat) (k : Nat) : (TF t L k).length ≤ k := by
  have h1 : (TF t L k).length ≤ (L.take k).length := List.length_filter_le _ _
  rw [List.length_take] at h1
  omega
theorem tf_s {t : Nat} {L : List Nat} {k y : Nat} (hy : L[k]? = some y) : TF t L (k + 1) = TF t L k ++ (if y = t then [] else [y]) := by
  obtain ⟨hk, e⟩ := List.getElem?_eq_some_iff.mp hy
  unfold TF wo
  rw [List.take_succ_eq_append_getElem hk, List.filter_append, e]
  by_cases q : y = t
  · rw [if_pos q, List.filter_cons_of_neg (by simp [q])]
    rfl
  · rw [if_neg q, List.filter_cons_of_pos (by simp [q])]
    rfl
theorem ti_0 (ρ : Nat → Int32) (t : Nat) (L : List Nat) : TI ρ ρ t L 0 := ⟨fun _ _ => rfl, fun j x h => by simp [TF, wo] at h⟩
theorem ti_s {ρ ρ' : Nat → Int32} {t : Nat} {L : List Nat} {k y : Nat} (h : TI ρ ρ' t L k) (hy : L[k]? = some y) : TI ρ (upd ρ' (TF t L k).length (nI y)) t L (k + 1) := by
  have hle := tf_le t L k
  refine ⟨fun j hj => ?_, fun j x hx => ?_⟩
  · rw [pk_un (by omega)]
    exact h.1 j (by omega)
  · rw [tf_s hy] at hx
    rcases Nat.lt_or_ge j (TF t L k).length with q | q
    · rw [List.getElem?_append_left q] at hx
      rw [pk_un (by omega)]
      exact h.2 j x hx
    · rw [List.getElem?_append_right q] at hx
      by_cases e : y = t
      · rw [if_pos e] at hx
        cases hx
      · rw [if_neg e] at hx
        have h9 : j - (TF t L k).length < 1 := (List.getElem?_eq_some_iff.mp hx).1
        have h0 : j - (TF t L k).length = 0 := by omega
        rw [h0] at hx
        have hj : j = (TF t L k).length := by omega
        have hxy : y = x := Option.some.inj hx
        rw [hj, pk_us, hxy]
theorem ti_at {ρ ρ' : Nat → Int32} {t : Nat} {L : List Nat} {k y : Nat} (h : TI ρ ρ' t L k) (hR : ∀ j x, L[j]? = some x → ρ j = nI x) (hy : L[k]? = some y) : ρ' k = nI y ∧ upd ρ' (TF t L k).length (nI y) k = nI y := by
  have h1 : ρ' k = nI y := by rw [h.1 k (Nat.le_refl k)]; exact hR k y hy
  refine ⟨h1, ?_⟩
  by_cases q : k = (TF t L k).length
  · rw [← q, pk_us]
  · rw [pk_un q]; exact h1
theorem ti_e {ρ ρ' : Nat → Int32} {t : Nat} {L : List Nat} (h : TI ρ ρ' t L L.length) : Row ρ' (TF t L L.length).length (wo t L) := by
  have e : TF t L L.length = wo t L := by
    unfold TF
    rw [List.take_length]
  refine ⟨by rw [e], fun j x hx => h.2 j x ?_⟩
  rw [e]
  exact hx
theorem tf_n {t : Nat} {L : List Nat} {k y : Nat} (hy : L[k]? = some y) : (TF t L (k + 1)).length = (TF t L k).length + (if y = t then 0 else 1) := by
  rw [tf_s hy, List.length_append]
  by_cases q : y = t
  · rw [if_pos q, if_pos q]; rfl
  · rw [if_neg q, if_neg q]; rfl
/-! ===== one thing is put in ===== -/
def PI (σ : St) (ρ ρ' : Nat → Int32) (t : Nat) (L : List Nat) (p : Nat) : Prop := (∀ j, j < p → ρ' j = ρ j) ∧ (∀ j, p ≤ j → j < L.length → ρ' (j + 1) = ρ j) ∧ ∀ x, x ∈ L.drop p → bef σ t x = true
theorem pi_0 (σ : St) (ρ : Nat → Int32) (t : Nat) (L : List Nat) : PI σ ρ ρ t L L.length := ⟨fun _ _ => rfl, fun j h1 h2 => absurd h2 (by omega), fun x hx => by
  rw [List.drop_length] at hx
  cases hx⟩
theorem pi_s {σ : St} {ρ ρ' : Nat → Int32} {t : Nat} {L : List Nat} {p y : Nat} (h : PI σ ρ ρ' t L (p + 1)) (hy : L[p]? = some y) (hb : bef σ t y = true) : PI σ ρ (upd ρ' (p + 1) (ρ' p)) t L p := by
  refine ⟨fun j hj => ?_, fun j h1 h2 => ?_, fun x hx => ?_⟩
  · rw [pk_un (by omega)]
    exact h.1 j (by omega)
  · by_cases e : j = p
    · subst e
      rw [pk_us]
      exact h.1 j (by omega)
    · rw [pk_un (by omega)]
      exact h.2.1 j (by omega) h2
  · obtain ⟨hk, e⟩ := List.getElem?_eq_some_iff.mp hy
    rw [List.drop_eq_getElem_cons hk, e] at hx
    rcases List.mem_cons.mp hx with q | q
    · rw [q]; exact hb
    · exact h.2.2 x q
theorem pi_e {σ : St} {ρ ρ' : Nat → Int32} {t : Nat} {L : List Nat} {p : Nat} {P : Nat → Bool} (h : PI σ ρ ρ' t L p) (hp : p ≤ L.length) (hR : ∀ j x, L[j]? = some x → ρ j = nI x) (hS : SR σ P L) (ht : t < 32) (hst : ∀ x, x ∈ L → gT σ 7 x ≠ gT σ 7 t) (hb : p = 0 ∨ ∃ q y, p = q + 1 ∧ L[q]? = some y ∧ bef σ t y = false) : ∃ L', Row (upd ρ' p (nI t)) (L.length + 1) L' ∧ SR σ (fun k => P k || decide (k = t)) L' := by
  have hlen : (L.take p).length = p := by rw [List.length_take]; omega
  refine ⟨L.take p ++ t :: L.drop p, ⟨?_, fun j x hx => ?_⟩, ?_⟩
  · rw [List.length_append, List.length_cons, hlen, List.length_drop]
    omega
  · rcases Nat.lt_or_ge j p with q | q
    · rw [List.getElem?_append_left (by omega), List.getElem?_take_of_lt q] at hx
      rw [pk_un (by omega), h.1 j q]
      exact hR j x hx
    · rw [List.getElem?_append_right (by omega), hlen] at hx
      by_cases e : j = p
      · subst e
        rw [Nat.sub_self] at hx
        have e2 : t = x := Option.some.inj hx
        rw [pk_us, e2]
      · obtain ⟨i, rfl⟩ : ∃ i, j = i + 1 := ⟨j - 1, by omega⟩
        rw [show i + 1 - p = (i - p) + 1 by omega, List.getElem?_cons_succ, List.getElem?_drop, show p + (i - p) = i by omega] at hx
        rw [pk_un (by omega), h.2.1 i (by omega) (List.getElem?_eq_some_iff.mp hx).1]
        exact hR i x hx
  · have h0 : SR σ P (L.take p ++ L.drop p) := by rw [List.take_append_drop]; exact hS
    refine sr_ins h0 ht (fun x hx => ?_) h.2.2
    rcases hb with e | ⟨q, y, e, hy, hby⟩
    · subst e
      rw [List.take_zero] at hx
      cases hx
    · subst e
      obtain ⟨hk, ey⟩ := List.getElem?_eq_some_iff.mp hy
      have hyt : bef σ y t = true := by
        have hne := hst y (List.mem_of_getElem? hy)
        have hne2 : (gT σ 7 y).toInt ≠ (gT σ 7 t).toInt := fun q => hne (Int64.toInt_inj.mp q)
        have h2 : ¬ (bef σ t y = true) := by rw [hby]; decide
        rw [bef_iff] at h2 ⊢
        omega
      rw [List.take_succ_eq_append_getElem hk, ey] at hx
      rcases List.mem_append.mp hx with g | g
      · have hpw := hS.2
        have e3 : L.take q ++ y :: L.drop (q + 1) = L := by rw [← ey, ← List.drop_eq_getElem_cons hk, List.take_append_drop]
        rw [← e3] at hpw
        exact bef_tr ((List.pairwise_append.mp hpw).2.2 x g y List.mem_cons_self) hyt
      · rw [List.mem_singleton.mp g]; exact hyt
/-! ===== the row's places are those of the order ===== -/
theorem sr_bef {σ : St} {P : Nat → Bool} {L : List Nat} {i j x y : Nat} (h : SR σ P L) (hi : L[i]? = some x) (hj : L[j]? = some y) (hij : i < j) : bef σ x y = true := by
  obtain ⟨h1, e1⟩ := List.getElem?_eq_some_iff.mp hi
  obtain ⟨h2, e2⟩ := List.getElem?_eq_some_iff.mp hj
  have h3 : bef σ L[i] L[j] = true := List.pairwise_iff_getElem.mp h.2 i j h1 h2 hij
  rw [e1, e2] at h3
  exact h3
theorem sr_nxt {σ : St} {L : List Nat} {m : Nat} {b : Option Nat} (hO : Ord σ) (h : SR σ (inO σ) L) (hb : ∀ i x, L[i]? = some x → (beh σ b x = true ↔ m ≤ i)) : nxt σ b = L[m]? := by
  generalize e : nxt σ b = o
  cases o with
  | none =>
    cases e2 : L[m]? with
    | none => rfl
    | some x =>
      have hx := (h.1 x).mp (List.mem_of_getElem? e2)
      have h1 := nxt_n hO e hx.1
      rw [hx.2, (hb m x e2).mpr (Nat.le_refl _)] at h1
      cases h1
  | some k =>
    obtain ⟨h1, h2, h3, h4⟩ := nxt_k hO e
    obtain ⟨i, hi⟩ := List.mem_iff_getElem?.mp ((h.1 k).mpr ⟨h1, h2⟩)
    have hmi := (hb i k hi).mp h3
    rcases Nat.eq_or_lt_of_le hmi with q | q
    · rw [q]; exact hi.symm
    · obtain ⟨hil, -⟩ := List.getElem?_eq_some_iff.mp hi
      have hm : m < L.length := by omega
      obtain ⟨y, e3⟩ : ∃ y, L[m]? = some y := ⟨_, List.getElem?_eq_getElem hm⟩
      have hx := (h.1 y).mp (List.mem_of_getElem? e3)
      have h5 := h4 y hx.1 (by simp [hx.2, (hb m y e3).mpr (Nat.le_refl _)])
      rw [sr_bef h e3 hi q] at h5
      cases h5
theorem nth_row {σ : St} {L : List Nat} (hO : Ord σ) (h : SR σ (inO σ) L) : ∀ j, nth σ j = L[j]? := by
  intro j
  induction j with
  | zero =>
    rw [nth_0]
    exact sr_nxt (m := 0) hO h (fun i x _ => ⟨fun _ => Nat.zero_le _, fun _ => rfl⟩)
  | succ j ih =>
    cases e : L[j]? with
    | none =>
      rw [e] at ih
      rw [nth_n ih]
      have h1 : L.length ≤ j := List.getElem?_eq_none_iff.mp e
      exact (List.getElem?_eq_none (by omega)).symm
    | some b =>
      rw [e] at ih
      rw [nth_k ih]
      refine sr_nxt (m := j + 1) hO h (fun i x hx => ⟨fun q => ?_, fun q => sr_bef h e hx q⟩)
      have q : bef σ b x = true := q
      rcases Nat.lt_or_ge j i with g | g
      · exact g
      · rcases Nat.eq_or_lt_of_le g with g2 | g2
        · subst g2
          rw [e] at hx
          cases hx
          rw [bef_irr] at q
          cases q
        · rw [bef_as (sr_bef h hx e g2)] at q
          cases q
theorem row_0 {σ : St} {L : List Nat} (hO : Ord σ) (h : SR σ (inO σ) L) : nxt σ none = L[0]? := by
  rw [← nth_0]
  exact nth_row hO h 0
def plI (L : List Nat) (t : Nat) : Nat → Int32
  | 0 => -1
  | n + 1 => if L[n]? = some t then nI n else plI L t n
theorem plI_s (L : List Nat) (t n : Nat) : plI L t (n + 1) = if L[n]? = some t then nI n else plI L t n := rfl
theorem pl_ok {σ : St} {L : List Nat} {t : Nat} (hO : Ord σ) (h : SR σ (inO σ) L) (ht : t < 32) : plI L t L.length = cPlace σ t := by
  rw [cPlace_eq ht, mPlace_eq ht]
  have huniq : ∀ j, L[j]? = some t → j = rank σ t := fun j hj => by
    rcases nth_sp hO j with ⟨k, e, hk, ok, rk⟩ | ⟨e, _⟩
    · rw [nth_row hO h j, hj] at e
      cases e
      exact rk.symm
    · rw [nth_row hO h j, hj] at e
      cases e
  cases ho : inO σ t with
  | false =>
    rw [if_neg (by decide)]
    have key : ∀ n, plI L t n = -1 := fun n => by
      induction n with
      | zero => rfl
      | succ n ih =>
        rw [plI_s, if_neg, ih]
        intro q
        have h9 := ((h.1 t).mp (List.mem_of_getElem? q)).2
        rw [ho] at h9
        cases h9
    exact key _
  | true =>
    rw [if_pos rfl]
    obtain ⟨i, hi⟩ := List.mem_iff_getElem?.mp ((h.1 t).mpr ⟨ht, ho⟩)
    have ei := huniq i hi
    rw [← ei]
    have key : ∀ n, i < n → plI L t n = nI i := fun n => by
      induction n with
      | zero => intro q; exact absurd q (Nat.not_lt_zero _)
      | succ n ih =>
        intro q
        rw [plI_s]
        by_cases g : L[n]? = some t
        · have en : n = i := by rw [huniq n g, ei]
          rw [if_pos g, en]
        · rw [if_neg g]
          have hne : n ≠ i := fun z => by
            rw [z] at g
            exact g hi
          exact ih (by omega)
    exact key _ (List.getElem?_eq_some_iff.mp hi).1
end
section
/-! ===== what the law's own methods do to a state, and that it is what the class does ===== -/
section XG
variable {p : Program} {l : Launch} {e : Env} {R : Room} {s : State} {m : MethodId} {args : Array Value} {below : List Frame} {meth : Method} {c : Code} {H : Heap} {locs : List Loc} {cells slots : Nat} {Q : State → Prop}
variable {cc : ByteArray} {pc : Nat} {ls : Array Slot} {rest : List Value}
theorem x_gt (hx : p.tables.exec = Jvm.exec) (hb : c.code = cc) {x y : Int64} {off : Int} {tgt : Nat} (hd0 : decode cc pc = .ok (.lcmp, 1)) (hdg : decode cc (pc + 1) = .ok (.ifCond .gt off, 3)) (ht : ((pc + 1 : Nat) : Int) + off = (tgt : Int))
    (kt : y < x → W p l e R s m args below meth c H locs cells slots Q (F0 m tgt ls rest)) (kf : ¬ y < x → W p l e R s m args below meth c H locs cells slots Q (F0 m (pc + 1 + 3) ls rest)) : W p l e R s m args below meth c H locs cells slots Q (F0 m pc ls (.long y :: .long x :: rest)) :=
  W.lcmp hx hb hd0 (lv_if_gt hx hb hdg ht (fun h => kt (lgc_gt.mp h)) (fun h => kf (fun q => h (lgc_gt.mpr q))))
end XG
theorem en_f {σ : St} {k : Nat} (h : gI σ 1 < gS σ 5 k) : ended σ k = false := by
  unfold ended
  rw [decide_eq_true h]
  rfl
theorem en_t {σ : St} {k : Nat} (h : ¬ gI σ 1 < gS σ 5 k) : ended σ k = true := by
  unfold ended
  rw [decide_eq_false h]
  rfl
theorem pn_t {σ : St} {b : Bool} {i : Nat} (h1 : gB σ 2 i = true) (h2 : b = true ∨ ended σ i = false) : mPF σ b i = uF σ i := by
  unfold mPF uF ovr
  rw [h1]
  rcases h2 with h2 | h2
  · rw [h2]
    cases gB σ 1 i <;> rfl
  · rw [h2]
    cases gB σ 1 i <;> cases b <;> rfl
theorem pn_f {σ : St} {b : Bool} {i : Nat} (h : gB σ 2 i = false ∨ (b = false ∧ ended σ i = true)) : mPF σ b i = 0 := by
  unfold mPF ovr
  rcases h with h | ⟨h1, h2⟩
  · rw [h]
    cases gB σ 1 i <;> rfl
  · rw [h1, h2]
    cases gB σ 1 i <;> cases gB σ 2 i <;> rfl
theorem bef_n {σ : St} {t y : Nat} (h : ¬ (gT σ 6 t < gT σ 6 y ∨ (gT σ 6 t = gT σ 6 y ∧ gT σ 7 t < gT σ 7 y))) : bef σ t y = false := by
  cases hb : bef σ t y with
  | false => rfl
  | true =>
    unfold bef at hb
    simp only [Bool.or_eq_true, Bool.and_eq_true, decide_eq_true_eq] at hb
    exact absurd hb h
theorem bef_y {σ : St} {t y : Nat} (h : gT σ 6 t < gT σ 6 y ∨ (gT σ 6 t = gT σ 6 y ∧ gT σ 7 t < gT σ 7 y)) : bef σ t y = true := by
  unfold bef
  simp only [Bool.or_eq_true, Bool.and_eq_true, decide_eq_true_eq]
  exact h
theorem uF_pos {σ : St} {k : Nat} (h : Sz σ) (hk : k < 32) : 0 < uF σ k ↔ gB σ 1 k = true := by
  unfold uF
  cases hb : gB σ 1 k with
  | false =>
    rw [if_neg (by decide)]
    exact ⟨fun q => absurd q (by decide), fun q => by cases q⟩
  | true =>
    rw [if_pos rfl]
    refine ⟨fun _ => rfl, fun _ => ?_⟩
    have h1 := h k hk hb
    rw [Int32.lt_iff_toInt_lt, i0]
    omega
theorem uF_z {σ : St} {k : Nat} (h : Sz σ) (hk : k < 32) : uF σ k = 0 ↔ gB σ 1 k = false := by
  unfold uF
  cases hb : gB σ 1 k with
  | false =>
    rw [if_neg (by decide)]
    exact ⟨fun _ => rfl, fun _ => rfl⟩
  | true =>
    rw [if_pos rfl]
    refine ⟨fun q => ?_, fun q => by cases q⟩
    have h1 := h k hk hb
    rw [q, i0] at h1
    omega
theorem St_x {X Y : St} (h1 : ∀ j, gI X j = gI Y j) (h2 : ∀ j, gL X j = gL Y j) (h3 : ∀ j i, gS X j i = gS Y j i) (h4 : ∀ j i, gT X j i = gT Y j i) (h5 : ∀ j i, gB X j i = gB Y j i) : X = Y := by
  obtain ⟨a, b, c, d, e⟩ := X
  obtain ⟨a', b', c', d', e'⟩ := Y
  have e1 : a = a' := funext h1
  have e2 : b = b' := funext h2
  have e3 : c = c' := funext fun j => funext fun i => h3 j i
  have e4 : d = d' := funext fun j => funext fun i => h4 j i
  have e5 : e = e' := funext fun j => funext fun i => h5 j i
  rw [e1, e2, e3, e4, e5]
def lSetW (σ : St) (k : Nat) (pr : Int32) : St :=
  uT (uL (uT σ 6 k (gL σ 2 + 1000 * pr.toInt64 * (gS σ 4 k).toInt64 / (uF σ k).toInt64)) 5 (gL σ 5 + 1)) 7 k (gL σ 5 + 1)
theorem lSetW_eq {σ : St} {k : Nat} (pr : Int32) (hb : gB σ 1 k = true) (hz : 1 ≤ (gS σ 3 k).toInt) : lSetW σ k pr = cSetW σ k pr := by
  have e1 : ¬ gS σ 3 k < 1 := by
    rw [Int32.lt_iff_toInt_lt]
    have : (1 : Int32).toInt = 1 := by decide
    omega
  have e2 : uF σ k = gS σ 3 k := by unfold uF; rw [if_pos hb]
  have e3 : 1000 * pr.toInt64 * (gS σ 4 k).toInt64 = 1000 * (gS σ 4 k).toInt64 * pr.toInt64 := by rw [Int64.mul_assoc, Int64.mul_comm pr.toInt64, ← Int64.mul_assoc]
  unfold lSetW cSetW
  rw [if_neg e1, e2, e3]
  refine St_x (fun _ => rfl) (fun _ => rfl) (fun _ _ => rfl) (fun j i => ?_) (fun _ _ => rfl)
  simp only [gT_u, gT_UL]
  by_cases p : j = 6
  · subst p
    simp
  · by_cases p7 : j = 7
    · subst p7
      simp
    · simp [p, p7]
theorem bef_e {X Y : St} (h : ∀ j i, gT X j i = gT Y j i) (a b : Nat) : bef X a b = bef Y a b := by
  unfold bef
  rw [h, h, h, h]
theorem cl_l (τ : St) (k : Nat) (L : List Nat) : wo k (L.filter (fun x => gB τ 1 x)) = L.filter (fun x => gB (uB τ 1 k false) 1 x) := by
  unfold wo
  rw [List.filter_filter]
  refine congrArg (fun q => List.filter q L) (funext fun x => ?_)
  rw [gB_up, if_pos rfl]
  by_cases q : x = k
  · simp [q]
  · simp [q]
theorem cl_0 {σ : St} {L : List Nat} (h : SR σ (inO σ) L) : L.filter (fun x => gB (rmS σ 0) 1 x) = L :=
  List.filter_eq_self.mpr (fun x hx => (inO_B ((h.1 x).mp hx).2).1)
theorem cl_ok {σ : St} {L : List Nat} (h : SR σ (inO σ) L) : SR (rmO σ) (inO (rmO σ)) (L.filter (fun x => gB (rmS σ 32) 1 x)) := by
  refine sr_cg (sr_flt h (fun x => gB (rmS σ 32) 1 x)) (fun k hk => ?_) (fun i j _ _ _ _ q => by rw [bef_e (rmO_T σ)]; exact q)
  unfold inO
  rw [rmO_B2 σ 2 k (by decide), rmO_B1 σ hk, (rmS_f σ 32).2.2.2.2.2 k]
  cases gB σ 1 k <;> cases gB σ 2 k <;> simp [hk]
theorem sr_rm {σ X : St} {L : List Nat} {k : Nat} (h : SR σ (inO σ) L) (hT : ∀ j i, gT X j i = gT σ j i) (hB : ∀ j i, gB X j i = gB (uB σ 1 k false) j i) : SR X (inO X) (wo k L) := by
  refine sr_cg (sr_flt h (fun x => decide (x ≠ k))) (fun i _ => ?_) (fun i j _ _ _ _ q => by rw [bef_e hT]; exact q)
  unfold inO
  rw [hB, hB, gB_up, gB_up, if_pos rfl, if_neg (show ¬ (2 : Nat) = 1 by decide)]
  by_cases q : i = k
  · simp [q]
  · simp [q]
theorem T_lS {X : St} {k : Nat} {pr : Int32} {i : Nat} (h : i ≠ k) (a : Nat) : gT (lSetW X k pr) a i = gT X a i := by
  unfold lSetW
  simp only [gT_u, gT_UL, if_neg h]
  by_cases p : a = 7
  · subst p
    simp
  · by_cases p6 : a = 6
    · subst p6
      simp
    · simp [p, p6]
theorem sr_cnt {X : St} {P : Nat → Bool} {L : List Nat} {k : Nat} {pr : Int32} {n : Nat} (h : SR X P L) (hn : n < 2 ^ 30) (h5 : 0 ≤ (gL X 5).toInt ∧ (gL X 5).toInt ≤ (n : Int)) (h7 : ∀ x, x ∈ L → (gT X 7 x).toInt ≤ (gL X 5).toInt) : SR (lSetW X k pr) (fun x => P x && decide (x ≠ k)) (wo k L) ∧ ∀ x, x ∈ wo k L → gT (lSetW X k pr) 7 x ≠ gT (lSetW X k pr) 7 k := by
  refine ⟨sr_cg (sr_flt h (fun x => decide (x ≠ k))) (fun _ _ => rfl) (fun i j _ _ hi hj q => ?_), fun x hx => ?_⟩
  · simp only [Bool.and_eq_true, decide_eq_true_eq] at hi hj
    unfold bef
    rw [T_lS hi.2, T_lS hj.2, T_lS hi.2, T_lS hj.2]
    exact q
  · have h1 := List.mem_filter.mp hx
    have h2 : x ≠ k := of_decide_eq_true h1.2
    rw [T_lS h2]
    have e1 : gT (lSetW X k pr) 7 k = gL X 5 + 1 := by
      unfold lSetW
      rw [gT_u, if_pos rfl, if_pos rfl]
    have o1 : (1 : Int64).toInt = 1 := by decide
    have e2 : (gL X 5 + 1).toInt = (gL X 5).toInt + 1 := by
      rw [l_add (by omega) (by omega), o1]
    have h3 := h7 x h1.1
    rw [e1]
    intro z
    have z2 : (gT X 7 x).toInt = (gL X 5 + 1).toInt := by rw [z]
    omega
theorem mLv1_V {n : Nat} {σ : St} (h : V n σ) (k : Nat) : V n (mLv1 σ k) := h.of (fun i _ b => by
  have b : gB (uB σ 1 k false) 1 i = true := b
  rw [gB_up, if_pos rfl] at b
  by_cases q : i = k
  · rw [if_pos q] at b; cases b
  · rw [if_neg q] at b; exact ⟨b, rfl, rfl⟩) h.2.1 rfl (fun _ => rfl)
theorem V_cq {n : Nat} {X Y : St} (h : Cq X Y) (hV : V n Y) : V n X := by
  obtain ⟨h1, h2, h3, h4, h5⟩ := h
  obtain ⟨a1, a2, a3, a4, a5, a6⟩ := hV
  refine ⟨fun k hk b => ?_, by rw [h1 3 (by decide)]; exact a2, fun k hk b => ?_, by rw [L_e h2 5]; exact a4, fun i j hi hj bi bj e => ?_, fun k hk => by rw [h3 0 k (by decide)]; exact a6 k hk⟩
  · rw [B_e h5 1 k] at b
    rw [h3 3 k (by decide)]
    exact a1 k hk b
  · rw [B_e h5 1 k] at b
    rw [T_e h4 7 k, L_e h2 5]
    exact a3 k hk b
  · rw [B_e h5 1 i] at bi
    rw [B_e h5 1 j] at bj
    rw [T_e h4 7 i, T_e h4 7 j]
    exact a5 i j hi hj bi bj e
theorem fetch_V {n : Nat} {σ : St} {k : Nat} {z pr lf : Int32} (hV : V n σ) (hn : n < 2 ^ 30) (hk : k < 32) (hz : 1 ≤ z.toInt ∧ z.toInt ≤ 1000) : V (n + 1) (cFetch σ k z pr lf).2 := by
  obtain ⟨N, τ, -, -, h1, h2, -⟩ := fetch_ok (pr := pr) (lf := lf) hV hn hk hz
  exact V_cq h1 h2
theorem room_no {n : Nat} {ρ : St} {z : Int32} (hV : V n ρ) (hz : 1 ≤ z.toInt ∧ z.toInt ≤ 1000) (h : ¬ gI ρ 3 < used ρ + z) : cRoom ρ z = (true, ρ) := by
  have g1 := gt_sub (used_b hV.1) hV.2.1 hz
  have hr : ¬ gI ρ 3 - z < used ρ := fun q => h (g1.1.mpr q)
  unfold cRoom cHasRoom
  rw [if_pos (by simp [hr])]
theorem room_yes {n : Nat} {ρ : St} {z : Int32} (hV : V n ρ) (hz : 1 ≤ z.toInt ∧ z.toInt ≤ 1000) (h : gI ρ 3 < used ρ + z) : (gI (rmO ρ) 3 < mPin (rmO ρ) true + z → cRoom ρ z = (false, rmO ρ)) ∧ (¬ gI (rmO ρ) 3 < mPin (rmO ρ) true + z → ∃ (N : Nat) (τ : Nat → St), τ 0 = rmO ρ ∧ mRun (fun s => gI s 3 < used s + z) N τ ∧ cRoom ρ z = (true, τ N)) := by
  obtain ⟨N, τ, h1, h2, h3⟩ := room_ok hV hz
  have m0 : mRoom0 ρ z = rmO ρ := by unfold mRoom0; rw [if_pos h]
  rw [m0] at h1 h2
  refine ⟨fun q => ?_, fun q => ?_⟩
  · rw [h2, if_pos q]
  · rcases h1 with h1 | ⟨h1, h4⟩
    · exact absurd h1 q
    · exact ⟨N, τ, h1, h4, by rw [h2, if_neg q]⟩
theorem soon_ok {σ : St} {k : Nat} (h8 : -1 ≤ (gS σ 8 k).toInt ∧ (gS σ 8 k).toInt ≤ 1073741824) (h1 : 0 ≤ (gI σ 1).toInt ∧ (gI σ 1).toInt ≤ 1073741824) : (0 < gS σ 8 k + 1 ↔ ¬ gS σ 8 k = -1) ∧ (gI σ 1 - (gS σ 8 k + 1) + 1 < 51 ↔ ¬ 50 < gI σ 1 - gS σ 8 k) := by
  have o1 : (1 : Int32).toInt = 1 := by decide
  have om : (-1 : Int32).toInt = -1 := by decide
  have o51 : (51 : Int32).toInt = 51 := by decide
  have o50 : (50 : Int32).toInt = 50 := by decide
  have e1 : (gS σ 8 k + 1).toInt = (gS σ 8 k).toInt + 1 := by rw [i_add (by omega) (by omega), o1]
  have e2 : (gI σ 1 - (gS σ 8 k + 1)).toInt = (gI σ 1).toInt - ((gS σ 8 k).toInt + 1) := by rw [i_sub (by omega) (by omega), e1]
  have e3 : (gI σ 1 - (gS σ 8 k + 1) + 1).toInt = (gI σ 1).toInt - ((gS σ 8 k).toInt + 1) + 1 := by rw [i_add (by omega) (by omega), e2, o1]
  have e4 : (gI σ 1 - gS σ 8 k).toInt = (gI σ 1).toInt - (gS σ 8 k).toInt := i_sub (by omega) (by omega)
  rw [Int32.lt_iff_toInt_lt, Int32.lt_iff_toInt_lt, Int32.lt_iff_toInt_lt, e1, e3, e4, i0, o51, o50, ← Int32.toInt_inj, om]
  omega
/-! ===== what would leave ===== -/
theorem sub_u (σ : St) (i : Nat) : (if ovr σ i then gS σ 3 i else 0) = (if ended σ i then uF σ i else 0) := by
  unfold ovr uF
  cases gB σ 1 i <;> cases ended σ i <;> rfl
theorem mWl_r {σ : St} {L : List Nat} (hO : Ord σ) (h : SR σ (inO σ) L) {n k : Nat} (hn : n < 32) (e : L[n]? = some k) : mWl σ (n + 1) = ((mWl σ n).1 - (if ended σ k then 0 else uF σ k), (mWl σ n).2 + (if ended σ k then 0 else 1)) := by
  have hk := (h.1 k).mp (List.mem_of_getElem? e)
  rw [mWl_s, at_nth hO (by omega), nth_row hO h n, e]
  show ((mWl σ n).1 - (if ovr σ k then 0 else gS σ 3 k), (mWl σ n).2 + (if ovr σ k then 0 else 1)) = _
  rw [ovr_in hk.2]
  have e2 : uF σ k = gS σ 3 k := by unfold uF; rw [if_pos (inO_B hk.2).1]
  rw [e2]
theorem pF_gW {σ : St} (h : Sz σ) (n i : Nat) (hi : i < 32) : 0 ≤ (pF σ i).toInt ∧ (pF σ i).toInt ≤ (gW σ n i).toInt ∧ (gW σ n i).toInt ≤ 1000 := by
  have h1 := nF_b h i hi
  have h2 := uF_b h i hi
  have h3 := pF_b h i hi
  unfold gW
  by_cases c : (inO σ i && decide (rank σ i < n)) = true
  · rw [if_pos c]
    simp only [Bool.and_eq_true] at c
    have h4 : pF σ i = 0 := by
      unfold pF
      rw [(inO_B c.1).2]
      simp
    rw [h4, i0]
    omega
  · rw [if_neg c]
    refine ⟨h3.1, ?_, by omega⟩
    have h4 : pF σ i = nF σ i ∨ pF σ i = 0 := by
      unfold pF nF
      cases gB σ 1 i <;> cases gB σ 2 i <;> cases ended σ i <;> simp
    rcases h4 with h4 | h4
    · rw [h4]
      exact Int.le_refl _
    · rw [h4, i0]
      exact h1.1
theorem wd_ok {n : Nat} {σ : St} {L : List Nat} {t : Int32} {j : Nat} (hV : V n σ) (hS : SR σ (inO σ) L) (ht : 1 ≤ t.toInt ∧ t.toInt ≤ 1000) (hu : gI σ 3 < used σ + t) (hj : j ≤ L.length) (h1 : ∀ i, i < j → gI σ 3 < (mWl σ i).1 + t) (h2 : j = L.length ∨ ¬ gI σ 3 < (mWl σ j).1 + t) : (if gI σ 3 < (mWl σ j).1 + t then (-1 : Int32) else (mWl σ j).2) = cWould σ t := by
  have hO := hV.ord
  have hlen := sr_len hS
  obtain ⟨N, h3, h4⟩ := would_ok hV ht
  rw [h4, if_pos hu]
  rcases h3 with h3 | h3 | ⟨h3, h5⟩
  · exact absurd hu h3
  · rw [if_pos h3]
    have hmono : (pinA σ).toInt ≤ (mWl σ j).1.toInt := by
      rw [mWl_sum hO j (by omega)]
      exact sumI_le (n := 32) (Nat.le_refl _) (pF_gW hV.1 j)
    have hb : 0 ≤ (mWl σ j).1.toInt ∧ (mWl σ j).1.toInt ≤ 32000 := by
      rw [mWl_sum hO j (by omega)]
      exact gW_b hV.1 j
    have hp := pinA_b hV.1
    have hc : gI σ 3 < (mWl σ j).1 + t := by
      rw [mPinF] at h3
      rw [Int32.lt_iff_toInt_lt, i_add (by omega) (by omega)] at h3 ⊢
      omega
    rw [if_pos hc]
  · have hNL : ∀ i, i < N → i < L.length := fun i hi => by
      obtain ⟨-, k, hk, e⟩ := h3 i hi
      have hi31 : i < 2 ^ 31 ∨ 2 ^ 31 ≤ i := Nat.lt_or_ge _ _
      rcases Nat.lt_or_ge i L.length with g | g
      · exact g
      · exfalso
        obtain ⟨-, k2, hk2, e2⟩ := h3 L.length (by omega)
        rw [at_nth hO (by omega), nth_row hO hS, List.getElem?_eq_none (Nat.le_refl _)] at e2
        cases e2
    have hjN : j = N := by
      rcases Nat.lt_or_ge j N with g | g
      · rcases h2 with h2 | h2
        · have := hNL j g
          omega
        · exact absurd (h3 j g).1 h2
      · rcases Nat.lt_or_ge N j with g2 | g2
        · exact absurd (h1 N g2) h5
        · omega
    subst hjN
    have hnp : ¬ gI σ 3 < mPin σ false + t := by
      intro q
      have hmono : (pinA σ).toInt ≤ (mWl σ j).1.toInt := by
        rw [mWl_sum hO j (by omega)]
        exact sumI_le (n := 32) (Nat.le_refl _) (pF_gW hV.1 j)
      have hb : 0 ≤ (mWl σ j).1.toInt ∧ (mWl σ j).1.toInt ≤ 32000 := by
        rw [mWl_sum hO j (by omega)]
        exact gW_b hV.1 j
      have hp := pinA_b hV.1
      refine h5 ?_
      rw [mPinF] at q
      rw [Int32.lt_iff_toInt_lt, i_add (by omega) (by omega)] at q ⊢
      omega
    rw [if_neg h5, if_neg hnp]
theorem wd_no {n : Nat} {σ : St} {t : Int32} (hV : V n σ) (ht : 1 ≤ t.toInt ∧ t.toInt ≤ 1000) (hu : ¬ gI σ 3 < used σ + t) : cWould σ t = 0 := by
  obtain ⟨N, h3, h4⟩ := would_ok hV ht
  rw [h4, if_neg hu]
end
section
/-! ===== a fetch of the law's own cache is the class's ===== -/
def lFill (X : St) (k : Nat) (z lf : Int32) : St := uB (uS (uS (uB (uS X 3 k z) 1 k true) 4 k 1) 5 k (gI X 1 + lf)) 2 k false
theorem lFill_B (X : St) (k : Nat) (z lf : Int32) (i : Nat) : gB (lFill X k z lf) 1 i = (if i = k then true else gB X 1 i) ∧ gB (lFill X k z lf) 2 i = (if i = k then false else gB X 2 i) := by
  unfold lFill
  refine ⟨?_, ?_⟩
  · rw [gB_up, if_neg (show ¬ (1 : Nat) = 2 by decide)]
    show gB (uB (uS X 3 k z) 1 k true) 1 i = _
    rw [gB_up, if_pos rfl]
    rfl
  · rw [gB_up, if_pos rfl]
    rfl
theorem lFill_S3 (X : St) (k : Nat) (z lf : Int32) : gS (lFill X k z lf) 3 k = z := by
  show gS (uS (uS (uB (uS X 3 k z) 1 k true) 4 k 1) 5 k (gI X 1 + lf)) 3 k = z
  rw [gS_up, if_neg (show ¬ (3 : Nat) = 5 by decide), gS_up, if_neg (show ¬ (3 : Nat) = 4 by decide)]
  show gS (uS X 3 k z) 3 k = z
  rw [gS_up, if_pos rfl, if_pos rfl]
theorem lFill_uF (X : St) (k : Nat) (z lf : Int32) : uF (lFill X k z lf) k = z := by
  unfold uF
  rw [(lFill_B X k z lf k).1, if_pos rfl, if_pos rfl]
  exact lFill_S3 X k z lf
theorem lFill_c (X : St) (k : Nat) (z pr lf : Int32) (hz : 1 ≤ z.toInt) : lSetW (lFill X k z lf) k pr = cFill X k z pr lf := by
  rw [lSetW_eq pr (by rw [(lFill_B X k z lf k).1, if_pos rfl]) (by rw [lFill_S3]; exact hz)]
  rfl
theorem lFill_ok {X : St} {k : Nat} {z pr lf : Int32} {L : List Nat} (h : SR (lSetW (lFill X k z lf) k pr) (fun x => (inO X x && decide (x ≠ k)) || decide (x = k)) L) : SR (lSetW (lFill X k z lf) k pr) (inO (lSetW (lFill X k z lf) k pr)) L := by
  refine sr_cg h (fun i _ => ?_) (fun _ _ _ _ _ _ q => q)
  show ((inO X i && decide (i ≠ k)) || decide (i = k)) = (gB (lFill X k z lf) 1 i && !gB (lFill X k z lf) 2 i)
  rw [(lFill_B X k z lf i).1, (lFill_B X k z lf i).2]
  unfold inO
  by_cases q : i = k
  · simp [q]
  · simp [q]
theorem hit_ok {σ : St} {k : Nat} {pr v : Int32} {L : List Nat} (hb : gB σ 1 k = true) (h2 : gB σ 2 k = false) (h : SR (lSetW (uS σ 4 k v) k pr) (fun x => (inO σ x && decide (x ≠ k)) || decide (x = k)) L) : SR (lSetW (uS σ 4 k v) k pr) (inO (lSetW (uS σ 4 k v) k pr)) L := by
  refine sr_cg h (fun i _ => ?_) (fun _ _ _ _ _ _ q => q)
  show ((inO σ i && decide (i ≠ k)) || decide (i = k)) = (gB σ 1 i && !gB σ 2 i)
  unfold inO
  by_cases q : i = k
  · subst q
    simp [hb, h2]
  · simp [q]
theorem hit_pin {σ : St} {k : Nat} {pr v : Int32} {L : List Nat} (h2 : gB σ 2 k = true) (h : SR (lSetW (uS σ 4 k v) k pr) (fun x => inO σ x && decide (x ≠ k)) L) : SR (lSetW (uS σ 4 k v) k pr) (inO (lSetW (uS σ 4 k v) k pr)) L := by
  refine sr_cg h (fun i _ => ?_) (fun _ _ _ _ _ _ q => q)
  show (inO σ i && decide (i ≠ k)) = (gB σ 1 i && !gB σ 2 i)
  unfold inO
  by_cases q : i = k
  · subst q
    simp [h2]
  · simp [q]
theorem hit_eq {σ : St} {k : Nat} {z pr : Int32} (hb : gB σ 1 k = true) (hs : gS σ 3 k = z) (hz : 1 ≤ z.toInt) : uL (uL (uI (lSetW (uS σ 4 k (gS σ 4 k + 1)) k pr) 6 (gI (lSetW (uS σ 4 k (gS σ 4 k + 1)) k pr) 6 + 1)) 8 (gL (lSetW (uS σ 4 k (gS σ 4 k + 1)) k pr) 8 + z.toInt64)) 9 (gL (lSetW (uS σ 4 k (gS σ 4 k + 1)) k pr) 9 + pr.toInt64) = cHit σ k pr := by
  have e3 : gS (uS σ 4 k (gS σ 4 k + 1)) 3 k = z := by rw [gS_up, if_neg (show ¬ (3 : Nat) = 4 by decide), hs]
  have e4 : gS (cSetW (uS σ 4 k (gS σ 4 k + 1)) k pr) 3 k = z := e3
  rw [lSetW_eq pr (show gB (uS σ 4 k (gS σ 4 k + 1)) 1 k = true from hb) (by rw [e3]; exact hz)]
  unfold cHit
  generalize cSetW (uS σ 4 k (gS σ 4 k + 1)) k pr = P at e4 ⊢
  show _ = uL (uL (uI P 6 (gI P 6 + 1)) 8 (gL P 8 + (gS P 3 k).toInt64)) 9 (gL P 9 + pr.toInt64)
  rw [e4]
theorem miss_eq (σ : St) (k : Nat) (pr : Int32) : uS (uB (uI (uL (uI σ 7 (gI σ 7 + 1)) 10 (gL σ 10 + pr.toInt64)) 12 (gI σ 12 + (if ovr σ k then 1 else 0))) 1 k false) 8 k (gI σ 1) = mMiss σ k pr := by
  have e : ovr (uL (uI (uS σ 8 k (gI σ 1)) 7 (gI σ 7 + 1)) 10 (gL σ 10 + pr.toInt64)) k = ovr σ k := rfl
  have e1 : mMiss σ k pr = uB (uI (uL (uI (uS σ 8 k (gI σ 1)) 7 (gI σ 7 + 1)) 10 (gL σ 10 + pr.toInt64)) 12 (gI σ 12 + (if ovr (uL (uI (uS σ 8 k (gI σ 1)) 7 (gI σ 7 + 1)) 10 (gL σ 10 + pr.toInt64)) k then 1 else 0))) 1 k false := rfl
  rw [e1, e]
  generalize (if ovr σ k then (1 : Int32) else 0) = v
  exact St_x (fun _ => rfl) (fun _ => rfl) (fun _ _ => rfl) (fun _ _ => rfl) (fun _ _ => rfl)
theorem miss_nb (σ : St) (k : Nat) (pr : Int32) : gB (mMiss σ k pr) 1 k = false := by
  unfold mMiss
  rw [gB_up, if_pos rfl, if_pos rfl]
theorem miss_sr {σ : St} {k : Nat} {pr : Int32} {L : List Nat} (h : SR σ (inO σ) L) : SR (mMiss σ k pr) (inO (mMiss σ k pr)) (wo k L) := sr_rm h (fun _ _ => rfl) (fun _ _ => rfl)
theorem lv_nb {σ : St} {k q : Nat} (h : gB σ 1 k = false) : gB (mLv1 σ q) 1 k = false := by
  show gB (uB σ 1 q false) 1 k = false
  rw [gB_up, if_pos rfl]
  by_cases e : k = q
  · rw [if_pos e]
  · rw [if_neg e]; exact h
theorem cf_miss {σ : St} {k : Nat} {z pr lf : Int32} (hh : (gB σ 1 k && !ended σ k && decide (gS σ 3 k = z)) = false) : cFetch σ k z pr lf = (if gI (mMiss σ k pr) 3 < z then (2, mMiss σ k pr) else if decide (gI (mMiss σ k pr) 4 < z) && !cLate σ k then (2, mMiss σ k pr) else if (cRoom (mMiss σ k pr) z).1 then (1, cFill (cRoom (mMiss σ k pr) z).2 k z pr lf) else (2, (cRoom (mMiss σ k pr) z).2)) := by
  have el : cLetIn (cMiss σ pr) k z pr lf = if gI (mMiss σ k pr) 3 < z then (false, mMiss σ k pr) else if decide (gI (mMiss σ k pr) 4 < z) && !cLate σ k then (false, mMiss σ k pr) else if (cRoom (mMiss σ k pr) z).1 then (true, cFill (cRoom (mMiss σ k pr) z).2 k z pr lf) else (false, (cRoom (mMiss σ k pr) z).2) := by
    have e9 : cLate (cMiss σ pr) k = cLate σ k := rfl
    unfold cLetIn
    rw [mMiss_eq, e9]
  unfold cFetch
  rw [if_neg (by rw [hh]; decide), el]
  generalize mMiss σ k pr = M
  by_cases c1 : gI M 3 < z
  · rw [if_pos c1, if_pos c1]
    rfl
  · rw [if_neg c1, if_neg c1]
    by_cases c2 : (decide (gI M 4 < z) && !cLate σ k) = true
    · rw [if_pos c2, if_pos c2]
      rfl
    · rw [if_neg c2, if_neg c2]
      by_cases c3 : (cRoom M z).1 = true
      · rw [if_pos c3, if_pos c3]
        rfl
      · rw [if_neg c3, if_neg c3]
        rfl
theorem cf_hit {σ : St} {k : Nat} {z pr lf : Int32} (h1 : gB σ 1 k = true) (h2 : ended σ k = false) (h3 : gS σ 3 k = z) : cFetch σ k z pr lf = (0, cHit σ k pr) := by
  unfold cFetch
  rw [if_pos (by simp [h1, h2, h3])]
theorem late_1 {σ : St} {k : Nat} (h : gS σ 8 k = -1) : cLate σ k = false := by
  unfold cLate
  rw [decide_eq_true h]
  rfl
theorem late_2 {σ : St} {k : Nat} (h : 50 < gI σ 1 - gS σ 8 k) : cLate σ k = false := by
  unfold cLate
  rw [decide_eq_true h]
  cases decide (gS σ 8 k = -1) <;> rfl
theorem late_t {σ : St} {k : Nat} (h1 : ¬ gS σ 8 k = -1) (h2 : ¬ 50 < gI σ 1 - gS σ 8 k) : cLate σ k = true := by
  unfold cLate
  rw [decide_eq_false h1, decide_eq_false h2]
  rfl
end
