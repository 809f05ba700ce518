/-! ===== the state that both sides hold, by fields' numbers; its updates ===== -/
abbrev St : Type := (Nat → Int32) × (Nat → Int64) × (Nat → Nat → Int32) × (Nat → Nat → Int64) × (Nat → Nat → Bool)
def bI (b : Bool) : Int32 := if b then 1 else 0
def gI (σ : St) (j : Nat) : Int32 := σ.1 j
def gL (σ : St) (j : Nat) : Int64 := σ.2.1 j
def gS (σ : St) (j k : Nat) : Int32 := σ.2.2.1 j k
def gT (σ : St) (j k : Nat) : Int64 := σ.2.2.2.1 j k
def gB (σ : St) (j k : Nat) : Bool := σ.2.2.2.2 j k
def uI (σ : St) (j : Nat) (v : Int32) : St := (va_up σ.1 j v, σ.2)
def uL (σ : St) (j : Nat) (v : Int64) : St := (σ.1, va_up σ.2.1 j v, σ.2.2)
def uS (σ : St) (j k : Nat) (v : Int32) : St := (σ.1, σ.2.1, va_up σ.2.2.1 j (va_up (σ.2.2.1 j) k v), σ.2.2.2)
def uT (σ : St) (j k : Nat) (v : Int64) : St := (σ.1, σ.2.1, σ.2.2.1, va_up σ.2.2.2.1 j (va_up (σ.2.2.2.1 j) k v), σ.2.2.2.2)
def uB (σ : St) (j k : Nat) (v : Bool) : St := (σ.1, σ.2.1, σ.2.2.1, σ.2.2.2.1, va_up σ.2.2.2.2 j (va_up (σ.2.2.2.2 j) k v))
theorem bI_t : bI true = 1 := rfl
theorem bI_f : bI false = 0 := rfl
theorem bI_0 {b : Bool} : bI b = 0 ↔ b = false := by cases b <;> decide
theorem bI_n0 {b : Bool} : ¬ bI b = 0 ↔ b = true := by cases b <;> decide
theorem bI_nar (b : Bool) : narrow .boolean (.int (bI b)) = .int (bI b) := by cases b <;> rfl
theorem bI_fit (b : Bool) : fits .boolean (.int (bI b)) = true := by cases b <;> rfl
theorem bI_vp (b : Bool) : vp_nar .boolean (bI b) = bI b := by cases b <;> rfl
theorem bI_or (b : Bool) : bI b = 0 ∨ bI b = 1 := by cases b <;> decide
theorem bI_of {x : Int32} (h : x = 0 ∨ x = 1) : x = bI (decide (x = 1)) := by rcases h with rfl | rfl <;> decide
theorem bI_inj {a b : Bool} (h : bI a = bI b) : a = b := by revert h; cases a <;> cases b <;> decide
theorem bI_eqL {a b : Bool} : (bI a).toInt64 = (if b then (1 : Int64) else 0) ↔ a = b := by cases a <;> cases b <;> decide
/-! ===== the worlds ===== -/
def cF (ar : Nat) (σ : St) : List Value := [.ref ar, .int (gI σ 1), .long (gL σ 2), .int (gI σ 3), .int (gI σ 4), .long (gL σ 5), .int (gI σ 6), .int (gI σ 7), .long (gL σ 8), .long (gL σ 9), .long (gL σ 10), .int (gI σ 11), .int (gI σ 12)]
def sF (σ : St) (k : Nat) : List Value := [.int (gS σ 0 k), .int (bI (gB σ 1 k)), .int (bI (gB σ 2 k)), .int (gS σ 3 k), .int (gS σ 4 k), .int (gS σ 5 k), .long (gT σ 6 k), .long (gT σ 7 k), .int (gS σ 8 k)]
def xQ (f : Nat → Option Nat) : (Nat → Int32) ⊕ (Nat → Int64) ⊕ (Nat → UInt32) ⊕ (Nat → UInt64) ⊕ (Nat → Option Nat) := .inr (.inr (.inr (.inr f)))
def cPl (ad : Nat → Nat) (σ : St) : va_W := (List.range 32).map (fun k => (ad k, .inr (0, sF σ k)))
def cW (ax ar : Nat) (ad : Nat → Nat) (cO : ClassId) (σ : St) : va_W := (ax, .inr (1, cF ar σ)) :: (ar, .inl (cO, 32, .inr (.inr (.inr (.inr (fun k => some (ad k))))))) :: cPl ad σ
theorem cPl_get (ad : Nat → Nat) (σ : St) {k : Nat} (h : k < 32) : (cPl ad σ)[k]? = some (ad k, .inr (0, sF σ k)) := by simp [cPl, h]
theorem cW_slot {ax ar : Nat} {ad : Nat → Nat} {cO : ClassId} (σ : St) {k : Nat} (h : k < 32) : (cW ax ar ad cO σ)[k + 2]? = some (ad k, .inr (0, sF σ k)) := by
  show (cPl ad σ)[k]? = _
  exact cPl_get ad σ h
theorem cPl_set (ad : Nat → Nat) (σ τ : St) {k : Nat} (h : k < 32) {e : va_E} (he : e = .inr (0, sF τ k)) (ho : ∀ j, j ≠ k → sF τ j = sF σ j) : (cPl ad σ).set k (ad k, e) = cPl ad τ := by
  apply List.ext_getElem?
  intro j
  by_cases hj : j = k
  · subst hj
    rw [List.getElem?_set_self (by simpa [cPl] using h), cPl_get ad τ h, he]
  · rw [List.getElem?_set_ne (Ne.symm hj)]
    simp only [cPl, List.getElem?_map]
    cases hr : (List.range 32)[j]? with
    | none => rfl
    | some b =>
      have hb : b = j := by
        have h9 := List.getElem?_eq_some_iff.mp hr
        obtain ⟨h10, h11⟩ := h9
        simpa using h11.symm
      subst hb
      simp [ho b hj]
theorem cW_setS {ax ar : Nat} {ad : Nat → Nat} {cO : ClassId} (σ τ : St) {k : Nat} (h : k < 32) {e : va_E} (he : e = .inr (0, sF τ k)) (ho : ∀ j, j ≠ k → sF τ j = sF σ j) (hc : cF ar τ = cF ar σ) : (cW ax ar ad cO σ).set (k + 2) (ad k, e) = cW ax ar ad cO τ := by
  show (ax, Sum.inr (1, cF ar σ)) :: (ar, Sum.inl (cO, 32, .inr (.inr (.inr (.inr (fun k => some (ad k))))))) :: (cPl ad σ).set k (ad k, e) = _
  rw [cPl_set ad σ τ h he ho]
  unfold cW
  rw [hc]
theorem cW_setC {ax ar : Nat} {ad : Nat → Nat} {cO : ClassId} (σ τ : St) {e : va_E} (he : e = .inr (1, cF ar τ)) (ho : ∀ j, sF τ j = sF σ j) : (cW ax ar ad cO σ).set 0 (ax, e) = cW ax ar ad cO τ := by
  show (ax, e) :: (ar, Sum.inl (cO, 32, .inr (.inr (.inr (.inr (fun k => some (ad k))))))) :: cPl ad σ = _
  unfold cW cPl
  rw [he, show (fun k => (ad k, (Sum.inr (0, sF τ k) : va_E))) = (fun k => (ad k, Sum.inr (0, sF σ k))) from funext fun k => by rw [ho k]]
theorem cW_fst (ax ar : Nat) (ad : Nat → Nat) (cO : ClassId) (σ τ : St) : (cW ax ar ad cO σ).map Prod.fst = (cW ax ar ad cO τ).map Prod.fst := by
  simp [cW, cPl]
theorem va_D_same {A : Nat → Prop} {w w' : va_W} (h : va_D A w) (e : w'.map Prod.fst = w.map Prod.fst) : va_D A w' := by
  have key : ∀ (i : Nat) (p : Nat × va_E), w'[i]? = some p → ∃ q, w[i]? = some q ∧ q.1 = p.1 := by
    intro i p hp
    have h1 : (w'.map Prod.fst)[i]? = some p.1 := by rw [List.getElem?_map, hp]; rfl
    rw [e, List.getElem?_map] at h1
    cases hq : w[i]? with
    | none => rw [hq] at h1; cases h1
    | some q => rw [hq] at h1; exact ⟨q, rfl, Option.some.inj h1⟩
  refine ⟨fun i j p q hp hq hpq => ?_, fun k q hq => ?_⟩
  · obtain ⟨p0, h1, h2⟩ := key i p hp
    obtain ⟨q0, h3, h4⟩ := key j q hq
    exact h.1 i j p0 q0 h1 h3 (h2.trans (hpq.trans h4.symm))
  · obtain ⟨q0, h1, h2⟩ := key k q hq
    rw [← h2]
    exact h.2 k q0 h1
/-! ===== contracts: start, end ===== -/
/-- what a method's start says beside its world: closed under what a caller does before the call -/
def xEok (E : (Nat → Prop) → State → Heap → Prop) : Prop := ∀ (A B : Nat → Prop) (u U : State) (H H1 : Heap), u.WarmedH U.vm → (∀ a : Nat, a < H.size → ¬ A a → H1[a]? = H[a]?) → (∀ q, B q → A q) → E A u H → E B U H1
def xPre {S : Type} (D : va_G) (tys : List (ClassId × FieldType)) (E : (Nat → Prop) → State → Heap → Prop) (w : S → va_W) (σ : S) (sz : Nat) (U : State) : Prop :=
  U.heap.size = sz ∧ va_P D vwCl (w σ) U.heap ∧ va_K D vwCl tys U ∧ va_D (fun _ => True) (w σ) ∧ E (va_A (w σ) sz) U U.heap
def xB {S : Type} (D : va_G) (tys : List (ClassId × FieldType)) (w : S → va_W) (A : Nat → Prop) (u : S) (t : State) : Prop :=
  va_P D vwCl (w u) t.heap ∧ va_K D vwCl tys t ∧ va_D A (w u)
def xXC {S : Type} (D : va_G) (tys : List (ClassId × FieldType)) (w : S → va_W) (A : Nat → Prop) (σ : S) (xc : String → Prop) : String → State → State → Prop :=
  vx_X (fun _ : Unit => True) (fun E _ t => xc E ∧ xB D tys w A σ t) A
theorem xPre_blind {S : Type} {D : va_G} {tys : List (ClassId × FieldType)} {E : (Nat → Prop) → State → Heap → Prop} {w : S → va_W} {σ : S} {sz : Nat} {av : List Value} (hE : xEok E) : FrameBlind (va_Pc av (xPre D tys E w σ sz)) := by
  intro a U g mk q
  obtain ⟨q0, q1, q2, q3, q4, q5⟩ := q
  exact ⟨q0, q1, q2, va_K.moved (u := U) (U := U.calling g mk a) (Vm.Alike.refl U.vm) q3, q4, hE (va_A (w σ) sz) (va_A (w σ) sz) U (U.calling g mk a) U.heap U.heap (State.WarmedH.refl U) (fun _ _ _ => rfl) (fun _ h => h) q5⟩
theorem xA_in {S : Type} {A0 : Nat → Prop} {w : S → va_W} {σ : S} {H0 H : Heap} {locs : List Loc} (hD : va_D A0 (w σ)) (hS : va_S A0 H0 H locs) (hA : ∀ q, H0.size ≤ q → A0 q) : ∀ q, va_A (w σ) H.size q → A0 q := by
  intro q h
  rcases h with ⟨k, e, h⟩ | h
  · exact hD.2 k (q, e) h
  · exact hA q (Nat.le_trans hS.1 h)
theorem xPre_ok {S : Type} {s : State} {D : va_G} {tys : List (ClassId × FieldType)} {E : (Nat → Prop) → State → Heap → Prop} {w : S → va_W} {σ : S} {A0 : Nat → Prop} {H : Heap} {locs : List Loc} {av : List Value} (hE : xEok E) (hE0 : E A0 s s.heap) (hK : va_K D vwCl tys s) (hA : ∀ q, s.heap.size ≤ q → A0 q)
    (hP : va_P D vwCl (w σ) H) (hD : va_D A0 (w σ)) (hS : va_S A0 s.heap H locs) : ∀ U : State, U.heap = H → s.WarmedH U.vm → va_Pc av (xPre D tys E w σ H.size) av.toArray U := by
  intro U hU hW
  refine ⟨rfl, by rw [hU], by rw [hU]; exact hP, va_K.moved hW.alike hK, hD.weaken (fun _ _ _ _ => trivial), ?_⟩
  rw [hU]
  exact hE A0 _ s U s.heap H hW hS.2.1 (xA_in hD hS hA) hE0
theorem xPreS {S : Type} {s : State} {D : va_G} {tys : List (ClassId × FieldType)} {E : (Nat → Prop) → State → Heap → Prop} {w : S → va_W} {σ : S} {A0 : Nat → Prop} {H : Heap} {locs : List Loc} {av : List Value} (hE : xEok E) (hE0 : E A0 s s.heap) (hK : va_K D vwCl tys s) (hA : ∀ q, s.heap.size ≤ q → A0 q)
    (hP : va_P D vwCl (w σ) H) (hD : va_D A0 (w σ)) (hS : va_S A0 s.heap H locs) : PreS s H (va_Pc av (xPre D tys E w σ H.size)) av := ⟨xPre_blind hE, xPre_ok hE hE0 hK hA hP hD hS⟩
theorem xPreV {S : Type} {s : State} {D : va_G} {tys : List (ClassId × FieldType)} {E : (Nat → Prop) → State → Heap → Prop} {w : S → va_W} {σ : S} {A0 : Nat → Prop} {H : Heap} {locs : List Loc} {b : Nat} {As : List Value} {C : String} (hE : xEok E) (hE0 : E A0 s s.heap) (hK : va_K D vwCl tys s) (hA : ∀ q, s.heap.size ≤ q → A0 q)
    (hP : va_P D vwCl (w σ) H) (hD : va_D A0 (w σ)) (hS : va_S A0 s.heap H locs) {q0 ci : Nat} {r : vw_C} {fs : List Value} (hc : vwCl[ci]? = some r) (he : (w σ)[q0]? = some (b, .inr (ci, fs))) (hC : r.1 = C) : PreV s H C b (va_Pc (.ref b :: As) (xPre D tys E w σ H.size)) As := by
  subst hC
  exact ⟨xPre_blind hE, va_recv hK hP hc he, xPre_ok hE hE0 hK hA hP hD hS⟩
/-- a method's body, opened: it returns -/
theorem xOpen {S : Type} {l : Launch} {y : MethodName} {ws ws' : List Cond} {rm : Room} {cc : ByteArray} {maxL : Nat} {ret : Option FieldType} {D : va_G} {tys : List (ClassId × FieldType)} {E : (Nat → Prop) → State → Heap → Prop} {w : S → va_W} {σ : S} {av : List Value} {sz mc ms : Nat} {QQ : (Nat → Prop) → Array Value → State → Outcome → State → Prop}
    (hy : plainName y.cls = true) (hw : ws = Cond.code y cc maxL ret :: ws') (hn : (lg_sl av).length ≤ maxL)
    (body : ∀ (p : Program) (e : Env) (s : State) (m : MethodId) (below : List Frame) (meth : Method) (c : Code) (A : Nat → Prop), p.tables.exec = Jvm.exec → c.code = cc → meth.sig.returnType = ret → c.maxLocals = maxL → s.vm.findClass y.cls = some m.cls → (∀ w ∈ ws, w.before av.toArray s = true) → meth.locks = false → meth.name = y.name →
      va_K D vwCl tys s → E A s s.heap → (∀ q, s.heap.size ≤ q → A q) → va_P D vwCl (w σ) s.heap → va_D A (w σ) → va_S A s.heap s.heap [] → ∀ ls : Array Slot, lv_has ls maxL (lv_args 0 av) →
      W p l e (headSpec ws rm).room s m av.toArray below meth c s.heap [] 0 0 (MQ below (QQ A) av.toArray s mc ms A) (F0 m 0 ls [])) :
    Met l y ws rm (va_Pc av (xPre D tys E w σ sz)) (QQ (va_A (w σ) sz)) mc ms (va_A (w σ) sz) := by
  refine Met.ofW (cc := cc) (maxL := maxL) (ret := ret) hy hw ?_
  intro p e s m args below meth c s₁ B hml hv
  obtain ⟨rfl, hsz, hP, hK, hD0, hE⟩ := hv
  subst hsz
  have hl := lv_entry av (n := maxL) hn
  rw [lg_entry_eq]
  have hD := hD0.self (sz := s.heap.size)
  exact body p e s m below meth c (va_A (w σ) s.heap.size) B.exec B.bytes B.returns hml (findClass_of_methodNamed B.named) (atoms_spec (ws := ws) B.pre) B.notSynchronized (name_of_methodNamed B.named B.method).1 hK hE (fun q h => Or.inr h) hP hD va_S.rf _ hl
/-- .. it returns or throws -/
theorem xxOpen {S : Type} {l : Launch} {y : MethodName} {ws ws' : List Cond} {rm : Room} {cc : ByteArray} {maxL : Nat} {ret : Option FieldType} {D : va_G} {tys : List (ClassId × FieldType)} {E : (Nat → Prop) → State → Heap → Prop} {w : S → va_W} {σ : S} {av : List Value} {sz mc ms : Nat} {QQ : (Nat → Prop) → Array Value → State → Outcome → State → Prop} {XX : (Nat → Prop) → String → State → State → Prop}
    (hy : plainName y.cls = true) (hw : ws = Cond.code y cc maxL ret :: ws') (hn : (lg_sl av).length ≤ maxL)
    (body : ∀ (p : Program) (e : Env) (s : State) (m : MethodId) (below : List Frame) (meth : Method) (c : Code) (A : Nat → Prop), p.tables.exec = Jvm.exec → c.code = cc → meth.sig.returnType = ret → c.maxLocals = maxL → s.vm.findClass y.cls = some m.cls → (∀ w ∈ ws, w.before av.toArray s = true) → meth.locks = false → (∀ x ∈ c.exceptionTable.toList, False) →
      va_K D vwCl tys s → E A s s.heap → (∀ q, s.heap.size ≤ q → A q) → va_P D vwCl (w σ) s.heap → va_D A (w σ) → va_S A s.heap s.heap [] → ∀ ls : Array Slot, lv_has ls maxL (lv_args 0 av) →
      W p l e (headSpec ws rm).room s m av.toArray below meth c s.heap [] 0 0 (vx_MQ below (QQ A) (XX A) av.toArray s mc ms A) (F0 m 0 ls [])) :
    vx_Met l y ws rm (va_Pc av (xPre D tys E w σ sz)) (QQ (va_A (w σ) sz)) (XX (va_A (w σ) sz)) mc ms (va_A (w σ) sz) := by
  refine vx_ofW (cc := cc) (maxL := maxL) (ret := ret) hy hw ?_
  intro p e s m args below meth c s₁ B hml ht hv
  obtain ⟨rfl, hsz, hP, hK, hD0, hE⟩ := hv
  subst hsz
  have hl := lv_entry av (n := maxL) hn
  rw [lg_entry_eq]
  have hD := hD0.self (sz := s.heap.size)
  exact body p e s m below meth c (va_A (w σ) s.heap.size) B.exec B.bytes B.returns hml (findClass_of_methodNamed B.named) (atoms_spec (ws := ws) B.pre) B.notSynchronized ht hK hE (fun q h => Or.inr h) hP hD va_S.rf _ hl
