/-! ===== what every method of the class may rely on, beside its world ===== -/
def xNs (k : Nat) : Nat := match k with
  | 0 => 110
  | 1 => 33
  | 2 => 61
  | 3 => 41
  | 4 => 85
  | 5 => 94
  | 6 => 88
  | 7 => 183
  | _ => 162
def xIO : String := "java/lang/IndexOutOfBoundsException"
def xIA : String := "java/lang/IllegalArgumentException"
def xIS : String := "java/lang/IllegalStateException"
def xStr : List (Nat × String) := [(147, "no such thing"), (153, "an argument is out of its range"), (149, "the thing has no entry"), (73, "the pinned entries are greater than the capacity"), (107, "the order has no such place")]
def xDec : List MethodName := [⟨"java/lang/RuntimeException", "<init>", "(Ljava/lang/String;)V"⟩, ⟨"java/lang/Exception", "<init>", "(Ljava/lang/String;)V"⟩, ⟨"java/lang/Throwable", "<init>", "(Ljava/lang/String;)V"⟩, ⟨"java/lang/RuntimeException", "<init>", "()V"⟩, ⟨"java/lang/Exception", "<init>", "()V"⟩, ⟨"java/lang/Throwable", "<init>", "()V"⟩]
def xNc : List (String × String) := []
def xV (U : State) : Prop := (∀ k, k < 9 → va_Nw (.fieldLinkNest RX1 (xNs k) RX0 (TX0 k).2.1 (TX0 k).2.2.1 RX1) U) ∧ (∀ q ∈ xStr, ∃ a, vk_R RX1 q.1 q.2 a U) ∧ (∀ q ∈ xDec, va_Nw (.declares q) U) ∧ (∀ q ∈ [xIO, xIA, xIS], va_Nw (.castable q q) U) ∧ (∀ q ∈ xNc, va_Nc q.1 q.2 U)
def xE (A : Nat → Prop) (U : State) (H : Heap) : Prop := xV U ∧ vx_Zq Bundle.tN "UNASSIGNED_STACK" Bundle.steD A U H ∧ vx_Zq Bundle.tN "SUPPRESSED_SENTINEL" Bundle.listD A U H
theorem xV_warm {u U : State} (hW : u.WarmedH U.vm) (h : xV u) : xV U := by
  obtain ⟨h1, h2, h3, h4, h5⟩ := h
  refine ⟨fun k hk => va_Nw.warmF hW (h1 k hk), fun q hq => ?_, fun q hq => va_Nw.warmD hW (h3 q hq), fun q hq => va_Nw.warmC hW (h4 q hq), fun q hq => va_Nc.moved hW.alike (h5 q hq)⟩
  obtain ⟨a, ha⟩ := h2 q hq
  exact ⟨a, vk_R.warm hW ha⟩
theorem xE_ok : xEok xE := by
  intro A B u U H H1 hW hq hAB h
  obtain ⟨h1, h2, h3⟩ := h
  exact ⟨xV_warm hW h1, vx_Zq.moved hW.alike ((h2.kept hq).narrow hAB), vx_Zq.moved hW.alike ((h3.kept hq).narrow hAB)⟩
def mE (_ : Nat → Prop) (_ : State) (_ : Heap) : Prop := True
theorem mE_ok : xEok mE := fun _ _ _ _ _ _ _ _ _ _ => trivial
section XF
variable {p : Program} {l : Launch} {e : Env} {R : Room} {s : State} {m : MethodId} {args : Array Value} {below : List Frame} {meth : Method} {c : Code} {H : Heap} {locs : List Loc} {cells slots : Nat} {Q : State → Prop}
variable {cc : ByteArray} {pc : Nat} {ls : Array Slot} {rest st0 : List Value} {D : va_G} {A0 : Nat → Prop} {tys : List (ClassId × FieldType)} {Ts : List Cond} {σ : St}
variable {ax ar : Nat} {ad : Nat → Nat} {cO : ClassId} {bx : Nat} {ba : Nat → Nat} {cI cJ cZ : ClassId}
/-! ===== references that may be null: a place of the row, or none ===== -/
theorem x_aload_nQ (hx : p.tables.exec = Jvm.exec) (hb : c.code = cc) {k : Fin 4} {i : Nat} {r : Option Nat} (hdg : decode cc pc = .ok (.aload_n k, 1)) (hi : (k : Nat) = i) (hl : ls[i]? = some (.val (va_rf r)))
    (kk : W p l e R s m args below meth c H locs cells slots Q (F0 m (pc + 1) ls (va_rf r :: rest))) : W p l e R s m args below meth c H locs cells slots Q (F0 m pc ls rest) := by
  cases r with
  | none => exact lv_aload_nN hx hb hdg hi hl kk
  | some a => exact lv_aload_n hx hb hdg hi hl kk
theorem x_aloadQ (hx : p.tables.exec = Jvm.exec) (hb : c.code = cc) {i : Nat} {r : Option Nat} (hdg : decode cc pc = .ok (.aload i, 2)) (hl : ls[i]? = some (.val (va_rf r)))
    (kk : W p l e R s m args below meth c H locs cells slots Q (F0 m (pc + 2) ls (va_rf r :: rest))) : W p l e R s m args below meth c H locs cells slots Q (F0 m pc ls rest) := by
  cases r with
  | none => exact lv_aloadN hx hb hdg hl kk
  | some a => exact lv_aload hx hb hdg hl kk
theorem x_astore_nQ (hx : p.tables.exec = Jvm.exec) (hb : c.code = cc) {k : Fin 4} {i nL : Nat} {r : Option Nat} {lv lv' : List (Nat × Value)} (hdg : decode cc pc = .ok (.astore_n k, 1)) (hi : (k : Nat) = i) (h : lv_has ls nL lv) (hn : i < nL) (hl : (i, va_rf r) :: lv.filter (fun q => !(q.1 == i) && !(q.1 + 1 == i && q.2.category == 2)) = lv')
    (kk : ∀ ls' : Array Slot, lv_has ls' nL lv' → W p l e R s m args below meth c H locs cells slots Q (F0 m (pc + 1) ls' rest)) : W p l e R s m args below meth c H locs cells slots Q (F0 m pc ls (va_rf r :: rest)) := by
  cases r with
  | none => exact lv_astore_nN hx hb hdg hi h hn hl kk
  | some a => exact lv_astore_n hx hb hdg hi h hn hl kk
theorem x_astoreQ (hx : p.tables.exec = Jvm.exec) (hb : c.code = cc) {i nL : Nat} {r : Option Nat} {lv lv' : List (Nat × Value)} (hdg : decode cc pc = .ok (.astore i, 2)) (h : lv_has ls nL lv) (hn : i < nL) (hl : (i, va_rf r) :: lv.filter (fun q => !(q.1 == i) && !(q.1 + 1 == i && q.2.category == 2)) = lv')
    (kk : ∀ ls' : Array Slot, lv_has ls' nL lv' → W p l e R s m args below meth c H locs cells slots Q (F0 m (pc + 2) ls' rest)) : W p l e R s m args below meth c H locs cells slots Q (F0 m pc ls (va_rf r :: rest)) := by
  cases r with
  | none => exact lv_astoreN hx hb hdg h hn hl kk
  | some a => exact lv_astore hx hb hdg h hn hl kk
theorem x_ifnullQ (hx : p.tables.exec = Jvm.exec) (hb : c.code = cc) {r : Option Nat} {off : Int} {tgt : Nat} (hdg : decode cc pc = .ok (.ifnull off, 3)) (ht : (pc : Int) + off = (tgt : Int))
    (kt : r = none → W p l e R s m args below meth c H locs cells slots Q (F0 m tgt ls rest)) (kf : ∀ k, r = some k → W p l e R s m args below meth c H locs cells slots Q (F0 m (pc + 3) ls rest)) : W p l e R s m args below meth c H locs cells slots Q (F0 m pc ls (va_rf (r.map ad) :: rest)) := by
  cases r with
  | none => exact lv_ifnullN hx hb hdg ht (kt rfl)
  | some a => exact lv_ifnull hx hb hdg (kf a rfl)
theorem x_ifnonnullQ (hx : p.tables.exec = Jvm.exec) (hb : c.code = cc) {r : Option Nat} {off : Int} {tgt : Nat} (hdg : decode cc pc = .ok (.ifnonnull off, 3)) (ht : (pc : Int) + off = (tgt : Int))
    (kt : ∀ k, r = some k → W p l e R s m args below meth c H locs cells slots Q (F0 m tgt ls rest)) (kf : r = none → W p l e R s m args below meth c H locs cells slots Q (F0 m (pc + 3) ls rest)) : W p l e R s m args below meth c H locs cells slots Q (F0 m pc ls (va_rf (r.map ad) :: rest)) := by
  cases r with
  | none => exact lv_ifnonnullN hx hb hdg (kf rfl)
  | some a => exact lv_ifnonnull hx hb hdg ht (kt a rfl)
/-! ===== the class's own fields ===== -/
theorem c_get (hx : p.tables.exec = Jvm.exec) (hb : c.code = cc) (hts : ∀ w ∈ Ts, w.before args s = true) (hin : ∀ w ∈ wsX10, w ∈ Ts) (hown : s.vm.findClass RX1 = some m.cls) (hK : va_K D vwCl tys s) (hP : va_P D vwCl (cW ax ar ad cO σ) H) (k : Nat) (hk : k < 13) {index : Nat} (hlink : Cond.fieldLink RX1 index RX1 (TX1 k).2.1 (TX1 k).2.2.1 ∈ Ts) {v : Value} (hv : (cF ar σ)[k]? = some v) (hdg : decode cc pc = .ok (.getfield index, 3))
    (hsame : ∀ x, s.fieldFound? (TX1 k).1 (TX1 k).2.1 (TX1 k).2.2.1 = some x → s.fieldFound? RX1 (TX1 k).2.1 (TX1 k).2.2.1 = some x)
    (kk : W p l e R s m args below meth c H locs cells slots Q (F0 m (pc + 3) ls (v :: rest))) : W p l e R s m args below meth c H locs cells slots Q (F0 m pc ls (.ref ax :: rest)) :=
  va_get (C := RX1) (T := TX1) (N := 13) (ci := 1) hx hb hts hin hown hK hP 0 rfl rfl k hk (hts _ hlink) hsame hv hdg kk
theorem c_put (hx : p.tables.exec = Jvm.exec) (hb : c.code = cc) (hts : ∀ w ∈ Ts, w.before args s = true) (hin : ∀ w ∈ wsX10, w ∈ Ts) (hown : s.vm.findClass RX1 = some m.cls) (hK : va_K D vwCl tys s) (hP : va_P D vwCl (cW ax ar ad cO σ) H) (hD : va_D A0 (cW ax ar ad cO σ)) (hS : va_S A0 s.heap H locs) (k : Nat) (hk : k < 13) {index : Nat} (hlink : Cond.fieldLink RX1 index RX1 (TX1 k).2.1 (TX1 k).2.2.1 ∈ Ts) {v : Value} {ty : FieldType} (τ : St) (hτ : (cF ar σ).set k v = cF ar τ) (ho : ∀ j, sF τ j = sF σ j) (hl : k < 13)
    (hfin : (TX1 k).2.2.2 = false) (hd : parseFieldDescriptor (TX1 k).2.2.1 = some ty) (hn : narrow ty v = v) (hfit : fits ty v = true) (hdg : decode cc pc = .ok (.putfield index, 3))
    (hsame : ∀ x, s.fieldFound? (TX1 k).1 (TX1 k).2.1 (TX1 k).2.2.1 = some x → s.fieldFound? RX1 (TX1 k).2.1 (TX1 k).2.2.1 = some x)
    (kk : ∀ (H1 : Heap) (locs1 : List Loc), va_P D vwCl (cW ax ar ad cO τ) H1 → va_D A0 (cW ax ar ad cO τ) → va_S A0 s.heap H1 locs1 → W p l e R s m args below meth c H1 locs1 cells slots Q (F0 m (pc + 3) ls rest)) : W p l e R s m args below meth c H locs cells slots Q (F0 m pc ls (v :: .ref ax :: rest)) :=
  va_put (C := RX1) (T := TX1) (N := 13) (ci := 1) hx hb hts hin tyX1 tyX1_ok nmX1 hown hK hP hD hS 0 rfl rfl k hk (hts _ hlink) hsame hfin hd hn hfit hl hdg (fun H1 locs1 h1 h2 h3 => by
    rw [cW_setC σ τ (by rw [hτ]) ho] at h1 h2
    exact kk H1 locs1 h1 h2 h3)
/-! ===== a slot's fields, from the class that it is nested in ===== -/
theorem s_get (hx : p.tables.exec = Jvm.exec) (hb : c.code = cc) (hts : ∀ w ∈ Ts, w.before args s = true) (hin : ∀ w ∈ wsX00, w ∈ Ts) (hown : s.vm.findClass RX1 = some m.cls) (hK : va_K D vwCl tys s) (hE : xE A0 s s.heap) (hP : va_P D vwCl (cW ax ar ad cO σ) H) {k : Nat} (hk : k < 32) (j : Nat) (hj : j < 9) {index : Nat} (hi : xNs j = index) {v : Value} (hv : (sF σ k)[j]? = some v) (hdg : decode cc pc = .ok (.getfield index, 3))
    (hsame : ∀ x, s.fieldFound? (TX0 j).1 (TX0 j).2.1 (TX0 j).2.2.1 = some x → s.fieldFound? RX0 (TX0 j).2.1 (TX0 j).2.2.1 = some x)
    (kk : W p l e R s m args below meth c H locs cells slots Q (F0 m (pc + 3) ls (v :: rest))) : W p l e R s m args below meth c H locs cells slots Q (F0 m pc ls (.ref (ad k) :: rest)) := by
  subst hi
  exact va_getN (C := RX0) (T := TX0) (N := 9) (ci := 0) hx hb hts hin hown hK hP (k + 2) (cW_slot σ hk) rfl j hj (va_Nw.use rfl (hE.1.1 j hj)) hsame hv hdg kk
theorem s_put (hx : p.tables.exec = Jvm.exec) (hb : c.code = cc) (hts : ∀ w ∈ Ts, w.before args s = true) (hin : ∀ w ∈ wsX00, w ∈ Ts) (hown : s.vm.findClass RX1 = some m.cls) (hK : va_K D vwCl tys s) (hE : xE A0 s s.heap) (hP : va_P D vwCl (cW ax ar ad cO σ) H) (hD : va_D A0 (cW ax ar ad cO σ)) (hS : va_S A0 s.heap H locs) {k : Nat} (hk : k < 32) (j : Nat) (hj : j < 9) {index : Nat} (hi : xNs j = index) {v : Value} {ty : FieldType} (τ : St) (hτ : (sF σ k).set j v = sF τ k) (ho : ∀ i, i ≠ k → sF τ i = sF σ i) (hc : cF ar τ = cF ar σ)
    (hfin : (TX0 j).2.2.2 = false) (hd : parseFieldDescriptor (TX0 j).2.2.1 = some ty) (hn : narrow ty v = v) (hfit : fits ty v = true) (hdg : decode cc pc = .ok (.putfield index, 3))
    (hsame : ∀ x, s.fieldFound? (TX0 j).1 (TX0 j).2.1 (TX0 j).2.2.1 = some x → s.fieldFound? RX0 (TX0 j).2.1 (TX0 j).2.2.1 = some x)
    (kk : ∀ (H1 : Heap) (locs1 : List Loc), va_P D vwCl (cW ax ar ad cO τ) H1 → va_D A0 (cW ax ar ad cO τ) → va_S A0 s.heap H1 locs1 → W p l e R s m args below meth c H1 locs1 cells slots Q (F0 m (pc + 3) ls rest)) : W p l e R s m args below meth c H locs cells slots Q (F0 m pc ls (v :: .ref (ad k) :: rest)) := by
  subst hi
  exact va_putN (C := RX0) (T := TX0) (N := 9) (ci := 0) hx hb hts hin tyX0 tyX0_ok nmX0 hown hK hP hD hS (k + 2) (cW_slot σ hk) rfl j hj (va_Nw.use rfl (hE.1.1 j hj)) hsame hfin hd hn hfit hj hdg (fun H1 locs1 h1 h2 h3 => by
    rw [cW_setS σ τ hk (by rw [hτ]) ho hc] at h1 h2
    exact kk H1 locs1 h1 h2 h3)
/-! ===== the row of slots ===== -/
theorem c_alen (hx : p.tables.exec = Jvm.exec) (hb : c.code = cc) (hK : va_K D vwCl [(cO, .object RX0)] s) (hP : va_P D vwCl (cW ax ar ad cO σ) H) (hdg : decode cc pc = .ok (.arraylength, 1))
    (kk : W p l e R s m args below meth c H locs cells slots Q (F0 m (pc + 1) ls (.int 32 :: rest))) : W p l e R s m args below meth c H locs cells slots Q (F0 m pc ls (.ref ar :: rest)) :=
  va_alen hx hb hK hP 1 0 rfl rfl rfl hdg kk
theorem c_aald (hx : p.tables.exec = Jvm.exec) (hb : c.code = cc) (hK : va_K D vwCl [(cO, .object RX0)] s) (hP : va_P D vwCl (cW ax ar ad cO σ) H) {k : Nat} (hk : k < 32) (hdg : decode cc pc = .ok (.aaload, 1))
    (kk : W p l e R s m args below meth c H locs cells slots Q (F0 m (pc + 1) ls (.ref (ad k) :: rest))) : W p l e R s m args below meth c H locs cells slots Q (F0 m pc ls (.int (nI k) :: .ref ar :: rest)) := by
  refine va_aldq hx hb hK hP 1 0 rfl rfl (vp_in_nI hk (by decide)) hdg ?_
  show W p l e R s m args below meth c H locs cells slots Q (F0 m (pc + 1) ls (va_rf (some (ad (nI k).toNatClampNeg)) :: rest))
  rw [nI_clamp (Nat.lt_trans hk (by decide))]
  exact kk
/-! ===== the reference's fields and rows ===== -/
end XF
theorem cF_uI (ar : Nat) (σ : St) (v : Int32) : (cF ar σ).set 1 (.int v) = cF ar (uI σ 1 v) ∧ (cF ar σ).set 3 (.int v) = cF ar (uI σ 3 v) ∧ (cF ar σ).set 4 (.int v) = cF ar (uI σ 4 v) ∧ (cF ar σ).set 6 (.int v) = cF ar (uI σ 6 v) ∧ (cF ar σ).set 7 (.int v) = cF ar (uI σ 7 v) ∧ (cF ar σ).set 11 (.int v) = cF ar (uI σ 11 v) ∧ (cF ar σ).set 12 (.int v) = cF ar (uI σ 12 v) := by
  refine ⟨?_, ?_, ?_, ?_, ?_, ?_, ?_⟩ <;> rfl
theorem cF_uL (ar : Nat) (σ : St) (v : Int64) : (cF ar σ).set 2 (.long v) = cF ar (uL σ 2 v) ∧ (cF ar σ).set 5 (.long v) = cF ar (uL σ 5 v) ∧ (cF ar σ).set 8 (.long v) = cF ar (uL σ 8 v) ∧ (cF ar σ).set 9 (.long v) = cF ar (uL σ 9 v) ∧ (cF ar σ).set 10 (.long v) = cF ar (uL σ 10 v) := by
  refine ⟨?_, ?_, ?_, ?_, ?_⟩ <;> rfl
theorem sF_self (σ : St) (k : Nat) : (∀ v : Int32, (sF σ k).set 3 (.int v) = sF (uS σ 3 k v) k) ∧ (∀ v : Int32, (sF σ k).set 4 (.int v) = sF (uS σ 4 k v) k) ∧ (∀ v : Int32, (sF σ k).set 5 (.int v) = sF (uS σ 5 k v) k) ∧ (∀ v : Int32, (sF σ k).set 8 (.int v) = sF (uS σ 8 k v) k) ∧ (∀ v : Int64, (sF σ k).set 6 (.long v) = sF (uT σ 6 k v) k) ∧ (∀ v : Int64, (sF σ k).set 7 (.long v) = sF (uT σ 7 k v) k) ∧ (∀ v : Bool, (sF σ k).set 1 (.int (bI v)) = sF (uB σ 1 k v) k) ∧ (∀ v : Bool, (sF σ k).set 2 (.int (bI v)) = sF (uB σ 2 k v) k) := by
  refine ⟨?_, ?_, ?_, ?_, ?_, ?_, ?_, ?_⟩ <;> intro v <;> simp [sF, gS, gT, gB, uS, uT, uB, va_up]
theorem sF_other (σ : St) {k i : Nat} (h : i ≠ k) : (∀ v : Int32, sF (uS σ 3 k v) i = sF σ i) ∧ (∀ v : Int32, sF (uS σ 4 k v) i = sF σ i) ∧ (∀ v : Int32, sF (uS σ 5 k v) i = sF σ i) ∧ (∀ v : Int32, sF (uS σ 8 k v) i = sF σ i) ∧ (∀ v : Int64, sF (uT σ 6 k v) i = sF σ i) ∧ (∀ v : Int64, sF (uT σ 7 k v) i = sF σ i) ∧ (∀ v : Bool, sF (uB σ 1 k v) i = sF σ i) ∧ (∀ v : Bool, sF (uB σ 2 k v) i = sF σ i) := by
  refine ⟨?_, ?_, ?_, ?_, ?_, ?_, ?_, ?_⟩ <;> intro v <;> simp [sF, gS, gT, gB, uS, uT, uB, va_up, h]