/-! THE CLAIM OUT OF ONE WALK OF THE LAW'S BODY. Your part is whole_start (and what it stands on); all else here is the same for every law, but numbers. -/
def R_law : String := "WorthCacheLaw"
def lw_P (b : Addr) (xs : List Int32) (args : Array Value) (s : State) : Prop := args = #[.ref b] ∧ s.IntsAt b xs ∧ xs.length ≤ 260 ∧ (Jvm.Cond.and given_1 narrow_1).before args s = true
def lw_Q (_ : Array Value) (s : State) (o : Outcome) (t : State) : Prop := o = .returned (some (.int 1)) ∧ Framed s o t [] room_1.cells room_1.slots
def lw_Z (below : List Frame) (a : Array Value) (s : State) : State → Prop := fun t => ∃ o, t.status = .running ∧ Ended t below o ∧ lw_Q a s o t
/-- the law's own end, with 1 on the stack, nothing written that was there before, its room as the claim has it -/
theorem lw_ret {p : Program} {l : Launch} {e : Env} {s : State} {m : MethodId} {below : List Frame} {meth : Method} {c : Code} {b : Nat} (hx : p.tables.exec = Jvm.exec) (hb : c.code = code) (hr : meth.sig.returnType = ret) (hlocks : meth.locks = false) {pc : Nat} {H : Heap} {ls : Array Slot} (hdg : decode code pc = .ok (.ireturn, 1)) : W p l e room_1 s m #[Value.ref b] below meth c H [] room_1.cells room_1.slots (lw_Z below #[Value.ref b] s) (F0 m pc ls [.int 1]) := by
  intro T hT X
  obtain ⟨fs, hret, hrun, hended, hW, hframe⟩ := X.leave (v := some (.int 1)) (hlocks := hlocks) (fun h => by rw [hr] at h; cases h)
  have hmeth' : T.vm.method? m = some meth := X.method'
  refine ⟨T.setFrames fs, ?_, .returned (some (.int 1)), hrun, hended, rfl, ⟨_, rfl⟩, hW, hframe⟩
  jvm_step X.here [X.here.top, hx, hb, hdg, hmeth', hr, ret, narrow_b1]
  (try refine ⟨rfl, ?_⟩); (try refine ⟨rfl, ?_⟩)
  first | (intro acts; rw [hret _ acts rfl rfl rfl]) | rw [hret _ _ rfl rfl rfl]
  exact Steps.refl _
/-- what holds at the law's entry: the machine, the code, the tables' words (any of lw_tbl by 'hts w (by decide +kernel)'), the script of L ints xs at the cell b, what the Statement gives of the start (any of its parts by flat_of_before) -/
def lw_At (p : Program) (s : State) (m : MethodId) (meth : Method) (c : Code) (b L : Nat) (xs : Nat → Int32) : Prop :=
  p.tables.exec = Jvm.exec ∧ c.code = code ∧ meth.sig.returnType = ret ∧ c.maxLocals = 20 ∧ s.vm.findClass R_law = some m.cls ∧ (∀ w ∈ lw_tbl, w.before #[Value.ref b] s = true) ∧ va_X b L xs s s.heap ∧ b < s.heap.size ∧ meth.locks = false ∧ (Jvm.Cond.and given_1 narrow_1).before #[Value.ref b] s = true
-- ===== YOUR PART BEGINS =====

theorem tbl_nest : ∀ k, k < 9 → Cond.fieldLinkNest RX1 (xNs k) RX0 (TX0 k).2.1 (TX0 k).2.2.1 RX1 ∈ lw_tbl := by decide +kernel
theorem tbl_str : ∀ q ∈ xStr, Cond.stringRef RX1 q.1 q.2 ∈ lw_tbl := by decide +kernel
theorem tbl_dec : ∀ q ∈ xDec, Cond.declares q ∈ lw_tbl := by decide +kernel
theorem tbl_cast : ∀ q ∈ [xIO, xIA, xIS], Cond.castable q q ∈ lw_tbl := by decide +kernel
theorem nar_str : ∀ q ∈ xStr, Cond.exactly (.string RX1 q.1) "java/lang/String" ∈ flatC (Jvm.Cond.and given_1 narrow_1) := by decide +kernel
theorem nar_nc : ∀ q ∈ xNc, Cond.not (.castable q.1 q.2) ∈ flatC (Jvm.Cond.and given_1 narrow_1) := by decide +kernel
theorem nar_st1 : Cond.isRef (.static Bundle.tN "UNASSIGNED_STACK" Bundle.steD) ∈ flatC (Jvm.Cond.and given_1 narrow_1) := by decide +kernel
theorem nar_st2 : Cond.isRef (.static Bundle.tN "SUPPRESSED_SENTINEL" Bundle.listD) ∈ flatC (Jvm.Cond.and given_1 narrow_1) := by decide +kernel
theorem tbl_ls1 : Cond.laysStatic Bundle.tN "UNASSIGNED_STACK" Bundle.steD ∈ lw_tbl := by decide +kernel
theorem tbl_ls2 : Cond.laysStatic Bundle.tN "SUPPRESSED_SENTINEL" Bundle.listD ∈ lw_tbl := by decide +kernel
theorem tbl_ini : Cond.initialized Bundle.tN ∈ lw_tbl := by decide +kernel
theorem tbl_ao : Cond.arrayOver (.object RX0) ∈ lw_tbl := by decide +kernel
theorem tbl_mn : xN ∈ lw_tbl := by decide +kernel
theorem xE_of {s : State} {b : Nat} (hts : ∀ w ∈ lw_tbl, w.before #[Value.ref b] s = true) (hgv : (Jvm.Cond.and given_1 narrow_1).before #[Value.ref b] s = true) : xE (fun q : Nat => s.heap.size ≤ q) s s.heap := by
  have hs := flat_of_before _ hgv
  have hz : ∀ a : Nat, a < s.heap.size → ¬ (fun q : Nat => s.heap.size ≤ q) a := fun a h => Nat.not_le.mpr h
  refine ⟨⟨fun k hk => va_Nw.of rfl (hts _ (tbl_nest k hk)), fun q hq => ?_, fun q hq => va_Nw.of rfl (hts _ (tbl_dec q hq)), fun q hq => va_Nw.of rfl (hts _ (tbl_cast q hq)), fun q hq => va_Nc.of (hs _ (nar_nc q hq))⟩, vx_Zqof (hts _ tbl_ls1) (hts _ tbl_ini) (hs _ nar_st1) hz, vx_Zqof (hts _ tbl_ls2) (hts _ tbl_ini) (hs _ nar_st2) hz⟩
  obtain ⟨a, c9, cA, kA, q1, -⟩ := Cond.exactly_spec (args := #[Value.ref b]) (first := s) (o := none) (s := s) (idx := []) (t := .string RX1 q.1) (cls := "java/lang/String") (hs _ (nar_str q hq))
  exact ⟨a, vk_R.of (hts _ (tbl_str q hq)) q1⟩
set_option maxHeartbeats 4000000 in
set_option maxRecDepth 100000 in
theorem whole_start {p : Program} {e : Env} {s : State} {m : MethodId} {below : List Frame} {meth : Method} {c : Code} (l : Launch) (hflags : l.flags = flags0) {b L : Nat} {xs : Nat → Int32} (hL : L ≤ 260) (C0 : lw_At p s m meth c b L xs) : W p l e room_1 s m #[Value.ref b] below meth c s.heap [] 0 0 (lw_Z below #[Value.ref b] s) (entryFrame m ([Value.ref b] : List Value).toArray 20) := by
  obtain ⟨hx, hb, hr, hml, hown, hts0, hX, hbl, hlocks, hgv⟩ := id C0
  have hfl : l.stackTraces = false := by unfold Launch.stackTraces; rw [hflags]; decide +kernel
  have hts : ∀ w ∈ wsL_law, w.before #[Value.ref b] s = true := fun w h => hts0 w (wsL_law_in w h)
  have hE := xE_of hts0 hgv
  obtain ⟨A, hAe⟩ : ∃ A : Nat → Prop, A = (fun q : Nat => s.heap.size ≤ q) := ⟨_, rfl⟩
  rw [← hAe] at hE
  have hA : ∀ q : Nat, s.heap.size ≤ q → A q := fun q h => by rw [hAe]; exact h
  have hbA : ¬ A b := by rw [hAe]; exact Nat.not_le.mpr hbl
  have hown : s.vm.findClass RL = some m.cls := hown
  obtain ⟨c0, iS0, hKn0⟩ := u_known (C := RX0) (T := TX0) (N := 9) (n := 9) hts inlX0 (hts (.instantiable RX0 9) (by decide +kernel))
  obtain ⟨c1, iS1, hKn1⟩ := u_known (C := RX1) (T := TX1) (N := 13) (n := 13) hts inlX1 (hts (.instantiable RX1 13) (by decide +kernel))
  obtain ⟨D, hKc⟩ : ∃ D : va_G, ∀ (k : Nat) (q : vw_C), vwCl[k]? = some q → u_Kn s q.1 q.2.1 q.2.2 (D.1 k) (D.2 k) := by
    refine ⟨(fun k => if k = 0 then c0 else c1, fun k => if k = 0 then iS0 else iS1), ?_⟩
    intro k q hq
    match k, hq with
    | 0, hq => cases hq; exact hKn0
    | 1, hq => cases hq; exact hKn1
    | k + 2, hq => simp [vwCl] at hq
  have hS : va_S A s.heap s.heap [] := va_S.rf
  have hK : va_K D vwCl [] s := ⟨hKc, fun k q h => by simp at h⟩
  have hP : va_P D vwCl [] s.heap := fun k q h => by simp at h
  have hD : va_D A [] := ⟨fun i j p q h => by simp at h, fun k q h => by simp at h⟩
  have hl := lv_entry ([.ref b]) (n := 20) (Nat.le_of_ble_eq_true rfl)
  rw [lg_entry_eq]
  generalize (lg_sl ([.ref b]) ++ List.replicate (20 - (lg_sl ([.ref b])).length) Slot.unset).toArray = ls at hl ⊢
  have hl : lv_has ls 20 [(0, .ref b)] := hl
  refine va_new (ci := 1) (fs := z1) (C := RX1) (T := TX1) (N := 13) hx hb hts inlX1 tyX1 tyX1_ok hown (hts (.classLink RL 44 RX1) (by decide +kernel)) (hts (.instantiable RX1 13) (by decide +kernel)) (hts (.initialized RX1) (by decide +kernel)) hK hP hD hS hA rfl (fun j hj => by rcases (show j = 0 ∨ j = 1 ∨ j = 2 ∨ j = 3 ∨ j = 4 ∨ j = 5 ∨ j = 6 ∨ j = 7 ∨ j = 8 ∨ j = 9 ∨ j = 10 ∨ j = 11 ∨ j = 12 by omega) with rfl | rfl | rfl | rfl | rfl | rfl | rfl | rfl | rfl | rfl | rfl | rfl | rfl <;> rfl) (Nat.le_of_ble_eq_true rfl) (Nat.le_of_ble_eq_true rfl) dL_law_0 (fun ax H hP hD hS => ?_)
  have hP : va_P D vwCl (wI1 ax z1) H := hP
  have hD : va_D A (wI1 ax z1) := hD
  refine W.widen (k := 1) (n := 13) (by omega) (by omega) ?_
  refine lv_dup hx hb dL_law_3 rfl ?_
  refine va_callv (va_runI (As := []) (rest := [.ref ax]) ⟨hx, hb, hml, hown, hts⟩ (k_X1_init l D ax H.size) (cwI 0 hts gL_law_X1_init rfl rfl rfl (hts (.initialized RX1) (by decide +kernel)) (hts (.methodLink RL 142 yX1_init) (by decide +kernel)) (hts (.instanceMethod yX1_init) (by decide +kernel)) rfl (by decide +kernel) ⟨Nat.le_of_ble_eq_true rfl, Nat.le_of_ble_eq_true rfl⟩) (xPreS (w := wI1 ax) (σ := z1) (A0 := A) xNE_ok ⟨va_AO.of (hts0 _ tbl_ao), va_Nw.of rfl (hts0 _ tbl_mn)⟩ hK hA hP hD hS) rfl rfl hl.1 rfl (lv_room (Nat.le_of_ble_eq_true rfl)) dL_law_4 ⟨Nat.le_of_ble_eq_true rfl, Nat.le_of_ble_eq_true rfl⟩) hS (fun q _ h => xA_in (w := wI1 ax) (σ := z1) hD hS hA q h) (xA_in (w := wI1 ax) (σ := z1) hD hS hA) (fun u t H1 locs ht hvm hw hB hz1 hk1 hS1 => ?_)
  obtain ⟨ar, ad, cO⟩ := u
  obtain ⟨hP1, hK1, hD1⟩ := hB
  rw [ht] at hP1
  have hK : va_K D vwCl (cT cO) s := va_K.moved hvm.symm hK1
  have hP : va_P D vwCl (cW ax ar ad cO σ0) H1 := hP1
  have hD : va_D A (cW ax ar ad cO σ0) := hD1.weaken (fun k q _ h => xA_in (w := wI1 ax) (σ := z1) hD hS hA q.1 h)
  rw [cW_S] at hP hD
  have hS := hS1
  clear hS1 hP1 hD1 hk1 hz1 hK1
  refine W.widen (k := 34) (n := 333) (by omega) (by omega) ?_
  refine lv_astore_n (lv' := [(1, .ref ax), (0, .ref b)]) hx hb dL_law_7 rfl hl (by decide) rfl (fun ls hl => ?_)
  have hP : va_P D vwCl (cW ax ar ad cO σS ++ []) H1 := by rw [List.append_nil]; exact hP
  have hD : va_D A (cW ax ar ad cO σS ++ []) := by rw [List.append_nil]; exact hD
  refine lv_bipush (v := 32) hx hb dL_law_8 (by decide) ?_
  refine va_newa (atype := .int) (N' := 32) (a0 := (32, .inl (fun _ => 0))) hx hb (hts (.arrayClass .int) (by decide +kernel)) rfl hK hP hD hS hA (fun _ => rfl) (by decide) (by decide) (by decide) (Nat.le_of_ble_eq_true rfl) (Nat.le_of_ble_eq_true rfl) dL_law_10 (fun q0 cI H1 hK hP hD hS => ?_)
  have hK : va_K D vwCl [(cO, .object RX0), (cI, .int)] s := hK
  have hP : va_P D vwCl (cW ax ar ad cO σS ++ [(q0, .inl (cI, 32, .inl (fun _ => 0)))]) H1 := P_a hP
  have hD : va_D A (cW ax ar ad cO σS ++ [(q0, .inl (cI, 32, .inl (fun _ => 0)))]) := D_a hD
  refine lv_astore_n (lv' := [(2, .ref q0), (1, .ref ax), (0, .ref b)]) hx hb dL_law_12 rfl hl (by decide) rfl (fun ls hl => ?_)
  refine lv_bipush (v := 32) hx hb dL_law_13 (by decide) ?_
  refine va_newa (atype := .int) (N' := 32) (a0 := (32, .inl (fun _ => 0))) hx hb (hts (.arrayClass .int) (by decide +kernel)) rfl hK hP hD hS hA (fun _ => rfl) (by decide) (by decide) (by decide) (Nat.le_of_ble_eq_true rfl) (Nat.le_of_ble_eq_true rfl) dL_law_15 (fun q1 c91 H1 hK hP hD hS => ?_)
  obtain rfl : cI = c91 := va_K.one (i := 1) (j := 2) (t := .int) hK rfl rfl (fun _ h => nomatch h)
  have hK : va_K D vwCl [(cO, .object RX0), (cI, .int)] s := hK.sub [0, 1] rfl
  have hP : va_P D vwCl (cW ax ar ad cO σS ++ [(q0, .inl (cI, 32, .inl (fun _ => 0))), (q1, .inl (cI, 32, .inl (fun _ => 0)))]) H1 := P_a hP
  have hD : va_D A (cW ax ar ad cO σS ++ [(q0, .inl (cI, 32, .inl (fun _ => 0))), (q1, .inl (cI, 32, .inl (fun _ => 0)))]) := D_a hD
  refine lv_astore_n (lv' := [(3, .ref q1), (2, .ref q0), (1, .ref ax), (0, .ref b)]) hx hb dL_law_17 rfl hl (by decide) rfl (fun ls hl => ?_)
  refine lv_bipush (v := 32) hx hb dL_law_18 (by decide) ?_
  refine va_newa (atype := .int) (N' := 32) (a0 := (32, .inl (fun _ => 0))) hx hb (hts (.arrayClass .int) (by decide +kernel)) rfl hK hP hD hS hA (fun _ => rfl) (by decide) (by decide) (by decide) (Nat.le_of_ble_eq_true rfl) (Nat.le_of_ble_eq_true rfl) dL_law_20 (fun q2 c92 H1 hK hP hD hS => ?_)
  obtain rfl : cI = c92 := va_K.one (i := 1) (j := 2) (t := .int) hK rfl rfl (fun _ h => nomatch h)
  have hK : va_K D vwCl [(cO, .object RX0), (cI, .int)] s := hK.sub [0, 1] rfl
  have hP : va_P D vwCl (cW ax ar ad cO σS ++ [(q0, .inl (cI, 32, .inl (fun _ => 0))), (q1, .inl (cI, 32, .inl (fun _ => 0))), (q2, .inl (cI, 32, .inl (fun _ => 0)))]) H1 := P_a hP
  have hD : va_D A (cW ax ar ad cO σS ++ [(q0, .inl (cI, 32, .inl (fun _ => 0))), (q1, .inl (cI, 32, .inl (fun _ => 0))), (q2, .inl (cI, 32, .inl (fun _ => 0)))]) := D_a hD
  refine lv_astore (lv' := [(4, .ref q2), (3, .ref q1), (2, .ref q0), (1, .ref ax), (0, .ref b)]) hx hb dL_law_22 hl (by decide) rfl (fun ls hl => ?_)
  refine lv_bipush (v := 32) hx hb dL_law_24 (by decide) ?_
  refine va_newa (atype := .int) (N' := 32) (a0 := (32, .inl (fun _ => 0))) hx hb (hts (.arrayClass .int) (by decide +kernel)) rfl hK hP hD hS hA (fun _ => rfl) (by decide) (by decide) (by decide) (Nat.le_of_ble_eq_true rfl) (Nat.le_of_ble_eq_true rfl) dL_law_26 (fun q3 c93 H1 hK hP hD hS => ?_)
  obtain rfl : cI = c93 := va_K.one (i := 1) (j := 2) (t := .int) hK rfl rfl (fun _ h => nomatch h)
  have hK : va_K D vwCl [(cO, .object RX0), (cI, .int)] s := hK.sub [0, 1] rfl
  have hP : va_P D vwCl (cW ax ar ad cO σS ++ [(q0, .inl (cI, 32, .inl (fun _ => 0))), (q1, .inl (cI, 32, .inl (fun _ => 0))), (q2, .inl (cI, 32, .inl (fun _ => 0))), (q3, .inl (cI, 32, .inl (fun _ => 0)))]) H1 := P_a hP
  have hD : va_D A (cW ax ar ad cO σS ++ [(q0, .inl (cI, 32, .inl (fun _ => 0))), (q1, .inl (cI, 32, .inl (fun _ => 0))), (q2, .inl (cI, 32, .inl (fun _ => 0))), (q3, .inl (cI, 32, .inl (fun _ => 0)))]) := D_a hD
  refine lv_astore (lv' := [(5, .ref q3), (4, .ref q2), (3, .ref q1), (2, .ref q0), (1, .ref ax), (0, .ref b)]) hx hb dL_law_28 hl (by decide) rfl (fun ls hl => ?_)
  refine lv_bipush (v := 32) hx hb dL_law_30 (by decide) ?_
  refine va_newa (atype := .int) (N' := 32) (a0 := (32, .inl (fun _ => 0))) hx hb (hts (.arrayClass .int) (by decide +kernel)) rfl hK hP hD hS hA (fun _ => rfl) (by decide) (by decide) (by decide) (Nat.le_of_ble_eq_true rfl) (Nat.le_of_ble_eq_true rfl) dL_law_32 (fun q4 c94 H1 hK hP hD hS => ?_)
  obtain rfl : cI = c94 := va_K.one (i := 1) (j := 2) (t := .int) hK rfl rfl (fun _ h => nomatch h)
  have hK : va_K D vwCl [(cO, .object RX0), (cI, .int)] s := hK.sub [0, 1] rfl
  have hP : va_P D vwCl (cW ax ar ad cO σS ++ [(q0, .inl (cI, 32, .inl (fun _ => 0))), (q1, .inl (cI, 32, .inl (fun _ => 0))), (q2, .inl (cI, 32, .inl (fun _ => 0))), (q3, .inl (cI, 32, .inl (fun _ => 0))), (q4, .inl (cI, 32, .inl (fun _ => 0)))]) H1 := P_a hP
  have hD : va_D A (cW ax ar ad cO σS ++ [(q0, .inl (cI, 32, .inl (fun _ => 0))), (q1, .inl (cI, 32, .inl (fun _ => 0))), (q2, .inl (cI, 32, .inl (fun _ => 0))), (q3, .inl (cI, 32, .inl (fun _ => 0))), (q4, .inl (cI, 32, .inl (fun _ => 0)))]) := D_a hD
  refine lv_astore (lv' := [(6, .ref q4), (5, .ref q3), (4, .ref q2), (3, .ref q1), (2, .ref q0), (1, .ref ax), (0, .ref b)]) hx hb dL_law_34 hl (by decide) rfl (fun ls hl => ?_)
  refine lv_bipush (v := 33) hx hb dL_law_36 (by decide) ?_
  refine va_newa (atype := .int) (N' := 33) (a0 := (33, .inl (fun _ => 0))) hx hb (hts (.arrayClass .int) (by decide +kernel)) rfl hK hP hD hS hA (fun _ => rfl) (by decide) (by decide) (by decide) (Nat.le_of_ble_eq_true rfl) (Nat.le_of_ble_eq_true rfl) dL_law_38 (fun q5 c95 H1 hK hP hD hS => ?_)
  obtain rfl : cI = c95 := va_K.one (i := 1) (j := 2) (t := .int) hK rfl rfl (fun _ h => nomatch h)
  have hK : va_K D vwCl [(cO, .object RX0), (cI, .int)] s := hK.sub [0, 1] rfl
  have hP : va_P D vwCl (cW ax ar ad cO σS ++ [(q0, .inl (cI, 32, .inl (fun _ => 0))), (q1, .inl (cI, 32, .inl (fun _ => 0))), (q2, .inl (cI, 32, .inl (fun _ => 0))), (q3, .inl (cI, 32, .inl (fun _ => 0))), (q4, .inl (cI, 32, .inl (fun _ => 0))), (q5, .inl (cI, 33, .inl (fun _ => 0)))]) H1 := P_a hP
  have hD : va_D A (cW ax ar ad cO σS ++ [(q0, .inl (cI, 32, .inl (fun _ => 0))), (q1, .inl (cI, 32, .inl (fun _ => 0))), (q2, .inl (cI, 32, .inl (fun _ => 0))), (q3, .inl (cI, 32, .inl (fun _ => 0))), (q4, .inl (cI, 32, .inl (fun _ => 0))), (q5, .inl (cI, 33, .inl (fun _ => 0)))]) := D_a hD
  refine lv_astore (lv' := [(7, .ref q5), (6, .ref q4), (5, .ref q3), (4, .ref q2), (3, .ref q1), (2, .ref q0), (1, .ref ax), (0, .ref b)]) hx hb dL_law_40 hl (by decide) rfl (fun ls hl => ?_)
  refine lv_bipush (v := 8) hx hb dL_law_42 (by decide) ?_
  refine va_newa (atype := .int) (N' := 8) (a0 := (8, .inl (fun _ => 0))) hx hb (hts (.arrayClass .int) (by decide +kernel)) rfl hK hP hD hS hA (fun _ => rfl) (by decide) (by decide) (by decide) (Nat.le_of_ble_eq_true rfl) (Nat.le_of_ble_eq_true rfl) dL_law_44 (fun q6 c96 H1 hK hP hD hS => ?_)
  obtain rfl : cI = c96 := va_K.one (i := 1) (j := 2) (t := .int) hK rfl rfl (fun _ h => nomatch h)
  have hK : va_K D vwCl [(cO, .object RX0), (cI, .int)] s := hK.sub [0, 1] rfl
  have hP : va_P D vwCl (cW ax ar ad cO σS ++ [(q0, .inl (cI, 32, .inl (fun _ => 0))), (q1, .inl (cI, 32, .inl (fun _ => 0))), (q2, .inl (cI, 32, .inl (fun _ => 0))), (q3, .inl (cI, 32, .inl (fun _ => 0))), (q4, .inl (cI, 32, .inl (fun _ => 0))), (q5, .inl (cI, 33, .inl (fun _ => 0))), (q6, .inl (cI, 8, .inl (fun _ => 0)))]) H1 := P_a hP
  have hD : va_D A (cW ax ar ad cO σS ++ [(q0, .inl (cI, 32, .inl (fun _ => 0))), (q1, .inl (cI, 32, .inl (fun _ => 0))), (q2, .inl (cI, 32, .inl (fun _ => 0))), (q3, .inl (cI, 32, .inl (fun _ => 0))), (q4, .inl (cI, 32, .inl (fun _ => 0))), (q5, .inl (cI, 33, .inl (fun _ => 0))), (q6, .inl (cI, 8, .inl (fun _ => 0)))]) := D_a hD
  refine lv_astore (lv' := [(8, .ref q6), (7, .ref q5), (6, .ref q4), (5, .ref q3), (4, .ref q2), (3, .ref q1), (2, .ref q0), (1, .ref ax), (0, .ref b)]) hx hb dL_law_46 hl (by decide) rfl (fun ls hl => ?_)
  refine lv_bipush (v := 64) hx hb dL_law_48 (by decide) ?_
  refine va_newa (atype := .long) (N' := 64) (a0 := (64, .inr (.inl (fun _ => 0)))) hx hb (hts (.arrayClass .long) (by decide +kernel)) rfl hK hP hD hS hA (fun _ => rfl) (by decide) (by decide) (by decide) (Nat.le_of_ble_eq_true rfl) (Nat.le_of_ble_eq_true rfl) dL_law_50 (fun q7 cJ H1 hK hP hD hS => ?_)
  have hK : va_K D vwCl [(cO, .object RX0), (cI, .int), (cJ, .long)] s := hK
  have hP : va_P D vwCl (cW ax ar ad cO σS ++ [(q0, .inl (cI, 32, .inl (fun _ => 0))), (q1, .inl (cI, 32, .inl (fun _ => 0))), (q2, .inl (cI, 32, .inl (fun _ => 0))), (q3, .inl (cI, 32, .inl (fun _ => 0))), (q4, .inl (cI, 32, .inl (fun _ => 0))), (q5, .inl (cI, 33, .inl (fun _ => 0))), (q6, .inl (cI, 8, .inl (fun _ => 0))), (q7, .inl (cJ, 64, .inr (.inl (fun _ => 0))))]) H1 := P_a hP
  have hD : va_D A (cW ax ar ad cO σS ++ [(q0, .inl (cI, 32, .inl (fun _ => 0))), (q1, .inl (cI, 32, .inl (fun _ => 0))), (q2, .inl (cI, 32, .inl (fun _ => 0))), (q3, .inl (cI, 32, .inl (fun _ => 0))), (q4, .inl (cI, 32, .inl (fun _ => 0))), (q5, .inl (cI, 33, .inl (fun _ => 0))), (q6, .inl (cI, 8, .inl (fun _ => 0))), (q7, .inl (cJ, 64, .inr (.inl (fun _ => 0))))]) := D_a hD
  refine lv_astore (lv' := [(9, .ref q7), (8, .ref q6), (7, .ref q5), (6, .ref q4), (5, .ref q3), (4, .ref q2), (3, .ref q1), (2, .ref q0), (1, .ref ax), (0, .ref b)]) hx hb dL_law_52 hl (by decide) rfl (fun ls hl => ?_)
  refine lv_iconst (v := 5) hx hb dL_law_54 (by decide) ?_
  refine va_newa (atype := .long) (N' := 5) (a0 := (5, .inr (.inl (fun _ => 0)))) hx hb (hts (.arrayClass .long) (by decide +kernel)) rfl hK hP hD hS hA (fun _ => rfl) (by decide) (by decide) (by decide) (Nat.le_of_ble_eq_true rfl) (Nat.le_of_ble_eq_true rfl) dL_law_55 (fun q8 c98 H1 hK hP hD hS => ?_)
  obtain rfl : cJ = c98 := va_K.one (i := 2) (j := 3) (t := .long) hK rfl rfl (fun _ h => nomatch h)
  have hK : va_K D vwCl [(cO, .object RX0), (cI, .int), (cJ, .long)] s := hK.sub [0, 1, 2] rfl
  have hP : va_P D vwCl (cW ax ar ad cO σS ++ [(q0, .inl (cI, 32, .inl (fun _ => 0))), (q1, .inl (cI, 32, .inl (fun _ => 0))), (q2, .inl (cI, 32, .inl (fun _ => 0))), (q3, .inl (cI, 32, .inl (fun _ => 0))), (q4, .inl (cI, 32, .inl (fun _ => 0))), (q5, .inl (cI, 33, .inl (fun _ => 0))), (q6, .inl (cI, 8, .inl (fun _ => 0))), (q7, .inl (cJ, 64, .inr (.inl (fun _ => 0)))), (q8, .inl (cJ, 5, .inr (.inl (fun _ => 0))))]) H1 := P_a hP
  have hD : va_D A (cW ax ar ad cO σS ++ [(q0, .inl (cI, 32, .inl (fun _ => 0))), (q1, .inl (cI, 32, .inl (fun _ => 0))), (q2, .inl (cI, 32, .inl (fun _ => 0))), (q3, .inl (cI, 32, .inl (fun _ => 0))), (q4, .inl (cI, 32, .inl (fun _ => 0))), (q5, .inl (cI, 33, .inl (fun _ => 0))), (q6, .inl (cI, 8, .inl (fun _ => 0))), (q7, .inl (cJ, 64, .inr (.inl (fun _ => 0)))), (q8, .inl (cJ, 5, .inr (.inl (fun _ => 0))))]) := D_a hD
  refine lv_astore (lv' := [(10, .ref q8), (9, .ref q7), (8, .ref q6), (7, .ref q5), (6, .ref q4), (5, .ref q3), (4, .ref q2), (3, .ref q1), (2, .ref q0), (1, .ref ax), (0, .ref b)]) hx hb dL_law_57 hl (by decide) rfl (fun ls hl => ?_)
  refine W.widen (k := 43) (n := 603) (by decide) (by decide) ?_
  obtain ⟨be, e0, e1, e2, e3, e4, e5, e6, e7, e8⟩ : ∃ be : Nat → Nat, be 0 = q0 ∧ be 1 = q1 ∧ be 2 = q2 ∧ be 3 = q3 ∧ be 4 = q4 ∧ be 5 = q5 ∧ be 6 = q6 ∧ be 7 = q7 ∧ be 8 = q8 := ⟨fun j => match j with | 0 => q0 | 1 => q1 | 2 => q2 | 3 => q3 | 4 => q4 | 5 => q5 | 6 => q6 | 7 => q7 | 8 => q8 | _ => 0, rfl, rfl, rfl, rfl, rfl, rfl, rfl, rfl, rfl⟩
  rw [← e0, ← e1, ← e2, ← e3, ← e4, ← e5, ← e6, ← e7, ← e8] at hP hD hl
  have hP : va_P D vwCl (lX be cI cJ (cW ax ar ad cO σS) (σT, fun _ => 0, 0)) H1 := by rw [lX_0]; exact P_c hP
  have hD : va_D A (lX be cI cJ (cW ax ar ad cO σS) (σT, fun _ => 0, 0)) := by rw [lX_0]; exact D_c hD
  have hK : va_K D vwCl (tX cI cJ (cT cO)) s := hK.sub [1, 2, 0] rfl
  have hl : lv_has ls 20 [(10, .ref (be 8)), (9, .ref (be 7)), (8, .ref (be 6)), (7, .ref (be 5)), (6, .ref (be 4)), (5, .ref (be 3)), (4, .ref (be 2)), (3, .ref (be 1)), (2, .ref (be 0)), (1, .ref ax), (0, .ref b)] := hl
  refine lv_aload hx hb dL_law_59 (lv_at hl 2 rfl) ?_
  refine lv_iconst (v := 1) hx hb dL_law_61 (by decide) ?_
  refine lv_bipush (v := 100) hx hb dL_law_62 (by decide) ?_
  refine l_st6_1 (v := 100) hx hb hK hP hD hS dL_law_64 (fun H1 locs hP hD hS => ?_)
  refine lv_aload hx hb dL_law_65 (lv_at hl 2 rfl) ?_
  refine lv_iconst (v := 2) hx hb dL_law_67 (by decide) ?_
  refine lv_sipush (v := 1000) hx hb dL_law_68 (by decide) ?_
  refine l_st6_2 (v := 1000) hx hb hK hP hD hS dL_law_71 (fun H1 locs hP hD hS => ?_)
  have hP : va_P D vwCl (lX be cI cJ (cW ax ar ad cO σS) (σS, fun _ => 0, 0)) H1 := hP
  have hD : va_D A (lX be cI cJ (cW ax ar ad cO σS) (σS, fun _ => 0, 0)) := hD
  refine lv_aload_n hx hb dL_law_72 rfl (lv_at hl 9 rfl) ?_
  refine lv_aload_n hx hb dL_law_73 rfl (lv_at hl 8 rfl) ?_
  refine lv_aload_n hx hb dL_law_74 rfl (lv_at hl 7 rfl) ?_
  refine lv_aload hx hb dL_law_75 (lv_at hl 6 rfl) ?_
  refine lv_aload hx hb dL_law_77 (lv_at hl 5 rfl) ?_
  refine lv_aload hx hb dL_law_79 (lv_at hl 3 rfl) ?_
  refine lv_aload hx hb dL_law_81 (lv_at hl 2 rfl) ?_
  refine lv_aload hx hb dL_law_83 (lv_at hl 1 rfl) ?_
  refine lv_aload hx hb dL_law_85 (lv_at hl 0 rfl) ?_
  refine lv_bipush (v := 9) hx hb dL_law_87 (by decide) ?_
  refine W.eq (g2 := F0 m 89 ls [.int (nI 9), .ref (be 8), .ref (be 7), .ref (be 6), .ref (be 5), .ref (be 3), .ref (be 2), .ref (be 1), .ref (be 0), .ref ax]) rfl ?_
  obtain ⟨hV0, -, L0, hR0, hS0⟩ := si_0
  refine x_calli (va_runS (As := [.ref ax, .ref (be 0), .ref (be 1), .ref (be 2), .ref (be 3), .ref (be 5), .ref (be 6), .ref (be 7), .ref (be 8), .int (nI 9)]) (rest := []) ⟨hx, hb, hml, hown, hts⟩ (k_L_isCache l D be cI cJ ax ar ad cO H1.size σS (fun _ => 0) 0 9 (by decide) 0 hV0 L0 hR0 hS0 hfl) (va_cwS 10 hts gL_law_L_isCache rfl rfl rfl (by decide +kernel) ⟨Nat.le_of_ble_eq_true rfl, Nat.le_of_ble_eq_true rfl⟩) (xPreS xE_ok hE hK hA hP hD hS) rfl rfl hl.1 rfl (lv_room (Nat.le_of_ble_eq_true rfl)) dL_law_89 ⟨Nat.le_of_ble_eq_true rfl, Nat.le_of_ble_eq_true rfl⟩) hD hS hA (fun r u H1 locs hp hP hD hS => ?_)
  obtain ⟨rfl, hu9⟩ := hp
  rw [hu9] at hP hD
  refine W.widen (k := 300) (n := 2145) (by decide) (by decide) ?_
  refine lv_istore (lv' := [(11, .int 1), (10, .ref (be 8)), (9, .ref (be 7)), (8, .ref (be 6)), (7, .ref (be 5)), (6, .ref (be 4)), (5, .ref (be 3)), (4, .ref (be 2)), (3, .ref (be 1)), (2, .ref (be 0)), (1, .ref ax), (0, .ref b)]) hx hb dL_law_92 hl (by decide) rfl (fun ls hl => ?_)
  refine lv_iconst (v := 0) hx hb dL_law_94 (by decide) ?_
  refine lv_istore (lv' := [(12, .int 0), (11, .int 1), (10, .ref (be 8)), (9, .ref (be 7)), (8, .ref (be 6)), (7, .ref (be 5)), (6, .ref (be 4)), (5, .ref (be 3)), (4, .ref (be 2)), (3, .ref (be 1)), (2, .ref (be 0)), (1, .ref ax), (0, .ref b)]) hx hb dL_law_95 hl (by decide) rfl (fun ls hl => ?_)
  refine law_loop (ax := ax) (ar := ar) (ad := ad) (be := be) (D := D) (A := A) (cO := cO) (cI := cI) (cJ := cJ) ⟨hx, hb, hml, hown, hts, hE, hK, hA, hX, hbl, hbA, hfl, hL, hlocks⟩ ?_ 101 0 σS (fun _ => 0) 0 H1 locs ls (by omega) (by omega) si_0 hP hD hS (lv_sub hl [12, 11, 10, 9, 8, 7, 6, 5, 4, 3, 2, 1, 0] rfl)
  intro H9 locs9 ls9 cells9 slots9 h1 h2 hS9 hl9
  refine lv_iload hx hb dL_law_891 (lv_at hl9 0 rfl) ?_
  refine va_forget (fun q hq => by have := hS9.2.2 q hq; rw [hAe] at this; exact this) ?_
  refine W.widen (k := room_1.cells) (n := room_1.slots) h1 h2 ?_
  exact lw_ret hx hb hr hlocks dL_law_893
-- ===== YOUR PART ENDS =====
set_option maxHeartbeats 4000000 in
theorem lw_walk (l : Launch) (hflags : l.flags = flags0) (b : Addr) (xs : List Int32) : MetFree l x (headSpec (Jvm.Cond.code x code maxLocals ret :: tables_1) room_1) (lw_P b xs) (fun _ _ _ _ _ => True) lw_Q := by
  refine MetFree.of_bodyS (code := code) (maxLocals := maxLocals) (ret := ret) (by decide) ?_ ?_
  · intro args s m h hn
    obtain ⟨meth, c, h1, h2, h3, h4, h5, h6, -, -⟩ := Cond.code_spec hn (atoms_spec (ws := Jvm.Cond.code x code maxLocals ret :: tables_1) h _ List.mem_cons_self)
    exact ⟨meth, c, h1, h2, h3, h4, h5, h6⟩
  · intro p e s m args below meth c s₁ B hml0 hP _
    obtain ⟨rfl, hx, hbd, hgv⟩ := hP
    obtain ⟨scr, harrAt, hlist, hof, hsmall⟩ := hx
    obtain ⟨hcb, hkn, -, -⟩ := State.arrayAt?_spec harrAt
    have hown : s.vm.findClass R_law = some m.cls := findClass_of_methodNamed B.named
    have hts0 : ∀ c ∈ (Jvm.Cond.code x code maxLocals ret :: tables_1), c.before #[Value.ref b] s = true := atoms_spec (ws := Jvm.Cond.code x code maxLocals ret :: tables_1) B.pre
    have hts : ∀ w ∈ lw_tbl, w.before #[Value.ref b] s = true := k2_hts_sels lw_privs (fun w hw => hts0 w (List.mem_cons_of_mem _ hw)) lw_privs_ok
    have hml : c.maxLocals = 20 := B.maxLocals_eq (hts0 _ List.mem_cons_self)
    have X₀ : Stand p l e room_1 s m #[Value.ref b] below meth c s₁ [] 0 0 := Stand.of_body B
    have hh0 : s₁.heap = s.heap := by rw [B.state]; rfl
    have hsz : scr.slots.size = xs.length := by rw [← Array.length_toList, hlist, List.length_map]
    have hval : ∀ j : Nat, j < xs.length → scr.slots[j]? = some (.int (xs.getD j 0)) := fun j hj => by
      rw [← Array.getElem?_toList, hlist]
      simp [hj]
    have hbl : b < s.heap.size := (Array.getElem?_eq_some_iff.mp hcb).1
    have hX : va_X b xs.length (fun j => xs.getD j 0) s s.heap := ⟨scr, hcb, hof, hkn, hsz, hval⟩
    have K : W p l e room_1 s m #[Value.ref b] below meth c s₁.heap [] 0 0 (lw_Z below #[Value.ref b] s) (entryFrame m ([Value.ref b] : List Value).toArray 20) := by
      rw [hh0]
      exact whole_start l hflags hbd ⟨B.exec, B.bytes, B.returns, hml, hown, hts, hX, hbl, B.notSynchronized, hgv⟩
    obtain ⟨t, a1, o, b1, b2, b3⟩ := K s₁ rfl X₀
    exact ⟨t, o, a1, b1, b2, b3⟩
theorem lw_pre_spec {args : Array Value} {s : State} (h : (Jvm.Cond.and given_1 narrow_1).before args s = true) (hr : rest_1_c.before args s = true) : ∃ (b : Addr) (xs : List Int32), lw_P b xs args s := by
  have hs := flat_of_before _ h
  have hq := flat_of_before _ hr
  have hc : (Cond.count 1).before args s = true := hs _ (by decide +kernel)
  have harr : (Cond.arrayOf (.arg 0) .int).before args s = true := hs _ (by decide +kernel)
  have hle : (Cond.le (.length (.arg 0)) (.int 260)).before args s = true := hs _ (by decide +kernel)
  have hlen : (Cond.isInt (.length (.arg 0))).before args s = true := hq _ (by decide +kernel)
  have hall : (Cond.all (.arg 0) (.isInt (.elem (.arg 0) (.index 0)))).before args s = true := hq _ (by decide +kernel)
  obtain ⟨b, xs, hb, hx⟩ := State.ints_of_pre rfl harr hlen hall
  have hsm : xs.length < 2 ^ 31 := hx.choose_spec.2.2.2
  have hev : (Term.length (.arg 0)).eval args s none [] s = some (.int xs.length.toInt32) := hx.length_eval hb
  have hv := Cond.le_ints hev (show (Term.int 260).eval args s none [] s = some (.int 260) from rfl)
  have hd : xs.length.toInt32 ≤ 260 := by
    simpa [Cond.before, Cond.holds, hv] using hle
  have hN : xs.length ≤ 260 := (Int32.ofNat_le_ofNat hsm (by decide)).mp (show Int32.ofNat xs.length ≤ Int32.ofNat 260 from hd)
  exact ⟨b, xs, Cond.one_arg hc (show args[0]? = some (.ref b) from hb), hx, hN, h⟩
theorem lw_comes (l : Launch) (hflags : l.flags = flags0) : Comes l x (Jvm.Cond.code x code maxLocals ret :: tables_1) room_1 (fun tb e args s => Calls_1 tb e args s ∧ rest_1 tb e args s ∧ Pre_1 tb e args s)
    (fun _ _ args s o t => lw_Q args s o t) := by
  intro p e ha hc hk s m args below hf hfit hheap happ hpre
  obtain ⟨b, xs, hP⟩ := lw_pre_spec hpre.2.2 hpre.2.1
  obtain ⟨k, o, h1, h2, h3, hQ⟩ := lw_walk l hflags b xs p e ha hc hk s m args below hf ((Spec.applies_iff_loose hf).mp happ).1 hP trivial
  exact ⟨k, o, h1, h2, h3, hQ⟩
theorem lw_frame {s t : State} {o : Outcome} {args : Array Value} (h : Framed s o t [] room_1.cells room_1.slots) :
    Framed s o t (fieldLocs frame_1_writes args s ++ arrayLocs frame_1_arrays args s ++ staticLocs frame_1_statics s) room_1.cells room_1.slots := h
theorem lw_limb (L : Cond) (hL : ∀ (args : Array Value) (s t : State), L.after args s (.returned (some (.int 1))) t = true) :
    ArmFor flags0 classFile x code maxLocals ret World_1 tables_1 room_1 Calls_1 rest_1 Pre_1
      (fun tb e a s o t => postC L tb e a s o t ∧ Framed s o t (fieldLocs frame_1_writes a s ++ arrayLocs frame_1_arrays a s ++ staticLocs frame_1_statics s) room_1.cells room_1.slots) := by
  intro l hflags _ _ p e ha hc hk s m args below hf hfit hheap happ hpre
  obtain ⟨k, o, h1, h2, h3, rfl, hF⟩ := lw_comes l hflags p e ha hc hk s m args below hf hfit hheap happ hpre
  exact ⟨k, _, h1, h2, h3, hL args s _, lw_frame hF⟩
theorem i_vc : Claimed_1_1 ∧ Claimed_1_2 := ⟨lw_limb limb_1_1 (fun args s t => by simp [limb_1_1, Cond.after, Cond.holds, Cond.value]), lw_limb limb_1_2 (fun args s t => Cond.after_iff.mpr (by
  first | (rw [show limb_1_2 = Cond.eq .result (.int 1) from rfl, Cond.eq_ints (x := 1) (y := 1) rfl rfl]; simp; done) | (simp [limb_1_2, Cond.value, Term.eval]; done)))⟩
