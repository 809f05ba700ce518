set_option maxHeartbeats 4000000 in
set_option maxRecDepth 100000 in
theorem k_X2_thrown (l : Launch) (D : va_G) (bx : Nat) (ba : Nat → Nat) (cI cJ cZ : ClassId) (sz : Nat) (σ : St) : Met l yX2_thrown wsX2_thrown ({ frames := 0, cells := 0, slots := 0, locals := 0 } : Room) (va_Pc [.ref bx] (xPre D (mT cI cJ cZ) mE (mW bx ba cI cJ cZ) σ sz)) (va_Qi (fun (r : Int32) (u : St) => r = gI σ 20 ∧ u = σ) (xB D (mT cI cJ cZ) (mW bx ba cI cJ cZ) (va_A (mW bx ba cI cJ cZ σ) sz)) (va_A (mW bx ba cI cJ cZ σ) sz)) 0 0 (va_A (mW bx ba cI cJ cZ σ) sz) := by
  refine xOpen (w := (mW bx ba cI cJ cZ)) (σ := σ) (cc := cX2_thrown) (maxL := 1) (ret := some .int) (QQ := fun A => va_Qi (fun (r : Int32) (u : St) => r = gI σ 20 ∧ u = σ) (xB D (mT cI cJ cZ) (mW bx ba cI cJ cZ) A) A) (by decide) rfl (Nat.le_of_ble_eq_true rfl) ?_
  intro p e s m below meth c A hx hb hr hml hown hts hlocks hname hK hE hA hP hD hS ls hl
  have hl : lv_has ls 1 [(0, .ref bx)] := hl
  have hown : s.vm.findClass RX2 = some m.cls := hown
  have hi2 : ∀ w ∈ wsX20, w ∈ wsX2_thrown := (fun _ h => List.mem_cons_of_mem _ (List.mem_append_right _ h))
  generalize hH : s.heap = H at hP
  have hS : va_S A s.heap H [] := by rw [← hH]; exact va_S.rf
  generalize hlo : ([] : List Loc) = locs at hS
  refine lv_aload_n hx hb dX2_thrown_0 rfl (lv_at hl 0 rfl) ?_
  refine m_get hx hb hts hi2 hown hK hP 21 (by decide) (List.mem_of_getElem? (i := 1) rfl) (v := .int (gI σ 20)) rfl dX2_thrown_1 (fun _ h => h) ?_
  exact x_iret hx hb hr hlocks hK (σ) hP hD hS ⟨rfl, rfl⟩ dX2_thrown_4
set_option maxHeartbeats 4000000 in
set_option maxRecDepth 100000 in
theorem k_X2_time (l : Launch) (D : va_G) (bx : Nat) (ba : Nat → Nat) (cI cJ cZ : ClassId) (sz : Nat) (σ : St) : Met l yX2_time wsX2_time ({ frames := 1, cells := 0, slots := 0, locals := 40 } : Room) (va_Pc [.ref bx] (xPre D (mT cI cJ cZ) mE (mW bx ba cI cJ cZ) σ sz)) (va_Qi (fun (r : Int32) (u : St) => r = gI σ 1 ∧ u = uI σ 20 0) (xB D (mT cI cJ cZ) (mW bx ba cI cJ cZ) (va_A (mW bx ba cI cJ cZ σ) sz)) (va_A (mW bx ba cI cJ cZ σ) sz)) 0 0 (va_A (mW bx ba cI cJ cZ σ) sz) := by
  refine xOpen (w := (mW bx ba cI cJ cZ)) (σ := σ) (cc := cX2_time) (maxL := 1) (ret := some .int) (QQ := fun A => va_Qi (fun (r : Int32) (u : St) => r = gI σ 1 ∧ u = uI σ 20 0) (xB D (mT cI cJ cZ) (mW bx ba cI cJ cZ) A) A) (by decide) rfl (Nat.le_of_ble_eq_true rfl) ?_
  intro p e s m below meth c A hx hb hr hml hown hts hlocks hname hK hE hA hP hD hS ls hl
  have hl : lv_has ls 1 [(0, .ref bx)] := hl
  have hown : s.vm.findClass RX2 = some m.cls := hown
  have hi2 : ∀ w ∈ wsX20, w ∈ wsX2_time := (fun _ h => List.mem_cons_of_mem _ (List.mem_append_right _ h))
  generalize hH : s.heap = H at hP
  have hS : va_S A s.heap H [] := by rw [← hH]; exact va_S.rf
  generalize hlo : ([] : List Loc) = locs at hS
  refine lv_aload_n hx hb dX2_time_0 rfl (lv_at hl 0 rfl) ?_
  refine lv_iconst (v := 0) hx hb dX2_time_1 (by decide) ?_
  refine m_put hx hb hts hi2 hown hK hP hD hS 21 (by decide) (List.mem_of_getElem? (i := 1) rfl) (v := .int 0) (ty := .int) (uI σ 20 0) (mF_21 bx ba cI cJ cZ _ _) rfl (by decide +kernel) rfl rfl dX2_time_2 (fun _ h => h) (fun H locs hP hD hS => ?_)
  refine lv_aload_n hx hb dX2_time_5 rfl (lv_at hl 0 rfl) ?_
  refine m_get hx hb hts hi2 hown hK hP 2 (by decide) (List.mem_of_getElem? (i := 2) rfl) (v := .int (gI σ 1)) rfl dX2_time_6 (fun _ h => h) ?_
  exact x_iret hx hb hr hlocks hK (uI σ 20 0) hP hD hS ⟨rfl, rfl⟩ dX2_time_9
set_option maxHeartbeats 4000000 in
set_option maxRecDepth 100000 in
theorem k_X2_clock (l : Launch) (D : va_G) (bx : Nat) (ba : Nat → Nat) (cI cJ cZ : ClassId) (sz : Nat) (σ : St) : Met l yX2_clock wsX2_clock ({ frames := 1, cells := 0, slots := 0, locals := 40 } : Room) (va_Pc [.ref bx] (xPre D (mT cI cJ cZ) mE (mW bx ba cI cJ cZ) σ sz)) (va_Ql (fun (r : Int64) (u : St) => r = gL σ 2 ∧ u = uI σ 20 0) (xB D (mT cI cJ cZ) (mW bx ba cI cJ cZ) (va_A (mW bx ba cI cJ cZ σ) sz)) (va_A (mW bx ba cI cJ cZ σ) sz)) 0 0 (va_A (mW bx ba cI cJ cZ σ) sz) := by
  refine xOpen (w := (mW bx ba cI cJ cZ)) (σ := σ) (cc := cX2_clock) (maxL := 1) (ret := some .long) (QQ := fun A => va_Ql (fun (r : Int64) (u : St) => r = gL σ 2 ∧ u = uI σ 20 0) (xB D (mT cI cJ cZ) (mW bx ba cI cJ cZ) A) A) (by decide) rfl (Nat.le_of_ble_eq_true rfl) ?_
  intro p e s m below meth c A hx hb hr hml hown hts hlocks hname hK hE hA hP hD hS ls hl
  have hl : lv_has ls 1 [(0, .ref bx)] := hl
  have hown : s.vm.findClass RX2 = some m.cls := hown
  have hi2 : ∀ w ∈ wsX20, w ∈ wsX2_clock := (fun _ h => List.mem_cons_of_mem _ (List.mem_append_right _ h))
  generalize hH : s.heap = H at hP
  have hS : va_S A s.heap H [] := by rw [← hH]; exact va_S.rf
  generalize hlo : ([] : List Loc) = locs at hS
  refine lv_aload_n hx hb dX2_clock_0 rfl (lv_at hl 0 rfl) ?_
  refine lv_iconst (v := 0) hx hb dX2_clock_1 (by decide) ?_
  refine m_put hx hb hts hi2 hown hK hP hD hS 21 (by decide) (List.mem_of_getElem? (i := 1) rfl) (v := .int 0) (ty := .int) (uI σ 20 0) (mF_21 bx ba cI cJ cZ _ _) rfl (by decide +kernel) rfl rfl dX2_clock_2 (fun _ h => h) (fun H locs hP hD hS => ?_)
  refine lv_aload_n hx hb dX2_clock_5 rfl (lv_at hl 0 rfl) ?_
  refine m_get hx hb hts hi2 hown hK hP 3 (by decide) (List.mem_of_getElem? (i := 2) rfl) (v := .long (gL σ 2)) rfl dX2_clock_6 (fun _ h => h) ?_
  exact x_lret hx hb hr hlocks hK (uI σ 20 0) hP hD hS ⟨rfl, rfl⟩ dX2_clock_9
