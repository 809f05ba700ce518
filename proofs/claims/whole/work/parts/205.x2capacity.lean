set_option maxHeartbeats 4000000 in
set_option maxRecDepth 100000 in
theorem k_X2_capacity (l : Launch) (D : va_G) (bx : Nat) (ba : Nat → Nat) (cI cJ cZ : ClassId) (sz : Nat) (σ : St) : Met l yX2_capacity wsX2_capacity ({ frames := 1, cells := 0, slots := 0, locals := 40 } : Room) (va_Pc [.ref bx] (xPre D (mT cI cJ cZ) mE (mW bx ba cI cJ cZ) σ sz)) (va_Qi (fun (r : Int32) (u : St) => r = gI σ 3 ∧ u = uI σ 20 0) (xB D (mT cI cJ cZ) (mW bx ba cI cJ cZ) (va_A (mW bx ba cI cJ cZ σ) sz)) (va_A (mW bx ba cI cJ cZ σ) sz)) 0 0 (va_A (mW bx ba cI cJ cZ σ) sz) := by
  refine xOpen (w := (mW bx ba cI cJ cZ)) (σ := σ) (cc := cX2_capacity) (maxL := 1) (ret := some .int) (QQ := fun A => va_Qi (fun (r : Int32) (u : St) => r = gI σ 3 ∧ u = uI σ 20 0) (xB D (mT cI cJ cZ) (mW bx ba cI cJ cZ) A) A) (by decide) rfl (Nat.le_of_ble_eq_true rfl) ?_
  intro p e s m below meth c A hx hb hr hml hown hts hlocks hname hK hE hA hP hD hS ls hl
  have hl : lv_has ls 1 [(0, .ref bx)] := hl
  have hown : s.vm.findClass RX2 = some m.cls := hown
  have hi2 : ∀ w ∈ wsX20, w ∈ wsX2_capacity := (fun _ h => List.mem_cons_of_mem _ (List.mem_append_right _ h))
  generalize hH : s.heap = H at hP
  have hS : va_S A s.heap H [] := by rw [← hH]; exact va_S.rf
  generalize hlo : ([] : List Loc) = locs at hS
  refine lv_aload_n hx hb dX2_capacity_0 rfl (lv_at hl 0 rfl) ?_
  refine lv_iconst (v := 0) hx hb dX2_capacity_1 (by decide) ?_
  refine m_put hx hb hts hi2 hown hK hP hD hS 21 (by decide) (List.mem_of_getElem? (i := 1) rfl) (v := .int 0) (ty := .int) (uI σ 20 0) (mF_21 bx ba cI cJ cZ _ _) rfl (by decide +kernel) rfl rfl dX2_capacity_2 (fun _ h => h) (fun H locs hP hD hS => ?_)
  refine lv_aload_n hx hb dX2_capacity_5 rfl (lv_at hl 0 rfl) ?_
  refine m_get hx hb hts hi2 hown hK hP 0 (by decide) (List.mem_of_getElem? (i := 2) rfl) (v := .int (gI σ 3)) rfl dX2_capacity_6 (fun _ h => h) ?_
  exact x_iret hx hb hr hlocks hK (uI σ 20 0) hP hD hS ⟨rfl, rfl⟩ dX2_capacity_9
set_option maxHeartbeats 4000000 in
set_option maxRecDepth 100000 in
theorem k_X2_hits (l : Launch) (D : va_G) (bx : Nat) (ba : Nat → Nat) (cI cJ cZ : ClassId) (sz : Nat) (σ : St) : Met l yX2_hits wsX2_hits ({ frames := 1, cells := 0, slots := 0, locals := 40 } : Room) (va_Pc [.ref bx] (xPre D (mT cI cJ cZ) mE (mW bx ba cI cJ cZ) σ sz)) (va_Qi (fun (r : Int32) (u : St) => r = gI σ 6 ∧ u = uI σ 20 0) (xB D (mT cI cJ cZ) (mW bx ba cI cJ cZ) (va_A (mW bx ba cI cJ cZ σ) sz)) (va_A (mW bx ba cI cJ cZ σ) sz)) 0 0 (va_A (mW bx ba cI cJ cZ σ) sz) := by
  refine xOpen (w := (mW bx ba cI cJ cZ)) (σ := σ) (cc := cX2_hits) (maxL := 1) (ret := some .int) (QQ := fun A => va_Qi (fun (r : Int32) (u : St) => r = gI σ 6 ∧ u = uI σ 20 0) (xB D (mT cI cJ cZ) (mW bx ba cI cJ cZ) A) A) (by decide) rfl (Nat.le_of_ble_eq_true rfl) ?_
  intro p e s m below meth c A hx hb hr hml hown hts hlocks hname hK hE hA hP hD hS ls hl
  have hl : lv_has ls 1 [(0, .ref bx)] := hl
  have hown : s.vm.findClass RX2 = some m.cls := hown
  have hi2 : ∀ w ∈ wsX20, w ∈ wsX2_hits := (fun _ h => List.mem_cons_of_mem _ (List.mem_append_right _ h))
  generalize hH : s.heap = H at hP
  have hS : va_S A s.heap H [] := by rw [← hH]; exact va_S.rf
  generalize hlo : ([] : List Loc) = locs at hS
  refine lv_aload_n hx hb dX2_hits_0 rfl (lv_at hl 0 rfl) ?_
  refine lv_iconst (v := 0) hx hb dX2_hits_1 (by decide) ?_
  refine m_put hx hb hts hi2 hown hK hP hD hS 21 (by decide) (List.mem_of_getElem? (i := 1) rfl) (v := .int 0) (ty := .int) (uI σ 20 0) (mF_21 bx ba cI cJ cZ _ _) rfl (by decide +kernel) rfl rfl dX2_hits_2 (fun _ h => h) (fun H locs hP hD hS => ?_)
  refine lv_aload_n hx hb dX2_hits_5 rfl (lv_at hl 0 rfl) ?_
  refine m_get hx hb hts hi2 hown hK hP 14 (by decide) (List.mem_of_getElem? (i := 2) rfl) (v := .int (gI σ 6)) rfl dX2_hits_6 (fun _ h => h) ?_
  exact x_iret hx hb hr hlocks hK (uI σ 20 0) hP hD hS ⟨rfl, rfl⟩ dX2_hits_9
set_option maxHeartbeats 4000000 in
set_option maxRecDepth 100000 in
theorem k_X2_misses (l : Launch) (D : va_G) (bx : Nat) (ba : Nat → Nat) (cI cJ cZ : ClassId) (sz : Nat) (σ : St) : Met l yX2_misses wsX2_misses ({ frames := 1, cells := 0, slots := 0, locals := 40 } : Room) (va_Pc [.ref bx] (xPre D (mT cI cJ cZ) mE (mW bx ba cI cJ cZ) σ sz)) (va_Qi (fun (r : Int32) (u : St) => r = gI σ 7 ∧ u = uI σ 20 0) (xB D (mT cI cJ cZ) (mW bx ba cI cJ cZ) (va_A (mW bx ba cI cJ cZ σ) sz)) (va_A (mW bx ba cI cJ cZ σ) sz)) 0 0 (va_A (mW bx ba cI cJ cZ σ) sz) := by
  refine xOpen (w := (mW bx ba cI cJ cZ)) (σ := σ) (cc := cX2_misses) (maxL := 1) (ret := some .int) (QQ := fun A => va_Qi (fun (r : Int32) (u : St) => r = gI σ 7 ∧ u = uI σ 20 0) (xB D (mT cI cJ cZ) (mW bx ba cI cJ cZ) A) A) (by decide) rfl (Nat.le_of_ble_eq_true rfl) ?_
  intro p e s m below meth c A hx hb hr hml hown hts hlocks hname hK hE hA hP hD hS ls hl
  have hl : lv_has ls 1 [(0, .ref bx)] := hl
  have hown : s.vm.findClass RX2 = some m.cls := hown
  have hi2 : ∀ w ∈ wsX20, w ∈ wsX2_misses := (fun _ h => List.mem_cons_of_mem _ (List.mem_append_right _ h))
  generalize hH : s.heap = H at hP
  have hS : va_S A s.heap H [] := by rw [← hH]; exact va_S.rf
  generalize hlo : ([] : List Loc) = locs at hS
  refine lv_aload_n hx hb dX2_misses_0 rfl (lv_at hl 0 rfl) ?_
  refine lv_iconst (v := 0) hx hb dX2_misses_1 (by decide) ?_
  refine m_put hx hb hts hi2 hown hK hP hD hS 21 (by decide) (List.mem_of_getElem? (i := 1) rfl) (v := .int 0) (ty := .int) (uI σ 20 0) (mF_21 bx ba cI cJ cZ _ _) rfl (by decide +kernel) rfl rfl dX2_misses_2 (fun _ h => h) (fun H locs hP hD hS => ?_)
  refine lv_aload_n hx hb dX2_misses_5 rfl (lv_at hl 0 rfl) ?_
  refine m_get hx hb hts hi2 hown hK hP 15 (by decide) (List.mem_of_getElem? (i := 2) rfl) (v := .int (gI σ 7)) rfl dX2_misses_6 (fun _ h => h) ?_
  exact x_iret hx hb hr hlocks hK (uI σ 20 0) hP hD hS ⟨rfl, rfl⟩ dX2_misses_9
