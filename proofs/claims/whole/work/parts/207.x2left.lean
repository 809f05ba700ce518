set_option maxHeartbeats 4000000 in
set_option maxRecDepth 100000 in
theorem k_X2_left (l : Launch) (D : va_G) (bx : Nat) (ba : Nat → Nat) (cI cJ cZ : ClassId) (sz : Nat) (σ : St) : Met l yX2_left wsX2_left ({ frames := 1, cells := 0, slots := 0, locals := 40 } : Room) (va_Pc [.ref bx] (xPre D (mT cI cJ cZ) mE (mW bx ba cI cJ cZ) σ sz)) (va_Qi (fun (r : Int32) (u : St) => r = gI σ 11 ∧ u = uI σ 20 0) (xB D (mT cI cJ cZ) (mW bx ba cI cJ cZ) (va_A (mW bx ba cI cJ cZ σ) sz)) (va_A (mW bx ba cI cJ cZ σ) sz)) 0 0 (va_A (mW bx ba cI cJ cZ σ) sz) := by
  refine xOpen (w := (mW bx ba cI cJ cZ)) (σ := σ) (cc := cX2_left) (maxL := 1) (ret := some .int) (QQ := fun A => va_Qi (fun (r : Int32) (u : St) => r = gI σ 11 ∧ u = uI σ 20 0) (xB D (mT cI cJ cZ) (mW bx ba cI cJ cZ) A) A) (by decide) rfl (Nat.le_of_ble_eq_true rfl) ?_
  intro p e s m below meth c A hx hb hr hml hown hts hlocks hname hK hE hA hP hD hS ls hl
  have hl : lv_has ls 1 [(0, .ref bx)] := hl
  have hown : s.vm.findClass RX2 = some m.cls := hown
  have hi2 : ∀ w ∈ wsX20, w ∈ wsX2_left := (fun _ h => List.mem_cons_of_mem _ (List.mem_append_right _ h))
  generalize hH : s.heap = H at hP
  have hS : va_S A s.heap H [] := by rw [← hH]; exact va_S.rf
  generalize hlo : ([] : List Loc) = locs at hS
  refine lv_aload_n hx hb dX2_left_0 rfl (lv_at hl 0 rfl) ?_
  refine lv_iconst (v := 0) hx hb dX2_left_1 (by decide) ?_
  refine m_put hx hb hts hi2 hown hK hP hD hS 21 (by decide) (List.mem_of_getElem? (i := 1) rfl) (v := .int 0) (ty := .int) (uI σ 20 0) (mF_21 bx ba cI cJ cZ _ _) rfl (by decide +kernel) rfl rfl dX2_left_2 (fun _ h => h) (fun H locs hP hD hS => ?_)
  refine lv_aload_n hx hb dX2_left_5 rfl (lv_at hl 0 rfl) ?_
  refine m_get hx hb hts hi2 hown hK hP 19 (by decide) (List.mem_of_getElem? (i := 2) rfl) (v := .int (gI σ 11)) rfl dX2_left_6 (fun _ h => h) ?_
  exact x_iret hx hb hr hlocks hK (uI σ 20 0) hP hD hS ⟨rfl, rfl⟩ dX2_left_9
set_option maxHeartbeats 4000000 in
set_option maxRecDepth 100000 in
theorem k_X2_removedOver (l : Launch) (D : va_G) (bx : Nat) (ba : Nat → Nat) (cI cJ cZ : ClassId) (sz : Nat) (σ : St) : Met l yX2_removedOver wsX2_removedOver ({ frames := 1, cells := 0, slots := 0, locals := 40 } : Room) (va_Pc [.ref bx] (xPre D (mT cI cJ cZ) mE (mW bx ba cI cJ cZ) σ sz)) (va_Qi (fun (r : Int32) (u : St) => r = gI σ 12 ∧ u = uI σ 20 0) (xB D (mT cI cJ cZ) (mW bx ba cI cJ cZ) (va_A (mW bx ba cI cJ cZ σ) sz)) (va_A (mW bx ba cI cJ cZ σ) sz)) 0 0 (va_A (mW bx ba cI cJ cZ σ) sz) := by
  refine xOpen (w := (mW bx ba cI cJ cZ)) (σ := σ) (cc := cX2_removedOver) (maxL := 1) (ret := some .int) (QQ := fun A => va_Qi (fun (r : Int32) (u : St) => r = gI σ 12 ∧ u = uI σ 20 0) (xB D (mT cI cJ cZ) (mW bx ba cI cJ cZ) A) A) (by decide) rfl (Nat.le_of_ble_eq_true rfl) ?_
  intro p e s m below meth c A hx hb hr hml hown hts hlocks hname hK hE hA hP hD hS ls hl
  have hl : lv_has ls 1 [(0, .ref bx)] := hl
  have hown : s.vm.findClass RX2 = some m.cls := hown
  have hi2 : ∀ w ∈ wsX20, w ∈ wsX2_removedOver := (fun _ h => List.mem_cons_of_mem _ (List.mem_append_right _ h))
  generalize hH : s.heap = H at hP
  have hS : va_S A s.heap H [] := by rw [← hH]; exact va_S.rf
  generalize hlo : ([] : List Loc) = locs at hS
  refine lv_aload_n hx hb dX2_removedOver_0 rfl (lv_at hl 0 rfl) ?_
  refine lv_iconst (v := 0) hx hb dX2_removedOver_1 (by decide) ?_
  refine m_put hx hb hts hi2 hown hK hP hD hS 21 (by decide) (List.mem_of_getElem? (i := 1) rfl) (v := .int 0) (ty := .int) (uI σ 20 0) (mF_21 bx ba cI cJ cZ _ _) rfl (by decide +kernel) rfl rfl dX2_removedOver_2 (fun _ h => h) (fun H locs hP hD hS => ?_)
  refine lv_aload_n hx hb dX2_removedOver_5 rfl (lv_at hl 0 rfl) ?_
  refine m_get hx hb hts hi2 hown hK hP 20 (by decide) (List.mem_of_getElem? (i := 2) rfl) (v := .int (gI σ 12)) rfl dX2_removedOver_6 (fun _ h => h) ?_
  exact x_iret hx hb hr hlocks hK (uI σ 20 0) hP hD hS ⟨rfl, rfl⟩ dX2_removedOver_9
set_option maxHeartbeats 4000000 in
set_option maxRecDepth 100000 in
theorem k_X2_used (l : Launch) (D : va_G) (bx : Nat) (ba : Nat → Nat) (cI cJ cZ : ClassId) (sz : Nat) (σ : St) : Met l yX2_used wsX2_used ({ frames := 1, cells := 0, slots := 0, locals := 40 } : Room) (va_Pc [.ref bx] (xPre D (mT cI cJ cZ) mE (mW bx ba cI cJ cZ) σ sz)) (va_Qi (fun (r : Int32) (u : St) => r = used (uI σ 20 0) ∧ u = uI σ 20 0) (xB D (mT cI cJ cZ) (mW bx ba cI cJ cZ) (va_A (mW bx ba cI cJ cZ σ) sz)) (va_A (mW bx ba cI cJ cZ σ) sz)) 0 0 (va_A (mW bx ba cI cJ cZ σ) sz) := by
  refine xOpen (w := (mW bx ba cI cJ cZ)) (σ := σ) (cc := cX2_used) (maxL := 1) (ret := some .int) (QQ := fun A => va_Qi (fun (r : Int32) (u : St) => r = used (uI σ 20 0) ∧ u = uI σ 20 0) (xB D (mT cI cJ cZ) (mW bx ba cI cJ cZ) A) A) (by decide) rfl (Nat.le_of_ble_eq_true rfl) ?_
  intro p e s m below meth c A hx hb hr hml hown hts hlocks hname hK hE hA hP hD hS ls hl
  have hl : lv_has ls 1 [(0, .ref bx)] := hl
  have hown : s.vm.findClass RX2 = some m.cls := hown
  have hi2 : ∀ w ∈ wsX20, w ∈ wsX2_used := (fun _ h => List.mem_cons_of_mem _ (List.mem_append_right _ h))
  generalize hH : s.heap = H at hP
  have hS : va_S A s.heap H [] := by rw [← hH]; exact va_S.rf
  generalize hlo : ([] : List Loc) = locs at hS
  refine lv_aload_n hx hb dX2_used_0 rfl (lv_at hl 0 rfl) ?_
  refine lv_iconst (v := 0) hx hb dX2_used_1 (by decide) ?_
  refine m_put hx hb hts hi2 hown hK hP hD hS 21 (by decide) (List.mem_of_getElem? (i := 1) rfl) (v := .int 0) (ty := .int) (uI σ 20 0) (mF_21 bx ba cI cJ cZ _ _) rfl (by decide +kernel) rfl rfl dX2_used_2 (fun _ h => h) (fun H locs hP hD hS => ?_)
  refine lv_aload_n hx hb dX2_used_5 rfl (lv_at hl 0 rfl) ?_
  refine x_calli (va_runV (As := []) (rest := []) ⟨hx, hb, hml, hown, hts⟩ (k_X2_usedBytes l D bx ba cI cJ cZ H.size (uI σ 20 0)) (cwV 0 hts gX2_used_X2_usedBytes rfl rfl rfl (by decide +kernel) ⟨Nat.le_of_ble_eq_true rfl, Nat.le_of_ble_eq_true rfl⟩) (xPreV mE_ok hE hK hA hP hD hS (q0 := 0) (ci := 2) rfl rfl rfl) rfl rfl hl.1 rfl (lv_room (Nat.le_of_ble_eq_true rfl)) dX2_used_6 ⟨Nat.le_of_ble_eq_true rfl, Nat.le_of_ble_eq_true rfl⟩) hD hS hA (fun r u H locs hp hP hD hS => ?_)
  obtain ⟨rfl, hu9⟩ := hp
  rw [hu9] at hP hD
  exact x_iret hx hb hr hlocks hK (uI σ 20 0) hP hD hS ⟨rfl, rfl⟩ dX2_used_9
