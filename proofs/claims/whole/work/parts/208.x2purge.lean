set_option maxHeartbeats 4000000 in
set_option maxRecDepth 100000 in
theorem k_X2_purge (l : Launch) (D : va_G) (bx : Nat) (ba : Nat → Nat) (cI cJ cZ : ClassId) (sz : Nat) (σ : St) : Met l yX2_purge wsX2_purge ({ frames := 2, cells := 0, slots := 0, locals := 80 } : Room) (va_Pc [.ref bx] (xPre D (mT cI cJ cZ) mE (mW bx ba cI cJ cZ) σ sz)) (va_Qi (fun (r : Int32) (u : St) => r = rmC (uI σ 20 0) 32 ∧ u = rmO (uI σ 20 0)) (xB D (mT cI cJ cZ) (mW bx ba cI cJ cZ) (va_A (mW bx ba cI cJ cZ σ) sz)) (va_A (mW bx ba cI cJ cZ σ) sz)) 0 0 (va_A (mW bx ba cI cJ cZ σ) sz) := by
  refine xOpen (w := (mW bx ba cI cJ cZ)) (σ := σ) (cc := cX2_purge) (maxL := 1) (ret := some .int) (QQ := fun A => va_Qi (fun (r : Int32) (u : St) => r = rmC (uI σ 20 0) 32 ∧ u = rmO (uI σ 20 0)) (xB D (mT cI cJ cZ) (mW bx ba cI cJ cZ) A) A) (by decide) rfl (Nat.le_of_ble_eq_true rfl) ?_
  intro p e s m below meth c A hx hb hr hml hown hts hlocks hname hK hE hA hP hD hS ls hl
  have hl : lv_has ls 1 [(0, .ref bx)] := hl
  have hown : s.vm.findClass RX2 = some m.cls := hown
  have hi2 : ∀ w ∈ wsX20, w ∈ wsX2_purge := (fun _ h => List.mem_cons_of_mem _ (List.mem_append_right _ h))
  generalize hH : s.heap = H at hP
  have hS : va_S A s.heap H [] := by rw [← hH]; exact va_S.rf
  generalize hlo : ([] : List Loc) = locs at hS
  refine lv_aload_n hx hb dX2_purge_0 rfl (lv_at hl 0 rfl) ?_
  refine lv_iconst (v := 0) hx hb dX2_purge_1 (by decide) ?_
  refine m_put hx hb hts hi2 hown hK hP hD hS 21 (by decide) (List.mem_of_getElem? (i := 1) rfl) (v := .int 0) (ty := .int) (uI σ 20 0) (mF_21 bx ba cI cJ cZ _ _) rfl (by decide +kernel) rfl rfl dX2_purge_2 (fun _ h => h) (fun H locs hP hD hS => ?_)
  refine lv_aload_n hx hb dX2_purge_5 rfl (lv_at hl 0 rfl) ?_
  refine x_calli (va_runV (As := []) (rest := []) ⟨hx, hb, hml, hown, hts⟩ (k_X2_removeOver l D bx ba cI cJ cZ H.size (uI σ 20 0)) (cwV 0 hts gX2_purge_X2_removeOver rfl rfl rfl (by decide +kernel) ⟨Nat.le_of_ble_eq_true rfl, Nat.le_of_ble_eq_true rfl⟩) (xPreV mE_ok hE hK hA hP hD hS (q0 := 0) (ci := 2) rfl rfl rfl) rfl rfl hl.1 rfl (lv_room (Nat.le_of_ble_eq_true rfl)) dX2_purge_6 ⟨Nat.le_of_ble_eq_true rfl, Nat.le_of_ble_eq_true rfl⟩) hD hS hA (fun r u H locs hp hP hD hS => ?_)
  obtain ⟨rfl, hu9⟩ := hp
  rw [hu9] at hP hD
  exact x_iret hx hb hr hlocks hK (rmO (uI σ 20 0)) hP hD hS ⟨rfl, rfl⟩ dX2_purge_9
set_option maxHeartbeats 4000000 in
set_option maxRecDepth 100000 in
theorem k_X2_pass (l : Launch) (D : va_G) (bx : Nat) (ba : Nat → Nat) (cI cJ cZ : ClassId) (sz : Nat) (σ : St) (t : Int32) : Met l yX2_pass wsX2_pass ({ frames := 1, cells := 0, slots := 0, locals := 40 } : Room) (va_Pc [.ref bx, .int t] (xPre D (mT cI cJ cZ) mE (mW bx ba cI cJ cZ) σ sz)) (va_Qi (fun (r : Int32) (u : St) => r = (if inR t 1 10000 then gI σ 1 + t else 0) ∧ u = (if inR t 1 10000 then uI (uI σ 20 0) 1 (gI σ 1 + t) else uI (uI σ 20 1) 1 (gI σ 1 + 0))) (xB D (mT cI cJ cZ) (mW bx ba cI cJ cZ) (va_A (mW bx ba cI cJ cZ σ) sz)) (va_A (mW bx ba cI cJ cZ σ) sz)) 0 0 (va_A (mW bx ba cI cJ cZ σ) sz) := by
  refine xOpen (w := (mW bx ba cI cJ cZ)) (σ := σ) (cc := cX2_pass) (maxL := 2) (ret := some .int) (QQ := fun A => va_Qi (fun (r : Int32) (u : St) => r = (if inR t 1 10000 then gI σ 1 + t else 0) ∧ u = (if inR t 1 10000 then uI (uI σ 20 0) 1 (gI σ 1 + t) else uI (uI σ 20 1) 1 (gI σ 1 + 0))) (xB D (mT cI cJ cZ) (mW bx ba cI cJ cZ) A) A) (by decide) rfl (Nat.le_of_ble_eq_true rfl) ?_
  intro p e s m below meth c A hx hb hr hml hown hts hlocks hname hK hE hA hP hD hS ls hl
  have hl : lv_has ls 2 [(0, .ref bx), (1, .int t)] := hl
  have hown : s.vm.findClass RX2 = some m.cls := hown
  have hi2 : ∀ w ∈ wsX20, w ∈ wsX2_pass := (fun _ h => List.mem_cons_of_mem _ (List.mem_append_right _ h))
  generalize hH : s.heap = H at hP
  have hS : va_S A s.heap H [] := by rw [← hH]; exact va_S.rf
  generalize hlo : ([] : List Loc) = locs at hS
  refine lv_aload_n hx hb dX2_pass_0 rfl (lv_at hl 0 rfl) ?_
  refine lv_iload_n hx hb dX2_pass_1 rfl (lv_at hl 1 rfl) ?_
  refine lv_iconst (v := 1) hx hb dX2_pass_2 (by decide) ?_
  refine lv_sipush (v := 10000) hx hb dX2_pass_3 (by decide) ?_
  refine x_calli (va_runS (As := [.int t, .int 1, .int 10000]) (rest := [.ref bx]) ⟨hx, hb, hml, hown, hts⟩ (k_X2_in l D bx ba cI cJ cZ H.size σ t 1 10000) (va_cwS 3 hts gX2_pass_X2_in rfl rfl rfl (by decide +kernel) ⟨Nat.le_of_ble_eq_true rfl, Nat.le_of_ble_eq_true rfl⟩) (xPreS mE_ok hE hK hA hP hD hS) rfl rfl hl.1 rfl (lv_room (Nat.le_of_ble_eq_true rfl)) dX2_pass_6 ⟨Nat.le_of_ble_eq_true rfl, Nat.le_of_ble_eq_true rfl⟩) hD hS hA (fun r u H locs hp hP hD hS => ?_)
  obtain ⟨rfl, hu9⟩ := hp
  rw [hu9] at hP hD
  refine x_ifeq (tgt := 16) hx hb dX2_pass_9 (by decide) (fun c_1 => ?_) (fun c_1 => ?_)
  · refine lv_iconst (v := 1) hx hb dX2_pass_16 (by decide) ?_
    refine m_put hx hb hts hi2 hown hK hP hD hS 21 (by decide) (List.mem_of_getElem? (i := 1) rfl) (v := .int 1) (ty := .int) (uI σ 20 1) (mF_21 bx ba cI cJ cZ _ _) rfl (by decide +kernel) rfl rfl dX2_pass_17 (fun _ h => h) (fun H locs hP hD hS => ?_)
    refine lv_aload_n hx hb dX2_pass_20 rfl (lv_at hl 0 rfl) ?_
    refine lv_dup hx hb dX2_pass_21 rfl ?_
    refine m_get hx hb hts hi2 hown hK hP 2 (by decide) (List.mem_of_getElem? (i := 2) rfl) (v := .int (gI σ 1)) rfl dX2_pass_22 (fun _ h => h) ?_
    refine lv_aload_n hx hb dX2_pass_25 rfl (lv_at hl 0 rfl) ?_
    refine m_get hx hb hts hi2 hown hK hP 21 (by decide) (List.mem_of_getElem? (i := 1) rfl) (v := .int 1) rfl dX2_pass_26 (fun _ h => h) ?_
    refine lv_if_ne (tgt := 36) hx hb dX2_pass_29 (by decide) (fun _ => ?_) (fun c_2 => absurd c_2 (by decide))
    refine lv_iconst (v := 0) hx hb dX2_pass_36 (by decide) ?_
    refine lv_iadd hx hb dX2_pass_37 ?_
    refine m_put hx hb hts hi2 hown hK hP hD hS 2 (by decide) (List.mem_of_getElem? (i := 2) rfl) (v := .int ((gI σ 1) + 0)) (ty := .int) (uI (uI σ 20 1) 1 ((gI σ 1) + 0)) (mF_2 bx ba cI cJ cZ _ _) rfl (by decide +kernel) rfl rfl dX2_pass_38 (fun _ h => h) (fun H locs hP hD hS => ?_)
    refine lv_aload_n hx hb dX2_pass_41 rfl (lv_at hl 0 rfl) ?_
    refine m_get hx hb hts hi2 hown hK hP 21 (by decide) (List.mem_of_getElem? (i := 1) rfl) (v := .int 1) rfl dX2_pass_42 (fun _ h => h) ?_
    refine lv_if_ne (tgt := 55) hx hb dX2_pass_45 (by decide) (fun _ => ?_) (fun c_3 => absurd c_3 (by decide))
    refine lv_iconst (v := 0) hx hb dX2_pass_55 (by decide) ?_
    exact x_iret hx hb hr hlocks hK (uI (uI σ 20 1) 1 ((gI σ 1) + 0)) hP hD hS ⟨by rw [c_1]; rfl, by rw [c_1]; rfl⟩ dX2_pass_56
  · refine lv_iconst (v := 0) hx hb dX2_pass_12 (by decide) ?_
    refine lv_goto (tgt := 17) hx hb dX2_pass_13 (by decide) ?_
    refine m_put hx hb hts hi2 hown hK hP hD hS 21 (by decide) (List.mem_of_getElem? (i := 1) rfl) (v := .int 0) (ty := .int) (uI σ 20 0) (mF_21 bx ba cI cJ cZ _ _) rfl (by decide +kernel) rfl rfl dX2_pass_17 (fun _ h => h) (fun H locs hP hD hS => ?_)
    refine lv_aload_n hx hb dX2_pass_20 rfl (lv_at hl 0 rfl) ?_
    refine lv_dup hx hb dX2_pass_21 rfl ?_
    refine m_get hx hb hts hi2 hown hK hP 2 (by decide) (List.mem_of_getElem? (i := 2) rfl) (v := .int (gI σ 1)) rfl dX2_pass_22 (fun _ h => h) ?_
    refine lv_aload_n hx hb dX2_pass_25 rfl (lv_at hl 0 rfl) ?_
    refine m_get hx hb hts hi2 hown hK hP 21 (by decide) (List.mem_of_getElem? (i := 1) rfl) (v := .int 0) rfl dX2_pass_26 (fun _ h => h) ?_
    refine lv_if_ne (tgt := 36) hx hb dX2_pass_29 (by decide) (fun c_4 => absurd (by decide) c_4) (fun _ => ?_)
    refine lv_iload_n hx hb dX2_pass_32 rfl (lv_at hl 1 rfl) ?_
    refine lv_goto (tgt := 37) hx hb dX2_pass_33 (by decide) ?_
    refine lv_iadd hx hb dX2_pass_37 ?_
    refine m_put hx hb hts hi2 hown hK hP hD hS 2 (by decide) (List.mem_of_getElem? (i := 2) rfl) (v := .int ((gI σ 1) + t)) (ty := .int) (uI (uI σ 20 0) 1 ((gI σ 1) + t)) (mF_2 bx ba cI cJ cZ _ _) rfl (by decide +kernel) rfl rfl dX2_pass_38 (fun _ h => h) (fun H locs hP hD hS => ?_)
    refine lv_aload_n hx hb dX2_pass_41 rfl (lv_at hl 0 rfl) ?_
    refine m_get hx hb hts hi2 hown hK hP 21 (by decide) (List.mem_of_getElem? (i := 1) rfl) (v := .int 0) rfl dX2_pass_42 (fun _ h => h) ?_
    refine lv_if_ne (tgt := 55) hx hb dX2_pass_45 (by decide) (fun c_5 => absurd (by decide) c_5) (fun _ => ?_)
    refine lv_aload_n hx hb dX2_pass_48 rfl (lv_at hl 0 rfl) ?_
    refine m_get hx hb hts hi2 hown hK hP 2 (by decide) (List.mem_of_getElem? (i := 2) rfl) (v := .int ((gI σ 1) + t)) rfl dX2_pass_49 (fun _ h => h) ?_
    refine lv_goto (tgt := 56) hx hb dX2_pass_52 (by decide) ?_
    exact x_iret hx hb hr hlocks hK (uI (uI σ 20 0) 1 ((gI σ 1) + t)) hP hD hS ⟨by rw [c_1]; rfl, by rw [c_1]; rfl⟩ dX2_pass_56
set_option maxHeartbeats 4000000 in
set_option maxRecDepth 100000 in
theorem k_X2_setThreshold (l : Launch) (D : va_G) (bx : Nat) (ba : Nat → Nat) (cI cJ cZ : ClassId) (sz : Nat) (σ : St) (t : Int32) : Met l yX2_setThreshold wsX2_setThreshold ({ frames := 1, cells := 0, slots := 0, locals := 40 } : Room) (va_Pc [.ref bx, .int t] (xPre D (mT cI cJ cZ) mE (mW bx ba cI cJ cZ) σ sz)) (va_Qi (fun (r : Int32) (u : St) => r = (if inR t 1 1000 then gI σ 4 else 0) ∧ u = (if inR t 1 1000 then uI (uI σ 20 0) 4 t else uI σ 20 1)) (xB D (mT cI cJ cZ) (mW bx ba cI cJ cZ) (va_A (mW bx ba cI cJ cZ σ) sz)) (va_A (mW bx ba cI cJ cZ σ) sz)) 0 0 (va_A (mW bx ba cI cJ cZ σ) sz) := by
  refine xOpen (w := (mW bx ba cI cJ cZ)) (σ := σ) (cc := cX2_setThreshold) (maxL := 3) (ret := some .int) (QQ := fun A => va_Qi (fun (r : Int32) (u : St) => r = (if inR t 1 1000 then gI σ 4 else 0) ∧ u = (if inR t 1 1000 then uI (uI σ 20 0) 4 t else uI σ 20 1)) (xB D (mT cI cJ cZ) (mW bx ba cI cJ cZ) A) A) (by decide) rfl (Nat.le_of_ble_eq_true rfl) ?_
  intro p e s m below meth c A hx hb hr hml hown hts hlocks hname hK hE hA hP hD hS ls hl
  have hl : lv_has ls 3 [(0, .ref bx), (1, .int t)] := hl
  have hown : s.vm.findClass RX2 = some m.cls := hown
  have hi2 : ∀ w ∈ wsX20, w ∈ wsX2_setThreshold := (fun _ h => List.mem_cons_of_mem _ (List.mem_append_right _ h))
  generalize hH : s.heap = H at hP
  have hS : va_S A s.heap H [] := by rw [← hH]; exact va_S.rf
  generalize hlo : ([] : List Loc) = locs at hS
  refine lv_aload_n hx hb dX2_setThreshold_0 rfl (lv_at hl 0 rfl) ?_
  refine lv_iload_n hx hb dX2_setThreshold_1 rfl (lv_at hl 1 rfl) ?_
  refine lv_iconst (v := 1) hx hb dX2_setThreshold_2 (by decide) ?_
  refine lv_sipush (v := 1000) hx hb dX2_setThreshold_3 (by decide) ?_
  refine x_calli (va_runS (As := [.int t, .int 1, .int 1000]) (rest := [.ref bx]) ⟨hx, hb, hml, hown, hts⟩ (k_X2_in l D bx ba cI cJ cZ H.size σ t 1 1000) (va_cwS 3 hts gX2_setThreshold_X2_in rfl rfl rfl (by decide +kernel) ⟨Nat.le_of_ble_eq_true rfl, Nat.le_of_ble_eq_true rfl⟩) (xPreS mE_ok hE hK hA hP hD hS) rfl rfl hl.1 rfl (lv_room (Nat.le_of_ble_eq_true rfl)) dX2_setThreshold_6 ⟨Nat.le_of_ble_eq_true rfl, Nat.le_of_ble_eq_true rfl⟩) hD hS hA (fun r u H locs hp hP hD hS => ?_)
  obtain ⟨rfl, hu9⟩ := hp
  rw [hu9] at hP hD
  refine x_ifeq (tgt := 16) hx hb dX2_setThreshold_9 (by decide) (fun c_1 => ?_) (fun c_1 => ?_)
  · refine lv_iconst (v := 1) hx hb dX2_setThreshold_16 (by decide) ?_
    refine m_put hx hb hts hi2 hown hK hP hD hS 21 (by decide) (List.mem_of_getElem? (i := 1) rfl) (v := .int 1) (ty := .int) (uI σ 20 1) (mF_21 bx ba cI cJ cZ _ _) rfl (by decide +kernel) rfl rfl dX2_setThreshold_17 (fun _ h => h) (fun H locs hP hD hS => ?_)
    refine lv_aload_n hx hb dX2_setThreshold_20 rfl (lv_at hl 0 rfl) ?_
    refine m_get hx hb hts hi2 hown hK hP 21 (by decide) (List.mem_of_getElem? (i := 1) rfl) (v := .int 1) rfl dX2_setThreshold_21 (fun _ h => h) ?_
    refine lv_if_le (tgt := 29) hx hb dX2_setThreshold_24 (by decide) (fun c_2 => absurd c_2 (by decide)) (fun _ => ?_)
    refine lv_iconst (v := 0) hx hb dX2_setThreshold_27 (by decide) ?_
    exact x_iret hx hb hr hlocks hK (uI σ 20 1) hP hD hS ⟨by rw [c_1]; rfl, by rw [c_1]; rfl⟩ dX2_setThreshold_28
  · refine lv_iconst (v := 0) hx hb dX2_setThreshold_12 (by decide) ?_
    refine lv_goto (tgt := 17) hx hb dX2_setThreshold_13 (by decide) ?_
    refine m_put hx hb hts hi2 hown hK hP hD hS 21 (by decide) (List.mem_of_getElem? (i := 1) rfl) (v := .int 0) (ty := .int) (uI σ 20 0) (mF_21 bx ba cI cJ cZ _ _) rfl (by decide +kernel) rfl rfl dX2_setThreshold_17 (fun _ h => h) (fun H locs hP hD hS => ?_)
    refine lv_aload_n hx hb dX2_setThreshold_20 rfl (lv_at hl 0 rfl) ?_
    refine m_get hx hb hts hi2 hown hK hP 21 (by decide) (List.mem_of_getElem? (i := 1) rfl) (v := .int 0) rfl dX2_setThreshold_21 (fun _ h => h) ?_
    refine lv_if_le (tgt := 29) hx hb dX2_setThreshold_24 (by decide) (fun _ => ?_) (fun c_3 => absurd (by decide) c_3)
    refine lv_aload_n hx hb dX2_setThreshold_29 rfl (lv_at hl 0 rfl) ?_
    refine m_get hx hb hts hi2 hown hK hP 1 (by decide) (List.mem_of_getElem? (i := 2) rfl) (v := .int (gI σ 4)) rfl dX2_setThreshold_30 (fun _ h => h) ?_
    refine lv_istore_n (lv' := [(2, .int (gI σ 4)), (0, .ref bx), (1, .int t)]) hx hb dX2_setThreshold_33 rfl hl (by decide) rfl (fun ls hl => ?_)
    refine lv_aload_n hx hb dX2_setThreshold_34 rfl (lv_at hl 1 rfl) ?_
    refine lv_iload_n hx hb dX2_setThreshold_35 rfl (lv_at hl 2 rfl) ?_
    refine m_put hx hb hts hi2 hown hK hP hD hS 1 (by decide) (List.mem_of_getElem? (i := 2) rfl) (v := .int t) (ty := .int) (uI (uI σ 20 0) 4 t) (mF_1 bx ba cI cJ cZ _ _) rfl (by decide +kernel) rfl rfl dX2_setThreshold_36 (fun _ h => h) (fun H locs hP hD hS => ?_)
    refine lv_iload_n hx hb dX2_setThreshold_39 rfl (lv_at hl 0 rfl) ?_
    exact x_iret hx hb hr hlocks hK (uI (uI σ 20 0) 4 t) hP hD hS ⟨by rw [c_1]; rfl, by rw [c_1]; rfl⟩ dX2_setThreshold_40
