set_option maxHeartbeats 4000000 in
set_option maxRecDepth 100000 in
theorem k_X2_has (l : Launch) (D : va_G) (bx : Nat) (ba : Nat → Nat) (cI cJ cZ : ClassId) (sz : Nat) (σ : St) (t : Int32) : Met l yX2_has wsX2_has ({ frames := 2, cells := 0, slots := 0, locals := 80 } : Room) (va_Pc [.ref bx, .int t] (xPre D (mT cI cJ cZ) mE (mW bx ba cI cJ cZ) σ sz)) (va_Qi (fun (r : Int32) (u : St) => (isT t = false → r = 0 ∧ u = uI σ 20 1) ∧ (∀ k, k < 32 → t = nI k → r = bI (gB σ 1 k) ∧ u = uI σ 20 0)) (xB D (mT cI cJ cZ) (mW bx ba cI cJ cZ) (va_A (mW bx ba cI cJ cZ σ) sz)) (va_A (mW bx ba cI cJ cZ σ) sz)) 0 0 (va_A (mW bx ba cI cJ cZ σ) sz) := by
  refine xOpen (w := (mW bx ba cI cJ cZ)) (σ := σ) (cc := cX2_has) (maxL := 2) (ret := some .boolean) (QQ := fun A => va_Qi (fun (r : Int32) (u : St) => (isT t = false → r = 0 ∧ u = uI σ 20 1) ∧ (∀ k, k < 32 → t = nI k → r = bI (gB σ 1 k) ∧ u = uI σ 20 0)) (xB D (mT cI cJ cZ) (mW bx ba cI cJ cZ) A) A) (by decide) rfl (Nat.le_of_ble_eq_true rfl) ?_
  intro p e s m below meth c A hx hb hr hml hown hts hlocks hname hK hE hA hP hD hS ls hl
  have hl : lv_has ls 2 [(0, .ref bx), (1, .int t)] := hl
  have hown : s.vm.findClass RX2 = some m.cls := hown
  have hi2 : ∀ w ∈ wsX20, w ∈ wsX2_has := (fun _ h => List.mem_cons_of_mem _ (List.mem_append_right _ h))
  generalize hH : s.heap = H at hP
  have hS : va_S A s.heap H [] := by rw [← hH]; exact va_S.rf
  generalize hlo : ([] : List Loc) = locs at hS
  refine lv_aload_n hx hb dX2_has_0 rfl (lv_at hl 0 rfl) ?_
  refine lv_iload_n hx hb dX2_has_1 rfl (lv_at hl 1 rfl) ?_
  refine x_calli (va_runV (As := [.int t]) (rest := []) ⟨hx, hb, hml, hown, hts⟩ (k_X2_isThing l D bx ba cI cJ cZ H.size σ t) (cwV 1 hts gX2_has_X2_isThing rfl rfl rfl (by decide +kernel) ⟨Nat.le_of_ble_eq_true rfl, Nat.le_of_ble_eq_true rfl⟩) (xPreV mE_ok hE hK hA hP hD hS (q0 := 0) (ci := 2) rfl rfl rfl) rfl rfl hl.1 rfl (lv_room (Nat.le_of_ble_eq_true rfl)) dX2_has_2 ⟨Nat.le_of_ble_eq_true rfl, Nat.le_of_ble_eq_true rfl⟩) hD hS hA (fun r u H locs hp hP hD hS => ?_)
  obtain ⟨rfl, hu9⟩ := hp
  rw [hu9] at hP hD
  refine x_ifeq (tgt := 21) hx hb dX2_has_5 (by decide) (fun c_1 => ?_) (fun c_1 => ?_)
  · rw [if_neg (show ¬ isT t = true by rw [c_1]; decide)] at hP hD
    have hT := c_1
    refine lv_iconst (v := 0) hx hb dX2_has_21 (by decide) ?_
    exact x_zret (b := false) hx hb hr hlocks hK (uI σ 20 1) hP hD hS ⟨fun _ => ⟨rfl, rfl⟩, fun j hj e9 => (isT_ff hT hj e9).elim⟩ dX2_has_22
  · rw [if_pos c_1] at hP hD
    have hT := c_1
    obtain ⟨k, hk, rfl⟩ := isT_nI c_1
    have hl : lv_has ls 2 [(0, .ref bx), (1, .int (nI k))] := hl
    refine lv_aload_n hx hb dX2_has_8 rfl (lv_at hl 0 rfl) ?_
    refine m_get hx hb hts hi2 hown hK hP 5 (by decide) (List.mem_of_getElem? (i := 1) rfl) (v := .ref (ba 0)) rfl dX2_has_9 (fun _ h => h) ?_
    refine lv_iload_n hx hb dX2_has_12 rfl (lv_at hl 1 rfl) ?_
    refine m_ld0 hx hb hK hP hk dX2_has_13 ?_
    refine W.eq (g2 := F0 m 14 ls [.int (bI (gB σ 1 k))]) rfl ?_
    refine x_ifeq (tgt := 21) hx hb dX2_has_14 (by decide) (fun c_2 => ?_) (fun c_2 => ?_)
    · refine lv_iconst (v := 0) hx hb dX2_has_21 (by decide) ?_
      exact x_zret (b := false) hx hb hr hlocks hK (uI σ 20 0) hP hD hS ⟨fun h9 => absurd h9 (by first | decide | (rw [hT]; decide)), fun j hj e9 => by rw [← nI_inj32 hk hj e9]; exact ⟨by simp [c_2], by simp [c_2]⟩⟩ dX2_has_22
    · refine lv_iconst (v := 1) hx hb dX2_has_17 (by decide) ?_
      refine lv_goto (tgt := 22) hx hb dX2_has_18 (by decide) ?_
      exact x_zret (b := true) hx hb hr hlocks hK (uI σ 20 0) hP hD hS ⟨fun h9 => absurd h9 (by first | decide | (rw [hT]; decide)), fun j hj e9 => by rw [← nI_inj32 hk hj e9]; exact ⟨by simp [c_2], by simp [c_2]⟩⟩ dX2_has_22
set_option maxHeartbeats 4000000 in
set_option maxRecDepth 100000 in
theorem k_X2_isOver (l : Launch) (D : va_G) (bx : Nat) (ba : Nat → Nat) (cI cJ cZ : ClassId) (sz : Nat) (σ : St) (t : Int32) : Met l yX2_isOver wsX2_isOver ({ frames := 2, cells := 0, slots := 0, locals := 80 } : Room) (va_Pc [.ref bx, .int t] (xPre D (mT cI cJ cZ) mE (mW bx ba cI cJ cZ) σ sz)) (va_Qi (fun (r : Int32) (u : St) => (isT t = false → r = 0 ∧ u = uI σ 20 1) ∧ (∀ k, k < 32 → t = nI k → r = bI (ovr (uI σ 20 0) k) ∧ u = uI σ 20 0)) (xB D (mT cI cJ cZ) (mW bx ba cI cJ cZ) (va_A (mW bx ba cI cJ cZ σ) sz)) (va_A (mW bx ba cI cJ cZ σ) sz)) 0 0 (va_A (mW bx ba cI cJ cZ σ) sz) := by
  refine xOpen (w := (mW bx ba cI cJ cZ)) (σ := σ) (cc := cX2_isOver) (maxL := 2) (ret := some .boolean) (QQ := fun A => va_Qi (fun (r : Int32) (u : St) => (isT t = false → r = 0 ∧ u = uI σ 20 1) ∧ (∀ k, k < 32 → t = nI k → r = bI (ovr (uI σ 20 0) k) ∧ u = uI σ 20 0)) (xB D (mT cI cJ cZ) (mW bx ba cI cJ cZ) A) A) (by decide) rfl (Nat.le_of_ble_eq_true rfl) ?_
  intro p e s m below meth c A hx hb hr hml hown hts hlocks hname hK hE hA hP hD hS ls hl
  have hl : lv_has ls 2 [(0, .ref bx), (1, .int t)] := hl
  have hown : s.vm.findClass RX2 = some m.cls := hown
  have hi2 : ∀ w ∈ wsX20, w ∈ wsX2_isOver := (fun _ h => List.mem_cons_of_mem _ (List.mem_append_right _ h))
  generalize hH : s.heap = H at hP
  have hS : va_S A s.heap H [] := by rw [← hH]; exact va_S.rf
  generalize hlo : ([] : List Loc) = locs at hS
  refine lv_aload_n hx hb dX2_isOver_0 rfl (lv_at hl 0 rfl) ?_
  refine lv_iload_n hx hb dX2_isOver_1 rfl (lv_at hl 1 rfl) ?_
  refine x_calli (va_runV (As := [.int t]) (rest := []) ⟨hx, hb, hml, hown, hts⟩ (k_X2_isThing l D bx ba cI cJ cZ H.size σ t) (cwV 1 hts gX2_isOver_X2_isThing rfl rfl rfl (by decide +kernel) ⟨Nat.le_of_ble_eq_true rfl, Nat.le_of_ble_eq_true rfl⟩) (xPreV mE_ok hE hK hA hP hD hS (q0 := 0) (ci := 2) rfl rfl rfl) rfl rfl hl.1 rfl (lv_room (Nat.le_of_ble_eq_true rfl)) dX2_isOver_2 ⟨Nat.le_of_ble_eq_true rfl, Nat.le_of_ble_eq_true rfl⟩) hD hS hA (fun r u H locs hp hP hD hS => ?_)
  obtain ⟨rfl, hu9⟩ := hp
  rw [hu9] at hP hD
  refine x_ifeq (tgt := 20) hx hb dX2_isOver_5 (by decide) (fun c_1 => ?_) (fun c_1 => ?_)
  · rw [if_neg (show ¬ isT t = true by rw [c_1]; decide)] at hP hD
    have hT := c_1
    refine lv_iconst (v := 0) hx hb dX2_isOver_20 (by decide) ?_
    exact x_zret (b := false) hx hb hr hlocks hK (uI σ 20 1) hP hD hS ⟨fun _ => ⟨rfl, rfl⟩, fun j hj e9 => (isT_ff hT hj e9).elim⟩ dX2_isOver_21
  · rw [if_pos c_1] at hP hD
    have hT := c_1
    obtain ⟨k, hk, rfl⟩ := isT_nI c_1
    have hl : lv_has ls 2 [(0, .ref bx), (1, .int (nI k))] := hl
    refine lv_aload_n hx hb dX2_isOver_8 rfl (lv_at hl 0 rfl) ?_
    refine lv_iload_n hx hb dX2_isOver_9 rfl (lv_at hl 1 rfl) ?_
    refine x_calli (va_runV (As := [.int (nI k)]) (rest := []) ⟨hx, hb, hml, hown, hts⟩ (k_X2_over l D bx ba cI cJ cZ H.size (uI σ 20 0) hk) (cwV 1 hts gX2_isOver_X2_over rfl rfl rfl (by decide +kernel) ⟨Nat.le_of_ble_eq_true rfl, Nat.le_of_ble_eq_true rfl⟩) (xPreV mE_ok hE hK hA hP hD hS (q0 := 0) (ci := 2) rfl rfl rfl) rfl rfl hl.1 rfl (lv_room (Nat.le_of_ble_eq_true rfl)) dX2_isOver_10 ⟨Nat.le_of_ble_eq_true rfl, Nat.le_of_ble_eq_true rfl⟩) hD hS hA (fun r u H locs hp hP hD hS => ?_)
    obtain ⟨rfl, hu9⟩ := hp
    rw [hu9] at hP hD
    refine x_ifeq (tgt := 20) hx hb dX2_isOver_13 (by decide) (fun c_2 => ?_) (fun c_2 => ?_)
    · refine lv_iconst (v := 0) hx hb dX2_isOver_20 (by decide) ?_
      exact x_zret (b := false) hx hb hr hlocks hK (uI σ 20 0) hP hD hS ⟨fun h9 => absurd h9 (by first | decide | (rw [hT]; decide)), fun j hj e9 => by rw [← nI_inj32 hk hj e9]; exact ⟨by simp [c_2], by simp [c_2]⟩⟩ dX2_isOver_21
    · refine lv_iconst (v := 1) hx hb dX2_isOver_16 (by decide) ?_
      refine lv_goto (tgt := 21) hx hb dX2_isOver_17 (by decide) ?_
      exact x_zret (b := true) hx hb hr hlocks hK (uI σ 20 0) hP hD hS ⟨fun h9 => absurd h9 (by first | decide | (rw [hT]; decide)), fun j hj e9 => by rw [← nI_inj32 hk hj e9]; exact ⟨by simp [c_2], by simp [c_2]⟩⟩ dX2_isOver_21
set_option maxHeartbeats 4000000 in
set_option maxRecDepth 100000 in
theorem k_X2_sizeOf (l : Launch) (D : va_G) (bx : Nat) (ba : Nat → Nat) (cI cJ cZ : ClassId) (sz : Nat) (σ : St) (t : Int32) : Met l yX2_sizeOf wsX2_sizeOf ({ frames := 2, cells := 0, slots := 0, locals := 80 } : Room) (va_Pc [.ref bx, .int t] (xPre D (mT cI cJ cZ) mE (mW bx ba cI cJ cZ) σ sz)) (va_Qi (fun (r : Int32) (u : St) => (isT t = false → r = 0 ∧ u = uI σ 20 1) ∧ (∀ k, k < 32 → t = nI k → r = (if gB σ 1 k then gS σ 3 k else 0) ∧ u = uI σ 20 0)) (xB D (mT cI cJ cZ) (mW bx ba cI cJ cZ) (va_A (mW bx ba cI cJ cZ σ) sz)) (va_A (mW bx ba cI cJ cZ σ) sz)) 0 0 (va_A (mW bx ba cI cJ cZ σ) sz) := by
  refine xOpen (w := (mW bx ba cI cJ cZ)) (σ := σ) (cc := cX2_sizeOf) (maxL := 2) (ret := some .int) (QQ := fun A => va_Qi (fun (r : Int32) (u : St) => (isT t = false → r = 0 ∧ u = uI σ 20 1) ∧ (∀ k, k < 32 → t = nI k → r = (if gB σ 1 k then gS σ 3 k else 0) ∧ u = uI σ 20 0)) (xB D (mT cI cJ cZ) (mW bx ba cI cJ cZ) A) A) (by decide) rfl (Nat.le_of_ble_eq_true rfl) ?_
  intro p e s m below meth c A hx hb hr hml hown hts hlocks hname hK hE hA hP hD hS ls hl
  have hl : lv_has ls 2 [(0, .ref bx), (1, .int t)] := hl
  have hown : s.vm.findClass RX2 = some m.cls := hown
  have hi2 : ∀ w ∈ wsX20, w ∈ wsX2_sizeOf := (fun _ h => List.mem_cons_of_mem _ (List.mem_append_right _ h))
  generalize hH : s.heap = H at hP
  have hS : va_S A s.heap H [] := by rw [← hH]; exact va_S.rf
  generalize hlo : ([] : List Loc) = locs at hS
  refine lv_aload_n hx hb dX2_sizeOf_0 rfl (lv_at hl 0 rfl) ?_
  refine lv_iload_n hx hb dX2_sizeOf_1 rfl (lv_at hl 1 rfl) ?_
  refine x_calli (va_runV (As := [.int t]) (rest := []) ⟨hx, hb, hml, hown, hts⟩ (k_X2_isThing l D bx ba cI cJ cZ H.size σ t) (cwV 1 hts gX2_sizeOf_X2_isThing rfl rfl rfl (by decide +kernel) ⟨Nat.le_of_ble_eq_true rfl, Nat.le_of_ble_eq_true rfl⟩) (xPreV mE_ok hE hK hA hP hD hS (q0 := 0) (ci := 2) rfl rfl rfl) rfl rfl hl.1 rfl (lv_room (Nat.le_of_ble_eq_true rfl)) dX2_sizeOf_2 ⟨Nat.le_of_ble_eq_true rfl, Nat.le_of_ble_eq_true rfl⟩) hD hS hA (fun r u H locs hp hP hD hS => ?_)
  obtain ⟨rfl, hu9⟩ := hp
  rw [hu9] at hP hD
  refine x_ifeq (tgt := 26) hx hb dX2_sizeOf_5 (by decide) (fun c_1 => ?_) (fun c_1 => ?_)
  · rw [if_neg (show ¬ isT t = true by rw [c_1]; decide)] at hP hD
    have hT := c_1
    refine lv_iconst (v := 0) hx hb dX2_sizeOf_26 (by decide) ?_
    exact x_iret hx hb hr hlocks hK (uI σ 20 1) hP hD hS ⟨fun _ => ⟨rfl, rfl⟩, fun j hj e9 => (isT_ff hT hj e9).elim⟩ dX2_sizeOf_27
  · rw [if_pos c_1] at hP hD
    have hT := c_1
    obtain ⟨k, hk, rfl⟩ := isT_nI c_1
    have hl : lv_has ls 2 [(0, .ref bx), (1, .int (nI k))] := hl
    refine lv_aload_n hx hb dX2_sizeOf_8 rfl (lv_at hl 0 rfl) ?_
    refine m_get hx hb hts hi2 hown hK hP 5 (by decide) (List.mem_of_getElem? (i := 1) rfl) (v := .ref (ba 0)) rfl dX2_sizeOf_9 (fun _ h => h) ?_
    refine lv_iload_n hx hb dX2_sizeOf_12 rfl (lv_at hl 1 rfl) ?_
    refine m_ld0 hx hb hK hP hk dX2_sizeOf_13 ?_
    refine W.eq (g2 := F0 m 14 ls [.int (bI (gB σ 1 k))]) rfl ?_
    refine x_ifeq (tgt := 26) hx hb dX2_sizeOf_14 (by decide) (fun c_2 => ?_) (fun c_2 => ?_)
    · refine lv_iconst (v := 0) hx hb dX2_sizeOf_26 (by decide) ?_
      exact x_iret hx hb hr hlocks hK (uI σ 20 0) hP hD hS ⟨fun h9 => absurd h9 (by first | decide | (rw [hT]; decide)), fun j hj e9 => by rw [← nI_inj32 hk hj e9]; exact ⟨by simp [c_2], by simp [c_2]⟩⟩ dX2_sizeOf_27
    · refine lv_aload_n hx hb dX2_sizeOf_17 rfl (lv_at hl 0 rfl) ?_
      refine m_get hx hb hts hi2 hown hK hP 7 (by decide) (List.mem_of_getElem? (i := 2) rfl) (v := .ref (ba 2)) rfl dX2_sizeOf_18 (fun _ h => h) ?_
      refine lv_iload_n hx hb dX2_sizeOf_21 rfl (lv_at hl 1 rfl) ?_
      refine m_ld2 hx hb hK hP hk dX2_sizeOf_22 ?_
      refine W.eq (g2 := F0 m 23 ls [.int (gS σ 3 k)]) rfl ?_
      refine lv_goto (tgt := 27) hx hb dX2_sizeOf_23 (by decide) ?_
      exact x_iret hx hb hr hlocks hK (uI σ 20 0) hP hD hS ⟨fun h9 => absurd h9 (by first | decide | (rw [hT]; decide)), fun j hj e9 => by rw [← nI_inj32 hk hj e9]; exact ⟨by simp [c_2], by simp [c_2]⟩⟩ dX2_sizeOf_27
