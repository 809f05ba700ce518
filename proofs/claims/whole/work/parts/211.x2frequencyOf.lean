set_option maxHeartbeats 4000000 in
set_option maxRecDepth 100000 in
theorem k_X2_frequencyOf (l : Launch) (D : va_G) (bx : Nat) (ba : Nat → Nat) (cI cJ cZ : ClassId) (sz : Nat) (σ : St) (t : Int32) : Met l yX2_frequencyOf wsX2_frequencyOf ({ frames := 2, cells := 0, slots := 0, locals := 80 } : Room) (va_Pc [.ref bx, .int t] (xPre D (mT cI cJ cZ) mE (mW bx ba cI cJ cZ) σ sz)) (va_Qi (fun (r : Int32) (u : St) => (isT t = false → r = 0 ∧ u = uI σ 20 1) ∧ (∀ k, k < 32 → t = nI k → r = (if gB σ 1 k then gS σ 4 k else 0) ∧ u = uI σ 20 0)) (xB D (mT cI cJ cZ) (mW bx ba cI cJ cZ) (va_A (mW bx ba cI cJ cZ σ) sz)) (va_A (mW bx ba cI cJ cZ σ) sz)) 0 0 (va_A (mW bx ba cI cJ cZ σ) sz) := by
  refine xOpen (w := (mW bx ba cI cJ cZ)) (σ := σ) (cc := cX2_frequencyOf) (maxL := 2) (ret := some .int) (QQ := fun A => va_Qi (fun (r : Int32) (u : St) => (isT t = false → r = 0 ∧ u = uI σ 20 1) ∧ (∀ k, k < 32 → t = nI k → r = (if gB σ 1 k then gS σ 4 k else 0) ∧ u = uI σ 20 0)) (xB D (mT cI cJ cZ) (mW bx ba cI cJ cZ) A) A) (by decide) rfl (Nat.le_of_ble_eq_true rfl) ?_
  intro p e s m below meth c A hx hb hr hml hown hts hlocks hname hK hE hA hP hD hS ls hl
  have hl : lv_has ls 2 [(0, .ref bx), (1, .int t)] := hl
  have hown : s.vm.findClass RX2 = some m.cls := hown
  have hi2 : ∀ w ∈ wsX20, w ∈ wsX2_frequencyOf := (fun _ h => List.mem_cons_of_mem _ (List.mem_append_right _ h))
  generalize hH : s.heap = H at hP
  have hS : va_S A s.heap H [] := by rw [← hH]; exact va_S.rf
  generalize hlo : ([] : List Loc) = locs at hS
  refine lv_aload_n hx hb dX2_frequencyOf_0 rfl (lv_at hl 0 rfl) ?_
  refine lv_iload_n hx hb dX2_frequencyOf_1 rfl (lv_at hl 1 rfl) ?_
  refine x_calli (va_runV (As := [.int t]) (rest := []) ⟨hx, hb, hml, hown, hts⟩ (k_X2_isThing l D bx ba cI cJ cZ H.size σ t) (cwV 1 hts gX2_frequencyOf_X2_isThing rfl rfl rfl (by decide +kernel) ⟨Nat.le_of_ble_eq_true rfl, Nat.le_of_ble_eq_true rfl⟩) (xPreV mE_ok hE hK hA hP hD hS (q0 := 0) (ci := 2) rfl rfl rfl) rfl rfl hl.1 rfl (lv_room (Nat.le_of_ble_eq_true rfl)) dX2_frequencyOf_2 ⟨Nat.le_of_ble_eq_true rfl, Nat.le_of_ble_eq_true rfl⟩) hD hS hA (fun r u H locs hp hP hD hS => ?_)
  obtain ⟨rfl, hu9⟩ := hp
  rw [hu9] at hP hD
  refine x_ifeq (tgt := 26) hx hb dX2_frequencyOf_5 (by decide) (fun c_1 => ?_) (fun c_1 => ?_)
  · rw [if_neg (show ¬ isT t = true by rw [c_1]; decide)] at hP hD
    have hT := c_1
    refine lv_iconst (v := 0) hx hb dX2_frequencyOf_26 (by decide) ?_
    exact x_iret hx hb hr hlocks hK (uI σ 20 1) hP hD hS ⟨fun _ => ⟨rfl, rfl⟩, fun j hj e9 => (isT_ff hT hj e9).elim⟩ dX2_frequencyOf_27
  · rw [if_pos c_1] at hP hD
    have hT := c_1
    obtain ⟨k, hk, rfl⟩ := isT_nI c_1
    have hl : lv_has ls 2 [(0, .ref bx), (1, .int (nI k))] := hl
    refine lv_aload_n hx hb dX2_frequencyOf_8 rfl (lv_at hl 0 rfl) ?_
    refine m_get hx hb hts hi2 hown hK hP 5 (by decide) (List.mem_of_getElem? (i := 1) rfl) (v := .ref (ba 0)) rfl dX2_frequencyOf_9 (fun _ h => h) ?_
    refine lv_iload_n hx hb dX2_frequencyOf_12 rfl (lv_at hl 1 rfl) ?_
    refine m_ld0 hx hb hK hP hk dX2_frequencyOf_13 ?_
    refine W.eq (g2 := F0 m 14 ls [.int (bI (gB σ 1 k))]) rfl ?_
    refine x_ifeq (tgt := 26) hx hb dX2_frequencyOf_14 (by decide) (fun c_2 => ?_) (fun c_2 => ?_)
    · refine lv_iconst (v := 0) hx hb dX2_frequencyOf_26 (by decide) ?_
      exact x_iret hx hb hr hlocks hK (uI σ 20 0) hP hD hS ⟨fun h9 => absurd h9 (by first | decide | (rw [hT]; decide)), fun j hj e9 => by rw [← nI_inj32 hk hj e9]; exact ⟨by simp [c_2], by simp [c_2]⟩⟩ dX2_frequencyOf_27
    · refine lv_aload_n hx hb dX2_frequencyOf_17 rfl (lv_at hl 0 rfl) ?_
      refine m_get hx hb hts hi2 hown hK hP 9 (by decide) (List.mem_of_getElem? (i := 2) rfl) (v := .ref (ba 4)) rfl dX2_frequencyOf_18 (fun _ h => h) ?_
      refine lv_iload_n hx hb dX2_frequencyOf_21 rfl (lv_at hl 1 rfl) ?_
      refine m_ld4 hx hb hK hP hk dX2_frequencyOf_22 ?_
      refine W.eq (g2 := F0 m 23 ls [.int (gS σ 4 k)]) rfl ?_
      refine lv_goto (tgt := 27) hx hb dX2_frequencyOf_23 (by decide) ?_
      exact x_iret hx hb hr hlocks hK (uI σ 20 0) hP hD hS ⟨fun h9 => absurd h9 (by first | decide | (rw [hT]; decide)), fun j hj e9 => by rw [← nI_inj32 hk hj e9]; exact ⟨by simp [c_2], by simp [c_2]⟩⟩ dX2_frequencyOf_27
set_option maxHeartbeats 4000000 in
set_option maxRecDepth 100000 in
theorem k_X2_worthOf (l : Launch) (D : va_G) (bx : Nat) (ba : Nat → Nat) (cI cJ cZ : ClassId) (sz : Nat) (σ : St) (t : Int32) : Met l yX2_worthOf wsX2_worthOf ({ frames := 2, cells := 0, slots := 0, locals := 80 } : Room) (va_Pc [.ref bx, .int t] (xPre D (mT cI cJ cZ) mE (mW bx ba cI cJ cZ) σ sz)) (va_Ql (fun (r : Int64) (u : St) => (isT t = false → r = 0 ∧ u = uI σ 20 1) ∧ (∀ k, k < 32 → t = nI k → r = (if gB σ 1 k then gT σ 6 k else -1) ∧ u = uI σ 20 0)) (xB D (mT cI cJ cZ) (mW bx ba cI cJ cZ) (va_A (mW bx ba cI cJ cZ σ) sz)) (va_A (mW bx ba cI cJ cZ σ) sz)) 0 0 (va_A (mW bx ba cI cJ cZ σ) sz) := by
  refine xOpen (w := (mW bx ba cI cJ cZ)) (σ := σ) (cc := cX2_worthOf) (maxL := 2) (ret := some .long) (QQ := fun A => va_Ql (fun (r : Int64) (u : St) => (isT t = false → r = 0 ∧ u = uI σ 20 1) ∧ (∀ k, k < 32 → t = nI k → r = (if gB σ 1 k then gT σ 6 k else -1) ∧ u = uI σ 20 0)) (xB D (mT cI cJ cZ) (mW bx ba cI cJ cZ) A) A) (by decide) rfl (Nat.le_of_ble_eq_true rfl) ?_
  intro p e s m below meth c A hx hb hr hml hown hts hlocks hname hK hE hA hP hD hS ls hl
  have hl : lv_has ls 2 [(0, .ref bx), (1, .int t)] := hl
  have hown : s.vm.findClass RX2 = some m.cls := hown
  have hi2 : ∀ w ∈ wsX20, w ∈ wsX2_worthOf := (fun _ h => List.mem_cons_of_mem _ (List.mem_append_right _ h))
  generalize hH : s.heap = H at hP
  have hS : va_S A s.heap H [] := by rw [← hH]; exact va_S.rf
  generalize hlo : ([] : List Loc) = locs at hS
  refine lv_aload_n hx hb dX2_worthOf_0 rfl (lv_at hl 0 rfl) ?_
  refine lv_iload_n hx hb dX2_worthOf_1 rfl (lv_at hl 1 rfl) ?_
  refine x_calli (va_runV (As := [.int t]) (rest := []) ⟨hx, hb, hml, hown, hts⟩ (k_X2_isThing l D bx ba cI cJ cZ H.size σ t) (cwV 1 hts gX2_worthOf_X2_isThing rfl rfl rfl (by decide +kernel) ⟨Nat.le_of_ble_eq_true rfl, Nat.le_of_ble_eq_true rfl⟩) (xPreV mE_ok hE hK hA hP hD hS (q0 := 0) (ci := 2) rfl rfl rfl) rfl rfl hl.1 rfl (lv_room (Nat.le_of_ble_eq_true rfl)) dX2_worthOf_2 ⟨Nat.le_of_ble_eq_true rfl, Nat.le_of_ble_eq_true rfl⟩) hD hS hA (fun r u H locs hp hP hD hS => ?_)
  obtain ⟨rfl, hu9⟩ := hp
  rw [hu9] at hP hD
  refine x_ifne (tgt := 12) hx hb dX2_worthOf_5 (by decide) (fun c_1 => ?_) (fun c_1 => ?_)
  · rw [if_pos c_1] at hP hD
    have hT := c_1
    obtain ⟨k, hk, rfl⟩ := isT_nI c_1
    have hl : lv_has ls 2 [(0, .ref bx), (1, .int (nI k))] := hl
    refine lv_aload_n hx hb dX2_worthOf_12 rfl (lv_at hl 0 rfl) ?_
    refine m_get hx hb hts hi2 hown hK hP 5 (by decide) (List.mem_of_getElem? (i := 1) rfl) (v := .ref (ba 0)) rfl dX2_worthOf_13 (fun _ h => h) ?_
    refine lv_iload_n hx hb dX2_worthOf_16 rfl (lv_at hl 1 rfl) ?_
    refine m_ld0 hx hb hK hP hk dX2_worthOf_17 ?_
    refine W.eq (g2 := F0 m 18 ls [.int (bI (gB σ 1 k))]) rfl ?_
    refine x_ifeq (tgt := 30) hx hb dX2_worthOf_18 (by decide) (fun c_2 => ?_) (fun c_2 => ?_)
    · refine lv_ldc2 (v := (-1)) hx hb hown (hts _ (List.mem_of_getElem? (i := 3) rfl)) dX2_worthOf_30 ?_
      exact x_lret hx hb hr hlocks hK (uI σ 20 0) hP hD hS ⟨fun h9 => absurd h9 (by first | decide | (rw [hT]; decide)), fun j hj e9 => by rw [← nI_inj32 hk hj e9]; exact ⟨by simp [c_2], by simp [c_2]⟩⟩ dX2_worthOf_33
    · refine lv_aload_n hx hb dX2_worthOf_21 rfl (lv_at hl 0 rfl) ?_
      refine m_get hx hb hts hi2 hown hK hP 10 (by decide) (List.mem_of_getElem? (i := 2) rfl) (v := .ref (ba 5)) rfl dX2_worthOf_22 (fun _ h => h) ?_
      refine lv_iload_n hx hb dX2_worthOf_25 rfl (lv_at hl 1 rfl) ?_
      refine m_ld5 hx hb hK hP hk dX2_worthOf_26 ?_
      refine W.eq (g2 := F0 m 27 ls [.long (gT σ 6 k)]) rfl ?_
      refine lv_goto (tgt := 33) hx hb dX2_worthOf_27 (by decide) ?_
      exact x_lret hx hb hr hlocks hK (uI σ 20 0) hP hD hS ⟨fun h9 => absurd h9 (by first | decide | (rw [hT]; decide)), fun j hj e9 => by rw [← nI_inj32 hk hj e9]; exact ⟨by simp [c_2], by simp [c_2]⟩⟩ dX2_worthOf_33
  · rw [if_neg (show ¬ isT t = true by rw [c_1]; decide)] at hP hD
    have hT := c_1
    refine lv_lconst (v := 0) hx hb dX2_worthOf_8 (by decide) ?_
    refine lv_goto (tgt := 33) hx hb dX2_worthOf_9 (by decide) ?_
    exact x_lret hx hb hr hlocks hK (uI σ 20 1) hP hD hS ⟨fun _ => ⟨rfl, rfl⟩, fun j hj e9 => (isT_ff hT hj e9).elim⟩ dX2_worthOf_33
set_option maxHeartbeats 4000000 in
set_option maxRecDepth 100000 in
theorem k_X2_endOf (l : Launch) (D : va_G) (bx : Nat) (ba : Nat → Nat) (cI cJ cZ : ClassId) (sz : Nat) (σ : St) (t : Int32) : Met l yX2_endOf wsX2_endOf ({ frames := 2, cells := 0, slots := 0, locals := 80 } : Room) (va_Pc [.ref bx, .int t] (xPre D (mT cI cJ cZ) mE (mW bx ba cI cJ cZ) σ sz)) (va_Qi (fun (r : Int32) (u : St) => (isT t = false → r = 0 ∧ u = uI σ 20 1) ∧ (∀ k, k < 32 → t = nI k → r = (if gB σ 1 k then gS σ 5 k else -1) ∧ u = uI σ 20 0)) (xB D (mT cI cJ cZ) (mW bx ba cI cJ cZ) (va_A (mW bx ba cI cJ cZ σ) sz)) (va_A (mW bx ba cI cJ cZ σ) sz)) 0 0 (va_A (mW bx ba cI cJ cZ σ) sz) := by
  refine xOpen (w := (mW bx ba cI cJ cZ)) (σ := σ) (cc := cX2_endOf) (maxL := 2) (ret := some .int) (QQ := fun A => va_Qi (fun (r : Int32) (u : St) => (isT t = false → r = 0 ∧ u = uI σ 20 1) ∧ (∀ k, k < 32 → t = nI k → r = (if gB σ 1 k then gS σ 5 k else -1) ∧ u = uI σ 20 0)) (xB D (mT cI cJ cZ) (mW bx ba cI cJ cZ) A) A) (by decide) rfl (Nat.le_of_ble_eq_true rfl) ?_
  intro p e s m below meth c A hx hb hr hml hown hts hlocks hname hK hE hA hP hD hS ls hl
  have hl : lv_has ls 2 [(0, .ref bx), (1, .int t)] := hl
  have hown : s.vm.findClass RX2 = some m.cls := hown
  have hi2 : ∀ w ∈ wsX20, w ∈ wsX2_endOf := (fun _ h => List.mem_cons_of_mem _ (List.mem_append_right _ h))
  generalize hH : s.heap = H at hP
  have hS : va_S A s.heap H [] := by rw [← hH]; exact va_S.rf
  generalize hlo : ([] : List Loc) = locs at hS
  refine lv_aload_n hx hb dX2_endOf_0 rfl (lv_at hl 0 rfl) ?_
  refine lv_iload_n hx hb dX2_endOf_1 rfl (lv_at hl 1 rfl) ?_
  refine x_calli (va_runV (As := [.int t]) (rest := []) ⟨hx, hb, hml, hown, hts⟩ (k_X2_isThing l D bx ba cI cJ cZ H.size σ t) (cwV 1 hts gX2_endOf_X2_isThing rfl rfl rfl (by decide +kernel) ⟨Nat.le_of_ble_eq_true rfl, Nat.le_of_ble_eq_true rfl⟩) (xPreV mE_ok hE hK hA hP hD hS (q0 := 0) (ci := 2) rfl rfl rfl) rfl rfl hl.1 rfl (lv_room (Nat.le_of_ble_eq_true rfl)) dX2_endOf_2 ⟨Nat.le_of_ble_eq_true rfl, Nat.le_of_ble_eq_true rfl⟩) hD hS hA (fun r u H locs hp hP hD hS => ?_)
  obtain ⟨rfl, hu9⟩ := hp
  rw [hu9] at hP hD
  refine x_ifne (tgt := 12) hx hb dX2_endOf_5 (by decide) (fun c_1 => ?_) (fun c_1 => ?_)
  · rw [if_pos c_1] at hP hD
    have hT := c_1
    obtain ⟨k, hk, rfl⟩ := isT_nI c_1
    have hl : lv_has ls 2 [(0, .ref bx), (1, .int (nI k))] := hl
    refine lv_aload_n hx hb dX2_endOf_12 rfl (lv_at hl 0 rfl) ?_
    refine m_get hx hb hts hi2 hown hK hP 5 (by decide) (List.mem_of_getElem? (i := 1) rfl) (v := .ref (ba 0)) rfl dX2_endOf_13 (fun _ h => h) ?_
    refine lv_iload_n hx hb dX2_endOf_16 rfl (lv_at hl 1 rfl) ?_
    refine m_ld0 hx hb hK hP hk dX2_endOf_17 ?_
    refine W.eq (g2 := F0 m 18 ls [.int (bI (gB σ 1 k))]) rfl ?_
    refine x_ifeq (tgt := 30) hx hb dX2_endOf_18 (by decide) (fun c_2 => ?_) (fun c_2 => ?_)
    · refine lv_iconst (v := (-1)) hx hb dX2_endOf_30 (by decide) ?_
      exact x_iret hx hb hr hlocks hK (uI σ 20 0) hP hD hS ⟨fun h9 => absurd h9 (by first | decide | (rw [hT]; decide)), fun j hj e9 => by rw [← nI_inj32 hk hj e9]; exact ⟨by simp [c_2], by simp [c_2]⟩⟩ dX2_endOf_31
    · refine lv_aload_n hx hb dX2_endOf_21 rfl (lv_at hl 0 rfl) ?_
      refine m_get hx hb hts hi2 hown hK hP 11 (by decide) (List.mem_of_getElem? (i := 2) rfl) (v := .ref (ba 6)) rfl dX2_endOf_22 (fun _ h => h) ?_
      refine lv_iload_n hx hb dX2_endOf_25 rfl (lv_at hl 1 rfl) ?_
      refine m_ld6 hx hb hK hP hk dX2_endOf_26 ?_
      refine W.eq (g2 := F0 m 27 ls [.int (gS σ 5 k)]) rfl ?_
      refine lv_goto (tgt := 31) hx hb dX2_endOf_27 (by decide) ?_
      exact x_iret hx hb hr hlocks hK (uI σ 20 0) hP hD hS ⟨fun h9 => absurd h9 (by first | decide | (rw [hT]; decide)), fun j hj e9 => by rw [← nI_inj32 hk hj e9]; exact ⟨by simp [c_2], by simp [c_2]⟩⟩ dX2_endOf_31
  · rw [if_neg (show ¬ isT t = true by rw [c_1]; decide)] at hP hD
    have hT := c_1
    refine lv_iconst (v := 0) hx hb dX2_endOf_8 (by decide) ?_
    refine lv_goto (tgt := 31) hx hb dX2_endOf_9 (by decide) ?_
    exact x_iret hx hb hr hlocks hK (uI σ 20 1) hP hD hS ⟨fun _ => ⟨rfl, rfl⟩, fun j hj e9 => (isT_ff hT hj e9).elim⟩ dX2_endOf_31
