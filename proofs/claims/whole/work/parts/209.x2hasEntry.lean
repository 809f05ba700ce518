set_option maxHeartbeats 4000000 in
set_option maxRecDepth 100000 in
theorem k_X2_hasEntry (l : Launch) (D : va_G) (bx : Nat) (ba : Nat → Nat) (cI cJ cZ : ClassId) (sz : Nat) (σ : St) (t : Int32) : Met l yX2_hasEntry wsX2_hasEntry ({ frames := 2, cells := 0, slots := 0, locals := 80 } : Room) (va_Pc [.ref bx, .int t] (xPre D (mT cI cJ cZ) mE (mW bx ba cI cJ cZ) σ sz)) (va_Qi (fun (r : Int32) (u : St) => (isT t = false → r = 0 ∧ u = uI σ 20 1) ∧ (∀ k, k < 32 → t = nI k → r = bI (gB σ 1 k) ∧ u = uI (uI σ 20 0) 20 (if gB σ 1 k then 0 else 2))) (xB D (mT cI cJ cZ) (mW bx ba cI cJ cZ) (va_A (mW bx ba cI cJ cZ σ) sz)) (va_A (mW bx ba cI cJ cZ σ) sz)) 0 0 (va_A (mW bx ba cI cJ cZ σ) sz) := by
  refine xOpen (w := (mW bx ba cI cJ cZ)) (σ := σ) (cc := cX2_hasEntry) (maxL := 2) (ret := some .boolean) (QQ := fun A => va_Qi (fun (r : Int32) (u : St) => (isT t = false → r = 0 ∧ u = uI σ 20 1) ∧ (∀ k, k < 32 → t = nI k → r = bI (gB σ 1 k) ∧ u = uI (uI σ 20 0) 20 (if gB σ 1 k then 0 else 2))) (xB D (mT cI cJ cZ) (mW bx ba cI cJ cZ) A) A) (by decide) rfl (Nat.le_of_ble_eq_true rfl) ?_
  intro p e s m below meth c A hx hb hr hml hown hts hlocks hname hK hE hA hP hD hS ls hl
  have hl : lv_has ls 2 [(0, .ref bx), (1, .int t)] := hl
  have hown : s.vm.findClass RX2 = some m.cls := hown
  have hi2 : ∀ w ∈ wsX20, w ∈ wsX2_hasEntry := (fun _ h => List.mem_cons_of_mem _ (List.mem_append_right _ h))
  generalize hH : s.heap = H at hP
  have hS : va_S A s.heap H [] := by rw [← hH]; exact va_S.rf
  generalize hlo : ([] : List Loc) = locs at hS
  refine lv_aload_n hx hb dX2_hasEntry_0 rfl (lv_at hl 0 rfl) ?_
  refine lv_iload_n hx hb dX2_hasEntry_1 rfl (lv_at hl 1 rfl) ?_
  refine x_calli (va_runV (As := [.int t]) (rest := []) ⟨hx, hb, hml, hown, hts⟩ (k_X2_isThing l D bx ba cI cJ cZ H.size σ t) (cwV 1 hts gX2_hasEntry_X2_isThing rfl rfl rfl (by decide +kernel) ⟨Nat.le_of_ble_eq_true rfl, Nat.le_of_ble_eq_true rfl⟩) (xPreV mE_ok hE hK hA hP hD hS (q0 := 0) (ci := 2) rfl rfl rfl) rfl rfl hl.1 rfl (lv_room (Nat.le_of_ble_eq_true rfl)) dX2_hasEntry_2 ⟨Nat.le_of_ble_eq_true rfl, Nat.le_of_ble_eq_true rfl⟩) hD hS hA (fun r u H locs hp hP hD hS => ?_)
  obtain ⟨rfl, hu9⟩ := hp
  rw [hu9] at hP hD
  refine x_ifeq (tgt := 26) hx hb dX2_hasEntry_5 (by decide) (fun c_1 => ?_) (fun c_1 => ?_)
  · rw [if_neg (show ¬ isT t = true by rw [c_1]; decide)] at hP hD
    have hT := c_1
    refine lv_aload_n hx hb dX2_hasEntry_26 rfl (lv_at hl 0 rfl) ?_
    refine m_get hx hb hts hi2 hown hK hP 21 (by decide) (List.mem_of_getElem? (i := 2) rfl) (v := .int 1) rfl dX2_hasEntry_27 (fun _ h => h) ?_
    refine lv_if_ne (tgt := 37) hx hb dX2_hasEntry_30 (by decide) (fun _ => ?_) (fun c_2 => absurd c_2 (by decide))
    refine lv_iconst (v := 0) hx hb dX2_hasEntry_37 (by decide) ?_
    exact x_zret (b := false) hx hb hr hlocks hK (uI σ 20 1) hP hD hS ⟨fun _ => ⟨rfl, rfl⟩, fun j hj e9 => (isT_ff hT hj e9).elim⟩ dX2_hasEntry_38
  · rw [if_pos c_1] at hP hD
    have hT := c_1
    obtain ⟨k, hk, rfl⟩ := isT_nI c_1
    have hl : lv_has ls 2 [(0, .ref bx), (1, .int (nI k))] := hl
    refine lv_aload_n hx hb dX2_hasEntry_8 rfl (lv_at hl 0 rfl) ?_
    refine lv_aload_n hx hb dX2_hasEntry_9 rfl (lv_at hl 0 rfl) ?_
    refine m_get hx hb hts hi2 hown hK hP 5 (by decide) (List.mem_of_getElem? (i := 1) rfl) (v := .ref (ba 0)) rfl dX2_hasEntry_10 (fun _ h => h) ?_
    refine lv_iload_n hx hb dX2_hasEntry_13 rfl (lv_at hl 1 rfl) ?_
    refine m_ld0 hx hb hK hP hk dX2_hasEntry_14 ?_
    refine W.eq (g2 := F0 m 15 ls [.int (bI (gB σ 1 k)), .ref bx]) rfl ?_
    refine x_ifeq (tgt := 22) hx hb dX2_hasEntry_15 (by decide) (fun c_3 => ?_) (fun c_3 => ?_)
    · refine lv_iconst (v := 2) hx hb dX2_hasEntry_22 (by decide) ?_
      refine m_put hx hb hts hi2 hown hK hP hD hS 21 (by decide) (List.mem_of_getElem? (i := 2) rfl) (v := .int 2) (ty := .int) (uI (uI σ 20 0) 20 2) (mF_21 bx ba cI cJ cZ _ _) rfl (by decide +kernel) rfl rfl dX2_hasEntry_23 (fun _ h => h) (fun H locs hP hD hS => ?_)
      refine lv_aload_n hx hb dX2_hasEntry_26 rfl (lv_at hl 0 rfl) ?_
      refine m_get hx hb hts hi2 hown hK hP 21 (by decide) (List.mem_of_getElem? (i := 2) rfl) (v := .int 2) rfl dX2_hasEntry_27 (fun _ h => h) ?_
      refine lv_if_ne (tgt := 37) hx hb dX2_hasEntry_30 (by decide) (fun _ => ?_) (fun c_4 => absurd c_4 (by decide))
      refine lv_iconst (v := 0) hx hb dX2_hasEntry_37 (by decide) ?_
      exact x_zret (b := false) hx hb hr hlocks hK (uI (uI σ 20 0) 20 2) hP hD hS ⟨fun h9 => absurd h9 (by first | decide | (rw [hT]; decide)), fun j hj e9 => by rw [← nI_inj32 hk hj e9]; exact ⟨by simp [c_3], by simp [c_3]⟩⟩ dX2_hasEntry_38
    · refine lv_iconst (v := 0) hx hb dX2_hasEntry_18 (by decide) ?_
      refine lv_goto (tgt := 23) hx hb dX2_hasEntry_19 (by decide) ?_
      refine m_put hx hb hts hi2 hown hK hP hD hS 21 (by decide) (List.mem_of_getElem? (i := 2) rfl) (v := .int 0) (ty := .int) (uI (uI σ 20 0) 20 0) (mF_21 bx ba cI cJ cZ _ _) rfl (by decide +kernel) rfl rfl dX2_hasEntry_23 (fun _ h => h) (fun H locs hP hD hS => ?_)
      refine lv_aload_n hx hb dX2_hasEntry_26 rfl (lv_at hl 0 rfl) ?_
      refine m_get hx hb hts hi2 hown hK hP 21 (by decide) (List.mem_of_getElem? (i := 2) rfl) (v := .int 0) rfl dX2_hasEntry_27 (fun _ h => h) ?_
      refine lv_if_ne (tgt := 37) hx hb dX2_hasEntry_30 (by decide) (fun c_5 => absurd (by decide) c_5) (fun _ => ?_)
      refine lv_iconst (v := 1) hx hb dX2_hasEntry_33 (by decide) ?_
      refine lv_goto (tgt := 38) hx hb dX2_hasEntry_34 (by decide) ?_
      exact x_zret (b := true) hx hb hr hlocks hK (uI (uI σ 20 0) 20 0) hP hD hS ⟨fun h9 => absurd h9 (by first | decide | (rw [hT]; decide)), fun j hj e9 => by rw [← nI_inj32 hk hj e9]; exact ⟨by simp [c_3], by simp [c_3]⟩⟩ dX2_hasEntry_38
set_option maxHeartbeats 4000000 in
set_option maxRecDepth 100000 in
theorem k_X2_pin (l : Launch) (D : va_G) (bx : Nat) (ba : Nat → Nat) (cI cJ cZ : ClassId) (sz : Nat) (σ : St) (t : Int32) (b : Bool) : Met l yX2_pin wsX2_pin ({ frames := 3, cells := 0, slots := 0, locals := 120 } : Room) (va_Pc [.ref bx, .int t, .int (bI b)] (xPre D (mT cI cJ cZ) mE (mW bx ba cI cJ cZ) σ sz)) (va_Qi (fun (r : Int32) (u : St) => (isT t = false → r = 0 ∧ u = uI σ 20 1) ∧ (∀ k, k < 32 → t = nI k → r = bI (gB σ 1 k && gB σ 2 k) ∧ u = (if gB σ 1 k then uB (uI (uI σ 20 0) 20 0) 2 k b else uI (uI σ 20 0) 20 2))) (xB D (mT cI cJ cZ) (mW bx ba cI cJ cZ) (va_A (mW bx ba cI cJ cZ σ) sz)) (va_A (mW bx ba cI cJ cZ σ) sz)) 0 0 (va_A (mW bx ba cI cJ cZ σ) sz) := by
  refine xOpen (w := (mW bx ba cI cJ cZ)) (σ := σ) (cc := cX2_pin) (maxL := 4) (ret := some .boolean) (QQ := fun A => va_Qi (fun (r : Int32) (u : St) => (isT t = false → r = 0 ∧ u = uI σ 20 1) ∧ (∀ k, k < 32 → t = nI k → r = bI (gB σ 1 k && gB σ 2 k) ∧ u = (if gB σ 1 k then uB (uI (uI σ 20 0) 20 0) 2 k b else uI (uI σ 20 0) 20 2))) (xB D (mT cI cJ cZ) (mW bx ba cI cJ cZ) A) A) (by decide) rfl (Nat.le_of_ble_eq_true rfl) ?_
  intro p e s m below meth c A hx hb hr hml hown hts hlocks hname hK hE hA hP hD hS ls hl
  have hl : lv_has ls 4 [(0, .ref bx), (1, .int t), (2, .int (bI b))] := hl
  have hown : s.vm.findClass RX2 = some m.cls := hown
  have hi2 : ∀ w ∈ wsX20, w ∈ wsX2_pin := (fun _ h => List.mem_cons_of_mem _ (List.mem_append_right _ h))
  generalize hH : s.heap = H at hP
  have hS : va_S A s.heap H [] := by rw [← hH]; exact va_S.rf
  generalize hlo : ([] : List Loc) = locs at hS
  refine lv_aload_n hx hb dX2_pin_0 rfl (lv_at hl 0 rfl) ?_
  refine lv_iload_n hx hb dX2_pin_1 rfl (lv_at hl 1 rfl) ?_
  refine x_calli (va_runV (As := [.int t]) (rest := []) ⟨hx, hb, hml, hown, hts⟩ (k_X2_hasEntry l D bx ba cI cJ cZ H.size σ t) (cwV 1 hts gX2_pin_X2_hasEntry rfl rfl rfl (by decide +kernel) ⟨Nat.le_of_ble_eq_true rfl, Nat.le_of_ble_eq_true rfl⟩) (xPreV mE_ok hE hK hA hP hD hS (q0 := 0) (ci := 2) rfl rfl rfl) rfl rfl hl.1 rfl (lv_room (Nat.le_of_ble_eq_true rfl)) dX2_pin_2 ⟨Nat.le_of_ble_eq_true rfl, Nat.le_of_ble_eq_true rfl⟩) hD hS hA (fun r u H locs hp hP hD hS => ?_)
  cases hT : isT t with
  | false =>
    obtain ⟨rfl, hu9⟩ := hp.1 hT
    rw [hu9] at hP hD
    refine lv_if_ne (tgt := 10) hx hb dX2_pin_5 (by decide) (fun c_1 => absurd (by decide) c_1) (fun _ => ?_)
    refine lv_iconst (v := 0) hx hb dX2_pin_8 (by decide) ?_
    exact x_zret (b := false) hx hb hr hlocks hK (uI σ 20 1) hP hD hS ⟨fun _ => ⟨rfl, rfl⟩, fun j hj e9 => (isT_ff hT hj e9).elim⟩ dX2_pin_9
  | true =>
    obtain ⟨k, hk, rfl⟩ := isT_nI hT
    obtain ⟨rfl, hu9⟩ := hp.2 k hk rfl
    rw [hu9] at hP hD
    have hl : lv_has ls 4 [(0, .ref bx), (1, .int (nI k)), (2, .int (bI b))] := hl
    refine x_ifne (tgt := 10) hx hb dX2_pin_5 (by decide) (fun c_2 => ?_) (fun c_2 => ?_)
    · refine lv_aload_n hx hb dX2_pin_10 rfl (lv_at hl 0 rfl) ?_
      refine m_get hx hb hts hi2 hown hK hP 6 (by decide) (List.mem_of_getElem? (i := 1) rfl) (v := .ref (ba 1)) rfl dX2_pin_11 (fun _ h => h) ?_
      refine lv_iload_n hx hb dX2_pin_14 rfl (lv_at hl 1 rfl) ?_
      refine m_ld1 hx hb hK hP hk dX2_pin_15 ?_
      refine W.eq (g2 := F0 m 16 ls [.int (bI (gB σ 2 k))]) rfl ?_
      refine lv_istore_n (lv' := [(3, .int (bI (gB σ 2 k))), (0, .ref bx), (1, .int (nI k)), (2, .int (bI b))]) hx hb dX2_pin_16 rfl hl (by decide) rfl (fun ls hl => ?_)
      refine lv_aload_n hx hb dX2_pin_17 rfl (lv_at hl 1 rfl) ?_
      refine m_get hx hb hts hi2 hown hK hP 6 (by decide) (List.mem_of_getElem? (i := 1) rfl) (v := .ref (ba 1)) rfl dX2_pin_18 (fun _ h => h) ?_
      refine lv_iload_n hx hb dX2_pin_21 rfl (lv_at hl 2 rfl) ?_
      refine lv_iload_n hx hb dX2_pin_22 rfl (lv_at hl 3 rfl) ?_
      refine m_st1 (v := b) hx hb hK hP hD hS hk dX2_pin_23 (fun H locs hP hD hS => ?_)
      refine lv_iload_n hx hb dX2_pin_24 rfl (lv_at hl 0 rfl) ?_
      exact x_zret (b := gB σ 2 k) hx hb hr hlocks hK (uB (uI (uI σ 20 0) 20 (if gB σ 1 k then 0 else 2)) 2 k b) hP hD hS ⟨fun h9 => absurd h9 (by first | decide | (rw [hT]; decide)), fun j hj e9 => by rw [← nI_inj32 hk hj e9]; exact ⟨by simp [c_2, bI], by simp [c_2]⟩⟩ dX2_pin_25
    · refine lv_iconst (v := 0) hx hb dX2_pin_8 (by decide) ?_
      exact x_zret (b := false) hx hb hr hlocks hK (uI (uI σ 20 0) 20 (if gB σ 1 k then 0 else 2)) hP hD hS ⟨fun h9 => absurd h9 (by first | decide | (rw [hT]; decide)), fun j hj e9 => by rw [← nI_inj32 hk hj e9]; exact ⟨by simp [c_2, bI], by simp [c_2]⟩⟩ dX2_pin_9
set_option maxHeartbeats 4000000 in
set_option maxRecDepth 100000 in
theorem k_X2_drop (l : Launch) (D : va_G) (bx : Nat) (ba : Nat → Nat) (cI cJ cZ : ClassId) (sz : Nat) (σ : St) (t : Int32) : Met l yX2_drop wsX2_drop ({ frames := 3, cells := 0, slots := 0, locals := 120 } : Room) (va_Pc [.ref bx, .int t] (xPre D (mT cI cJ cZ) mE (mW bx ba cI cJ cZ) σ sz)) (va_Qi (fun (r : Int32) (u : St) => (isT t = false → r = 0 ∧ u = uI σ 20 1) ∧ (∀ k, k < 32 → t = nI k → r = (if gB σ 1 k then gS σ 3 k else 0) ∧ u = (if gB σ 1 k then uB (uI (uI σ 20 0) 20 0) 1 k false else uI (uI σ 20 0) 20 2))) (xB D (mT cI cJ cZ) (mW bx ba cI cJ cZ) (va_A (mW bx ba cI cJ cZ σ) sz)) (va_A (mW bx ba cI cJ cZ σ) sz)) 0 0 (va_A (mW bx ba cI cJ cZ σ) sz) := by
  refine xOpen (w := (mW bx ba cI cJ cZ)) (σ := σ) (cc := cX2_drop) (maxL := 2) (ret := some .int) (QQ := fun A => va_Qi (fun (r : Int32) (u : St) => (isT t = false → r = 0 ∧ u = uI σ 20 1) ∧ (∀ k, k < 32 → t = nI k → r = (if gB σ 1 k then gS σ 3 k else 0) ∧ u = (if gB σ 1 k then uB (uI (uI σ 20 0) 20 0) 1 k false else uI (uI σ 20 0) 20 2))) (xB D (mT cI cJ cZ) (mW bx ba cI cJ cZ) A) A) (by decide) rfl (Nat.le_of_ble_eq_true rfl) ?_
  intro p e s m below meth c A hx hb hr hml hown hts hlocks hname hK hE hA hP hD hS ls hl
  have hl : lv_has ls 2 [(0, .ref bx), (1, .int t)] := hl
  have hown : s.vm.findClass RX2 = some m.cls := hown
  have hi2 : ∀ w ∈ wsX20, w ∈ wsX2_drop := (fun _ h => List.mem_cons_of_mem _ (List.mem_append_right _ h))
  generalize hH : s.heap = H at hP
  have hS : va_S A s.heap H [] := by rw [← hH]; exact va_S.rf
  generalize hlo : ([] : List Loc) = locs at hS
  refine lv_aload_n hx hb dX2_drop_0 rfl (lv_at hl 0 rfl) ?_
  refine lv_iload_n hx hb dX2_drop_1 rfl (lv_at hl 1 rfl) ?_
  refine x_calli (va_runV (As := [.int t]) (rest := []) ⟨hx, hb, hml, hown, hts⟩ (k_X2_hasEntry l D bx ba cI cJ cZ H.size σ t) (cwV 1 hts gX2_drop_X2_hasEntry rfl rfl rfl (by decide +kernel) ⟨Nat.le_of_ble_eq_true rfl, Nat.le_of_ble_eq_true rfl⟩) (xPreV mE_ok hE hK hA hP hD hS (q0 := 0) (ci := 2) rfl rfl rfl) rfl rfl hl.1 rfl (lv_room (Nat.le_of_ble_eq_true rfl)) dX2_drop_2 ⟨Nat.le_of_ble_eq_true rfl, Nat.le_of_ble_eq_true rfl⟩) hD hS hA (fun r u H locs hp hP hD hS => ?_)
  cases hT : isT t with
  | false =>
    obtain ⟨rfl, hu9⟩ := hp.1 hT
    rw [hu9] at hP hD
    refine lv_if_ne (tgt := 10) hx hb dX2_drop_5 (by decide) (fun c_1 => absurd (by decide) c_1) (fun _ => ?_)
    refine lv_iconst (v := 0) hx hb dX2_drop_8 (by decide) ?_
    exact x_iret hx hb hr hlocks hK (uI σ 20 1) hP hD hS ⟨fun _ => ⟨rfl, rfl⟩, fun j hj e9 => (isT_ff hT hj e9).elim⟩ dX2_drop_9
  | true =>
    obtain ⟨k, hk, rfl⟩ := isT_nI hT
    obtain ⟨rfl, hu9⟩ := hp.2 k hk rfl
    rw [hu9] at hP hD
    have hl : lv_has ls 2 [(0, .ref bx), (1, .int (nI k))] := hl
    refine x_ifne (tgt := 10) hx hb dX2_drop_5 (by decide) (fun c_2 => ?_) (fun c_2 => ?_)
    · refine lv_aload_n hx hb dX2_drop_10 rfl (lv_at hl 0 rfl) ?_
      refine m_get hx hb hts hi2 hown hK hP 5 (by decide) (List.mem_of_getElem? (i := 1) rfl) (v := .ref (ba 0)) rfl dX2_drop_11 (fun _ h => h) ?_
      refine lv_iload_n hx hb dX2_drop_14 rfl (lv_at hl 1 rfl) ?_
      refine lv_iconst (v := 0) hx hb dX2_drop_15 (by decide) ?_
      refine m_st0 (v := false) hx hb hK hP hD hS hk dX2_drop_16 (fun H locs hP hD hS => ?_)
      refine lv_aload_n hx hb dX2_drop_17 rfl (lv_at hl 0 rfl) ?_
      refine m_get hx hb hts hi2 hown hK hP 7 (by decide) (List.mem_of_getElem? (i := 2) rfl) (v := .ref (ba 2)) rfl dX2_drop_18 (fun _ h => h) ?_
      refine lv_iload_n hx hb dX2_drop_21 rfl (lv_at hl 1 rfl) ?_
      refine m_ld2 hx hb hK hP hk dX2_drop_22 ?_
      refine W.eq (g2 := F0 m 23 ls [.int (gS σ 3 k)]) rfl ?_
      exact x_iret hx hb hr hlocks hK (uB (uI (uI σ 20 0) 20 (if gB σ 1 k then 0 else 2)) 1 k false) hP hD hS ⟨fun h9 => absurd h9 (by first | decide | (rw [hT]; decide)), fun j hj e9 => by rw [← nI_inj32 hk hj e9]; exact ⟨by simp [c_2, bI], by simp [c_2]⟩⟩ dX2_drop_23
    · refine lv_iconst (v := 0) hx hb dX2_drop_8 (by decide) ?_
      exact x_iret hx hb hr hlocks hK (uI (uI σ 20 0) 20 (if gB σ 1 k then 0 else 2)) hP hD hS ⟨fun h9 => absurd h9 (by first | decide | (rw [hT]; decide)), fun j hj e9 => by rw [← nI_inj32 hk hj e9]; exact ⟨by simp [c_2, bI], by simp [c_2]⟩⟩ dX2_drop_9
