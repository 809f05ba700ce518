set_option maxHeartbeats 4000000 in
set_option maxRecDepth 100000 in
theorem k_X1_worthOf (l : Launch) (D : va_G) (ax ar : Nat) (ad : Nat → Nat) (cO : ClassId) (sz : Nat) (σ : St) (t : Int32) (hfl : l.stackTraces = false) : vx_Met l yX1_worthOf wsX1_worthOf ({ frames := 7, cells := 1, slots := 6, locals := 120 } : Room) (va_Pc [.ref ax, .int t] (xPre D (cT cO) xE (cW ax ar ad cO) σ sz)) (va_Ql (fun (r : Int64) (u : St) => isT t = true ∧ (∀ k, k < 32 → t = nI k → r = if gB σ 1 k then gT σ 6 k else -1) ∧ u = σ) (xB D (cT cO) (cW ax ar ad cO) (va_A (cW ax ar ad cO σ) sz)) (va_A (cW ax ar ad cO σ) sz)) (xXC D (cT cO) (cW ax ar ad cO) (va_A (cW ax ar ad cO σ) sz) σ (fun En => En = xIO ∧ isT t = false)) 1 6 (va_A (cW ax ar ad cO σ) sz) := by
  refine xxOpen (w := (cW ax ar ad cO)) (σ := σ) (cc := cX1_worthOf) (maxL := 3) (ret := some .long) (QQ := fun A => va_Ql (fun (r : Int64) (u : St) => isT t = true ∧ (∀ k, k < 32 → t = nI k → r = if gB σ 1 k then gT σ 6 k else -1) ∧ u = σ) (xB D (cT cO) (cW ax ar ad cO) A) A) (XX := fun A => xXC D (cT cO) (cW ax ar ad cO) A σ (fun En => En = xIO ∧ isT t = false)) (by decide) rfl (Nat.le_of_ble_eq_true rfl) ?_
  intro p e s m below meth c A hx hb hr hml hown hts hlocks htab hK hE hA hP hD hS ls hl
  have hl : lv_has ls 3 [(0, .ref ax), (1, .int t)] := hl
  have hown : s.vm.findClass RX1 = some m.cls := hown
  have hi0 : ∀ w ∈ wsX00, w ∈ wsX1_worthOf := (fun _ h => List.mem_cons_of_mem _ (List.mem_append_left _ (List.mem_append_left _ (List.mem_append_right _ h))))
  have hi1 : ∀ w ∈ wsX10, w ∈ wsX1_worthOf := (fun _ h => List.mem_cons_of_mem _ (List.mem_append_left _ (List.mem_append_right _ h)))
  generalize hH : s.heap = H at hP
  have hS : va_S A s.heap H [] := by rw [← hH]; exact va_S.rf
  generalize hlo : ([] : List Loc) = locs at hS
  refine lv_aload_n hx hb dX1_worthOf_0 rfl (lv_at hl 0 rfl) ?_
  refine lv_iload_n hx hb dX1_worthOf_1 rfl (lv_at hl 1 rfl) ?_
  refine xx_callq (vx_runV (As := [.int t]) (rest := []) ⟨hx, hb, hml, hown, hts⟩ (k_X1_slotOf l D ax ar ad cO H.size σ t hfl) (cwV 1 hts gX1_worthOf_X1_slotOf rfl rfl rfl (by decide +kernel) ⟨Nat.le_of_ble_eq_true rfl, Nat.le_of_ble_eq_true rfl⟩) (xPreV xE_ok hE hK hA hP hD hS (q0 := 0) (ci := 1) rfl rfl rfl) rfl rfl hl.1 rfl (lv_room (Nat.le_of_ble_eq_true rfl)) dX1_worthOf_2 ⟨Nat.le_of_ble_eq_true rfl, Nat.le_of_ble_eq_true rfl⟩) hD hS hA (fun En ce q9 H locs hxc hP hS hq9 hv9 hcl9 => ?_) (fun r u H locs hp hP hD hS => ?_)
  · exact xx_out htab hlocks hK hq9 hv9 hcl9 hP hD hS (hxc) (Nat.le_of_ble_eq_true rfl) (Nat.le_of_ble_eq_true rfl)
  obtain ⟨hT, hq, hu9⟩ := hp
  rw [hu9] at hP hD
  obtain ⟨k, hk, rfl⟩ := isT_nI hT
  obtain rfl := hq k hk rfl
  have hl : lv_has ls 3 [(0, .ref ax), (1, .int (nI k))] := hl
  refine W.eq (g2 := F0 m 5 ls [.ref (ad k)]) rfl ?_
  · refine lv_astore_n (lv' := [(2, .ref (ad k)), (0, .ref ax), (1, .int (nI k))]) hx hb dX1_worthOf_5 rfl hl (by decide) rfl (fun ls hl => ?_)
    refine lv_aload_n hx hb dX1_worthOf_6 rfl (lv_at hl 0 rfl) ?_
    refine s_get hx hb hts hi0 hown hK hE hP hk 1 (by decide) rfl (v := .int (bI (gB σ 1 k))) rfl dX1_worthOf_7 (fun _ h => h) ?_
    refine x_ifeq (tgt := 20) hx hb dX1_worthOf_10 (by decide) (fun c_1 => ?_) (fun c_1 => ?_)
    · refine lv_ldc2 (v := (-1)) hx hb hown (hts _ (List.mem_of_getElem? (i := 1) rfl)) dX1_worthOf_20 ?_
      refine vx_ret ?_
      refine W.widen (k := 1) (n := 6) (by decide) (by decide) ?_
      exact x_lret hx hb hr hlocks hK (σ) hP hD hS ⟨hT, fun j hj e9 => by rw [← nI_inj32 hk hj e9]; simp [c_1], rfl⟩ dX1_worthOf_23
    · refine lv_aload_n hx hb dX1_worthOf_13 rfl (lv_at hl 0 rfl) ?_
      refine s_get hx hb hts hi0 hown hK hE hP hk 6 (by decide) rfl (v := .long (gT σ 6 k)) rfl dX1_worthOf_14 (fun _ h => h) ?_
      refine lv_goto (tgt := 23) hx hb dX1_worthOf_17 (by decide) ?_
      refine vx_ret ?_
      refine W.widen (k := 1) (n := 6) (by decide) (by decide) ?_
      exact x_lret hx hb hr hlocks hK (σ) hP hD hS ⟨hT, fun j hj e9 => by rw [← nI_inj32 hk hj e9]; simp [c_1], rfl⟩ dX1_worthOf_23
set_option maxHeartbeats 4000000 in
set_option maxRecDepth 100000 in
theorem k_X1_endOf (l : Launch) (D : va_G) (ax ar : Nat) (ad : Nat → Nat) (cO : ClassId) (sz : Nat) (σ : St) (t : Int32) (hfl : l.stackTraces = false) : vx_Met l yX1_endOf wsX1_endOf ({ frames := 7, cells := 1, slots := 6, locals := 120 } : Room) (va_Pc [.ref ax, .int t] (xPre D (cT cO) xE (cW ax ar ad cO) σ sz)) (va_Qi (fun (r : Int32) (u : St) => isT t = true ∧ (∀ k, k < 32 → t = nI k → r = if gB σ 1 k then gS σ 5 k else -1) ∧ u = σ) (xB D (cT cO) (cW ax ar ad cO) (va_A (cW ax ar ad cO σ) sz)) (va_A (cW ax ar ad cO σ) sz)) (xXC D (cT cO) (cW ax ar ad cO) (va_A (cW ax ar ad cO σ) sz) σ (fun En => En = xIO ∧ isT t = false)) 1 6 (va_A (cW ax ar ad cO σ) sz) := by
  refine xxOpen (w := (cW ax ar ad cO)) (σ := σ) (cc := cX1_endOf) (maxL := 3) (ret := some .int) (QQ := fun A => va_Qi (fun (r : Int32) (u : St) => isT t = true ∧ (∀ k, k < 32 → t = nI k → r = if gB σ 1 k then gS σ 5 k else -1) ∧ u = σ) (xB D (cT cO) (cW ax ar ad cO) A) A) (XX := fun A => xXC D (cT cO) (cW ax ar ad cO) A σ (fun En => En = xIO ∧ isT t = false)) (by decide) rfl (Nat.le_of_ble_eq_true rfl) ?_
  intro p e s m below meth c A hx hb hr hml hown hts hlocks htab hK hE hA hP hD hS ls hl
  have hl : lv_has ls 3 [(0, .ref ax), (1, .int t)] := hl
  have hown : s.vm.findClass RX1 = some m.cls := hown
  have hi0 : ∀ w ∈ wsX00, w ∈ wsX1_endOf := (fun _ h => List.mem_cons_of_mem _ (List.mem_append_left _ (List.mem_append_left _ (List.mem_append_right _ h))))
  have hi1 : ∀ w ∈ wsX10, w ∈ wsX1_endOf := (fun _ h => List.mem_cons_of_mem _ (List.mem_append_left _ (List.mem_append_right _ h)))
  generalize hH : s.heap = H at hP
  have hS : va_S A s.heap H [] := by rw [← hH]; exact va_S.rf
  generalize hlo : ([] : List Loc) = locs at hS
  refine lv_aload_n hx hb dX1_endOf_0 rfl (lv_at hl 0 rfl) ?_
  refine lv_iload_n hx hb dX1_endOf_1 rfl (lv_at hl 1 rfl) ?_
  refine xx_callq (vx_runV (As := [.int t]) (rest := []) ⟨hx, hb, hml, hown, hts⟩ (k_X1_slotOf l D ax ar ad cO H.size σ t hfl) (cwV 1 hts gX1_endOf_X1_slotOf rfl rfl rfl (by decide +kernel) ⟨Nat.le_of_ble_eq_true rfl, Nat.le_of_ble_eq_true rfl⟩) (xPreV xE_ok hE hK hA hP hD hS (q0 := 0) (ci := 1) rfl rfl rfl) rfl rfl hl.1 rfl (lv_room (Nat.le_of_ble_eq_true rfl)) dX1_endOf_2 ⟨Nat.le_of_ble_eq_true rfl, Nat.le_of_ble_eq_true rfl⟩) hD hS hA (fun En ce q9 H locs hxc hP hS hq9 hv9 hcl9 => ?_) (fun r u H locs hp hP hD hS => ?_)
  · exact xx_out htab hlocks hK hq9 hv9 hcl9 hP hD hS (hxc) (Nat.le_of_ble_eq_true rfl) (Nat.le_of_ble_eq_true rfl)
  obtain ⟨hT, hq, hu9⟩ := hp
  rw [hu9] at hP hD
  obtain ⟨k, hk, rfl⟩ := isT_nI hT
  obtain rfl := hq k hk rfl
  have hl : lv_has ls 3 [(0, .ref ax), (1, .int (nI k))] := hl
  refine W.eq (g2 := F0 m 5 ls [.ref (ad k)]) rfl ?_
  · refine lv_astore_n (lv' := [(2, .ref (ad k)), (0, .ref ax), (1, .int (nI k))]) hx hb dX1_endOf_5 rfl hl (by decide) rfl (fun ls hl => ?_)
    refine lv_aload_n hx hb dX1_endOf_6 rfl (lv_at hl 0 rfl) ?_
    refine s_get hx hb hts hi0 hown hK hE hP hk 1 (by decide) rfl (v := .int (bI (gB σ 1 k))) rfl dX1_endOf_7 (fun _ h => h) ?_
    refine x_ifeq (tgt := 20) hx hb dX1_endOf_10 (by decide) (fun c_1 => ?_) (fun c_1 => ?_)
    · refine lv_iconst (v := (-1)) hx hb dX1_endOf_20 (by decide) ?_
      refine vx_ret ?_
      refine W.widen (k := 1) (n := 6) (by decide) (by decide) ?_
      exact x_iret hx hb hr hlocks hK (σ) hP hD hS ⟨hT, fun j hj e9 => by rw [← nI_inj32 hk hj e9]; simp [c_1], rfl⟩ dX1_endOf_21
    · refine lv_aload_n hx hb dX1_endOf_13 rfl (lv_at hl 0 rfl) ?_
      refine s_get hx hb hts hi0 hown hK hE hP hk 5 (by decide) rfl (v := .int (gS σ 5 k)) rfl dX1_endOf_14 (fun _ h => h) ?_
      refine lv_goto (tgt := 21) hx hb dX1_endOf_17 (by decide) ?_
      refine vx_ret ?_
      refine W.widen (k := 1) (n := 6) (by decide) (by decide) ?_
      exact x_iret hx hb hr hlocks hK (σ) hP hD hS ⟨hT, fun j hj e9 => by rw [← nI_inj32 hk hj e9]; simp [c_1], rfl⟩ dX1_endOf_21
set_option maxHeartbeats 4000000 in
set_option maxRecDepth 100000 in
theorem k_X1_pin (l : Launch) (D : va_G) (ax ar : Nat) (ad : Nat → Nat) (cO : ClassId) (sz : Nat) (σ : St) (t : Int32) (b : Bool) (hfl : l.stackTraces = false) : vx_Met l yX1_pin wsX1_pin ({ frames := 8, cells := 2, slots := 12, locals := 150 } : Room) (va_Pc [.ref ax, .int t, .int (bI b)] (xPre D (cT cO) xE (cW ax ar ad cO) σ sz)) (va_Qi (fun (r : Int32) (u : St) => isT t = true ∧ (∀ k, k < 32 → t = nI k → gB σ 1 k = true ∧ r = bI (gB σ 2 k) ∧ u = uB σ 2 k b)) (xB D (cT cO) (cW ax ar ad cO) (va_A (cW ax ar ad cO σ) sz)) (va_A (cW ax ar ad cO σ) sz)) (xXC D (cT cO) (cW ax ar ad cO) (va_A (cW ax ar ad cO σ) sz) σ (fun En => (En = xIO ∧ isT t = false) ∨ (En = xIS ∧ isT t = true ∧ ∀ k, k < 32 → t = nI k → gB σ 1 k = false))) 2 12 (va_A (cW ax ar ad cO σ) sz) := by
  refine xxOpen (w := (cW ax ar ad cO)) (σ := σ) (cc := cX1_pin) (maxL := 5) (ret := some .boolean) (QQ := fun A => va_Qi (fun (r : Int32) (u : St) => isT t = true ∧ (∀ k, k < 32 → t = nI k → gB σ 1 k = true ∧ r = bI (gB σ 2 k) ∧ u = uB σ 2 k b)) (xB D (cT cO) (cW ax ar ad cO) A) A) (XX := fun A => xXC D (cT cO) (cW ax ar ad cO) A σ (fun En => (En = xIO ∧ isT t = false) ∨ (En = xIS ∧ isT t = true ∧ ∀ k, k < 32 → t = nI k → gB σ 1 k = false))) (by decide) rfl (Nat.le_of_ble_eq_true rfl) ?_
  intro p e s m below meth c A hx hb hr hml hown hts hlocks htab hK hE hA hP hD hS ls hl
  have hl : lv_has ls 5 [(0, .ref ax), (1, .int t), (2, .int (bI b))] := hl
  have hown : s.vm.findClass RX1 = some m.cls := hown
  have hi0 : ∀ w ∈ wsX00, w ∈ wsX1_pin := (fun _ h => List.mem_cons_of_mem _ (List.mem_append_left _ (List.mem_append_left _ (List.mem_append_left _ (List.mem_append_right _ h)))))
  have hi1 : ∀ w ∈ wsX10, w ∈ wsX1_pin := (fun _ h => List.mem_cons_of_mem _ (List.mem_append_left _ (List.mem_append_left _ (List.mem_append_right _ h))))
  generalize hH : s.heap = H at hP
  have hS : va_S A s.heap H [] := by rw [← hH]; exact va_S.rf
  generalize hlo : ([] : List Loc) = locs at hS
  refine lv_aload_n hx hb dX1_pin_0 rfl (lv_at hl 0 rfl) ?_
  refine lv_iload_n hx hb dX1_pin_1 rfl (lv_at hl 1 rfl) ?_
  refine xx_callq (vx_runV (As := [.int t]) (rest := []) ⟨hx, hb, hml, hown, hts⟩ (k_X1_filledSlotOf l D ax ar ad cO H.size σ t hfl) (cwV 1 hts gX1_pin_X1_filledSlotOf rfl rfl rfl (by decide +kernel) ⟨Nat.le_of_ble_eq_true rfl, Nat.le_of_ble_eq_true rfl⟩) (xPreV xE_ok hE hK hA hP hD hS (q0 := 0) (ci := 1) rfl rfl rfl) rfl rfl hl.1 rfl (lv_room (Nat.le_of_ble_eq_true rfl)) dX1_pin_2 ⟨Nat.le_of_ble_eq_true rfl, Nat.le_of_ble_eq_true rfl⟩) hD hS hA (fun En ce q9 H locs hxc hP hS hq9 hv9 hcl9 => ?_) (fun r u H locs hp hP hD hS => ?_)
  · exact xx_out htab hlocks hK hq9 hv9 hcl9 hP hD hS (hxc) (Nat.le_of_ble_eq_true rfl) (Nat.le_of_ble_eq_true rfl)
  obtain ⟨hT, hq, hu9⟩ := hp
  rw [hu9] at hP hD
  obtain ⟨k, hk, rfl⟩ := isT_nI hT
  obtain ⟨hF, rfl⟩ := hq k hk rfl
  have hl : lv_has ls 5 [(0, .ref ax), (1, .int (nI k)), (2, .int (bI b))] := hl
  refine W.eq (g2 := F0 m 5 ls [.ref (ad k)]) rfl ?_
  · refine lv_astore_n (lv' := [(3, .ref (ad k)), (0, .ref ax), (1, .int (nI k)), (2, .int (bI b))]) hx hb dX1_pin_5 rfl hl (by decide) rfl (fun ls hl => ?_)
    refine lv_aload_n hx hb dX1_pin_6 rfl (lv_at hl 0 rfl) ?_
    refine s_get hx hb hts hi0 hown hK hE hP hk 2 (by decide) rfl (v := .int (bI (gB σ 2 k))) rfl dX1_pin_7 (fun _ h => h) ?_
    refine lv_istore (lv' := [(4, .int (bI (gB σ 2 k))), (3, .ref (ad k)), (0, .ref ax), (1, .int (nI k)), (2, .int (bI b))]) hx hb dX1_pin_10 hl (by decide) rfl (fun ls hl => ?_)
    refine lv_aload_n hx hb dX1_pin_12 rfl (lv_at hl 1 rfl) ?_
    refine lv_iload_n hx hb dX1_pin_13 rfl (lv_at hl 4 rfl) ?_
    refine s_put hx hb hts hi0 hown hK hE hP hD hS hk 2 (by decide) rfl (v := .int (bI b)) (ty := .boolean) (uB σ 2 k b) ((sF_self σ k).2.2.2.2.2.2.2 _) (fun i9 hi9 => (sF_other σ hi9).2.2.2.2.2.2.2 _) (cF_uB _ _ _ _ _) rfl (by decide +kernel) (bI_nar _) (bI_fit _) dX1_pin_14 (fun _ h => h) (fun H locs hP hD hS => ?_)
    refine lv_iload hx hb dX1_pin_17 (lv_at hl 0 rfl) ?_
    refine vx_ret ?_
    refine W.widen (k := 2) (n := 12) (by decide) (by decide) ?_
    exact x_zret (b := gB σ 2 k) hx hb hr hlocks hK (uB σ 2 k b) hP hD hS ⟨hT, fun j hj e9 => by rw [← nI_inj32 hk hj e9]; exact ⟨hF, rfl, rfl⟩⟩ dX1_pin_19
