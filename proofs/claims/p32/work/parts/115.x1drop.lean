set_option maxHeartbeats 4000000 in
set_option maxRecDepth 100000 in
theorem k_X1_drop (l : Launch) (D : va_G) (ax ar : Nat) (ad : Nat → Nat) (cO : ClassId) (sz : Nat) (σ : St) (t : Int32) (hfl : l.stackTraces = false) : vx_Met l yX1_drop wsX1_drop ({ frames := 8, cells := 2, slots := 12, locals := 150 } : Room) (va_Pc [.ref ax, .int t] (xPre D (cT cO) xE (cW ax ar ad cO) σ sz)) (va_Qi (fun (r : Int32) (u : St) => isT t = true ∧ (∀ k, k < 32 → t = nI k → gB σ 1 k = true ∧ r = gS σ 3 k ∧ u = uB σ 1 k false)) (xB D (cT cO) (cW ax ar ad cO) (va_A (cW ax ar ad cO σ) sz)) (va_A (cW ax ar ad cO σ) sz)) (xXC D (cT cO) (cW ax ar ad cO) (va_A (cW ax ar ad cO σ) sz) σ (fun En => (En = xIO ∧ isT t = false) ∨ (En = xIS ∧ isT t = true ∧ ∀ k, k < 32 → t = nI k → gB σ 1 k = false))) 2 12 (va_A (cW ax ar ad cO σ) sz) := by
  refine xxOpen (w := (cW ax ar ad cO)) (σ := σ) (cc := cX1_drop) (maxL := 3) (ret := some .int) (QQ := fun A => va_Qi (fun (r : Int32) (u : St) => isT t = true ∧ (∀ k, k < 32 → t = nI k → gB σ 1 k = true ∧ r = gS σ 3 k ∧ u = uB σ 1 k false)) (xB D (cT cO) (cW ax ar ad cO) A) A) (XX := fun A => xXC D (cT cO) (cW ax ar ad cO) A σ (fun En => (En = xIO ∧ isT t = false) ∨ (En = xIS ∧ isT t = true ∧ ∀ k, k < 32 → t = nI k → gB σ 1 k = false))) (by decide) rfl (Nat.le_of_ble_eq_true rfl) ?_
  intro p e s m below meth c A hx hb hr hml hown hts hlocks htab hK hE hA hP hD hS ls hl
  have hl : lv_has ls 3 [(0, .ref ax), (1, .int t)] := hl
  have hown : s.vm.findClass RX1 = some m.cls := hown
  have hi0 : ∀ w ∈ wsX00, w ∈ wsX1_drop := (fun _ h => List.mem_cons_of_mem _ (List.mem_append_left _ (List.mem_append_left _ (List.mem_append_left _ (List.mem_append_right _ h)))))
  have hi1 : ∀ w ∈ wsX10, w ∈ wsX1_drop := (fun _ h => List.mem_cons_of_mem _ (List.mem_append_left _ (List.mem_append_left _ (List.mem_append_right _ h))))
  generalize hH : s.heap = H at hP
  have hS : va_S A s.heap H [] := by rw [← hH]; exact va_S.rf
  generalize hlo : ([] : List Loc) = locs at hS
  refine lv_aload_n hx hb dX1_drop_0 rfl (lv_at hl 0 rfl) ?_
  refine lv_iload_n hx hb dX1_drop_1 rfl (lv_at hl 1 rfl) ?_
  refine xx_callq (vx_runV (As := [.int t]) (rest := []) ⟨hx, hb, hml, hown, hts⟩ (k_X1_filledSlotOf l D ax ar ad cO H.size σ t hfl) (cwV 1 hts gX1_drop_X1_filledSlotOf rfl rfl rfl (by decide +kernel) ⟨Nat.le_of_ble_eq_true rfl, Nat.le_of_ble_eq_true rfl⟩) (xPreV xE_ok hE hK hA hP hD hS (q0 := 0) (ci := 1) rfl rfl rfl) rfl rfl hl.1 rfl (lv_room (Nat.le_of_ble_eq_true rfl)) dX1_drop_2 ⟨Nat.le_of_ble_eq_true rfl, Nat.le_of_ble_eq_true rfl⟩) hD hS hA (fun En ce q9 H locs hxc hP hS hq9 hv9 hcl9 => ?_) (fun r u H locs hp hP hD hS => ?_)
  · exact xx_out htab hlocks hK hq9 hv9 hcl9 hP hD hS (hxc) (Nat.le_of_ble_eq_true rfl) (Nat.le_of_ble_eq_true rfl)
  obtain ⟨hT, hq, hu9⟩ := hp
  rw [hu9] at hP hD
  obtain ⟨k, hk, rfl⟩ := isT_nI hT
  obtain ⟨hF, rfl⟩ := hq k hk rfl
  have hl : lv_has ls 3 [(0, .ref ax), (1, .int (nI k))] := hl
  refine W.eq (g2 := F0 m 5 ls [.ref (ad k)]) rfl ?_
  · refine lv_astore_n (lv' := [(2, .ref (ad k)), (0, .ref ax), (1, .int (nI k))]) hx hb dX1_drop_5 rfl hl (by decide) rfl (fun ls hl => ?_)
    refine lv_aload_n hx hb dX1_drop_6 rfl (lv_at hl 0 rfl) ?_
    refine lv_iconst (v := 0) hx hb dX1_drop_7 (by decide) ?_
    refine s_put hx hb hts hi0 hown hK hE hP hD hS hk 1 (by decide) rfl (v := .int (bI false)) (ty := .boolean) (uB σ 1 k false) ((sF_self σ k).2.2.2.2.2.2.1 _) (fun i9 hi9 => (sF_other σ hi9).2.2.2.2.2.2.1 _) (cF_uB _ _ _ _ _) rfl (by decide +kernel) (bI_nar _) (bI_fit _) dX1_drop_8 (fun _ h => h) (fun H locs hP hD hS => ?_)
    refine lv_aload_n hx hb dX1_drop_11 rfl (lv_at hl 0 rfl) ?_
    refine s_get hx hb hts hi0 hown hK hE hP hk 3 (by decide) rfl (v := .int (gS σ 3 k)) rfl dX1_drop_12 (fun _ h => h) ?_
    refine vx_ret ?_
    refine W.widen (k := 2) (n := 12) (by decide) (by decide) ?_
    exact x_iret hx hb hr hlocks hK (uB σ 1 k false) hP hD hS ⟨hT, fun j hj e9 => by rw [← nI_inj32 hk hj e9]; exact ⟨hF, rfl, rfl⟩⟩ dX1_drop_15
set_option maxHeartbeats 4000000 in
set_option maxRecDepth 100000 in
theorem k_X1_wouldLeave (l : Launch) (D : va_G) (ax ar : Nat) (ad : Nat → Nat) (cO : ClassId) (sz : Nat) (σ : St) (t : Int32) (hfl : l.stackTraces = false) : vx_Met l yX1_wouldLeave wsX1_wouldLeave ({ frames := 7, cells := 1, slots := 6, locals := 150 } : Room) (va_Pc [.ref ax, .int t] (xPre D (cT cO) xE (cW ax ar ad cO) σ sz)) (va_Qi (fun (r : Int32) (u : St) => inR t 1 1000 = true ∧ r = cWould σ t ∧ u = σ) (xB D (cT cO) (cW ax ar ad cO) (va_A (cW ax ar ad cO σ) sz)) (va_A (cW ax ar ad cO σ) sz)) (xXC D (cT cO) (cW ax ar ad cO) (va_A (cW ax ar ad cO σ) sz) σ (fun En => En = xIA ∧ inR t 1 1000 = false)) 1 6 (va_A (cW ax ar ad cO σ) sz) := by
  refine xxOpen (w := (cW ax ar ad cO)) (σ := σ) (cc := cX1_wouldLeave) (maxL := 2) (ret := some .int) (QQ := fun A => va_Qi (fun (r : Int32) (u : St) => inR t 1 1000 = true ∧ r = cWould σ t ∧ u = σ) (xB D (cT cO) (cW ax ar ad cO) A) A) (XX := fun A => xXC D (cT cO) (cW ax ar ad cO) A σ (fun En => En = xIA ∧ inR t 1 1000 = false)) (by decide) rfl (Nat.le_of_ble_eq_true rfl) ?_
  intro p e s m below meth c A hx hb hr hml hown hts hlocks htab hK hE hA hP hD hS ls hl
  have hl : lv_has ls 2 [(0, .ref ax), (1, .int t)] := hl
  have hown : s.vm.findClass RX1 = some m.cls := hown
  have hi0 : ∀ w ∈ wsX00, w ∈ wsX1_wouldLeave := (fun _ h => List.mem_cons_of_mem _ (List.mem_append_left _ (List.mem_append_right _ h)))
  have hi1 : ∀ w ∈ wsX10, w ∈ wsX1_wouldLeave := (fun _ h => List.mem_cons_of_mem _ (List.mem_append_left _ (List.mem_append_left _ (List.mem_append_right _ h))))
  generalize hH : s.heap = H at hP
  have hS : va_S A s.heap H [] := by rw [← hH]; exact va_S.rf
  generalize hlo : ([] : List Loc) = locs at hS
  refine lv_iload_n hx hb dX1_wouldLeave_0 rfl (lv_at hl 1 rfl) ?_
  refine lv_iconst (v := 1) hx hb dX1_wouldLeave_1 (by decide) ?_
  refine lv_sipush (v := 1000) hx hb dX1_wouldLeave_2 (by decide) ?_
  refine xx_callv (vx_runS (As := [.int t, .int 1, .int 1000]) (rest := []) ⟨hx, hb, hml, hown, hts⟩ (k_X1_requireWithin l D ax ar ad cO H.size σ t 1 1000 hfl) (va_cwS 3 hts gX1_wouldLeave_X1_requireWithin rfl rfl rfl (by decide +kernel) ⟨Nat.le_of_ble_eq_true rfl, Nat.le_of_ble_eq_true rfl⟩) (xPreS xE_ok hE hK hA hP hD hS) rfl rfl hl.1 rfl (lv_room (Nat.le_of_ble_eq_true rfl)) dX1_wouldLeave_5 ⟨Nat.le_of_ble_eq_true rfl, Nat.le_of_ble_eq_true rfl⟩) hD hS hA (fun En ce q9 H locs hxc hP hS hq9 hv9 hcl9 => ?_) (fun u H locs hp hP hD hS => ?_)
  · exact xx_out htab hlocks hK hq9 hv9 hcl9 hP hD hS (hxc) (Nat.le_of_ble_eq_true rfl) (Nat.le_of_ble_eq_true rfl)
  obtain ⟨v_1, hu9⟩ := hp
  rw [hu9] at hP hD
  · refine lv_iload_n hx hb dX1_wouldLeave_8 rfl (lv_at hl 1 rfl) ?_
    refine lv_aload_n hx hb dX1_wouldLeave_9 rfl (lv_at hl 0 rfl) ?_
    refine c_get hx hb hts hi1 hown hK hP 3 (by decide) (List.mem_of_getElem? (i := 1) rfl) (v := .int (gI σ 3)) rfl dX1_wouldLeave_10 (fun _ h => h) ?_
    refine lv_aload_n hx hb dX1_wouldLeave_13 rfl (lv_at hl 0 rfl) ?_
    refine x_calli (va_runV (As := []) (rest := [.int (gI σ 3), .int t]) ⟨hx, hb, hml, hown, hts⟩ (k_X1_bytesThatCannotLeave l D ax ar ad cO H.size σ) (cwV 0 hts gX1_wouldLeave_X1_bytesThatCannotLeave rfl rfl rfl (by decide +kernel) ⟨Nat.le_of_ble_eq_true rfl, Nat.le_of_ble_eq_true rfl⟩) (xPreV xE_ok hE hK hA hP hD hS (q0 := 0) (ci := 1) rfl rfl rfl) rfl rfl hl.1 rfl (lv_room (Nat.le_of_ble_eq_true rfl)) dX1_wouldLeave_14 ⟨Nat.le_of_ble_eq_true rfl, Nat.le_of_ble_eq_true rfl⟩) hD hS hA (fun r u H locs hp hP hD hS => ?_)
    obtain ⟨rfl, hu9⟩ := hp
    rw [hu9] at hP hD
    refine lv_isub hx hb dX1_wouldLeave_17 ?_
    refine x_icmp_le (tgt := 25) hx hb dX1_wouldLeave_18 (by decide) (fun c_2 => ?_) (fun c_2 => ?_)
    · refine lv_aload_n hx hb dX1_wouldLeave_25 rfl (lv_at hl 0 rfl) ?_
      refine lv_iload_n hx hb dX1_wouldLeave_26 rfl (lv_at hl 1 rfl) ?_
      refine x_calli (va_runV (As := [.int t]) (rest := []) ⟨hx, hb, hml, hown, hts⟩ (k_X1_countThatWouldLeave l D ax ar ad cO H.size σ t) (cwV 1 hts gX1_wouldLeave_X1_countThatWouldLeave rfl rfl rfl (by decide +kernel) ⟨Nat.le_of_ble_eq_true rfl, Nat.le_of_ble_eq_true rfl⟩) (xPreV xE_ok hE hK hA hP hD hS (q0 := 0) (ci := 1) rfl rfl rfl) rfl rfl hl.1 rfl (lv_room (Nat.le_of_ble_eq_true rfl)) dX1_wouldLeave_27 ⟨Nat.le_of_ble_eq_true rfl, Nat.le_of_ble_eq_true rfl⟩) hD hS hA (fun r u H locs hp hP hD hS => ?_)
      obtain ⟨rfl, hu9⟩ := hp
      rw [hu9] at hP hD
      refine vx_ret ?_
      refine W.widen (k := 1) (n := 6) (by decide) (by decide) ?_
      exact x_iret hx hb hr hlocks hK (σ) hP hD hS ⟨v_1, by simp [cWould, c_2], rfl⟩ dX1_wouldLeave_30
    · refine lv_iconst (v := (-1)) hx hb dX1_wouldLeave_21 (by decide) ?_
      refine lv_goto (tgt := 30) hx hb dX1_wouldLeave_22 (by decide) ?_
      refine vx_ret ?_
      refine W.widen (k := 1) (n := 6) (by decide) (by decide) ?_
      exact x_iret hx hb hr hlocks hK (σ) hP hD hS ⟨v_1, by simp [cWould, c_2], rfl⟩ dX1_wouldLeave_30
set_option maxHeartbeats 4000000 in
set_option maxRecDepth 100000 in
theorem k_X1_placeOf (l : Launch) (D : va_G) (ax ar : Nat) (ad : Nat → Nat) (cO : ClassId) (sz : Nat) (σ : St) (t : Int32) (hfl : l.stackTraces = false) : vx_Met l yX1_placeOf wsX1_placeOf ({ frames := 7, cells := 1, slots := 6, locals := 150 } : Room) (va_Pc [.ref ax, .int t] (xPre D (cT cO) xE (cW ax ar ad cO) σ sz)) (va_Qi (fun (r : Int32) (u : St) => isT t = true ∧ (∀ k9, k9 < 32 → t = nI k9 → r = cPlace σ k9) ∧ u = σ) (xB D (cT cO) (cW ax ar ad cO) (va_A (cW ax ar ad cO σ) sz)) (va_A (cW ax ar ad cO σ) sz)) (xXC D (cT cO) (cW ax ar ad cO) (va_A (cW ax ar ad cO σ) sz) σ (fun En => En = xIO ∧ isT t = false)) 1 6 (va_A (cW ax ar ad cO σ) sz) := by
  refine xxOpen (w := (cW ax ar ad cO)) (σ := σ) (cc := cX1_placeOf) (maxL := 8) (ret := some .int) (QQ := fun A => va_Qi (fun (r : Int32) (u : St) => isT t = true ∧ (∀ k9, k9 < 32 → t = nI k9 → r = cPlace σ k9) ∧ u = σ) (xB D (cT cO) (cW ax ar ad cO) A) A) (XX := fun A => xXC D (cT cO) (cW ax ar ad cO) A σ (fun En => En = xIO ∧ isT t = false)) (by decide) rfl (Nat.le_of_ble_eq_true rfl) ?_
  intro p e s m below meth c A hx hb hr hml hown hts hlocks htab hK hE hA hP hD hS ls hl
  have hl : lv_has ls 8 [(0, .ref ax), (1, .int t)] := hl
  have hown : s.vm.findClass RX1 = some m.cls := hown
  have hi0 : ∀ w ∈ wsX00, w ∈ wsX1_placeOf := (fun _ h => List.mem_cons_of_mem _ (List.mem_append_left _ (List.mem_append_right _ h)))
  have hi1 : ∀ w ∈ wsX10, w ∈ wsX1_placeOf := (fun _ h => List.mem_cons_of_mem _ (List.mem_append_left _ (List.mem_append_left _ (List.mem_append_right _ h))))
  generalize hH : s.heap = H at hP
  have hS : va_S A s.heap H [] := by rw [← hH]; exact va_S.rf
  generalize hlo : ([] : List Loc) = locs at hS
  refine lv_aload_n hx hb dX1_placeOf_0 rfl (lv_at hl 0 rfl) ?_
  refine lv_iload_n hx hb dX1_placeOf_1 rfl (lv_at hl 1 rfl) ?_
  refine xx_callq (vx_runV (As := [.int t]) (rest := []) ⟨hx, hb, hml, hown, hts⟩ (k_X1_slotOf l D ax ar ad cO H.size σ t hfl) (cwV 1 hts gX1_placeOf_X1_slotOf rfl rfl rfl (by decide +kernel) ⟨Nat.le_of_ble_eq_true rfl, Nat.le_of_ble_eq_true rfl⟩) (xPreV xE_ok hE hK hA hP hD hS (q0 := 0) (ci := 1) rfl rfl rfl) rfl rfl hl.1 rfl (lv_room (Nat.le_of_ble_eq_true rfl)) dX1_placeOf_2 ⟨Nat.le_of_ble_eq_true rfl, Nat.le_of_ble_eq_true rfl⟩) hD hS hA (fun En ce q9 H locs hxc hP hS hq9 hv9 hcl9 => ?_) (fun r u H locs hp hP hD hS => ?_)
  · exact xx_out htab hlocks hK hq9 hv9 hcl9 hP hD hS (hxc) (Nat.le_of_ble_eq_true rfl) (Nat.le_of_ble_eq_true rfl)
  obtain ⟨hT, hq, hu9⟩ := hp
  rw [hu9] at hP hD
  obtain ⟨k, hk, rfl⟩ := isT_nI hT
  obtain rfl := hq k hk rfl
  have hl : lv_has ls 8 [(0, .ref ax), (1, .int (nI k))] := hl
  refine W.eq (g2 := F0 m 5 ls [.ref (ad k)]) rfl ?_
  · refine lv_astore_n (lv' := [(2, .ref (ad k)), (0, .ref ax), (1, .int (nI k))]) hx hb dX1_placeOf_5 rfl hl (by decide) rfl (fun ls hl => ?_)
    refine lv_aload_n hx hb dX1_placeOf_6 rfl (lv_at hl 0 rfl) ?_
    refine x_calli (va_runS (As := [.ref (ad k)]) (rest := []) ⟨hx, hb, hml, hown, hts⟩ (k_X1_isInOrder l D ax ar ad cO H.size σ hk) (va_cwS 1 hts gX1_placeOf_X1_isInOrder rfl rfl rfl (by decide +kernel) ⟨Nat.le_of_ble_eq_true rfl, Nat.le_of_ble_eq_true rfl⟩) (xPreS xE_ok hE hK hA hP hD hS) rfl rfl hl.1 rfl (lv_room (Nat.le_of_ble_eq_true rfl)) dX1_placeOf_7 ⟨Nat.le_of_ble_eq_true rfl, Nat.le_of_ble_eq_true rfl⟩) hD hS hA (fun r u H locs hp hP hD hS => ?_)
    obtain ⟨rfl, hu9⟩ := hp
    rw [hu9] at hP hD
    refine x_ifne (tgt := 15) hx hb dX1_placeOf_10 (by decide) (fun c_1 => ?_) (fun c_1 => ?_)
    · refine lv_iconst (v := 0) hx hb dX1_placeOf_15 (by decide) ?_
      refine lv_istore_n (lv' := [(3, .int 0), (2, .ref (ad k)), (0, .ref ax), (1, .int (nI k))]) hx hb dX1_placeOf_16 rfl hl (by decide) rfl (fun ls hl => ?_)
      refine lv_aload_n hx hb dX1_placeOf_17 rfl (lv_at hl 2 rfl) ?_
      refine c_get hx hb hts hi1 hown hK hP 0 (by decide) (List.mem_of_getElem? (i := 1) rfl) (v := .ref ar) rfl dX1_placeOf_18 (fun _ h => h) ?_
      refine lv_astore (lv' := [(4, .ref ar), (3, .int 0), (2, .ref (ad k)), (0, .ref ax), (1, .int (nI k))]) hx hb dX1_placeOf_21 hl (by decide) rfl (fun ls hl => ?_)
      refine lv_aload hx hb dX1_placeOf_23 (lv_at hl 0 rfl) ?_
      refine c_alen hx hb hK hP dX1_placeOf_25 ?_
      refine lv_istore (lv' := [(5, .int 32), (4, .ref ar), (3, .int 0), (2, .ref (ad k)), (0, .ref ax), (1, .int (nI k))]) hx hb dX1_placeOf_26 hl (by decide) rfl (fun ls hl => ?_)
      refine lv_iconst (v := 0) hx hb dX1_placeOf_28 (by decide) ?_
      refine lv_istore (lv' := [(6, .int 0), (5, .int 32), (4, .ref ar), (3, .int 0), (2, .ref (ad k)), (0, .ref ax), (1, .int (nI k))]) hx hb dX1_placeOf_29 hl (by decide) rfl (fun ls hl => ?_)
      have loop : ∀ (n i : Nat) (ls : Array Slot) (H : Heap) (locs : List Loc), i ≤ 32 → 32 - i < n → va_P D vwCl (cW ax ar ad cO (σ)) H → va_D A (cW ax ar ad cO (σ)) → va_S A s.heap H locs → lv_has ls 8 [(0, .ref ax), (1, .int (nI k)), (2, .ref (ad k)), (3, .int (sumI (placeF σ k) i)), (4, .ref ar), (5, .int 32), (6, .int (nI i))] → W p l e (headSpec wsX1_placeOf ({ frames := 7, cells := 1, slots := 6, locals := 150 } : Room)).room s m [.ref ax, .int (nI k)].toArray below meth c H locs 1 6 (vx_MQ below (va_Qi (fun (r : Int32) (u : St) => isT (nI k) = true ∧ (∀ k9, k9 < 32 → (nI k) = nI k9 → r = cPlace σ k9) ∧ u = σ) (xB D (cT cO) (cW ax ar ad cO) A) A) (xXC D (cT cO) (cW ax ar ad cO) A σ (fun En => En = xIO ∧ isT (nI k) = false)) [.ref ax, .int (nI k)].toArray s 1 6 A) (F0 m 31 ls []) := by
        intro n
        induction n with
        | zero =>
          intro i ls H locs h1 h2
          exact absurd h2 (by omega)
        | succ n ih =>
          intro i ls H locs hi hn hP hD hS hl
          refine lv_iload hx hb dX1_placeOf_31 (lv_at hl 6 rfl) ?_
          refine lv_iload hx hb dX1_placeOf_33 (lv_at hl 5 rfl) ?_
          refine x_icmp_ge (tgt := 71) hx hb dX1_placeOf_35 (by decide) (fun c_2 => ?_) (fun c_2 => ?_)
          · have hi9 : i = 32 := by
              rcases Nat.lt_or_ge i 32 with q | q
              · exact absurd ((nI_lt32 hi).mpr q) c_2
              · omega
            subst hi9
            refine lv_iload_n hx hb dX1_placeOf_71 rfl (lv_at hl 3 rfl) ?_
            refine vx_ret ?_
            refine W.widen (k := 1) (n := 6) (by decide) (by decide) ?_
            exact x_iret hx hb hr hlocks hK (σ) hP hD hS ⟨hT, fun j hj e9 => by rw [← nI_inj32 hk hj e9]; simp [cPlace, c_1], rfl⟩ dX1_placeOf_72
          · have hlt : i < 32 := (nI_lt32 hi).mp c_2
            refine lv_aload hx hb dX1_placeOf_38 (lv_at hl 4 rfl) ?_
            refine lv_iload hx hb dX1_placeOf_40 (lv_at hl 6 rfl) ?_
            refine c_aald hx hb hK hP hlt dX1_placeOf_42 ?_
            refine lv_astore (lv' := [(7, .ref (ad i)), (0, .ref ax), (1, .int (nI k)), (2, .ref (ad k)), (3, .int (sumI (placeF σ k) i)), (4, .ref ar), (5, .int 32), (6, .int (nI i))]) hx hb dX1_placeOf_43 hl (by decide) rfl (fun ls hl => ?_)
            refine lv_aload hx hb dX1_placeOf_45 (lv_at hl 0 rfl) ?_
            refine x_calli (va_runS (As := [.ref (ad i)]) (rest := []) ⟨hx, hb, hml, hown, hts⟩ (k_X1_isInOrder l D ax ar ad cO H.size σ hlt) (va_cwS 1 hts gX1_placeOf_X1_isInOrder rfl rfl rfl (by decide +kernel) ⟨Nat.le_of_ble_eq_true rfl, Nat.le_of_ble_eq_true rfl⟩) (xPreS xE_ok hE hK hA hP hD hS) rfl rfl hl.1 rfl (lv_room (Nat.le_of_ble_eq_true rfl)) dX1_placeOf_47 ⟨Nat.le_of_ble_eq_true rfl, Nat.le_of_ble_eq_true rfl⟩) hD hS hA (fun r u H locs hp hP hD hS => ?_)
            obtain ⟨rfl, hu9⟩ := hp
            rw [hu9] at hP hD
            refine x_ifeq (tgt := 65) hx hb dX1_placeOf_50 (by decide) (fun c_3 => ?_) (fun c_3 => ?_)
            · refine lv_iinc (v := (nI i) + 1) (lv' := [(6, .int ((nI i) + 1)), (7, .ref (ad i)), (0, .ref ax), (1, .int (nI k)), (2, .ref (ad k)), (3, .int (sumI (placeF σ k) i)), (4, .ref ar), (5, .int 32)]) hx hb dX1_placeOf_65 hl (k := 7) rfl rfl (by decide) rfl (fun ls hl => ?_)
              refine lv_goto (tgt := 31) hx hb dX1_placeOf_68 (by decide) ?_
              have e9_0 : sumI (placeF σ k) (i + 1) = sumI (placeF σ k) i := by simp [sumI, placeF, Int32.add_zero, c_1, c_2, c_3]
              exact ih (i + 1) ls H locs (by omega) (by omega) hP hD hS (by rw [e9_0, nI_succ]; exact lv_sub hl [2, 3, 4, 5, 6, 7, 0] rfl)
            · refine lv_aload hx hb dX1_placeOf_53 (lv_at hl 0 rfl) ?_
              refine lv_aload_n hx hb dX1_placeOf_55 rfl (lv_at hl 3 rfl) ?_
              refine x_calli (va_runS (As := [.ref (ad i), .ref (ad k)]) (rest := []) ⟨hx, hb, hml, hown, hts⟩ (k_X1_leavesBefore l D ax ar ad cO H.size σ hlt hk) (va_cwS 2 hts gX1_placeOf_X1_leavesBefore rfl rfl rfl (by decide +kernel) ⟨Nat.le_of_ble_eq_true rfl, Nat.le_of_ble_eq_true rfl⟩) (xPreS xE_ok hE hK hA hP hD hS) rfl rfl hl.1 rfl (lv_room (Nat.le_of_ble_eq_true rfl)) dX1_placeOf_56 ⟨Nat.le_of_ble_eq_true rfl, Nat.le_of_ble_eq_true rfl⟩) hD hS hA (fun r u H locs hp hP hD hS => ?_)
              obtain ⟨rfl, hu9⟩ := hp
              rw [hu9] at hP hD
              refine x_ifeq (tgt := 65) hx hb dX1_placeOf_59 (by decide) (fun c_4 => ?_) (fun c_4 => ?_)
              · refine lv_iinc (v := (nI i) + 1) (lv' := [(6, .int ((nI i) + 1)), (7, .ref (ad i)), (0, .ref ax), (1, .int (nI k)), (2, .ref (ad k)), (3, .int (sumI (placeF σ k) i)), (4, .ref ar), (5, .int 32)]) hx hb dX1_placeOf_65 hl (k := 7) rfl rfl (by decide) rfl (fun ls hl => ?_)
                refine lv_goto (tgt := 31) hx hb dX1_placeOf_68 (by decide) ?_
                have e9_0 : sumI (placeF σ k) (i + 1) = sumI (placeF σ k) i := by simp [sumI, placeF, Int32.add_zero, c_1, c_2, c_3, c_4]
                exact ih (i + 1) ls H locs (by omega) (by omega) hP hD hS (by rw [e9_0, nI_succ]; exact lv_sub hl [2, 3, 4, 5, 6, 7, 0] rfl)
              · refine lv_iinc (v := (sumI (placeF σ k) i) + 1) (lv' := [(3, .int ((sumI (placeF σ k) i) + 1)), (7, .ref (ad i)), (0, .ref ax), (1, .int (nI k)), (2, .ref (ad k)), (4, .ref ar), (5, .int 32), (6, .int (nI i))]) hx hb dX1_placeOf_62 hl (k := 4) rfl rfl (by decide) rfl (fun ls hl => ?_)
                refine lv_iinc (v := (nI i) + 1) (lv' := [(6, .int ((nI i) + 1)), (3, .int ((sumI (placeF σ k) i) + 1)), (7, .ref (ad i)), (0, .ref ax), (1, .int (nI k)), (2, .ref (ad k)), (4, .ref ar), (5, .int 32)]) hx hb dX1_placeOf_65 hl (k := 7) rfl rfl (by decide) rfl (fun ls hl => ?_)
                refine lv_goto (tgt := 31) hx hb dX1_placeOf_68 (by decide) ?_
                have e9_0 : sumI (placeF σ k) (i + 1) = (sumI (placeF σ k) i) + 1 := by simp [sumI, placeF, Int32.add_zero, c_1, c_2, c_3, c_4]
                exact ih (i + 1) ls H locs (by omega) (by omega) hP hD hS (by rw [e9_0, nI_succ]; exact lv_sub hl [3, 4, 5, 1, 6, 7, 0] rfl)
      exact loop 33 0 _ _ _ (Nat.zero_le _) (by decide) hP hD hS (lv_sub hl [5, 6, 4, 3, 2, 1, 0] rfl)
    · refine lv_iconst (v := (-1)) hx hb dX1_placeOf_13 (by decide) ?_
      refine vx_ret ?_
      refine W.widen (k := 1) (n := 6) (by decide) (by decide) ?_
      exact x_iret hx hb hr hlocks hK (σ) hP hD hS ⟨hT, fun j hj e9 => by rw [← nI_inj32 hk hj e9]; simp [cPlace, c_1], rfl⟩ dX1_placeOf_14
